section
set_option maxHeartbeats 2000000 in
set_option maxRecDepth 100000 in
theorem c_Odds_hasCell (l : Launch) (dC : Nat → ClassId) (dI : Nat → Nat → Nat) (cI cM cO : ClassId) (sz : Nat) (oo : Nat) (osg : Int32) (osm : Int32) (ofc : Int32) (oca : Nat) (opa : Nat) (ol : Nat) (ocf : Nat → Int32) (opl : Nat) (opf : Nat → Int32) (ii : Int32) (hol : ol ≤ 64) (hopl : opl ≤ 512) : MetI l y_Odds_hasCell (Cond.code y_Odds_hasCell prog_7_method_2_code 2 (some .boolean) :: gw) ({ frames := 0, cells := 0, slots := 0, locals := 0 } : Room) (dC, dI) vwCl (kT cI cM cO) [Value.ref oo, Value.int ii] [(oo, Sum.inr (7, [Value.int osg, Value.int osm, Value.int ofc, Value.ref oca, Value.ref opa])), (oca, Sum.inl (cI, ol, Sum.inl ocf)), (opa, Sum.inl (cI, opl, Sum.inl opf))] sz (fun (r : Int32) (u : Unit) => r ≠ 0 → vp_in ii ol) (fun (u : Unit) => [(oo, Sum.inr (7, [Value.int osg, Value.int osm, Value.int ofc, Value.ref oca, Value.ref opa])), (oca, Sum.inl (cI, ol, Sum.inl ocf)), (opa, Sum.inl (cI, opl, Sum.inl opf))]) 0 0 := by
  refine my_ofI (cc := prog_7_method_2_code) (n := 2) (ret := (some .boolean)) (by decide) rfl (Nat.le_of_ble_eq_true rfl) ?_
  intro p e s m args below meth c R Q A ls H locs hx hb hr hts hown hlocks hml hnm hR hQ hA hl hP hK hN hD hS
  have hg : ∀ w ∈ gw, w.before args s = true := fun w h => hts w (List.mem_cons_of_mem _ h)
  have hown : s.vm.findClass "RangeCoders$Odds" = some m.cls := hown
  have hl : lv_has ls 2 [(0, Value.ref oo), (1, Value.int ii)] := hl
  refine lv_iload_n hx hb d_Odds_hasCell_0 rfl (lv_at hl 1 rfl) ?_
  refine lv_aload_n hx hb d_Odds_hasCell_1 rfl (lv_at hl 0 rfl) ?_
  refine va_get (D := (dC, dI)) (ci := 7) (v := .int ofc) (C := "RangeCoders$Odds") (T := T_Odds) (N := 5) hx hb hg in_Odds hown hK hP 0 rfl rfl 2 (by decide) (hg _ k308) (fun _ h9 => h9) rfl d_Odds_hasCell_2 ?_
  refine lv_icmp_lt (tgt := 25) hx hb d_Odds_hasCell_5 (by decide) (fun c_1 => ?_) (fun c_1 => ?_)
  · refine lv_iconst (v := 0) hx hb d_Odds_hasCell_25 (by decide) ?_
    exact my_iret (v := 0) hx hb hr (rfl) hlocks hQ hK hS (Nat.le_refl _) (Nat.le_refl _) () (fun h9 => absurd rfl h9) (hP.sub [0, 1, 2] rfl) (hD.sub [0, 1, 2] (by decide +kernel) rfl) d_Odds_hasCell_26
  · refine lv_iload_n hx hb d_Odds_hasCell_8 rfl (lv_at hl 1 rfl) ?_
    refine lv_if_lt (tgt := 25) hx hb d_Odds_hasCell_9 (by decide) (fun c_2 => ?_) (fun c_2 => ?_)
    · refine lv_iconst (v := 0) hx hb d_Odds_hasCell_25 (by decide) ?_
      exact my_iret (v := 0) hx hb hr (rfl) hlocks hQ hK hS (Nat.le_refl _) (Nat.le_refl _) () (fun h9 => absurd rfl h9) (hP.sub [0, 1, 2] rfl) (hD.sub [0, 1, 2] (by decide +kernel) rfl) d_Odds_hasCell_26
    · refine lv_iload_n hx hb d_Odds_hasCell_12 rfl (lv_at hl 1 rfl) ?_
      refine lv_aload_n hx hb d_Odds_hasCell_13 rfl (lv_at hl 0 rfl) ?_
      refine va_get (D := (dC, dI)) (ci := 7) (v := .ref oca) (C := "RangeCoders$Odds") (T := T_Odds) (N := 5) hx hb hg in_Odds hown hK hP 0 rfl rfl 3 (by decide) (hg _ k309) (fun _ h9 => h9) rfl d_Odds_hasCell_14 ?_
      refine va_alen hx hb hK hP 1 0 rfl rfl (v := nI ol) rfl d_Odds_hasCell_17 ?_
      refine lv_icmp_ge (tgt := 25) hx hb d_Odds_hasCell_18 (by decide) (fun c_3 => ?_) (fun c_3 => ?_)
      · refine lv_iconst (v := 0) hx hb d_Odds_hasCell_25 (by decide) ?_
        exact my_iret (v := 0) hx hb hr (rfl) hlocks hQ hK hS (Nat.le_refl _) (Nat.le_refl _) () (fun h9 => absurd rfl h9) (hP.sub [0, 1, 2] rfl) (hD.sub [0, 1, 2] (by decide +kernel) rfl) d_Odds_hasCell_26
      · refine lv_iconst (v := 1) hx hb d_Odds_hasCell_21 (by decide) ?_
        refine lv_goto (tgt := 26) hx hb d_Odds_hasCell_22 (by decide) ?_
        exact my_iret (v := 1) hx hb hr (rfl) hlocks hQ hK hS (Nat.le_refl _) (Nat.le_refl _) () (fun _ => I_in' (by omega) (by assumption) (by assumption)) (hP.sub [0, 1, 2] rfl) (hD.sub [0, 1, 2] (by decide +kernel) rfl) d_Odds_hasCell_26
set_option maxHeartbeats 2000000 in
set_option maxRecDepth 100000 in
theorem c_Odds_at (l : Launch) (dC : Nat → ClassId) (dI : Nat → Nat → Nat) (cI cM cO : ClassId) (sz : Nat) (oo : Nat) (osg : Int32) (osm : Int32) (ofc : Int32) (oca : Nat) (opa : Nat) (ol : Nat) (ocf : Nat → Int32) (opl : Nat) (opf : Nat → Int32) (ii : Int32) (hol : ol ≤ 64) (hopl : opl ≤ 512) : MetI l y_Odds_at (Cond.code y_Odds_at prog_7_method_3_code 2 (some .int) :: gw) ({ frames := 1, cells := 0, slots := 0, locals := 21 } : Room) (dC, dI) vwCl (kT cI cM cO) [Value.ref oo, Value.int ii] [(oo, Sum.inr (7, [Value.int osg, Value.int osm, Value.int ofc, Value.ref oca, Value.ref opa])), (oca, Sum.inl (cI, ol, Sum.inl ocf)), (opa, Sum.inl (cI, opl, Sum.inl opf))] sz (fun (r : Int32) (u : Unit) => True) (fun (u : Unit) => [(oo, Sum.inr (7, [Value.int osg, Value.int osm, Value.int ofc, Value.ref oca, Value.ref opa])), (oca, Sum.inl (cI, ol, Sum.inl ocf)), (opa, Sum.inl (cI, opl, Sum.inl opf))]) 0 0 := by
  refine my_ofI (cc := prog_7_method_3_code) (n := 2) (ret := (some .int)) (by decide) rfl (Nat.le_of_ble_eq_true rfl) ?_
  intro p e s m args below meth c R Q A ls H locs hx hb hr hts hown hlocks hml hnm hR hQ hA hl hP hK hN hD hS
  have hg : ∀ w ∈ gw, w.before args s = true := fun w h => hts w (List.mem_cons_of_mem _ h)
  have hown : s.vm.findClass "RangeCoders$Odds" = some m.cls := hown
  have hl : lv_has ls 2 [(0, Value.ref oo), (1, Value.int ii)] := hl
  refine lv_aload_n hx hb d_Odds_at_0 rfl (lv_at hl 0 rfl) ?_
  refine lv_iload_n hx hb d_Odds_at_1 rfl (lv_at hl 1 rfl) ?_
  refine my_ci (wr := []) (va_runV (As := [Value.int ii]) (rest := []) ⟨hx, hb, hml, hown, hts⟩ (c_Odds_hasCell l dC dI cI cM cO H.size oo osg osm ofc oca opa ol ocf opl opf ii (by first | assumption | omega) (by first | assumption | omega)) (cwV 1 hts (my_gV k396 k397 k398 k14 k399) rfl rfl rfl cu_Odds_hasCell_1 ⟨by rw [hR]; exact Nat.le_of_ble_eq_true rfl, by rw [hR]; exact Nat.le_of_ble_eq_true rfl⟩) (my_preV hK hN (hP.sub [0, 1, 2] rfl) (hD.sub [0, 1, 2] (by decide +kernel) rfl) 0 rfl rfl) rfl rfl hl.1 rfl (lv_room (Nat.le_of_ble_eq_true rfl)) d_Odds_at_2 ⟨by rw [hR]; exact Nat.le_of_ble_eq_true rfl, by rw [hR]; exact Nat.le_of_ble_eq_true rfl⟩) hP hD hS hA [0, 1, 2] [] rfl rfl (by decide +kernel) (by decide +kernel) (fun r_2 u9 H locs hw_2 hP hD hS => ?_)
  have hr_2 : r_2 ≠ 0 → vp_in ii ol := hw_2
  have hPD : my_PD (dC, dI) vwCl A [(oo, Sum.inr (7, [Value.int osg, Value.int osm, Value.int ofc, Value.ref oca, Value.ref opa])), (oca, Sum.inl (cI, ol, Sum.inl ocf)), (opa, Sum.inl (cI, opl, Sum.inl opf))] H := ⟨hP, hD⟩
  have hP := hPD.1
  have hD := hPD.2
  refine lv_if_eq (tgt := 17) hx hb d_Odds_at_5 (by decide) (fun c_1 => ?_) (fun c_1 => ?_)
  · refine lv_iconst (v := 0) hx hb d_Odds_at_17 (by decide) ?_
    exact my_iret (v := 0) hx hb hr (rfl) hlocks hQ hK hS (Nat.le_refl _) (Nat.le_refl _) () (trivial) (hP.sub [0, 1, 2] rfl) (hD.sub [0, 1, 2] (by decide +kernel) rfl) d_Odds_at_18
  · refine lv_aload_n hx hb d_Odds_at_8 rfl (lv_at hl 0 rfl) ?_
    refine va_get (D := (dC, dI)) (ci := 7) (v := .ref oca) (C := "RangeCoders$Odds") (T := T_Odds) (N := 5) hx hb hg in_Odds hown hK hP 0 rfl rfl 3 (by decide) (hg _ k309) (fun _ h9 => h9) rfl d_Odds_at_9 ?_
    refine lv_iload_n hx hb d_Odds_at_12 rfl (lv_at hl 1 rfl) ?_
    refine va_iald hx hb hK hP 1 0 rfl rfl (hr_2 c_1) d_Odds_at_13 ?_
    refine lv_topi (fun v_2 ev_2 => ?_)
    refine lv_goto (tgt := 18) hx hb d_Odds_at_14 (by decide) ?_
    exact my_iret (v := v_2) hx hb hr (rfl) hlocks hQ hK hS (Nat.le_refl _) (Nat.le_refl _) () (trivial) (hP.sub [0, 1, 2] rfl) (hD.sub [0, 1, 2] (by decide +kernel) rfl) d_Odds_at_18
set_option maxHeartbeats 2000000 in
set_option maxRecDepth 100000 in
theorem c_Odds_grow (l : Launch) (dC : Nat → ClassId) (dI : Nat → Nat → Nat) (cI cM cO : ClassId) (sz : Nat) (oo : Nat) (osg : Int32) (osm : Int32) (ofc : Int32) (oca : Nat) (opa : Nat) (ol : Nat) (ocf : Nat → Int32) (opl : Nat) (opf : Nat → Int32) (ii : Int32) (vv : Int32) (hol : ol ≤ 64) (hopl : opl ≤ 512) : MetV l y_Odds_grow (Cond.code y_Odds_grow prog_7_method_4_code 3 none :: gw) ({ frames := 1, cells := 0, slots := 0, locals := 21 } : Room) (dC, dI) vwCl (kT cI cM cO) [Value.ref oo, Value.int ii, Value.int vv] [(oo, Sum.inr (7, [Value.int osg, Value.int osm, Value.int ofc, Value.ref oca, Value.ref opa])), (oca, Sum.inl (cI, ol, Sum.inl ocf)), (opa, Sum.inl (cI, opl, Sum.inl opf))] sz (fun (u : Int32 × (Nat → Int32)) => True) (fun (u : Int32 × (Nat → Int32)) => [(oo, Sum.inr (7, [Value.int osg, Value.int u.1, Value.int ofc, Value.ref oca, Value.ref opa])), (oca, Sum.inl (cI, ol, Sum.inl u.2)), (opa, Sum.inl (cI, opl, Sum.inl opf))]) 0 0 := by
  refine my_ofV (cc := prog_7_method_4_code) (n := 3) (ret := none) (by decide) rfl (Nat.le_of_ble_eq_true rfl) ?_
  intro p e s m args below meth c R Q A ls H locs hx hb hr hts hown hlocks hml hnm hR hQ hA hl hP hK hN hD hS
  have hg : ∀ w ∈ gw, w.before args s = true := fun w h => hts w (List.mem_cons_of_mem _ h)
  have hown : s.vm.findClass "RangeCoders$Odds" = some m.cls := hown
  have hl : lv_has ls 3 [(0, Value.ref oo), (1, Value.int ii), (2, Value.int vv)] := hl
  refine lv_aload_n hx hb d_Odds_grow_0 rfl (lv_at hl 0 rfl) ?_
  refine lv_iload_n hx hb d_Odds_grow_1 rfl (lv_at hl 1 rfl) ?_
  refine my_ci (wr := []) (va_runV (As := [Value.int ii]) (rest := []) ⟨hx, hb, hml, hown, hts⟩ (c_Odds_hasCell l dC dI cI cM cO H.size oo osg osm ofc oca opa ol ocf opl opf ii (by first | assumption | omega) (by first | assumption | omega)) (cwV 1 hts (my_gV k396 k397 k398 k14 k399) rfl rfl rfl cu_Odds_hasCell_1 ⟨by rw [hR]; exact Nat.le_of_ble_eq_true rfl, by rw [hR]; exact Nat.le_of_ble_eq_true rfl⟩) (my_preV hK hN (hP.sub [0, 1, 2] rfl) (hD.sub [0, 1, 2] (by decide +kernel) rfl) 0 rfl rfl) rfl rfl hl.1 rfl (lv_room (Nat.le_of_ble_eq_true rfl)) d_Odds_grow_2 ⟨by rw [hR]; exact Nat.le_of_ble_eq_true rfl, by rw [hR]; exact Nat.le_of_ble_eq_true rfl⟩) hP hD hS hA [0, 1, 2] [] rfl rfl (by decide +kernel) (by decide +kernel) (fun r_2 u9 H locs hw_2 hP hD hS => ?_)
  have hr_2 : r_2 ≠ 0 → vp_in ii ol := hw_2
  have hPD : my_PD (dC, dI) vwCl A [(oo, Sum.inr (7, [Value.int osg, Value.int osm, Value.int ofc, Value.ref oca, Value.ref opa])), (oca, Sum.inl (cI, ol, Sum.inl ocf)), (opa, Sum.inl (cI, opl, Sum.inl opf))] H := ⟨hP, hD⟩
  have hP := hPD.1
  have hD := hPD.2
  refine lv_if_eq (tgt := 28) hx hb d_Odds_grow_5 (by decide) (fun c_1 => ?_) (fun c_1 => ?_)
  · exact my_vret hx hb hr hlocks hQ hK hS (Nat.le_refl _) (Nat.le_refl _) (osm, ocf) (trivial) (hP.sub [0, 1, 2] rfl) (hD.sub [0, 1, 2] (by decide +kernel) rfl) d_Odds_grow_28
  · refine lv_aload_n hx hb d_Odds_grow_8 rfl (lv_at hl 0 rfl) ?_
    refine va_get (D := (dC, dI)) (ci := 7) (v := .ref oca) (C := "RangeCoders$Odds") (T := T_Odds) (N := 5) hx hb hg in_Odds hown hK hP 0 rfl rfl 3 (by decide) (hg _ k309) (fun _ h9 => h9) rfl d_Odds_grow_9 ?_
    refine lv_iload_n hx hb d_Odds_grow_12 rfl (lv_at hl 1 rfl) ?_
    refine lv_dup2_11 hx hb d_Odds_grow_13 rfl rfl ?_
    refine va_iald hx hb hK hP 1 0 rfl rfl (hr_2 c_1) d_Odds_grow_14 ?_
    refine lv_topi (fun v_2 ev_2 => ?_)
    refine lv_iload_n hx hb d_Odds_grow_15 rfl (lv_at hl 2 rfl) ?_
    refine lv_iadd hx hb d_Odds_grow_16 ?_
    refine lv_topi (fun v_3 ev_3 => ?_)
    refine va_iast hx hb hK hP hD hS 1 0 rfl rfl (hr_2 c_1) d_Odds_grow_17 (fun H locs hP hD hS => ?_)
    have hPD : my_PD (dC, dI) vwCl A [(oo, Sum.inr (7, [Value.int osg, Value.int osm, Value.int ofc, Value.ref oca, Value.ref opa])), (oca, Sum.inl (cI, ol, Sum.inl (upd ocf ii.toNatClampNeg v_3))), (opa, Sum.inl (cI, opl, Sum.inl opf))] H := ⟨hP, hD⟩
    have hP := hPD.1
    have hD := hPD.2
    refine lv_aload_n hx hb d_Odds_grow_18 rfl (lv_at hl 0 rfl) ?_
    refine lv_dup hx hb d_Odds_grow_19 rfl ?_
    refine va_get (D := (dC, dI)) (ci := 7) (v := .int osm) (C := "RangeCoders$Odds") (T := T_Odds) (N := 5) hx hb hg in_Odds hown hK hP 0 rfl rfl 1 (by decide) (hg _ k305) (fun _ h9 => h9) rfl d_Odds_grow_20 ?_
    refine lv_iload_n hx hb d_Odds_grow_23 rfl (lv_at hl 2 rfl) ?_
    refine lv_iadd hx hb d_Odds_grow_24 ?_
    refine lv_topi (fun v_4 ev_4 => ?_)
    refine va_put (D := (dC, dI)) (ci := 7) (v := .int v_4) (ty := .int) (C := "RangeCoders$Odds") (T := T_Odds) (N := 5) hx hb hg in_Odds t_Odds o_Odds n_Odds hown hK hP hD hS 0 rfl rfl 1 (by decide) (hg _ k305) (fun _ h9 => h9) rfl (o_Odds 1 (by decide)) rfl rfl (Nat.le_of_ble_eq_true rfl) d_Odds_grow_25 (fun H locs hP hD hS => ?_)
    have hPD : my_PD (dC, dI) vwCl A [(oo, Sum.inr (7, [Value.int osg, Value.int v_4, Value.int ofc, Value.ref oca, Value.ref opa])), (oca, Sum.inl (cI, ol, Sum.inl (upd ocf ii.toNatClampNeg v_3))), (opa, Sum.inl (cI, opl, Sum.inl opf))] H := ⟨hP, hD⟩
    have hP := hPD.1
    have hD := hPD.2
    exact my_vret hx hb hr hlocks hQ hK hS (Nat.le_refl _) (Nat.le_refl _) (v_4, upd ocf ii.toNatClampNeg v_3) (trivial) (hP.sub [0, 1, 2] rfl) (hD.sub [0, 1, 2] (by decide +kernel) rfl) d_Odds_grow_28
set_option maxHeartbeats 2000000 in
set_option maxRecDepth 100000 in
theorem c_Odds_fill (l : Launch) (dC : Nat → ClassId) (dI : Nat → Nat → Nat) (cI cM cO : ClassId) (sz : Nat) (oo : Nat) (osg : Int32) (osm : Int32) (ofc : Int32) (oca : Nat) (opa : Nat) (ol : Nat) (ocf : Nat → Int32) (opl : Nat) (opf : Nat → Int32) (vv : Int32) (hol : ol ≤ 64) (hopl : opl ≤ 512) : MetV l y_Odds_fill (Cond.code y_Odds_fill prog_7_method_5_code 2 none :: gw) ({ frames := 1, cells := 0, slots := 0, locals := 23 } : Room) (dC, dI) vwCl (kT cI cM cO) [Value.ref oo, Value.int vv] [(oo, Sum.inr (7, [Value.int osg, Value.int osm, Value.int ofc, Value.ref oca, Value.ref opa])), (oca, Sum.inl (cI, ol, Sum.inl ocf)), (opa, Sum.inl (cI, opl, Sum.inl opf))] sz (fun (u : Int32 × (Nat → Int32)) => True) (fun (u : Int32 × (Nat → Int32)) => [(oo, Sum.inr (7, [Value.int osg, Value.int u.1, Value.int ofc, Value.ref oca, Value.ref opa])), (oca, Sum.inl (cI, ol, Sum.inl u.2)), (opa, Sum.inl (cI, opl, Sum.inl opf))]) 0 0 := by
  refine my_ofV (cc := prog_7_method_5_code) (n := 2) (ret := none) (by decide) rfl (Nat.le_of_ble_eq_true rfl) ?_
  intro p e s m args below meth c R Q A ls H locs hx hb hr hts hown hlocks hml hnm hR hQ hA hl hP hK hN hD hS
  have hg : ∀ w ∈ gw, w.before args s = true := fun w h => hts w (List.mem_cons_of_mem _ h)
  have hown : s.vm.findClass "RangeCoders$Odds" = some m.cls := hown
  have hl : lv_has ls 2 [(0, Value.ref oo), (1, Value.int vv)] := hl
  refine lv_aload_n hx hb d_Odds_fill_0 rfl (lv_at hl 0 rfl) ?_
  refine va_get (D := (dC, dI)) (ci := 7) (v := .ref oca) (C := "RangeCoders$Odds") (T := T_Odds) (N := 5) hx hb hg in_Odds hown hK hP 0 rfl rfl 3 (by decide) (hg _ k309) (fun _ h9 => h9) rfl d_Odds_fill_1 ?_
  refine lv_iload_n hx hb d_Odds_fill_4 rfl (lv_at hl 1 rfl) ?_
  refine my_cv (wr := [(oo, Sum.inr (7, [Value.int osg, Value.int osm, Value.int ofc, Value.ref oca, Value.ref opa])), (opa, Sum.inl (cI, opl, Sum.inl opf))]) (va_runS (As := [Value.ref oca, Value.int vv]) (rest := []) ⟨hx, hb, hml, hown, hts⟩ (c_Arrays_fill l dC dI cI cM cO H.size oca ol ocf vv (by first | assumption | omega)) (my_cwS2 2 hts (my_gC k339) rfl rfl rfl (hg _ k15) (hg _ k363) (hg _ k338) (by decide +kernel) ⟨by rw [hR]; exact Nat.le_of_ble_eq_true rfl, by rw [hR]; exact Nat.le_of_ble_eq_true rfl⟩) (my_pre hK hN (hP.sub [1] rfl) (hD.sub [1] (by decide +kernel) rfl)) rfl rfl hl.1 rfl (lv_room (Nat.le_of_ble_eq_true rfl)) d_Odds_fill_5 ⟨by rw [hR]; exact Nat.le_of_ble_eq_true rfl, by rw [hR]; exact Nat.le_of_ble_eq_true rfl⟩) hP hD hS hA [1] [0, 2] rfl rfl (by decide +kernel) (by decide +kernel) (fun u9 H locs hw_5 hP hD hS => ?_)
  obtain ⟨afq_5, rfl⟩ : ∃ z, z = u9 := ⟨_, rfl⟩
  have hPD : my_PD (dC, dI) vwCl A [(oo, Sum.inr (7, [Value.int osg, Value.int osm, Value.int ofc, Value.ref oca, Value.ref opa])), (opa, Sum.inl (cI, opl, Sum.inl opf)), (oca, Sum.inl (cI, ol, Sum.inl afq_5))] H := ⟨hP, hD⟩
  have hP := hPD.1
  have hD := hPD.2
  refine lv_aload_n hx hb d_Odds_fill_8 rfl (lv_at hl 0 rfl) ?_
  refine lv_iload_n hx hb d_Odds_fill_9 rfl (lv_at hl 1 rfl) ?_
  refine lv_aload_n hx hb d_Odds_fill_10 rfl (lv_at hl 0 rfl) ?_
  refine va_get (D := (dC, dI)) (ci := 7) (v := .ref oca) (C := "RangeCoders$Odds") (T := T_Odds) (N := 5) hx hb hg in_Odds hown hK hP 0 rfl rfl 3 (by decide) (hg _ k309) (fun _ h9 => h9) rfl d_Odds_fill_11 ?_
  refine va_alen hx hb hK hP 2 0 rfl rfl (v := nI ol) rfl d_Odds_fill_14 ?_
  refine lv_imul hx hb d_Odds_fill_15 ?_
  refine lv_topi (fun v_1 ev_1 => ?_)
  refine va_put (D := (dC, dI)) (ci := 7) (v := .int v_1) (ty := .int) (C := "RangeCoders$Odds") (T := T_Odds) (N := 5) hx hb hg in_Odds t_Odds o_Odds n_Odds hown hK hP hD hS 0 rfl rfl 1 (by decide) (hg _ k305) (fun _ h9 => h9) rfl (o_Odds 1 (by decide)) rfl rfl (Nat.le_of_ble_eq_true rfl) d_Odds_fill_16 (fun H locs hP hD hS => ?_)
  have hPD : my_PD (dC, dI) vwCl A [(oo, Sum.inr (7, [Value.int osg, Value.int v_1, Value.int ofc, Value.ref oca, Value.ref opa])), (opa, Sum.inl (cI, opl, Sum.inl opf)), (oca, Sum.inl (cI, ol, Sum.inl afq_5))] H := ⟨hP, hD⟩
  have hP := hPD.1
  have hD := hPD.2
  exact my_vret hx hb hr hlocks hQ hK hS (Nat.le_refl _) (Nat.le_refl _) (v_1, afq_5) (trivial) (hP.sub [0, 2, 1] rfl) (hD.sub [0, 2, 1] (by decide +kernel) rfl) d_Odds_fill_19
set_option maxHeartbeats 2000000 in
set_option maxRecDepth 100000 in
theorem c_Odds_copyCounts (l : Launch) (dC : Nat → ClassId) (dI : Nat → Nat → Nat) (cI cM cO : ClassId) (sz : Nat) (oo : Nat) (osg : Int32) (osm : Int32) (ofc : Int32) (oca : Nat) (opa : Nat) (ol : Nat) (ocf : Nat → Int32) (opl : Nat) (opf : Nat → Int32) (ka : Nat) (kl : Nat) (kf : Nat → Int32) (hol : ol ≤ 64) (hopl : opl ≤ 512) (hkl : kl ≤ 64) : MetV l y_Odds_copyCounts (Cond.code y_Odds_copyCounts prog_7_method_15_code 3 none :: gw) ({ frames := 0, cells := 0, slots := 0, locals := 0 } : Room) (dC, dI) vwCl (kT cI cM cO) [Value.ref oo, Value.ref ka] [(oo, Sum.inr (7, [Value.int osg, Value.int osm, Value.int ofc, Value.ref oca, Value.ref opa])), (oca, Sum.inl (cI, ol, Sum.inl ocf)), (opa, Sum.inl (cI, opl, Sum.inl opf)), (ka, Sum.inl (cI, kl, Sum.inl kf))] sz (fun (u : Int32 × (Nat → Int32)) => True) (fun (u : Int32 × (Nat → Int32)) => [(oo, Sum.inr (7, [Value.int osg, Value.int u.1, Value.int ofc, Value.ref oca, Value.ref opa])), (oca, Sum.inl (cI, ol, Sum.inl u.2)), (opa, Sum.inl (cI, opl, Sum.inl opf)), (ka, Sum.inl (cI, kl, Sum.inl kf))]) 0 0 := by
  refine my_ofV (cc := prog_7_method_15_code) (n := 3) (ret := none) (by decide) rfl (Nat.le_of_ble_eq_true rfl) ?_
  intro p e s m args below meth c R Q A ls H locs hx hb hr hts hown hlocks hml hnm hR hQ hA hl hP hK hN hD hS
  have hg : ∀ w ∈ gw, w.before args s = true := fun w h => hts w (List.mem_cons_of_mem _ h)
  have hown : s.vm.findClass "RangeCoders$Odds" = some m.cls := hown
  have hl : lv_has ls 3 [(0, Value.ref oo), (1, Value.ref ka)] := hl
  refine lv_aload_n hx hb d_Odds_copyCounts_0 rfl (lv_at hl 0 rfl) ?_
  refine lv_iconst (v := 0) hx hb d_Odds_copyCounts_1 (by decide) ?_
  refine va_put (D := (dC, dI)) (ci := 7) (v := .int 0) (ty := .int) (C := "RangeCoders$Odds") (T := T_Odds) (N := 5) hx hb hg in_Odds t_Odds o_Odds n_Odds hown hK hP hD hS 0 rfl rfl 1 (by decide) (hg _ k305) (fun _ h9 => h9) rfl (o_Odds 1 (by decide)) rfl rfl (Nat.le_of_ble_eq_true rfl) d_Odds_copyCounts_2 (fun H locs hP hD hS => ?_)
  have hPD : my_PD (dC, dI) vwCl A [(oo, Sum.inr (7, [Value.int osg, Value.int 0, Value.int ofc, Value.ref oca, Value.ref opa])), (oca, Sum.inl (cI, ol, Sum.inl ocf)), (opa, Sum.inl (cI, opl, Sum.inl opf)), (ka, Sum.inl (cI, kl, Sum.inl kf))] H := ⟨hP, hD⟩
  have hP := hPD.1
  have hD := hPD.2
  refine lv_iconst (v := 0) hx hb d_Odds_copyCounts_5 (by decide) ?_
  refine lv_istore_n (lv' := [(2, Value.int 0), (0, Value.ref oo), (1, Value.ref ka)]) hx hb d_Odds_copyCounts_6 rfl hl (by decide) rfl (fun ls hl => ?_)
  have J_7 : ∀ (n9_7 : Nat) (b7_0 : Int32) (b7_1 : Int32) (b7_2 : Nat → Int32) (hn9_7 : ((nI ol).toInt - b7_0.toInt).toNat = n9_7) (hi_7 : 0 ≤ b7_0.toInt) (H : Heap) (locs : List Loc) (ls : Array Slot), va_P (dC, dI) vwCl [(oo, Sum.inr (7, [Value.int osg, Value.int b7_1, Value.int ofc, Value.ref oca, Value.ref opa])), (oca, Sum.inl (cI, ol, Sum.inl b7_2)), (opa, Sum.inl (cI, opl, Sum.inl opf)), (ka, Sum.inl (cI, kl, Sum.inl kf))] H → va_D A [(oo, Sum.inr (7, [Value.int osg, Value.int b7_1, Value.int ofc, Value.ref oca, Value.ref opa])), (oca, Sum.inl (cI, ol, Sum.inl b7_2)), (opa, Sum.inl (cI, opl, Sum.inl opf)), (ka, Sum.inl (cI, kl, Sum.inl kf))] → va_S A s.heap H locs → lv_has ls 3 [(2, Value.int b7_0), (0, Value.ref oo), (1, Value.ref ka)] → W p l e R s m args below meth c H locs 0 0 Q (F0 m 7 ls []) := by
    intro n9_7
    induction n9_7 using Nat.strongRecOn with
    | ind n9_7 ih9_7 =>
      intro b7_0 b7_1 b7_2 hn9_7 hi_7 H locs ls hP hD hS hl
      refine lv_iload_n hx hb d_Odds_copyCounts_7 rfl (lv_at hl 0 rfl) ?_
      refine lv_aload_n hx hb d_Odds_copyCounts_8 rfl (lv_at hl 1 rfl) ?_
      refine va_get (D := (dC, dI)) (ci := 7) (v := .ref oca) (C := "RangeCoders$Odds") (T := T_Odds) (N := 5) hx hb hg in_Odds hown hK hP 0 rfl rfl 3 (by decide) (hg _ k309) (fun _ h9 => h9) rfl d_Odds_copyCounts_9 ?_
      refine va_alen hx hb hK hP 1 0 rfl rfl (v := nI ol) rfl d_Odds_copyCounts_12 ?_
      refine lv_icmp_ge (tgt := 49) hx hb d_Odds_copyCounts_13 (by decide) (fun c_1 => ?_) (fun c_1 => ?_)
      · exact my_vret hx hb hr hlocks hQ hK hS (Nat.le_refl _) (Nat.le_refl _) (b7_1, b7_2) (trivial) (hP.sub [0, 1, 2, 3] rfl) (hD.sub [0, 1, 2, 3] (by decide +kernel) rfl) d_Odds_copyCounts_49
      · refine lv_iload_n hx hb d_Odds_copyCounts_16 rfl (lv_at hl 0 rfl) ?_
        refine lv_aload_n hx hb d_Odds_copyCounts_17 rfl (lv_at hl 2 rfl) ?_
        refine va_alen hx hb hK hP 3 0 rfl rfl (v := nI kl) rfl d_Odds_copyCounts_18 ?_
        refine lv_icmp_ge (tgt := 49) hx hb d_Odds_copyCounts_19 (by decide) (fun c_2 => ?_) (fun c_2 => ?_)
        · exact my_vret hx hb hr hlocks hQ hK hS (Nat.le_refl _) (Nat.le_refl _) (b7_1, b7_2) (trivial) (hP.sub [0, 1, 2, 3] rfl) (hD.sub [0, 1, 2, 3] (by decide +kernel) rfl) d_Odds_copyCounts_49
        · refine lv_aload_n hx hb d_Odds_copyCounts_22 rfl (lv_at hl 1 rfl) ?_
          refine va_get (D := (dC, dI)) (ci := 7) (v := .ref oca) (C := "RangeCoders$Odds") (T := T_Odds) (N := 5) hx hb hg in_Odds hown hK hP 0 rfl rfl 3 (by decide) (hg _ k309) (fun _ h9 => h9) rfl d_Odds_copyCounts_23 ?_
          refine lv_iload_n hx hb d_Odds_copyCounts_26 rfl (lv_at hl 0 rfl) ?_
          refine lv_aload_n hx hb d_Odds_copyCounts_27 rfl (lv_at hl 2 rfl) ?_
          refine lv_iload_n hx hb d_Odds_copyCounts_28 rfl (lv_at hl 0 rfl) ?_
          refine va_iald hx hb hK hP 3 0 rfl rfl (by first | assumption | exact I_in (by omega) (by assumption) (by assumption) | exact I_in' (by omega) (by assumption) (by assumption)) d_Odds_copyCounts_29 ?_
          refine lv_topi (fun v_3 ev_3 => ?_)
          refine va_iast hx hb hK hP hD hS 1 0 rfl rfl (by first | assumption | exact I_in (by omega) (by assumption) (by assumption) | exact I_in' (by omega) (by assumption) (by assumption)) d_Odds_copyCounts_30 (fun H locs hP hD hS => ?_)
          have hPD : my_PD (dC, dI) vwCl A [(oo, Sum.inr (7, [Value.int osg, Value.int b7_1, Value.int ofc, Value.ref oca, Value.ref opa])), (oca, Sum.inl (cI, ol, Sum.inl (upd b7_2 b7_0.toNatClampNeg v_3))), (opa, Sum.inl (cI, opl, Sum.inl opf)), (ka, Sum.inl (cI, kl, Sum.inl kf))] H := ⟨hP, hD⟩
          have hP := hPD.1
          have hD := hPD.2
          refine lv_aload_n hx hb d_Odds_copyCounts_31 rfl (lv_at hl 1 rfl) ?_
          refine lv_dup hx hb d_Odds_copyCounts_32 rfl ?_
          refine va_get (D := (dC, dI)) (ci := 7) (v := .int b7_1) (C := "RangeCoders$Odds") (T := T_Odds) (N := 5) hx hb hg in_Odds hown hK hP 0 rfl rfl 1 (by decide) (hg _ k305) (fun _ h9 => h9) rfl d_Odds_copyCounts_33 ?_
          refine lv_aload_n hx hb d_Odds_copyCounts_36 rfl (lv_at hl 2 rfl) ?_
          refine lv_iload_n hx hb d_Odds_copyCounts_37 rfl (lv_at hl 0 rfl) ?_
          refine va_iald hx hb hK hP 3 0 rfl rfl (by first | assumption | exact I_in (by omega) (by assumption) (by assumption) | exact I_in' (by omega) (by assumption) (by assumption)) d_Odds_copyCounts_38 ?_
          refine lv_topi (fun v_4 ev_4 => ?_)
          refine lv_iadd hx hb d_Odds_copyCounts_39 ?_
          refine lv_topi (fun v_5 ev_5 => ?_)
          refine va_put (D := (dC, dI)) (ci := 7) (v := .int v_5) (ty := .int) (C := "RangeCoders$Odds") (T := T_Odds) (N := 5) hx hb hg in_Odds t_Odds o_Odds n_Odds hown hK hP hD hS 0 rfl rfl 1 (by decide) (hg _ k305) (fun _ h9 => h9) rfl (o_Odds 1 (by decide)) rfl rfl (Nat.le_of_ble_eq_true rfl) d_Odds_copyCounts_40 (fun H locs hP hD hS => ?_)
          have hPD : my_PD (dC, dI) vwCl A [(oo, Sum.inr (7, [Value.int osg, Value.int v_5, Value.int ofc, Value.ref oca, Value.ref opa])), (oca, Sum.inl (cI, ol, Sum.inl (upd b7_2 b7_0.toNatClampNeg v_3))), (opa, Sum.inl (cI, opl, Sum.inl opf)), (ka, Sum.inl (cI, kl, Sum.inl kf))] H := ⟨hP, hD⟩
          have hP := hPD.1
          have hD := hPD.2
          obtain ⟨v_6, ev_6⟩ : ∃ y : Int32, y = b7_0 + (1) := ⟨_, rfl⟩
          refine lv_iinc (v := v_6) (lv' := [(2, Value.int v_6), (0, Value.ref oo), (1, Value.ref ka)]) hx hb d_Odds_copyCounts_43 hl (k := 0) rfl (by rw [ev_6]; rfl) (by decide) rfl (fun ls hl => ?_)
          refine lv_goto (tgt := 7) hx hb d_Odds_copyCounts_46 (by decide) ?_
          exact ih9_7 _ (by first | omega | (have z9 := I_up c_1 ev_6; omega)) v_6 v_5 (upd b7_2 b7_0.toNatClampNeg v_3) rfl (by have z9 := I_up c_1 ev_6; omega) H locs ls (hP.sub [0, 1, 2, 3] rfl) (hD.sub [0, 1, 2, 3] (by decide +kernel) rfl) hS (lv_sub hl [0, 1, 2] rfl)
  exact J_7 _ (0 : Int32) (0 : Int32) ocf rfl (by first | decide | assumption | omega) H locs ls (hP.sub [0, 1, 2, 3] rfl) (hD.sub [0, 1, 2, 3] (by decide +kernel) rfl) hS (lv_sub hl [0, 1, 2] rfl)
set_option maxHeartbeats 2000000 in
set_option maxRecDepth 100000 in
theorem c_Odds_halve (l : Launch) (dC : Nat → ClassId) (dI : Nat → Nat → Nat) (cI cM cO : ClassId) (sz : Nat) (oo : Nat) (osg : Int32) (osm : Int32) (ofc : Int32) (oca : Nat) (opa : Nat) (ol : Nat) (ocf : Nat → Int32) (opl : Nat) (opf : Nat → Int32) (hol : ol ≤ 64) (hopl : opl ≤ 512) : MetV l y_Odds_halve (Cond.code y_Odds_halve prog_7_method_16_code 2 none :: gw) ({ frames := 0, cells := 0, slots := 0, locals := 0 } : Room) (dC, dI) vwCl (kT cI cM cO) [Value.ref oo] [(oo, Sum.inr (7, [Value.int osg, Value.int osm, Value.int ofc, Value.ref oca, Value.ref opa])), (oca, Sum.inl (cI, ol, Sum.inl ocf)), (opa, Sum.inl (cI, opl, Sum.inl opf))] sz (fun (u : Int32 × (Nat → Int32)) => True) (fun (u : Int32 × (Nat → Int32)) => [(oo, Sum.inr (7, [Value.int osg, Value.int u.1, Value.int ofc, Value.ref oca, Value.ref opa])), (oca, Sum.inl (cI, ol, Sum.inl u.2)), (opa, Sum.inl (cI, opl, Sum.inl opf))]) 0 0 := by
  refine my_ofV (cc := prog_7_method_16_code) (n := 2) (ret := none) (by decide) rfl (Nat.le_of_ble_eq_true rfl) ?_
  intro p e s m args below meth c R Q A ls H locs hx hb hr hts hown hlocks hml hnm hR hQ hA hl hP hK hN hD hS
  have hg : ∀ w ∈ gw, w.before args s = true := fun w h => hts w (List.mem_cons_of_mem _ h)
  have hown : s.vm.findClass "RangeCoders$Odds" = some m.cls := hown
  have hl : lv_has ls 2 [(0, Value.ref oo)] := hl
  refine lv_aload_n hx hb d_Odds_halve_0 rfl (lv_at hl 0 rfl) ?_
  refine lv_iconst (v := 0) hx hb d_Odds_halve_1 (by decide) ?_
  refine va_put (D := (dC, dI)) (ci := 7) (v := .int 0) (ty := .int) (C := "RangeCoders$Odds") (T := T_Odds) (N := 5) hx hb hg in_Odds t_Odds o_Odds n_Odds hown hK hP hD hS 0 rfl rfl 1 (by decide) (hg _ k305) (fun _ h9 => h9) rfl (o_Odds 1 (by decide)) rfl rfl (Nat.le_of_ble_eq_true rfl) d_Odds_halve_2 (fun H locs hP hD hS => ?_)
  have hPD : my_PD (dC, dI) vwCl A [(oo, Sum.inr (7, [Value.int osg, Value.int 0, Value.int ofc, Value.ref oca, Value.ref opa])), (oca, Sum.inl (cI, ol, Sum.inl ocf)), (opa, Sum.inl (cI, opl, Sum.inl opf))] H := ⟨hP, hD⟩
  have hP := hPD.1
  have hD := hPD.2
  refine lv_iconst (v := 0) hx hb d_Odds_halve_5 (by decide) ?_
  refine lv_istore_n (lv' := [(1, Value.int 0), (0, Value.ref oo)]) hx hb d_Odds_halve_6 rfl hl (by decide) rfl (fun ls hl => ?_)
  have J_7 : ∀ (n9_7 : Nat) (b7_0 : Int32) (b7_1 : Int32) (b7_2 : Nat → Int32) (hn9_7 : ((nI ol).toInt - b7_0.toInt).toNat = n9_7) (hi_7 : 0 ≤ b7_0.toInt) (H : Heap) (locs : List Loc) (ls : Array Slot), va_P (dC, dI) vwCl [(oo, Sum.inr (7, [Value.int osg, Value.int b7_1, Value.int ofc, Value.ref oca, Value.ref opa])), (oca, Sum.inl (cI, ol, Sum.inl b7_2)), (opa, Sum.inl (cI, opl, Sum.inl opf))] H → va_D A [(oo, Sum.inr (7, [Value.int osg, Value.int b7_1, Value.int ofc, Value.ref oca, Value.ref opa])), (oca, Sum.inl (cI, ol, Sum.inl b7_2)), (opa, Sum.inl (cI, opl, Sum.inl opf))] → va_S A s.heap H locs → lv_has ls 2 [(1, Value.int b7_0), (0, Value.ref oo)] → W p l e R s m args below meth c H locs 0 0 Q (F0 m 7 ls []) := by
    intro n9_7
    induction n9_7 using Nat.strongRecOn with
    | ind n9_7 ih9_7 =>
      intro b7_0 b7_1 b7_2 hn9_7 hi_7 H locs ls hP hD hS hl
      refine lv_iload_n hx hb d_Odds_halve_7 rfl (lv_at hl 0 rfl) ?_
      refine lv_aload_n hx hb d_Odds_halve_8 rfl (lv_at hl 1 rfl) ?_
      refine va_get (D := (dC, dI)) (ci := 7) (v := .ref oca) (C := "RangeCoders$Odds") (T := T_Odds) (N := 5) hx hb hg in_Odds hown hK hP 0 rfl rfl 3 (by decide) (hg _ k309) (fun _ h9 => h9) rfl d_Odds_halve_9 ?_
      refine va_alen hx hb hK hP 1 0 rfl rfl (v := nI ol) rfl d_Odds_halve_12 ?_
      refine lv_icmp_ge (tgt := 53) hx hb d_Odds_halve_13 (by decide) (fun c_1 => ?_) (fun c_1 => ?_)
      · exact my_vret hx hb hr hlocks hQ hK hS (Nat.le_refl _) (Nat.le_refl _) (b7_1, b7_2) (trivial) (hP.sub [0, 1, 2] rfl) (hD.sub [0, 1, 2] (by decide +kernel) rfl) d_Odds_halve_53
      · refine lv_aload_n hx hb d_Odds_halve_16 rfl (lv_at hl 1 rfl) ?_
        refine va_get (D := (dC, dI)) (ci := 7) (v := .ref oca) (C := "RangeCoders$Odds") (T := T_Odds) (N := 5) hx hb hg in_Odds hown hK hP 0 rfl rfl 3 (by decide) (hg _ k309) (fun _ h9 => h9) rfl d_Odds_halve_17 ?_
        refine lv_iload_n hx hb d_Odds_halve_20 rfl (lv_at hl 0 rfl) ?_
        refine lv_aload_n hx hb d_Odds_halve_21 rfl (lv_at hl 1 rfl) ?_
        refine va_get (D := (dC, dI)) (ci := 7) (v := .ref oca) (C := "RangeCoders$Odds") (T := T_Odds) (N := 5) hx hb hg in_Odds hown hK hP 0 rfl rfl 3 (by decide) (hg _ k309) (fun _ h9 => h9) rfl d_Odds_halve_22 ?_
        refine lv_iload_n hx hb d_Odds_halve_25 rfl (lv_at hl 0 rfl) ?_
        refine va_iald hx hb hK hP 1 0 rfl rfl (by first | assumption | exact I_in (by omega) (by assumption) (by assumption) | exact I_in' (by omega) (by assumption) (by assumption)) d_Odds_halve_26 ?_
        refine lv_topi (fun v_2 ev_2 => ?_)
        refine lv_iconst (v := 1) hx hb d_Odds_halve_27 (by decide) ?_
        refine lv_iadd hx hb d_Odds_halve_28 ?_
        refine lv_topi (fun v_3 ev_3 => ?_)
        refine lv_iconst (v := 2) hx hb d_Odds_halve_29 (by decide) ?_
        refine lv_idiv hx hb d_Odds_halve_30 (by first | decide | exact I_nzp (by assumption) | exact I_nz (by assumption)) ?_
        refine lv_topi (fun v_4 ev_4 => ?_)
        refine va_iast hx hb hK hP hD hS 1 0 rfl rfl (by first | assumption | exact I_in (by omega) (by assumption) (by assumption) | exact I_in' (by omega) (by assumption) (by assumption)) d_Odds_halve_31 (fun H locs hP hD hS => ?_)
        have hPD : my_PD (dC, dI) vwCl A [(oo, Sum.inr (7, [Value.int osg, Value.int b7_1, Value.int ofc, Value.ref oca, Value.ref opa])), (oca, Sum.inl (cI, ol, Sum.inl (upd b7_2 b7_0.toNatClampNeg v_4))), (opa, Sum.inl (cI, opl, Sum.inl opf))] H := ⟨hP, hD⟩
        have hP := hPD.1
        have hD := hPD.2
        refine lv_aload_n hx hb d_Odds_halve_32 rfl (lv_at hl 1 rfl) ?_
        refine lv_dup hx hb d_Odds_halve_33 rfl ?_
        refine va_get (D := (dC, dI)) (ci := 7) (v := .int b7_1) (C := "RangeCoders$Odds") (T := T_Odds) (N := 5) hx hb hg in_Odds hown hK hP 0 rfl rfl 1 (by decide) (hg _ k305) (fun _ h9 => h9) rfl d_Odds_halve_34 ?_
        refine lv_aload_n hx hb d_Odds_halve_37 rfl (lv_at hl 1 rfl) ?_
        refine va_get (D := (dC, dI)) (ci := 7) (v := .ref oca) (C := "RangeCoders$Odds") (T := T_Odds) (N := 5) hx hb hg in_Odds hown hK hP 0 rfl rfl 3 (by decide) (hg _ k309) (fun _ h9 => h9) rfl d_Odds_halve_38 ?_
        refine lv_iload_n hx hb d_Odds_halve_41 rfl (lv_at hl 0 rfl) ?_
        refine va_iald hx hb hK hP 1 0 rfl rfl (by first | assumption | exact I_in (by omega) (by assumption) (by assumption) | exact I_in' (by omega) (by assumption) (by assumption)) d_Odds_halve_42 ?_
        refine lv_topi (fun v_5 ev_5 => ?_)
        refine lv_iadd hx hb d_Odds_halve_43 ?_
        refine lv_topi (fun v_6 ev_6 => ?_)
        refine va_put (D := (dC, dI)) (ci := 7) (v := .int v_6) (ty := .int) (C := "RangeCoders$Odds") (T := T_Odds) (N := 5) hx hb hg in_Odds t_Odds o_Odds n_Odds hown hK hP hD hS 0 rfl rfl 1 (by decide) (hg _ k305) (fun _ h9 => h9) rfl (o_Odds 1 (by decide)) rfl rfl (Nat.le_of_ble_eq_true rfl) d_Odds_halve_44 (fun H locs hP hD hS => ?_)
        have hPD : my_PD (dC, dI) vwCl A [(oo, Sum.inr (7, [Value.int osg, Value.int v_6, Value.int ofc, Value.ref oca, Value.ref opa])), (oca, Sum.inl (cI, ol, Sum.inl (upd b7_2 b7_0.toNatClampNeg v_4))), (opa, Sum.inl (cI, opl, Sum.inl opf))] H := ⟨hP, hD⟩
        have hP := hPD.1
        have hD := hPD.2
        obtain ⟨v_7, ev_7⟩ : ∃ y : Int32, y = b7_0 + (1) := ⟨_, rfl⟩
        refine lv_iinc (v := v_7) (lv' := [(1, Value.int v_7), (0, Value.ref oo)]) hx hb d_Odds_halve_47 hl (k := 0) rfl (by rw [ev_7]; rfl) (by decide) rfl (fun ls hl => ?_)
        refine lv_goto (tgt := 7) hx hb d_Odds_halve_50 (by decide) ?_
        exact ih9_7 _ (by first | omega | (have z9 := I_up c_1 ev_7; omega)) v_7 v_6 (upd b7_2 b7_0.toNatClampNeg v_4) rfl (by have z9 := I_up c_1 ev_7; omega) H locs ls (hP.sub [0, 1, 2] rfl) (hD.sub [0, 1, 2] (by decide +kernel) rfl) hS (lv_sub hl [0, 1] rfl)
  exact J_7 _ (0 : Int32) (0 : Int32) ocf rfl (by first | decide | assumption | omega) H locs ls (hP.sub [0, 1, 2] rfl) (hD.sub [0, 1, 2] (by decide +kernel) rfl) hS (lv_sub hl [0, 1] rfl)
set_option maxHeartbeats 2000000 in
set_option maxRecDepth 100000 in
theorem c_Odds_fromCounts (l : Launch) (dC : Nat → ClassId) (dI : Nat → Nat → Nat) (cI cM cO : ClassId) (sz : Nat) (oo : Nat) (osg : Int32) (osm : Int32) (ofc : Int32) (oca : Nat) (opa : Nat) (ol : Nat) (ocf : Nat → Int32) (opl : Nat) (opf : Nat → Int32) (ka : Nat) (kl : Nat) (kf : Nat → Int32) (hol : ol ≤ 64) (hopl : opl ≤ 512) (hkl : kl ≤ 64) : MetV l y_Odds_fromCounts (Cond.code y_Odds_fromCounts prog_7_method_6_code 3 none :: gw) ({ frames := 1, cells := 0, slots := 0, locals := 22 } : Room) (dC, dI) vwCl (kT cI cM cO) [Value.ref oo, Value.ref ka] [(oo, Sum.inr (7, [Value.int osg, Value.int osm, Value.int ofc, Value.ref oca, Value.ref opa])), (oca, Sum.inl (cI, ol, Sum.inl ocf)), (opa, Sum.inl (cI, opl, Sum.inl opf)), (ka, Sum.inl (cI, kl, Sum.inl kf))] sz (fun (u : Int32 × (Nat → Int32)) => True) (fun (u : Int32 × (Nat → Int32)) => [(oo, Sum.inr (7, [Value.int osg, Value.int u.1, Value.int ofc, Value.ref oca, Value.ref opa])), (oca, Sum.inl (cI, ol, Sum.inl u.2)), (opa, Sum.inl (cI, opl, Sum.inl opf)), (ka, Sum.inl (cI, kl, Sum.inl kf))]) 0 0 := by
  refine my_ofV (cc := prog_7_method_6_code) (n := 3) (ret := none) (by decide) rfl (Nat.le_of_ble_eq_true rfl) ?_
  intro p e s m args below meth c R Q A ls H locs hx hb hr hts hown hlocks hml hnm hR hQ hA hl hP hK hN hD hS
  have hg : ∀ w ∈ gw, w.before args s = true := fun w h => hts w (List.mem_cons_of_mem _ h)
  have hown : s.vm.findClass "RangeCoders$Odds" = some m.cls := hown
  have hl : lv_has ls 3 [(0, Value.ref oo), (1, Value.ref ka)] := hl
  refine lv_aload_n hx hb d_Odds_fromCounts_0 rfl (lv_at hl 0 rfl) ?_
  refine lv_aload_n hx hb d_Odds_fromCounts_1 rfl (lv_at hl 1 rfl) ?_
  refine my_cv (wr := []) (va_runV (As := [Value.ref ka]) (rest := []) ⟨hx, hb, hml, hown, hts⟩ (c_Odds_copyCounts l dC dI cI cM cO H.size oo osg osm ofc oca opa ol ocf opl opf ka kl kf (by first | assumption | omega) (by first | assumption | omega) (by first | assumption | omega)) (cwV 1 hts (my_gV k371 k373 ks0 k14 k374) rfl rfl rfl cu_Odds_copyCounts_1 ⟨by rw [hR]; exact Nat.le_of_ble_eq_true rfl, by rw [hR]; exact Nat.le_of_ble_eq_true rfl⟩) (my_preV hK hN (hP.sub [0, 1, 2, 3] rfl) (hD.sub [0, 1, 2, 3] (by decide +kernel) rfl) 0 rfl rfl) rfl rfl hl.1 rfl (lv_room (Nat.le_of_ble_eq_true rfl)) d_Odds_fromCounts_2 ⟨by rw [hR]; exact Nat.le_of_ble_eq_true rfl, by rw [hR]; exact Nat.le_of_ble_eq_true rfl⟩) hP hD hS hA [0, 1, 2, 3] [] rfl rfl (by decide +kernel) (by decide +kernel) (fun u9 H locs hw_2 hP hD hS => ?_)
  obtain ⟨osmq_2, ocfq_2⟩ := u9
  have hPD : my_PD (dC, dI) vwCl A [(oo, Sum.inr (7, [Value.int osg, Value.int osmq_2, Value.int ofc, Value.ref oca, Value.ref opa])), (oca, Sum.inl (cI, ol, Sum.inl ocfq_2)), (opa, Sum.inl (cI, opl, Sum.inl opf)), (ka, Sum.inl (cI, kl, Sum.inl kf))] H := ⟨hP, hD⟩
  have hP := hPD.1
  have hD := hPD.2
  refine lv_iconst (v := 0) hx hb d_Odds_fromCounts_5 (by decide) ?_
  refine lv_istore_n (lv' := [(2, Value.int 0), (0, Value.ref oo), (1, Value.ref ka)]) hx hb d_Odds_fromCounts_6 rfl hl (by decide) rfl (fun ls hl => ?_)
  have J_7 : ∀ (n9_7 : Nat) (b7_0 : Int32) (b7_1 : Int32) (b7_2 : Nat → Int32) (hn9_7 : ((32 : Int32).toInt - b7_0.toInt).toNat = n9_7) (hi_7 : 0 ≤ b7_0.toInt) (H : Heap) (locs : List Loc) (ls : Array Slot), va_P (dC, dI) vwCl [(oo, Sum.inr (7, [Value.int osg, Value.int b7_1, Value.int ofc, Value.ref oca, Value.ref opa])), (oca, Sum.inl (cI, ol, Sum.inl b7_2)), (opa, Sum.inl (cI, opl, Sum.inl opf)), (ka, Sum.inl (cI, kl, Sum.inl kf))] H → va_D A [(oo, Sum.inr (7, [Value.int osg, Value.int b7_1, Value.int ofc, Value.ref oca, Value.ref opa])), (oca, Sum.inl (cI, ol, Sum.inl b7_2)), (opa, Sum.inl (cI, opl, Sum.inl opf)), (ka, Sum.inl (cI, kl, Sum.inl kf))] → va_S A s.heap H locs → lv_has ls 3 [(2, Value.int b7_0), (0, Value.ref oo), (1, Value.ref ka)] → W p l e R s m args below meth c H locs 0 0 Q (F0 m 7 ls []) := by
    intro n9_7
    induction n9_7 using Nat.strongRecOn with
    | ind n9_7 ih9_7 =>
      intro b7_0 b7_1 b7_2 hn9_7 hi_7 H locs ls hP hD hS hl
      refine lv_iload_n hx hb d_Odds_fromCounts_7 rfl (lv_at hl 0 rfl) ?_
      refine lv_bipush (v := 32) hx hb d_Odds_fromCounts_8 (by decide) ?_
      refine lv_icmp_ge (tgt := 33) hx hb d_Odds_fromCounts_10 (by decide) (fun c_1 => ?_) (fun c_1 => ?_)
      · exact my_vret hx hb hr hlocks hQ hK hS (Nat.le_refl _) (Nat.le_refl _) (b7_1, b7_2) (trivial) (hP.sub [0, 1, 2, 3] rfl) (hD.sub [0, 1, 2, 3] (by decide +kernel) rfl) d_Odds_fromCounts_33
      · refine lv_aload_n hx hb d_Odds_fromCounts_13 rfl (lv_at hl 1 rfl) ?_
        refine va_get (D := (dC, dI)) (ci := 7) (v := .int b7_1) (C := "RangeCoders$Odds") (T := T_Odds) (N := 5) hx hb hg in_Odds hown hK hP 0 rfl rfl 1 (by decide) (hg _ k305) (fun _ h9 => h9) rfl d_Odds_fromCounts_14 ?_
        refine lv_sipush (v := 8192) hx hb d_Odds_fromCounts_17 (by decide) ?_
        refine lv_icmp_le (tgt := 33) hx hb d_Odds_fromCounts_20 (by decide) (fun c_2 => ?_) (fun c_2 => ?_)
        · exact my_vret hx hb hr hlocks hQ hK hS (Nat.le_refl _) (Nat.le_refl _) (b7_1, b7_2) (trivial) (hP.sub [0, 1, 2, 3] rfl) (hD.sub [0, 1, 2, 3] (by decide +kernel) rfl) d_Odds_fromCounts_33
        · refine lv_aload_n hx hb d_Odds_fromCounts_23 rfl (lv_at hl 1 rfl) ?_
          refine my_cv (wr := [(ka, Sum.inl (cI, kl, Sum.inl kf))]) (va_runV (As := []) (rest := []) ⟨hx, hb, hml, hown, hts⟩ (c_Odds_halve l dC dI cI cM cO H.size oo osg b7_1 ofc oca opa ol b7_2 opl opf (by first | assumption | omega) (by first | assumption | omega)) (cwV 0 hts (my_gV k375 k377 ks1 k14 k378) rfl rfl rfl cu_Odds_halve_0 ⟨by rw [hR]; exact Nat.le_of_ble_eq_true rfl, by rw [hR]; exact Nat.le_of_ble_eq_true rfl⟩) (my_preV hK hN (hP.sub [0, 1, 2] rfl) (hD.sub [0, 1, 2] (by decide +kernel) rfl) 0 rfl rfl) rfl rfl hl.1 rfl (lv_room (Nat.le_of_ble_eq_true rfl)) d_Odds_fromCounts_24 ⟨by rw [hR]; exact Nat.le_of_ble_eq_true rfl, by rw [hR]; exact Nat.le_of_ble_eq_true rfl⟩) hP hD hS hA [0, 1, 2] [3] rfl rfl (by decide +kernel) (by decide +kernel) (fun u9 H locs hw_24 hP hD hS => ?_)
          obtain ⟨osmq_24, ocfq_24⟩ := u9
          have hPD : my_PD (dC, dI) vwCl A [(ka, Sum.inl (cI, kl, Sum.inl kf)), (oo, Sum.inr (7, [Value.int osg, Value.int osmq_24, Value.int ofc, Value.ref oca, Value.ref opa])), (oca, Sum.inl (cI, ol, Sum.inl ocfq_24)), (opa, Sum.inl (cI, opl, Sum.inl opf))] H := ⟨hP, hD⟩
          have hP := hPD.1
          have hD := hPD.2
          obtain ⟨v_3, ev_3⟩ : ∃ y : Int32, y = b7_0 + (1) := ⟨_, rfl⟩
          refine lv_iinc (v := v_3) (lv' := [(2, Value.int v_3), (0, Value.ref oo), (1, Value.ref ka)]) hx hb d_Odds_fromCounts_27 hl (k := 0) rfl (by rw [ev_3]; rfl) (by decide) rfl (fun ls hl => ?_)
          refine lv_goto (tgt := 7) hx hb d_Odds_fromCounts_30 (by decide) ?_
          exact ih9_7 _ (by first | omega | (have z9 := I_up c_1 ev_3; omega)) v_3 osmq_24 ocfq_24 rfl (by have z9 := I_up c_1 ev_3; omega) H locs ls (hP.sub [1, 2, 3, 0] rfl) (hD.sub [1, 2, 3, 0] (by decide +kernel) rfl) hS (lv_sub hl [0, 1, 2] rfl)
  exact J_7 _ (0 : Int32) osmq_2 ocfq_2 rfl (by first | decide | assumption | omega) H locs ls (hP.sub [0, 1, 2, 3] rfl) (hD.sub [0, 1, 2, 3] (by decide +kernel) rfl) hS (lv_sub hl [0, 1, 2] rfl)
set_option maxHeartbeats 2000000 in
set_option maxRecDepth 100000 in
theorem c_Odds_learn (l : Launch) (dC : Nat → ClassId) (dI : Nat → Nat → Nat) (cI cM cO : ClassId) (sz : Nat) (oo : Nat) (osg : Int32) (osm : Int32) (ofc : Int32) (oca : Nat) (opa : Nat) (ol : Nat) (ocf : Nat → Int32) (opl : Nat) (opf : Nat → Int32) (ii : Int32) (hol : ol ≤ 64) (hopl : opl ≤ 512) : MetV l y_Odds_learn (Cond.code y_Odds_learn prog_7_method_7_code 2 none :: gw) ({ frames := 2, cells := 0, slots := 0, locals := 43 } : Room) (dC, dI) vwCl (kT cI cM cO) [Value.ref oo, Value.int ii] [(oo, Sum.inr (7, [Value.int osg, Value.int osm, Value.int ofc, Value.ref oca, Value.ref opa])), (oca, Sum.inl (cI, ol, Sum.inl ocf)), (opa, Sum.inl (cI, opl, Sum.inl opf))] sz (fun (u : Int32 × (Nat → Int32)) => True) (fun (u : Int32 × (Nat → Int32)) => [(oo, Sum.inr (7, [Value.int osg, Value.int u.1, Value.int ofc, Value.ref oca, Value.ref opa])), (oca, Sum.inl (cI, ol, Sum.inl u.2)), (opa, Sum.inl (cI, opl, Sum.inl opf))]) 0 0 := by
  refine my_ofV (cc := prog_7_method_7_code) (n := 2) (ret := none) (by decide) rfl (Nat.le_of_ble_eq_true rfl) ?_
  intro p e s m args below meth c R Q A ls H locs hx hb hr hts hown hlocks hml hnm hR hQ hA hl hP hK hN hD hS
  have hg : ∀ w ∈ gw, w.before args s = true := fun w h => hts w (List.mem_cons_of_mem _ h)
  have hown : s.vm.findClass "RangeCoders$Odds" = some m.cls := hown
  have hl : lv_has ls 2 [(0, Value.ref oo), (1, Value.int ii)] := hl
  refine lv_aload_n hx hb d_Odds_learn_0 rfl (lv_at hl 0 rfl) ?_
  refine lv_iload_n hx hb d_Odds_learn_1 rfl (lv_at hl 1 rfl) ?_
  refine lv_bipush (v := 32) hx hb d_Odds_learn_2 (by decide) ?_
  refine my_cv (wr := []) (va_runV (As := [Value.int ii, Value.int 32]) (rest := []) ⟨hx, hb, hml, hown, hts⟩ (c_Odds_grow l dC dI cI cM cO H.size oo osg osm ofc oca opa ol ocf opl opf ii 32 (by first | assumption | omega) (by first | assumption | omega)) (cwV 2 hts (my_gV k392 k393 k394 k14 k395) rfl rfl rfl cu_Odds_grow_2 ⟨by rw [hR]; exact Nat.le_of_ble_eq_true rfl, by rw [hR]; exact Nat.le_of_ble_eq_true rfl⟩) (my_preV hK hN (hP.sub [0, 1, 2] rfl) (hD.sub [0, 1, 2] (by decide +kernel) rfl) 0 rfl rfl) rfl rfl hl.1 rfl (lv_room (Nat.le_of_ble_eq_true rfl)) d_Odds_learn_4 ⟨by rw [hR]; exact Nat.le_of_ble_eq_true rfl, by rw [hR]; exact Nat.le_of_ble_eq_true rfl⟩) hP hD hS hA [0, 1, 2] [] rfl rfl (by decide +kernel) (by decide +kernel) (fun u9 H locs hw_4 hP hD hS => ?_)
  obtain ⟨osmq_4, ocfq_4⟩ := u9
  have hPD : my_PD (dC, dI) vwCl A [(oo, Sum.inr (7, [Value.int osg, Value.int osmq_4, Value.int ofc, Value.ref oca, Value.ref opa])), (oca, Sum.inl (cI, ol, Sum.inl ocfq_4)), (opa, Sum.inl (cI, opl, Sum.inl opf))] H := ⟨hP, hD⟩
  have hP := hPD.1
  have hD := hPD.2
  refine lv_aload_n hx hb d_Odds_learn_7 rfl (lv_at hl 0 rfl) ?_
  refine va_get (D := (dC, dI)) (ci := 7) (v := .int osmq_4) (C := "RangeCoders$Odds") (T := T_Odds) (N := 5) hx hb hg in_Odds hown hK hP 0 rfl rfl 1 (by decide) (hg _ k305) (fun _ h9 => h9) rfl d_Odds_learn_8 ?_
  refine lv_sipush (v := 8192) hx hb d_Odds_learn_11 (by decide) ?_
  refine lv_icmp_le (tgt := 21) hx hb d_Odds_learn_14 (by decide) (fun c_1 => ?_) (fun c_1 => ?_)
  · exact my_vret hx hb hr hlocks hQ hK hS (Nat.le_refl _) (Nat.le_refl _) (osmq_4, ocfq_4) (trivial) (hP.sub [0, 1, 2] rfl) (hD.sub [0, 1, 2] (by decide +kernel) rfl) d_Odds_learn_21
  · refine lv_aload_n hx hb d_Odds_learn_17 rfl (lv_at hl 0 rfl) ?_
    refine my_cv (wr := []) (va_runV (As := []) (rest := []) ⟨hx, hb, hml, hown, hts⟩ (c_Odds_halve l dC dI cI cM cO H.size oo osg osmq_4 ofc oca opa ol ocfq_4 opl opf (by first | assumption | omega) (by first | assumption | omega)) (cwV 0 hts (my_gV k375 k377 ks1 k14 k378) rfl rfl rfl cu_Odds_halve_0 ⟨by rw [hR]; exact Nat.le_of_ble_eq_true rfl, by rw [hR]; exact Nat.le_of_ble_eq_true rfl⟩) (my_preV hK hN (hP.sub [0, 1, 2] rfl) (hD.sub [0, 1, 2] (by decide +kernel) rfl) 0 rfl rfl) rfl rfl hl.1 rfl (lv_room (Nat.le_of_ble_eq_true rfl)) d_Odds_learn_18 ⟨by rw [hR]; exact Nat.le_of_ble_eq_true rfl, by rw [hR]; exact Nat.le_of_ble_eq_true rfl⟩) hP hD hS hA [0, 1, 2] [] rfl rfl (by decide +kernel) (by decide +kernel) (fun u9 H locs hw_18 hP hD hS => ?_)
    obtain ⟨osmq_18, ocfq_18⟩ := u9
    have hPD : my_PD (dC, dI) vwCl A [(oo, Sum.inr (7, [Value.int osg, Value.int osmq_18, Value.int ofc, Value.ref oca, Value.ref opa])), (oca, Sum.inl (cI, ol, Sum.inl ocfq_18)), (opa, Sum.inl (cI, opl, Sum.inl opf))] H := ⟨hP, hD⟩
    have hP := hPD.1
    have hD := hPD.2
    exact my_vret hx hb hr hlocks hQ hK hS (Nat.le_refl _) (Nat.le_refl _) (osmq_18, ocfq_18) (trivial) (hP.sub [0, 1, 2] rfl) (hD.sub [0, 1, 2] (by decide +kernel) rfl) d_Odds_learn_21
set_option maxHeartbeats 2000000 in
set_option maxRecDepth 100000 in
theorem c_Odds_below (l : Launch) (dC : Nat → ClassId) (dI : Nat → Nat → Nat) (cI cM cO : ClassId) (sz : Nat) (oo : Nat) (osg : Int32) (osm : Int32) (ofc : Int32) (oca : Nat) (opa : Nat) (ol : Nat) (ocf : Nat → Int32) (opl : Nat) (opf : Nat → Int32) (ii : Int32) (hol : ol ≤ 64) (hopl : opl ≤ 512) : MetI l y_Odds_below (Cond.code y_Odds_below prog_7_method_8_code 4 (some .int) :: gw) ({ frames := 0, cells := 0, slots := 0, locals := 0 } : Room) (dC, dI) vwCl (kT cI cM cO) [Value.ref oo, Value.int ii] [(oo, Sum.inr (7, [Value.int osg, Value.int osm, Value.int ofc, Value.ref oca, Value.ref opa])), (oca, Sum.inl (cI, ol, Sum.inl ocf)), (opa, Sum.inl (cI, opl, Sum.inl opf))] sz (fun (r : Int32) (u : Unit) => True) (fun (u : Unit) => [(oo, Sum.inr (7, [Value.int osg, Value.int osm, Value.int ofc, Value.ref oca, Value.ref opa])), (oca, Sum.inl (cI, ol, Sum.inl ocf)), (opa, Sum.inl (cI, opl, Sum.inl opf))]) 0 0 := by
  refine my_ofI (cc := prog_7_method_8_code) (n := 4) (ret := (some .int)) (by decide) rfl (Nat.le_of_ble_eq_true rfl) ?_
  intro p e s m args below meth c R Q A ls H locs hx hb hr hts hown hlocks hml hnm hR hQ hA hl hP hK hN hD hS
  have hg : ∀ w ∈ gw, w.before args s = true := fun w h => hts w (List.mem_cons_of_mem _ h)
  have hown : s.vm.findClass "RangeCoders$Odds" = some m.cls := hown
  have hl : lv_has ls 4 [(0, Value.ref oo), (1, Value.int ii)] := hl
  refine lv_iconst (v := 0) hx hb d_Odds_below_0 (by decide) ?_
  refine lv_istore_n (lv' := [(2, Value.int 0), (0, Value.ref oo), (1, Value.int ii)]) hx hb d_Odds_below_1 rfl hl (by decide) rfl (fun ls hl => ?_)
  refine lv_iconst (v := 0) hx hb d_Odds_below_2 (by decide) ?_
  refine lv_istore_n (lv' := [(3, Value.int 0), (2, Value.int 0), (0, Value.ref oo), (1, Value.int ii)]) hx hb d_Odds_below_3 rfl hl (by decide) rfl (fun ls hl => ?_)
  have J_4 : ∀ (n9_4 : Nat) (b4_0 : Int32) (b4_1 : Int32) (hn9_4 : (ii.toInt - b4_0.toInt).toNat = n9_4) (hi_4 : 0 ≤ b4_0.toInt) (H : Heap) (locs : List Loc) (ls : Array Slot), va_P (dC, dI) vwCl [(oo, Sum.inr (7, [Value.int osg, Value.int osm, Value.int ofc, Value.ref oca, Value.ref opa])), (oca, Sum.inl (cI, ol, Sum.inl ocf)), (opa, Sum.inl (cI, opl, Sum.inl opf))] H → va_D A [(oo, Sum.inr (7, [Value.int osg, Value.int osm, Value.int ofc, Value.ref oca, Value.ref opa])), (oca, Sum.inl (cI, ol, Sum.inl ocf)), (opa, Sum.inl (cI, opl, Sum.inl opf))] → va_S A s.heap H locs → lv_has ls 4 [(3, Value.int b4_0), (2, Value.int b4_1), (0, Value.ref oo), (1, Value.int ii)] → W p l e R s m args below meth c H locs 0 0 Q (F0 m 4 ls []) := by
    intro n9_4
    induction n9_4 using Nat.strongRecOn with
    | ind n9_4 ih9_4 =>
      intro b4_0 b4_1 hn9_4 hi_4 H locs ls hP hD hS hl
      refine lv_iload_n hx hb d_Odds_below_4 rfl (lv_at hl 0 rfl) ?_
      refine lv_iload_n hx hb d_Odds_below_5 rfl (lv_at hl 3 rfl) ?_
      refine lv_icmp_ge (tgt := 33) hx hb d_Odds_below_6 (by decide) (fun c_1 => ?_) (fun c_1 => ?_)
      · refine lv_iload_n hx hb d_Odds_below_33 rfl (lv_at hl 1 rfl) ?_
        exact my_iret (v := b4_1) hx hb hr (rfl) hlocks hQ hK hS (Nat.le_refl _) (Nat.le_refl _) () (trivial) (hP.sub [0, 1, 2] rfl) (hD.sub [0, 1, 2] (by decide +kernel) rfl) d_Odds_below_34
      · refine lv_iload_n hx hb d_Odds_below_9 rfl (lv_at hl 0 rfl) ?_
        refine lv_aload_n hx hb d_Odds_below_10 rfl (lv_at hl 2 rfl) ?_
        refine va_get (D := (dC, dI)) (ci := 7) (v := .ref oca) (C := "RangeCoders$Odds") (T := T_Odds) (N := 5) hx hb hg in_Odds hown hK hP 0 rfl rfl 3 (by decide) (hg _ k309) (fun _ h9 => h9) rfl d_Odds_below_11 ?_
        refine va_alen hx hb hK hP 1 0 rfl rfl (v := nI ol) rfl d_Odds_below_14 ?_
        refine lv_icmp_ge (tgt := 33) hx hb d_Odds_below_15 (by decide) (fun c_2 => ?_) (fun c_2 => ?_)
        · refine lv_iload_n hx hb d_Odds_below_33 rfl (lv_at hl 1 rfl) ?_
          exact my_iret (v := b4_1) hx hb hr (rfl) hlocks hQ hK hS (Nat.le_refl _) (Nat.le_refl _) () (trivial) (hP.sub [0, 1, 2] rfl) (hD.sub [0, 1, 2] (by decide +kernel) rfl) d_Odds_below_34
        · refine lv_iload_n hx hb d_Odds_below_18 rfl (lv_at hl 1 rfl) ?_
          refine lv_aload_n hx hb d_Odds_below_19 rfl (lv_at hl 2 rfl) ?_
          refine va_get (D := (dC, dI)) (ci := 7) (v := .ref oca) (C := "RangeCoders$Odds") (T := T_Odds) (N := 5) hx hb hg in_Odds hown hK hP 0 rfl rfl 3 (by decide) (hg _ k309) (fun _ h9 => h9) rfl d_Odds_below_20 ?_
          refine lv_iload_n hx hb d_Odds_below_23 rfl (lv_at hl 0 rfl) ?_
          refine va_iald hx hb hK hP 1 0 rfl rfl (by first | assumption | exact I_in (by omega) (by assumption) (by assumption) | exact I_in' (by omega) (by assumption) (by assumption)) d_Odds_below_24 ?_
          refine lv_topi (fun v_3 ev_3 => ?_)
          refine lv_iadd hx hb d_Odds_below_25 ?_
          refine lv_topi (fun v_4 ev_4 => ?_)
          refine lv_istore_n (lv' := [(2, Value.int v_4), (3, Value.int b4_0), (0, Value.ref oo), (1, Value.int ii)]) hx hb d_Odds_below_26 rfl hl (by decide) rfl (fun ls hl => ?_)
          obtain ⟨v_5, ev_5⟩ : ∃ y : Int32, y = b4_0 + (1) := ⟨_, rfl⟩
          refine lv_iinc (v := v_5) (lv' := [(3, Value.int v_5), (2, Value.int v_4), (0, Value.ref oo), (1, Value.int ii)]) hx hb d_Odds_below_27 hl (k := 1) rfl (by rw [ev_5]; rfl) (by decide) rfl (fun ls hl => ?_)
          refine lv_goto (tgt := 4) hx hb d_Odds_below_30 (by decide) ?_
          exact ih9_4 _ (by first | omega | (have z9 := I_up c_1 ev_5; omega)) v_5 v_4 rfl (by have z9 := I_up c_1 ev_5; omega) H locs ls (hP.sub [0, 1, 2] rfl) (hD.sub [0, 1, 2] (by decide +kernel) rfl) hS (lv_sub hl [0, 1, 2, 3] rfl)
  exact J_4 _ (0 : Int32) (0 : Int32) rfl (by first | decide | assumption | omega) H locs ls (hP.sub [0, 1, 2] rfl) (hD.sub [0, 1, 2] (by decide +kernel) rfl) hS (lv_sub hl [0, 1, 2, 3] rfl)
set_option maxHeartbeats 2000000 in
set_option maxRecDepth 100000 in
theorem c_Odds_signAt (l : Launch) (dC : Nat → ClassId) (dI : Nat → Nat → Nat) (cI cM cO : ClassId) (sz : Nat) (oo : Nat) (osg : Int32) (osm : Int32) (ofc : Int32) (oca : Nat) (opa : Nat) (ol : Nat) (ocf : Nat → Int32) (opl : Nat) (opf : Nat → Int32) (ii : Int32) (hol : ol ≤ 64) (hopl : opl ≤ 512) : MetI l y_Odds_signAt (Cond.code y_Odds_signAt prog_7_method_9_code 4 (some .int) :: gw) ({ frames := 0, cells := 0, slots := 0, locals := 0 } : Room) (dC, dI) vwCl (kT cI cM cO) [Value.ref oo, Value.int ii] [(oo, Sum.inr (7, [Value.int osg, Value.int osm, Value.int ofc, Value.ref oca, Value.ref opa])), (oca, Sum.inl (cI, ol, Sum.inl ocf)), (opa, Sum.inl (cI, opl, Sum.inl opf))] sz (fun (r : Int32) (u : Unit) => True) (fun (u : Unit) => [(oo, Sum.inr (7, [Value.int osg, Value.int osm, Value.int ofc, Value.ref oca, Value.ref opa])), (oca, Sum.inl (cI, ol, Sum.inl ocf)), (opa, Sum.inl (cI, opl, Sum.inl opf))]) 0 0 := by
  refine my_ofI (cc := prog_7_method_9_code) (n := 4) (ret := (some .int)) (by decide) rfl (Nat.le_of_ble_eq_true rfl) ?_
  intro p e s m args below meth c R Q A ls H locs hx hb hr hts hown hlocks hml hnm hR hQ hA hl hP hK hN hD hS
  have hg : ∀ w ∈ gw, w.before args s = true := fun w h => hts w (List.mem_cons_of_mem _ h)
  have hown : s.vm.findClass "RangeCoders$Odds" = some m.cls := hown
  have hl : lv_has ls 4 [(0, Value.ref oo), (1, Value.int ii)] := hl
  refine lv_iconst (v := 0) hx hb d_Odds_signAt_0 (by decide) ?_
  refine lv_istore_n (lv' := [(2, Value.int 0), (0, Value.ref oo), (1, Value.int ii)]) hx hb d_Odds_signAt_1 rfl hl (by decide) rfl (fun ls hl => ?_)
  refine lv_iconst (v := 0) hx hb d_Odds_signAt_2 (by decide) ?_
  refine lv_istore_n (lv' := [(3, Value.int 0), (2, Value.int 0), (0, Value.ref oo), (1, Value.int ii)]) hx hb d_Odds_signAt_3 rfl hl (by decide) rfl (fun ls hl => ?_)
  have J_4 : ∀ (n9_4 : Nat) (b4_0 : Int32) (b4_1 : Int32) (hn9_4 : ((nI ol).toInt - b4_0.toInt).toNat = n9_4) (hi_4 : 0 ≤ b4_0.toInt) (H : Heap) (locs : List Loc) (ls : Array Slot), va_P (dC, dI) vwCl [(oo, Sum.inr (7, [Value.int osg, Value.int osm, Value.int ofc, Value.ref oca, Value.ref opa])), (oca, Sum.inl (cI, ol, Sum.inl ocf)), (opa, Sum.inl (cI, opl, Sum.inl opf))] H → va_D A [(oo, Sum.inr (7, [Value.int osg, Value.int osm, Value.int ofc, Value.ref oca, Value.ref opa])), (oca, Sum.inl (cI, ol, Sum.inl ocf)), (opa, Sum.inl (cI, opl, Sum.inl opf))] → va_S A s.heap H locs → lv_has ls 4 [(3, Value.int b4_0), (2, Value.int b4_1), (0, Value.ref oo), (1, Value.int ii)] → W p l e R s m args below meth c H locs 0 0 Q (F0 m 4 ls []) := by
    intro n9_4
    induction n9_4 using Nat.strongRecOn with
    | ind n9_4 ih9_4 =>
      intro b4_0 b4_1 hn9_4 hi_4 H locs ls hP hD hS hl
      refine lv_iload_n hx hb d_Odds_signAt_4 rfl (lv_at hl 0 rfl) ?_
      refine lv_aload_n hx hb d_Odds_signAt_5 rfl (lv_at hl 2 rfl) ?_
      refine va_get (D := (dC, dI)) (ci := 7) (v := .ref oca) (C := "RangeCoders$Odds") (T := T_Odds) (N := 5) hx hb hg in_Odds hown hK hP 0 rfl rfl 3 (by decide) (hg _ k309) (fun _ h9 => h9) rfl d_Odds_signAt_6 ?_
      refine va_alen hx hb hK hP 1 0 rfl rfl (v := nI ol) rfl d_Odds_signAt_9 ?_
      refine lv_icmp_ge (tgt := 35) hx hb d_Odds_signAt_10 (by decide) (fun c_1 => ?_) (fun c_1 => ?_)
      · refine lv_iconst (v := (-1)) hx hb d_Odds_signAt_35 (by decide) ?_
        exact my_iret (v := (-1)) hx hb hr (rfl) hlocks hQ hK hS (Nat.le_refl _) (Nat.le_refl _) () (trivial) (hP.sub [0, 1, 2] rfl) (hD.sub [0, 1, 2] (by decide +kernel) rfl) d_Odds_signAt_36
      · refine lv_iload_n hx hb d_Odds_signAt_13 rfl (lv_at hl 1 rfl) ?_
        refine lv_aload_n hx hb d_Odds_signAt_14 rfl (lv_at hl 2 rfl) ?_
        refine va_get (D := (dC, dI)) (ci := 7) (v := .ref oca) (C := "RangeCoders$Odds") (T := T_Odds) (N := 5) hx hb hg in_Odds hown hK hP 0 rfl rfl 3 (by decide) (hg _ k309) (fun _ h9 => h9) rfl d_Odds_signAt_15 ?_
        refine lv_iload_n hx hb d_Odds_signAt_18 rfl (lv_at hl 0 rfl) ?_
        refine va_iald hx hb hK hP 1 0 rfl rfl (by first | assumption | exact I_in (by omega) (by assumption) (by assumption) | exact I_in' (by omega) (by assumption) (by assumption)) d_Odds_signAt_19 ?_
        refine lv_topi (fun v_2 ev_2 => ?_)
        refine lv_iadd hx hb d_Odds_signAt_20 ?_
        refine lv_topi (fun v_3 ev_3 => ?_)
        refine lv_istore_n (lv' := [(2, Value.int v_3), (3, Value.int b4_0), (0, Value.ref oo), (1, Value.int ii)]) hx hb d_Odds_signAt_21 rfl hl (by decide) rfl (fun ls hl => ?_)
        refine lv_iload_n hx hb d_Odds_signAt_22 rfl (lv_at hl 3 rfl) ?_
        refine lv_iload_n hx hb d_Odds_signAt_23 rfl (lv_at hl 0 rfl) ?_
        refine lv_icmp_ge (tgt := 29) hx hb d_Odds_signAt_24 (by decide) (fun c_4 => ?_) (fun c_4 => ?_)
        · obtain ⟨v_5, ev_5⟩ : ∃ y : Int32, y = b4_0 + (1) := ⟨_, rfl⟩
          refine lv_iinc (v := v_5) (lv' := [(3, Value.int v_5), (2, Value.int v_3), (0, Value.ref oo), (1, Value.int ii)]) hx hb d_Odds_signAt_29 hl (k := 1) rfl (by rw [ev_5]; rfl) (by decide) rfl (fun ls hl => ?_)
          refine lv_goto (tgt := 4) hx hb d_Odds_signAt_32 (by decide) ?_
          exact ih9_4 _ (by first | omega | (have z9 := I_up c_1 ev_5; omega)) v_5 v_3 rfl (by have z9 := I_up c_1 ev_5; omega) H locs ls (hP.sub [0, 1, 2] rfl) (hD.sub [0, 1, 2] (by decide +kernel) rfl) hS (lv_sub hl [0, 1, 2, 3] rfl)
        · refine lv_iload_n hx hb d_Odds_signAt_27 rfl (lv_at hl 1 rfl) ?_
          exact my_iret (v := b4_0) hx hb hr (rfl) hlocks hQ hK hS (Nat.le_refl _) (Nat.le_refl _) () (trivial) (hP.sub [0, 1, 2] rfl) (hD.sub [0, 1, 2] (by decide +kernel) rfl) d_Odds_signAt_28
  exact J_4 _ (0 : Int32) (0 : Int32) rfl (by first | decide | assumption | omega) H locs ls (hP.sub [0, 1, 2] rfl) (hD.sub [0, 1, 2] (by decide +kernel) rfl) hS (lv_sub hl [0, 1, 2, 3] rfl)
set_option maxHeartbeats 2000000 in
set_option maxRecDepth 100000 in
theorem c_Odds_greatest (l : Launch) (dC : Nat → ClassId) (dI : Nat → Nat → Nat) (cI cM cO : ClassId) (sz : Nat) (oo : Nat) (osg : Int32) (osm : Int32) (ofc : Int32) (oca : Nat) (opa : Nat) (ol : Nat) (ocf : Nat → Int32) (opl : Nat) (opf : Nat → Int32) (hol : ol ≤ 64) (hopl : opl ≤ 512) (hol0 : 1 ≤ ol) : MetI l y_Odds_greatest (Cond.code y_Odds_greatest prog_7_method_17_code 3 (some .int) :: gw) ({ frames := 0, cells := 0, slots := 0, locals := 0 } : Room) (dC, dI) vwCl (kT cI cM cO) [Value.ref oo] [(oo, Sum.inr (7, [Value.int osg, Value.int osm, Value.int ofc, Value.ref oca, Value.ref opa])), (oca, Sum.inl (cI, ol, Sum.inl ocf)), (opa, Sum.inl (cI, opl, Sum.inl opf))] sz (fun (r : Int32) (u : Unit) => True) (fun (u : Unit) => [(oo, Sum.inr (7, [Value.int osg, Value.int osm, Value.int ofc, Value.ref oca, Value.ref opa])), (oca, Sum.inl (cI, ol, Sum.inl ocf)), (opa, Sum.inl (cI, opl, Sum.inl opf))]) 0 0 := by
  refine my_ofI (cc := prog_7_method_17_code) (n := 3) (ret := (some .int)) (by decide) rfl (Nat.le_of_ble_eq_true rfl) ?_
  intro p e s m args below meth c R Q A ls H locs hx hb hr hts hown hlocks hml hnm hR hQ hA hl hP hK hN hD hS
  have hg : ∀ w ∈ gw, w.before args s = true := fun w h => hts w (List.mem_cons_of_mem _ h)
  have hown : s.vm.findClass "RangeCoders$Odds" = some m.cls := hown
  have hl : lv_has ls 3 [(0, Value.ref oo)] := hl
  refine lv_iconst (v := 0) hx hb d_Odds_greatest_0 (by decide) ?_
  refine lv_istore_n (lv' := [(1, Value.int 0), (0, Value.ref oo)]) hx hb d_Odds_greatest_1 rfl hl (by decide) rfl (fun ls hl => ?_)
  refine lv_iconst (v := 1) hx hb d_Odds_greatest_2 (by decide) ?_
  refine lv_istore_n (lv' := [(2, Value.int 1), (1, Value.int 0), (0, Value.ref oo)]) hx hb d_Odds_greatest_3 rfl hl (by decide) rfl (fun ls hl => ?_)
  have J_4 : ∀ (n9_4 : Nat) (b4_0 : Int32) (b4_1 : Int32) (hn9_4 : ((nI ol).toInt - b4_0.toInt).toNat = n9_4) (hi_4 : 0 ≤ b4_0.toInt) (hg9 : vp_in b4_1 ol) (H : Heap) (locs : List Loc) (ls : Array Slot), va_P (dC, dI) vwCl [(oo, Sum.inr (7, [Value.int osg, Value.int osm, Value.int ofc, Value.ref oca, Value.ref opa])), (oca, Sum.inl (cI, ol, Sum.inl ocf)), (opa, Sum.inl (cI, opl, Sum.inl opf))] H → va_D A [(oo, Sum.inr (7, [Value.int osg, Value.int osm, Value.int ofc, Value.ref oca, Value.ref opa])), (oca, Sum.inl (cI, ol, Sum.inl ocf)), (opa, Sum.inl (cI, opl, Sum.inl opf))] → va_S A s.heap H locs → lv_has ls 3 [(2, Value.int b4_0), (1, Value.int b4_1), (0, Value.ref oo)] → W p l e R s m args below meth c H locs 0 0 Q (F0 m 4 ls []) := by
    intro n9_4
    induction n9_4 using Nat.strongRecOn with
    | ind n9_4 ih9_4 =>
      intro b4_0 b4_1 hn9_4 hi_4 hg9 H locs ls hP hD hS hl
      refine lv_iload_n hx hb d_Odds_greatest_4 rfl (lv_at hl 0 rfl) ?_
      refine lv_aload_n hx hb d_Odds_greatest_5 rfl (lv_at hl 2 rfl) ?_
      refine va_get (D := (dC, dI)) (ci := 7) (v := .ref oca) (C := "RangeCoders$Odds") (T := T_Odds) (N := 5) hx hb hg in_Odds hown hK hP 0 rfl rfl 3 (by decide) (hg _ k309) (fun _ h9 => h9) rfl d_Odds_greatest_6 ?_
      refine va_alen hx hb hK hP 1 0 rfl rfl (v := nI ol) rfl d_Odds_greatest_9 ?_
      refine lv_icmp_ge (tgt := 36) hx hb d_Odds_greatest_10 (by decide) (fun c_1 => ?_) (fun c_1 => ?_)
      · refine lv_iload_n hx hb d_Odds_greatest_36 rfl (lv_at hl 1 rfl) ?_
        exact my_iret (v := b4_1) hx hb hr (rfl) hlocks hQ hK hS (Nat.le_refl _) (Nat.le_refl _) () (trivial) (hP.sub [0, 1, 2] rfl) (hD.sub [0, 1, 2] (by decide +kernel) rfl) d_Odds_greatest_37
      · refine lv_aload_n hx hb d_Odds_greatest_13 rfl (lv_at hl 2 rfl) ?_
        refine va_get (D := (dC, dI)) (ci := 7) (v := .ref oca) (C := "RangeCoders$Odds") (T := T_Odds) (N := 5) hx hb hg in_Odds hown hK hP 0 rfl rfl 3 (by decide) (hg _ k309) (fun _ h9 => h9) rfl d_Odds_greatest_14 ?_
        refine lv_iload_n hx hb d_Odds_greatest_17 rfl (lv_at hl 0 rfl) ?_
        refine va_iald hx hb hK hP 1 0 rfl rfl (by first | assumption | exact I_in (by omega) (by assumption) (by assumption) | exact I_in' (by omega) (by assumption) (by assumption)) d_Odds_greatest_18 ?_
        refine lv_topi (fun v_2 ev_2 => ?_)
        refine lv_aload_n hx hb d_Odds_greatest_19 rfl (lv_at hl 2 rfl) ?_
        refine va_get (D := (dC, dI)) (ci := 7) (v := .ref oca) (C := "RangeCoders$Odds") (T := T_Odds) (N := 5) hx hb hg in_Odds hown hK hP 0 rfl rfl 3 (by decide) (hg _ k309) (fun _ h9 => h9) rfl d_Odds_greatest_20 ?_
        refine lv_iload_n hx hb d_Odds_greatest_23 rfl (lv_at hl 1 rfl) ?_
        refine va_iald hx hb hK hP 1 0 rfl rfl (by first | assumption | exact I_in (by omega) (by assumption) (by assumption) | exact I_in' (by omega) (by assumption) (by assumption)) d_Odds_greatest_24 ?_
        refine lv_topi (fun v_3 ev_3 => ?_)
        refine lv_icmp_le (tgt := 30) hx hb d_Odds_greatest_25 (by decide) (fun c_4 => ?_) (fun c_4 => ?_)
        · obtain ⟨v_5, ev_5⟩ : ∃ y : Int32, y = b4_0 + (1) := ⟨_, rfl⟩
          refine lv_iinc (v := v_5) (lv' := [(2, Value.int v_5), (1, Value.int b4_1), (0, Value.ref oo)]) hx hb d_Odds_greatest_30 hl (k := 0) rfl (by rw [ev_5]; rfl) (by decide) rfl (fun ls hl => ?_)
          refine lv_goto (tgt := 4) hx hb d_Odds_greatest_33 (by decide) ?_
          exact ih9_4 _ (by first | omega | (have z9 := I_up c_1 ev_5; omega)) v_5 b4_1 rfl (by have z9 := I_up c_1 ev_5; omega) (by first | assumption | exact I_in (by omega) (by assumption) (by assumption) | exact I_in (by omega) (by decide) (by rw [Int32.le_iff_toInt_le, nI_toInt (by omega)]; have e0 : (0 : Int32).toInt = 0 := rfl; rw [e0]; omega)) H locs ls (hP.sub [0, 1, 2] rfl) (hD.sub [0, 1, 2] (by decide +kernel) rfl) hS (lv_sub hl [0, 1, 2] rfl)
        · refine lv_iload_n hx hb d_Odds_greatest_28 rfl (lv_at hl 0 rfl) ?_
          refine lv_istore_n (lv' := [(1, Value.int b4_0), (2, Value.int b4_0), (0, Value.ref oo)]) hx hb d_Odds_greatest_29 rfl hl (by decide) rfl (fun ls hl => ?_)
          obtain ⟨v_6, ev_6⟩ : ∃ y : Int32, y = b4_0 + (1) := ⟨_, rfl⟩
          refine lv_iinc (v := v_6) (lv' := [(2, Value.int v_6), (1, Value.int b4_0), (0, Value.ref oo)]) hx hb d_Odds_greatest_30 hl (k := 1) rfl (by rw [ev_6]; rfl) (by decide) rfl (fun ls hl => ?_)
          refine lv_goto (tgt := 4) hx hb d_Odds_greatest_33 (by decide) ?_
          exact ih9_4 _ (by first | omega | (have z9 := I_up c_1 ev_6; omega)) v_6 b4_0 rfl (by have z9 := I_up c_1 ev_6; omega) (by first | assumption | exact I_in (by omega) (by assumption) (by assumption) | exact I_in (by omega) (by decide) (by rw [Int32.le_iff_toInt_le, nI_toInt (by omega)]; have e0 : (0 : Int32).toInt = 0 := rfl; rw [e0]; omega)) H locs ls (hP.sub [0, 1, 2] rfl) (hD.sub [0, 1, 2] (by decide +kernel) rfl) hS (lv_sub hl [0, 1, 2] rfl)
  exact J_4 _ (1 : Int32) (0 : Int32) rfl (by first | decide | assumption | omega) (by first | assumption | exact I_in (by omega) (by assumption) (by assumption) | exact I_in (by omega) (by decide) (by rw [Int32.le_iff_toInt_le, nI_toInt (by omega)]; have e0 : (0 : Int32).toInt = 0 := rfl; rw [e0]; omega)) H locs ls (hP.sub [0, 1, 2] rfl) (hD.sub [0, 1, 2] (by decide +kernel) rfl) hS (lv_sub hl [0, 1, 2] rfl)
set_option maxHeartbeats 2000000 in
set_option maxRecDepth 100000 in
theorem c_Odds_scaleTo (l : Launch) (dC : Nat → ClassId) (dI : Nat → Nat → Nat) (cI cM cO : ClassId) (sz : Nat) (oo : Nat) (osg : Int32) (osm : Int32) (ofc : Int32) (oca : Nat) (opa : Nat) (ol : Nat) (ocf : Nat → Int32) (opl : Nat) (opf : Nat → Int32) (ww : Int32) (ka : Nat) (kl : Nat) (kf : Nat → Int32) (hol : ol ≤ 64) (hopl : opl ≤ 512) (hkl : kl ≤ 64) (hol0 : 1 ≤ ol) : MetV l y_Odds_scaleTo (Cond.code y_Odds_scaleTo prog_7_method_10_code 5 none :: gw) ({ frames := 2, cells := 0, slots := 0, locals := 43 } : Room) (dC, dI) vwCl (kT cI cM cO) [Value.ref oo, Value.int ww, Value.ref ka] [(oo, Sum.inr (7, [Value.int osg, Value.int osm, Value.int ofc, Value.ref oca, Value.ref opa])), (oca, Sum.inl (cI, ol, Sum.inl ocf)), (opa, Sum.inl (cI, opl, Sum.inl opf)), (ka, Sum.inl (cI, kl, Sum.inl kf))] sz (fun (u : Int32 × (Nat → Int32)) => True) (fun (u : Int32 × (Nat → Int32)) => [(oo, Sum.inr (7, [Value.int osg, Value.int u.1, Value.int ofc, Value.ref oca, Value.ref opa])), (oca, Sum.inl (cI, ol, Sum.inl u.2)), (opa, Sum.inl (cI, opl, Sum.inl opf)), (ka, Sum.inl (cI, kl, Sum.inl kf))]) 0 0 := by
  refine my_ofV (cc := prog_7_method_10_code) (n := 5) (ret := none) (by decide) rfl (Nat.le_of_ble_eq_true rfl) ?_
  intro p e s m args below meth c R Q A ls H locs hx hb hr hts hown hlocks hml hnm hR hQ hA hl hP hK hN hD hS
  have hg : ∀ w ∈ gw, w.before args s = true := fun w h => hts w (List.mem_cons_of_mem _ h)
  have hown : s.vm.findClass "RangeCoders$Odds" = some m.cls := hown
  have hl : lv_has ls 5 [(0, Value.ref oo), (1, Value.int ww), (2, Value.ref ka)] := hl
  refine lv_aload_n hx hb d_Odds_scaleTo_0 rfl (lv_at hl 0 rfl) ?_
  refine lv_aload_n hx hb d_Odds_scaleTo_1 rfl (lv_at hl 2 rfl) ?_
  refine my_cv (wr := []) (va_runV (As := [Value.ref ka]) (rest := []) ⟨hx, hb, hml, hown, hts⟩ (c_Odds_copyCounts l dC dI cI cM cO H.size oo osg osm ofc oca opa ol ocf opl opf ka kl kf (by first | assumption | omega) (by first | assumption | omega) (by first | assumption | omega)) (cwV 1 hts (my_gV k371 k373 ks0 k14 k374) rfl rfl rfl cu_Odds_copyCounts_1 ⟨by rw [hR]; exact Nat.le_of_ble_eq_true rfl, by rw [hR]; exact Nat.le_of_ble_eq_true rfl⟩) (my_preV hK hN (hP.sub [0, 1, 2, 3] rfl) (hD.sub [0, 1, 2, 3] (by decide +kernel) rfl) 0 rfl rfl) rfl rfl hl.1 rfl (lv_room (Nat.le_of_ble_eq_true rfl)) d_Odds_scaleTo_2 ⟨by rw [hR]; exact Nat.le_of_ble_eq_true rfl, by rw [hR]; exact Nat.le_of_ble_eq_true rfl⟩) hP hD hS hA [0, 1, 2, 3] [] rfl rfl (by decide +kernel) (by decide +kernel) (fun u9 H locs hw_2 hP hD hS => ?_)
  obtain ⟨osmq_2, ocfq_2⟩ := u9
  have hPD : my_PD (dC, dI) vwCl A [(oo, Sum.inr (7, [Value.int osg, Value.int osmq_2, Value.int ofc, Value.ref oca, Value.ref opa])), (oca, Sum.inl (cI, ol, Sum.inl ocfq_2)), (opa, Sum.inl (cI, opl, Sum.inl opf)), (ka, Sum.inl (cI, kl, Sum.inl kf))] H := ⟨hP, hD⟩
  have hP := hPD.1
  have hD := hPD.2
  refine lv_aload_n hx hb d_Odds_scaleTo_5 rfl (lv_at hl 0 rfl) ?_
  refine va_get (D := (dC, dI)) (ci := 7) (v := .int osmq_2) (C := "RangeCoders$Odds") (T := T_Odds) (N := 5) hx hb hg in_Odds hown hK hP 0 rfl rfl 1 (by decide) (hg _ k305) (fun _ h9 => h9) rfl d_Odds_scaleTo_6 ?_
  refine lv_istore_n (lv' := [(3, Value.int osmq_2), (0, Value.ref oo), (1, Value.int ww), (2, Value.ref ka)]) hx hb d_Odds_scaleTo_9 rfl hl (by decide) rfl (fun ls hl => ?_)
  refine lv_iload_n hx hb d_Odds_scaleTo_10 rfl (lv_at hl 0 rfl) ?_
  refine lv_if_gt (tgt := 15) hx hb d_Odds_scaleTo_11 (by decide) (fun c_1 => ?_) (fun c_1 => ?_)
  · refine lv_aload_n hx hb d_Odds_scaleTo_15 rfl (lv_at hl 1 rfl) ?_
    refine lv_iconst (v := 0) hx hb d_Odds_scaleTo_16 (by decide) ?_
    refine va_put (D := (dC, dI)) (ci := 7) (v := .int 0) (ty := .int) (C := "RangeCoders$Odds") (T := T_Odds) (N := 5) hx hb hg in_Odds t_Odds o_Odds n_Odds hown hK hP hD hS 0 rfl rfl 1 (by decide) (hg _ k305) (fun _ h9 => h9) rfl (o_Odds 1 (by decide)) rfl rfl (Nat.le_of_ble_eq_true rfl) d_Odds_scaleTo_17 (fun H locs hP hD hS => ?_)
    have hPD : my_PD (dC, dI) vwCl A [(oo, Sum.inr (7, [Value.int osg, Value.int 0, Value.int ofc, Value.ref oca, Value.ref opa])), (oca, Sum.inl (cI, ol, Sum.inl ocfq_2)), (opa, Sum.inl (cI, opl, Sum.inl opf)), (ka, Sum.inl (cI, kl, Sum.inl kf))] H := ⟨hP, hD⟩
    have hP := hPD.1
    have hD := hPD.2
    refine lv_iconst (v := 0) hx hb d_Odds_scaleTo_20 (by decide) ?_
    refine lv_istore (lv' := [(4, Value.int 0), (3, Value.int osmq_2), (0, Value.ref oo), (1, Value.int ww), (2, Value.ref ka)]) hx hb d_Odds_scaleTo_21 hl (by decide) rfl (fun ls hl => ?_)
    have J_23 : ∀ (n9_23 : Nat) (b23_0 : Int32) (b23_1 : Int32) (b23_2 : Nat → Int32) (hn9_23 : ((nI ol).toInt - b23_0.toInt).toNat = n9_23) (hi_23 : 0 ≤ b23_0.toInt) (H : Heap) (locs : List Loc) (ls : Array Slot), va_P (dC, dI) vwCl [(oo, Sum.inr (7, [Value.int osg, Value.int b23_1, Value.int ofc, Value.ref oca, Value.ref opa])), (oca, Sum.inl (cI, ol, Sum.inl b23_2)), (opa, Sum.inl (cI, opl, Sum.inl opf)), (ka, Sum.inl (cI, kl, Sum.inl kf))] H → va_D A [(oo, Sum.inr (7, [Value.int osg, Value.int b23_1, Value.int ofc, Value.ref oca, Value.ref opa])), (oca, Sum.inl (cI, ol, Sum.inl b23_2)), (opa, Sum.inl (cI, opl, Sum.inl opf)), (ka, Sum.inl (cI, kl, Sum.inl kf))] → va_S A s.heap H locs → lv_has ls 5 [(4, Value.int b23_0), (3, Value.int osmq_2), (0, Value.ref oo), (1, Value.int ww), (2, Value.ref ka)] → W p l e R s m args below meth c H locs 0 0 Q (F0 m 23 ls []) := by
      intro n9_23
      induction n9_23 using Nat.strongRecOn with
      | ind n9_23 ih9_23 =>
        intro b23_0 b23_1 b23_2 hn9_23 hi_23 H locs ls hP hD hS hl
        refine lv_iload hx hb d_Odds_scaleTo_23 (lv_at hl 0 rfl) ?_
        refine lv_aload_n hx hb d_Odds_scaleTo_25 rfl (lv_at hl 2 rfl) ?_
        refine va_get (D := (dC, dI)) (ci := 7) (v := .ref oca) (C := "RangeCoders$Odds") (T := T_Odds) (N := 5) hx hb hg in_Odds hown hK hP 0 rfl rfl 3 (by decide) (hg _ k309) (fun _ h9 => h9) rfl d_Odds_scaleTo_26 ?_
        refine va_alen hx hb hK hP 1 0 rfl rfl (v := nI ol) rfl d_Odds_scaleTo_29 ?_
        refine lv_icmp_ge (tgt := 91) hx hb d_Odds_scaleTo_30 (by decide) (fun c_2 => ?_) (fun c_2 => ?_)
        · refine lv_aload_n hx hb d_Odds_scaleTo_91 rfl (lv_at hl 2 rfl) ?_
          refine va_get (D := (dC, dI)) (ci := 7) (v := .int b23_1) (C := "RangeCoders$Odds") (T := T_Odds) (N := 5) hx hb hg in_Odds hown hK hP 0 rfl rfl 1 (by decide) (hg _ k305) (fun _ h9 => h9) rfl d_Odds_scaleTo_92 ?_
          refine lv_iload_n hx hb d_Odds_scaleTo_95 rfl (lv_at hl 3 rfl) ?_
          refine lv_isub hx hb d_Odds_scaleTo_96 ?_
          refine lv_topi (fun v_3 ev_3 => ?_)
          refine lv_istore (lv' := [(4, Value.int v_3), (3, Value.int osmq_2), (0, Value.ref oo), (1, Value.int ww), (2, Value.ref ka)]) hx hb d_Odds_scaleTo_97 hl (by decide) rfl (fun ls hl => ?_)
          have J_99 : ∀ (n9_99 : Nat) (b99_0 : Int32) (b99_1 : Int32) (b99_2 : Nat → Int32) (hn9_99 : b99_0.toInt.toNat = n9_99) (H : Heap) (locs : List Loc) (ls : Array Slot), va_P (dC, dI) vwCl [(oo, Sum.inr (7, [Value.int osg, Value.int b99_1, Value.int ofc, Value.ref oca, Value.ref opa])), (oca, Sum.inl (cI, ol, Sum.inl b99_2)), (opa, Sum.inl (cI, opl, Sum.inl opf)), (ka, Sum.inl (cI, kl, Sum.inl kf))] H → va_D A [(oo, Sum.inr (7, [Value.int osg, Value.int b99_1, Value.int ofc, Value.ref oca, Value.ref opa])), (oca, Sum.inl (cI, ol, Sum.inl b99_2)), (opa, Sum.inl (cI, opl, Sum.inl opf)), (ka, Sum.inl (cI, kl, Sum.inl kf))] → va_S A s.heap H locs → lv_has ls 5 [(4, Value.int b99_0), (3, Value.int osmq_2), (0, Value.ref oo), (1, Value.int ww), (2, Value.ref ka)] → W p l e R s m args below meth c H locs 0 0 Q (F0 m 99 ls []) := by
            intro n9_99
            induction n9_99 using Nat.strongRecOn with
            | ind n9_99 ih9_99 =>
              intro b99_0 b99_1 b99_2 hn9_99  H locs ls hP hD hS hl
              refine lv_iload hx hb d_Odds_scaleTo_99 (lv_at hl 0 rfl) ?_
              refine lv_if_le (tgt := 119) hx hb d_Odds_scaleTo_101 (by decide) (fun c_4 => ?_) (fun c_4 => ?_)
              · refine lv_aload_n hx hb d_Odds_scaleTo_119 rfl (lv_at hl 2 rfl) ?_
                refine lv_aload_n hx hb d_Odds_scaleTo_120 rfl (lv_at hl 2 rfl) ?_
                refine my_ci (wr := [(ka, Sum.inl (cI, kl, Sum.inl kf))]) (va_runV (As := []) (rest := [Value.ref oo]) ⟨hx, hb, hml, hown, hts⟩ (c_Odds_greatest l dC dI cI cM cO H.size oo osg b99_1 ofc oca opa ol b99_2 opl opf (by first | assumption | omega) (by first | assumption | omega) (by first | assumption | omega)) (cwV 0 hts (my_gV k388 k390 ks2 k14 k391) rfl rfl rfl cu_Odds_greatest_0 ⟨by rw [hR]; exact Nat.le_of_ble_eq_true rfl, by rw [hR]; exact Nat.le_of_ble_eq_true rfl⟩) (my_preV hK hN (hP.sub [0, 1, 2] rfl) (hD.sub [0, 1, 2] (by decide +kernel) rfl) 0 rfl rfl) rfl rfl hl.1 rfl (lv_room (Nat.le_of_ble_eq_true rfl)) d_Odds_scaleTo_121 ⟨by rw [hR]; exact Nat.le_of_ble_eq_true rfl, by rw [hR]; exact Nat.le_of_ble_eq_true rfl⟩) hP hD hS hA [0, 1, 2] [3] rfl rfl (by decide +kernel) (by decide +kernel) (fun r_121 u9 H locs hw_121 hP hD hS => ?_)
                have hPD : my_PD (dC, dI) vwCl A [(ka, Sum.inl (cI, kl, Sum.inl kf)), (oo, Sum.inr (7, [Value.int osg, Value.int b99_1, Value.int ofc, Value.ref oca, Value.ref opa])), (oca, Sum.inl (cI, ol, Sum.inl b99_2)), (opa, Sum.inl (cI, opl, Sum.inl opf))] H := ⟨hP, hD⟩
                have hP := hPD.1
                have hD := hPD.2
                refine lv_iload_n hx hb d_Odds_scaleTo_124 rfl (lv_at hl 3 rfl) ?_
                refine lv_aload_n hx hb d_Odds_scaleTo_125 rfl (lv_at hl 2 rfl) ?_
                refine va_get (D := (dC, dI)) (ci := 7) (v := .int b99_1) (C := "RangeCoders$Odds") (T := T_Odds) (N := 5) hx hb hg in_Odds hown hK hP 1 rfl rfl 1 (by decide) (hg _ k305) (fun _ h9 => h9) rfl d_Odds_scaleTo_126 ?_
                refine lv_isub hx hb d_Odds_scaleTo_129 ?_
                refine lv_topi (fun v_5 ev_5 => ?_)
                refine my_cv (wr := [(ka, Sum.inl (cI, kl, Sum.inl kf))]) (va_runV (As := [Value.int r_121, Value.int v_5]) (rest := []) ⟨hx, hb, hml, hown, hts⟩ (c_Odds_grow l dC dI cI cM cO H.size oo osg b99_1 ofc oca opa ol b99_2 opl opf r_121 v_5 (by first | assumption | omega) (by first | assumption | omega)) (cwV 2 hts (my_gV k392 k393 k394 k14 k395) rfl rfl rfl cu_Odds_grow_2 ⟨by rw [hR]; exact Nat.le_of_ble_eq_true rfl, by rw [hR]; exact Nat.le_of_ble_eq_true rfl⟩) (my_preV hK hN (hP.sub [1, 2, 3] rfl) (hD.sub [1, 2, 3] (by decide +kernel) rfl) 0 rfl rfl) rfl rfl hl.1 rfl (lv_room (Nat.le_of_ble_eq_true rfl)) d_Odds_scaleTo_130 ⟨by rw [hR]; exact Nat.le_of_ble_eq_true rfl, by rw [hR]; exact Nat.le_of_ble_eq_true rfl⟩) hP hD hS hA [1, 2, 3] [0] rfl rfl (by decide +kernel) (by decide +kernel) (fun u9 H locs hw_130 hP hD hS => ?_)
                obtain ⟨osmq_130, ocfq_130⟩ := u9
                have hPD : my_PD (dC, dI) vwCl A [(ka, Sum.inl (cI, kl, Sum.inl kf)), (oo, Sum.inr (7, [Value.int osg, Value.int osmq_130, Value.int ofc, Value.ref oca, Value.ref opa])), (oca, Sum.inl (cI, ol, Sum.inl ocfq_130)), (opa, Sum.inl (cI, opl, Sum.inl opf))] H := ⟨hP, hD⟩
                have hP := hPD.1
                have hD := hPD.2
                exact my_vret hx hb hr hlocks hQ hK hS (Nat.le_refl _) (Nat.le_refl _) (osmq_130, ocfq_130) (trivial) (hP.sub [1, 2, 3, 0] rfl) (hD.sub [1, 2, 3, 0] (by decide +kernel) rfl) d_Odds_scaleTo_133
              · refine lv_aload_n hx hb d_Odds_scaleTo_104 rfl (lv_at hl 2 rfl) ?_
                refine lv_aload_n hx hb d_Odds_scaleTo_105 rfl (lv_at hl 2 rfl) ?_
                refine my_ci (wr := [(ka, Sum.inl (cI, kl, Sum.inl kf))]) (va_runV (As := []) (rest := [Value.ref oo]) ⟨hx, hb, hml, hown, hts⟩ (c_Odds_greatest l dC dI cI cM cO H.size oo osg b99_1 ofc oca opa ol b99_2 opl opf (by first | assumption | omega) (by first | assumption | omega) (by first | assumption | omega)) (cwV 0 hts (my_gV k388 k390 ks2 k14 k391) rfl rfl rfl cu_Odds_greatest_0 ⟨by rw [hR]; exact Nat.le_of_ble_eq_true rfl, by rw [hR]; exact Nat.le_of_ble_eq_true rfl⟩) (my_preV hK hN (hP.sub [0, 1, 2] rfl) (hD.sub [0, 1, 2] (by decide +kernel) rfl) 0 rfl rfl) rfl rfl hl.1 rfl (lv_room (Nat.le_of_ble_eq_true rfl)) d_Odds_scaleTo_106 ⟨by rw [hR]; exact Nat.le_of_ble_eq_true rfl, by rw [hR]; exact Nat.le_of_ble_eq_true rfl⟩) hP hD hS hA [0, 1, 2] [3] rfl rfl (by decide +kernel) (by decide +kernel) (fun r_106 u9 H locs hw_106 hP hD hS => ?_)
                have hPD : my_PD (dC, dI) vwCl A [(ka, Sum.inl (cI, kl, Sum.inl kf)), (oo, Sum.inr (7, [Value.int osg, Value.int b99_1, Value.int ofc, Value.ref oca, Value.ref opa])), (oca, Sum.inl (cI, ol, Sum.inl b99_2)), (opa, Sum.inl (cI, opl, Sum.inl opf))] H := ⟨hP, hD⟩
                have hP := hPD.1
                have hD := hPD.2
                refine lv_iconst (v := (-1)) hx hb d_Odds_scaleTo_109 (by decide) ?_
                refine my_cv (wr := [(ka, Sum.inl (cI, kl, Sum.inl kf))]) (va_runV (As := [Value.int r_106, Value.int (-1)]) (rest := []) ⟨hx, hb, hml, hown, hts⟩ (c_Odds_grow l dC dI cI cM cO H.size oo osg b99_1 ofc oca opa ol b99_2 opl opf r_106 (-1) (by first | assumption | omega) (by first | assumption | omega)) (cwV 2 hts (my_gV k392 k393 k394 k14 k395) rfl rfl rfl cu_Odds_grow_2 ⟨by rw [hR]; exact Nat.le_of_ble_eq_true rfl, by rw [hR]; exact Nat.le_of_ble_eq_true rfl⟩) (my_preV hK hN (hP.sub [1, 2, 3] rfl) (hD.sub [1, 2, 3] (by decide +kernel) rfl) 0 rfl rfl) rfl rfl hl.1 rfl (lv_room (Nat.le_of_ble_eq_true rfl)) d_Odds_scaleTo_110 ⟨by rw [hR]; exact Nat.le_of_ble_eq_true rfl, by rw [hR]; exact Nat.le_of_ble_eq_true rfl⟩) hP hD hS hA [1, 2, 3] [0] rfl rfl (by decide +kernel) (by decide +kernel) (fun u9 H locs hw_110 hP hD hS => ?_)
                obtain ⟨osmq_110, ocfq_110⟩ := u9
                have hPD : my_PD (dC, dI) vwCl A [(ka, Sum.inl (cI, kl, Sum.inl kf)), (oo, Sum.inr (7, [Value.int osg, Value.int osmq_110, Value.int ofc, Value.ref oca, Value.ref opa])), (oca, Sum.inl (cI, ol, Sum.inl ocfq_110)), (opa, Sum.inl (cI, opl, Sum.inl opf))] H := ⟨hP, hD⟩
                have hP := hPD.1
                have hD := hPD.2
                obtain ⟨v_6, ev_6⟩ : ∃ y : Int32, y = b99_0 + (-1) := ⟨_, rfl⟩
                refine lv_iinc (v := v_6) (lv' := [(4, Value.int v_6), (3, Value.int osmq_2), (0, Value.ref oo), (1, Value.int ww), (2, Value.ref ka)]) hx hb d_Odds_scaleTo_113 hl (k := 0) rfl (by rw [ev_6]; rfl) (by decide) rfl (fun ls hl => ?_)
                refine lv_goto (tgt := 99) hx hb d_Odds_scaleTo_116 (by decide) ?_
                exact ih9_99 _ (by first | omega | (have z9 := I_dnp c_4 ev_6; omega)) v_6 osmq_110 ocfq_110 rfl  H locs ls (hP.sub [1, 2, 3, 0] rfl) (hD.sub [1, 2, 3, 0] (by decide +kernel) rfl) hS (lv_sub hl [0, 1, 2, 3, 4] rfl)
          exact J_99 _ v_3 b23_1 b23_2 rfl  H locs ls (hP.sub [0, 1, 2, 3] rfl) (hD.sub [0, 1, 2, 3] (by decide +kernel) rfl) hS (lv_sub hl [0, 1, 2, 3, 4] rfl)
        · refine lv_aload_n hx hb d_Odds_scaleTo_33 rfl (lv_at hl 2 rfl) ?_
          refine va_get (D := (dC, dI)) (ci := 7) (v := .ref oca) (C := "RangeCoders$Odds") (T := T_Odds) (N := 5) hx hb hg in_Odds hown hK hP 0 rfl rfl 3 (by decide) (hg _ k309) (fun _ h9 => h9) rfl d_Odds_scaleTo_34 ?_
          refine lv_iload hx hb d_Odds_scaleTo_37 (lv_at hl 0 rfl) ?_
          refine lv_aload_n hx hb d_Odds_scaleTo_39 rfl (lv_at hl 2 rfl) ?_
          refine va_get (D := (dC, dI)) (ci := 7) (v := .ref oca) (C := "RangeCoders$Odds") (T := T_Odds) (N := 5) hx hb hg in_Odds hown hK hP 0 rfl rfl 3 (by decide) (hg _ k309) (fun _ h9 => h9) rfl d_Odds_scaleTo_40 ?_
          refine lv_iload hx hb d_Odds_scaleTo_43 (lv_at hl 0 rfl) ?_
          refine va_iald hx hb hK hP 1 0 rfl rfl (by first | assumption | exact I_in (by omega) (by assumption) (by assumption) | exact I_in' (by omega) (by assumption) (by assumption)) d_Odds_scaleTo_45 ?_
          refine lv_topi (fun v_7 ev_7 => ?_)
          refine lv_if_ne (tgt := 53) hx hb d_Odds_scaleTo_46 (by decide) (fun c_8 => ?_) (fun c_8 => ?_)
          · refine lv_iconst (v := 1) hx hb d_Odds_scaleTo_53 (by decide) ?_
            refine lv_aload_n hx hb d_Odds_scaleTo_54 rfl (lv_at hl 2 rfl) ?_
            refine va_get (D := (dC, dI)) (ci := 7) (v := .ref oca) (C := "RangeCoders$Odds") (T := T_Odds) (N := 5) hx hb hg in_Odds hown hK hP 0 rfl rfl 3 (by decide) (hg _ k309) (fun _ h9 => h9) rfl d_Odds_scaleTo_55 ?_
            refine lv_iload hx hb d_Odds_scaleTo_58 (lv_at hl 0 rfl) ?_
            refine va_iald hx hb hK hP 1 0 rfl rfl (by first | assumption | exact I_in (by omega) (by assumption) (by assumption) | exact I_in' (by omega) (by assumption) (by assumption)) d_Odds_scaleTo_60 ?_
            refine lv_topi (fun v_9 ev_9 => ?_)
            refine lv_iload_n hx hb d_Odds_scaleTo_61 rfl (lv_at hl 3 rfl) ?_
            refine lv_imul hx hb d_Odds_scaleTo_62 ?_
            refine lv_topi (fun v_10 ev_10 => ?_)
            refine lv_iload_n hx hb d_Odds_scaleTo_63 rfl (lv_at hl 1 rfl) ?_
            refine lv_idiv hx hb d_Odds_scaleTo_64 (by first | decide | exact I_nzp (by assumption) | exact I_nz (by assumption)) ?_
            refine lv_topi (fun v_11 ev_11 => ?_)
            refine va_mmax hx hb (by rw [hml]; exact hl.1.symm) hown (hg _ k387) (hg _ k34) (hg _ k2) (hg _ k35) (by rw [hR]; exact Nat.le_of_ble_eq_true rfl) (by rw [hR]; exact Nat.le_of_ble_eq_true rfl) (Nat.zero_le _) (Nat.zero_le _) d_Odds_scaleTo_65 ?_
            refine lv_topi (fun v_12 ev_12 => ?_)
            refine va_iast hx hb hK hP hD hS 1 0 rfl rfl (by first | assumption | exact I_in (by omega) (by assumption) (by assumption) | exact I_in' (by omega) (by assumption) (by assumption)) d_Odds_scaleTo_68 (fun H locs hP hD hS => ?_)
            have hPD : my_PD (dC, dI) vwCl A [(oo, Sum.inr (7, [Value.int osg, Value.int b23_1, Value.int ofc, Value.ref oca, Value.ref opa])), (oca, Sum.inl (cI, ol, Sum.inl (upd b23_2 b23_0.toNatClampNeg v_12))), (opa, Sum.inl (cI, opl, Sum.inl opf)), (ka, Sum.inl (cI, kl, Sum.inl kf))] H := ⟨hP, hD⟩
            have hP := hPD.1
            have hD := hPD.2
            refine lv_aload_n hx hb d_Odds_scaleTo_69 rfl (lv_at hl 2 rfl) ?_
            refine lv_dup hx hb d_Odds_scaleTo_70 rfl ?_
            refine va_get (D := (dC, dI)) (ci := 7) (v := .int b23_1) (C := "RangeCoders$Odds") (T := T_Odds) (N := 5) hx hb hg in_Odds hown hK hP 0 rfl rfl 1 (by decide) (hg _ k305) (fun _ h9 => h9) rfl d_Odds_scaleTo_71 ?_
            refine lv_aload_n hx hb d_Odds_scaleTo_74 rfl (lv_at hl 2 rfl) ?_
            refine va_get (D := (dC, dI)) (ci := 7) (v := .ref oca) (C := "RangeCoders$Odds") (T := T_Odds) (N := 5) hx hb hg in_Odds hown hK hP 0 rfl rfl 3 (by decide) (hg _ k309) (fun _ h9 => h9) rfl d_Odds_scaleTo_75 ?_
            refine lv_iload hx hb d_Odds_scaleTo_78 (lv_at hl 0 rfl) ?_
            refine va_iald hx hb hK hP 1 0 rfl rfl (by first | assumption | exact I_in (by omega) (by assumption) (by assumption) | exact I_in' (by omega) (by assumption) (by assumption)) d_Odds_scaleTo_80 ?_
            refine lv_topi (fun v_13 ev_13 => ?_)
            refine lv_iadd hx hb d_Odds_scaleTo_81 ?_
            refine lv_topi (fun v_14 ev_14 => ?_)
            refine va_put (D := (dC, dI)) (ci := 7) (v := .int v_14) (ty := .int) (C := "RangeCoders$Odds") (T := T_Odds) (N := 5) hx hb hg in_Odds t_Odds o_Odds n_Odds hown hK hP hD hS 0 rfl rfl 1 (by decide) (hg _ k305) (fun _ h9 => h9) rfl (o_Odds 1 (by decide)) rfl rfl (Nat.le_of_ble_eq_true rfl) d_Odds_scaleTo_82 (fun H locs hP hD hS => ?_)
            have hPD : my_PD (dC, dI) vwCl A [(oo, Sum.inr (7, [Value.int osg, Value.int v_14, Value.int ofc, Value.ref oca, Value.ref opa])), (oca, Sum.inl (cI, ol, Sum.inl (upd b23_2 b23_0.toNatClampNeg v_12))), (opa, Sum.inl (cI, opl, Sum.inl opf)), (ka, Sum.inl (cI, kl, Sum.inl kf))] H := ⟨hP, hD⟩
            have hP := hPD.1
            have hD := hPD.2
            obtain ⟨v_15, ev_15⟩ : ∃ y : Int32, y = b23_0 + (1) := ⟨_, rfl⟩
            refine lv_iinc (v := v_15) (lv' := [(4, Value.int v_15), (3, Value.int osmq_2), (0, Value.ref oo), (1, Value.int ww), (2, Value.ref ka)]) hx hb d_Odds_scaleTo_85 hl (k := 0) rfl (by rw [ev_15]; rfl) (by decide) rfl (fun ls hl => ?_)
            refine lv_goto (tgt := 23) hx hb d_Odds_scaleTo_88 (by decide) ?_
            exact ih9_23 _ (by first | omega | (have z9 := I_up c_2 ev_15; omega)) v_15 v_14 (upd b23_2 b23_0.toNatClampNeg v_12) rfl (by have z9 := I_up c_2 ev_15; omega) H locs ls (hP.sub [0, 1, 2, 3] rfl) (hD.sub [0, 1, 2, 3] (by decide +kernel) rfl) hS (lv_sub hl [0, 1, 2, 3, 4] rfl)
          · refine lv_iconst (v := 0) hx hb d_Odds_scaleTo_49 (by decide) ?_
            refine lv_goto (tgt := 68) hx hb d_Odds_scaleTo_50 (by decide) ?_
            refine va_iast hx hb hK hP hD hS 1 0 rfl rfl (by first | assumption | exact I_in (by omega) (by assumption) (by assumption) | exact I_in' (by omega) (by assumption) (by assumption)) d_Odds_scaleTo_68 (fun H locs hP hD hS => ?_)
            have hPD : my_PD (dC, dI) vwCl A [(oo, Sum.inr (7, [Value.int osg, Value.int b23_1, Value.int ofc, Value.ref oca, Value.ref opa])), (oca, Sum.inl (cI, ol, Sum.inl (upd b23_2 b23_0.toNatClampNeg 0))), (opa, Sum.inl (cI, opl, Sum.inl opf)), (ka, Sum.inl (cI, kl, Sum.inl kf))] H := ⟨hP, hD⟩
            have hP := hPD.1
            have hD := hPD.2
            refine lv_aload_n hx hb d_Odds_scaleTo_69 rfl (lv_at hl 2 rfl) ?_
            refine lv_dup hx hb d_Odds_scaleTo_70 rfl ?_
            refine va_get (D := (dC, dI)) (ci := 7) (v := .int b23_1) (C := "RangeCoders$Odds") (T := T_Odds) (N := 5) hx hb hg in_Odds hown hK hP 0 rfl rfl 1 (by decide) (hg _ k305) (fun _ h9 => h9) rfl d_Odds_scaleTo_71 ?_
            refine lv_aload_n hx hb d_Odds_scaleTo_74 rfl (lv_at hl 2 rfl) ?_
            refine va_get (D := (dC, dI)) (ci := 7) (v := .ref oca) (C := "RangeCoders$Odds") (T := T_Odds) (N := 5) hx hb hg in_Odds hown hK hP 0 rfl rfl 3 (by decide) (hg _ k309) (fun _ h9 => h9) rfl d_Odds_scaleTo_75 ?_
            refine lv_iload hx hb d_Odds_scaleTo_78 (lv_at hl 0 rfl) ?_
            refine va_iald hx hb hK hP 1 0 rfl rfl (by first | assumption | exact I_in (by omega) (by assumption) (by assumption) | exact I_in' (by omega) (by assumption) (by assumption)) d_Odds_scaleTo_80 ?_
            refine lv_topi (fun v_16 ev_16 => ?_)
            refine lv_iadd hx hb d_Odds_scaleTo_81 ?_
            refine lv_topi (fun v_17 ev_17 => ?_)
            refine va_put (D := (dC, dI)) (ci := 7) (v := .int v_17) (ty := .int) (C := "RangeCoders$Odds") (T := T_Odds) (N := 5) hx hb hg in_Odds t_Odds o_Odds n_Odds hown hK hP hD hS 0 rfl rfl 1 (by decide) (hg _ k305) (fun _ h9 => h9) rfl (o_Odds 1 (by decide)) rfl rfl (Nat.le_of_ble_eq_true rfl) d_Odds_scaleTo_82 (fun H locs hP hD hS => ?_)
            have hPD : my_PD (dC, dI) vwCl A [(oo, Sum.inr (7, [Value.int osg, Value.int v_17, Value.int ofc, Value.ref oca, Value.ref opa])), (oca, Sum.inl (cI, ol, Sum.inl (upd b23_2 b23_0.toNatClampNeg 0))), (opa, Sum.inl (cI, opl, Sum.inl opf)), (ka, Sum.inl (cI, kl, Sum.inl kf))] H := ⟨hP, hD⟩
            have hP := hPD.1
            have hD := hPD.2
            obtain ⟨v_18, ev_18⟩ : ∃ y : Int32, y = b23_0 + (1) := ⟨_, rfl⟩
            refine lv_iinc (v := v_18) (lv' := [(4, Value.int v_18), (3, Value.int osmq_2), (0, Value.ref oo), (1, Value.int ww), (2, Value.ref ka)]) hx hb d_Odds_scaleTo_85 hl (k := 0) rfl (by rw [ev_18]; rfl) (by decide) rfl (fun ls hl => ?_)
            refine lv_goto (tgt := 23) hx hb d_Odds_scaleTo_88 (by decide) ?_
            exact ih9_23 _ (by first | omega | (have z9 := I_up c_2 ev_18; omega)) v_18 v_17 (upd b23_2 b23_0.toNatClampNeg 0) rfl (by have z9 := I_up c_2 ev_18; omega) H locs ls (hP.sub [0, 1, 2, 3] rfl) (hD.sub [0, 1, 2, 3] (by decide +kernel) rfl) hS (lv_sub hl [0, 1, 2, 3, 4] rfl)
    exact J_23 _ (0 : Int32) (0 : Int32) ocfq_2 rfl (by first | decide | assumption | omega) H locs ls (hP.sub [0, 1, 2, 3] rfl) (hD.sub [0, 1, 2, 3] (by decide +kernel) rfl) hS (lv_sub hl [0, 1, 2, 3, 4] rfl)
  · exact my_vret hx hb hr hlocks hQ hK hS (Nat.le_refl _) (Nat.le_refl _) (osmq_2, ocfq_2) (trivial) (hP.sub [0, 1, 2, 3] rfl) (hD.sub [0, 1, 2, 3] (by decide +kernel) rfl) d_Odds_scaleTo_14
set_option maxHeartbeats 2000000 in
set_option maxRecDepth 100000 in
theorem c_Odds_spread (l : Launch) (dC : Nat → ClassId) (dI : Nat → Nat → Nat) (cI cM cO : ClassId) (sz : Nat) (oo : Nat) (osg : Int32) (osm : Int32) (ofc : Int32) (oca : Nat) (opa : Nat) (ol : Nat) (ocf : Nat → Int32) (opl : Nat) (opf : Nat → Int32) (hol : ol ≤ 64) (hopl : opl ≤ 512) : MetV l y_Odds_spread (Cond.code y_Odds_spread prog_7_method_11_code 4 none :: gw) ({ frames := 0, cells := 0, slots := 0, locals := 0 } : Room) (dC, dI) vwCl (kT cI cM cO) [Value.ref oo] [(oo, Sum.inr (7, [Value.int osg, Value.int osm, Value.int ofc, Value.ref oca, Value.ref opa])), (oca, Sum.inl (cI, ol, Sum.inl ocf)), (opa, Sum.inl (cI, opl, Sum.inl opf))] sz (fun (u : (Nat → Int32)) => True) (fun (u : (Nat → Int32)) => [(oo, Sum.inr (7, [Value.int osg, Value.int osm, Value.int ofc, Value.ref oca, Value.ref opa])), (oca, Sum.inl (cI, ol, Sum.inl ocf)), (opa, Sum.inl (cI, opl, Sum.inl u))]) 0 0 := by
  refine my_ofV (cc := prog_7_method_11_code) (n := 4) (ret := none) (by decide) rfl (Nat.le_of_ble_eq_true rfl) ?_
  intro p e s m args below meth c R Q A ls H locs hx hb hr hts hown hlocks hml hnm hR hQ hA hl hP hK hN hD hS
  have hg : ∀ w ∈ gw, w.before args s = true := fun w h => hts w (List.mem_cons_of_mem _ h)
  have hown : s.vm.findClass "RangeCoders$Odds" = some m.cls := hown
  have hl : lv_has ls 4 [(0, Value.ref oo)] := hl
  refine lv_iconst (v := 0) hx hb d_Odds_spread_0 (by decide) ?_
  refine lv_istore_n (lv' := [(1, Value.int 0), (0, Value.ref oo)]) hx hb d_Odds_spread_1 rfl hl (by decide) rfl (fun ls hl => ?_)
  refine lv_iconst (v := 0) hx hb d_Odds_spread_2 (by decide) ?_
  refine lv_istore_n (lv' := [(2, Value.int 0), (1, Value.int 0), (0, Value.ref oo)]) hx hb d_Odds_spread_3 rfl hl (by decide) rfl (fun ls hl => ?_)
  have J_4 : ∀ (n9_4 : Nat) (b4_0 : Int32) (b4_1 : Int32) (b4_2 : Nat → Int32) (hn9_4 : ((nI ol).toInt - b4_0.toInt).toNat = n9_4) (hi_4 : 0 ≤ b4_0.toInt) (H : Heap) (locs : List Loc) (ls : Array Slot), va_P (dC, dI) vwCl [(oo, Sum.inr (7, [Value.int osg, Value.int osm, Value.int ofc, Value.ref oca, Value.ref opa])), (oca, Sum.inl (cI, ol, Sum.inl ocf)), (opa, Sum.inl (cI, opl, Sum.inl b4_2))] H → va_D A [(oo, Sum.inr (7, [Value.int osg, Value.int osm, Value.int ofc, Value.ref oca, Value.ref opa])), (oca, Sum.inl (cI, ol, Sum.inl ocf)), (opa, Sum.inl (cI, opl, Sum.inl b4_2))] → va_S A s.heap H locs → lv_has ls 4 [(2, Value.int b4_0), (1, Value.int b4_1), (0, Value.ref oo)] → W p l e R s m args below meth c H locs 0 0 Q (F0 m 4 ls []) := by
    intro n9_4
    induction n9_4 using Nat.strongRecOn with
    | ind n9_4 ih9_4 =>
      intro b4_0 b4_1 b4_2 hn9_4 hi_4 H locs ls hP hD hS hl
      refine lv_iload_n hx hb d_Odds_spread_4 rfl (lv_at hl 0 rfl) ?_
      refine lv_aload_n hx hb d_Odds_spread_5 rfl (lv_at hl 2 rfl) ?_
      refine va_get (D := (dC, dI)) (ci := 7) (v := .ref oca) (C := "RangeCoders$Odds") (T := T_Odds) (N := 5) hx hb hg in_Odds hown hK hP 0 rfl rfl 3 (by decide) (hg _ k309) (fun _ h9 => h9) rfl d_Odds_spread_6 ?_
      refine va_alen hx hb hK hP 1 0 rfl rfl (v := nI ol) rfl d_Odds_spread_9 ?_
      refine lv_icmp_ge (tgt := 69) hx hb d_Odds_spread_10 (by decide) (fun c_1 => ?_) (fun c_1 => ?_)
      · exact my_vret hx hb hr hlocks hQ hK hS (Nat.le_refl _) (Nat.le_refl _) (b4_2) (trivial) (hP.sub [0, 1, 2] rfl) (hD.sub [0, 1, 2] (by decide +kernel) rfl) d_Odds_spread_69
      · refine lv_iconst (v := 0) hx hb d_Odds_spread_13 (by decide) ?_
        refine lv_istore_n (lv' := [(3, Value.int 0), (2, Value.int b4_0), (1, Value.int b4_1), (0, Value.ref oo)]) hx hb d_Odds_spread_14 rfl hl (by decide) rfl (fun ls hl => ?_)
        have J_15 : ∀ (n9_15 : Nat) (b15_0 : Int32) (b15_1 : Int32) (b15_2 : Nat → Int32) (hn9_15 : ((ocf b4_0.toNatClampNeg).toInt - b15_0.toInt).toNat = n9_15) (hi_15 : 0 ≤ b15_0.toInt) (H : Heap) (locs : List Loc) (ls : Array Slot), va_P (dC, dI) vwCl [(oo, Sum.inr (7, [Value.int osg, Value.int osm, Value.int ofc, Value.ref oca, Value.ref opa])), (oca, Sum.inl (cI, ol, Sum.inl ocf)), (opa, Sum.inl (cI, opl, Sum.inl b15_2))] H → va_D A [(oo, Sum.inr (7, [Value.int osg, Value.int osm, Value.int ofc, Value.ref oca, Value.ref opa])), (oca, Sum.inl (cI, ol, Sum.inl ocf)), (opa, Sum.inl (cI, opl, Sum.inl b15_2))] → va_S A s.heap H locs → lv_has ls 4 [(3, Value.int b15_0), (2, Value.int b4_0), (1, Value.int b15_1), (0, Value.ref oo)] → W p l e R s m args below meth c H locs 0 0 Q (F0 m 15 ls []) := by
          intro n9_15
          induction n9_15 using Nat.strongRecOn with
          | ind n9_15 ih9_15 =>
            intro b15_0 b15_1 b15_2 hn9_15 hi_15 H locs ls hP hD hS hl
            refine lv_iload_n hx hb d_Odds_spread_15 rfl (lv_at hl 0 rfl) ?_
            refine lv_aload_n hx hb d_Odds_spread_16 rfl (lv_at hl 3 rfl) ?_
            refine va_get (D := (dC, dI)) (ci := 7) (v := .ref oca) (C := "RangeCoders$Odds") (T := T_Odds) (N := 5) hx hb hg in_Odds hown hK hP 0 rfl rfl 3 (by decide) (hg _ k309) (fun _ h9 => h9) rfl d_Odds_spread_17 ?_
            refine lv_iload_n hx hb d_Odds_spread_20 rfl (lv_at hl 1 rfl) ?_
            refine va_iald hx hb hK hP 1 0 rfl rfl (by first | assumption | exact I_in (by omega) (by assumption) (by assumption) | exact I_in' (by omega) (by assumption) (by assumption)) d_Odds_spread_21 ?_
            refine lv_topi (fun v_2 ev_2 => ?_)
            refine lv_icmp_ge (tgt := 63) hx hb d_Odds_spread_22 (by decide) (fun c_3 => ?_) (fun c_3 => ?_)
            · obtain ⟨v_4, ev_4⟩ : ∃ y : Int32, y = b4_0 + (1) := ⟨_, rfl⟩
              refine lv_iinc (v := v_4) (lv' := [(2, Value.int v_4), (3, Value.int b15_0), (1, Value.int b15_1), (0, Value.ref oo)]) hx hb d_Odds_spread_63 hl (k := 1) rfl (by rw [ev_4]; rfl) (by decide) rfl (fun ls hl => ?_)
              refine lv_goto (tgt := 4) hx hb d_Odds_spread_66 (by decide) ?_
              exact ih9_4 _ (by first | omega | (have z9 := I_up c_1 ev_4; omega)) v_4 b15_1 b15_2 rfl (by have z9 := I_up c_1 ev_4; omega) H locs ls (hP.sub [0, 1, 2] rfl) (hD.sub [0, 1, 2] (by decide +kernel) rfl) hS (lv_sub hl [0, 2, 3] rfl)
            · refine lv_iload_n hx hb d_Odds_spread_25 rfl (lv_at hl 2 rfl) ?_
              refine lv_if_lt (tgt := 57) hx hb d_Odds_spread_26 (by decide) (fun c_5 => ?_) (fun c_5 => ?_)
              · obtain ⟨v_6, ev_6⟩ : ∃ y : Int32, y = b15_0 + (1) := ⟨_, rfl⟩
                refine lv_iinc (v := v_6) (lv' := [(3, Value.int v_6), (2, Value.int b4_0), (1, Value.int b15_1), (0, Value.ref oo)]) hx hb d_Odds_spread_57 hl (k := 0) rfl (by rw [ev_6]; rfl) (by decide) rfl (fun ls hl => ?_)
                refine lv_goto (tgt := 15) hx hb d_Odds_spread_60 (by decide) ?_
                exact ih9_15 _ (by first | omega | (have z9 := I_up c_3 ev_6; rw [ev_2] at z9; omega)) v_6 b15_1 b15_2 rfl (by have z9 := I_up c_3 ev_6; omega) H locs ls (hP.sub [0, 1, 2] rfl) (hD.sub [0, 1, 2] (by decide +kernel) rfl) hS (lv_sub hl [0, 1, 2, 3] rfl)
              · refine lv_iload_n hx hb d_Odds_spread_29 rfl (lv_at hl 2 rfl) ?_
                refine lv_aload_n hx hb d_Odds_spread_30 rfl (lv_at hl 3 rfl) ?_
                refine va_get (D := (dC, dI)) (ci := 7) (v := .ref opa) (C := "RangeCoders$Odds") (T := T_Odds) (N := 5) hx hb hg in_Odds hown hK hP 0 rfl rfl 4 (by decide) (hg _ k310) (fun _ h9 => h9) rfl d_Odds_spread_31 ?_
                refine va_alen hx hb hK hP 2 0 rfl rfl (v := nI opl) rfl d_Odds_spread_34 ?_
                refine lv_icmp_ge (tgt := 57) hx hb d_Odds_spread_35 (by decide) (fun c_7 => ?_) (fun c_7 => ?_)
                · obtain ⟨v_8, ev_8⟩ : ∃ y : Int32, y = b15_0 + (1) := ⟨_, rfl⟩
                  refine lv_iinc (v := v_8) (lv' := [(3, Value.int v_8), (2, Value.int b4_0), (1, Value.int b15_1), (0, Value.ref oo)]) hx hb d_Odds_spread_57 hl (k := 0) rfl (by rw [ev_8]; rfl) (by decide) rfl (fun ls hl => ?_)
                  refine lv_goto (tgt := 15) hx hb d_Odds_spread_60 (by decide) ?_
                  exact ih9_15 _ (by first | omega | (have z9 := I_up c_3 ev_8; rw [ev_2] at z9; omega)) v_8 b15_1 b15_2 rfl (by have z9 := I_up c_3 ev_8; omega) H locs ls (hP.sub [0, 1, 2] rfl) (hD.sub [0, 1, 2] (by decide +kernel) rfl) hS (lv_sub hl [0, 1, 2, 3] rfl)
                · refine lv_aload_n hx hb d_Odds_spread_38 rfl (lv_at hl 3 rfl) ?_
                  refine va_get (D := (dC, dI)) (ci := 7) (v := .ref opa) (C := "RangeCoders$Odds") (T := T_Odds) (N := 5) hx hb hg in_Odds hown hK hP 0 rfl rfl 4 (by decide) (hg _ k310) (fun _ h9 => h9) rfl d_Odds_spread_39 ?_
                  refine lv_iload_n hx hb d_Odds_spread_42 rfl (lv_at hl 2 rfl) ?_
                  refine lv_iload_n hx hb d_Odds_spread_43 rfl (lv_at hl 1 rfl) ?_
                  refine va_iast hx hb hK hP hD hS 2 0 rfl rfl (by first | assumption | exact I_in (by omega) (by assumption) (by assumption) | exact I_in' (by omega) (by assumption) (by assumption)) d_Odds_spread_44 (fun H locs hP hD hS => ?_)
                  have hPD : my_PD (dC, dI) vwCl A [(oo, Sum.inr (7, [Value.int osg, Value.int osm, Value.int ofc, Value.ref oca, Value.ref opa])), (oca, Sum.inl (cI, ol, Sum.inl ocf)), (opa, Sum.inl (cI, opl, Sum.inl (upd b15_2 b15_1.toNatClampNeg b4_0)))] H := ⟨hP, hD⟩
                  have hP := hPD.1
                  have hD := hPD.2
                  refine lv_iload_n hx hb d_Odds_spread_45 rfl (lv_at hl 2 rfl) ?_
                  refine lv_sipush (v := 323) hx hb d_Odds_spread_46 (by decide) ?_
                  refine lv_iadd hx hb d_Odds_spread_49 ?_
                  refine lv_topi (fun v_9 ev_9 => ?_)
                  refine lv_aload_n hx hb d_Odds_spread_50 rfl (lv_at hl 3 rfl) ?_
                  refine va_get (D := (dC, dI)) (ci := 7) (v := .ref opa) (C := "RangeCoders$Odds") (T := T_Odds) (N := 5) hx hb hg in_Odds hown hK hP 0 rfl rfl 4 (by decide) (hg _ k310) (fun _ h9 => h9) rfl d_Odds_spread_51 ?_
                  refine va_alen hx hb hK hP 2 0 rfl rfl (v := nI opl) rfl d_Odds_spread_54 ?_
                  refine lv_irem hx hb d_Odds_spread_55 (by first | exact I_lenz (by omega) (by assumption) (by assumption)) ?_
                  refine lv_topi (fun v_10 ev_10 => ?_)
                  refine lv_istore_n (lv' := [(1, Value.int v_10), (3, Value.int b15_0), (2, Value.int b4_0), (0, Value.ref oo)]) hx hb d_Odds_spread_56 rfl hl (by decide) rfl (fun ls hl => ?_)
                  obtain ⟨v_11, ev_11⟩ : ∃ y : Int32, y = b15_0 + (1) := ⟨_, rfl⟩
                  refine lv_iinc (v := v_11) (lv' := [(3, Value.int v_11), (1, Value.int v_10), (2, Value.int b4_0), (0, Value.ref oo)]) hx hb d_Odds_spread_57 hl (k := 1) rfl (by rw [ev_11]; rfl) (by decide) rfl (fun ls hl => ?_)
                  refine lv_goto (tgt := 15) hx hb d_Odds_spread_60 (by decide) ?_
                  exact ih9_15 _ (by first | omega | (have z9 := I_up c_3 ev_11; rw [ev_2] at z9; omega)) v_11 v_10 (upd b15_2 b15_1.toNatClampNeg b4_0) rfl (by have z9 := I_up c_3 ev_11; omega) H locs ls (hP.sub [0, 1, 2] rfl) (hD.sub [0, 1, 2] (by decide +kernel) rfl) hS (lv_sub hl [0, 2, 1, 3] rfl)
        exact J_15 _ (0 : Int32) b4_1 b4_2 rfl (by first | decide | assumption | omega) H locs ls (hP.sub [0, 1, 2] rfl) (hD.sub [0, 1, 2] (by decide +kernel) rfl) hS (lv_sub hl [0, 1, 2, 3] rfl)
  exact J_4 _ (0 : Int32) (0 : Int32) opf rfl (by first | decide | assumption | omega) H locs ls (hP.sub [0, 1, 2] rfl) (hD.sub [0, 1, 2] (by decide +kernel) rfl) hS (lv_sub hl [0, 1, 2] rfl)
set_option maxHeartbeats 2000000 in
set_option maxRecDepth 100000 in
theorem c_Odds_signOfPlace (l : Launch) (dC : Nat → ClassId) (dI : Nat → Nat → Nat) (cI cM cO : ClassId) (sz : Nat) (oo : Nat) (osg : Int32) (osm : Int32) (ofc : Int32) (oca : Nat) (opa : Nat) (ol : Nat) (ocf : Nat → Int32) (opl : Nat) (opf : Nat → Int32) (ii : Int32) (hol : ol ≤ 64) (hopl : opl ≤ 512) : MetI l y_Odds_signOfPlace (Cond.code y_Odds_signOfPlace prog_7_method_12_code 2 (some .int) :: gw) ({ frames := 0, cells := 0, slots := 0, locals := 0 } : Room) (dC, dI) vwCl (kT cI cM cO) [Value.ref oo, Value.int ii] [(oo, Sum.inr (7, [Value.int osg, Value.int osm, Value.int ofc, Value.ref oca, Value.ref opa])), (oca, Sum.inl (cI, ol, Sum.inl ocf)), (opa, Sum.inl (cI, opl, Sum.inl opf))] sz (fun (r : Int32) (u : Unit) => True) (fun (u : Unit) => [(oo, Sum.inr (7, [Value.int osg, Value.int osm, Value.int ofc, Value.ref oca, Value.ref opa])), (oca, Sum.inl (cI, ol, Sum.inl ocf)), (opa, Sum.inl (cI, opl, Sum.inl opf))]) 0 0 := by
  refine my_ofI (cc := prog_7_method_12_code) (n := 2) (ret := (some .int)) (by decide) rfl (Nat.le_of_ble_eq_true rfl) ?_
  intro p e s m args below meth c R Q A ls H locs hx hb hr hts hown hlocks hml hnm hR hQ hA hl hP hK hN hD hS
  have hg : ∀ w ∈ gw, w.before args s = true := fun w h => hts w (List.mem_cons_of_mem _ h)
  have hown : s.vm.findClass "RangeCoders$Odds" = some m.cls := hown
  have hl : lv_has ls 2 [(0, Value.ref oo), (1, Value.int ii)] := hl
  refine lv_iload_n hx hb d_Odds_signOfPlace_0 rfl (lv_at hl 1 rfl) ?_
  refine lv_if_lt (tgt := 22) hx hb d_Odds_signOfPlace_1 (by decide) (fun c_1 => ?_) (fun c_1 => ?_)
  · refine lv_iconst (v := (-1)) hx hb d_Odds_signOfPlace_22 (by decide) ?_
    exact my_iret (v := (-1)) hx hb hr (rfl) hlocks hQ hK hS (Nat.le_refl _) (Nat.le_refl _) () (trivial) (hP.sub [0, 1, 2] rfl) (hD.sub [0, 1, 2] (by decide +kernel) rfl) d_Odds_signOfPlace_23
  · refine lv_iload_n hx hb d_Odds_signOfPlace_4 rfl (lv_at hl 1 rfl) ?_
    refine lv_aload_n hx hb d_Odds_signOfPlace_5 rfl (lv_at hl 0 rfl) ?_
    refine va_get (D := (dC, dI)) (ci := 7) (v := .ref opa) (C := "RangeCoders$Odds") (T := T_Odds) (N := 5) hx hb hg in_Odds hown hK hP 0 rfl rfl 4 (by decide) (hg _ k310) (fun _ h9 => h9) rfl d_Odds_signOfPlace_6 ?_
    refine va_alen hx hb hK hP 2 0 rfl rfl (v := nI opl) rfl d_Odds_signOfPlace_9 ?_
    refine lv_icmp_ge (tgt := 22) hx hb d_Odds_signOfPlace_10 (by decide) (fun c_2 => ?_) (fun c_2 => ?_)
    · refine lv_iconst (v := (-1)) hx hb d_Odds_signOfPlace_22 (by decide) ?_
      exact my_iret (v := (-1)) hx hb hr (rfl) hlocks hQ hK hS (Nat.le_refl _) (Nat.le_refl _) () (trivial) (hP.sub [0, 1, 2] rfl) (hD.sub [0, 1, 2] (by decide +kernel) rfl) d_Odds_signOfPlace_23
    · refine lv_aload_n hx hb d_Odds_signOfPlace_13 rfl (lv_at hl 0 rfl) ?_
      refine va_get (D := (dC, dI)) (ci := 7) (v := .ref opa) (C := "RangeCoders$Odds") (T := T_Odds) (N := 5) hx hb hg in_Odds hown hK hP 0 rfl rfl 4 (by decide) (hg _ k310) (fun _ h9 => h9) rfl d_Odds_signOfPlace_14 ?_
      refine lv_iload_n hx hb d_Odds_signOfPlace_17 rfl (lv_at hl 1 rfl) ?_
      refine va_iald hx hb hK hP 2 0 rfl rfl (by first | assumption | exact I_in (by omega) (by assumption) (by assumption) | exact I_in' (by omega) (by assumption) (by assumption)) d_Odds_signOfPlace_18 ?_
      refine lv_topi (fun v_3 ev_3 => ?_)
      refine lv_goto (tgt := 23) hx hb d_Odds_signOfPlace_19 (by decide) ?_
      exact my_iret (v := v_3) hx hb hr (rfl) hlocks hQ hK hS (Nat.le_refl _) (Nat.le_refl _) () (trivial) (hP.sub [0, 1, 2] rfl) (hD.sub [0, 1, 2] (by decide +kernel) rfl) d_Odds_signOfPlace_23
set_option maxHeartbeats 2000000 in
set_option maxRecDepth 100000 in
theorem c_Odds_numberOfPlace (l : Launch) (dC : Nat → ClassId) (dI : Nat → Nat → Nat) (cI cM cO : ClassId) (sz : Nat) (oo : Nat) (osg : Int32) (osm : Int32) (ofc : Int32) (oca : Nat) (opa : Nat) (ol : Nat) (ocf : Nat → Int32) (opl : Nat) (opf : Nat → Int32) (ii : Int32) (hol : ol ≤ 64) (hopl : opl ≤ 512) : MetI l y_Odds_numberOfPlace (Cond.code y_Odds_numberOfPlace prog_7_method_13_code 5 (some .int) :: gw) ({ frames := 1, cells := 0, slots := 0, locals := 21 } : Room) (dC, dI) vwCl (kT cI cM cO) [Value.ref oo, Value.int ii] [(oo, Sum.inr (7, [Value.int osg, Value.int osm, Value.int ofc, Value.ref oca, Value.ref opa])), (oca, Sum.inl (cI, ol, Sum.inl ocf)), (opa, Sum.inl (cI, opl, Sum.inl opf))] sz (fun (r : Int32) (u : Unit) => True) (fun (u : Unit) => [(oo, Sum.inr (7, [Value.int osg, Value.int osm, Value.int ofc, Value.ref oca, Value.ref opa])), (oca, Sum.inl (cI, ol, Sum.inl ocf)), (opa, Sum.inl (cI, opl, Sum.inl opf))]) 0 0 := by
  refine my_ofI (cc := prog_7_method_13_code) (n := 5) (ret := (some .int)) (by decide) rfl (Nat.le_of_ble_eq_true rfl) ?_
  intro p e s m args below meth c R Q A ls H locs hx hb hr hts hown hlocks hml hnm hR hQ hA hl hP hK hN hD hS
  have hg : ∀ w ∈ gw, w.before args s = true := fun w h => hts w (List.mem_cons_of_mem _ h)
  have hown : s.vm.findClass "RangeCoders$Odds" = some m.cls := hown
  have hl : lv_has ls 5 [(0, Value.ref oo), (1, Value.int ii)] := hl
  refine lv_aload_n hx hb d_Odds_numberOfPlace_0 rfl (lv_at hl 0 rfl) ?_
  refine lv_iload_n hx hb d_Odds_numberOfPlace_1 rfl (lv_at hl 1 rfl) ?_
  refine my_ci (wr := []) (va_runV (As := [Value.int ii]) (rest := []) ⟨hx, hb, hml, hown, hts⟩ (c_Odds_signOfPlace l dC dI cI cM cO H.size oo osg osm ofc oca opa ol ocf opl opf ii (by first | assumption | omega) (by first | assumption | omega)) (cwV 1 hts (my_gV k853 k846 k847 k14 k848) rfl rfl rfl cu_Odds_signOfPlace_1 ⟨by rw [hR]; exact Nat.le_of_ble_eq_true rfl, by rw [hR]; exact Nat.le_of_ble_eq_true rfl⟩) (my_preV hK hN (hP.sub [0, 1, 2] rfl) (hD.sub [0, 1, 2] (by decide +kernel) rfl) 0 rfl rfl) rfl rfl hl.1 rfl (lv_room (Nat.le_of_ble_eq_true rfl)) d_Odds_numberOfPlace_2 ⟨by rw [hR]; exact Nat.le_of_ble_eq_true rfl, by rw [hR]; exact Nat.le_of_ble_eq_true rfl⟩) hP hD hS hA [0, 1, 2] [] rfl rfl (by decide +kernel) (by decide +kernel) (fun r_2 u9 H locs hw_2 hP hD hS => ?_)
  have hPD : my_PD (dC, dI) vwCl A [(oo, Sum.inr (7, [Value.int osg, Value.int osm, Value.int ofc, Value.ref oca, Value.ref opa])), (oca, Sum.inl (cI, ol, Sum.inl ocf)), (opa, Sum.inl (cI, opl, Sum.inl opf))] H := ⟨hP, hD⟩
  have hP := hPD.1
  have hD := hPD.2
  refine lv_istore_n (lv' := [(2, Value.int r_2), (0, Value.ref oo), (1, Value.int ii)]) hx hb d_Odds_numberOfPlace_5 rfl hl (by decide) rfl (fun ls hl => ?_)
  refine lv_iconst (v := 0) hx hb d_Odds_numberOfPlace_6 (by decide) ?_
  refine lv_istore_n (lv' := [(3, Value.int 0), (2, Value.int r_2), (0, Value.ref oo), (1, Value.int ii)]) hx hb d_Odds_numberOfPlace_7 rfl hl (by decide) rfl (fun ls hl => ?_)
  refine lv_iconst (v := 0) hx hb d_Odds_numberOfPlace_8 (by decide) ?_
  refine lv_istore (lv' := [(4, Value.int 0), (3, Value.int 0), (2, Value.int r_2), (0, Value.ref oo), (1, Value.int ii)]) hx hb d_Odds_numberOfPlace_9 hl (by decide) rfl (fun ls hl => ?_)
  have J_11 : ∀ (n9_11 : Nat) (b11_0 : Int32) (b11_1 : Int32) (hn9_11 : (ii.toInt - b11_0.toInt).toNat = n9_11) (hi_11 : 0 ≤ b11_0.toInt) (H : Heap) (locs : List Loc) (ls : Array Slot), va_P (dC, dI) vwCl [(oo, Sum.inr (7, [Value.int osg, Value.int osm, Value.int ofc, Value.ref oca, Value.ref opa])), (oca, Sum.inl (cI, ol, Sum.inl ocf)), (opa, Sum.inl (cI, opl, Sum.inl opf))] H → va_D A [(oo, Sum.inr (7, [Value.int osg, Value.int osm, Value.int ofc, Value.ref oca, Value.ref opa])), (oca, Sum.inl (cI, ol, Sum.inl ocf)), (opa, Sum.inl (cI, opl, Sum.inl opf))] → va_S A s.heap H locs → lv_has ls 5 [(4, Value.int b11_0), (3, Value.int b11_1), (2, Value.int r_2), (0, Value.ref oo), (1, Value.int ii)] → W p l e R s m args below meth c H locs 0 0 Q (F0 m 11 ls []) := by
    intro n9_11
    induction n9_11 using Nat.strongRecOn with
    | ind n9_11 ih9_11 =>
      intro b11_0 b11_1 hn9_11 hi_11 H locs ls hP hD hS hl
      refine lv_iload hx hb d_Odds_numberOfPlace_11 (lv_at hl 0 rfl) ?_
      refine lv_iload_n hx hb d_Odds_numberOfPlace_13 rfl (lv_at hl 4 rfl) ?_
      refine lv_icmp_ge (tgt := 47) hx hb d_Odds_numberOfPlace_14 (by decide) (fun c_1 => ?_) (fun c_1 => ?_)
      · refine lv_iload_n hx hb d_Odds_numberOfPlace_47 rfl (lv_at hl 1 rfl) ?_
        exact my_iret (v := b11_1) hx hb hr (rfl) hlocks hQ hK hS (Nat.le_refl _) (Nat.le_refl _) () (trivial) (hP.sub [0, 1, 2] rfl) (hD.sub [0, 1, 2] (by decide +kernel) rfl) d_Odds_numberOfPlace_48
      · refine lv_iload hx hb d_Odds_numberOfPlace_17 (lv_at hl 0 rfl) ?_
        refine lv_aload_n hx hb d_Odds_numberOfPlace_19 rfl (lv_at hl 3 rfl) ?_
        refine va_get (D := (dC, dI)) (ci := 7) (v := .ref opa) (C := "RangeCoders$Odds") (T := T_Odds) (N := 5) hx hb hg in_Odds hown hK hP 0 rfl rfl 4 (by decide) (hg _ k310) (fun _ h9 => h9) rfl d_Odds_numberOfPlace_20 ?_
        refine va_alen hx hb hK hP 2 0 rfl rfl (v := nI opl) rfl d_Odds_numberOfPlace_23 ?_
        refine lv_icmp_ge (tgt := 47) hx hb d_Odds_numberOfPlace_24 (by decide) (fun c_2 => ?_) (fun c_2 => ?_)
        · refine lv_iload_n hx hb d_Odds_numberOfPlace_47 rfl (lv_at hl 1 rfl) ?_
          exact my_iret (v := b11_1) hx hb hr (rfl) hlocks hQ hK hS (Nat.le_refl _) (Nat.le_refl _) () (trivial) (hP.sub [0, 1, 2] rfl) (hD.sub [0, 1, 2] (by decide +kernel) rfl) d_Odds_numberOfPlace_48
        · refine lv_aload_n hx hb d_Odds_numberOfPlace_27 rfl (lv_at hl 3 rfl) ?_
          refine va_get (D := (dC, dI)) (ci := 7) (v := .ref opa) (C := "RangeCoders$Odds") (T := T_Odds) (N := 5) hx hb hg in_Odds hown hK hP 0 rfl rfl 4 (by decide) (hg _ k310) (fun _ h9 => h9) rfl d_Odds_numberOfPlace_28 ?_
          refine lv_iload hx hb d_Odds_numberOfPlace_31 (lv_at hl 0 rfl) ?_
          refine va_iald hx hb hK hP 2 0 rfl rfl (by first | assumption | exact I_in (by omega) (by assumption) (by assumption) | exact I_in' (by omega) (by assumption) (by assumption)) d_Odds_numberOfPlace_33 ?_
          refine lv_topi (fun v_3 ev_3 => ?_)
          refine lv_iload_n hx hb d_Odds_numberOfPlace_34 rfl (lv_at hl 2 rfl) ?_
          refine lv_icmp_ne (tgt := 41) hx hb d_Odds_numberOfPlace_35 (by decide) (fun c_4 => ?_) (fun c_4 => ?_)
          · obtain ⟨v_5, ev_5⟩ : ∃ y : Int32, y = b11_0 + (1) := ⟨_, rfl⟩
            refine lv_iinc (v := v_5) (lv' := [(4, Value.int v_5), (3, Value.int b11_1), (2, Value.int r_2), (0, Value.ref oo), (1, Value.int ii)]) hx hb d_Odds_numberOfPlace_41 hl (k := 0) rfl (by rw [ev_5]; rfl) (by decide) rfl (fun ls hl => ?_)
            refine lv_goto (tgt := 11) hx hb d_Odds_numberOfPlace_44 (by decide) ?_
            exact ih9_11 _ (by first | omega | (have z9 := I_up c_1 ev_5; omega)) v_5 b11_1 rfl (by have z9 := I_up c_1 ev_5; omega) H locs ls (hP.sub [0, 1, 2] rfl) (hD.sub [0, 1, 2] (by decide +kernel) rfl) hS (lv_sub hl [0, 1, 2, 3, 4] rfl)
          · obtain ⟨v_6, ev_6⟩ : ∃ y : Int32, y = b11_1 + (1) := ⟨_, rfl⟩
            refine lv_iinc (v := v_6) (lv' := [(3, Value.int v_6), (4, Value.int b11_0), (2, Value.int r_2), (0, Value.ref oo), (1, Value.int ii)]) hx hb d_Odds_numberOfPlace_38 hl (k := 1) rfl (by rw [ev_6]; rfl) (by decide) rfl (fun ls hl => ?_)
            obtain ⟨v_7, ev_7⟩ : ∃ y : Int32, y = b11_0 + (1) := ⟨_, rfl⟩
            refine lv_iinc (v := v_7) (lv' := [(4, Value.int v_7), (3, Value.int v_6), (2, Value.int r_2), (0, Value.ref oo), (1, Value.int ii)]) hx hb d_Odds_numberOfPlace_41 hl (k := 1) rfl (by rw [ev_7]; rfl) (by decide) rfl (fun ls hl => ?_)
            refine lv_goto (tgt := 11) hx hb d_Odds_numberOfPlace_44 (by decide) ?_
            exact ih9_11 _ (by first | omega | (have z9 := I_up c_1 ev_7; omega)) v_7 v_6 rfl (by have z9 := I_up c_1 ev_7; omega) H locs ls (hP.sub [0, 1, 2] rfl) (hD.sub [0, 1, 2] (by decide +kernel) rfl) hS (lv_sub hl [0, 1, 2, 3, 4] rfl)
  exact J_11 _ (0 : Int32) (0 : Int32) rfl (by first | decide | assumption | omega) H locs ls (hP.sub [0, 1, 2] rfl) (hD.sub [0, 1, 2] (by decide +kernel) rfl) hS (lv_sub hl [0, 1, 2, 3, 4] rfl)
end
section
theorem L_nzip {t : Int32} (h : 0 < t) : t.toInt64 ≠ 0 := L_nzi (by rw [Int32.lt_iff_toInt_lt] at h; rw [Int32.le_iff_toInt_le]; omega)
theorem L_nzp {t : Int64} (h : 0 < t) : ¬ t = 0 := fun e => by rw [e] at h; exact absurd h (by decide)
end
section
set_option maxHeartbeats 2000000 in
set_option maxRecDepth 100000 in
theorem c_Bits_Coder_nextByte (l : Launch) (dC : Nat → ClassId) (dI : Nat → Nat → Nat) (cI cM cO : ClassId) (sz : Nat) (co : Nat) (xshift : Int32) (xkeptCode : Int64) (xkeptRange : Int64) (xkeptAsked : Int32) (xcache : Int32) (xpending : Int32) (xlow : Int64) (xrange : Int64) (xcode : Int64) (xreadLow : Int64) (xreadRange : Int64) (ri : Nat) (ro : Nat) (rw : Nat) (xasked : Int32) (rin : Int32) (ria : Nat) (rik : Nat) (rif : Nat → Int32) (hri : rOk rin rik) : MetI l y_Coder_nextByte (Cond.code y_Coder_nextByte prog_4_method_15_code 2 (some .int) :: gw) ({ frames := 2, cells := 0, slots := 0, locals := 42 } : Room) (dC, dI) vwCl (kT cI cM cO) [Value.ref co] [(co, Sum.inr (3, [Value.int xshift, Value.long xkeptCode, Value.long xkeptRange, Value.int xkeptAsked, Value.int xcache, Value.int xpending, Value.long xlow, Value.long xrange, Value.long xcode, Value.long xreadLow, Value.long xreadRange, Value.ref ri, Value.ref ro, Value.ref rw, Value.int xasked])), (ri, Sum.inr (0, [Value.int rin, Value.ref ria])), (ria, Sum.inl (cI, rik, Sum.inl rif))] sz (fun (r : Int32) (u : Int32) => True) (fun (u : Int32) => [(co, Sum.inr (3, [Value.int xshift, Value.long xkeptCode, Value.long xkeptRange, Value.int xkeptAsked, Value.int xcache, Value.int xpending, Value.long xlow, Value.long xrange, Value.long xcode, Value.long xreadLow, Value.long xreadRange, Value.ref ri, Value.ref ro, Value.ref rw, Value.int u])), (ri, Sum.inr (0, [Value.int rin, Value.ref ria])), (ria, Sum.inl (cI, rik, Sum.inl rif))]) 0 0 := by
  refine my_ofI (cc := prog_4_method_15_code) (n := 2) (ret := (some .int)) (by decide) rfl (Nat.le_of_ble_eq_true rfl) ?_
  intro p e s m args below meth c R Q A ls H locs hx hb hr hts hown hlocks hml hnm hR hQ hA hl hP hK hN hD hS
  have hg : ∀ w ∈ gw, w.before args s = true := fun w h => hts w (List.mem_cons_of_mem _ h)
  have hown : s.vm.findClass "RangeCoders$Coder" = some m.cls := hown
  have hl : lv_has ls 2 [(0, Value.ref co)] := hl
  have hlt_hri := rOk_lt hri
  refine lv_aload_n hx hb d_Coder_nextByte_0 rfl (lv_at hl 0 rfl) ?_
  refine va_get (D := (dC, dI)) (ci := 3) (v := .ref ri) (C := "RangeCoders$Bits") (T := T_Bits) (N := 15) hx hb hg in_Bits hown hK hP 0 rfl rfl 11 (by decide) (hg _ k101) (fun _ h9 => h9) rfl d_Coder_nextByte_1 ?_
  refine lv_aload_n hx hb d_Coder_nextByte_4 rfl (lv_at hl 0 rfl) ?_
  refine va_get (D := (dC, dI)) (ci := 3) (v := .int xasked) (C := "RangeCoders$Bits") (T := T_Bits) (N := 15) hx hb hg in_Bits hown hK hP 0 rfl rfl 14 (by decide) (hg _ k130) (fun _ h9 => h9) rfl d_Coder_nextByte_5 ?_
  refine my_ci (wr := [(co, Sum.inr (3, [Value.int xshift, Value.long xkeptCode, Value.long xkeptRange, Value.int xkeptAsked, Value.int xcache, Value.int xpending, Value.long xlow, Value.long xrange, Value.long xcode, Value.long xreadLow, Value.long xreadRange, Value.ref ri, Value.ref ro, Value.ref rw, Value.int xasked]))]) (va_runV (As := [Value.int xasked]) (rest := []) ⟨hx, hb, hml, hown, hts⟩ (c_Row_has l dC dI cI cM cO H.size ri rin ria rik rif xasked (by first | assumption | omega)) (cwV 1 hts (my_gV k750 k663 k664 k6 k665) rfl rfl rfl cu_Row_has_1 ⟨by rw [hR]; exact Nat.le_of_ble_eq_true rfl, by rw [hR]; exact Nat.le_of_ble_eq_true rfl⟩) (my_preV hK hN (hP.sub [1, 2] rfl) (hD.sub [1, 2] (by decide +kernel) rfl) 0 rfl rfl) rfl rfl hl.1 rfl (lv_room (Nat.le_of_ble_eq_true rfl)) d_Coder_nextByte_8 ⟨by rw [hR]; exact Nat.le_of_ble_eq_true rfl, by rw [hR]; exact Nat.le_of_ble_eq_true rfl⟩) hP hD hS hA [1, 2] [0] rfl rfl (by decide +kernel) (by decide +kernel) (fun r_8 u9 H locs hw_8 hP hD hS => ?_)
  have hr_8 : r_8 ≠ 0 → vp_in xasked rik := hw_8
  have hPD : my_PD (dC, dI) vwCl A [(co, Sum.inr (3, [Value.int xshift, Value.long xkeptCode, Value.long xkeptRange, Value.int xkeptAsked, Value.int xcache, Value.int xpending, Value.long xlow, Value.long xrange, Value.long xcode, Value.long xreadLow, Value.long xreadRange, Value.ref ri, Value.ref ro, Value.ref rw, Value.int xasked])), (ri, Sum.inr (0, [Value.int rin, Value.ref ria])), (ria, Sum.inl (cI, rik, Sum.inl rif))] H := ⟨hP, hD⟩
  have hP := hPD.1
  have hD := hPD.2
  refine lv_if_eq (tgt := 28) hx hb d_Coder_nextByte_11 (by decide) (fun c_1 => ?_) (fun c_1 => ?_)
  · refine lv_iconst (v := 0) hx hb d_Coder_nextByte_28 (by decide) ?_
    refine lv_istore_n (lv' := [(1, Value.int 0), (0, Value.ref co)]) hx hb d_Coder_nextByte_29 rfl hl (by decide) rfl (fun ls hl => ?_)
    refine lv_aload_n hx hb d_Coder_nextByte_30 rfl (lv_at hl 1 rfl) ?_
    refine lv_dup hx hb d_Coder_nextByte_31 rfl ?_
    refine va_get (D := (dC, dI)) (ci := 3) (v := .int xasked) (C := "RangeCoders$Bits") (T := T_Bits) (N := 15) hx hb hg in_Bits hown hK hP 0 rfl rfl 14 (by decide) (hg _ k130) (fun _ h9 => h9) rfl d_Coder_nextByte_32 ?_
    refine lv_iconst (v := 1) hx hb d_Coder_nextByte_35 (by decide) ?_
    refine lv_iadd hx hb d_Coder_nextByte_36 ?_
    refine lv_topi (fun v_2 ev_2 => ?_)
    refine va_put (D := (dC, dI)) (ci := 3) (v := .int v_2) (ty := .int) (C := "RangeCoders$Bits") (T := T_Bits) (N := 15) hx hb hg in_Bits t_Bits o_Bits n_Bits hown hK hP hD hS 0 rfl rfl 14 (by decide) (hg _ k130) (fun _ h9 => h9) rfl (o_Bits 14 (by decide)) rfl rfl (Nat.le_of_ble_eq_true rfl) d_Coder_nextByte_37 (fun H locs hP hD hS => ?_)
    have hPD : my_PD (dC, dI) vwCl A [(co, Sum.inr (3, [Value.int xshift, Value.long xkeptCode, Value.long xkeptRange, Value.int xkeptAsked, Value.int xcache, Value.int xpending, Value.long xlow, Value.long xrange, Value.long xcode, Value.long xreadLow, Value.long xreadRange, Value.ref ri, Value.ref ro, Value.ref rw, Value.int v_2])), (ri, Sum.inr (0, [Value.int rin, Value.ref ria])), (ria, Sum.inl (cI, rik, Sum.inl rif))] H := ⟨hP, hD⟩
    have hP := hPD.1
    have hD := hPD.2
    refine lv_iload_n hx hb d_Coder_nextByte_40 rfl (lv_at hl 0 rfl) ?_
    exact my_iret (v := 0) hx hb hr (rfl) hlocks hQ hK hS (Nat.le_refl _) (Nat.le_refl _) (v_2) (trivial) (hP.sub [0, 1, 2] rfl) (hD.sub [0, 1, 2] (by decide +kernel) rfl) d_Coder_nextByte_41
  · refine lv_aload_n hx hb d_Coder_nextByte_14 rfl (lv_at hl 0 rfl) ?_
    refine va_get (D := (dC, dI)) (ci := 3) (v := .ref ri) (C := "RangeCoders$Bits") (T := T_Bits) (N := 15) hx hb hg in_Bits hown hK hP 0 rfl rfl 11 (by decide) (hg _ k101) (fun _ h9 => h9) rfl d_Coder_nextByte_15 ?_
    refine lv_aload_n hx hb d_Coder_nextByte_18 rfl (lv_at hl 0 rfl) ?_
    refine va_get (D := (dC, dI)) (ci := 3) (v := .int xasked) (C := "RangeCoders$Bits") (T := T_Bits) (N := 15) hx hb hg in_Bits hown hK hP 0 rfl rfl 14 (by decide) (hg _ k130) (fun _ h9 => h9) rfl d_Coder_nextByte_19 ?_
    refine my_ci (wr := [(co, Sum.inr (3, [Value.int xshift, Value.long xkeptCode, Value.long xkeptRange, Value.int xkeptAsked, Value.int xcache, Value.int xpending, Value.long xlow, Value.long xrange, Value.long xcode, Value.long xreadLow, Value.long xreadRange, Value.ref ri, Value.ref ro, Value.ref rw, Value.int xasked]))]) (va_runV (As := [Value.int xasked]) (rest := []) ⟨hx, hb, hml, hown, hts⟩ (c_Row_at l dC dI cI cM cO H.size ri rin ria rik rif xasked (by first | assumption | omega)) (cwV 1 hts (my_gV k751 k659 k660 k6 k661) rfl rfl rfl cu_Row_at_1 ⟨by rw [hR]; exact Nat.le_of_ble_eq_true rfl, by rw [hR]; exact Nat.le_of_ble_eq_true rfl⟩) (my_preV hK hN (hP.sub [1, 2] rfl) (hD.sub [1, 2] (by decide +kernel) rfl) 0 rfl rfl) rfl rfl hl.1 rfl (lv_room (Nat.le_of_ble_eq_true rfl)) d_Coder_nextByte_22 ⟨by rw [hR]; exact Nat.le_of_ble_eq_true rfl, by rw [hR]; exact Nat.le_of_ble_eq_true rfl⟩) hP hD hS hA [1, 2] [0] rfl rfl (by decide +kernel) (by decide +kernel) (fun r_22 u9 H locs hw_22 hP hD hS => ?_)
    have hPD : my_PD (dC, dI) vwCl A [(co, Sum.inr (3, [Value.int xshift, Value.long xkeptCode, Value.long xkeptRange, Value.int xkeptAsked, Value.int xcache, Value.int xpending, Value.long xlow, Value.long xrange, Value.long xcode, Value.long xreadLow, Value.long xreadRange, Value.ref ri, Value.ref ro, Value.ref rw, Value.int xasked])), (ri, Sum.inr (0, [Value.int rin, Value.ref ria])), (ria, Sum.inl (cI, rik, Sum.inl rif))] H := ⟨hP, hD⟩
    have hP := hPD.1
    have hD := hPD.2
    refine lv_goto (tgt := 29) hx hb d_Coder_nextByte_25 (by decide) ?_
    refine lv_istore_n (lv' := [(1, Value.int r_22), (0, Value.ref co)]) hx hb d_Coder_nextByte_29 rfl hl (by decide) rfl (fun ls hl => ?_)
    refine lv_aload_n hx hb d_Coder_nextByte_30 rfl (lv_at hl 1 rfl) ?_
    refine lv_dup hx hb d_Coder_nextByte_31 rfl ?_
    refine va_get (D := (dC, dI)) (ci := 3) (v := .int xasked) (C := "RangeCoders$Bits") (T := T_Bits) (N := 15) hx hb hg in_Bits hown hK hP 0 rfl rfl 14 (by decide) (hg _ k130) (fun _ h9 => h9) rfl d_Coder_nextByte_32 ?_
    refine lv_iconst (v := 1) hx hb d_Coder_nextByte_35 (by decide) ?_
    refine lv_iadd hx hb d_Coder_nextByte_36 ?_
    refine lv_topi (fun v_3 ev_3 => ?_)
    refine va_put (D := (dC, dI)) (ci := 3) (v := .int v_3) (ty := .int) (C := "RangeCoders$Bits") (T := T_Bits) (N := 15) hx hb hg in_Bits t_Bits o_Bits n_Bits hown hK hP hD hS 0 rfl rfl 14 (by decide) (hg _ k130) (fun _ h9 => h9) rfl (o_Bits 14 (by decide)) rfl rfl (Nat.le_of_ble_eq_true rfl) d_Coder_nextByte_37 (fun H locs hP hD hS => ?_)
    have hPD : my_PD (dC, dI) vwCl A [(co, Sum.inr (3, [Value.int xshift, Value.long xkeptCode, Value.long xkeptRange, Value.int xkeptAsked, Value.int xcache, Value.int xpending, Value.long xlow, Value.long xrange, Value.long xcode, Value.long xreadLow, Value.long xreadRange, Value.ref ri, Value.ref ro, Value.ref rw, Value.int v_3])), (ri, Sum.inr (0, [Value.int rin, Value.ref ria])), (ria, Sum.inl (cI, rik, Sum.inl rif))] H := ⟨hP, hD⟩
    have hP := hPD.1
    have hD := hPD.2
    refine lv_iload_n hx hb d_Coder_nextByte_40 rfl (lv_at hl 0 rfl) ?_
    exact my_iret (v := r_22) hx hb hr (rfl) hlocks hQ hK hS (Nat.le_refl _) (Nat.le_refl _) (v_3) (trivial) (hP.sub [0, 1, 2] rfl) (hD.sub [0, 1, 2] (by decide +kernel) rfl) d_Coder_nextByte_41
set_option maxHeartbeats 2000000 in
set_option maxRecDepth 100000 in
theorem c_Bits_Coder_firstFourBytes (l : Launch) (dC : Nat → ClassId) (dI : Nat → Nat → Nat) (cI cM cO : ClassId) (sz : Nat) (co : Nat) (xshift : Int32) (xkeptCode : Int64) (xkeptRange : Int64) (xkeptAsked : Int32) (xcache : Int32) (xpending : Int32) (xlow : Int64) (xrange : Int64) (xcode : Int64) (xreadLow : Int64) (xreadRange : Int64) (ri : Nat) (ro : Nat) (rw : Nat) (xasked : Int32) (rin : Int32) (ria : Nat) (rik : Nat) (rif : Nat → Int32) (hri : rOk rin rik) : MetL l y_Coder_firstFourBytes (Cond.code y_Coder_firstFourBytes prog_4_method_16_code 4 (some .long) :: gw) ({ frames := 3, cells := 0, slots := 0, locals := 63 } : Room) (dC, dI) vwCl (kT cI cM cO) [Value.ref co] [(co, Sum.inr (3, [Value.int xshift, Value.long xkeptCode, Value.long xkeptRange, Value.int xkeptAsked, Value.int xcache, Value.int xpending, Value.long xlow, Value.long xrange, Value.long xcode, Value.long xreadLow, Value.long xreadRange, Value.ref ri, Value.ref ro, Value.ref rw, Value.int xasked])), (ri, Sum.inr (0, [Value.int rin, Value.ref ria])), (ria, Sum.inl (cI, rik, Sum.inl rif))] sz (fun (r : Int64) (u : Int32) => True) (fun (u : Int32) => [(co, Sum.inr (3, [Value.int xshift, Value.long xkeptCode, Value.long xkeptRange, Value.int xkeptAsked, Value.int xcache, Value.int xpending, Value.long xlow, Value.long xrange, Value.long xcode, Value.long xreadLow, Value.long xreadRange, Value.ref ri, Value.ref ro, Value.ref rw, Value.int u])), (ri, Sum.inr (0, [Value.int rin, Value.ref ria])), (ria, Sum.inl (cI, rik, Sum.inl rif))]) 0 0 := by
  refine my_ofL (cc := prog_4_method_16_code) (n := 4) (ret := (some .long)) (by decide) rfl (Nat.le_of_ble_eq_true rfl) ?_
  intro p e s m args below meth c R Q A ls H locs hx hb hr hts hown hlocks hml hnm hR hQ hA hl hP hK hN hD hS
  have hg : ∀ w ∈ gw, w.before args s = true := fun w h => hts w (List.mem_cons_of_mem _ h)
  have hown : s.vm.findClass "RangeCoders$Coder" = some m.cls := hown
  have hl : lv_has ls 4 [(0, Value.ref co)] := hl
  have hlt_hri := rOk_lt hri
  refine lv_aload_n hx hb d_Coder_firstFourBytes_0 rfl (lv_at hl 0 rfl) ?_
  refine lv_iconst (v := 0) hx hb d_Coder_firstFourBytes_1 (by decide) ?_
  refine va_put (D := (dC, dI)) (ci := 3) (v := .int 0) (ty := .int) (C := "RangeCoders$Bits") (T := T_Bits) (N := 15) hx hb hg in_Bits t_Bits o_Bits n_Bits hown hK hP hD hS 0 rfl rfl 14 (by decide) (hg _ k130) (fun _ h9 => h9) rfl (o_Bits 14 (by decide)) rfl rfl (Nat.le_of_ble_eq_true rfl) d_Coder_firstFourBytes_2 (fun H locs hP hD hS => ?_)
  have hPD : my_PD (dC, dI) vwCl A [(co, Sum.inr (3, [Value.int xshift, Value.long xkeptCode, Value.long xkeptRange, Value.int xkeptAsked, Value.int xcache, Value.int xpending, Value.long xlow, Value.long xrange, Value.long xcode, Value.long xreadLow, Value.long xreadRange, Value.ref ri, Value.ref ro, Value.ref rw, Value.int 0])), (ri, Sum.inr (0, [Value.int rin, Value.ref ria])), (ria, Sum.inl (cI, rik, Sum.inl rif))] H := ⟨hP, hD⟩
  have hP := hPD.1
  have hD := hPD.2
  refine lv_lconst (v := 0) hx hb d_Coder_firstFourBytes_5 (by decide) ?_
  refine lv_lstore_n (lv' := [(1, Value.long 0), (0, Value.ref co)]) hx hb d_Coder_firstFourBytes_6 rfl hl (by decide) rfl (fun ls hl => ?_)
  refine lv_iconst (v := 0) hx hb d_Coder_firstFourBytes_7 (by decide) ?_
  refine lv_istore_n (lv' := [(3, Value.int 0), (1, Value.long 0), (0, Value.ref co)]) hx hb d_Coder_firstFourBytes_8 rfl hl (by decide) rfl (fun ls hl => ?_)
  have J_9 : ∀ (n9_9 : Nat) (b9_0 : Int32) (b9_1 : Int64) (b9_2 : Int32) (hn9_9 : ((4 : Int32).toInt - b9_0.toInt).toNat = n9_9) (hi_9 : 0 ≤ b9_0.toInt) (H : Heap) (locs : List Loc) (ls : Array Slot), va_P (dC, dI) vwCl [(co, Sum.inr (3, [Value.int xshift, Value.long xkeptCode, Value.long xkeptRange, Value.int xkeptAsked, Value.int xcache, Value.int xpending, Value.long xlow, Value.long xrange, Value.long xcode, Value.long xreadLow, Value.long xreadRange, Value.ref ri, Value.ref ro, Value.ref rw, Value.int b9_2])), (ri, Sum.inr (0, [Value.int rin, Value.ref ria])), (ria, Sum.inl (cI, rik, Sum.inl rif))] H → va_D A [(co, Sum.inr (3, [Value.int xshift, Value.long xkeptCode, Value.long xkeptRange, Value.int xkeptAsked, Value.int xcache, Value.int xpending, Value.long xlow, Value.long xrange, Value.long xcode, Value.long xreadLow, Value.long xreadRange, Value.ref ri, Value.ref ro, Value.ref rw, Value.int b9_2])), (ri, Sum.inr (0, [Value.int rin, Value.ref ria])), (ria, Sum.inl (cI, rik, Sum.inl rif))] → va_S A s.heap H locs → lv_has ls 4 [(3, Value.int b9_0), (1, Value.long b9_1), (0, Value.ref co)] → W p l e R s m args below meth c H locs 0 0 Q (F0 m 9 ls []) := by
    intro n9_9
    induction n9_9 using Nat.strongRecOn with
    | ind n9_9 ih9_9 =>
      intro b9_0 b9_1 b9_2 hn9_9 hi_9 H locs ls hP hD hS hl
      refine lv_iload_n hx hb d_Coder_firstFourBytes_9 rfl (lv_at hl 0 rfl) ?_
      refine lv_iconst (v := 4) hx hb d_Coder_firstFourBytes_10 (by decide) ?_
      refine lv_icmp_ge (tgt := 31) hx hb d_Coder_firstFourBytes_11 (by decide) (fun c_1 => ?_) (fun c_1 => ?_)
      · refine lv_lload_n hx hb d_Coder_firstFourBytes_31 rfl (lv_at hl 1 rfl) ?_
        exact my_lret (v := b9_1) hx hb hr hlocks hQ hK hS (Nat.le_refl _) (Nat.le_refl _) (b9_2) (trivial) (hP.sub [0, 1, 2] rfl) (hD.sub [0, 1, 2] (by decide +kernel) rfl) d_Coder_firstFourBytes_32
      · refine lv_lload_n hx hb d_Coder_firstFourBytes_14 rfl (lv_at hl 1 rfl) ?_
        refine lv_bipush (v := 8) hx hb d_Coder_firstFourBytes_15 (by decide) ?_
        refine lv_lshl hx hb d_Coder_firstFourBytes_17 rfl ?_
        refine lv_topl (fun v_2 ev_2 => ?_)
        refine lv_aload_n hx hb d_Coder_firstFourBytes_18 rfl (lv_at hl 2 rfl) ?_
        refine my_ci (wr := []) (va_runU (As := []) (rest := [Value.long v_2]) ⟨hx, hb, hml, hown, hts⟩ (c_Bits_Coder_nextByte l dC dI cI cM cO H.size co xshift xkeptCode xkeptRange xkeptAsked xcache xpending xlow xrange xcode xreadLow xreadRange ri ro rw b9_2 rin ria rik rif (by first | assumption | omega)) (va_cwU 0 hts (my_gU k741 k743 k744 k742 k3 k749) rfl rfl rfl rfl (by decide +kernel) ⟨by rw [hR]; exact Nat.le_of_ble_eq_true rfl, by rw [hR]; exact Nat.le_of_ble_eq_true rfl⟩) (my_preV hK hN (hP.sub [0, 1, 2] rfl) (hD.sub [0, 1, 2] (by decide +kernel) rfl) 0 rfl rfl) rfl rfl hl.1 rfl (lv_room (Nat.le_of_ble_eq_true rfl)) d_Coder_firstFourBytes_19 ⟨by rw [hR]; exact Nat.le_of_ble_eq_true rfl, by rw [hR]; exact Nat.le_of_ble_eq_true rfl⟩) hP hD hS hA [0, 1, 2] [] rfl rfl (by decide +kernel) (by decide +kernel) (fun r_19 u9 H locs hw_19 hP hD hS => ?_)
        obtain ⟨xaskedq_19, rfl⟩ : ∃ z, z = u9 := ⟨_, rfl⟩
        have hPD : my_PD (dC, dI) vwCl A [(co, Sum.inr (3, [Value.int xshift, Value.long xkeptCode, Value.long xkeptRange, Value.int xkeptAsked, Value.int xcache, Value.int xpending, Value.long xlow, Value.long xrange, Value.long xcode, Value.long xreadLow, Value.long xreadRange, Value.ref ri, Value.ref ro, Value.ref rw, Value.int xaskedq_19])), (ri, Sum.inr (0, [Value.int rin, Value.ref ria])), (ria, Sum.inl (cI, rik, Sum.inl rif))] H := ⟨hP, hD⟩
        have hP := hPD.1
        have hD := hPD.2
        refine lv_i2l hx hb d_Coder_firstFourBytes_22 rfl ?_
        refine lv_topl (fun v_3 ev_3 => ?_)
        refine lv_lor hx hb d_Coder_firstFourBytes_23 ?_
        refine lv_topl (fun v_4 ev_4 => ?_)
        refine lv_lstore_n (lv' := [(1, Value.long v_4), (3, Value.int b9_0), (0, Value.ref co)]) hx hb d_Coder_firstFourBytes_24 rfl hl (by decide) rfl (fun ls hl => ?_)
        obtain ⟨v_5, ev_5⟩ : ∃ y : Int32, y = b9_0 + (1) := ⟨_, rfl⟩
        refine lv_iinc (v := v_5) (lv' := [(3, Value.int v_5), (1, Value.long v_4), (0, Value.ref co)]) hx hb d_Coder_firstFourBytes_25 hl (k := 1) rfl (by rw [ev_5]; rfl) (by decide) rfl (fun ls hl => ?_)
        refine lv_goto (tgt := 9) hx hb d_Coder_firstFourBytes_28 (by decide) ?_
        exact ih9_9 _ (by first | omega | (have z9 := I_up c_1 ev_5; omega)) v_5 v_4 xaskedq_19 rfl (by have z9 := I_up c_1 ev_5; omega) H locs ls (hP.sub [0, 1, 2] rfl) (hD.sub [0, 1, 2] (by decide +kernel) rfl) hS (lv_sub hl [0, 1, 2] rfl)
  exact J_9 _ (0 : Int32) (0 : Int64) (0 : Int32) rfl (by first | decide | assumption | omega) H locs ls (hP.sub [0, 1, 2] rfl) (hD.sub [0, 1, 2] (by decide +kernel) rfl) hS (lv_sub hl [0, 1, 2] rfl)
set_option maxHeartbeats 2000000 in
set_option maxRecDepth 100000 in
theorem c_Bits_Coder_hasWidth (l : Launch) (dC : Nat → ClassId) (dI : Nat → Nat → Nat) (cI cM cO : ClassId) (sz : Nat) (co : Nat) (xshift : Int32) (xkeptCode : Int64) (xkeptRange : Int64) (xkeptAsked : Int32) (xcache : Int32) (xpending : Int32) (xlow : Int64) (xrange : Int64) (xcode : Int64) (xreadLow : Int64) (xreadRange : Int64) (ri : Nat) (ro : Nat) (rw : Nat) (xasked : Int32) (wd : Int32) : MetI l y_Coder_hasWidth (Cond.code y_Coder_hasWidth prog_4_method_13_code 2 (some .boolean) :: gw) ({ frames := 0, cells := 0, slots := 0, locals := 0 } : Room) (dC, dI) vwCl (kT cI cM cO) [Value.ref co, Value.int wd] [(co, Sum.inr (3, [Value.int xshift, Value.long xkeptCode, Value.long xkeptRange, Value.int xkeptAsked, Value.int xcache, Value.int xpending, Value.long xlow, Value.long xrange, Value.long xcode, Value.long xreadLow, Value.long xreadRange, Value.ref ri, Value.ref ro, Value.ref rw, Value.int xasked]))] sz (fun (r : Int32) (u : Unit) => True) (fun (u : Unit) => [(co, Sum.inr (3, [Value.int xshift, Value.long xkeptCode, Value.long xkeptRange, Value.int xkeptAsked, Value.int xcache, Value.int xpending, Value.long xlow, Value.long xrange, Value.long xcode, Value.long xreadLow, Value.long xreadRange, Value.ref ri, Value.ref ro, Value.ref rw, Value.int xasked]))]) 0 0 := by
  refine my_ofI (cc := prog_4_method_13_code) (n := 2) (ret := (some .boolean)) (by decide) rfl (Nat.le_of_ble_eq_true rfl) ?_
  intro p e s m args below meth c R Q A ls H locs hx hb hr hts hown hlocks hml hnm hR hQ hA hl hP hK hN hD hS
  have hg : ∀ w ∈ gw, w.before args s = true := fun w h => hts w (List.mem_cons_of_mem _ h)
  have hown : s.vm.findClass "RangeCoders$Coder" = some m.cls := hown
  have hl : lv_has ls 2 [(0, Value.ref co), (1, Value.int wd)] := hl
  refine lv_iload_n hx hb d_Coder_hasWidth_0 rfl (lv_at hl 1 rfl) ?_
  refine lv_iconst (v := 1) hx hb d_Coder_hasWidth_1 (by decide) ?_
  refine lv_icmp_lt (tgt := 15) hx hb d_Coder_hasWidth_2 (by decide) (fun c_1 => ?_) (fun c_1 => ?_)
  · refine lv_iconst (v := 0) hx hb d_Coder_hasWidth_15 (by decide) ?_
    exact my_iret (v := 0) hx hb hr (rfl) hlocks hQ hK hS (Nat.le_refl _) (Nat.le_refl _) () (trivial) (hP.sub [0] rfl) (hD.sub [0] (by decide +kernel) rfl) d_Coder_hasWidth_16
  · refine lv_iload_n hx hb d_Coder_hasWidth_5 rfl (lv_at hl 1 rfl) ?_
    refine lv_bipush (v := 12) hx hb d_Coder_hasWidth_6 (by decide) ?_
    refine lv_icmp_gt (tgt := 15) hx hb d_Coder_hasWidth_8 (by decide) (fun c_2 => ?_) (fun c_2 => ?_)
    · refine lv_iconst (v := 0) hx hb d_Coder_hasWidth_15 (by decide) ?_
      exact my_iret (v := 0) hx hb hr (rfl) hlocks hQ hK hS (Nat.le_refl _) (Nat.le_refl _) () (trivial) (hP.sub [0] rfl) (hD.sub [0] (by decide +kernel) rfl) d_Coder_hasWidth_16
    · refine lv_iconst (v := 1) hx hb d_Coder_hasWidth_11 (by decide) ?_
      refine lv_goto (tgt := 16) hx hb d_Coder_hasWidth_12 (by decide) ?_
      exact my_iret (v := 1) hx hb hr (rfl) hlocks hQ hK hS (Nat.le_refl _) (Nat.le_refl _) () (trivial) (hP.sub [0] rfl) (hD.sub [0] (by decide +kernel) rfl) d_Coder_hasWidth_16
set_option maxHeartbeats 2000000 in
set_option maxRecDepth 100000 in
theorem c_Bits_Coder_bytesAsked (l : Launch) (dC : Nat → ClassId) (dI : Nat → Nat → Nat) (cI cM cO : ClassId) (sz : Nat) (co : Nat) (xshift : Int32) (xkeptCode : Int64) (xkeptRange : Int64) (xkeptAsked : Int32) (xcache : Int32) (xpending : Int32) (xlow : Int64) (xrange : Int64) (xcode : Int64) (xreadLow : Int64) (xreadRange : Int64) (ri : Nat) (ro : Nat) (rw : Nat) (xasked : Int32) : MetI l y_Coder_bytesAsked (Cond.code y_Coder_bytesAsked prog_4_method_14_code 1 (some .int) :: gw) ({ frames := 0, cells := 0, slots := 0, locals := 0 } : Room) (dC, dI) vwCl (kT cI cM cO) [Value.ref co] [(co, Sum.inr (3, [Value.int xshift, Value.long xkeptCode, Value.long xkeptRange, Value.int xkeptAsked, Value.int xcache, Value.int xpending, Value.long xlow, Value.long xrange, Value.long xcode, Value.long xreadLow, Value.long xreadRange, Value.ref ri, Value.ref ro, Value.ref rw, Value.int xasked]))] sz (fun (r : Int32) (u : Unit) => True) (fun (u : Unit) => [(co, Sum.inr (3, [Value.int xshift, Value.long xkeptCode, Value.long xkeptRange, Value.int xkeptAsked, Value.int xcache, Value.int xpending, Value.long xlow, Value.long xrange, Value.long xcode, Value.long xreadLow, Value.long xreadRange, Value.ref ri, Value.ref ro, Value.ref rw, Value.int xasked]))]) 0 0 := by
  refine my_ofI (cc := prog_4_method_14_code) (n := 1) (ret := (some .int)) (by decide) rfl (Nat.le_of_ble_eq_true rfl) ?_
  intro p e s m args below meth c R Q A ls H locs hx hb hr hts hown hlocks hml hnm hR hQ hA hl hP hK hN hD hS
  have hg : ∀ w ∈ gw, w.before args s = true := fun w h => hts w (List.mem_cons_of_mem _ h)
  have hown : s.vm.findClass "RangeCoders$Coder" = some m.cls := hown
  have hl : lv_has ls 1 [(0, Value.ref co)] := hl
  refine lv_aload_n hx hb d_Coder_bytesAsked_0 rfl (lv_at hl 0 rfl) ?_
  refine va_get (D := (dC, dI)) (ci := 3) (v := .int xasked) (C := "RangeCoders$Bits") (T := T_Bits) (N := 15) hx hb hg in_Bits hown hK hP 0 rfl rfl 14 (by decide) (hg _ k130) (fun _ h9 => h9) rfl d_Coder_bytesAsked_1 ?_
  exact my_iret (v := xasked) hx hb hr (rfl) hlocks hQ hK hS (Nat.le_refl _) (Nat.le_refl _) () (trivial) (hP.sub [0] rfl) (hD.sub [0] (by decide +kernel) rfl) d_Coder_bytesAsked_4
set_option maxHeartbeats 2000000 in
set_option maxRecDepth 100000 in
theorem c_Bits_Carries_widenReading (l : Launch) (dC : Nat → ClassId) (dI : Nat → Nat → Nat) (cI cM cO : ClassId) (sz : Nat) (co : Nat) (xshift : Int32) (xkeptCode : Int64) (xkeptRange : Int64) (xkeptAsked : Int32) (xcache : Int32) (xpending : Int32) (xlow : Int64) (xrange : Int64) (xcode : Int64) (xreadLow : Int64) (xreadRange : Int64) (ri : Nat) (ro : Nat) (rw : Nat) (xasked : Int32) (rin : Int32) (ria : Nat) (rik : Nat) (rif : Nat → Int32) (hri : rOk rin rik) : MetV l y_Carries_widenReading (Cond.code y_Carries_widenReading prog_3_method_7_code 2 none :: gw) ({ frames := 3, cells := 0, slots := 0, locals := 63 } : Room) (dC, dI) vwCl (kT cI cM cO) [Value.ref co] [(co, Sum.inr (3, [Value.int xshift, Value.long xkeptCode, Value.long xkeptRange, Value.int xkeptAsked, Value.int xcache, Value.int xpending, Value.long xlow, Value.long xrange, Value.long xcode, Value.long xreadLow, Value.long xreadRange, Value.ref ri, Value.ref ro, Value.ref rw, Value.int xasked])), (ri, Sum.inr (0, [Value.int rin, Value.ref ria])), (ria, Sum.inl (cI, rik, Sum.inl rif))] sz (fun (u : Int64 × Int64 × Int32) => True) (fun (u : Int64 × Int64 × Int32) => [(co, Sum.inr (3, [Value.int xshift, Value.long xkeptCode, Value.long xkeptRange, Value.int xkeptAsked, Value.int xcache, Value.int xpending, Value.long xlow, Value.long xrange, Value.long u.1, Value.long xreadLow, Value.long u.2.1, Value.ref ri, Value.ref ro, Value.ref rw, Value.int u.2.2])), (ri, Sum.inr (0, [Value.int rin, Value.ref ria])), (ria, Sum.inl (cI, rik, Sum.inl rif))]) 0 0 := by
  refine my_ofV (cc := prog_3_method_7_code) (n := 2) (ret := none) (by decide) rfl (Nat.le_of_ble_eq_true rfl) ?_
  intro p e s m args below meth c R Q A ls H locs hx hb hr hts hown hlocks hml hnm hR hQ hA hl hP hK hN hD hS
  have hg : ∀ w ∈ gw, w.before args s = true := fun w h => hts w (List.mem_cons_of_mem _ h)
  have hown : s.vm.findClass "RangeCoders$Carries" = some m.cls := hown
  have hl : lv_has ls 2 [(0, Value.ref co)] := hl
  have hlt_hri := rOk_lt hri
  refine lv_iconst (v := 0) hx hb d_Carries_widenReading_0 (by decide) ?_
  refine lv_istore_n (lv' := [(1, Value.int 0), (0, Value.ref co)]) hx hb d_Carries_widenReading_1 rfl hl (by decide) rfl (fun ls hl => ?_)
  have J_2 : ∀ (n9_2 : Nat) (b2_0 : Int32) (b2_1 : Int64) (b2_2 : Int64) (b2_3 : Int32) (hn9_2 : ((8 : Int32).toInt - b2_0.toInt).toNat = n9_2) (hi_2 : 0 ≤ b2_0.toInt) (H : Heap) (locs : List Loc) (ls : Array Slot), va_P (dC, dI) vwCl [(co, Sum.inr (3, [Value.int xshift, Value.long xkeptCode, Value.long xkeptRange, Value.int xkeptAsked, Value.int xcache, Value.int xpending, Value.long xlow, Value.long xrange, Value.long b2_1, Value.long xreadLow, Value.long b2_2, Value.ref ri, Value.ref ro, Value.ref rw, Value.int b2_3])), (ri, Sum.inr (0, [Value.int rin, Value.ref ria])), (ria, Sum.inl (cI, rik, Sum.inl rif))] H → va_D A [(co, Sum.inr (3, [Value.int xshift, Value.long xkeptCode, Value.long xkeptRange, Value.int xkeptAsked, Value.int xcache, Value.int xpending, Value.long xlow, Value.long xrange, Value.long b2_1, Value.long xreadLow, Value.long b2_2, Value.ref ri, Value.ref ro, Value.ref rw, Value.int b2_3])), (ri, Sum.inr (0, [Value.int rin, Value.ref ria])), (ria, Sum.inl (cI, rik, Sum.inl rif))] → va_S A s.heap H locs → lv_has ls 2 [(1, Value.int b2_0), (0, Value.ref co)] → W p l e R s m args below meth c H locs 0 0 Q (F0 m 2 ls []) := by
    intro n9_2
    induction n9_2 using Nat.strongRecOn with
    | ind n9_2 ih9_2 =>
      intro b2_0 b2_1 b2_2 b2_3 hn9_2 hi_2 H locs ls hP hD hS hl
      refine lv_iload_n hx hb d_Carries_widenReading_2 rfl (lv_at hl 0 rfl) ?_
      refine lv_bipush (v := 8) hx hb d_Carries_widenReading_3 (by decide) ?_
      refine lv_icmp_ge (tgt := 61) hx hb d_Carries_widenReading_5 (by decide) (fun c_1 => ?_) (fun c_1 => ?_)
      · exact my_vret hx hb hr hlocks hQ hK hS (Nat.le_refl _) (Nat.le_refl _) (b2_1, b2_2, b2_3) (trivial) (hP.sub [0, 1, 2] rfl) (hD.sub [0, 1, 2] (by decide +kernel) rfl) d_Carries_widenReading_61
      · refine lv_aload_n hx hb d_Carries_widenReading_8 rfl (lv_at hl 1 rfl) ?_
        refine va_get (D := (dC, dI)) (ci := 3) (v := .long b2_2) (C := "RangeCoders$Bits") (T := T_Bits) (N := 15) hx hb hg in_Bits hown hK hP 0 rfl rfl 10 (by decide) (hg _ k96) (fun x9 h9 => u_same (hg _ k97) x9 h9) rfl d_Carries_widenReading_9 ?_
        refine lv_ldc2 (v := 16777216) hx hb hown (hg _ k461) d_Carries_widenReading_12 ?_
        refine W.lcmp hx hb d_Carries_widenReading_15 ?_
        refine lv_if_ge (tgt := 61) hx hb d_Carries_widenReading_16 (by decide) (fun c_2 => ?_) (fun c_2 => ?_)
        · rw [lg_cmp_ge] at c_2
          exact my_vret hx hb hr hlocks hQ hK hS (Nat.le_refl _) (Nat.le_refl _) (b2_1, b2_2, b2_3) (trivial) (hP.sub [0, 1, 2] rfl) (hD.sub [0, 1, 2] (by decide +kernel) rfl) d_Carries_widenReading_61
        · rw [lg_cmp_ge] at c_2
          refine lv_aload_n hx hb d_Carries_widenReading_19 rfl (lv_at hl 1 rfl) ?_
          refine lv_aload_n hx hb d_Carries_widenReading_20 rfl (lv_at hl 1 rfl) ?_
          refine va_get (D := (dC, dI)) (ci := 3) (v := .long b2_2) (C := "RangeCoders$Bits") (T := T_Bits) (N := 15) hx hb hg in_Bits hown hK hP 0 rfl rfl 10 (by decide) (hg _ k96) (fun x9 h9 => u_same (hg _ k97) x9 h9) rfl d_Carries_widenReading_21 ?_
          refine lv_bipush (v := 8) hx hb d_Carries_widenReading_24 (by decide) ?_
          refine lv_lshl hx hb d_Carries_widenReading_26 rfl ?_
          refine lv_topl (fun v_3 ev_3 => ?_)
          refine lv_ldc2 (v := 4294967295) hx hb hown (hg _ k462) d_Carries_widenReading_27 ?_
          refine lv_land hx hb d_Carries_widenReading_30 ?_
          refine lv_topl (fun v_4 ev_4 => ?_)
          refine va_put (D := (dC, dI)) (ci := 3) (v := .long v_4) (ty := .long) (C := "RangeCoders$Bits") (T := T_Bits) (N := 15) hx hb hg in_Bits t_Bits o_Bits n_Bits hown hK hP hD hS 0 rfl rfl 10 (by decide) (hg _ k96) (fun x9 h9 => u_same (hg _ k97) x9 h9) rfl (o_Bits 10 (by decide)) rfl rfl (Nat.le_of_ble_eq_true rfl) d_Carries_widenReading_31 (fun H locs hP hD hS => ?_)
          have hPD : my_PD (dC, dI) vwCl A [(co, Sum.inr (3, [Value.int xshift, Value.long xkeptCode, Value.long xkeptRange, Value.int xkeptAsked, Value.int xcache, Value.int xpending, Value.long xlow, Value.long xrange, Value.long b2_1, Value.long xreadLow, Value.long v_4, Value.ref ri, Value.ref ro, Value.ref rw, Value.int b2_3])), (ri, Sum.inr (0, [Value.int rin, Value.ref ria])), (ria, Sum.inl (cI, rik, Sum.inl rif))] H := ⟨hP, hD⟩
          have hP := hPD.1
          have hD := hPD.2
          refine lv_aload_n hx hb d_Carries_widenReading_34 rfl (lv_at hl 1 rfl) ?_
          refine lv_aload_n hx hb d_Carries_widenReading_35 rfl (lv_at hl 1 rfl) ?_
          refine va_get (D := (dC, dI)) (ci := 3) (v := .long b2_1) (C := "RangeCoders$Bits") (T := T_Bits) (N := 15) hx hb hg in_Bits hown hK hP 0 rfl rfl 8 (by decide) (hg _ k86) (fun x9 h9 => u_same (hg _ k87) x9 h9) rfl d_Carries_widenReading_36 ?_
          refine lv_bipush (v := 8) hx hb d_Carries_widenReading_39 (by decide) ?_
          refine lv_lshl hx hb d_Carries_widenReading_41 rfl ?_
          refine lv_topl (fun v_5 ev_5 => ?_)
          refine lv_aload_n hx hb d_Carries_widenReading_42 rfl (lv_at hl 1 rfl) ?_
          refine my_ci (wr := []) (va_runU (As := []) (rest := [Value.long v_5, Value.ref co]) ⟨hx, hb, hml, hown, hts⟩ (c_Bits_Coder_nextByte l dC dI cI cM cO H.size co xshift xkeptCode xkeptRange xkeptAsked xcache xpending xlow xrange b2_1 xreadLow v_4 ri ro rw b2_3 rin ria rik rif (by first | assumption | omega)) (va_cwU 0 hts (my_gU k795 k796 k798 k742 k3 k749) rfl rfl rfl rfl (by decide +kernel) ⟨by rw [hR]; exact Nat.le_of_ble_eq_true rfl, by rw [hR]; exact Nat.le_of_ble_eq_true rfl⟩) (my_preV hK hN (hP.sub [0, 1, 2] rfl) (hD.sub [0, 1, 2] (by decide +kernel) rfl) 0 rfl rfl) rfl rfl hl.1 rfl (lv_room (Nat.le_of_ble_eq_true rfl)) d_Carries_widenReading_43 ⟨by rw [hR]; exact Nat.le_of_ble_eq_true rfl, by rw [hR]; exact Nat.le_of_ble_eq_true rfl⟩) hP hD hS hA [0, 1, 2] [] rfl rfl (by decide +kernel) (by decide +kernel) (fun r_43 u9 H locs hw_43 hP hD hS => ?_)
          obtain ⟨xaskedq_43, rfl⟩ : ∃ z, z = u9 := ⟨_, rfl⟩
          have hPD : my_PD (dC, dI) vwCl A [(co, Sum.inr (3, [Value.int xshift, Value.long xkeptCode, Value.long xkeptRange, Value.int xkeptAsked, Value.int xcache, Value.int xpending, Value.long xlow, Value.long xrange, Value.long b2_1, Value.long xreadLow, Value.long v_4, Value.ref ri, Value.ref ro, Value.ref rw, Value.int xaskedq_43])), (ri, Sum.inr (0, [Value.int rin, Value.ref ria])), (ria, Sum.inl (cI, rik, Sum.inl rif))] H := ⟨hP, hD⟩
          have hP := hPD.1
          have hD := hPD.2
          refine lv_i2l hx hb d_Carries_widenReading_46 rfl ?_
          refine lv_topl (fun v_6 ev_6 => ?_)
          refine lv_lor hx hb d_Carries_widenReading_47 ?_
          refine lv_topl (fun v_7 ev_7 => ?_)
          refine lv_ldc2 (v := 4294967295) hx hb hown (hg _ k462) d_Carries_widenReading_48 ?_
          refine lv_land hx hb d_Carries_widenReading_51 ?_
          refine lv_topl (fun v_8 ev_8 => ?_)
          refine va_put (D := (dC, dI)) (ci := 3) (v := .long v_8) (ty := .long) (C := "RangeCoders$Bits") (T := T_Bits) (N := 15) hx hb hg in_Bits t_Bits o_Bits n_Bits hown hK hP hD hS 0 rfl rfl 8 (by decide) (hg _ k86) (fun x9 h9 => u_same (hg _ k87) x9 h9) rfl (o_Bits 8 (by decide)) rfl rfl (Nat.le_of_ble_eq_true rfl) d_Carries_widenReading_52 (fun H locs hP hD hS => ?_)
          have hPD : my_PD (dC, dI) vwCl A [(co, Sum.inr (3, [Value.int xshift, Value.long xkeptCode, Value.long xkeptRange, Value.int xkeptAsked, Value.int xcache, Value.int xpending, Value.long xlow, Value.long xrange, Value.long v_8, Value.long xreadLow, Value.long v_4, Value.ref ri, Value.ref ro, Value.ref rw, Value.int xaskedq_43])), (ri, Sum.inr (0, [Value.int rin, Value.ref ria])), (ria, Sum.inl (cI, rik, Sum.inl rif))] H := ⟨hP, hD⟩
          have hP := hPD.1
          have hD := hPD.2
          obtain ⟨v_9, ev_9⟩ : ∃ y : Int32, y = b2_0 + (1) := ⟨_, rfl⟩
          refine lv_iinc (v := v_9) (lv' := [(1, Value.int v_9), (0, Value.ref co)]) hx hb d_Carries_widenReading_55 hl (k := 0) rfl (by rw [ev_9]; rfl) (by decide) rfl (fun ls hl => ?_)
          refine lv_goto (tgt := 2) hx hb d_Carries_widenReading_58 (by decide) ?_
          exact ih9_2 _ (by first | omega | (have z9 := I_up c_1 ev_9; omega)) v_9 v_8 v_4 xaskedq_43 rfl (by have z9 := I_up c_1 ev_9; omega) H locs ls (hP.sub [0, 1, 2] rfl) (hD.sub [0, 1, 2] (by decide +kernel) rfl) hS (lv_sub hl [0, 1] rfl)
  exact J_2 _ (0 : Int32) xcode xreadRange xasked rfl (by first | decide | assumption | omega) H locs ls (hP.sub [0, 1, 2] rfl) (hD.sub [0, 1, 2] (by decide +kernel) rfl) hS (lv_sub hl [0, 1] rfl)
set_option maxHeartbeats 2000000 in
set_option maxRecDepth 100000 in
theorem c_Bits_Ranged_openReading (l : Launch) (dC : Nat → ClassId) (dI : Nat → Nat → Nat) (cI cM cO : ClassId) (sz : Nat) (co : Nat) (xshift : Int32) (xkeptCode : Int64) (xkeptRange : Int64) (xkeptAsked : Int32) (xcache : Int32) (xpending : Int32) (xlow : Int64) (xrange : Int64) (xcode : Int64) (xreadLow : Int64) (xreadRange : Int64) (ri : Nat) (ro : Nat) (rw : Nat) (xasked : Int32) (rin : Int32) (ria : Nat) (rik : Nat) (rif : Nat → Int32) (hri : rOk rin rik) : MetI l y_Ranged_openReading (Cond.code y_Ranged_openReading prog_8_method_10_code 1 (some .boolean) :: gw) ({ frames := 4, cells := 0, slots := 0, locals := 86 } : Room) (dC, dI) vwCl (kT cI cM cO) [Value.ref co] [(co, Sum.inr (3, [Value.int xshift, Value.long xkeptCode, Value.long xkeptRange, Value.int xkeptAsked, Value.int xcache, Value.int xpending, Value.long xlow, Value.long xrange, Value.long xcode, Value.long xreadLow, Value.long xreadRange, Value.ref ri, Value.ref ro, Value.ref rw, Value.int xasked])), (ri, Sum.inr (0, [Value.int rin, Value.ref ria])), (ria, Sum.inl (cI, rik, Sum.inl rif))] sz (fun (r : Int32) (u : Int64 × Int64 × Int64 × Int32) => True) (fun (u : Int64 × Int64 × Int64 × Int32) => [(co, Sum.inr (3, [Value.int xshift, Value.long xkeptCode, Value.long xkeptRange, Value.int xkeptAsked, Value.int xcache, Value.int xpending, Value.long xlow, Value.long xrange, Value.long u.1, Value.long u.2.1, Value.long u.2.2.1, Value.ref ri, Value.ref ro, Value.ref rw, Value.int u.2.2.2])), (ri, Sum.inr (0, [Value.int rin, Value.ref ria])), (ria, Sum.inl (cI, rik, Sum.inl rif))]) 0 0 := by
  refine my_ofI (cc := prog_8_method_10_code) (n := 1) (ret := (some .boolean)) (by decide) rfl (Nat.le_of_ble_eq_true rfl) ?_
  intro p e s m args below meth c R Q A ls H locs hx hb hr hts hown hlocks hml hnm hR hQ hA hl hP hK hN hD hS
  have hg : ∀ w ∈ gw, w.before args s = true := fun w h => hts w (List.mem_cons_of_mem _ h)
  have hown : s.vm.findClass "RangeCoders$Ranged" = some m.cls := hown
  have hl : lv_has ls 1 [(0, Value.ref co)] := hl
  have hlt_hri := rOk_lt hri
  refine lv_aload_n hx hb d_Ranged_openReading_0 rfl (lv_at hl 0 rfl) ?_
  refine lv_aload_n hx hb d_Ranged_openReading_1 rfl (lv_at hl 0 rfl) ?_
  refine my_cl (wr := []) (va_runU (As := []) (rest := [Value.ref co]) ⟨hx, hb, hml, hown, hts⟩ (c_Bits_Coder_firstFourBytes l dC dI cI cM cO H.size co xshift xkeptCode xkeptRange xkeptAsked xcache xpending xlow xrange xcode xreadLow xreadRange ri ro rw xasked rin ria rik rif (by first | assumption | omega)) (va_cwU 0 hts (my_gU k733 k734 k736 k739 k3 k740) rfl rfl rfl rfl (by decide +kernel) ⟨by rw [hR]; exact Nat.le_of_ble_eq_true rfl, by rw [hR]; exact Nat.le_of_ble_eq_true rfl⟩) (my_preV hK hN (hP.sub [0, 1, 2] rfl) (hD.sub [0, 1, 2] (by decide +kernel) rfl) 0 rfl rfl) rfl rfl hl.1 rfl (lv_room (Nat.le_of_ble_eq_true rfl)) d_Ranged_openReading_2 ⟨by rw [hR]; exact Nat.le_of_ble_eq_true rfl, by rw [hR]; exact Nat.le_of_ble_eq_true rfl⟩) hP hD hS hA [0, 1, 2] [] rfl rfl (by decide +kernel) (by decide +kernel) (fun r_2 u9 H locs hw_2 hP hD hS => ?_)
  obtain ⟨xaskedq_2, rfl⟩ : ∃ z, z = u9 := ⟨_, rfl⟩
  have hPD : my_PD (dC, dI) vwCl A [(co, Sum.inr (3, [Value.int xshift, Value.long xkeptCode, Value.long xkeptRange, Value.int xkeptAsked, Value.int xcache, Value.int xpending, Value.long xlow, Value.long xrange, Value.long xcode, Value.long xreadLow, Value.long xreadRange, Value.ref ri, Value.ref ro, Value.ref rw, Value.int xaskedq_2])), (ri, Sum.inr (0, [Value.int rin, Value.ref ria])), (ria, Sum.inl (cI, rik, Sum.inl rif))] H := ⟨hP, hD⟩
  have hP := hPD.1
  have hD := hPD.2
  refine va_put (D := (dC, dI)) (ci := 3) (v := .long r_2) (ty := .long) (C := "RangeCoders$Bits") (T := T_Bits) (N := 15) hx hb hg in_Bits t_Bits o_Bits n_Bits hown hK hP hD hS 0 rfl rfl 8 (by decide) (hg _ k90) (fun _ h9 => h9) rfl (o_Bits 8 (by decide)) rfl rfl (Nat.le_of_ble_eq_true rfl) d_Ranged_openReading_5 (fun H locs hP hD hS => ?_)
  have hPD : my_PD (dC, dI) vwCl A [(co, Sum.inr (3, [Value.int xshift, Value.long xkeptCode, Value.long xkeptRange, Value.int xkeptAsked, Value.int xcache, Value.int xpending, Value.long xlow, Value.long xrange, Value.long r_2, Value.long xreadLow, Value.long xreadRange, Value.ref ri, Value.ref ro, Value.ref rw, Value.int xaskedq_2])), (ri, Sum.inr (0, [Value.int rin, Value.ref ria])), (ria, Sum.inl (cI, rik, Sum.inl rif))] H := ⟨hP, hD⟩
  have hP := hPD.1
  have hD := hPD.2
  refine lv_aload_n hx hb d_Ranged_openReading_8 rfl (lv_at hl 0 rfl) ?_
  refine lv_lconst (v := 0) hx hb d_Ranged_openReading_9 (by decide) ?_
  refine va_put (D := (dC, dI)) (ci := 3) (v := .long 0) (ty := .long) (C := "RangeCoders$Bits") (T := T_Bits) (N := 15) hx hb hg in_Bits t_Bits o_Bits n_Bits hown hK hP hD hS 0 rfl rfl 9 (by decide) (hg _ k93) (fun _ h9 => h9) rfl (o_Bits 9 (by decide)) rfl rfl (Nat.le_of_ble_eq_true rfl) d_Ranged_openReading_10 (fun H locs hP hD hS => ?_)
  have hPD : my_PD (dC, dI) vwCl A [(co, Sum.inr (3, [Value.int xshift, Value.long xkeptCode, Value.long xkeptRange, Value.int xkeptAsked, Value.int xcache, Value.int xpending, Value.long xlow, Value.long xrange, Value.long r_2, Value.long 0, Value.long xreadRange, Value.ref ri, Value.ref ro, Value.ref rw, Value.int xaskedq_2])), (ri, Sum.inr (0, [Value.int rin, Value.ref ria])), (ria, Sum.inl (cI, rik, Sum.inl rif))] H := ⟨hP, hD⟩
  have hP := hPD.1
  have hD := hPD.2
  refine lv_aload_n hx hb d_Ranged_openReading_13 rfl (lv_at hl 0 rfl) ?_
  refine lv_ldc2 (v := 4294967295) hx hb hown (hg _ k67) d_Ranged_openReading_14 ?_
  refine va_put (D := (dC, dI)) (ci := 3) (v := .long 4294967295) (ty := .long) (C := "RangeCoders$Bits") (T := T_Bits) (N := 15) hx hb hg in_Bits t_Bits o_Bits n_Bits hown hK hP hD hS 0 rfl rfl 10 (by decide) (hg _ k100) (fun _ h9 => h9) rfl (o_Bits 10 (by decide)) rfl rfl (Nat.le_of_ble_eq_true rfl) d_Ranged_openReading_17 (fun H locs hP hD hS => ?_)
  have hPD : my_PD (dC, dI) vwCl A [(co, Sum.inr (3, [Value.int xshift, Value.long xkeptCode, Value.long xkeptRange, Value.int xkeptAsked, Value.int xcache, Value.int xpending, Value.long xlow, Value.long xrange, Value.long r_2, Value.long 0, Value.long 4294967295, Value.ref ri, Value.ref ro, Value.ref rw, Value.int xaskedq_2])), (ri, Sum.inr (0, [Value.int rin, Value.ref ria])), (ria, Sum.inl (cI, rik, Sum.inl rif))] H := ⟨hP, hD⟩
  have hP := hPD.1
  have hD := hPD.2
  refine lv_iconst (v := 1) hx hb d_Ranged_openReading_20 (by decide) ?_
  exact my_iret (v := 1) hx hb hr (rfl) hlocks hQ hK hS (Nat.le_refl _) (Nat.le_refl _) (r_2, (0 : Int64), (4294967295 : Int64), xaskedq_2) (trivial) (hP.sub [0, 1, 2] rfl) (hD.sub [0, 1, 2] (by decide +kernel) rfl) d_Ranged_openReading_21
set_option maxHeartbeats 2000000 in
set_option maxRecDepth 100000 in
theorem c_Bits_Ranged_register (l : Launch) (dC : Nat → ClassId) (dI : Nat → Nat → Nat) (cI cM cO : ClassId) (sz : Nat) (co : Nat) (xshift : Int32) (xkeptCode : Int64) (xkeptRange : Int64) (xkeptAsked : Int32) (xcache : Int32) (xpending : Int32) (xlow : Int64) (xrange : Int64) (xcode : Int64) (xreadLow : Int64) (xreadRange : Int64) (ri : Nat) (ro : Nat) (rw : Nat) (xasked : Int32) (wh : Int32) : MetL l y_Ranged_register (Cond.code y_Ranged_register prog_8_method_13_code 2 (some .long) :: gw) ({ frames := 0, cells := 0, slots := 0, locals := 0 } : Room) (dC, dI) vwCl (kT cI cM cO) [Value.ref co, Value.int wh] [(co, Sum.inr (3, [Value.int xshift, Value.long xkeptCode, Value.long xkeptRange, Value.int xkeptAsked, Value.int xcache, Value.int xpending, Value.long xlow, Value.long xrange, Value.long xcode, Value.long xreadLow, Value.long xreadRange, Value.ref ri, Value.ref ro, Value.ref rw, Value.int xasked]))] sz (fun (r : Int64) (u : Unit) => True) (fun (u : Unit) => [(co, Sum.inr (3, [Value.int xshift, Value.long xkeptCode, Value.long xkeptRange, Value.int xkeptAsked, Value.int xcache, Value.int xpending, Value.long xlow, Value.long xrange, Value.long xcode, Value.long xreadLow, Value.long xreadRange, Value.ref ri, Value.ref ro, Value.ref rw, Value.int xasked]))]) 0 0 := by
  refine my_ofL (cc := prog_8_method_13_code) (n := 2) (ret := (some .long)) (by decide) rfl (Nat.le_of_ble_eq_true rfl) ?_
  intro p e s m args below meth c R Q A ls H locs hx hb hr hts hown hlocks hml hnm hR hQ hA hl hP hK hN hD hS
  have hg : ∀ w ∈ gw, w.before args s = true := fun w h => hts w (List.mem_cons_of_mem _ h)
  have hown : s.vm.findClass "RangeCoders$Ranged" = some m.cls := hown
  have hl : lv_has ls 2 [(0, Value.ref co), (1, Value.int wh)] := hl
  refine lv_iload_n hx hb d_Ranged_register_0 rfl (lv_at hl 1 rfl) ?_
  by_cases c_1 : wh = 0
  · refine lv_tableIn (tgt := 36) hx hb d_Ranged_register_1 (by rw [c_1]; decide) (by rw [c_1]; decide) (by rw [c_1]; rfl) (by decide) ?_
    refine lv_aload_n hx hb d_Ranged_register_36 rfl (lv_at hl 0 rfl) ?_
    refine va_get (D := (dC, dI)) (ci := 3) (v := .long xlow) (C := "RangeCoders$Bits") (T := T_Bits) (N := 15) hx hb hg in_Bits hown hK hP 0 rfl rfl 6 (by decide) (hg _ k74) (fun _ h9 => h9) rfl d_Ranged_register_37 ?_
    exact my_lret (v := xlow) hx hb hr hlocks hQ hK hS (Nat.le_refl _) (Nat.le_refl _) () (trivial) (hP.sub [0] rfl) (hD.sub [0] (by decide +kernel) rfl) d_Ranged_register_40
  by_cases c_2 : wh = 1
  · refine lv_tableIn (tgt := 41) hx hb d_Ranged_register_1 (by rw [c_2]; decide) (by rw [c_2]; decide) (by rw [c_2]; rfl) (by decide) ?_
    refine lv_aload_n hx hb d_Ranged_register_41 rfl (lv_at hl 0 rfl) ?_
    refine va_get (D := (dC, dI)) (ci := 3) (v := .long xrange) (C := "RangeCoders$Bits") (T := T_Bits) (N := 15) hx hb hg in_Bits hown hK hP 0 rfl rfl 7 (by decide) (hg _ k77) (fun _ h9 => h9) rfl d_Ranged_register_42 ?_
    exact my_lret (v := xrange) hx hb hr hlocks hQ hK hS (Nat.le_refl _) (Nat.le_refl _) () (trivial) (hP.sub [0] rfl) (hD.sub [0] (by decide +kernel) rfl) d_Ranged_register_45
  by_cases c_3 : wh = 2
  · refine lv_tableIn (tgt := 46) hx hb d_Ranged_register_1 (by rw [c_3]; decide) (by rw [c_3]; decide) (by rw [c_3]; rfl) (by decide) ?_
    refine lv_aload_n hx hb d_Ranged_register_46 rfl (lv_at hl 0 rfl) ?_
    refine va_get (D := (dC, dI)) (ci := 3) (v := .long xcode) (C := "RangeCoders$Bits") (T := T_Bits) (N := 15) hx hb hg in_Bits hown hK hP 0 rfl rfl 8 (by decide) (hg _ k90) (fun _ h9 => h9) rfl d_Ranged_register_47 ?_
    exact my_lret (v := xcode) hx hb hr hlocks hQ hK hS (Nat.le_refl _) (Nat.le_refl _) () (trivial) (hP.sub [0] rfl) (hD.sub [0] (by decide +kernel) rfl) d_Ranged_register_50
  by_cases c_4 : wh = 3
  · refine lv_tableIn (tgt := 51) hx hb d_Ranged_register_1 (by rw [c_4]; decide) (by rw [c_4]; decide) (by rw [c_4]; rfl) (by decide) ?_
    refine lv_aload_n hx hb d_Ranged_register_51 rfl (lv_at hl 0 rfl) ?_
    refine va_get (D := (dC, dI)) (ci := 3) (v := .long xreadLow) (C := "RangeCoders$Bits") (T := T_Bits) (N := 15) hx hb hg in_Bits hown hK hP 0 rfl rfl 9 (by decide) (hg _ k93) (fun _ h9 => h9) rfl d_Ranged_register_52 ?_
    exact my_lret (v := xreadLow) hx hb hr hlocks hQ hK hS (Nat.le_refl _) (Nat.le_refl _) () (trivial) (hP.sub [0] rfl) (hD.sub [0] (by decide +kernel) rfl) d_Ranged_register_55
  by_cases c_5 : wh = 4
  · refine lv_tableIn (tgt := 56) hx hb d_Ranged_register_1 (by rw [c_5]; decide) (by rw [c_5]; decide) (by rw [c_5]; rfl) (by decide) ?_
    refine lv_aload_n hx hb d_Ranged_register_56 rfl (lv_at hl 0 rfl) ?_
    refine va_get (D := (dC, dI)) (ci := 3) (v := .long xreadRange) (C := "RangeCoders$Bits") (T := T_Bits) (N := 15) hx hb hg in_Bits hown hK hP 0 rfl rfl 10 (by decide) (hg _ k100) (fun _ h9 => h9) rfl d_Ranged_register_57 ?_
    exact my_lret (v := xreadRange) hx hb hr hlocks hQ hK hS (Nat.le_refl _) (Nat.le_refl _) () (trivial) (hP.sub [0] rfl) (hD.sub [0] (by decide +kernel) rfl) d_Ranged_register_60
  refine lv_tableOut (tgt := 61) hx hb d_Ranged_register_1 (by have ac_1 : wh.toInt ≠ 0 := fun z => c_1 (Int32.toInt_inj.mp z); have ac_2 : wh.toInt ≠ 1 := fun z => c_2 (Int32.toInt_inj.mp z); have ac_3 : wh.toInt ≠ 2 := fun z => c_3 (Int32.toInt_inj.mp z); have ac_4 : wh.toInt ≠ 3 := fun z => c_4 (Int32.toInt_inj.mp z); have ac_5 : wh.toInt ≠ 4 := fun z => c_5 (Int32.toInt_inj.mp z); omega) (by decide) ?_
  refine lv_lconst (v := 0) hx hb d_Ranged_register_61 (by decide) ?_
  exact my_lret (v := 0) hx hb hr hlocks hQ hK hS (Nat.le_refl _) (Nat.le_refl _) () (trivial) (hP.sub [0] rfl) (hD.sub [0] (by decide +kernel) rfl) d_Ranged_register_62
set_option maxHeartbeats 2000000 in
set_option maxRecDepth 100000 in
theorem c_Bits_levelsOf (l : Launch) (dC : Nat → ClassId) (dI : Nat → Nat → Nat) (cI cM cO : ClassId) (sz : Nat) (sg : Int32) : MetI l y_Bits_levelsOf (Cond.code y_Bits_levelsOf prog_2_method_9_code 2 (some .int) :: gw) ({ frames := 0, cells := 0, slots := 0, locals := 0 } : Room) (dC, dI) vwCl (kT cI cM cO) [Value.int sg] [] sz (fun (r : Int32) (u : Unit) => 1 ≤ r.toInt ∧ r.toInt ≤ 6) (fun (u : Unit) => []) 0 0 := by
  refine my_ofI (cc := prog_2_method_9_code) (n := 2) (ret := (some .int)) (by decide) rfl (Nat.le_of_ble_eq_true rfl) ?_
  intro p e s m args below meth c R Q A ls H locs hx hb hr hts hown hlocks hml hnm hR hQ hA hl hP hK hN hD hS
  have hg : ∀ w ∈ gw, w.before args s = true := fun w h => hts w (List.mem_cons_of_mem _ h)
  have hown : s.vm.findClass "RangeCoders$Bits" = some m.cls := hown
  have hl : lv_has ls 2 [(0, Value.int sg)] := hl
  refine lv_iconst (v := 1) hx hb d_Bits_levelsOf_0 (by decide) ?_
  refine lv_istore_n (lv' := [(1, Value.int 1), (0, Value.int sg)]) hx hb d_Bits_levelsOf_1 rfl hl (by decide) rfl (fun ls hl => ?_)
  have J_2 : ∀ (n9_2 : Nat) (b2_0 : Int32) (hn9_2 : ((6 : Int32).toInt - b2_0.toInt).toNat = n9_2) (hi_2 : 0 ≤ b2_0.toInt) (hl1_9 : 1 ≤ b2_0.toInt) (hl6_9 : b2_0.toInt ≤ 6) (H : Heap) (locs : List Loc) (ls : Array Slot), va_P (dC, dI) vwCl [] H → va_D A [] → va_S A s.heap H locs → lv_has ls 2 [(1, Value.int b2_0), (0, Value.int sg)] → W p l e R s m args below meth c H locs 0 0 Q (F0 m 2 ls []) := by
    intro n9_2
    induction n9_2 using Nat.strongRecOn with
    | ind n9_2 ih9_2 =>
      intro b2_0 hn9_2 hi_2 hl1_9 hl6_9 H locs ls hP hD hS hl
      refine lv_iload_n hx hb d_Bits_levelsOf_2 rfl (lv_at hl 0 rfl) ?_
      refine lv_bipush (v := 6) hx hb d_Bits_levelsOf_3 (by decide) ?_
      refine lv_icmp_ge (tgt := 21) hx hb d_Bits_levelsOf_5 (by decide) (fun c_1 => ?_) (fun c_1 => ?_)
      · refine lv_iload_n hx hb d_Bits_levelsOf_21 rfl (lv_at hl 0 rfl) ?_
        exact my_iret (v := b2_0) hx hb hr (rfl) hlocks hQ hK hS (Nat.le_refl _) (Nat.le_refl _) () (⟨by first | assumption | (subst_vars; assumption), by first | assumption | (subst_vars; assumption)⟩) (hP.sub [] rfl) (hD.sub [] (by decide +kernel) rfl) d_Bits_levelsOf_22
      · refine lv_iconst (v := 1) hx hb d_Bits_levelsOf_8 (by decide) ?_
        refine lv_iload_n hx hb d_Bits_levelsOf_9 rfl (lv_at hl 0 rfl) ?_
        refine lv_ishl hx hb d_Bits_levelsOf_10 ?_
        refine lv_topi (fun v_2 ev_2 => ?_)
        refine lv_iload_n hx hb d_Bits_levelsOf_11 rfl (lv_at hl 1 rfl) ?_
        refine lv_icmp_ge (tgt := 21) hx hb d_Bits_levelsOf_12 (by decide) (fun c_3 => ?_) (fun c_3 => ?_)
        · refine lv_iload_n hx hb d_Bits_levelsOf_21 rfl (lv_at hl 0 rfl) ?_
          exact my_iret (v := b2_0) hx hb hr (rfl) hlocks hQ hK hS (Nat.le_refl _) (Nat.le_refl _) () (⟨by first | assumption | (subst_vars; assumption), by first | assumption | (subst_vars; assumption)⟩) (hP.sub [] rfl) (hD.sub [] (by decide +kernel) rfl) d_Bits_levelsOf_22
        · obtain ⟨v_4, ev_4⟩ : ∃ y : Int32, y = b2_0 + (1) := ⟨_, rfl⟩
          refine lv_iinc (v := v_4) (lv' := [(1, Value.int v_4), (0, Value.int sg)]) hx hb d_Bits_levelsOf_15 hl (k := 0) rfl (by rw [ev_4]; rfl) (by decide) rfl (fun ls hl => ?_)
          refine lv_goto (tgt := 2) hx hb d_Bits_levelsOf_18 (by decide) ?_
          exact ih9_2 _ (by first | omega | (have z9 := I_up c_1 ev_4; omega)) v_4 rfl (by have z9 := I_up c_1 ev_4; omega) (by have z9 := I_up c_1 ev_4; omega) (by have z9 := I_up c_1 ev_4; have e6 : (6 : Int32).toInt = 6 := rfl; omega) H locs ls (hP.sub [] rfl) (hD.sub [] (by decide +kernel) rfl) hS (lv_sub hl [0, 1] rfl)
  exact J_2 _ (1 : Int32) rfl (by first | decide | assumption | omega) (by decide) (by decide) H locs ls (hP.sub [] rfl) (hD.sub [] (by decide +kernel) rfl) hS (lv_sub hl [0, 1] rfl)
set_option maxHeartbeats 2000000 in
set_option maxRecDepth 100000 in
theorem c_Bits_Bits_prepare (l : Launch) (dC : Nat → ClassId) (dI : Nat → Nat → Nat) (cI cM cO : ClassId) (sz : Nat) (co : Nat) (xshift : Int32) (xkeptCode : Int64) (xkeptRange : Int64) (xkeptAsked : Int32) (xcache : Int32) (xpending : Int32) (xlow : Int64) (xrange : Int64) (xcode : Int64) (xreadLow : Int64) (xreadRange : Int64) (ri : Nat) (ro : Nat) (rw : Nat) (xasked : Int32) (oo : Nat) (osg : Int32) (osm : Int32) (ofc : Int32) (oca : Nat) (opa : Nat) (ol : Nat) (ocf : Nat → Int32) (opl : Nat) (opf : Nat → Int32) (ka : Nat) (kl : Nat) (kf : Nat → Int32) (hol : ol ≤ 64) (hopl : opl ≤ 512) (hkl : kl ≤ 64) : MetV l y_Bits_prepare (Cond.code y_Bits_prepare prog_2_method_3_code 3 none :: gw) ({ frames := 2, cells := 0, slots := 0, locals := 44 } : Room) (dC, dI) vwCl (kT cI cM cO) [Value.ref co, Value.ref oo, Value.ref ka] [(co, Sum.inr (3, [Value.int xshift, Value.long xkeptCode, Value.long xkeptRange, Value.int xkeptAsked, Value.int xcache, Value.int xpending, Value.long xlow, Value.long xrange, Value.long xcode, Value.long xreadLow, Value.long xreadRange, Value.ref ri, Value.ref ro, Value.ref rw, Value.int xasked])), (oo, Sum.inr (7, [Value.int osg, Value.int osm, Value.int ofc, Value.ref oca, Value.ref opa])), (oca, Sum.inl (cI, ol, Sum.inl ocf)), (opa, Sum.inl (cI, opl, Sum.inl opf)), (ka, Sum.inl (cI, kl, Sum.inl kf))] sz (fun (u : Int32 × (Nat → Int32)) => True) (fun (u : Int32 × (Nat → Int32)) => [(co, Sum.inr (3, [Value.int xshift, Value.long xkeptCode, Value.long xkeptRange, Value.int xkeptAsked, Value.int xcache, Value.int xpending, Value.long xlow, Value.long xrange, Value.long xcode, Value.long xreadLow, Value.long xreadRange, Value.ref ri, Value.ref ro, Value.ref rw, Value.int xasked])), (oo, Sum.inr (7, [Value.int osg, Value.int u.1, Value.int ofc, Value.ref oca, Value.ref opa])), (oca, Sum.inl (cI, ol, Sum.inl u.2)), (opa, Sum.inl (cI, opl, Sum.inl opf)), (ka, Sum.inl (cI, kl, Sum.inl kf))]) 0 0 := by
  refine my_ofV (cc := prog_2_method_3_code) (n := 3) (ret := none) (by decide) rfl (Nat.le_of_ble_eq_true rfl) ?_
  intro p e s m args below meth c R Q A ls H locs hx hb hr hts hown hlocks hml hnm hR hQ hA hl hP hK hN hD hS
  have hg : ∀ w ∈ gw, w.before args s = true := fun w h => hts w (List.mem_cons_of_mem _ h)
  have hown : s.vm.findClass "RangeCoders$Bits" = some m.cls := hown
  have hl : lv_has ls 3 [(0, Value.ref co), (1, Value.ref oo), (2, Value.ref ka)] := hl
  refine lv_aload_n hx hb d_Bits_prepare_0 rfl (lv_at hl 1 rfl) ?_
  refine lv_sipush (v := 1024) hx hb d_Bits_prepare_1 (by decide) ?_
  refine my_cv (wr := [(co, Sum.inr (3, [Value.int xshift, Value.long xkeptCode, Value.long xkeptRange, Value.int xkeptAsked, Value.int xcache, Value.int xpending, Value.long xlow, Value.long xrange, Value.long xcode, Value.long xreadLow, Value.long xreadRange, Value.ref ri, Value.ref ro, Value.ref rw, Value.int xasked])), (ka, Sum.inl (cI, kl, Sum.inl kf))]) (va_runV (As := [Value.int 1024]) (rest := []) ⟨hx, hb, hml, hown, hts⟩ (c_Odds_fill l dC dI cI cM cO H.size oo osg osm ofc oca opa ol ocf opl opf 1024 (by first | assumption | omega) (by first | assumption | omega)) (cwV 1 hts (my_gV k359 k360 k361 k14 k362) rfl rfl rfl cu_Odds_fill_1 ⟨by rw [hR]; exact Nat.le_of_ble_eq_true rfl, by rw [hR]; exact Nat.le_of_ble_eq_true rfl⟩) (my_preV hK hN (hP.sub [1, 2, 3] rfl) (hD.sub [1, 2, 3] (by decide +kernel) rfl) 0 rfl rfl) rfl rfl hl.1 rfl (lv_room (Nat.le_of_ble_eq_true rfl)) d_Bits_prepare_4 ⟨by rw [hR]; exact Nat.le_of_ble_eq_true rfl, by rw [hR]; exact Nat.le_of_ble_eq_true rfl⟩) hP hD hS hA [1, 2, 3] [0, 4] rfl rfl (by decide +kernel) (by decide +kernel) (fun u9 H locs hw_4 hP hD hS => ?_)
  obtain ⟨osmq_4, ocfq_4⟩ := u9
  have hPD : my_PD (dC, dI) vwCl A [(co, Sum.inr (3, [Value.int xshift, Value.long xkeptCode, Value.long xkeptRange, Value.int xkeptAsked, Value.int xcache, Value.int xpending, Value.long xlow, Value.long xrange, Value.long xcode, Value.long xreadLow, Value.long xreadRange, Value.ref ri, Value.ref ro, Value.ref rw, Value.int xasked])), (ka, Sum.inl (cI, kl, Sum.inl kf)), (oo, Sum.inr (7, [Value.int osg, Value.int osmq_4, Value.int ofc, Value.ref oca, Value.ref opa])), (oca, Sum.inl (cI, ol, Sum.inl ocfq_4)), (opa, Sum.inl (cI, opl, Sum.inl opf))] H := ⟨hP, hD⟩
  have hP := hPD.1
  have hD := hPD.2
  exact my_vret hx hb hr hlocks hQ hK hS (Nat.le_refl _) (Nat.le_refl _) (osmq_4, ocfq_4) (trivial) (hP.sub [0, 2, 3, 4, 1] rfl) (hD.sub [0, 2, 3, 4, 1] (by decide +kernel) rfl) d_Bits_prepare_7
set_option maxHeartbeats 2000000 in
set_option maxRecDepth 100000 in
theorem c_Bits_Bits_adapt (l : Launch) (dC : Nat → ClassId) (dI : Nat → Nat → Nat) (cI cM cO : ClassId) (sz : Nat) (co : Nat) (xshift : Int32) (xkeptCode : Int64) (xkeptRange : Int64) (xkeptAsked : Int32) (xcache : Int32) (xpending : Int32) (xlow : Int64) (xrange : Int64) (xcode : Int64) (xreadLow : Int64) (xreadRange : Int64) (ri : Nat) (ro : Nat) (rw : Nat) (xasked : Int32) (oo : Nat) (osg : Int32) (osm : Int32) (ofc : Int32) (oca : Nat) (opa : Nat) (ol : Nat) (ocf : Nat → Int32) (opl : Nat) (opf : Nat → Int32) (nd : Int32) (bt : Int32) (hol : ol ≤ 64) (hopl : opl ≤ 512) : MetV l y_Bits_adapt (Cond.code y_Bits_adapt prog_2_method_12_code 5 none :: gw) ({ frames := 2, cells := 0, slots := 0, locals := 43 } : Room) (dC, dI) vwCl (kT cI cM cO) [Value.ref co, Value.ref oo, Value.int nd, Value.int bt] [(co, Sum.inr (3, [Value.int xshift, Value.long xkeptCode, Value.long xkeptRange, Value.int xkeptAsked, Value.int xcache, Value.int xpending, Value.long xlow, Value.long xrange, Value.long xcode, Value.long xreadLow, Value.long xreadRange, Value.ref ri, Value.ref ro, Value.ref rw, Value.int xasked])), (oo, Sum.inr (7, [Value.int osg, Value.int osm, Value.int ofc, Value.ref oca, Value.ref opa])), (oca, Sum.inl (cI, ol, Sum.inl ocf)), (opa, Sum.inl (cI, opl, Sum.inl opf))] sz (fun (u : Int32 × (Nat → Int32)) => True) (fun (u : Int32 × (Nat → Int32)) => [(co, Sum.inr (3, [Value.int xshift, Value.long xkeptCode, Value.long xkeptRange, Value.int xkeptAsked, Value.int xcache, Value.int xpending, Value.long xlow, Value.long xrange, Value.long xcode, Value.long xreadLow, Value.long xreadRange, Value.ref ri, Value.ref ro, Value.ref rw, Value.int xasked])), (oo, Sum.inr (7, [Value.int osg, Value.int u.1, Value.int ofc, Value.ref oca, Value.ref opa])), (oca, Sum.inl (cI, ol, Sum.inl u.2)), (opa, Sum.inl (cI, opl, Sum.inl opf))]) 0 0 := by
  refine my_ofV (cc := prog_2_method_12_code) (n := 5) (ret := none) (by decide) rfl (Nat.le_of_ble_eq_true rfl) ?_
  intro p e s m args below meth c R Q A ls H locs hx hb hr hts hown hlocks hml hnm hR hQ hA hl hP hK hN hD hS
  have hg : ∀ w ∈ gw, w.before args s = true := fun w h => hts w (List.mem_cons_of_mem _ h)
  have hown : s.vm.findClass "RangeCoders$Bits" = some m.cls := hown
  have hl : lv_has ls 5 [(0, Value.ref co), (1, Value.ref oo), (2, Value.int nd), (3, Value.int bt)] := hl
  refine lv_aload_n hx hb d_Bits_adapt_0 rfl (lv_at hl 1 rfl) ?_
  refine lv_iload_n hx hb d_Bits_adapt_1 rfl (lv_at hl 2 rfl) ?_
  refine my_ci (wr := [(co, Sum.inr (3, [Value.int xshift, Value.long xkeptCode, Value.long xkeptRange, Value.int xkeptAsked, Value.int xcache, Value.int xpending, Value.long xlow, Value.long xrange, Value.long xcode, Value.long xreadLow, Value.long xreadRange, Value.ref ri, Value.ref ro, Value.ref rw, Value.int xasked]))]) (va_runV (As := [Value.int nd]) (rest := []) ⟨hx, hb, hml, hown, hts⟩ (c_Odds_at l dC dI cI cM cO H.size oo osg osm ofc oca opa ol ocf opl opf nd (by first | assumption | omega) (by first | assumption | omega)) (cwV 1 hts (my_gV k449 k436 k437 k14 k438) rfl rfl rfl cu_Odds_at_1 ⟨by rw [hR]; exact Nat.le_of_ble_eq_true rfl, by rw [hR]; exact Nat.le_of_ble_eq_true rfl⟩) (my_preV hK hN (hP.sub [1, 2, 3] rfl) (hD.sub [1, 2, 3] (by decide +kernel) rfl) 0 rfl rfl) rfl rfl hl.1 rfl (lv_room (Nat.le_of_ble_eq_true rfl)) d_Bits_adapt_2 ⟨by rw [hR]; exact Nat.le_of_ble_eq_true rfl, by rw [hR]; exact Nat.le_of_ble_eq_true rfl⟩) hP hD hS hA [1, 2, 3] [0] rfl rfl (by decide +kernel) (by decide +kernel) (fun r_2 u9 H locs hw_2 hP hD hS => ?_)
  have hPD : my_PD (dC, dI) vwCl A [(co, Sum.inr (3, [Value.int xshift, Value.long xkeptCode, Value.long xkeptRange, Value.int xkeptAsked, Value.int xcache, Value.int xpending, Value.long xlow, Value.long xrange, Value.long xcode, Value.long xreadLow, Value.long xreadRange, Value.ref ri, Value.ref ro, Value.ref rw, Value.int xasked])), (oo, Sum.inr (7, [Value.int osg, Value.int osm, Value.int ofc, Value.ref oca, Value.ref opa])), (oca, Sum.inl (cI, ol, Sum.inl ocf)), (opa, Sum.inl (cI, opl, Sum.inl opf))] H := ⟨hP, hD⟩
  have hP := hPD.1
  have hD := hPD.2
  refine lv_istore (lv' := [(4, Value.int r_2), (0, Value.ref co), (1, Value.ref oo), (2, Value.int nd), (3, Value.int bt)]) hx hb d_Bits_adapt_5 hl (by decide) rfl (fun ls hl => ?_)
  refine lv_aload_n hx hb d_Bits_adapt_7 rfl (lv_at hl 2 rfl) ?_
  refine lv_iload_n hx hb d_Bits_adapt_8 rfl (lv_at hl 3 rfl) ?_
  refine lv_iload_n hx hb d_Bits_adapt_9 rfl (lv_at hl 4 rfl) ?_
  refine lv_if_ne (tgt := 27) hx hb d_Bits_adapt_10 (by decide) (fun c_1 => ?_) (fun c_1 => ?_)
  · refine lv_iload hx hb d_Bits_adapt_27 (lv_at hl 0 rfl) ?_
    refine lv_aload_n hx hb d_Bits_adapt_29 rfl (lv_at hl 1 rfl) ?_
    refine va_get (D := (dC, dI)) (ci := 3) (v := .int xshift) (C := "RangeCoders$Bits") (T := T_Bits) (N := 15) hx hb hg in_Bits hown hK hP 0 rfl rfl 0 (by decide) (hg _ k176) (fun _ h9 => h9) rfl d_Bits_adapt_30 ?_
    refine lv_ishr hx hb d_Bits_adapt_33 ?_
    refine lv_topi (fun v_2 ev_2 => ?_)
    refine lv_ineg hx hb d_Bits_adapt_34 ?_
    refine lv_topi (fun v_3 ev_3 => ?_)
    refine my_cv (wr := [(co, Sum.inr (3, [Value.int xshift, Value.long xkeptCode, Value.long xkeptRange, Value.int xkeptAsked, Value.int xcache, Value.int xpending, Value.long xlow, Value.long xrange, Value.long xcode, Value.long xreadLow, Value.long xreadRange, Value.ref ri, Value.ref ro, Value.ref rw, Value.int xasked]))]) (va_runV (As := [Value.int nd, Value.int v_3]) (rest := []) ⟨hx, hb, hml, hown, hts⟩ (c_Odds_grow l dC dI cI cM cO H.size oo osg osm ofc oca opa ol ocf opl opf nd v_3 (by first | assumption | omega) (by first | assumption | omega)) (cwV 2 hts (my_gV k454 k393 k394 k14 k395) rfl rfl rfl cu_Odds_grow_2 ⟨by rw [hR]; exact Nat.le_of_ble_eq_true rfl, by rw [hR]; exact Nat.le_of_ble_eq_true rfl⟩) (my_preV hK hN (hP.sub [1, 2, 3] rfl) (hD.sub [1, 2, 3] (by decide +kernel) rfl) 0 rfl rfl) rfl rfl hl.1 rfl (lv_room (Nat.le_of_ble_eq_true rfl)) d_Bits_adapt_35 ⟨by rw [hR]; exact Nat.le_of_ble_eq_true rfl, by rw [hR]; exact Nat.le_of_ble_eq_true rfl⟩) hP hD hS hA [1, 2, 3] [0] rfl rfl (by decide +kernel) (by decide +kernel) (fun u9 H locs hw_35 hP hD hS => ?_)
    obtain ⟨osmq_35, ocfq_35⟩ := u9
    have hPD : my_PD (dC, dI) vwCl A [(co, Sum.inr (3, [Value.int xshift, Value.long xkeptCode, Value.long xkeptRange, Value.int xkeptAsked, Value.int xcache, Value.int xpending, Value.long xlow, Value.long xrange, Value.long xcode, Value.long xreadLow, Value.long xreadRange, Value.ref ri, Value.ref ro, Value.ref rw, Value.int xasked])), (oo, Sum.inr (7, [Value.int osg, Value.int osmq_35, Value.int ofc, Value.ref oca, Value.ref opa])), (oca, Sum.inl (cI, ol, Sum.inl ocfq_35)), (opa, Sum.inl (cI, opl, Sum.inl opf))] H := ⟨hP, hD⟩
    have hP := hPD.1
    have hD := hPD.2
    exact my_vret hx hb hr hlocks hQ hK hS (Nat.le_refl _) (Nat.le_refl _) (osmq_35, ocfq_35) (trivial) (hP.sub [0, 1, 2, 3] rfl) (hD.sub [0, 1, 2, 3] (by decide +kernel) rfl) d_Bits_adapt_38
  · refine lv_sipush (v := 2048) hx hb d_Bits_adapt_13 (by decide) ?_
    refine lv_iload hx hb d_Bits_adapt_16 (lv_at hl 0 rfl) ?_
    refine lv_isub hx hb d_Bits_adapt_18 ?_
    refine lv_topi (fun v_4 ev_4 => ?_)
    refine lv_aload_n hx hb d_Bits_adapt_19 rfl (lv_at hl 1 rfl) ?_
    refine va_get (D := (dC, dI)) (ci := 3) (v := .int xshift) (C := "RangeCoders$Bits") (T := T_Bits) (N := 15) hx hb hg in_Bits hown hK hP 0 rfl rfl 0 (by decide) (hg _ k176) (fun _ h9 => h9) rfl d_Bits_adapt_20 ?_
    refine lv_ishr hx hb d_Bits_adapt_23 ?_
    refine lv_topi (fun v_5 ev_5 => ?_)
    refine lv_goto (tgt := 35) hx hb d_Bits_adapt_24 (by decide) ?_
    refine my_cv (wr := [(co, Sum.inr (3, [Value.int xshift, Value.long xkeptCode, Value.long xkeptRange, Value.int xkeptAsked, Value.int xcache, Value.int xpending, Value.long xlow, Value.long xrange, Value.long xcode, Value.long xreadLow, Value.long xreadRange, Value.ref ri, Value.ref ro, Value.ref rw, Value.int xasked]))]) (va_runV (As := [Value.int nd, Value.int v_5]) (rest := []) ⟨hx, hb, hml, hown, hts⟩ (c_Odds_grow l dC dI cI cM cO H.size oo osg osm ofc oca opa ol ocf opl opf nd v_5 (by first | assumption | omega) (by first | assumption | omega)) (cwV 2 hts (my_gV k454 k393 k394 k14 k395) rfl rfl rfl cu_Odds_grow_2 ⟨by rw [hR]; exact Nat.le_of_ble_eq_true rfl, by rw [hR]; exact Nat.le_of_ble_eq_true rfl⟩) (my_preV hK hN (hP.sub [1, 2, 3] rfl) (hD.sub [1, 2, 3] (by decide +kernel) rfl) 0 rfl rfl) rfl rfl hl.1 rfl (lv_room (Nat.le_of_ble_eq_true rfl)) d_Bits_adapt_35 ⟨by rw [hR]; exact Nat.le_of_ble_eq_true rfl, by rw [hR]; exact Nat.le_of_ble_eq_true rfl⟩) hP hD hS hA [1, 2, 3] [0] rfl rfl (by decide +kernel) (by decide +kernel) (fun u9 H locs hw_35 hP hD hS => ?_)
    obtain ⟨osmq_35, ocfq_35⟩ := u9
    have hPD : my_PD (dC, dI) vwCl A [(co, Sum.inr (3, [Value.int xshift, Value.long xkeptCode, Value.long xkeptRange, Value.int xkeptAsked, Value.int xcache, Value.int xpending, Value.long xlow, Value.long xrange, Value.long xcode, Value.long xreadLow, Value.long xreadRange, Value.ref ri, Value.ref ro, Value.ref rw, Value.int xasked])), (oo, Sum.inr (7, [Value.int osg, Value.int osmq_35, Value.int ofc, Value.ref oca, Value.ref opa])), (oca, Sum.inl (cI, ol, Sum.inl ocfq_35)), (opa, Sum.inl (cI, opl, Sum.inl opf))] H := ⟨hP, hD⟩
    have hP := hPD.1
    have hD := hPD.2
    exact my_vret hx hb hr hlocks hQ hK hS (Nat.le_refl _) (Nat.le_refl _) (osmq_35, ocfq_35) (trivial) (hP.sub [0, 1, 2, 3] rfl) (hD.sub [0, 1, 2, 3] (by decide +kernel) rfl) d_Bits_adapt_38
set_option maxHeartbeats 2000000 in
set_option maxRecDepth 100000 in
theorem c_Bits_Bits_keepReading (l : Launch) (dC : Nat → ClassId) (dI : Nat → Nat → Nat) (cI cM cO : ClassId) (sz : Nat) (co : Nat) (xshift : Int32) (xkeptCode : Int64) (xkeptRange : Int64) (xkeptAsked : Int32) (xcache : Int32) (xpending : Int32) (xlow : Int64) (xrange : Int64) (xcode : Int64) (xreadLow : Int64) (xreadRange : Int64) (ri : Nat) (ro : Nat) (rw : Nat) (xasked : Int32) : MetV l y_Bits_keepReading (Cond.code y_Bits_keepReading prog_2_method_13_code 1 none :: gw) ({ frames := 0, cells := 0, slots := 0, locals := 0 } : Room) (dC, dI) vwCl (kT cI cM cO) [Value.ref co] [(co, Sum.inr (3, [Value.int xshift, Value.long xkeptCode, Value.long xkeptRange, Value.int xkeptAsked, Value.int xcache, Value.int xpending, Value.long xlow, Value.long xrange, Value.long xcode, Value.long xreadLow, Value.long xreadRange, Value.ref ri, Value.ref ro, Value.ref rw, Value.int xasked]))] sz (fun (u : Int64 × Int64 × Int32) => True) (fun (u : Int64 × Int64 × Int32) => [(co, Sum.inr (3, [Value.int xshift, Value.long u.1, Value.long u.2.1, Value.int u.2.2, Value.int xcache, Value.int xpending, Value.long xlow, Value.long xrange, Value.long xcode, Value.long xreadLow, Value.long xreadRange, Value.ref ri, Value.ref ro, Value.ref rw, Value.int xasked]))]) 0 0 := by
  refine my_ofV (cc := prog_2_method_13_code) (n := 1) (ret := none) (by decide) rfl (Nat.le_of_ble_eq_true rfl) ?_
  intro p e s m args below meth c R Q A ls H locs hx hb hr hts hown hlocks hml hnm hR hQ hA hl hP hK hN hD hS
  have hg : ∀ w ∈ gw, w.before args s = true := fun w h => hts w (List.mem_cons_of_mem _ h)
  have hown : s.vm.findClass "RangeCoders$Bits" = some m.cls := hown
  have hl : lv_has ls 1 [(0, Value.ref co)] := hl
  refine lv_aload_n hx hb d_Bits_keepReading_0 rfl (lv_at hl 0 rfl) ?_
  refine lv_aload_n hx hb d_Bits_keepReading_1 rfl (lv_at hl 0 rfl) ?_
  refine va_get (D := (dC, dI)) (ci := 3) (v := .long xcode) (C := "RangeCoders$Bits") (T := T_Bits) (N := 15) hx hb hg in_Bits hown hK hP 0 rfl rfl 8 (by decide) (hg _ k88) (fun x9 h9 => u_same (hg _ k89) x9 h9) rfl d_Bits_keepReading_2 ?_
  refine va_put (D := (dC, dI)) (ci := 3) (v := .long xcode) (ty := .long) (C := "RangeCoders$Bits") (T := T_Bits) (N := 15) hx hb hg in_Bits t_Bits o_Bits n_Bits hown hK hP hD hS 0 rfl rfl 1 (by decide) (hg _ k177) (fun _ h9 => h9) rfl (o_Bits 1 (by decide)) rfl rfl (Nat.le_of_ble_eq_true rfl) d_Bits_keepReading_5 (fun H locs hP hD hS => ?_)
  have hPD : my_PD (dC, dI) vwCl A [(co, Sum.inr (3, [Value.int xshift, Value.long xcode, Value.long xkeptRange, Value.int xkeptAsked, Value.int xcache, Value.int xpending, Value.long xlow, Value.long xrange, Value.long xcode, Value.long xreadLow, Value.long xreadRange, Value.ref ri, Value.ref ro, Value.ref rw, Value.int xasked]))] H := ⟨hP, hD⟩
  have hP := hPD.1
  have hD := hPD.2
  refine lv_aload_n hx hb d_Bits_keepReading_8 rfl (lv_at hl 0 rfl) ?_
  refine lv_aload_n hx hb d_Bits_keepReading_9 rfl (lv_at hl 0 rfl) ?_
  refine va_get (D := (dC, dI)) (ci := 3) (v := .long xreadRange) (C := "RangeCoders$Bits") (T := T_Bits) (N := 15) hx hb hg in_Bits hown hK hP 0 rfl rfl 10 (by decide) (hg _ k98) (fun x9 h9 => u_same (hg _ k99) x9 h9) rfl d_Bits_keepReading_10 ?_
  refine va_put (D := (dC, dI)) (ci := 3) (v := .long xreadRange) (ty := .long) (C := "RangeCoders$Bits") (T := T_Bits) (N := 15) hx hb hg in_Bits t_Bits o_Bits n_Bits hown hK hP hD hS 0 rfl rfl 2 (by decide) (hg _ k178) (fun _ h9 => h9) rfl (o_Bits 2 (by decide)) rfl rfl (Nat.le_of_ble_eq_true rfl) d_Bits_keepReading_13 (fun H locs hP hD hS => ?_)
  have hPD : my_PD (dC, dI) vwCl A [(co, Sum.inr (3, [Value.int xshift, Value.long xcode, Value.long xreadRange, Value.int xkeptAsked, Value.int xcache, Value.int xpending, Value.long xlow, Value.long xrange, Value.long xcode, Value.long xreadLow, Value.long xreadRange, Value.ref ri, Value.ref ro, Value.ref rw, Value.int xasked]))] H := ⟨hP, hD⟩
  have hP := hPD.1
  have hD := hPD.2
  refine lv_aload_n hx hb d_Bits_keepReading_16 rfl (lv_at hl 0 rfl) ?_
  refine lv_aload_n hx hb d_Bits_keepReading_17 rfl (lv_at hl 0 rfl) ?_
  refine va_get (D := (dC, dI)) (ci := 3) (v := .int xasked) (C := "RangeCoders$Bits") (T := T_Bits) (N := 15) hx hb hg in_Bits hown hK hP 0 rfl rfl 14 (by decide) (hg _ k128) (fun x9 h9 => u_same (hg _ k129) x9 h9) rfl d_Bits_keepReading_18 ?_
  refine va_put (D := (dC, dI)) (ci := 3) (v := .int xasked) (ty := .int) (C := "RangeCoders$Bits") (T := T_Bits) (N := 15) hx hb hg in_Bits t_Bits o_Bits n_Bits hown hK hP hD hS 0 rfl rfl 3 (by decide) (hg _ k179) (fun _ h9 => h9) rfl (o_Bits 3 (by decide)) rfl rfl (Nat.le_of_ble_eq_true rfl) d_Bits_keepReading_21 (fun H locs hP hD hS => ?_)
  have hPD : my_PD (dC, dI) vwCl A [(co, Sum.inr (3, [Value.int xshift, Value.long xcode, Value.long xreadRange, Value.int xasked, Value.int xcache, Value.int xpending, Value.long xlow, Value.long xrange, Value.long xcode, Value.long xreadLow, Value.long xreadRange, Value.ref ri, Value.ref ro, Value.ref rw, Value.int xasked]))] H := ⟨hP, hD⟩
  have hP := hPD.1
  have hD := hPD.2
  exact my_vret hx hb hr hlocks hQ hK hS (Nat.le_refl _) (Nat.le_refl _) (xcode, xreadRange, xasked) (trivial) (hP.sub [0] rfl) (hD.sub [0] (by decide +kernel) rfl) d_Bits_keepReading_24
set_option maxHeartbeats 2000000 in
set_option maxRecDepth 100000 in
theorem c_Bits_Bits_undone (l : Launch) (dC : Nat → ClassId) (dI : Nat → Nat → Nat) (cI cM cO : ClassId) (sz : Nat) (co : Nat) (xshift : Int32) (xkeptCode : Int64) (xkeptRange : Int64) (xkeptAsked : Int32) (xcache : Int32) (xpending : Int32) (xlow : Int64) (xrange : Int64) (xcode : Int64) (xreadLow : Int64) (xreadRange : Int64) (ri : Nat) (ro : Nat) (rw : Nat) (xasked : Int32) : MetI l y_Bits_undone (Cond.code y_Bits_undone prog_2_method_14_code 1 (some .int) :: gw) ({ frames := 0, cells := 0, slots := 0, locals := 0 } : Room) (dC, dI) vwCl (kT cI cM cO) [Value.ref co] [(co, Sum.inr (3, [Value.int xshift, Value.long xkeptCode, Value.long xkeptRange, Value.int xkeptAsked, Value.int xcache, Value.int xpending, Value.long xlow, Value.long xrange, Value.long xcode, Value.long xreadLow, Value.long xreadRange, Value.ref ri, Value.ref ro, Value.ref rw, Value.int xasked]))] sz (fun (r : Int32) (u : Int64 × Int64 × Int32) => True) (fun (u : Int64 × Int64 × Int32) => [(co, Sum.inr (3, [Value.int xshift, Value.long xkeptCode, Value.long xkeptRange, Value.int xkeptAsked, Value.int xcache, Value.int xpending, Value.long xlow, Value.long xrange, Value.long u.1, Value.long xreadLow, Value.long u.2.1, Value.ref ri, Value.ref ro, Value.ref rw, Value.int u.2.2]))]) 0 0 := by
  refine my_ofI (cc := prog_2_method_14_code) (n := 1) (ret := (some .int)) (by decide) rfl (Nat.le_of_ble_eq_true rfl) ?_
  intro p e s m args below meth c R Q A ls H locs hx hb hr hts hown hlocks hml hnm hR hQ hA hl hP hK hN hD hS
  have hg : ∀ w ∈ gw, w.before args s = true := fun w h => hts w (List.mem_cons_of_mem _ h)
  have hown : s.vm.findClass "RangeCoders$Bits" = some m.cls := hown
  have hl : lv_has ls 1 [(0, Value.ref co)] := hl
  refine lv_aload_n hx hb d_Bits_undone_0 rfl (lv_at hl 0 rfl) ?_
  refine lv_aload_n hx hb d_Bits_undone_1 rfl (lv_at hl 0 rfl) ?_
  refine va_get (D := (dC, dI)) (ci := 3) (v := .long xkeptCode) (C := "RangeCoders$Bits") (T := T_Bits) (N := 15) hx hb hg in_Bits hown hK hP 0 rfl rfl 1 (by decide) (hg _ k177) (fun _ h9 => h9) rfl d_Bits_undone_2 ?_
  refine va_put (D := (dC, dI)) (ci := 3) (v := .long xkeptCode) (ty := .long) (C := "RangeCoders$Bits") (T := T_Bits) (N := 15) hx hb hg in_Bits t_Bits o_Bits n_Bits hown hK hP hD hS 0 rfl rfl 8 (by decide) (hg _ k88) (fun x9 h9 => u_same (hg _ k89) x9 h9) rfl (o_Bits 8 (by decide)) rfl rfl (Nat.le_of_ble_eq_true rfl) d_Bits_undone_5 (fun H locs hP hD hS => ?_)
  have hPD : my_PD (dC, dI) vwCl A [(co, Sum.inr (3, [Value.int xshift, Value.long xkeptCode, Value.long xkeptRange, Value.int xkeptAsked, Value.int xcache, Value.int xpending, Value.long xlow, Value.long xrange, Value.long xkeptCode, Value.long xreadLow, Value.long xreadRange, Value.ref ri, Value.ref ro, Value.ref rw, Value.int xasked]))] H := ⟨hP, hD⟩
  have hP := hPD.1
  have hD := hPD.2
  refine lv_aload_n hx hb d_Bits_undone_8 rfl (lv_at hl 0 rfl) ?_
  refine lv_aload_n hx hb d_Bits_undone_9 rfl (lv_at hl 0 rfl) ?_
  refine va_get (D := (dC, dI)) (ci := 3) (v := .long xkeptRange) (C := "RangeCoders$Bits") (T := T_Bits) (N := 15) hx hb hg in_Bits hown hK hP 0 rfl rfl 2 (by decide) (hg _ k178) (fun _ h9 => h9) rfl d_Bits_undone_10 ?_
  refine va_put (D := (dC, dI)) (ci := 3) (v := .long xkeptRange) (ty := .long) (C := "RangeCoders$Bits") (T := T_Bits) (N := 15) hx hb hg in_Bits t_Bits o_Bits n_Bits hown hK hP hD hS 0 rfl rfl 10 (by decide) (hg _ k98) (fun x9 h9 => u_same (hg _ k99) x9 h9) rfl (o_Bits 10 (by decide)) rfl rfl (Nat.le_of_ble_eq_true rfl) d_Bits_undone_13 (fun H locs hP hD hS => ?_)
  have hPD : my_PD (dC, dI) vwCl A [(co, Sum.inr (3, [Value.int xshift, Value.long xkeptCode, Value.long xkeptRange, Value.int xkeptAsked, Value.int xcache, Value.int xpending, Value.long xlow, Value.long xrange, Value.long xkeptCode, Value.long xreadLow, Value.long xkeptRange, Value.ref ri, Value.ref ro, Value.ref rw, Value.int xasked]))] H := ⟨hP, hD⟩
  have hP := hPD.1
  have hD := hPD.2
  refine lv_aload_n hx hb d_Bits_undone_16 rfl (lv_at hl 0 rfl) ?_
  refine lv_aload_n hx hb d_Bits_undone_17 rfl (lv_at hl 0 rfl) ?_
  refine va_get (D := (dC, dI)) (ci := 3) (v := .int xkeptAsked) (C := "RangeCoders$Bits") (T := T_Bits) (N := 15) hx hb hg in_Bits hown hK hP 0 rfl rfl 3 (by decide) (hg _ k179) (fun _ h9 => h9) rfl d_Bits_undone_18 ?_
  refine va_put (D := (dC, dI)) (ci := 3) (v := .int xkeptAsked) (ty := .int) (C := "RangeCoders$Bits") (T := T_Bits) (N := 15) hx hb hg in_Bits t_Bits o_Bits n_Bits hown hK hP hD hS 0 rfl rfl 14 (by decide) (hg _ k128) (fun x9 h9 => u_same (hg _ k129) x9 h9) rfl (o_Bits 14 (by decide)) rfl rfl (Nat.le_of_ble_eq_true rfl) d_Bits_undone_21 (fun H locs hP hD hS => ?_)
  have hPD : my_PD (dC, dI) vwCl A [(co, Sum.inr (3, [Value.int xshift, Value.long xkeptCode, Value.long xkeptRange, Value.int xkeptAsked, Value.int xcache, Value.int xpending, Value.long xlow, Value.long xrange, Value.long xkeptCode, Value.long xreadLow, Value.long xkeptRange, Value.ref ri, Value.ref ro, Value.ref rw, Value.int xkeptAsked]))] H := ⟨hP, hD⟩
  have hP := hPD.1
  have hD := hPD.2
  refine lv_iconst (v := (-1)) hx hb d_Bits_undone_24 (by decide) ?_
  exact my_iret (v := (-1)) hx hb hr (rfl) hlocks hQ hK hS (Nat.le_refl _) (Nat.le_refl _) (xkeptCode, xkeptRange, xkeptAsked) (trivial) (hP.sub [0] rfl) (hD.sub [0] (by decide +kernel) rfl) d_Bits_undone_25
set_option maxHeartbeats 2000000 in
set_option maxRecDepth 100000 in
theorem c_Bits_Bits_nextBit (l : Launch) (dC : Nat → ClassId) (dI : Nat → Nat → Nat) (cI cM cO : ClassId) (sz : Nat) (co : Nat) (xshift : Int32) (xkeptCode : Int64) (xkeptRange : Int64) (xkeptAsked : Int32) (xcache : Int32) (xpending : Int32) (xlow : Int64) (xrange : Int64) (xcode : Int64) (xreadLow : Int64) (xreadRange : Int64) (ri : Nat) (ro : Nat) (rw : Nat) (xasked : Int32) (rin : Int32) (ria : Nat) (rik : Nat) (rif : Nat → Int32) (oo : Nat) (osg : Int32) (osm : Int32) (ofc : Int32) (oca : Nat) (opa : Nat) (ol : Nat) (ocf : Nat → Int32) (opl : Nat) (opf : Nat → Int32) (nd : Int32) (hri : rOk rin rik) (hol : ol ≤ 64) (hopl : opl ≤ 512) : MetI l y_Bits_nextBit (Cond.code y_Bits_nextBit prog_2_method_11_code 6 (some .int) :: gw) ({ frames := 4, cells := 0, slots := 0, locals := 84 } : Room) (dC, dI) vwCl (kT cI cM cO) [Value.ref co, Value.ref oo, Value.int nd] [(co, Sum.inr (3, [Value.int xshift, Value.long xkeptCode, Value.long xkeptRange, Value.int xkeptAsked, Value.int xcache, Value.int xpending, Value.long xlow, Value.long xrange, Value.long xcode, Value.long xreadLow, Value.long xreadRange, Value.ref ri, Value.ref ro, Value.ref rw, Value.int xasked])), (ri, Sum.inr (0, [Value.int rin, Value.ref ria])), (ria, Sum.inl (cI, rik, Sum.inl rif)), (oo, Sum.inr (7, [Value.int osg, Value.int osm, Value.int ofc, Value.ref oca, Value.ref opa])), (oca, Sum.inl (cI, ol, Sum.inl ocf)), (opa, Sum.inl (cI, opl, Sum.inl opf))] sz (fun (r : Int32) (u : Int64 × Int64 × Int32 × Int32 × (Nat → Int32)) => True) (fun (u : Int64 × Int64 × Int32 × Int32 × (Nat → Int32)) => [(co, Sum.inr (3, [Value.int xshift, Value.long xkeptCode, Value.long xkeptRange, Value.int xkeptAsked, Value.int xcache, Value.int xpending, Value.long xlow, Value.long xrange, Value.long u.1, Value.long xreadLow, Value.long u.2.1, Value.ref ri, Value.ref ro, Value.ref rw, Value.int u.2.2.1])), (ri, Sum.inr (0, [Value.int rin, Value.ref ria])), (ria, Sum.inl (cI, rik, Sum.inl rif)), (oo, Sum.inr (7, [Value.int osg, Value.int u.2.2.2.1, Value.int ofc, Value.ref oca, Value.ref opa])), (oca, Sum.inl (cI, ol, Sum.inl u.2.2.2.2)), (opa, Sum.inl (cI, opl, Sum.inl opf))]) 0 0 := by
  refine my_ofI (cc := prog_2_method_11_code) (n := 6) (ret := (some .int)) (by decide) rfl (Nat.le_of_ble_eq_true rfl) ?_
  intro p e s m args below meth c R Q A ls H locs hx hb hr hts hown hlocks hml hnm hR hQ hA hl hP hK hN hD hS
  have hg : ∀ w ∈ gw, w.before args s = true := fun w h => hts w (List.mem_cons_of_mem _ h)
  have hown : s.vm.findClass "RangeCoders$Bits" = some m.cls := hown
  have hl : lv_has ls 6 [(0, Value.ref co), (1, Value.ref oo), (2, Value.int nd)] := hl
  have hlt_hri := rOk_lt hri
  refine lv_aload_n hx hb d_Bits_nextBit_0 rfl (lv_at hl 0 rfl) ?_
  refine va_get (D := (dC, dI)) (ci := 3) (v := .long xreadRange) (C := "RangeCoders$Bits") (T := T_Bits) (N := 15) hx hb hg in_Bits hown hK hP 0 rfl rfl 10 (by decide) (hg _ k98) (fun x9 h9 => u_same (hg _ k99) x9 h9) rfl d_Bits_nextBit_1 ?_
  refine lv_bipush (v := 11) hx hb d_Bits_nextBit_4 (by decide) ?_
  refine lv_lushr hx hb d_Bits_nextBit_6 rfl ?_
  refine lv_topl (fun v_1 ev_1 => ?_)
  refine lv_aload_n hx hb d_Bits_nextBit_7 rfl (lv_at hl 1 rfl) ?_
  refine lv_iload_n hx hb d_Bits_nextBit_8 rfl (lv_at hl 2 rfl) ?_
  refine my_ci (wr := [(co, Sum.inr (3, [Value.int xshift, Value.long xkeptCode, Value.long xkeptRange, Value.int xkeptAsked, Value.int xcache, Value.int xpending, Value.long xlow, Value.long xrange, Value.long xcode, Value.long xreadLow, Value.long xreadRange, Value.ref ri, Value.ref ro, Value.ref rw, Value.int xasked])), (ri, Sum.inr (0, [Value.int rin, Value.ref ria])), (ria, Sum.inl (cI, rik, Sum.inl rif))]) (va_runV (As := [Value.int nd]) (rest := [Value.long v_1]) ⟨hx, hb, hml, hown, hts⟩ (c_Odds_at l dC dI cI cM cO H.size oo osg osm ofc oca opa ol ocf opl opf nd (by first | assumption | omega) (by first | assumption | omega)) (cwV 1 hts (my_gV k449 k436 k437 k14 k438) rfl rfl rfl cu_Odds_at_1 ⟨by rw [hR]; exact Nat.le_of_ble_eq_true rfl, by rw [hR]; exact Nat.le_of_ble_eq_true rfl⟩) (my_preV hK hN (hP.sub [3, 4, 5] rfl) (hD.sub [3, 4, 5] (by decide +kernel) rfl) 0 rfl rfl) rfl rfl hl.1 rfl (lv_room (Nat.le_of_ble_eq_true rfl)) d_Bits_nextBit_9 ⟨by rw [hR]; exact Nat.le_of_ble_eq_true rfl, by rw [hR]; exact Nat.le_of_ble_eq_true rfl⟩) hP hD hS hA [3, 4, 5] [0, 1, 2] rfl rfl (by decide +kernel) (by decide +kernel) (fun r_9 u9 H locs hw_9 hP hD hS => ?_)
  have hPD : my_PD (dC, dI) vwCl A [(co, Sum.inr (3, [Value.int xshift, Value.long xkeptCode, Value.long xkeptRange, Value.int xkeptAsked, Value.int xcache, Value.int xpending, Value.long xlow, Value.long xrange, Value.long xcode, Value.long xreadLow, Value.long xreadRange, Value.ref ri, Value.ref ro, Value.ref rw, Value.int xasked])), (ri, Sum.inr (0, [Value.int rin, Value.ref ria])), (ria, Sum.inl (cI, rik, Sum.inl rif)), (oo, Sum.inr (7, [Value.int osg, Value.int osm, Value.int ofc, Value.ref oca, Value.ref opa])), (oca, Sum.inl (cI, ol, Sum.inl ocf)), (opa, Sum.inl (cI, opl, Sum.inl opf))] H := ⟨hP, hD⟩
  have hP := hPD.1
  have hD := hPD.2
  refine lv_i2l hx hb d_Bits_nextBit_12 rfl ?_
  refine lv_topl (fun v_2 ev_2 => ?_)
  refine lv_lmul hx hb d_Bits_nextBit_13 ?_
  refine lv_topl (fun v_3 ev_3 => ?_)
  refine lv_lstore_n (lv' := [(3, Value.long v_3), (0, Value.ref co), (1, Value.ref oo), (2, Value.int nd)]) hx hb d_Bits_nextBit_14 rfl hl (by decide) rfl (fun ls hl => ?_)
  refine lv_aload_n hx hb d_Bits_nextBit_15 rfl (lv_at hl 1 rfl) ?_
  refine va_get (D := (dC, dI)) (ci := 3) (v := .long xcode) (C := "RangeCoders$Bits") (T := T_Bits) (N := 15) hx hb hg in_Bits hown hK hP 0 rfl rfl 8 (by decide) (hg _ k88) (fun x9 h9 => u_same (hg _ k89) x9 h9) rfl d_Bits_nextBit_16 ?_
  refine lv_lload_n hx hb d_Bits_nextBit_19 rfl (lv_at hl 0 rfl) ?_
  refine W.lcmp hx hb d_Bits_nextBit_20 ?_
  refine lv_if_ge (tgt := 28) hx hb d_Bits_nextBit_21 (by decide) (fun c_4 => ?_) (fun c_4 => ?_)
  · rw [lg_cmp_ge] at c_4
    refine lv_iconst (v := 1) hx hb d_Bits_nextBit_28 (by decide) ?_
    refine lv_istore (lv' := [(5, Value.int 1), (3, Value.long v_3), (0, Value.ref co), (1, Value.ref oo), (2, Value.int nd)]) hx hb d_Bits_nextBit_29 hl (by decide) rfl (fun ls hl => ?_)
    refine lv_iload hx hb d_Bits_nextBit_31 (lv_at hl 0 rfl) ?_
    refine lv_if_ne (tgt := 44) hx hb d_Bits_nextBit_33 (by decide) (fun c_5 => ?_) (fun c_5 => ?_)
    · refine lv_aload_n hx hb d_Bits_nextBit_44 rfl (lv_at hl 2 rfl) ?_
      refine lv_dup hx hb d_Bits_nextBit_45 rfl ?_
      refine va_get (D := (dC, dI)) (ci := 3) (v := .long xcode) (C := "RangeCoders$Bits") (T := T_Bits) (N := 15) hx hb hg in_Bits hown hK hP 0 rfl rfl 8 (by decide) (hg _ k88) (fun x9 h9 => u_same (hg _ k89) x9 h9) rfl d_Bits_nextBit_46 ?_
      refine lv_lload_n hx hb d_Bits_nextBit_49 rfl (lv_at hl 1 rfl) ?_
      refine lv_lsub hx hb d_Bits_nextBit_50 ?_
      refine lv_topl (fun v_6 ev_6 => ?_)
      refine va_put (D := (dC, dI)) (ci := 3) (v := .long v_6) (ty := .long) (C := "RangeCoders$Bits") (T := T_Bits) (N := 15) hx hb hg in_Bits t_Bits o_Bits n_Bits hown hK hP hD hS 0 rfl rfl 8 (by decide) (hg _ k88) (fun x9 h9 => u_same (hg _ k89) x9 h9) rfl (o_Bits 8 (by decide)) rfl rfl (Nat.le_of_ble_eq_true rfl) d_Bits_nextBit_51 (fun H locs hP hD hS => ?_)
      have hPD : my_PD (dC, dI) vwCl A [(co, Sum.inr (3, [Value.int xshift, Value.long xkeptCode, Value.long xkeptRange, Value.int xkeptAsked, Value.int xcache, Value.int xpending, Value.long xlow, Value.long xrange, Value.long v_6, Value.long xreadLow, Value.long xreadRange, Value.ref ri, Value.ref ro, Value.ref rw, Value.int xasked])), (ri, Sum.inr (0, [Value.int rin, Value.ref ria])), (ria, Sum.inl (cI, rik, Sum.inl rif)), (oo, Sum.inr (7, [Value.int osg, Value.int osm, Value.int ofc, Value.ref oca, Value.ref opa])), (oca, Sum.inl (cI, ol, Sum.inl ocf)), (opa, Sum.inl (cI, opl, Sum.inl opf))] H := ⟨hP, hD⟩
      have hP := hPD.1
      have hD := hPD.2
      refine lv_aload_n hx hb d_Bits_nextBit_54 rfl (lv_at hl 2 rfl) ?_
      refine lv_dup hx hb d_Bits_nextBit_55 rfl ?_
      refine va_get (D := (dC, dI)) (ci := 3) (v := .long xreadRange) (C := "RangeCoders$Bits") (T := T_Bits) (N := 15) hx hb hg in_Bits hown hK hP 0 rfl rfl 10 (by decide) (hg _ k98) (fun x9 h9 => u_same (hg _ k99) x9 h9) rfl d_Bits_nextBit_56 ?_
      refine lv_lload_n hx hb d_Bits_nextBit_59 rfl (lv_at hl 1 rfl) ?_
      refine lv_lsub hx hb d_Bits_nextBit_60 ?_
      refine lv_topl (fun v_7 ev_7 => ?_)
      refine va_put (D := (dC, dI)) (ci := 3) (v := .long v_7) (ty := .long) (C := "RangeCoders$Bits") (T := T_Bits) (N := 15) hx hb hg in_Bits t_Bits o_Bits n_Bits hown hK hP hD hS 0 rfl rfl 10 (by decide) (hg _ k98) (fun x9 h9 => u_same (hg _ k99) x9 h9) rfl (o_Bits 10 (by decide)) rfl rfl (Nat.le_of_ble_eq_true rfl) d_Bits_nextBit_61 (fun H locs hP hD hS => ?_)
      have hPD : my_PD (dC, dI) vwCl A [(co, Sum.inr (3, [Value.int xshift, Value.long xkeptCode, Value.long xkeptRange, Value.int xkeptAsked, Value.int xcache, Value.int xpending, Value.long xlow, Value.long xrange, Value.long v_6, Value.long xreadLow, Value.long v_7, Value.ref ri, Value.ref ro, Value.ref rw, Value.int xasked])), (ri, Sum.inr (0, [Value.int rin, Value.ref ria])), (ria, Sum.inl (cI, rik, Sum.inl rif)), (oo, Sum.inr (7, [Value.int osg, Value.int osm, Value.int ofc, Value.ref oca, Value.ref opa])), (oca, Sum.inl (cI, ol, Sum.inl ocf)), (opa, Sum.inl (cI, opl, Sum.inl opf))] H := ⟨hP, hD⟩
      have hP := hPD.1
      have hD := hPD.2
      refine lv_aload_n hx hb d_Bits_nextBit_64 rfl (lv_at hl 2 rfl) ?_
      refine lv_aload_n hx hb d_Bits_nextBit_65 rfl (lv_at hl 3 rfl) ?_
      refine lv_iload_n hx hb d_Bits_nextBit_66 rfl (lv_at hl 4 rfl) ?_
      refine lv_iload hx hb d_Bits_nextBit_67 (lv_at hl 0 rfl) ?_
      refine my_cv (wr := [(ri, Sum.inr (0, [Value.int rin, Value.ref ria])), (ria, Sum.inl (cI, rik, Sum.inl rif))]) (va_runV (As := [Value.ref oo, Value.int nd, Value.int 1]) (rest := []) ⟨hx, hb, hml, hown, hts⟩ (c_Bits_Bits_adapt l dC dI cI cM cO H.size co xshift xkeptCode xkeptRange xkeptAsked xcache xpending xlow xrange v_6 xreadLow v_7 ri ro rw xasked oo osg osm ofc oca opa ol ocf opl opf nd 1 (by first | assumption | omega) (by first | assumption | omega)) (cwV 3 hts (my_gV k450 k452 ks5 k8 k453) rfl rfl rfl cu_Bits_adapt_3 ⟨by rw [hR]; exact Nat.le_of_ble_eq_true rfl, by rw [hR]; exact Nat.le_of_ble_eq_true rfl⟩) (my_preV hK hN (hP.sub [0, 3, 4, 5] rfl) (hD.sub [0, 3, 4, 5] (by decide +kernel) rfl) 0 rfl rfl) rfl rfl hl.1 rfl (lv_room (Nat.le_of_ble_eq_true rfl)) d_Bits_nextBit_69 ⟨by rw [hR]; exact Nat.le_of_ble_eq_true rfl, by rw [hR]; exact Nat.le_of_ble_eq_true rfl⟩) hP hD hS hA [0, 3, 4, 5] [1, 2] rfl rfl (by decide +kernel) (by decide +kernel) (fun u9 H locs hw_69 hP hD hS => ?_)
      obtain ⟨osmq_69, ocfq_69⟩ := u9
      have hPD : my_PD (dC, dI) vwCl A [(ri, Sum.inr (0, [Value.int rin, Value.ref ria])), (ria, Sum.inl (cI, rik, Sum.inl rif)), (co, Sum.inr (3, [Value.int xshift, Value.long xkeptCode, Value.long xkeptRange, Value.int xkeptAsked, Value.int xcache, Value.int xpending, Value.long xlow, Value.long xrange, Value.long v_6, Value.long xreadLow, Value.long v_7, Value.ref ri, Value.ref ro, Value.ref rw, Value.int xasked])), (oo, Sum.inr (7, [Value.int osg, Value.int osmq_69, Value.int ofc, Value.ref oca, Value.ref opa])), (oca, Sum.inl (cI, ol, Sum.inl ocfq_69)), (opa, Sum.inl (cI, opl, Sum.inl opf))] H := ⟨hP, hD⟩
      have hP := hPD.1
      have hD := hPD.2
      refine lv_aload_n hx hb d_Bits_nextBit_72 rfl (lv_at hl 2 rfl) ?_
      refine my_cv (wr := [(oo, Sum.inr (7, [Value.int osg, Value.int osmq_69, Value.int ofc, Value.ref oca, Value.ref opa])), (oca, Sum.inl (cI, ol, Sum.inl ocfq_69)), (opa, Sum.inl (cI, opl, Sum.inl opf))]) (va_runU (As := []) (rest := []) ⟨hx, hb, hml, hown, hts⟩ (c_Bits_Carries_widenReading l dC dI cI cM cO H.size co xshift xkeptCode xkeptRange xkeptAsked xcache xpending xlow xrange v_6 xreadLow v_7 ri ro rw xasked rin ria rik rif (by first | assumption | omega)) (va_cwU 0 hts (my_gU k789 k790 k792 k793 k5 k794) rfl rfl rfl rfl (by decide +kernel) ⟨by rw [hR]; exact Nat.le_of_ble_eq_true rfl, by rw [hR]; exact Nat.le_of_ble_eq_true rfl⟩) (my_preV hK hN (hP.sub [2, 0, 1] rfl) (hD.sub [2, 0, 1] (by decide +kernel) rfl) 0 rfl rfl) rfl rfl hl.1 rfl (lv_room (Nat.le_of_ble_eq_true rfl)) d_Bits_nextBit_73 ⟨by rw [hR]; exact Nat.le_of_ble_eq_true rfl, by rw [hR]; exact Nat.le_of_ble_eq_true rfl⟩) hP hD hS hA [2, 0, 1] [3, 4, 5] rfl rfl (by decide +kernel) (by decide +kernel) (fun u9 H locs hw_73 hP hD hS => ?_)
      obtain ⟨xcodeq_73, xreadRangeq_73, xaskedq_73⟩ := u9
      have hPD : my_PD (dC, dI) vwCl A [(oo, Sum.inr (7, [Value.int osg, Value.int osmq_69, Value.int ofc, Value.ref oca, Value.ref opa])), (oca, Sum.inl (cI, ol, Sum.inl ocfq_69)), (opa, Sum.inl (cI, opl, Sum.inl opf)), (co, Sum.inr (3, [Value.int xshift, Value.long xkeptCode, Value.long xkeptRange, Value.int xkeptAsked, Value.int xcache, Value.int xpending, Value.long xlow, Value.long xrange, Value.long xcodeq_73, Value.long xreadLow, Value.long xreadRangeq_73, Value.ref ri, Value.ref ro, Value.ref rw, Value.int xaskedq_73])), (ri, Sum.inr (0, [Value.int rin, Value.ref ria])), (ria, Sum.inl (cI, rik, Sum.inl rif))] H := ⟨hP, hD⟩
      have hP := hPD.1
      have hD := hPD.2
      refine lv_iload hx hb d_Bits_nextBit_76 (lv_at hl 0 rfl) ?_
      exact my_iret (v := 1) hx hb hr (rfl) hlocks hQ hK hS (Nat.le_refl _) (Nat.le_refl _) (xcodeq_73, xreadRangeq_73, xaskedq_73, osmq_69, ocfq_69) (trivial) (hP.sub [3, 4, 5, 0, 1, 2] rfl) (hD.sub [3, 4, 5, 0, 1, 2] (by decide +kernel) rfl) d_Bits_nextBit_78
    · exact absurd c_5 (by decide)
  · rw [lg_cmp_ge] at c_4
    refine lv_iconst (v := 0) hx hb d_Bits_nextBit_24 (by decide) ?_
    refine lv_goto (tgt := 29) hx hb d_Bits_nextBit_25 (by decide) ?_
    refine lv_istore (lv' := [(5, Value.int 0), (3, Value.long v_3), (0, Value.ref co), (1, Value.ref oo), (2, Value.int nd)]) hx hb d_Bits_nextBit_29 hl (by decide) rfl (fun ls hl => ?_)
    refine lv_iload hx hb d_Bits_nextBit_31 (lv_at hl 0 rfl) ?_
    refine lv_if_ne (tgt := 44) hx hb d_Bits_nextBit_33 (by decide) (fun c_8 => ?_) (fun c_8 => ?_)
    · exact absurd rfl c_8
    · refine lv_aload_n hx hb d_Bits_nextBit_36 rfl (lv_at hl 2 rfl) ?_
      refine lv_lload_n hx hb d_Bits_nextBit_37 rfl (lv_at hl 1 rfl) ?_
      refine va_put (D := (dC, dI)) (ci := 3) (v := .long v_3) (ty := .long) (C := "RangeCoders$Bits") (T := T_Bits) (N := 15) hx hb hg in_Bits t_Bits o_Bits n_Bits hown hK hP hD hS 0 rfl rfl 10 (by decide) (hg _ k98) (fun x9 h9 => u_same (hg _ k99) x9 h9) rfl (o_Bits 10 (by decide)) rfl rfl (Nat.le_of_ble_eq_true rfl) d_Bits_nextBit_38 (fun H locs hP hD hS => ?_)
      have hPD : my_PD (dC, dI) vwCl A [(co, Sum.inr (3, [Value.int xshift, Value.long xkeptCode, Value.long xkeptRange, Value.int xkeptAsked, Value.int xcache, Value.int xpending, Value.long xlow, Value.long xrange, Value.long xcode, Value.long xreadLow, Value.long v_3, Value.ref ri, Value.ref ro, Value.ref rw, Value.int xasked])), (ri, Sum.inr (0, [Value.int rin, Value.ref ria])), (ria, Sum.inl (cI, rik, Sum.inl rif)), (oo, Sum.inr (7, [Value.int osg, Value.int osm, Value.int ofc, Value.ref oca, Value.ref opa])), (oca, Sum.inl (cI, ol, Sum.inl ocf)), (opa, Sum.inl (cI, opl, Sum.inl opf))] H := ⟨hP, hD⟩
      have hP := hPD.1
      have hD := hPD.2
      refine lv_goto (tgt := 64) hx hb d_Bits_nextBit_41 (by decide) ?_
      refine lv_aload_n hx hb d_Bits_nextBit_64 rfl (lv_at hl 2 rfl) ?_
      refine lv_aload_n hx hb d_Bits_nextBit_65 rfl (lv_at hl 3 rfl) ?_
      refine lv_iload_n hx hb d_Bits_nextBit_66 rfl (lv_at hl 4 rfl) ?_
      refine lv_iload hx hb d_Bits_nextBit_67 (lv_at hl 0 rfl) ?_
      refine my_cv (wr := [(ri, Sum.inr (0, [Value.int rin, Value.ref ria])), (ria, Sum.inl (cI, rik, Sum.inl rif))]) (va_runV (As := [Value.ref oo, Value.int nd, Value.int 0]) (rest := []) ⟨hx, hb, hml, hown, hts⟩ (c_Bits_Bits_adapt l dC dI cI cM cO H.size co xshift xkeptCode xkeptRange xkeptAsked xcache xpending xlow xrange xcode xreadLow v_3 ri ro rw xasked oo osg osm ofc oca opa ol ocf opl opf nd 0 (by first | assumption | omega) (by first | assumption | omega)) (cwV 3 hts (my_gV k450 k452 ks5 k8 k453) rfl rfl rfl cu_Bits_adapt_3 ⟨by rw [hR]; exact Nat.le_of_ble_eq_true rfl, by rw [hR]; exact Nat.le_of_ble_eq_true rfl⟩) (my_preV hK hN (hP.sub [0, 3, 4, 5] rfl) (hD.sub [0, 3, 4, 5] (by decide +kernel) rfl) 0 rfl rfl) rfl rfl hl.1 rfl (lv_room (Nat.le_of_ble_eq_true rfl)) d_Bits_nextBit_69 ⟨by rw [hR]; exact Nat.le_of_ble_eq_true rfl, by rw [hR]; exact Nat.le_of_ble_eq_true rfl⟩) hP hD hS hA [0, 3, 4, 5] [1, 2] rfl rfl (by decide +kernel) (by decide +kernel) (fun u9 H locs hw_69 hP hD hS => ?_)
      obtain ⟨osmq_69, ocfq_69⟩ := u9
      have hPD : my_PD (dC, dI) vwCl A [(ri, Sum.inr (0, [Value.int rin, Value.ref ria])), (ria, Sum.inl (cI, rik, Sum.inl rif)), (co, Sum.inr (3, [Value.int xshift, Value.long xkeptCode, Value.long xkeptRange, Value.int xkeptAsked, Value.int xcache, Value.int xpending, Value.long xlow, Value.long xrange, Value.long xcode, Value.long xreadLow, Value.long v_3, Value.ref ri, Value.ref ro, Value.ref rw, Value.int xasked])), (oo, Sum.inr (7, [Value.int osg, Value.int osmq_69, Value.int ofc, Value.ref oca, Value.ref opa])), (oca, Sum.inl (cI, ol, Sum.inl ocfq_69)), (opa, Sum.inl (cI, opl, Sum.inl opf))] H := ⟨hP, hD⟩
      have hP := hPD.1
      have hD := hPD.2
      refine lv_aload_n hx hb d_Bits_nextBit_72 rfl (lv_at hl 2 rfl) ?_
      refine my_cv (wr := [(oo, Sum.inr (7, [Value.int osg, Value.int osmq_69, Value.int ofc, Value.ref oca, Value.ref opa])), (oca, Sum.inl (cI, ol, Sum.inl ocfq_69)), (opa, Sum.inl (cI, opl, Sum.inl opf))]) (va_runU (As := []) (rest := []) ⟨hx, hb, hml, hown, hts⟩ (c_Bits_Carries_widenReading l dC dI cI cM cO H.size co xshift xkeptCode xkeptRange xkeptAsked xcache xpending xlow xrange xcode xreadLow v_3 ri ro rw xasked rin ria rik rif (by first | assumption | omega)) (va_cwU 0 hts (my_gU k789 k790 k792 k793 k5 k794) rfl rfl rfl rfl (by decide +kernel) ⟨by rw [hR]; exact Nat.le_of_ble_eq_true rfl, by rw [hR]; exact Nat.le_of_ble_eq_true rfl⟩) (my_preV hK hN (hP.sub [2, 0, 1] rfl) (hD.sub [2, 0, 1] (by decide +kernel) rfl) 0 rfl rfl) rfl rfl hl.1 rfl (lv_room (Nat.le_of_ble_eq_true rfl)) d_Bits_nextBit_73 ⟨by rw [hR]; exact Nat.le_of_ble_eq_true rfl, by rw [hR]; exact Nat.le_of_ble_eq_true rfl⟩) hP hD hS hA [2, 0, 1] [3, 4, 5] rfl rfl (by decide +kernel) (by decide +kernel) (fun u9 H locs hw_73 hP hD hS => ?_)
      obtain ⟨xcodeq_73, xreadRangeq_73, xaskedq_73⟩ := u9
      have hPD : my_PD (dC, dI) vwCl A [(oo, Sum.inr (7, [Value.int osg, Value.int osmq_69, Value.int ofc, Value.ref oca, Value.ref opa])), (oca, Sum.inl (cI, ol, Sum.inl ocfq_69)), (opa, Sum.inl (cI, opl, Sum.inl opf)), (co, Sum.inr (3, [Value.int xshift, Value.long xkeptCode, Value.long xkeptRange, Value.int xkeptAsked, Value.int xcache, Value.int xpending, Value.long xlow, Value.long xrange, Value.long xcodeq_73, Value.long xreadLow, Value.long xreadRangeq_73, Value.ref ri, Value.ref ro, Value.ref rw, Value.int xaskedq_73])), (ri, Sum.inr (0, [Value.int rin, Value.ref ria])), (ria, Sum.inl (cI, rik, Sum.inl rif))] H := ⟨hP, hD⟩
      have hP := hPD.1
      have hD := hPD.2
      refine lv_iload hx hb d_Bits_nextBit_76 (lv_at hl 0 rfl) ?_
      exact my_iret (v := 0) hx hb hr (rfl) hlocks hQ hK hS (Nat.le_refl _) (Nat.le_refl _) (xcodeq_73, xreadRangeq_73, xaskedq_73, osmq_69, ocfq_69) (trivial) (hP.sub [3, 4, 5, 0, 1, 2] rfl) (hD.sub [3, 4, 5, 0, 1, 2] (by decide +kernel) rfl) d_Bits_nextBit_78
set_option maxHeartbeats 2000000 in
set_option maxRecDepth 100000 in
theorem c_Bits_Bits_nextSign (l : Launch) (dC : Nat → ClassId) (dI : Nat → Nat → Nat) (cI cM cO : ClassId) (sz : Nat) (co : Nat) (xshift : Int32) (xkeptCode : Int64) (xkeptRange : Int64) (xkeptAsked : Int32) (xcache : Int32) (xpending : Int32) (xlow : Int64) (xrange : Int64) (xcode : Int64) (xreadLow : Int64) (xreadRange : Int64) (ri : Nat) (ro : Nat) (rw : Nat) (xasked : Int32) (rin : Int32) (ria : Nat) (rik : Nat) (rif : Nat → Int32) (oo : Nat) (osg : Int32) (osm : Int32) (ofc : Int32) (oca : Nat) (opa : Nat) (ol : Nat) (ocf : Nat → Int32) (opl : Nat) (opf : Nat → Int32) (hri : rOk rin rik) (hol : ol ≤ 64) (hopl : opl ≤ 512) : MetI l y_Bits_nextSign (Cond.code y_Bits_nextSign prog_2_method_7_code 5 (some .int) :: gw) ({ frames := 5, cells := 0, slots := 0, locals := 109 } : Room) (dC, dI) vwCl (kT cI cM cO) [Value.ref co, Value.ref oo] [(co, Sum.inr (3, [Value.int xshift, Value.long xkeptCode, Value.long xkeptRange, Value.int xkeptAsked, Value.int xcache, Value.int xpending, Value.long xlow, Value.long xrange, Value.long xcode, Value.long xreadLow, Value.long xreadRange, Value.ref ri, Value.ref ro, Value.ref rw, Value.int xasked])), (ri, Sum.inr (0, [Value.int rin, Value.ref ria])), (ria, Sum.inl (cI, rik, Sum.inl rif)), (oo, Sum.inr (7, [Value.int osg, Value.int osm, Value.int ofc, Value.ref oca, Value.ref opa])), (oca, Sum.inl (cI, ol, Sum.inl ocf)), (opa, Sum.inl (cI, opl, Sum.inl opf))] sz (fun (r : Int32) (u : Int64 × Int64 × Int32 × Int64 × Int64 × Int32 × Int32 × (Nat → Int32)) => True) (fun (u : Int64 × Int64 × Int32 × Int64 × Int64 × Int32 × Int32 × (Nat → Int32)) => [(co, Sum.inr (3, [Value.int xshift, Value.long u.1, Value.long u.2.1, Value.int u.2.2.1, Value.int xcache, Value.int xpending, Value.long xlow, Value.long xrange, Value.long u.2.2.2.1, Value.long xreadLow, Value.long u.2.2.2.2.1, Value.ref ri, Value.ref ro, Value.ref rw, Value.int u.2.2.2.2.2.1])), (ri, Sum.inr (0, [Value.int rin, Value.ref ria])), (ria, Sum.inl (cI, rik, Sum.inl rif)), (oo, Sum.inr (7, [Value.int osg, Value.int u.2.2.2.2.2.2.1, Value.int ofc, Value.ref oca, Value.ref opa])), (oca, Sum.inl (cI, ol, Sum.inl u.2.2.2.2.2.2.2)), (opa, Sum.inl (cI, opl, Sum.inl opf))]) 0 0 := by
  refine my_ofI (cc := prog_2_method_7_code) (n := 5) (ret := (some .int)) (by decide) rfl (Nat.le_of_ble_eq_true rfl) ?_
  intro p e s m args below meth c R Q A ls H locs hx hb hr hts hown hlocks hml hnm hR hQ hA hl hP hK hN hD hS
  have hg : ∀ w ∈ gw, w.before args s = true := fun w h => hts w (List.mem_cons_of_mem _ h)
  have hown : s.vm.findClass "RangeCoders$Bits" = some m.cls := hown
  have hl : lv_has ls 5 [(0, Value.ref co), (1, Value.ref oo)] := hl
  have hlt_hri := rOk_lt hri
  refine lv_aload_n hx hb d_Bits_nextSign_0 rfl (lv_at hl 0 rfl) ?_
  refine va_get (D := (dC, dI)) (ci := 3) (v := .long xcode) (C := "RangeCoders$Bits") (T := T_Bits) (N := 15) hx hb hg in_Bits hown hK hP 0 rfl rfl 8 (by decide) (hg _ k88) (fun x9 h9 => u_same (hg _ k89) x9 h9) rfl d_Bits_nextSign_1 ?_
  refine lv_aload_n hx hb d_Bits_nextSign_4 rfl (lv_at hl 0 rfl) ?_
  refine va_get (D := (dC, dI)) (ci := 3) (v := .long xreadRange) (C := "RangeCoders$Bits") (T := T_Bits) (N := 15) hx hb hg in_Bits hown hK hP 0 rfl rfl 10 (by decide) (hg _ k98) (fun x9 h9 => u_same (hg _ k99) x9 h9) rfl d_Bits_nextSign_5 ?_
  refine W.lcmp hx hb d_Bits_nextSign_8 ?_
  refine lv_if_lt (tgt := 14) hx hb d_Bits_nextSign_9 (by decide) (fun c_1 => ?_) (fun c_1 => ?_)
  · rw [lg_cmp_lt] at c_1
    refine lv_aload_n hx hb d_Bits_nextSign_14 rfl (lv_at hl 0 rfl) ?_
    refine my_cv (wr := [(ri, Sum.inr (0, [Value.int rin, Value.ref ria])), (ria, Sum.inl (cI, rik, Sum.inl rif)), (oo, Sum.inr (7, [Value.int osg, Value.int osm, Value.int ofc, Value.ref oca, Value.ref opa])), (oca, Sum.inl (cI, ol, Sum.inl ocf)), (opa, Sum.inl (cI, opl, Sum.inl opf))]) (va_runV (As := []) (rest := []) ⟨hx, hb, hml, hown, hts⟩ (c_Bits_Bits_keepReading l dC dI cI cM cO H.size co xshift xkeptCode xkeptRange xkeptAsked xcache xpending xlow xrange xcode xreadLow xreadRange ri ro rw xasked) (cwV 0 hts (my_gV k781 k783 ks13 k8 k784) rfl rfl rfl cu_Bits_keepReading_0 ⟨by rw [hR]; exact Nat.le_of_ble_eq_true rfl, by rw [hR]; exact Nat.le_of_ble_eq_true rfl⟩) (my_preV hK hN (hP.sub [0] rfl) (hD.sub [0] (by decide +kernel) rfl) 0 rfl rfl) rfl rfl hl.1 rfl (lv_room (Nat.le_of_ble_eq_true rfl)) d_Bits_nextSign_15 ⟨by rw [hR]; exact Nat.le_of_ble_eq_true rfl, by rw [hR]; exact Nat.le_of_ble_eq_true rfl⟩) hP hD hS hA [0] [1, 2, 3, 4, 5] rfl rfl (by decide +kernel) (by decide +kernel) (fun u9 H locs hw_15 hP hD hS => ?_)
    obtain ⟨xkeptCodeq_15, xkeptRangeq_15, xkeptAskedq_15⟩ := u9
    have hPD : my_PD (dC, dI) vwCl A [(ri, Sum.inr (0, [Value.int rin, Value.ref ria])), (ria, Sum.inl (cI, rik, Sum.inl rif)), (oo, Sum.inr (7, [Value.int osg, Value.int osm, Value.int ofc, Value.ref oca, Value.ref opa])), (oca, Sum.inl (cI, ol, Sum.inl ocf)), (opa, Sum.inl (cI, opl, Sum.inl opf)), (co, Sum.inr (3, [Value.int xshift, Value.long xkeptCodeq_15, Value.long xkeptRangeq_15, Value.int xkeptAskedq_15, Value.int xcache, Value.int xpending, Value.long xlow, Value.long xrange, Value.long xcode, Value.long xreadLow, Value.long xreadRange, Value.ref ri, Value.ref ro, Value.ref rw, Value.int xasked]))] H := ⟨hP, hD⟩
    have hP := hPD.1
    have hD := hPD.2
    refine lv_aload_n hx hb d_Bits_nextSign_18 rfl (lv_at hl 1 rfl) ?_
    refine va_get (D := (dC, dI)) (ci := 7) (v := .int osg) (C := "RangeCoders$Odds") (T := T_Odds) (N := 5) hx hb hg in_Odds hown hK hP 2 rfl rfl 0 (by decide) (hg _ k304) (fun _ h9 => h9) rfl d_Bits_nextSign_19 ?_
    refine my_ci (wr := [(ri, Sum.inr (0, [Value.int rin, Value.ref ria])), (ria, Sum.inl (cI, rik, Sum.inl rif)), (oo, Sum.inr (7, [Value.int osg, Value.int osm, Value.int ofc, Value.ref oca, Value.ref opa])), (oca, Sum.inl (cI, ol, Sum.inl ocf)), (opa, Sum.inl (cI, opl, Sum.inl opf)), (co, Sum.inr (3, [Value.int xshift, Value.long xkeptCodeq_15, Value.long xkeptRangeq_15, Value.int xkeptAskedq_15, Value.int xcache, Value.int xpending, Value.long xlow, Value.long xrange, Value.long xcode, Value.long xreadLow, Value.long xreadRange, Value.ref ri, Value.ref ro, Value.ref rw, Value.int xasked]))]) (va_runS (As := [Value.int osg]) (rest := []) ⟨hx, hb, hml, hown, hts⟩ (c_Bits_levelsOf l dC dI cI cM cO H.size osg) (cwS 1 hts (my_gS k296 k297 k8 k298) rfl rfl rfl (by decide +kernel) ⟨by rw [hR]; exact Nat.le_of_ble_eq_true rfl, by rw [hR]; exact Nat.le_of_ble_eq_true rfl⟩) (my_pre hK hN (hP.sub [] rfl) (hD.sub [] (by decide +kernel) rfl)) rfl rfl hl.1 rfl (lv_room (Nat.le_of_ble_eq_true rfl)) d_Bits_nextSign_22 ⟨by rw [hR]; exact Nat.le_of_ble_eq_true rfl, by rw [hR]; exact Nat.le_of_ble_eq_true rfl⟩) hP hD hS hA [] [0, 1, 2, 3, 4, 5] rfl rfl (by decide +kernel) (by decide +kernel) (fun r_22 u9 H locs hw_22 hP hD hS => ?_)
    obtain ⟨hl1_22, hl6_22⟩ : 1 ≤ r_22.toInt ∧ r_22.toInt ≤ 6 := hw_22
    have hPD : my_PD (dC, dI) vwCl A [(ri, Sum.inr (0, [Value.int rin, Value.ref ria])), (ria, Sum.inl (cI, rik, Sum.inl rif)), (oo, Sum.inr (7, [Value.int osg, Value.int osm, Value.int ofc, Value.ref oca, Value.ref opa])), (oca, Sum.inl (cI, ol, Sum.inl ocf)), (opa, Sum.inl (cI, opl, Sum.inl opf)), (co, Sum.inr (3, [Value.int xshift, Value.long xkeptCodeq_15, Value.long xkeptRangeq_15, Value.int xkeptAskedq_15, Value.int xcache, Value.int xpending, Value.long xlow, Value.long xrange, Value.long xcode, Value.long xreadLow, Value.long xreadRange, Value.ref ri, Value.ref ro, Value.ref rw, Value.int xasked]))] H := ⟨hP, hD⟩
    have hP := hPD.1
    have hD := hPD.2
    refine lv_istore_n (lv' := [(2, Value.int r_22), (0, Value.ref co), (1, Value.ref oo)]) hx hb d_Bits_nextSign_25 rfl hl (by decide) rfl (fun ls hl => ?_)
    refine lv_iconst (v := 1) hx hb d_Bits_nextSign_26 (by decide) ?_
    refine lv_istore_n (lv' := [(3, Value.int 1), (2, Value.int r_22), (0, Value.ref co), (1, Value.ref oo)]) hx hb d_Bits_nextSign_27 rfl hl (by decide) rfl (fun ls hl => ?_)
    refine lv_iconst (v := 0) hx hb d_Bits_nextSign_28 (by decide) ?_
    refine lv_istore (lv' := [(4, Value.int 0), (3, Value.int 1), (2, Value.int r_22), (0, Value.ref co), (1, Value.ref oo)]) hx hb d_Bits_nextSign_29 hl (by decide) rfl (fun ls hl => ?_)
    have J_31 : ∀ (n9_31 : Nat) (b31_0 : Int32) (b31_1 : Int32) (b31_2 : Int32) (b31_3 : Nat → Int32) (b31_4 : Int64) (b31_5 : Int64) (b31_6 : Int32) (hn9_31 : (r_22.toInt - b31_0.toInt).toNat = n9_31) (hi_31 : 0 ≤ b31_0.toInt) (H : Heap) (locs : List Loc) (ls : Array Slot), va_P (dC, dI) vwCl [(ri, Sum.inr (0, [Value.int rin, Value.ref ria])), (ria, Sum.inl (cI, rik, Sum.inl rif)), (oo, Sum.inr (7, [Value.int osg, Value.int b31_2, Value.int ofc, Value.ref oca, Value.ref opa])), (oca, Sum.inl (cI, ol, Sum.inl b31_3)), (opa, Sum.inl (cI, opl, Sum.inl opf)), (co, Sum.inr (3, [Value.int xshift, Value.long xkeptCodeq_15, Value.long xkeptRangeq_15, Value.int xkeptAskedq_15, Value.int xcache, Value.int xpending, Value.long xlow, Value.long xrange, Value.long b31_4, Value.long xreadLow, Value.long b31_5, Value.ref ri, Value.ref ro, Value.ref rw, Value.int b31_6]))] H → va_D A [(ri, Sum.inr (0, [Value.int rin, Value.ref ria])), (ria, Sum.inl (cI, rik, Sum.inl rif)), (oo, Sum.inr (7, [Value.int osg, Value.int b31_2, Value.int ofc, Value.ref oca, Value.ref opa])), (oca, Sum.inl (cI, ol, Sum.inl b31_3)), (opa, Sum.inl (cI, opl, Sum.inl opf)), (co, Sum.inr (3, [Value.int xshift, Value.long xkeptCodeq_15, Value.long xkeptRangeq_15, Value.int xkeptAskedq_15, Value.int xcache, Value.int xpending, Value.long xlow, Value.long xrange, Value.long b31_4, Value.long xreadLow, Value.long b31_5, Value.ref ri, Value.ref ro, Value.ref rw, Value.int b31_6]))] → va_S A s.heap H locs → lv_has ls 5 [(4, Value.int b31_0), (3, Value.int b31_1), (2, Value.int r_22), (0, Value.ref co), (1, Value.ref oo)] → W p l e R s m args below meth c H locs 0 0 Q (F0 m 31 ls []) := by
      intro n9_31
      induction n9_31 using Nat.strongRecOn with
      | ind n9_31 ih9_31 =>
        intro b31_0 b31_1 b31_2 b31_3 b31_4 b31_5 b31_6 hn9_31 hi_31 H locs ls hP hD hS hl
        refine lv_iload hx hb d_Bits_nextSign_31 (lv_at hl 0 rfl) ?_
        refine lv_iload_n hx hb d_Bits_nextSign_33 rfl (lv_at hl 2 rfl) ?_
        refine lv_icmp_ge (tgt := 54) hx hb d_Bits_nextSign_34 (by decide) (fun c_2 => ?_) (fun c_2 => ?_)
        · refine lv_iload_n hx hb d_Bits_nextSign_54 rfl (lv_at hl 1 rfl) ?_
          refine lv_iconst (v := 1) hx hb d_Bits_nextSign_55 (by decide) ?_
          refine lv_iload_n hx hb d_Bits_nextSign_56 rfl (lv_at hl 2 rfl) ?_
          refine lv_ishl hx hb d_Bits_nextSign_57 ?_
          refine lv_topi (fun v_3 ev_3 => ?_)
          refine lv_isub hx hb d_Bits_nextSign_58 ?_
          refine lv_topi (fun v_4 ev_4 => ?_)
          refine lv_istore (lv' := [(4, Value.int v_4), (3, Value.int b31_1), (2, Value.int r_22), (0, Value.ref co), (1, Value.ref oo)]) hx hb d_Bits_nextSign_59 hl (by decide) rfl (fun ls hl => ?_)
          refine lv_iload hx hb d_Bits_nextSign_61 (lv_at hl 0 rfl) ?_
          refine lv_aload_n hx hb d_Bits_nextSign_63 rfl (lv_at hl 4 rfl) ?_
          refine va_get (D := (dC, dI)) (ci := 7) (v := .int osg) (C := "RangeCoders$Odds") (T := T_Odds) (N := 5) hx hb hg in_Odds hown hK hP 2 rfl rfl 0 (by decide) (hg _ k304) (fun _ h9 => h9) rfl d_Bits_nextSign_64 ?_
          refine lv_icmp_ge (tgt := 75) hx hb d_Bits_nextSign_67 (by decide) (fun c_5 => ?_) (fun c_5 => ?_)
          · refine lv_aload_n hx hb d_Bits_nextSign_75 rfl (lv_at hl 3 rfl) ?_
            refine my_ci (wr := [(ri, Sum.inr (0, [Value.int rin, Value.ref ria])), (ria, Sum.inl (cI, rik, Sum.inl rif)), (oo, Sum.inr (7, [Value.int osg, Value.int b31_2, Value.int ofc, Value.ref oca, Value.ref opa])), (oca, Sum.inl (cI, ol, Sum.inl b31_3)), (opa, Sum.inl (cI, opl, Sum.inl opf))]) (va_runV (As := []) (rest := []) ⟨hx, hb, hml, hown, hts⟩ (c_Bits_Bits_undone l dC dI cI cM cO H.size co xshift xkeptCodeq_15 xkeptRangeq_15 xkeptAskedq_15 xcache xpending xlow xrange b31_4 xreadLow b31_5 ri ro rw b31_6) (cwV 0 hts (my_gV k800 k802 ks15 k8 k803) rfl rfl rfl cu_Bits_undone_0 ⟨by rw [hR]; exact Nat.le_of_ble_eq_true rfl, by rw [hR]; exact Nat.le_of_ble_eq_true rfl⟩) (my_preV hK hN (hP.sub [5] rfl) (hD.sub [5] (by decide +kernel) rfl) 0 rfl rfl) rfl rfl hl.1 rfl (lv_room (Nat.le_of_ble_eq_true rfl)) d_Bits_nextSign_76 ⟨by rw [hR]; exact Nat.le_of_ble_eq_true rfl, by rw [hR]; exact Nat.le_of_ble_eq_true rfl⟩) hP hD hS hA [5] [0, 1, 2, 3, 4] rfl rfl (by decide +kernel) (by decide +kernel) (fun r_76 u9 H locs hw_76 hP hD hS => ?_)
            obtain ⟨xcodeq_76, xreadRangeq_76, xaskedq_76⟩ := u9
            have hPD : my_PD (dC, dI) vwCl A [(ri, Sum.inr (0, [Value.int rin, Value.ref ria])), (ria, Sum.inl (cI, rik, Sum.inl rif)), (oo, Sum.inr (7, [Value.int osg, Value.int b31_2, Value.int ofc, Value.ref oca, Value.ref opa])), (oca, Sum.inl (cI, ol, Sum.inl b31_3)), (opa, Sum.inl (cI, opl, Sum.inl opf)), (co, Sum.inr (3, [Value.int xshift, Value.long xkeptCodeq_15, Value.long xkeptRangeq_15, Value.int xkeptAskedq_15, Value.int xcache, Value.int xpending, Value.long xlow, Value.long xrange, Value.long xcodeq_76, Value.long xreadLow, Value.long xreadRangeq_76, Value.ref ri, Value.ref ro, Value.ref rw, Value.int xaskedq_76]))] H := ⟨hP, hD⟩
            have hP := hPD.1
            have hD := hPD.2
            exact my_iret (v := r_76) hx hb hr (rfl) hlocks hQ hK hS (Nat.le_refl _) (Nat.le_refl _) (xkeptCodeq_15, xkeptRangeq_15, xkeptAskedq_15, xcodeq_76, xreadRangeq_76, xaskedq_76, b31_2, b31_3) (trivial) (hP.sub [5, 0, 1, 2, 3, 4] rfl) (hD.sub [5, 0, 1, 2, 3, 4] (by decide +kernel) rfl) d_Bits_nextSign_79
          · refine lv_iload hx hb d_Bits_nextSign_70 (lv_at hl 0 rfl) ?_
            refine lv_goto (tgt := 79) hx hb d_Bits_nextSign_72 (by decide) ?_
            exact my_iret (v := v_4) hx hb hr (rfl) hlocks hQ hK hS (Nat.le_refl _) (Nat.le_refl _) (xkeptCodeq_15, xkeptRangeq_15, xkeptAskedq_15, b31_4, b31_5, b31_6, b31_2, b31_3) (trivial) (hP.sub [5, 0, 1, 2, 3, 4] rfl) (hD.sub [5, 0, 1, 2, 3, 4] (by decide +kernel) rfl) d_Bits_nextSign_79
        · refine lv_iconst (v := 2) hx hb d_Bits_nextSign_37 (by decide) ?_
          refine lv_iload_n hx hb d_Bits_nextSign_38 rfl (lv_at hl 1 rfl) ?_
          refine lv_imul hx hb d_Bits_nextSign_39 ?_
          refine lv_topi (fun v_6 ev_6 => ?_)
          refine lv_aload_n hx hb d_Bits_nextSign_40 rfl (lv_at hl 3 rfl) ?_
          refine lv_aload_n hx hb d_Bits_nextSign_41 rfl (lv_at hl 4 rfl) ?_
          refine lv_iload_n hx hb d_Bits_nextSign_42 rfl (lv_at hl 1 rfl) ?_
          refine my_ci (wr := []) (va_runV (As := [Value.ref oo, Value.int b31_1]) (rest := [Value.int v_6]) ⟨hx, hb, hml, hown, hts⟩ (c_Bits_Bits_nextBit l dC dI cI cM cO H.size co xshift xkeptCodeq_15 xkeptRangeq_15 xkeptAskedq_15 xcache xpending xlow xrange b31_4 xreadLow b31_5 ri ro rw b31_6 rin ria rik rif oo osg b31_2 ofc oca opa ol b31_3 opl opf b31_1 (by first | assumption | omega) (by first | assumption | omega) (by first | assumption | omega)) (cwV 2 hts (my_gV k785 k787 ks14 k8 k788) rfl rfl rfl cu_Bits_nextBit_2 ⟨by rw [hR]; exact Nat.le_of_ble_eq_true rfl, by rw [hR]; exact Nat.le_of_ble_eq_true rfl⟩) (my_preV hK hN (hP.sub [5, 0, 1, 2, 3, 4] rfl) (hD.sub [5, 0, 1, 2, 3, 4] (by decide +kernel) rfl) 0 rfl rfl) rfl rfl hl.1 rfl (lv_room (Nat.le_of_ble_eq_true rfl)) d_Bits_nextSign_43 ⟨by rw [hR]; exact Nat.le_of_ble_eq_true rfl, by rw [hR]; exact Nat.le_of_ble_eq_true rfl⟩) hP hD hS hA [5, 0, 1, 2, 3, 4] [] rfl rfl (by decide +kernel) (by decide +kernel) (fun r_43 u9 H locs hw_43 hP hD hS => ?_)
          obtain ⟨xcodeq_43, xreadRangeq_43, xaskedq_43, osmq_43, ocfq_43⟩ := u9
          have hPD : my_PD (dC, dI) vwCl A [(co, Sum.inr (3, [Value.int xshift, Value.long xkeptCodeq_15, Value.long xkeptRangeq_15, Value.int xkeptAskedq_15, Value.int xcache, Value.int xpending, Value.long xlow, Value.long xrange, Value.long xcodeq_43, Value.long xreadLow, Value.long xreadRangeq_43, Value.ref ri, Value.ref ro, Value.ref rw, Value.int xaskedq_43])), (ri, Sum.inr (0, [Value.int rin, Value.ref ria])), (ria, Sum.inl (cI, rik, Sum.inl rif)), (oo, Sum.inr (7, [Value.int osg, Value.int osmq_43, Value.int ofc, Value.ref oca, Value.ref opa])), (oca, Sum.inl (cI, ol, Sum.inl ocfq_43)), (opa, Sum.inl (cI, opl, Sum.inl opf))] H := ⟨hP, hD⟩
          have hP := hPD.1
          have hD := hPD.2
          refine lv_iadd hx hb d_Bits_nextSign_46 ?_
          refine lv_topi (fun v_7 ev_7 => ?_)
          refine lv_istore_n (lv' := [(3, Value.int v_7), (4, Value.int b31_0), (2, Value.int r_22), (0, Value.ref co), (1, Value.ref oo)]) hx hb d_Bits_nextSign_47 rfl hl (by decide) rfl (fun ls hl => ?_)
          obtain ⟨v_8, ev_8⟩ : ∃ y : Int32, y = b31_0 + (1) := ⟨_, rfl⟩
          refine lv_iinc (v := v_8) (lv' := [(4, Value.int v_8), (3, Value.int v_7), (2, Value.int r_22), (0, Value.ref co), (1, Value.ref oo)]) hx hb d_Bits_nextSign_48 hl (k := 1) rfl (by rw [ev_8]; rfl) (by decide) rfl (fun ls hl => ?_)
          refine lv_goto (tgt := 31) hx hb d_Bits_nextSign_51 (by decide) ?_
          exact ih9_31 _ (by first | omega | (have z9 := I_up c_2 ev_8; omega)) v_8 v_7 osmq_43 ocfq_43 xcodeq_43 xreadRangeq_43 xaskedq_43 rfl (by have z9 := I_up c_2 ev_8; omega) H locs ls (hP.sub [1, 2, 3, 4, 5, 0] rfl) (hD.sub [1, 2, 3, 4, 5, 0] (by decide +kernel) rfl) hS (lv_sub hl [0, 1, 2, 3, 4] rfl)
    exact J_31 _ (0 : Int32) (1 : Int32) osm ocf xcode xreadRange xasked rfl (by first | decide | assumption | omega) H locs ls (hP.sub [0, 1, 2, 3, 4, 5] rfl) (hD.sub [0, 1, 2, 3, 4, 5] (by decide +kernel) rfl) hS (lv_sub hl [0, 1, 2, 3, 4] rfl)
  · rw [lg_cmp_lt] at c_1
    refine lv_iconst (v := (-1)) hx hb d_Bits_nextSign_12 (by decide) ?_
    exact my_iret (v := (-1)) hx hb hr (rfl) hlocks hQ hK hS (Nat.le_refl _) (Nat.le_refl _) (xkeptCode, xkeptRange, xkeptAsked, xcode, xreadRange, xasked, osm, ocf) (trivial) (hP.sub [0, 1, 2, 3, 4, 5] rfl) (hD.sub [0, 1, 2, 3, 4, 5] (by decide +kernel) rfl) d_Bits_nextSign_13
set_option maxHeartbeats 2000000 in
set_option maxRecDepth 100000 in
theorem c_Bits_Bits_nextValue (l : Launch) (dC : Nat → ClassId) (dI : Nat → Nat → Nat) (cI cM cO : ClassId) (sz : Nat) (co : Nat) (xshift : Int32) (xkeptCode : Int64) (xkeptRange : Int64) (xkeptAsked : Int32) (xcache : Int32) (xpending : Int32) (xlow : Int64) (xrange : Int64) (xcode : Int64) (xreadLow : Int64) (xreadRange : Int64) (ri : Nat) (ro : Nat) (rw : Nat) (xasked : Int32) (rin : Int32) (ria : Nat) (rik : Nat) (rif : Nat → Int32) (wd : Int32) (hri : rOk rin rik) : MetI l y_Bits_nextValue (Cond.code y_Bits_nextValue prog_2_method_8_code 5 (some .int) :: gw) ({ frames := 4, cells := 0, slots := 0, locals := 84 } : Room) (dC, dI) vwCl (kT cI cM cO) [Value.ref co, Value.int wd] [(co, Sum.inr (3, [Value.int xshift, Value.long xkeptCode, Value.long xkeptRange, Value.int xkeptAsked, Value.int xcache, Value.int xpending, Value.long xlow, Value.long xrange, Value.long xcode, Value.long xreadLow, Value.long xreadRange, Value.ref ri, Value.ref ro, Value.ref rw, Value.int xasked])), (ri, Sum.inr (0, [Value.int rin, Value.ref ria])), (ria, Sum.inl (cI, rik, Sum.inl rif))] sz (fun (r : Int32) (u : Int64 × Int64 × Int32 × Int64 × Int64 × Int32) => True) (fun (u : Int64 × Int64 × Int32 × Int64 × Int64 × Int32) => [(co, Sum.inr (3, [Value.int xshift, Value.long u.1, Value.long u.2.1, Value.int u.2.2.1, Value.int xcache, Value.int xpending, Value.long xlow, Value.long xrange, Value.long u.2.2.2.1, Value.long xreadLow, Value.long u.2.2.2.2.1, Value.ref ri, Value.ref ro, Value.ref rw, Value.int u.2.2.2.2.2])), (ri, Sum.inr (0, [Value.int rin, Value.ref ria])), (ria, Sum.inl (cI, rik, Sum.inl rif))]) 0 0 := by
  refine my_ofI (cc := prog_2_method_8_code) (n := 5) (ret := (some .int)) (by decide) rfl (Nat.le_of_ble_eq_true rfl) ?_
  intro p e s m args below meth c R Q A ls H locs hx hb hr hts hown hlocks hml hnm hR hQ hA hl hP hK hN hD hS
  have hg : ∀ w ∈ gw, w.before args s = true := fun w h => hts w (List.mem_cons_of_mem _ h)
  have hown : s.vm.findClass "RangeCoders$Bits" = some m.cls := hown
  have hl : lv_has ls 5 [(0, Value.ref co), (1, Value.int wd)] := hl
  have hlt_hri := rOk_lt hri
  refine lv_aload_n hx hb d_Bits_nextValue_0 rfl (lv_at hl 0 rfl) ?_
  refine va_get (D := (dC, dI)) (ci := 3) (v := .long xcode) (C := "RangeCoders$Bits") (T := T_Bits) (N := 15) hx hb hg in_Bits hown hK hP 0 rfl rfl 8 (by decide) (hg _ k88) (fun x9 h9 => u_same (hg _ k89) x9 h9) rfl d_Bits_nextValue_1 ?_
  refine lv_aload_n hx hb d_Bits_nextValue_4 rfl (lv_at hl 0 rfl) ?_
  refine va_get (D := (dC, dI)) (ci := 3) (v := .long xreadRange) (C := "RangeCoders$Bits") (T := T_Bits) (N := 15) hx hb hg in_Bits hown hK hP 0 rfl rfl 10 (by decide) (hg _ k98) (fun x9 h9 => u_same (hg _ k99) x9 h9) rfl d_Bits_nextValue_5 ?_
  refine W.lcmp hx hb d_Bits_nextValue_8 ?_
  refine lv_if_lt (tgt := 14) hx hb d_Bits_nextValue_9 (by decide) (fun c_1 => ?_) (fun c_1 => ?_)
  · rw [lg_cmp_lt] at c_1
    refine lv_aload_n hx hb d_Bits_nextValue_14 rfl (lv_at hl 0 rfl) ?_
    refine my_cv (wr := [(ri, Sum.inr (0, [Value.int rin, Value.ref ria])), (ria, Sum.inl (cI, rik, Sum.inl rif))]) (va_runV (As := []) (rest := []) ⟨hx, hb, hml, hown, hts⟩ (c_Bits_Bits_keepReading l dC dI cI cM cO H.size co xshift xkeptCode xkeptRange xkeptAsked xcache xpending xlow xrange xcode xreadLow xreadRange ri ro rw xasked) (cwV 0 hts (my_gV k781 k783 ks13 k8 k784) rfl rfl rfl cu_Bits_keepReading_0 ⟨by rw [hR]; exact Nat.le_of_ble_eq_true rfl, by rw [hR]; exact Nat.le_of_ble_eq_true rfl⟩) (my_preV hK hN (hP.sub [0] rfl) (hD.sub [0] (by decide +kernel) rfl) 0 rfl rfl) rfl rfl hl.1 rfl (lv_room (Nat.le_of_ble_eq_true rfl)) d_Bits_nextValue_15 ⟨by rw [hR]; exact Nat.le_of_ble_eq_true rfl, by rw [hR]; exact Nat.le_of_ble_eq_true rfl⟩) hP hD hS hA [0] [1, 2] rfl rfl (by decide +kernel) (by decide +kernel) (fun u9 H locs hw_15 hP hD hS => ?_)
    obtain ⟨xkeptCodeq_15, xkeptRangeq_15, xkeptAskedq_15⟩ := u9
    have hPD : my_PD (dC, dI) vwCl A [(ri, Sum.inr (0, [Value.int rin, Value.ref ria])), (ria, Sum.inl (cI, rik, Sum.inl rif)), (co, Sum.inr (3, [Value.int xshift, Value.long xkeptCodeq_15, Value.long xkeptRangeq_15, Value.int xkeptAskedq_15, Value.int xcache, Value.int xpending, Value.long xlow, Value.long xrange, Value.long xcode, Value.long xreadLow, Value.long xreadRange, Value.ref ri, Value.ref ro, Value.ref rw, Value.int xasked]))] H := ⟨hP, hD⟩
    have hP := hPD.1
    have hD := hPD.2
    refine lv_iconst (v := 0) hx hb d_Bits_nextValue_18 (by decide) ?_
    refine lv_istore_n (lv' := [(2, Value.int 0), (0, Value.ref co), (1, Value.int wd)]) hx hb d_Bits_nextValue_19 rfl hl (by decide) rfl (fun ls hl => ?_)
    refine lv_iconst (v := 0) hx hb d_Bits_nextValue_20 (by decide) ?_
    refine lv_istore_n (lv' := [(3, Value.int 0), (2, Value.int 0), (0, Value.ref co), (1, Value.int wd)]) hx hb d_Bits_nextValue_21 rfl hl (by decide) rfl (fun ls hl => ?_)
    have J_22 : ∀ (n9_22 : Nat) (b22_0 : Int32) (b22_1 : Int32) (b22_2 : Int64) (b22_3 : Int64) (b22_4 : Int32) (hn9_22 : (wd.toInt - b22_0.toInt).toNat = n9_22) (hi_22 : 0 ≤ b22_0.toInt) (H : Heap) (locs : List Loc) (ls : Array Slot), va_P (dC, dI) vwCl [(ri, Sum.inr (0, [Value.int rin, Value.ref ria])), (ria, Sum.inl (cI, rik, Sum.inl rif)), (co, Sum.inr (3, [Value.int xshift, Value.long xkeptCodeq_15, Value.long xkeptRangeq_15, Value.int xkeptAskedq_15, Value.int xcache, Value.int xpending, Value.long xlow, Value.long xrange, Value.long b22_2, Value.long xreadLow, Value.long b22_3, Value.ref ri, Value.ref ro, Value.ref rw, Value.int b22_4]))] H → va_D A [(ri, Sum.inr (0, [Value.int rin, Value.ref ria])), (ria, Sum.inl (cI, rik, Sum.inl rif)), (co, Sum.inr (3, [Value.int xshift, Value.long xkeptCodeq_15, Value.long xkeptRangeq_15, Value.int xkeptAskedq_15, Value.int xcache, Value.int xpending, Value.long xlow, Value.long xrange, Value.long b22_2, Value.long xreadLow, Value.long b22_3, Value.ref ri, Value.ref ro, Value.ref rw, Value.int b22_4]))] → va_S A s.heap H locs → lv_has ls 5 [(3, Value.int b22_0), (2, Value.int b22_1), (0, Value.ref co), (1, Value.int wd)] → W p l e R s m args below meth c H locs 0 0 Q (F0 m 22 ls []) := by
      intro n9_22
      induction n9_22 using Nat.strongRecOn with
      | ind n9_22 ih9_22 =>
        intro b22_0 b22_1 b22_2 b22_3 b22_4 hn9_22 hi_22 H locs ls hP hD hS hl
        refine lv_iload_n hx hb d_Bits_nextValue_22 rfl (lv_at hl 0 rfl) ?_
        refine lv_iload_n hx hb d_Bits_nextValue_23 rfl (lv_at hl 3 rfl) ?_
        refine lv_icmp_ge (tgt := 107) hx hb d_Bits_nextValue_24 (by decide) (fun c_2 => ?_) (fun c_2 => ?_)
        · refine lv_iload_n hx hb d_Bits_nextValue_107 rfl (lv_at hl 1 rfl) ?_
          exact my_iret (v := b22_1) hx hb hr (rfl) hlocks hQ hK hS (Nat.le_refl _) (Nat.le_refl _) (xkeptCodeq_15, xkeptRangeq_15, xkeptAskedq_15, b22_2, b22_3, b22_4) (trivial) (hP.sub [2, 0, 1] rfl) (hD.sub [2, 0, 1] (by decide +kernel) rfl) d_Bits_nextValue_108
        · refine lv_aload_n hx hb d_Bits_nextValue_27 rfl (lv_at hl 2 rfl) ?_
          refine lv_dup hx hb d_Bits_nextValue_28 rfl ?_
          refine va_get (D := (dC, dI)) (ci := 3) (v := .long b22_3) (C := "RangeCoders$Bits") (T := T_Bits) (N := 15) hx hb hg in_Bits hown hK hP 2 rfl rfl 10 (by decide) (hg _ k98) (fun x9 h9 => u_same (hg _ k99) x9 h9) rfl d_Bits_nextValue_29 ?_
          refine lv_iconst (v := 1) hx hb d_Bits_nextValue_32 (by decide) ?_
          refine lv_lushr hx hb d_Bits_nextValue_33 rfl ?_
          refine lv_topl (fun v_3 ev_3 => ?_)
          refine va_put (D := (dC, dI)) (ci := 3) (v := .long v_3) (ty := .long) (C := "RangeCoders$Bits") (T := T_Bits) (N := 15) hx hb hg in_Bits t_Bits o_Bits n_Bits hown hK hP hD hS 2 rfl rfl 10 (by decide) (hg _ k98) (fun x9 h9 => u_same (hg _ k99) x9 h9) rfl (o_Bits 10 (by decide)) rfl rfl (Nat.le_of_ble_eq_true rfl) d_Bits_nextValue_34 (fun H locs hP hD hS => ?_)
          have hPD : my_PD (dC, dI) vwCl A [(ri, Sum.inr (0, [Value.int rin, Value.ref ria])), (ria, Sum.inl (cI, rik, Sum.inl rif)), (co, Sum.inr (3, [Value.int xshift, Value.long xkeptCodeq_15, Value.long xkeptRangeq_15, Value.int xkeptAskedq_15, Value.int xcache, Value.int xpending, Value.long xlow, Value.long xrange, Value.long b22_2, Value.long xreadLow, Value.long v_3, Value.ref ri, Value.ref ro, Value.ref rw, Value.int b22_4]))] H := ⟨hP, hD⟩
          have hP := hPD.1
          have hD := hPD.2
          refine lv_aload_n hx hb d_Bits_nextValue_37 rfl (lv_at hl 2 rfl) ?_
          refine va_get (D := (dC, dI)) (ci := 3) (v := .long b22_2) (C := "RangeCoders$Bits") (T := T_Bits) (N := 15) hx hb hg in_Bits hown hK hP 2 rfl rfl 8 (by decide) (hg _ k88) (fun x9 h9 => u_same (hg _ k89) x9 h9) rfl d_Bits_nextValue_38 ?_
          refine lv_aload_n hx hb d_Bits_nextValue_41 rfl (lv_at hl 2 rfl) ?_
          refine va_get (D := (dC, dI)) (ci := 3) (v := .long v_3) (C := "RangeCoders$Bits") (T := T_Bits) (N := 15) hx hb hg in_Bits hown hK hP 2 rfl rfl 10 (by decide) (hg _ k98) (fun x9 h9 => u_same (hg _ k99) x9 h9) rfl d_Bits_nextValue_42 ?_
          refine W.lcmp hx hb d_Bits_nextValue_45 ?_
          refine lv_if_ge (tgt := 53) hx hb d_Bits_nextValue_46 (by decide) (fun c_4 => ?_) (fun c_4 => ?_)
          · rw [lg_cmp_ge] at c_4
            refine lv_iconst (v := 1) hx hb d_Bits_nextValue_53 (by decide) ?_
            refine lv_istore (lv' := [(4, Value.int 1), (3, Value.int b22_0), (2, Value.int b22_1), (0, Value.ref co), (1, Value.int wd)]) hx hb d_Bits_nextValue_54 hl (by decide) rfl (fun ls hl => ?_)
            refine lv_aload_n hx hb d_Bits_nextValue_56 rfl (lv_at hl 3 rfl) ?_
            refine lv_dup hx hb d_Bits_nextValue_57 rfl ?_
            refine va_get (D := (dC, dI)) (ci := 3) (v := .long b22_2) (C := "RangeCoders$Bits") (T := T_Bits) (N := 15) hx hb hg in_Bits hown hK hP 2 rfl rfl 8 (by decide) (hg _ k88) (fun x9 h9 => u_same (hg _ k89) x9 h9) rfl d_Bits_nextValue_58 ?_
            refine lv_iload hx hb d_Bits_nextValue_61 (lv_at hl 0 rfl) ?_
            refine lv_i2l hx hb d_Bits_nextValue_63 rfl ?_
            refine lv_topl (fun v_5 ev_5 => ?_)
            refine lv_aload_n hx hb d_Bits_nextValue_64 rfl (lv_at hl 3 rfl) ?_
            refine va_get (D := (dC, dI)) (ci := 3) (v := .long v_3) (C := "RangeCoders$Bits") (T := T_Bits) (N := 15) hx hb hg in_Bits hown hK hP 2 rfl rfl 10 (by decide) (hg _ k98) (fun x9 h9 => u_same (hg _ k99) x9 h9) rfl d_Bits_nextValue_65 ?_
            refine lv_lmul hx hb d_Bits_nextValue_68 ?_
            refine lv_topl (fun v_6 ev_6 => ?_)
            refine lv_lsub hx hb d_Bits_nextValue_69 ?_
            refine lv_topl (fun v_7 ev_7 => ?_)
            refine va_put (D := (dC, dI)) (ci := 3) (v := .long v_7) (ty := .long) (C := "RangeCoders$Bits") (T := T_Bits) (N := 15) hx hb hg in_Bits t_Bits o_Bits n_Bits hown hK hP hD hS 2 rfl rfl 8 (by decide) (hg _ k88) (fun x9 h9 => u_same (hg _ k89) x9 h9) rfl (o_Bits 8 (by decide)) rfl rfl (Nat.le_of_ble_eq_true rfl) d_Bits_nextValue_70 (fun H locs hP hD hS => ?_)
            have hPD : my_PD (dC, dI) vwCl A [(ri, Sum.inr (0, [Value.int rin, Value.ref ria])), (ria, Sum.inl (cI, rik, Sum.inl rif)), (co, Sum.inr (3, [Value.int xshift, Value.long xkeptCodeq_15, Value.long xkeptRangeq_15, Value.int xkeptAskedq_15, Value.int xcache, Value.int xpending, Value.long xlow, Value.long xrange, Value.long v_7, Value.long xreadLow, Value.long v_3, Value.ref ri, Value.ref ro, Value.ref rw, Value.int b22_4]))] H := ⟨hP, hD⟩
            have hP := hPD.1
            have hD := hPD.2
            refine lv_aload_n hx hb d_Bits_nextValue_73 rfl (lv_at hl 3 rfl) ?_
            refine va_get (D := (dC, dI)) (ci := 3) (v := .long v_7) (C := "RangeCoders$Bits") (T := T_Bits) (N := 15) hx hb hg in_Bits hown hK hP 2 rfl rfl 8 (by decide) (hg _ k88) (fun x9 h9 => u_same (hg _ k89) x9 h9) rfl d_Bits_nextValue_74 ?_
            refine lv_aload_n hx hb d_Bits_nextValue_77 rfl (lv_at hl 3 rfl) ?_
            refine va_get (D := (dC, dI)) (ci := 3) (v := .long v_3) (C := "RangeCoders$Bits") (T := T_Bits) (N := 15) hx hb hg in_Bits hown hK hP 2 rfl rfl 10 (by decide) (hg _ k98) (fun x9 h9 => u_same (hg _ k99) x9 h9) rfl d_Bits_nextValue_78 ?_
            refine W.lcmp hx hb d_Bits_nextValue_81 ?_
            refine lv_if_lt (tgt := 90) hx hb d_Bits_nextValue_82 (by decide) (fun c_8 => ?_) (fun c_8 => ?_)
            · rw [lg_cmp_lt] at c_8
              refine lv_iconst (v := 2) hx hb d_Bits_nextValue_90 (by decide) ?_
              refine lv_iload_n hx hb d_Bits_nextValue_91 rfl (lv_at hl 2 rfl) ?_
              refine lv_imul hx hb d_Bits_nextValue_92 ?_
              refine lv_topi (fun v_9 ev_9 => ?_)
              refine lv_iload hx hb d_Bits_nextValue_93 (lv_at hl 0 rfl) ?_
              refine lv_iadd hx hb d_Bits_nextValue_95 ?_
              refine lv_topi (fun v_10 ev_10 => ?_)
              refine lv_istore_n (lv' := [(2, Value.int v_10), (4, Value.int 1), (3, Value.int b22_0), (0, Value.ref co), (1, Value.int wd)]) hx hb d_Bits_nextValue_96 rfl hl (by decide) rfl (fun ls hl => ?_)
              refine lv_aload_n hx hb d_Bits_nextValue_97 rfl (lv_at hl 3 rfl) ?_
              refine my_cv (wr := []) (va_runU (As := []) (rest := []) ⟨hx, hb, hml, hown, hts⟩ (c_Bits_Carries_widenReading l dC dI cI cM cO H.size co xshift xkeptCodeq_15 xkeptRangeq_15 xkeptAskedq_15 xcache xpending xlow xrange v_7 xreadLow v_3 ri ro rw b22_4 rin ria rik rif (by first | assumption | omega)) (va_cwU 0 hts (my_gU k789 k790 k792 k793 k5 k794) rfl rfl rfl rfl (by decide +kernel) ⟨by rw [hR]; exact Nat.le_of_ble_eq_true rfl, by rw [hR]; exact Nat.le_of_ble_eq_true rfl⟩) (my_preV hK hN (hP.sub [2, 0, 1] rfl) (hD.sub [2, 0, 1] (by decide +kernel) rfl) 0 rfl rfl) rfl rfl hl.1 rfl (lv_room (Nat.le_of_ble_eq_true rfl)) d_Bits_nextValue_98 ⟨by rw [hR]; exact Nat.le_of_ble_eq_true rfl, by rw [hR]; exact Nat.le_of_ble_eq_true rfl⟩) hP hD hS hA [2, 0, 1] [] rfl rfl (by decide +kernel) (by decide +kernel) (fun u9 H locs hw_98 hP hD hS => ?_)
              obtain ⟨xcodeq_98, xreadRangeq_98, xaskedq_98⟩ := u9
              have hPD : my_PD (dC, dI) vwCl A [(co, Sum.inr (3, [Value.int xshift, Value.long xkeptCodeq_15, Value.long xkeptRangeq_15, Value.int xkeptAskedq_15, Value.int xcache, Value.int xpending, Value.long xlow, Value.long xrange, Value.long xcodeq_98, Value.long xreadLow, Value.long xreadRangeq_98, Value.ref ri, Value.ref ro, Value.ref rw, Value.int xaskedq_98])), (ri, Sum.inr (0, [Value.int rin, Value.ref ria])), (ria, Sum.inl (cI, rik, Sum.inl rif))] H := ⟨hP, hD⟩
              have hP := hPD.1
              have hD := hPD.2
              obtain ⟨v_11, ev_11⟩ : ∃ y : Int32, y = b22_0 + (1) := ⟨_, rfl⟩
              refine lv_iinc (v := v_11) (lv' := [(3, Value.int v_11), (2, Value.int v_10), (4, Value.int 1), (0, Value.ref co), (1, Value.int wd)]) hx hb d_Bits_nextValue_101 hl (k := 2) rfl (by rw [ev_11]; rfl) (by decide) rfl (fun ls hl => ?_)
              refine lv_goto (tgt := 22) hx hb d_Bits_nextValue_104 (by decide) ?_
              exact ih9_22 _ (by first | omega | (have z9 := I_up c_2 ev_11; omega)) v_11 v_10 xcodeq_98 xreadRangeq_98 xaskedq_98 rfl (by have z9 := I_up c_2 ev_11; omega) H locs ls (hP.sub [1, 2, 0] rfl) (hD.sub [1, 2, 0] (by decide +kernel) rfl) hS (lv_sub hl [0, 1, 3, 4] rfl)
            · rw [lg_cmp_lt] at c_8
              refine lv_aload_n hx hb d_Bits_nextValue_85 rfl (lv_at hl 3 rfl) ?_
              refine my_ci (wr := [(ri, Sum.inr (0, [Value.int rin, Value.ref ria])), (ria, Sum.inl (cI, rik, Sum.inl rif))]) (va_runV (As := []) (rest := []) ⟨hx, hb, hml, hown, hts⟩ (c_Bits_Bits_undone l dC dI cI cM cO H.size co xshift xkeptCodeq_15 xkeptRangeq_15 xkeptAskedq_15 xcache xpending xlow xrange v_7 xreadLow v_3 ri ro rw b22_4) (cwV 0 hts (my_gV k800 k802 ks15 k8 k803) rfl rfl rfl cu_Bits_undone_0 ⟨by rw [hR]; exact Nat.le_of_ble_eq_true rfl, by rw [hR]; exact Nat.le_of_ble_eq_true rfl⟩) (my_preV hK hN (hP.sub [2] rfl) (hD.sub [2] (by decide +kernel) rfl) 0 rfl rfl) rfl rfl hl.1 rfl (lv_room (Nat.le_of_ble_eq_true rfl)) d_Bits_nextValue_86 ⟨by rw [hR]; exact Nat.le_of_ble_eq_true rfl, by rw [hR]; exact Nat.le_of_ble_eq_true rfl⟩) hP hD hS hA [2] [0, 1] rfl rfl (by decide +kernel) (by decide +kernel) (fun r_86 u9 H locs hw_86 hP hD hS => ?_)
              obtain ⟨xcodeq_86, xreadRangeq_86, xaskedq_86⟩ := u9
              have hPD : my_PD (dC, dI) vwCl A [(ri, Sum.inr (0, [Value.int rin, Value.ref ria])), (ria, Sum.inl (cI, rik, Sum.inl rif)), (co, Sum.inr (3, [Value.int xshift, Value.long xkeptCodeq_15, Value.long xkeptRangeq_15, Value.int xkeptAskedq_15, Value.int xcache, Value.int xpending, Value.long xlow, Value.long xrange, Value.long xcodeq_86, Value.long xreadLow, Value.long xreadRangeq_86, Value.ref ri, Value.ref ro, Value.ref rw, Value.int xaskedq_86]))] H := ⟨hP, hD⟩
              have hP := hPD.1
              have hD := hPD.2
              exact my_iret (v := r_86) hx hb hr (rfl) hlocks hQ hK hS (Nat.le_refl _) (Nat.le_refl _) (xkeptCodeq_15, xkeptRangeq_15, xkeptAskedq_15, xcodeq_86, xreadRangeq_86, xaskedq_86) (trivial) (hP.sub [2, 0, 1] rfl) (hD.sub [2, 0, 1] (by decide +kernel) rfl) d_Bits_nextValue_89
          · rw [lg_cmp_ge] at c_4
            refine lv_iconst (v := 0) hx hb d_Bits_nextValue_49 (by decide) ?_
            refine lv_goto (tgt := 54) hx hb d_Bits_nextValue_50 (by decide) ?_
            refine lv_istore (lv' := [(4, Value.int 0), (3, Value.int b22_0), (2, Value.int b22_1), (0, Value.ref co), (1, Value.int wd)]) hx hb d_Bits_nextValue_54 hl (by decide) rfl (fun ls hl => ?_)
            refine lv_aload_n hx hb d_Bits_nextValue_56 rfl (lv_at hl 3 rfl) ?_
            refine lv_dup hx hb d_Bits_nextValue_57 rfl ?_
            refine va_get (D := (dC, dI)) (ci := 3) (v := .long b22_2) (C := "RangeCoders$Bits") (T := T_Bits) (N := 15) hx hb hg in_Bits hown hK hP 2 rfl rfl 8 (by decide) (hg _ k88) (fun x9 h9 => u_same (hg _ k89) x9 h9) rfl d_Bits_nextValue_58 ?_
            refine lv_iload hx hb d_Bits_nextValue_61 (lv_at hl 0 rfl) ?_
            refine lv_i2l hx hb d_Bits_nextValue_63 rfl ?_
            refine lv_topl (fun v_12 ev_12 => ?_)
            refine lv_aload_n hx hb d_Bits_nextValue_64 rfl (lv_at hl 3 rfl) ?_
            refine va_get (D := (dC, dI)) (ci := 3) (v := .long v_3) (C := "RangeCoders$Bits") (T := T_Bits) (N := 15) hx hb hg in_Bits hown hK hP 2 rfl rfl 10 (by decide) (hg _ k98) (fun x9 h9 => u_same (hg _ k99) x9 h9) rfl d_Bits_nextValue_65 ?_
            refine lv_lmul hx hb d_Bits_nextValue_68 ?_
            refine lv_topl (fun v_13 ev_13 => ?_)
            refine lv_lsub hx hb d_Bits_nextValue_69 ?_
            refine lv_topl (fun v_14 ev_14 => ?_)
            refine va_put (D := (dC, dI)) (ci := 3) (v := .long v_14) (ty := .long) (C := "RangeCoders$Bits") (T := T_Bits) (N := 15) hx hb hg in_Bits t_Bits o_Bits n_Bits hown hK hP hD hS 2 rfl rfl 8 (by decide) (hg _ k88) (fun x9 h9 => u_same (hg _ k89) x9 h9) rfl (o_Bits 8 (by decide)) rfl rfl (Nat.le_of_ble_eq_true rfl) d_Bits_nextValue_70 (fun H locs hP hD hS => ?_)
            have hPD : my_PD (dC, dI) vwCl A [(ri, Sum.inr (0, [Value.int rin, Value.ref ria])), (ria, Sum.inl (cI, rik, Sum.inl rif)), (co, Sum.inr (3, [Value.int xshift, Value.long xkeptCodeq_15, Value.long xkeptRangeq_15, Value.int xkeptAskedq_15, Value.int xcache, Value.int xpending, Value.long xlow, Value.long xrange, Value.long v_14, Value.long xreadLow, Value.long v_3, Value.ref ri, Value.ref ro, Value.ref rw, Value.int b22_4]))] H := ⟨hP, hD⟩
            have hP := hPD.1
            have hD := hPD.2
            refine lv_aload_n hx hb d_Bits_nextValue_73 rfl (lv_at hl 3 rfl) ?_
            refine va_get (D := (dC, dI)) (ci := 3) (v := .long v_14) (C := "RangeCoders$Bits") (T := T_Bits) (N := 15) hx hb hg in_Bits hown hK hP 2 rfl rfl 8 (by decide) (hg _ k88) (fun x9 h9 => u_same (hg _ k89) x9 h9) rfl d_Bits_nextValue_74 ?_
            refine lv_aload_n hx hb d_Bits_nextValue_77 rfl (lv_at hl 3 rfl) ?_
            refine va_get (D := (dC, dI)) (ci := 3) (v := .long v_3) (C := "RangeCoders$Bits") (T := T_Bits) (N := 15) hx hb hg in_Bits hown hK hP 2 rfl rfl 10 (by decide) (hg _ k98) (fun x9 h9 => u_same (hg _ k99) x9 h9) rfl d_Bits_nextValue_78 ?_
            refine W.lcmp hx hb d_Bits_nextValue_81 ?_
            refine lv_if_lt (tgt := 90) hx hb d_Bits_nextValue_82 (by decide) (fun c_15 => ?_) (fun c_15 => ?_)
            · rw [lg_cmp_lt] at c_15
              refine lv_iconst (v := 2) hx hb d_Bits_nextValue_90 (by decide) ?_
              refine lv_iload_n hx hb d_Bits_nextValue_91 rfl (lv_at hl 2 rfl) ?_
              refine lv_imul hx hb d_Bits_nextValue_92 ?_
              refine lv_topi (fun v_16 ev_16 => ?_)
              refine lv_iload hx hb d_Bits_nextValue_93 (lv_at hl 0 rfl) ?_
              refine lv_iadd hx hb d_Bits_nextValue_95 ?_
              refine lv_topi (fun v_17 ev_17 => ?_)
              refine lv_istore_n (lv' := [(2, Value.int v_17), (4, Value.int 0), (3, Value.int b22_0), (0, Value.ref co), (1, Value.int wd)]) hx hb d_Bits_nextValue_96 rfl hl (by decide) rfl (fun ls hl => ?_)
              refine lv_aload_n hx hb d_Bits_nextValue_97 rfl (lv_at hl 3 rfl) ?_
              refine my_cv (wr := []) (va_runU (As := []) (rest := []) ⟨hx, hb, hml, hown, hts⟩ (c_Bits_Carries_widenReading l dC dI cI cM cO H.size co xshift xkeptCodeq_15 xkeptRangeq_15 xkeptAskedq_15 xcache xpending xlow xrange v_14 xreadLow v_3 ri ro rw b22_4 rin ria rik rif (by first | assumption | omega)) (va_cwU 0 hts (my_gU k789 k790 k792 k793 k5 k794) rfl rfl rfl rfl (by decide +kernel) ⟨by rw [hR]; exact Nat.le_of_ble_eq_true rfl, by rw [hR]; exact Nat.le_of_ble_eq_true rfl⟩) (my_preV hK hN (hP.sub [2, 0, 1] rfl) (hD.sub [2, 0, 1] (by decide +kernel) rfl) 0 rfl rfl) rfl rfl hl.1 rfl (lv_room (Nat.le_of_ble_eq_true rfl)) d_Bits_nextValue_98 ⟨by rw [hR]; exact Nat.le_of_ble_eq_true rfl, by rw [hR]; exact Nat.le_of_ble_eq_true rfl⟩) hP hD hS hA [2, 0, 1] [] rfl rfl (by decide +kernel) (by decide +kernel) (fun u9 H locs hw_98 hP hD hS => ?_)
              obtain ⟨xcodeq_98, xreadRangeq_98, xaskedq_98⟩ := u9
              have hPD : my_PD (dC, dI) vwCl A [(co, Sum.inr (3, [Value.int xshift, Value.long xkeptCodeq_15, Value.long xkeptRangeq_15, Value.int xkeptAskedq_15, Value.int xcache, Value.int xpending, Value.long xlow, Value.long xrange, Value.long xcodeq_98, Value.long xreadLow, Value.long xreadRangeq_98, Value.ref ri, Value.ref ro, Value.ref rw, Value.int xaskedq_98])), (ri, Sum.inr (0, [Value.int rin, Value.ref ria])), (ria, Sum.inl (cI, rik, Sum.inl rif))] H := ⟨hP, hD⟩
              have hP := hPD.1
              have hD := hPD.2
              obtain ⟨v_18, ev_18⟩ : ∃ y : Int32, y = b22_0 + (1) := ⟨_, rfl⟩
              refine lv_iinc (v := v_18) (lv' := [(3, Value.int v_18), (2, Value.int v_17), (4, Value.int 0), (0, Value.ref co), (1, Value.int wd)]) hx hb d_Bits_nextValue_101 hl (k := 2) rfl (by rw [ev_18]; rfl) (by decide) rfl (fun ls hl => ?_)
              refine lv_goto (tgt := 22) hx hb d_Bits_nextValue_104 (by decide) ?_
              exact ih9_22 _ (by first | omega | (have z9 := I_up c_2 ev_18; omega)) v_18 v_17 xcodeq_98 xreadRangeq_98 xaskedq_98 rfl (by have z9 := I_up c_2 ev_18; omega) H locs ls (hP.sub [1, 2, 0] rfl) (hD.sub [1, 2, 0] (by decide +kernel) rfl) hS (lv_sub hl [0, 1, 3, 4] rfl)
            · rw [lg_cmp_lt] at c_15
              refine lv_aload_n hx hb d_Bits_nextValue_85 rfl (lv_at hl 3 rfl) ?_
              refine my_ci (wr := [(ri, Sum.inr (0, [Value.int rin, Value.ref ria])), (ria, Sum.inl (cI, rik, Sum.inl rif))]) (va_runV (As := []) (rest := []) ⟨hx, hb, hml, hown, hts⟩ (c_Bits_Bits_undone l dC dI cI cM cO H.size co xshift xkeptCodeq_15 xkeptRangeq_15 xkeptAskedq_15 xcache xpending xlow xrange v_14 xreadLow v_3 ri ro rw b22_4) (cwV 0 hts (my_gV k800 k802 ks15 k8 k803) rfl rfl rfl cu_Bits_undone_0 ⟨by rw [hR]; exact Nat.le_of_ble_eq_true rfl, by rw [hR]; exact Nat.le_of_ble_eq_true rfl⟩) (my_preV hK hN (hP.sub [2] rfl) (hD.sub [2] (by decide +kernel) rfl) 0 rfl rfl) rfl rfl hl.1 rfl (lv_room (Nat.le_of_ble_eq_true rfl)) d_Bits_nextValue_86 ⟨by rw [hR]; exact Nat.le_of_ble_eq_true rfl, by rw [hR]; exact Nat.le_of_ble_eq_true rfl⟩) hP hD hS hA [2] [0, 1] rfl rfl (by decide +kernel) (by decide +kernel) (fun r_86 u9 H locs hw_86 hP hD hS => ?_)
              obtain ⟨xcodeq_86, xreadRangeq_86, xaskedq_86⟩ := u9
              have hPD : my_PD (dC, dI) vwCl A [(ri, Sum.inr (0, [Value.int rin, Value.ref ria])), (ria, Sum.inl (cI, rik, Sum.inl rif)), (co, Sum.inr (3, [Value.int xshift, Value.long xkeptCodeq_15, Value.long xkeptRangeq_15, Value.int xkeptAskedq_15, Value.int xcache, Value.int xpending, Value.long xlow, Value.long xrange, Value.long xcodeq_86, Value.long xreadLow, Value.long xreadRangeq_86, Value.ref ri, Value.ref ro, Value.ref rw, Value.int xaskedq_86]))] H := ⟨hP, hD⟩
              have hP := hPD.1
              have hD := hPD.2
              exact my_iret (v := r_86) hx hb hr (rfl) hlocks hQ hK hS (Nat.le_refl _) (Nat.le_refl _) (xkeptCodeq_15, xkeptRangeq_15, xkeptAskedq_15, xcodeq_86, xreadRangeq_86, xaskedq_86) (trivial) (hP.sub [2, 0, 1] rfl) (hD.sub [2, 0, 1] (by decide +kernel) rfl) d_Bits_nextValue_89
    exact J_22 _ (0 : Int32) (0 : Int32) xcode xreadRange xasked rfl (by first | decide | assumption | omega) H locs ls (hP.sub [0, 1, 2] rfl) (hD.sub [0, 1, 2] (by decide +kernel) rfl) hS (lv_sub hl [0, 1, 2, 3] rfl)
  · rw [lg_cmp_lt] at c_1
    refine lv_iconst (v := (-1)) hx hb d_Bits_nextValue_12 (by decide) ?_
    exact my_iret (v := (-1)) hx hb hr (rfl) hlocks hQ hK hS (Nat.le_refl _) (Nat.le_refl _) (xkeptCode, xkeptRange, xkeptAsked, xcode, xreadRange, xasked) (trivial) (hP.sub [0, 1, 2] rfl) (hD.sub [0, 1, 2] (by decide +kernel) rfl) d_Bits_nextValue_13
end
section
set_option maxHeartbeats 2000000 in
set_option maxRecDepth 100000 in
theorem c_Carries_Coder_nextByte (l : Launch) (dC : Nat → ClassId) (dI : Nat → Nat → Nat) (cI cM cO : ClassId) (sz : Nat) (co : Nat) (xcache : Int32) (xpending : Int32) (xlow : Int64) (xrange : Int64) (xcode : Int64) (xreadLow : Int64) (xreadRange : Int64) (ri : Nat) (ro : Nat) (rw : Nat) (xasked : Int32) (rin : Int32) (ria : Nat) (rik : Nat) (rif : Nat → Int32) (hri : rOk rin rik) : MetI l y_Coder_nextByte (Cond.code y_Coder_nextByte prog_4_method_15_code 2 (some .int) :: gw) ({ frames := 2, cells := 0, slots := 0, locals := 42 } : Room) (dC, dI) vwCl (kT cI cM cO) [Value.ref co] [(co, Sum.inr (1, [Value.int xcache, Value.int xpending, Value.long xlow, Value.long xrange, Value.long xcode, Value.long xreadLow, Value.long xreadRange, Value.ref ri, Value.ref ro, Value.ref rw, Value.int xasked])), (ri, Sum.inr (0, [Value.int rin, Value.ref ria])), (ria, Sum.inl (cI, rik, Sum.inl rif))] sz (fun (r : Int32) (u : Int32) => True) (fun (u : Int32) => [(co, Sum.inr (1, [Value.int xcache, Value.int xpending, Value.long xlow, Value.long xrange, Value.long xcode, Value.long xreadLow, Value.long xreadRange, Value.ref ri, Value.ref ro, Value.ref rw, Value.int u])), (ri, Sum.inr (0, [Value.int rin, Value.ref ria])), (ria, Sum.inl (cI, rik, Sum.inl rif))]) 0 0 := by
  refine my_ofI (cc := prog_4_method_15_code) (n := 2) (ret := (some .int)) (by decide) rfl (Nat.le_of_ble_eq_true rfl) ?_
  intro p e s m args below meth c R Q A ls H locs hx hb hr hts hown hlocks hml hnm hR hQ hA hl hP hK hN hD hS
  have hg : ∀ w ∈ gw, w.before args s = true := fun w h => hts w (List.mem_cons_of_mem _ h)
  have hown : s.vm.findClass "RangeCoders$Coder" = some m.cls := hown
  have hl : lv_has ls 2 [(0, Value.ref co)] := hl
  have hlt_hri := rOk_lt hri
  refine lv_aload_n hx hb d_Coder_nextByte_0 rfl (lv_at hl 0 rfl) ?_
  refine va_get (D := (dC, dI)) (ci := 1) (v := .ref ri) (C := "RangeCoders$Carries") (T := T_Carries) (N := 11) hx hb hg in_Carries hown hK hP 0 rfl rfl 7 (by decide) (hg _ k101) (fun _ h9 => h9) rfl d_Coder_nextByte_1 ?_
  refine lv_aload_n hx hb d_Coder_nextByte_4 rfl (lv_at hl 0 rfl) ?_
  refine va_get (D := (dC, dI)) (ci := 1) (v := .int xasked) (C := "RangeCoders$Carries") (T := T_Carries) (N := 11) hx hb hg in_Carries hown hK hP 0 rfl rfl 10 (by decide) (hg _ k130) (fun _ h9 => h9) rfl d_Coder_nextByte_5 ?_
  refine my_ci (wr := [(co, Sum.inr (1, [Value.int xcache, Value.int xpending, Value.long xlow, Value.long xrange, Value.long xcode, Value.long xreadLow, Value.long xreadRange, Value.ref ri, Value.ref ro, Value.ref rw, Value.int xasked]))]) (va_runV (As := [Value.int xasked]) (rest := []) ⟨hx, hb, hml, hown, hts⟩ (c_Row_has l dC dI cI cM cO H.size ri rin ria rik rif xasked (by first | assumption | omega)) (cwV 1 hts (my_gV k750 k663 k664 k6 k665) rfl rfl rfl cu_Row_has_1 ⟨by rw [hR]; exact Nat.le_of_ble_eq_true rfl, by rw [hR]; exact Nat.le_of_ble_eq_true rfl⟩) (my_preV hK hN (hP.sub [1, 2] rfl) (hD.sub [1, 2] (by decide +kernel) rfl) 0 rfl rfl) rfl rfl hl.1 rfl (lv_room (Nat.le_of_ble_eq_true rfl)) d_Coder_nextByte_8 ⟨by rw [hR]; exact Nat.le_of_ble_eq_true rfl, by rw [hR]; exact Nat.le_of_ble_eq_true rfl⟩) hP hD hS hA [1, 2] [0] rfl rfl (by decide +kernel) (by decide +kernel) (fun r_8 u9 H locs hw_8 hP hD hS => ?_)
  have hr_8 : r_8 ≠ 0 → vp_in xasked rik := hw_8
  have hPD : my_PD (dC, dI) vwCl A [(co, Sum.inr (1, [Value.int xcache, Value.int xpending, Value.long xlow, Value.long xrange, Value.long xcode, Value.long xreadLow, Value.long xreadRange, Value.ref ri, Value.ref ro, Value.ref rw, Value.int xasked])), (ri, Sum.inr (0, [Value.int rin, Value.ref ria])), (ria, Sum.inl (cI, rik, Sum.inl rif))] H := ⟨hP, hD⟩
  have hP := hPD.1
  have hD := hPD.2
  refine lv_if_eq (tgt := 28) hx hb d_Coder_nextByte_11 (by decide) (fun c_1 => ?_) (fun c_1 => ?_)
  · refine lv_iconst (v := 0) hx hb d_Coder_nextByte_28 (by decide) ?_
    refine lv_istore_n (lv' := [(1, Value.int 0), (0, Value.ref co)]) hx hb d_Coder_nextByte_29 rfl hl (by decide) rfl (fun ls hl => ?_)
    refine lv_aload_n hx hb d_Coder_nextByte_30 rfl (lv_at hl 1 rfl) ?_
    refine lv_dup hx hb d_Coder_nextByte_31 rfl ?_
    refine va_get (D := (dC, dI)) (ci := 1) (v := .int xasked) (C := "RangeCoders$Carries") (T := T_Carries) (N := 11) hx hb hg in_Carries hown hK hP 0 rfl rfl 10 (by decide) (hg _ k130) (fun _ h9 => h9) rfl d_Coder_nextByte_32 ?_
    refine lv_iconst (v := 1) hx hb d_Coder_nextByte_35 (by decide) ?_
    refine lv_iadd hx hb d_Coder_nextByte_36 ?_
    refine lv_topi (fun v_2 ev_2 => ?_)
    refine va_put (D := (dC, dI)) (ci := 1) (v := .int v_2) (ty := .int) (C := "RangeCoders$Carries") (T := T_Carries) (N := 11) hx hb hg in_Carries t_Carries o_Carries n_Carries hown hK hP hD hS 0 rfl rfl 10 (by decide) (hg _ k130) (fun _ h9 => h9) rfl (o_Carries 10 (by decide)) rfl rfl (Nat.le_of_ble_eq_true rfl) d_Coder_nextByte_37 (fun H locs hP hD hS => ?_)
    have hPD : my_PD (dC, dI) vwCl A [(co, Sum.inr (1, [Value.int xcache, Value.int xpending, Value.long xlow, Value.long xrange, Value.long xcode, Value.long xreadLow, Value.long xreadRange, Value.ref ri, Value.ref ro, Value.ref rw, Value.int v_2])), (ri, Sum.inr (0, [Value.int rin, Value.ref ria])), (ria, Sum.inl (cI, rik, Sum.inl rif))] H := ⟨hP, hD⟩
    have hP := hPD.1
    have hD := hPD.2
    refine lv_iload_n hx hb d_Coder_nextByte_40 rfl (lv_at hl 0 rfl) ?_
    exact my_iret (v := 0) hx hb hr (rfl) hlocks hQ hK hS (Nat.le_refl _) (Nat.le_refl _) (v_2) (trivial) (hP.sub [0, 1, 2] rfl) (hD.sub [0, 1, 2] (by decide +kernel) rfl) d_Coder_nextByte_41
  · refine lv_aload_n hx hb d_Coder_nextByte_14 rfl (lv_at hl 0 rfl) ?_
    refine va_get (D := (dC, dI)) (ci := 1) (v := .ref ri) (C := "RangeCoders$Carries") (T := T_Carries) (N := 11) hx hb hg in_Carries hown hK hP 0 rfl rfl 7 (by decide) (hg _ k101) (fun _ h9 => h9) rfl d_Coder_nextByte_15 ?_
    refine lv_aload_n hx hb d_Coder_nextByte_18 rfl (lv_at hl 0 rfl) ?_
    refine va_get (D := (dC, dI)) (ci := 1) (v := .int xasked) (C := "RangeCoders$Carries") (T := T_Carries) (N := 11) hx hb hg in_Carries hown hK hP 0 rfl rfl 10 (by decide) (hg _ k130) (fun _ h9 => h9) rfl d_Coder_nextByte_19 ?_
    refine my_ci (wr := [(co, Sum.inr (1, [Value.int xcache, Value.int xpending, Value.long xlow, Value.long xrange, Value.long xcode, Value.long xreadLow, Value.long xreadRange, Value.ref ri, Value.ref ro, Value.ref rw, Value.int xasked]))]) (va_runV (As := [Value.int xasked]) (rest := []) ⟨hx, hb, hml, hown, hts⟩ (c_Row_at l dC dI cI cM cO H.size ri rin ria rik rif xasked (by first | assumption | omega)) (cwV 1 hts (my_gV k751 k659 k660 k6 k661) rfl rfl rfl cu_Row_at_1 ⟨by rw [hR]; exact Nat.le_of_ble_eq_true rfl, by rw [hR]; exact Nat.le_of_ble_eq_true rfl⟩) (my_preV hK hN (hP.sub [1, 2] rfl) (hD.sub [1, 2] (by decide +kernel) rfl) 0 rfl rfl) rfl rfl hl.1 rfl (lv_room (Nat.le_of_ble_eq_true rfl)) d_Coder_nextByte_22 ⟨by rw [hR]; exact Nat.le_of_ble_eq_true rfl, by rw [hR]; exact Nat.le_of_ble_eq_true rfl⟩) hP hD hS hA [1, 2] [0] rfl rfl (by decide +kernel) (by decide +kernel) (fun r_22 u9 H locs hw_22 hP hD hS => ?_)
    have hPD : my_PD (dC, dI) vwCl A [(co, Sum.inr (1, [Value.int xcache, Value.int xpending, Value.long xlow, Value.long xrange, Value.long xcode, Value.long xreadLow, Value.long xreadRange, Value.ref ri, Value.ref ro, Value.ref rw, Value.int xasked])), (ri, Sum.inr (0, [Value.int rin, Value.ref ria])), (ria, Sum.inl (cI, rik, Sum.inl rif))] H := ⟨hP, hD⟩
    have hP := hPD.1
    have hD := hPD.2
    refine lv_goto (tgt := 29) hx hb d_Coder_nextByte_25 (by decide) ?_
    refine lv_istore_n (lv' := [(1, Value.int r_22), (0, Value.ref co)]) hx hb d_Coder_nextByte_29 rfl hl (by decide) rfl (fun ls hl => ?_)
    refine lv_aload_n hx hb d_Coder_nextByte_30 rfl (lv_at hl 1 rfl) ?_
    refine lv_dup hx hb d_Coder_nextByte_31 rfl ?_
    refine va_get (D := (dC, dI)) (ci := 1) (v := .int xasked) (C := "RangeCoders$Carries") (T := T_Carries) (N := 11) hx hb hg in_Carries hown hK hP 0 rfl rfl 10 (by decide) (hg _ k130) (fun _ h9 => h9) rfl d_Coder_nextByte_32 ?_
    refine lv_iconst (v := 1) hx hb d_Coder_nextByte_35 (by decide) ?_
    refine lv_iadd hx hb d_Coder_nextByte_36 ?_
    refine lv_topi (fun v_3 ev_3 => ?_)
    refine va_put (D := (dC, dI)) (ci := 1) (v := .int v_3) (ty := .int) (C := "RangeCoders$Carries") (T := T_Carries) (N := 11) hx hb hg in_Carries t_Carries o_Carries n_Carries hown hK hP hD hS 0 rfl rfl 10 (by decide) (hg _ k130) (fun _ h9 => h9) rfl (o_Carries 10 (by decide)) rfl rfl (Nat.le_of_ble_eq_true rfl) d_Coder_nextByte_37 (fun H locs hP hD hS => ?_)
    have hPD : my_PD (dC, dI) vwCl A [(co, Sum.inr (1, [Value.int xcache, Value.int xpending, Value.long xlow, Value.long xrange, Value.long xcode, Value.long xreadLow, Value.long xreadRange, Value.ref ri, Value.ref ro, Value.ref rw, Value.int v_3])), (ri, Sum.inr (0, [Value.int rin, Value.ref ria])), (ria, Sum.inl (cI, rik, Sum.inl rif))] H := ⟨hP, hD⟩
    have hP := hPD.1
    have hD := hPD.2
    refine lv_iload_n hx hb d_Coder_nextByte_40 rfl (lv_at hl 0 rfl) ?_
    exact my_iret (v := r_22) hx hb hr (rfl) hlocks hQ hK hS (Nat.le_refl _) (Nat.le_refl _) (v_3) (trivial) (hP.sub [0, 1, 2] rfl) (hD.sub [0, 1, 2] (by decide +kernel) rfl) d_Coder_nextByte_41
set_option maxHeartbeats 2000000 in
set_option maxRecDepth 100000 in
theorem c_Carries_Coder_firstFourBytes (l : Launch) (dC : Nat → ClassId) (dI : Nat → Nat → Nat) (cI cM cO : ClassId) (sz : Nat) (co : Nat) (xcache : Int32) (xpending : Int32) (xlow : Int64) (xrange : Int64) (xcode : Int64) (xreadLow : Int64) (xreadRange : Int64) (ri : Nat) (ro : Nat) (rw : Nat) (xasked : Int32) (rin : Int32) (ria : Nat) (rik : Nat) (rif : Nat → Int32) (hri : rOk rin rik) : MetL l y_Coder_firstFourBytes (Cond.code y_Coder_firstFourBytes prog_4_method_16_code 4 (some .long) :: gw) ({ frames := 3, cells := 0, slots := 0, locals := 63 } : Room) (dC, dI) vwCl (kT cI cM cO) [Value.ref co] [(co, Sum.inr (1, [Value.int xcache, Value.int xpending, Value.long xlow, Value.long xrange, Value.long xcode, Value.long xreadLow, Value.long xreadRange, Value.ref ri, Value.ref ro, Value.ref rw, Value.int xasked])), (ri, Sum.inr (0, [Value.int rin, Value.ref ria])), (ria, Sum.inl (cI, rik, Sum.inl rif))] sz (fun (r : Int64) (u : Int32) => True) (fun (u : Int32) => [(co, Sum.inr (1, [Value.int xcache, Value.int xpending, Value.long xlow, Value.long xrange, Value.long xcode, Value.long xreadLow, Value.long xreadRange, Value.ref ri, Value.ref ro, Value.ref rw, Value.int u])), (ri, Sum.inr (0, [Value.int rin, Value.ref ria])), (ria, Sum.inl (cI, rik, Sum.inl rif))]) 0 0 := by
  refine my_ofL (cc := prog_4_method_16_code) (n := 4) (ret := (some .long)) (by decide) rfl (Nat.le_of_ble_eq_true rfl) ?_
  intro p e s m args below meth c R Q A ls H locs hx hb hr hts hown hlocks hml hnm hR hQ hA hl hP hK hN hD hS
  have hg : ∀ w ∈ gw, w.before args s = true := fun w h => hts w (List.mem_cons_of_mem _ h)
  have hown : s.vm.findClass "RangeCoders$Coder" = some m.cls := hown
  have hl : lv_has ls 4 [(0, Value.ref co)] := hl
  have hlt_hri := rOk_lt hri
  refine lv_aload_n hx hb d_Coder_firstFourBytes_0 rfl (lv_at hl 0 rfl) ?_
  refine lv_iconst (v := 0) hx hb d_Coder_firstFourBytes_1 (by decide) ?_
  refine va_put (D := (dC, dI)) (ci := 1) (v := .int 0) (ty := .int) (C := "RangeCoders$Carries") (T := T_Carries) (N := 11) hx hb hg in_Carries t_Carries o_Carries n_Carries hown hK hP hD hS 0 rfl rfl 10 (by decide) (hg _ k130) (fun _ h9 => h9) rfl (o_Carries 10 (by decide)) rfl rfl (Nat.le_of_ble_eq_true rfl) d_Coder_firstFourBytes_2 (fun H locs hP hD hS => ?_)
  have hPD : my_PD (dC, dI) vwCl A [(co, Sum.inr (1, [Value.int xcache, Value.int xpending, Value.long xlow, Value.long xrange, Value.long xcode, Value.long xreadLow, Value.long xreadRange, Value.ref ri, Value.ref ro, Value.ref rw, Value.int 0])), (ri, Sum.inr (0, [Value.int rin, Value.ref ria])), (ria, Sum.inl (cI, rik, Sum.inl rif))] H := ⟨hP, hD⟩
  have hP := hPD.1
  have hD := hPD.2
  refine lv_lconst (v := 0) hx hb d_Coder_firstFourBytes_5 (by decide) ?_
  refine lv_lstore_n (lv' := [(1, Value.long 0), (0, Value.ref co)]) hx hb d_Coder_firstFourBytes_6 rfl hl (by decide) rfl (fun ls hl => ?_)
  refine lv_iconst (v := 0) hx hb d_Coder_firstFourBytes_7 (by decide) ?_
  refine lv_istore_n (lv' := [(3, Value.int 0), (1, Value.long 0), (0, Value.ref co)]) hx hb d_Coder_firstFourBytes_8 rfl hl (by decide) rfl (fun ls hl => ?_)
  have J_9 : ∀ (n9_9 : Nat) (b9_0 : Int32) (b9_1 : Int64) (b9_2 : Int32) (hn9_9 : ((4 : Int32).toInt - b9_0.toInt).toNat = n9_9) (hi_9 : 0 ≤ b9_0.toInt) (H : Heap) (locs : List Loc) (ls : Array Slot), va_P (dC, dI) vwCl [(co, Sum.inr (1, [Value.int xcache, Value.int xpending, Value.long xlow, Value.long xrange, Value.long xcode, Value.long xreadLow, Value.long xreadRange, Value.ref ri, Value.ref ro, Value.ref rw, Value.int b9_2])), (ri, Sum.inr (0, [Value.int rin, Value.ref ria])), (ria, Sum.inl (cI, rik, Sum.inl rif))] H → va_D A [(co, Sum.inr (1, [Value.int xcache, Value.int xpending, Value.long xlow, Value.long xrange, Value.long xcode, Value.long xreadLow, Value.long xreadRange, Value.ref ri, Value.ref ro, Value.ref rw, Value.int b9_2])), (ri, Sum.inr (0, [Value.int rin, Value.ref ria])), (ria, Sum.inl (cI, rik, Sum.inl rif))] → va_S A s.heap H locs → lv_has ls 4 [(3, Value.int b9_0), (1, Value.long b9_1), (0, Value.ref co)] → W p l e R s m args below meth c H locs 0 0 Q (F0 m 9 ls []) := by
    intro n9_9
    induction n9_9 using Nat.strongRecOn with
    | ind n9_9 ih9_9 =>
      intro b9_0 b9_1 b9_2 hn9_9 hi_9 H locs ls hP hD hS hl
      refine lv_iload_n hx hb d_Coder_firstFourBytes_9 rfl (lv_at hl 0 rfl) ?_
      refine lv_iconst (v := 4) hx hb d_Coder_firstFourBytes_10 (by decide) ?_
      refine lv_icmp_ge (tgt := 31) hx hb d_Coder_firstFourBytes_11 (by decide) (fun c_1 => ?_) (fun c_1 => ?_)
      · refine lv_lload_n hx hb d_Coder_firstFourBytes_31 rfl (lv_at hl 1 rfl) ?_
        exact my_lret (v := b9_1) hx hb hr hlocks hQ hK hS (Nat.le_refl _) (Nat.le_refl _) (b9_2) (trivial) (hP.sub [0, 1, 2] rfl) (hD.sub [0, 1, 2] (by decide +kernel) rfl) d_Coder_firstFourBytes_32
      · refine lv_lload_n hx hb d_Coder_firstFourBytes_14 rfl (lv_at hl 1 rfl) ?_
        refine lv_bipush (v := 8) hx hb d_Coder_firstFourBytes_15 (by decide) ?_
        refine lv_lshl hx hb d_Coder_firstFourBytes_17 rfl ?_
        refine lv_topl (fun v_2 ev_2 => ?_)
        refine lv_aload_n hx hb d_Coder_firstFourBytes_18 rfl (lv_at hl 2 rfl) ?_
        refine my_ci (wr := []) (va_runU (As := []) (rest := [Value.long v_2]) ⟨hx, hb, hml, hown, hts⟩ (c_Carries_Coder_nextByte l dC dI cI cM cO H.size co xcache xpending xlow xrange xcode xreadLow xreadRange ri ro rw b9_2 rin ria rik rif (by first | assumption | omega)) (va_cwU 0 hts (my_gU k741 k743 k745 k742 k3 k749) rfl rfl rfl rfl (by decide +kernel) ⟨by rw [hR]; exact Nat.le_of_ble_eq_true rfl, by rw [hR]; exact Nat.le_of_ble_eq_true rfl⟩) (my_preV hK hN (hP.sub [0, 1, 2] rfl) (hD.sub [0, 1, 2] (by decide +kernel) rfl) 0 rfl rfl) rfl rfl hl.1 rfl (lv_room (Nat.le_of_ble_eq_true rfl)) d_Coder_firstFourBytes_19 ⟨by rw [hR]; exact Nat.le_of_ble_eq_true rfl, by rw [hR]; exact Nat.le_of_ble_eq_true rfl⟩) hP hD hS hA [0, 1, 2] [] rfl rfl (by decide +kernel) (by decide +kernel) (fun r_19 u9 H locs hw_19 hP hD hS => ?_)
        obtain ⟨xaskedq_19, rfl⟩ : ∃ z, z = u9 := ⟨_, rfl⟩
        have hPD : my_PD (dC, dI) vwCl A [(co, Sum.inr (1, [Value.int xcache, Value.int xpending, Value.long xlow, Value.long xrange, Value.long xcode, Value.long xreadLow, Value.long xreadRange, Value.ref ri, Value.ref ro, Value.ref rw, Value.int xaskedq_19])), (ri, Sum.inr (0, [Value.int rin, Value.ref ria])), (ria, Sum.inl (cI, rik, Sum.inl rif))] H := ⟨hP, hD⟩
        have hP := hPD.1
        have hD := hPD.2
        refine lv_i2l hx hb d_Coder_firstFourBytes_22 rfl ?_
        refine lv_topl (fun v_3 ev_3 => ?_)
        refine lv_lor hx hb d_Coder_firstFourBytes_23 ?_
        refine lv_topl (fun v_4 ev_4 => ?_)
        refine lv_lstore_n (lv' := [(1, Value.long v_4), (3, Value.int b9_0), (0, Value.ref co)]) hx hb d_Coder_firstFourBytes_24 rfl hl (by decide) rfl (fun ls hl => ?_)
        obtain ⟨v_5, ev_5⟩ : ∃ y : Int32, y = b9_0 + (1) := ⟨_, rfl⟩
        refine lv_iinc (v := v_5) (lv' := [(3, Value.int v_5), (1, Value.long v_4), (0, Value.ref co)]) hx hb d_Coder_firstFourBytes_25 hl (k := 1) rfl (by rw [ev_5]; rfl) (by decide) rfl (fun ls hl => ?_)
        refine lv_goto (tgt := 9) hx hb d_Coder_firstFourBytes_28 (by decide) ?_
        exact ih9_9 _ (by first | omega | (have z9 := I_up c_1 ev_5; omega)) v_5 v_4 xaskedq_19 rfl (by have z9 := I_up c_1 ev_5; omega) H locs ls (hP.sub [0, 1, 2] rfl) (hD.sub [0, 1, 2] (by decide +kernel) rfl) hS (lv_sub hl [0, 1, 2] rfl)
  exact J_9 _ (0 : Int32) (0 : Int64) (0 : Int32) rfl (by first | decide | assumption | omega) H locs ls (hP.sub [0, 1, 2] rfl) (hD.sub [0, 1, 2] (by decide +kernel) rfl) hS (lv_sub hl [0, 1, 2] rfl)
set_option maxHeartbeats 2000000 in
set_option maxRecDepth 100000 in
theorem c_Carries_Coder_hasWidth (l : Launch) (dC : Nat → ClassId) (dI : Nat → Nat → Nat) (cI cM cO : ClassId) (sz : Nat) (co : Nat) (xcache : Int32) (xpending : Int32) (xlow : Int64) (xrange : Int64) (xcode : Int64) (xreadLow : Int64) (xreadRange : Int64) (ri : Nat) (ro : Nat) (rw : Nat) (xasked : Int32) (wd : Int32) : MetI l y_Coder_hasWidth (Cond.code y_Coder_hasWidth prog_4_method_13_code 2 (some .boolean) :: gw) ({ frames := 0, cells := 0, slots := 0, locals := 0 } : Room) (dC, dI) vwCl (kT cI cM cO) [Value.ref co, Value.int wd] [(co, Sum.inr (1, [Value.int xcache, Value.int xpending, Value.long xlow, Value.long xrange, Value.long xcode, Value.long xreadLow, Value.long xreadRange, Value.ref ri, Value.ref ro, Value.ref rw, Value.int xasked]))] sz (fun (r : Int32) (u : Unit) => True) (fun (u : Unit) => [(co, Sum.inr (1, [Value.int xcache, Value.int xpending, Value.long xlow, Value.long xrange, Value.long xcode, Value.long xreadLow, Value.long xreadRange, Value.ref ri, Value.ref ro, Value.ref rw, Value.int xasked]))]) 0 0 := by
  refine my_ofI (cc := prog_4_method_13_code) (n := 2) (ret := (some .boolean)) (by decide) rfl (Nat.le_of_ble_eq_true rfl) ?_
  intro p e s m args below meth c R Q A ls H locs hx hb hr hts hown hlocks hml hnm hR hQ hA hl hP hK hN hD hS
  have hg : ∀ w ∈ gw, w.before args s = true := fun w h => hts w (List.mem_cons_of_mem _ h)
  have hown : s.vm.findClass "RangeCoders$Coder" = some m.cls := hown
  have hl : lv_has ls 2 [(0, Value.ref co), (1, Value.int wd)] := hl
  refine lv_iload_n hx hb d_Coder_hasWidth_0 rfl (lv_at hl 1 rfl) ?_
  refine lv_iconst (v := 1) hx hb d_Coder_hasWidth_1 (by decide) ?_
  refine lv_icmp_lt (tgt := 15) hx hb d_Coder_hasWidth_2 (by decide) (fun c_1 => ?_) (fun c_1 => ?_)
  · refine lv_iconst (v := 0) hx hb d_Coder_hasWidth_15 (by decide) ?_
    exact my_iret (v := 0) hx hb hr (rfl) hlocks hQ hK hS (Nat.le_refl _) (Nat.le_refl _) () (trivial) (hP.sub [0] rfl) (hD.sub [0] (by decide +kernel) rfl) d_Coder_hasWidth_16
  · refine lv_iload_n hx hb d_Coder_hasWidth_5 rfl (lv_at hl 1 rfl) ?_
    refine lv_bipush (v := 12) hx hb d_Coder_hasWidth_6 (by decide) ?_
    refine lv_icmp_gt (tgt := 15) hx hb d_Coder_hasWidth_8 (by decide) (fun c_2 => ?_) (fun c_2 => ?_)
    · refine lv_iconst (v := 0) hx hb d_Coder_hasWidth_15 (by decide) ?_
      exact my_iret (v := 0) hx hb hr (rfl) hlocks hQ hK hS (Nat.le_refl _) (Nat.le_refl _) () (trivial) (hP.sub [0] rfl) (hD.sub [0] (by decide +kernel) rfl) d_Coder_hasWidth_16
    · refine lv_iconst (v := 1) hx hb d_Coder_hasWidth_11 (by decide) ?_
      refine lv_goto (tgt := 16) hx hb d_Coder_hasWidth_12 (by decide) ?_
      exact my_iret (v := 1) hx hb hr (rfl) hlocks hQ hK hS (Nat.le_refl _) (Nat.le_refl _) () (trivial) (hP.sub [0] rfl) (hD.sub [0] (by decide +kernel) rfl) d_Coder_hasWidth_16
set_option maxHeartbeats 2000000 in
set_option maxRecDepth 100000 in
theorem c_Carries_Coder_bytesAsked (l : Launch) (dC : Nat → ClassId) (dI : Nat → Nat → Nat) (cI cM cO : ClassId) (sz : Nat) (co : Nat) (xcache : Int32) (xpending : Int32) (xlow : Int64) (xrange : Int64) (xcode : Int64) (xreadLow : Int64) (xreadRange : Int64) (ri : Nat) (ro : Nat) (rw : Nat) (xasked : Int32) : MetI l y_Coder_bytesAsked (Cond.code y_Coder_bytesAsked prog_4_method_14_code 1 (some .int) :: gw) ({ frames := 0, cells := 0, slots := 0, locals := 0 } : Room) (dC, dI) vwCl (kT cI cM cO) [Value.ref co] [(co, Sum.inr (1, [Value.int xcache, Value.int xpending, Value.long xlow, Value.long xrange, Value.long xcode, Value.long xreadLow, Value.long xreadRange, Value.ref ri, Value.ref ro, Value.ref rw, Value.int xasked]))] sz (fun (r : Int32) (u : Unit) => True) (fun (u : Unit) => [(co, Sum.inr (1, [Value.int xcache, Value.int xpending, Value.long xlow, Value.long xrange, Value.long xcode, Value.long xreadLow, Value.long xreadRange, Value.ref ri, Value.ref ro, Value.ref rw, Value.int xasked]))]) 0 0 := by
  refine my_ofI (cc := prog_4_method_14_code) (n := 1) (ret := (some .int)) (by decide) rfl (Nat.le_of_ble_eq_true rfl) ?_
  intro p e s m args below meth c R Q A ls H locs hx hb hr hts hown hlocks hml hnm hR hQ hA hl hP hK hN hD hS
  have hg : ∀ w ∈ gw, w.before args s = true := fun w h => hts w (List.mem_cons_of_mem _ h)
  have hown : s.vm.findClass "RangeCoders$Coder" = some m.cls := hown
  have hl : lv_has ls 1 [(0, Value.ref co)] := hl
  refine lv_aload_n hx hb d_Coder_bytesAsked_0 rfl (lv_at hl 0 rfl) ?_
  refine va_get (D := (dC, dI)) (ci := 1) (v := .int xasked) (C := "RangeCoders$Carries") (T := T_Carries) (N := 11) hx hb hg in_Carries hown hK hP 0 rfl rfl 10 (by decide) (hg _ k130) (fun _ h9 => h9) rfl d_Coder_bytesAsked_1 ?_
  exact my_iret (v := xasked) hx hb hr (rfl) hlocks hQ hK hS (Nat.le_refl _) (Nat.le_refl _) () (trivial) (hP.sub [0] rfl) (hD.sub [0] (by decide +kernel) rfl) d_Coder_bytesAsked_4
set_option maxHeartbeats 2000000 in
set_option maxRecDepth 100000 in
theorem c_Carries_Carries_widenReading (l : Launch) (dC : Nat → ClassId) (dI : Nat → Nat → Nat) (cI cM cO : ClassId) (sz : Nat) (co : Nat) (xcache : Int32) (xpending : Int32) (xlow : Int64) (xrange : Int64) (xcode : Int64) (xreadLow : Int64) (xreadRange : Int64) (ri : Nat) (ro : Nat) (rw : Nat) (xasked : Int32) (rin : Int32) (ria : Nat) (rik : Nat) (rif : Nat → Int32) (hri : rOk rin rik) : MetV l y_Carries_widenReading (Cond.code y_Carries_widenReading prog_3_method_7_code 2 none :: gw) ({ frames := 3, cells := 0, slots := 0, locals := 63 } : Room) (dC, dI) vwCl (kT cI cM cO) [Value.ref co] [(co, Sum.inr (1, [Value.int xcache, Value.int xpending, Value.long xlow, Value.long xrange, Value.long xcode, Value.long xreadLow, Value.long xreadRange, Value.ref ri, Value.ref ro, Value.ref rw, Value.int xasked])), (ri, Sum.inr (0, [Value.int rin, Value.ref ria])), (ria, Sum.inl (cI, rik, Sum.inl rif))] sz (fun (u : Int64 × Int64 × Int32) => True) (fun (u : Int64 × Int64 × Int32) => [(co, Sum.inr (1, [Value.int xcache, Value.int xpending, Value.long xlow, Value.long xrange, Value.long u.1, Value.long xreadLow, Value.long u.2.1, Value.ref ri, Value.ref ro, Value.ref rw, Value.int u.2.2])), (ri, Sum.inr (0, [Value.int rin, Value.ref ria])), (ria, Sum.inl (cI, rik, Sum.inl rif))]) 0 0 := by
  refine my_ofV (cc := prog_3_method_7_code) (n := 2) (ret := none) (by decide) rfl (Nat.le_of_ble_eq_true rfl) ?_
  intro p e s m args below meth c R Q A ls H locs hx hb hr hts hown hlocks hml hnm hR hQ hA hl hP hK hN hD hS
  have hg : ∀ w ∈ gw, w.before args s = true := fun w h => hts w (List.mem_cons_of_mem _ h)
  have hown : s.vm.findClass "RangeCoders$Carries" = some m.cls := hown
  have hl : lv_has ls 2 [(0, Value.ref co)] := hl
  have hlt_hri := rOk_lt hri
  refine lv_iconst (v := 0) hx hb d_Carries_widenReading_0 (by decide) ?_
  refine lv_istore_n (lv' := [(1, Value.int 0), (0, Value.ref co)]) hx hb d_Carries_widenReading_1 rfl hl (by decide) rfl (fun ls hl => ?_)
  have J_2 : ∀ (n9_2 : Nat) (b2_0 : Int32) (b2_1 : Int64) (b2_2 : Int64) (b2_3 : Int32) (hn9_2 : ((8 : Int32).toInt - b2_0.toInt).toNat = n9_2) (hi_2 : 0 ≤ b2_0.toInt) (H : Heap) (locs : List Loc) (ls : Array Slot), va_P (dC, dI) vwCl [(co, Sum.inr (1, [Value.int xcache, Value.int xpending, Value.long xlow, Value.long xrange, Value.long b2_1, Value.long xreadLow, Value.long b2_2, Value.ref ri, Value.ref ro, Value.ref rw, Value.int b2_3])), (ri, Sum.inr (0, [Value.int rin, Value.ref ria])), (ria, Sum.inl (cI, rik, Sum.inl rif))] H → va_D A [(co, Sum.inr (1, [Value.int xcache, Value.int xpending, Value.long xlow, Value.long xrange, Value.long b2_1, Value.long xreadLow, Value.long b2_2, Value.ref ri, Value.ref ro, Value.ref rw, Value.int b2_3])), (ri, Sum.inr (0, [Value.int rin, Value.ref ria])), (ria, Sum.inl (cI, rik, Sum.inl rif))] → va_S A s.heap H locs → lv_has ls 2 [(1, Value.int b2_0), (0, Value.ref co)] → W p l e R s m args below meth c H locs 0 0 Q (F0 m 2 ls []) := by
    intro n9_2
    induction n9_2 using Nat.strongRecOn with
    | ind n9_2 ih9_2 =>
      intro b2_0 b2_1 b2_2 b2_3 hn9_2 hi_2 H locs ls hP hD hS hl
      refine lv_iload_n hx hb d_Carries_widenReading_2 rfl (lv_at hl 0 rfl) ?_
      refine lv_bipush (v := 8) hx hb d_Carries_widenReading_3 (by decide) ?_
      refine lv_icmp_ge (tgt := 61) hx hb d_Carries_widenReading_5 (by decide) (fun c_1 => ?_) (fun c_1 => ?_)
      · exact my_vret hx hb hr hlocks hQ hK hS (Nat.le_refl _) (Nat.le_refl _) (b2_1, b2_2, b2_3) (trivial) (hP.sub [0, 1, 2] rfl) (hD.sub [0, 1, 2] (by decide +kernel) rfl) d_Carries_widenReading_61
      · refine lv_aload_n hx hb d_Carries_widenReading_8 rfl (lv_at hl 1 rfl) ?_
        refine va_get (D := (dC, dI)) (ci := 1) (v := .long b2_2) (C := "RangeCoders$Carries") (T := T_Carries) (N := 11) hx hb hg in_Carries hown hK hP 0 rfl rfl 6 (by decide) (hg _ k96) (fun x9 h9 => u_same (hg _ k97) x9 h9) rfl d_Carries_widenReading_9 ?_
        refine lv_ldc2 (v := 16777216) hx hb hown (hg _ k461) d_Carries_widenReading_12 ?_
        refine W.lcmp hx hb d_Carries_widenReading_15 ?_
        refine lv_if_ge (tgt := 61) hx hb d_Carries_widenReading_16 (by decide) (fun c_2 => ?_) (fun c_2 => ?_)
        · rw [lg_cmp_ge] at c_2
          exact my_vret hx hb hr hlocks hQ hK hS (Nat.le_refl _) (Nat.le_refl _) (b2_1, b2_2, b2_3) (trivial) (hP.sub [0, 1, 2] rfl) (hD.sub [0, 1, 2] (by decide +kernel) rfl) d_Carries_widenReading_61
        · rw [lg_cmp_ge] at c_2
          refine lv_aload_n hx hb d_Carries_widenReading_19 rfl (lv_at hl 1 rfl) ?_
          refine lv_aload_n hx hb d_Carries_widenReading_20 rfl (lv_at hl 1 rfl) ?_
          refine va_get (D := (dC, dI)) (ci := 1) (v := .long b2_2) (C := "RangeCoders$Carries") (T := T_Carries) (N := 11) hx hb hg in_Carries hown hK hP 0 rfl rfl 6 (by decide) (hg _ k96) (fun x9 h9 => u_same (hg _ k97) x9 h9) rfl d_Carries_widenReading_21 ?_
          refine lv_bipush (v := 8) hx hb d_Carries_widenReading_24 (by decide) ?_
          refine lv_lshl hx hb d_Carries_widenReading_26 rfl ?_
          refine lv_topl (fun v_3 ev_3 => ?_)
          refine lv_ldc2 (v := 4294967295) hx hb hown (hg _ k462) d_Carries_widenReading_27 ?_
          refine lv_land hx hb d_Carries_widenReading_30 ?_
          refine lv_topl (fun v_4 ev_4 => ?_)
          refine va_put (D := (dC, dI)) (ci := 1) (v := .long v_4) (ty := .long) (C := "RangeCoders$Carries") (T := T_Carries) (N := 11) hx hb hg in_Carries t_Carries o_Carries n_Carries hown hK hP hD hS 0 rfl rfl 6 (by decide) (hg _ k96) (fun x9 h9 => u_same (hg _ k97) x9 h9) rfl (o_Carries 6 (by decide)) rfl rfl (Nat.le_of_ble_eq_true rfl) d_Carries_widenReading_31 (fun H locs hP hD hS => ?_)
          have hPD : my_PD (dC, dI) vwCl A [(co, Sum.inr (1, [Value.int xcache, Value.int xpending, Value.long xlow, Value.long xrange, Value.long b2_1, Value.long xreadLow, Value.long v_4, Value.ref ri, Value.ref ro, Value.ref rw, Value.int b2_3])), (ri, Sum.inr (0, [Value.int rin, Value.ref ria])), (ria, Sum.inl (cI, rik, Sum.inl rif))] H := ⟨hP, hD⟩
          have hP := hPD.1
          have hD := hPD.2
          refine lv_aload_n hx hb d_Carries_widenReading_34 rfl (lv_at hl 1 rfl) ?_
          refine lv_aload_n hx hb d_Carries_widenReading_35 rfl (lv_at hl 1 rfl) ?_
          refine va_get (D := (dC, dI)) (ci := 1) (v := .long b2_1) (C := "RangeCoders$Carries") (T := T_Carries) (N := 11) hx hb hg in_Carries hown hK hP 0 rfl rfl 4 (by decide) (hg _ k86) (fun x9 h9 => u_same (hg _ k87) x9 h9) rfl d_Carries_widenReading_36 ?_
          refine lv_bipush (v := 8) hx hb d_Carries_widenReading_39 (by decide) ?_
          refine lv_lshl hx hb d_Carries_widenReading_41 rfl ?_
          refine lv_topl (fun v_5 ev_5 => ?_)
          refine lv_aload_n hx hb d_Carries_widenReading_42 rfl (lv_at hl 1 rfl) ?_
          refine my_ci (wr := []) (va_runU (As := []) (rest := [Value.long v_5, Value.ref co]) ⟨hx, hb, hml, hown, hts⟩ (c_Carries_Coder_nextByte l dC dI cI cM cO H.size co xcache xpending xlow xrange b2_1 xreadLow v_4 ri ro rw b2_3 rin ria rik rif (by first | assumption | omega)) (va_cwU 0 hts (my_gU k795 k796 k799 k742 k3 k749) rfl rfl rfl rfl (by decide +kernel) ⟨by rw [hR]; exact Nat.le_of_ble_eq_true rfl, by rw [hR]; exact Nat.le_of_ble_eq_true rfl⟩) (my_preV hK hN (hP.sub [0, 1, 2] rfl) (hD.sub [0, 1, 2] (by decide +kernel) rfl) 0 rfl rfl) rfl rfl hl.1 rfl (lv_room (Nat.le_of_ble_eq_true rfl)) d_Carries_widenReading_43 ⟨by rw [hR]; exact Nat.le_of_ble_eq_true rfl, by rw [hR]; exact Nat.le_of_ble_eq_true rfl⟩) hP hD hS hA [0, 1, 2] [] rfl rfl (by decide +kernel) (by decide +kernel) (fun r_43 u9 H locs hw_43 hP hD hS => ?_)
          obtain ⟨xaskedq_43, rfl⟩ : ∃ z, z = u9 := ⟨_, rfl⟩
          have hPD : my_PD (dC, dI) vwCl A [(co, Sum.inr (1, [Value.int xcache, Value.int xpending, Value.long xlow, Value.long xrange, Value.long b2_1, Value.long xreadLow, Value.long v_4, Value.ref ri, Value.ref ro, Value.ref rw, Value.int xaskedq_43])), (ri, Sum.inr (0, [Value.int rin, Value.ref ria])), (ria, Sum.inl (cI, rik, Sum.inl rif))] H := ⟨hP, hD⟩
          have hP := hPD.1
          have hD := hPD.2
          refine lv_i2l hx hb d_Carries_widenReading_46 rfl ?_
          refine lv_topl (fun v_6 ev_6 => ?_)
          refine lv_lor hx hb d_Carries_widenReading_47 ?_
          refine lv_topl (fun v_7 ev_7 => ?_)
          refine lv_ldc2 (v := 4294967295) hx hb hown (hg _ k462) d_Carries_widenReading_48 ?_
          refine lv_land hx hb d_Carries_widenReading_51 ?_
          refine lv_topl (fun v_8 ev_8 => ?_)
          refine va_put (D := (dC, dI)) (ci := 1) (v := .long v_8) (ty := .long) (C := "RangeCoders$Carries") (T := T_Carries) (N := 11) hx hb hg in_Carries t_Carries o_Carries n_Carries hown hK hP hD hS 0 rfl rfl 4 (by decide) (hg _ k86) (fun x9 h9 => u_same (hg _ k87) x9 h9) rfl (o_Carries 4 (by decide)) rfl rfl (Nat.le_of_ble_eq_true rfl) d_Carries_widenReading_52 (fun H locs hP hD hS => ?_)
          have hPD : my_PD (dC, dI) vwCl A [(co, Sum.inr (1, [Value.int xcache, Value.int xpending, Value.long xlow, Value.long xrange, Value.long v_8, Value.long xreadLow, Value.long v_4, Value.ref ri, Value.ref ro, Value.ref rw, Value.int xaskedq_43])), (ri, Sum.inr (0, [Value.int rin, Value.ref ria])), (ria, Sum.inl (cI, rik, Sum.inl rif))] H := ⟨hP, hD⟩
          have hP := hPD.1
          have hD := hPD.2
          obtain ⟨v_9, ev_9⟩ : ∃ y : Int32, y = b2_0 + (1) := ⟨_, rfl⟩
          refine lv_iinc (v := v_9) (lv' := [(1, Value.int v_9), (0, Value.ref co)]) hx hb d_Carries_widenReading_55 hl (k := 0) rfl (by rw [ev_9]; rfl) (by decide) rfl (fun ls hl => ?_)
          refine lv_goto (tgt := 2) hx hb d_Carries_widenReading_58 (by decide) ?_
          exact ih9_2 _ (by first | omega | (have z9 := I_up c_1 ev_9; omega)) v_9 v_8 v_4 xaskedq_43 rfl (by have z9 := I_up c_1 ev_9; omega) H locs ls (hP.sub [0, 1, 2] rfl) (hD.sub [0, 1, 2] (by decide +kernel) rfl) hS (lv_sub hl [0, 1] rfl)
  exact J_2 _ (0 : Int32) xcode xreadRange xasked rfl (by first | decide | assumption | omega) H locs ls (hP.sub [0, 1, 2] rfl) (hD.sub [0, 1, 2] (by decide +kernel) rfl) hS (lv_sub hl [0, 1] rfl)
set_option maxHeartbeats 2000000 in
set_option maxRecDepth 100000 in
theorem c_Carries_Carries_readPart (l : Launch) (dC : Nat → ClassId) (dI : Nat → Nat → Nat) (cI cM cO : ClassId) (sz : Nat) (co : Nat) (xcache : Int32) (xpending : Int32) (xlow : Int64) (xrange : Int64) (xcode : Int64) (xreadLow : Int64) (xreadRange : Int64) (ri : Nat) (ro : Nat) (rw : Nat) (xasked : Int32) (rin : Int32) (ria : Nat) (rik : Nat) (rif : Nat → Int32) (pf : Int32) (pcc : Int32) (pt : Int32) (hri : rOk rin rik) : MetV l y_Carries_readPart (Cond.code y_Carries_readPart prog_3_method_4_code 6 none :: gw) ({ frames := 4, cells := 0, slots := 0, locals := 84 } : Room) (dC, dI) vwCl (kT cI cM cO) [Value.ref co, Value.int pf, Value.int pcc, Value.int pt] [(co, Sum.inr (1, [Value.int xcache, Value.int xpending, Value.long xlow, Value.long xrange, Value.long xcode, Value.long xreadLow, Value.long xreadRange, Value.ref ri, Value.ref ro, Value.ref rw, Value.int xasked])), (ri, Sum.inr (0, [Value.int rin, Value.ref ria])), (ria, Sum.inl (cI, rik, Sum.inl rif))] sz (fun (u : Int64 × Int64 × Int32) => True) (fun (u : Int64 × Int64 × Int32) => [(co, Sum.inr (1, [Value.int xcache, Value.int xpending, Value.long xlow, Value.long xrange, Value.long u.1, Value.long xreadLow, Value.long u.2.1, Value.ref ri, Value.ref ro, Value.ref rw, Value.int u.2.2])), (ri, Sum.inr (0, [Value.int rin, Value.ref ria])), (ria, Sum.inl (cI, rik, Sum.inl rif))]) 0 0 := by
  refine my_ofV (cc := prog_3_method_4_code) (n := 6) (ret := none) (by decide) rfl (Nat.le_of_ble_eq_true rfl) ?_
  intro p e s m args below meth c R Q A ls H locs hx hb hr hts hown hlocks hml hnm hR hQ hA hl hP hK hN hD hS
  have hg : ∀ w ∈ gw, w.before args s = true := fun w h => hts w (List.mem_cons_of_mem _ h)
  have hown : s.vm.findClass "RangeCoders$Carries" = some m.cls := hown
  have hl : lv_has ls 6 [(0, Value.ref co), (1, Value.int pf), (2, Value.int pcc), (3, Value.int pt)] := hl
  have hlt_hri := rOk_lt hri
  refine lv_iload_n hx hb d_Carries_readPart_0 rfl (lv_at hl 3 rfl) ?_
  refine lv_if_le (tgt := 14) hx hb d_Carries_readPart_1 (by decide) (fun c_1 => ?_) (fun c_1 => ?_)
  · refine lv_lconst (v := 0) hx hb d_Carries_readPart_14 (by decide) ?_
    refine lv_lstore (lv' := [(4, Value.long 0), (0, Value.ref co), (1, Value.int pf), (2, Value.int pcc), (3, Value.int pt)]) hx hb d_Carries_readPart_15 hl (by decide) rfl (fun ls hl => ?_)
    refine lv_aload_n hx hb d_Carries_readPart_17 rfl (lv_at hl 1 rfl) ?_
    refine lv_dup hx hb d_Carries_readPart_18 rfl ?_
    refine va_get (D := (dC, dI)) (ci := 1) (v := .long xcode) (C := "RangeCoders$Carries") (T := T_Carries) (N := 11) hx hb hg in_Carries hown hK hP 0 rfl rfl 4 (by decide) (hg _ k86) (fun x9 h9 => u_same (hg _ k87) x9 h9) rfl d_Carries_readPart_19 ?_
    refine lv_lload hx hb d_Carries_readPart_22 (lv_at hl 0 rfl) ?_
    refine lv_iload_n hx hb d_Carries_readPart_24 rfl (lv_at hl 3 rfl) ?_
    refine lv_i2l hx hb d_Carries_readPart_25 rfl ?_
    refine lv_topl (fun v_2 ev_2 => ?_)
    refine lv_lmul hx hb d_Carries_readPart_26 ?_
    refine lv_topl (fun v_3 ev_3 => ?_)
    refine lv_lsub hx hb d_Carries_readPart_27 ?_
    refine lv_topl (fun v_4 ev_4 => ?_)
    refine va_put (D := (dC, dI)) (ci := 1) (v := .long v_4) (ty := .long) (C := "RangeCoders$Carries") (T := T_Carries) (N := 11) hx hb hg in_Carries t_Carries o_Carries n_Carries hown hK hP hD hS 0 rfl rfl 4 (by decide) (hg _ k86) (fun x9 h9 => u_same (hg _ k87) x9 h9) rfl (o_Carries 4 (by decide)) rfl rfl (Nat.le_of_ble_eq_true rfl) d_Carries_readPart_28 (fun H locs hP hD hS => ?_)
    have hPD : my_PD (dC, dI) vwCl A [(co, Sum.inr (1, [Value.int xcache, Value.int xpending, Value.long xlow, Value.long xrange, Value.long v_4, Value.long xreadLow, Value.long xreadRange, Value.ref ri, Value.ref ro, Value.ref rw, Value.int xasked])), (ri, Sum.inr (0, [Value.int rin, Value.ref ria])), (ria, Sum.inl (cI, rik, Sum.inl rif))] H := ⟨hP, hD⟩
    have hP := hPD.1
    have hD := hPD.2
    refine lv_aload_n hx hb d_Carries_readPart_31 rfl (lv_at hl 1 rfl) ?_
    refine lv_lload hx hb d_Carries_readPart_32 (lv_at hl 0 rfl) ?_
    refine lv_iload_n hx hb d_Carries_readPart_34 rfl (lv_at hl 2 rfl) ?_
    refine lv_i2l hx hb d_Carries_readPart_35 rfl ?_
    refine lv_topl (fun v_5 ev_5 => ?_)
    refine lv_lmul hx hb d_Carries_readPart_36 ?_
    refine lv_topl (fun v_6 ev_6 => ?_)
    refine va_put (D := (dC, dI)) (ci := 1) (v := .long v_6) (ty := .long) (C := "RangeCoders$Carries") (T := T_Carries) (N := 11) hx hb hg in_Carries t_Carries o_Carries n_Carries hown hK hP hD hS 0 rfl rfl 6 (by decide) (hg _ k96) (fun x9 h9 => u_same (hg _ k97) x9 h9) rfl (o_Carries 6 (by decide)) rfl rfl (Nat.le_of_ble_eq_true rfl) d_Carries_readPart_37 (fun H locs hP hD hS => ?_)
    have hPD : my_PD (dC, dI) vwCl A [(co, Sum.inr (1, [Value.int xcache, Value.int xpending, Value.long xlow, Value.long xrange, Value.long v_4, Value.long xreadLow, Value.long v_6, Value.ref ri, Value.ref ro, Value.ref rw, Value.int xasked])), (ri, Sum.inr (0, [Value.int rin, Value.ref ria])), (ria, Sum.inl (cI, rik, Sum.inl rif))] H := ⟨hP, hD⟩
    have hP := hPD.1
    have hD := hPD.2
    refine lv_aload_n hx hb d_Carries_readPart_40 rfl (lv_at hl 1 rfl) ?_
    refine my_cv (wr := []) (va_runV (As := []) (rest := []) ⟨hx, hb, hml, hown, hts⟩ (c_Carries_Carries_widenReading l dC dI cI cM cO H.size co xcache xpending xlow xrange v_4 xreadLow v_6 ri ro rw xasked rin ria rik rif (by first | assumption | omega)) (cwV 0 hts (my_gV k821 k793 k1292 k5 k794) rfl rfl rfl cu_Carries_widenReading_0 ⟨by rw [hR]; exact Nat.le_of_ble_eq_true rfl, by rw [hR]; exact Nat.le_of_ble_eq_true rfl⟩) (my_preV hK hN (hP.sub [0, 1, 2] rfl) (hD.sub [0, 1, 2] (by decide +kernel) rfl) 0 rfl rfl) rfl rfl hl.1 rfl (lv_room (Nat.le_of_ble_eq_true rfl)) d_Carries_readPart_41 ⟨by rw [hR]; exact Nat.le_of_ble_eq_true rfl, by rw [hR]; exact Nat.le_of_ble_eq_true rfl⟩) hP hD hS hA [0, 1, 2] [] rfl rfl (by decide +kernel) (by decide +kernel) (fun u9 H locs hw_41 hP hD hS => ?_)
    obtain ⟨xcodeq_41, xreadRangeq_41, xaskedq_41⟩ := u9
    have hPD : my_PD (dC, dI) vwCl A [(co, Sum.inr (1, [Value.int xcache, Value.int xpending, Value.long xlow, Value.long xrange, Value.long xcodeq_41, Value.long xreadLow, Value.long xreadRangeq_41, Value.ref ri, Value.ref ro, Value.ref rw, Value.int xaskedq_41])), (ri, Sum.inr (0, [Value.int rin, Value.ref ria])), (ria, Sum.inl (cI, rik, Sum.inl rif))] H := ⟨hP, hD⟩
    have hP := hPD.1
    have hD := hPD.2
    exact my_vret hx hb hr hlocks hQ hK hS (Nat.le_refl _) (Nat.le_refl _) (xcodeq_41, xreadRangeq_41, xaskedq_41) (trivial) (hP.sub [0, 1, 2] rfl) (hD.sub [0, 1, 2] (by decide +kernel) rfl) d_Carries_readPart_44
  · refine lv_aload_n hx hb d_Carries_readPart_4 rfl (lv_at hl 0 rfl) ?_
    refine va_get (D := (dC, dI)) (ci := 1) (v := .long xreadRange) (C := "RangeCoders$Carries") (T := T_Carries) (N := 11) hx hb hg in_Carries hown hK hP 0 rfl rfl 6 (by decide) (hg _ k96) (fun x9 h9 => u_same (hg _ k97) x9 h9) rfl d_Carries_readPart_5 ?_
    refine lv_iload_n hx hb d_Carries_readPart_8 rfl (lv_at hl 3 rfl) ?_
    refine lv_i2l hx hb d_Carries_readPart_9 rfl ?_
    refine lv_topl (fun v_7 ev_7 => ?_)
    refine lv_ldiv hx hb d_Carries_readPart_10 (by rw [ev_7]; first | exact L_nzi (by assumption) | exact L_nzip (by assumption)) ?_
    refine lv_topl (fun v_8 ev_8 => ?_)
    refine lv_goto (tgt := 15) hx hb d_Carries_readPart_11 (by decide) ?_
    refine lv_lstore (lv' := [(4, Value.long v_8), (0, Value.ref co), (1, Value.int pf), (2, Value.int pcc), (3, Value.int pt)]) hx hb d_Carries_readPart_15 hl (by decide) rfl (fun ls hl => ?_)
    refine lv_aload_n hx hb d_Carries_readPart_17 rfl (lv_at hl 1 rfl) ?_
    refine lv_dup hx hb d_Carries_readPart_18 rfl ?_
    refine va_get (D := (dC, dI)) (ci := 1) (v := .long xcode) (C := "RangeCoders$Carries") (T := T_Carries) (N := 11) hx hb hg in_Carries hown hK hP 0 rfl rfl 4 (by decide) (hg _ k86) (fun x9 h9 => u_same (hg _ k87) x9 h9) rfl d_Carries_readPart_19 ?_
    refine lv_lload hx hb d_Carries_readPart_22 (lv_at hl 0 rfl) ?_
    refine lv_iload_n hx hb d_Carries_readPart_24 rfl (lv_at hl 3 rfl) ?_
    refine lv_i2l hx hb d_Carries_readPart_25 rfl ?_
    refine lv_topl (fun v_9 ev_9 => ?_)
    refine lv_lmul hx hb d_Carries_readPart_26 ?_
    refine lv_topl (fun v_10 ev_10 => ?_)
    refine lv_lsub hx hb d_Carries_readPart_27 ?_
    refine lv_topl (fun v_11 ev_11 => ?_)
    refine va_put (D := (dC, dI)) (ci := 1) (v := .long v_11) (ty := .long) (C := "RangeCoders$Carries") (T := T_Carries) (N := 11) hx hb hg in_Carries t_Carries o_Carries n_Carries hown hK hP hD hS 0 rfl rfl 4 (by decide) (hg _ k86) (fun x9 h9 => u_same (hg _ k87) x9 h9) rfl (o_Carries 4 (by decide)) rfl rfl (Nat.le_of_ble_eq_true rfl) d_Carries_readPart_28 (fun H locs hP hD hS => ?_)
    have hPD : my_PD (dC, dI) vwCl A [(co, Sum.inr (1, [Value.int xcache, Value.int xpending, Value.long xlow, Value.long xrange, Value.long v_11, Value.long xreadLow, Value.long xreadRange, Value.ref ri, Value.ref ro, Value.ref rw, Value.int xasked])), (ri, Sum.inr (0, [Value.int rin, Value.ref ria])), (ria, Sum.inl (cI, rik, Sum.inl rif))] H := ⟨hP, hD⟩
    have hP := hPD.1
    have hD := hPD.2
    refine lv_aload_n hx hb d_Carries_readPart_31 rfl (lv_at hl 1 rfl) ?_
    refine lv_lload hx hb d_Carries_readPart_32 (lv_at hl 0 rfl) ?_
    refine lv_iload_n hx hb d_Carries_readPart_34 rfl (lv_at hl 2 rfl) ?_
    refine lv_i2l hx hb d_Carries_readPart_35 rfl ?_
    refine lv_topl (fun v_12 ev_12 => ?_)
    refine lv_lmul hx hb d_Carries_readPart_36 ?_
    refine lv_topl (fun v_13 ev_13 => ?_)
    refine va_put (D := (dC, dI)) (ci := 1) (v := .long v_13) (ty := .long) (C := "RangeCoders$Carries") (T := T_Carries) (N := 11) hx hb hg in_Carries t_Carries o_Carries n_Carries hown hK hP hD hS 0 rfl rfl 6 (by decide) (hg _ k96) (fun x9 h9 => u_same (hg _ k97) x9 h9) rfl (o_Carries 6 (by decide)) rfl rfl (Nat.le_of_ble_eq_true rfl) d_Carries_readPart_37 (fun H locs hP hD hS => ?_)
    have hPD : my_PD (dC, dI) vwCl A [(co, Sum.inr (1, [Value.int xcache, Value.int xpending, Value.long xlow, Value.long xrange, Value.long v_11, Value.long xreadLow, Value.long v_13, Value.ref ri, Value.ref ro, Value.ref rw, Value.int xasked])), (ri, Sum.inr (0, [Value.int rin, Value.ref ria])), (ria, Sum.inl (cI, rik, Sum.inl rif))] H := ⟨hP, hD⟩
    have hP := hPD.1
    have hD := hPD.2
    refine lv_aload_n hx hb d_Carries_readPart_40 rfl (lv_at hl 1 rfl) ?_
    refine my_cv (wr := []) (va_runV (As := []) (rest := []) ⟨hx, hb, hml, hown, hts⟩ (c_Carries_Carries_widenReading l dC dI cI cM cO H.size co xcache xpending xlow xrange v_11 xreadLow v_13 ri ro rw xasked rin ria rik rif (by first | assumption | omega)) (cwV 0 hts (my_gV k821 k793 k1292 k5 k794) rfl rfl rfl cu_Carries_widenReading_0 ⟨by rw [hR]; exact Nat.le_of_ble_eq_true rfl, by rw [hR]; exact Nat.le_of_ble_eq_true rfl⟩) (my_preV hK hN (hP.sub [0, 1, 2] rfl) (hD.sub [0, 1, 2] (by decide +kernel) rfl) 0 rfl rfl) rfl rfl hl.1 rfl (lv_room (Nat.le_of_ble_eq_true rfl)) d_Carries_readPart_41 ⟨by rw [hR]; exact Nat.le_of_ble_eq_true rfl, by rw [hR]; exact Nat.le_of_ble_eq_true rfl⟩) hP hD hS hA [0, 1, 2] [] rfl rfl (by decide +kernel) (by decide +kernel) (fun u9 H locs hw_41 hP hD hS => ?_)
    obtain ⟨xcodeq_41, xreadRangeq_41, xaskedq_41⟩ := u9
    have hPD : my_PD (dC, dI) vwCl A [(co, Sum.inr (1, [Value.int xcache, Value.int xpending, Value.long xlow, Value.long xrange, Value.long xcodeq_41, Value.long xreadLow, Value.long xreadRangeq_41, Value.ref ri, Value.ref ro, Value.ref rw, Value.int xaskedq_41])), (ri, Sum.inr (0, [Value.int rin, Value.ref ria])), (ria, Sum.inl (cI, rik, Sum.inl rif))] H := ⟨hP, hD⟩
    have hP := hPD.1
    have hD := hPD.2
    exact my_vret hx hb hr hlocks hQ hK hS (Nat.le_refl _) (Nat.le_refl _) (xcodeq_41, xreadRangeq_41, xaskedq_41) (trivial) (hP.sub [0, 1, 2] rfl) (hD.sub [0, 1, 2] (by decide +kernel) rfl) d_Carries_readPart_44
set_option maxHeartbeats 2000000 in
set_option maxRecDepth 100000 in
theorem c_Carries_Ranged_prepare (l : Launch) (dC : Nat → ClassId) (dI : Nat → Nat → Nat) (cI cM cO : ClassId) (sz : Nat) (co : Nat) (xcache : Int32) (xpending : Int32) (xlow : Int64) (xrange : Int64) (xcode : Int64) (xreadLow : Int64) (xreadRange : Int64) (ri : Nat) (ro : Nat) (rw : Nat) (xasked : Int32) (oo : Nat) (osg : Int32) (osm : Int32) (ofc : Int32) (oca : Nat) (opa : Nat) (ol : Nat) (ocf : Nat → Int32) (opl : Nat) (opf : Nat → Int32) (ka : Nat) (kl : Nat) (kf : Nat → Int32) (hol : ol ≤ 64) (hopl : opl ≤ 512) (hkl : kl ≤ 64) : MetV l y_Ranged_prepare (Cond.code y_Ranged_prepare prog_8_method_5_code 3 none :: gw) ({ frames := 2, cells := 0, slots := 0, locals := 44 } : Room) (dC, dI) vwCl (kT cI cM cO) [Value.ref co, Value.ref oo, Value.ref ka] [(co, Sum.inr (1, [Value.int xcache, Value.int xpending, Value.long xlow, Value.long xrange, Value.long xcode, Value.long xreadLow, Value.long xreadRange, Value.ref ri, Value.ref ro, Value.ref rw, Value.int xasked])), (oo, Sum.inr (7, [Value.int osg, Value.int osm, Value.int ofc, Value.ref oca, Value.ref opa])), (oca, Sum.inl (cI, ol, Sum.inl ocf)), (opa, Sum.inl (cI, opl, Sum.inl opf)), (ka, Sum.inl (cI, kl, Sum.inl kf))] sz (fun (u : Int32 × (Nat → Int32)) => True) (fun (u : Int32 × (Nat → Int32)) => [(co, Sum.inr (1, [Value.int xcache, Value.int xpending, Value.long xlow, Value.long xrange, Value.long xcode, Value.long xreadLow, Value.long xreadRange, Value.ref ri, Value.ref ro, Value.ref rw, Value.int xasked])), (oo, Sum.inr (7, [Value.int osg, Value.int u.1, Value.int ofc, Value.ref oca, Value.ref opa])), (oca, Sum.inl (cI, ol, Sum.inl u.2)), (opa, Sum.inl (cI, opl, Sum.inl opf)), (ka, Sum.inl (cI, kl, Sum.inl kf))]) 0 0 := by
  refine my_ofV (cc := prog_8_method_5_code) (n := 3) (ret := none) (by decide) rfl (Nat.le_of_ble_eq_true rfl) ?_
  intro p e s m args below meth c R Q A ls H locs hx hb hr hts hown hlocks hml hnm hR hQ hA hl hP hK hN hD hS
  have hg : ∀ w ∈ gw, w.before args s = true := fun w h => hts w (List.mem_cons_of_mem _ h)
  have hown : s.vm.findClass "RangeCoders$Ranged" = some m.cls := hown
  have hl : lv_has ls 3 [(0, Value.ref co), (1, Value.ref oo), (2, Value.ref ka)] := hl
  refine lv_aload_n hx hb d_Ranged_prepare_0 rfl (lv_at hl 1 rfl) ?_
  refine lv_aload_n hx hb d_Ranged_prepare_1 rfl (lv_at hl 2 rfl) ?_
  refine my_cv (wr := [(co, Sum.inr (1, [Value.int xcache, Value.int xpending, Value.long xlow, Value.long xrange, Value.long xcode, Value.long xreadLow, Value.long xreadRange, Value.ref ri, Value.ref ro, Value.ref rw, Value.int xasked]))]) (va_runV (As := [Value.ref ka]) (rest := []) ⟨hx, hb, hml, hown, hts⟩ (c_Odds_fromCounts l dC dI cI cM cO H.size oo osg osm ofc oca opa ol ocf opl opf ka kl kf (by first | assumption | omega) (by first | assumption | omega) (by first | assumption | omega)) (cwV 1 hts (my_gV k367 k368 k369 k14 k370) rfl rfl rfl cu_Odds_fromCounts_1 ⟨by rw [hR]; exact Nat.le_of_ble_eq_true rfl, by rw [hR]; exact Nat.le_of_ble_eq_true rfl⟩) (my_preV hK hN (hP.sub [1, 2, 3, 4] rfl) (hD.sub [1, 2, 3, 4] (by decide +kernel) rfl) 0 rfl rfl) rfl rfl hl.1 rfl (lv_room (Nat.le_of_ble_eq_true rfl)) d_Ranged_prepare_2 ⟨by rw [hR]; exact Nat.le_of_ble_eq_true rfl, by rw [hR]; exact Nat.le_of_ble_eq_true rfl⟩) hP hD hS hA [1, 2, 3, 4] [0] rfl rfl (by decide +kernel) (by decide +kernel) (fun u9 H locs hw_2 hP hD hS => ?_)
  obtain ⟨osmq_2, ocfq_2⟩ := u9
  have hPD : my_PD (dC, dI) vwCl A [(co, Sum.inr (1, [Value.int xcache, Value.int xpending, Value.long xlow, Value.long xrange, Value.long xcode, Value.long xreadLow, Value.long xreadRange, Value.ref ri, Value.ref ro, Value.ref rw, Value.int xasked])), (oo, Sum.inr (7, [Value.int osg, Value.int osmq_2, Value.int ofc, Value.ref oca, Value.ref opa])), (oca, Sum.inl (cI, ol, Sum.inl ocfq_2)), (opa, Sum.inl (cI, opl, Sum.inl opf)), (ka, Sum.inl (cI, kl, Sum.inl kf))] H := ⟨hP, hD⟩
  have hP := hPD.1
  have hD := hPD.2
  exact my_vret hx hb hr hlocks hQ hK hS (Nat.le_refl _) (Nat.le_refl _) (osmq_2, ocfq_2) (trivial) (hP.sub [0, 1, 2, 3, 4] rfl) (hD.sub [0, 1, 2, 3, 4] (by decide +kernel) rfl) d_Ranged_prepare_5
set_option maxHeartbeats 2000000 in
set_option maxRecDepth 100000 in
theorem c_Carries_Ranged_nextShare (l : Launch) (dC : Nat → ClassId) (dI : Nat → Nat → Nat) (cI cM cO : ClassId) (sz : Nat) (co : Nat) (xcache : Int32) (xpending : Int32) (xlow : Int64) (xrange : Int64) (xcode : Int64) (xreadLow : Int64) (xreadRange : Int64) (ri : Nat) (ro : Nat) (rw : Nat) (xasked : Int32) (pt : Int32) : MetI l y_Ranged_nextShare (Cond.code y_Ranged_nextShare prog_8_method_14_code 6 (some .int) :: gw) ({ frames := 0, cells := 0, slots := 0, locals := 0 } : Room) (dC, dI) vwCl (kT cI cM cO) [Value.ref co, Value.int pt] [(co, Sum.inr (1, [Value.int xcache, Value.int xpending, Value.long xlow, Value.long xrange, Value.long xcode, Value.long xreadLow, Value.long xreadRange, Value.ref ri, Value.ref ro, Value.ref rw, Value.int xasked]))] sz (fun (r : Int32) (u : Unit) => True) (fun (u : Unit) => [(co, Sum.inr (1, [Value.int xcache, Value.int xpending, Value.long xlow, Value.long xrange, Value.long xcode, Value.long xreadLow, Value.long xreadRange, Value.ref ri, Value.ref ro, Value.ref rw, Value.int xasked]))]) 0 0 := by
  refine my_ofI (cc := prog_8_method_14_code) (n := 6) (ret := (some .int)) (by decide) rfl (Nat.le_of_ble_eq_true rfl) ?_
  intro p e s m args below meth c R Q A ls H locs hx hb hr hts hown hlocks hml hnm hR hQ hA hl hP hK hN hD hS
  have hg : ∀ w ∈ gw, w.before args s = true := fun w h => hts w (List.mem_cons_of_mem _ h)
  have hown : s.vm.findClass "RangeCoders$Ranged" = some m.cls := hown
  have hl : lv_has ls 6 [(0, Value.ref co), (1, Value.int pt)] := hl
  refine lv_iload_n hx hb d_Ranged_nextShare_0 rfl (lv_at hl 1 rfl) ?_
  refine lv_if_le (tgt := 14) hx hb d_Ranged_nextShare_1 (by decide) (fun c_1 => ?_) (fun c_1 => ?_)
  · refine lv_lconst (v := 0) hx hb d_Ranged_nextShare_14 (by decide) ?_
    refine lv_lstore_n (lv' := [(2, Value.long 0), (0, Value.ref co), (1, Value.int pt)]) hx hb d_Ranged_nextShare_15 rfl hl (by decide) rfl (fun ls hl => ?_)
    refine lv_lload_n hx hb d_Ranged_nextShare_16 rfl (lv_at hl 0 rfl) ?_
    refine lv_lconst (v := 0) hx hb d_Ranged_nextShare_17 (by decide) ?_
    refine W.lcmp hx hb d_Ranged_nextShare_18 ?_
    refine lv_if_gt (tgt := 24) hx hb d_Ranged_nextShare_19 (by decide) (fun c_2 => ?_) (fun c_2 => ?_)
    · rw [lg_cmp_gt] at c_2
      refine lv_aload_n hx hb d_Ranged_nextShare_24 rfl (lv_at hl 1 rfl) ?_
      refine va_get (D := (dC, dI)) (ci := 1) (v := .long xcode) (C := "RangeCoders$Carries") (T := T_Carries) (N := 11) hx hb hg in_Carries hown hK hP 0 rfl rfl 4 (by decide) (hg _ k90) (fun _ h9 => h9) rfl d_Ranged_nextShare_25 ?_
      refine lv_aload_n hx hb d_Ranged_nextShare_28 rfl (lv_at hl 1 rfl) ?_
      refine va_get (D := (dC, dI)) (ci := 1) (v := .long xreadLow) (C := "RangeCoders$Carries") (T := T_Carries) (N := 11) hx hb hg in_Carries hown hK hP 0 rfl rfl 5 (by decide) (hg _ k93) (fun _ h9 => h9) rfl d_Ranged_nextShare_29 ?_
      refine lv_lsub hx hb d_Ranged_nextShare_32 ?_
      refine lv_topl (fun v_3 ev_3 => ?_)
      refine lv_ldc2 (v := 4294967295) hx hb hown (hg _ k67) d_Ranged_nextShare_33 ?_
      refine lv_land hx hb d_Ranged_nextShare_36 ?_
      refine lv_topl (fun v_4 ev_4 => ?_)
      refine lv_lload_n hx hb d_Ranged_nextShare_37 rfl (lv_at hl 0 rfl) ?_
      refine lv_ldiv hx hb d_Ranged_nextShare_38 (by first | decide | exact L_nzp (by assumption) | exact L_nz (by assumption)) ?_
      refine lv_topl (fun v_5 ev_5 => ?_)
      refine lv_lstore (lv' := [(4, Value.long v_5), (2, Value.long 0), (0, Value.ref co), (1, Value.int pt)]) hx hb d_Ranged_nextShare_39 hl (by decide) rfl (fun ls hl => ?_)
      refine lv_lload hx hb d_Ranged_nextShare_41 (lv_at hl 0 rfl) ?_
      refine lv_iload_n hx hb d_Ranged_nextShare_43 rfl (lv_at hl 3 rfl) ?_
      refine lv_i2l hx hb d_Ranged_nextShare_44 rfl ?_
      refine lv_topl (fun v_6 ev_6 => ?_)
      refine W.lcmp hx hb d_Ranged_nextShare_45 ?_
      refine lv_if_ge (tgt := 55) hx hb d_Ranged_nextShare_46 (by decide) (fun c_7 => ?_) (fun c_7 => ?_)
      · rw [lg_cmp_ge] at c_7
        refine lv_iconst (v := (-1)) hx hb d_Ranged_nextShare_55 (by decide) ?_
        exact my_iret (v := (-1)) hx hb hr (rfl) hlocks hQ hK hS (Nat.le_refl _) (Nat.le_refl _) () (trivial) (hP.sub [0] rfl) (hD.sub [0] (by decide +kernel) rfl) d_Ranged_nextShare_56
      · rw [lg_cmp_ge] at c_7
        refine lv_lload hx hb d_Ranged_nextShare_49 (lv_at hl 0 rfl) ?_
        refine lv_l2i hx hb d_Ranged_nextShare_51 rfl ?_
        refine lv_topi (fun v_8 ev_8 => ?_)
        refine lv_goto (tgt := 56) hx hb d_Ranged_nextShare_52 (by decide) ?_
        exact my_iret (v := v_8) hx hb hr (rfl) hlocks hQ hK hS (Nat.le_refl _) (Nat.le_refl _) () (trivial) (hP.sub [0] rfl) (hD.sub [0] (by decide +kernel) rfl) d_Ranged_nextShare_56
    · rw [lg_cmp_gt] at c_2
      refine lv_iconst (v := (-1)) hx hb d_Ranged_nextShare_22 (by decide) ?_
      exact my_iret (v := (-1)) hx hb hr (rfl) hlocks hQ hK hS (Nat.le_refl _) (Nat.le_refl _) () (trivial) (hP.sub [0] rfl) (hD.sub [0] (by decide +kernel) rfl) d_Ranged_nextShare_23
  · refine lv_aload_n hx hb d_Ranged_nextShare_4 rfl (lv_at hl 0 rfl) ?_
    refine va_get (D := (dC, dI)) (ci := 1) (v := .long xreadRange) (C := "RangeCoders$Carries") (T := T_Carries) (N := 11) hx hb hg in_Carries hown hK hP 0 rfl rfl 6 (by decide) (hg _ k100) (fun _ h9 => h9) rfl d_Ranged_nextShare_5 ?_
    refine lv_iload_n hx hb d_Ranged_nextShare_8 rfl (lv_at hl 1 rfl) ?_
    refine lv_i2l hx hb d_Ranged_nextShare_9 rfl ?_
    refine lv_topl (fun v_9 ev_9 => ?_)
    refine lv_ldiv hx hb d_Ranged_nextShare_10 (by rw [ev_9]; first | exact L_nzi (by assumption) | exact L_nzip (by assumption)) ?_
    refine lv_topl (fun v_10 ev_10 => ?_)
    refine lv_goto (tgt := 15) hx hb d_Ranged_nextShare_11 (by decide) ?_
    refine lv_lstore_n (lv' := [(2, Value.long v_10), (0, Value.ref co), (1, Value.int pt)]) hx hb d_Ranged_nextShare_15 rfl hl (by decide) rfl (fun ls hl => ?_)
    refine lv_lload_n hx hb d_Ranged_nextShare_16 rfl (lv_at hl 0 rfl) ?_
    refine lv_lconst (v := 0) hx hb d_Ranged_nextShare_17 (by decide) ?_
    refine W.lcmp hx hb d_Ranged_nextShare_18 ?_
    refine lv_if_gt (tgt := 24) hx hb d_Ranged_nextShare_19 (by decide) (fun c_11 => ?_) (fun c_11 => ?_)
    · rw [lg_cmp_gt] at c_11
      refine lv_aload_n hx hb d_Ranged_nextShare_24 rfl (lv_at hl 1 rfl) ?_
      refine va_get (D := (dC, dI)) (ci := 1) (v := .long xcode) (C := "RangeCoders$Carries") (T := T_Carries) (N := 11) hx hb hg in_Carries hown hK hP 0 rfl rfl 4 (by decide) (hg _ k90) (fun _ h9 => h9) rfl d_Ranged_nextShare_25 ?_
      refine lv_aload_n hx hb d_Ranged_nextShare_28 rfl (lv_at hl 1 rfl) ?_
      refine va_get (D := (dC, dI)) (ci := 1) (v := .long xreadLow) (C := "RangeCoders$Carries") (T := T_Carries) (N := 11) hx hb hg in_Carries hown hK hP 0 rfl rfl 5 (by decide) (hg _ k93) (fun _ h9 => h9) rfl d_Ranged_nextShare_29 ?_
      refine lv_lsub hx hb d_Ranged_nextShare_32 ?_
      refine lv_topl (fun v_12 ev_12 => ?_)
      refine lv_ldc2 (v := 4294967295) hx hb hown (hg _ k67) d_Ranged_nextShare_33 ?_
      refine lv_land hx hb d_Ranged_nextShare_36 ?_
      refine lv_topl (fun v_13 ev_13 => ?_)
      refine lv_lload_n hx hb d_Ranged_nextShare_37 rfl (lv_at hl 0 rfl) ?_
      refine lv_ldiv hx hb d_Ranged_nextShare_38 (by first | decide | exact L_nzp (by assumption) | exact L_nz (by assumption)) ?_
      refine lv_topl (fun v_14 ev_14 => ?_)
      refine lv_lstore (lv' := [(4, Value.long v_14), (2, Value.long v_10), (0, Value.ref co), (1, Value.int pt)]) hx hb d_Ranged_nextShare_39 hl (by decide) rfl (fun ls hl => ?_)
      refine lv_lload hx hb d_Ranged_nextShare_41 (lv_at hl 0 rfl) ?_
      refine lv_iload_n hx hb d_Ranged_nextShare_43 rfl (lv_at hl 3 rfl) ?_
      refine lv_i2l hx hb d_Ranged_nextShare_44 rfl ?_
      refine lv_topl (fun v_15 ev_15 => ?_)
      refine W.lcmp hx hb d_Ranged_nextShare_45 ?_
      refine lv_if_ge (tgt := 55) hx hb d_Ranged_nextShare_46 (by decide) (fun c_16 => ?_) (fun c_16 => ?_)
      · rw [lg_cmp_ge] at c_16
        refine lv_iconst (v := (-1)) hx hb d_Ranged_nextShare_55 (by decide) ?_
        exact my_iret (v := (-1)) hx hb hr (rfl) hlocks hQ hK hS (Nat.le_refl _) (Nat.le_refl _) () (trivial) (hP.sub [0] rfl) (hD.sub [0] (by decide +kernel) rfl) d_Ranged_nextShare_56
      · rw [lg_cmp_ge] at c_16
        refine lv_lload hx hb d_Ranged_nextShare_49 (lv_at hl 0 rfl) ?_
        refine lv_l2i hx hb d_Ranged_nextShare_51 rfl ?_
        refine lv_topi (fun v_17 ev_17 => ?_)
        refine lv_goto (tgt := 56) hx hb d_Ranged_nextShare_52 (by decide) ?_
        exact my_iret (v := v_17) hx hb hr (rfl) hlocks hQ hK hS (Nat.le_refl _) (Nat.le_refl _) () (trivial) (hP.sub [0] rfl) (hD.sub [0] (by decide +kernel) rfl) d_Ranged_nextShare_56
    · rw [lg_cmp_gt] at c_11
      refine lv_iconst (v := (-1)) hx hb d_Ranged_nextShare_22 (by decide) ?_
      exact my_iret (v := (-1)) hx hb hr (rfl) hlocks hQ hK hS (Nat.le_refl _) (Nat.le_refl _) () (trivial) (hP.sub [0] rfl) (hD.sub [0] (by decide +kernel) rfl) d_Ranged_nextShare_23
set_option maxHeartbeats 2000000 in
set_option maxRecDepth 100000 in
theorem c_Carries_Ranged_nextSign (l : Launch) (dC : Nat → ClassId) (dI : Nat → Nat → Nat) (cI cM cO : ClassId) (sz : Nat) (co : Nat) (xcache : Int32) (xpending : Int32) (xlow : Int64) (xrange : Int64) (xcode : Int64) (xreadLow : Int64) (xreadRange : Int64) (ri : Nat) (ro : Nat) (rw : Nat) (xasked : Int32) (rin : Int32) (ria : Nat) (rik : Nat) (rif : Nat → Int32) (oo : Nat) (osg : Int32) (osm : Int32) (ofc : Int32) (oca : Nat) (opa : Nat) (ol : Nat) (ocf : Nat → Int32) (opl : Nat) (opf : Nat → Int32) (hri : rOk rin rik) (hol : ol ≤ 64) (hopl : opl ≤ 512) : MetI l y_Ranged_nextSign (Cond.code y_Ranged_nextSign prog_8_method_11_code 4 (some .int) :: gw) ({ frames := 5, cells := 0, slots := 0, locals := 109 } : Room) (dC, dI) vwCl (kT cI cM cO) [Value.ref co, Value.ref oo] [(co, Sum.inr (1, [Value.int xcache, Value.int xpending, Value.long xlow, Value.long xrange, Value.long xcode, Value.long xreadLow, Value.long xreadRange, Value.ref ri, Value.ref ro, Value.ref rw, Value.int xasked])), (ri, Sum.inr (0, [Value.int rin, Value.ref ria])), (ria, Sum.inl (cI, rik, Sum.inl rif)), (oo, Sum.inr (7, [Value.int osg, Value.int osm, Value.int ofc, Value.ref oca, Value.ref opa])), (oca, Sum.inl (cI, ol, Sum.inl ocf)), (opa, Sum.inl (cI, opl, Sum.inl opf))] sz (fun (r : Int32) (u : Int64 × Int64 × Int32 × Int32 × (Nat → Int32)) => True) (fun (u : Int64 × Int64 × Int32 × Int32 × (Nat → Int32)) => [(co, Sum.inr (1, [Value.int xcache, Value.int xpending, Value.long xlow, Value.long xrange, Value.long u.1, Value.long xreadLow, Value.long u.2.1, Value.ref ri, Value.ref ro, Value.ref rw, Value.int u.2.2.1])), (ri, Sum.inr (0, [Value.int rin, Value.ref ria])), (ria, Sum.inl (cI, rik, Sum.inl rif)), (oo, Sum.inr (7, [Value.int osg, Value.int u.2.2.2.1, Value.int ofc, Value.ref oca, Value.ref opa])), (oca, Sum.inl (cI, ol, Sum.inl u.2.2.2.2)), (opa, Sum.inl (cI, opl, Sum.inl opf))]) 0 0 := by
  refine my_ofI (cc := prog_8_method_11_code) (n := 4) (ret := (some .int)) (by decide) rfl (Nat.le_of_ble_eq_true rfl) ?_
  intro p e s m args below meth c R Q A ls H locs hx hb hr hts hown hlocks hml hnm hR hQ hA hl hP hK hN hD hS
  have hg : ∀ w ∈ gw, w.before args s = true := fun w h => hts w (List.mem_cons_of_mem _ h)
  have hown : s.vm.findClass "RangeCoders$Ranged" = some m.cls := hown
  have hl : lv_has ls 4 [(0, Value.ref co), (1, Value.ref oo)] := hl
  have hlt_hri := rOk_lt hri
  refine lv_aload_n hx hb d_Ranged_nextSign_0 rfl (lv_at hl 0 rfl) ?_
  refine lv_aload_n hx hb d_Ranged_nextSign_1 rfl (lv_at hl 1 rfl) ?_
  refine va_get (D := (dC, dI)) (ci := 7) (v := .int osm) (C := "RangeCoders$Odds") (T := T_Odds) (N := 5) hx hb hg in_Odds hown hK hP 3 rfl rfl 1 (by decide) (hg _ k306) (fun _ h9 => h9) rfl d_Ranged_nextSign_2 ?_
  refine my_ci (wr := [(ri, Sum.inr (0, [Value.int rin, Value.ref ria])), (ria, Sum.inl (cI, rik, Sum.inl rif)), (oo, Sum.inr (7, [Value.int osg, Value.int osm, Value.int ofc, Value.ref oca, Value.ref opa])), (oca, Sum.inl (cI, ol, Sum.inl ocf)), (opa, Sum.inl (cI, opl, Sum.inl opf))]) (va_runU (As := [Value.int osm]) (rest := []) ⟨hx, hb, hml, hown, hts⟩ (c_Carries_Ranged_nextShare l dC dI cI cM cO H.size co xcache xpending xlow xrange xcode xreadLow xreadRange ri ro rw xasked osm) (va_cwU 1 hts (my_gU k807 k1289 kx4 k809 k4 k810) rfl rfl rfl rfl (by decide +kernel) ⟨by rw [hR]; exact Nat.le_of_ble_eq_true rfl, by rw [hR]; exact Nat.le_of_ble_eq_true rfl⟩) (my_preV hK hN (hP.sub [0] rfl) (hD.sub [0] (by decide +kernel) rfl) 0 rfl rfl) rfl rfl hl.1 rfl (lv_room (Nat.le_of_ble_eq_true rfl)) d_Ranged_nextSign_5 ⟨by rw [hR]; exact Nat.le_of_ble_eq_true rfl, by rw [hR]; exact Nat.le_of_ble_eq_true rfl⟩) hP hD hS hA [0] [1, 2, 3, 4, 5] rfl rfl (by decide +kernel) (by decide +kernel) (fun r_5 u9 H locs hw_5 hP hD hS => ?_)
  have hPD : my_PD (dC, dI) vwCl A [(ri, Sum.inr (0, [Value.int rin, Value.ref ria])), (ria, Sum.inl (cI, rik, Sum.inl rif)), (oo, Sum.inr (7, [Value.int osg, Value.int osm, Value.int ofc, Value.ref oca, Value.ref opa])), (oca, Sum.inl (cI, ol, Sum.inl ocf)), (opa, Sum.inl (cI, opl, Sum.inl opf)), (co, Sum.inr (1, [Value.int xcache, Value.int xpending, Value.long xlow, Value.long xrange, Value.long xcode, Value.long xreadLow, Value.long xreadRange, Value.ref ri, Value.ref ro, Value.ref rw, Value.int xasked]))] H := ⟨hP, hD⟩
  have hP := hPD.1
  have hD := hPD.2
  refine lv_istore_n (lv' := [(2, Value.int r_5), (0, Value.ref co), (1, Value.ref oo)]) hx hb d_Ranged_nextSign_8 rfl hl (by decide) rfl (fun ls hl => ?_)
  refine lv_iload_n hx hb d_Ranged_nextSign_9 rfl (lv_at hl 0 rfl) ?_
  refine lv_iconst (v := (-1)) hx hb d_Ranged_nextSign_10 (by decide) ?_
  refine lv_icmp_ne (tgt := 18) hx hb d_Ranged_nextSign_11 (by decide) (fun c_1 => ?_) (fun c_1 => ?_)
  · refine lv_aload_n hx hb d_Ranged_nextSign_18 rfl (lv_at hl 2 rfl) ?_
    refine lv_iload_n hx hb d_Ranged_nextSign_19 rfl (lv_at hl 0 rfl) ?_
    refine my_ci (wr := [(ri, Sum.inr (0, [Value.int rin, Value.ref ria])), (ria, Sum.inl (cI, rik, Sum.inl rif)), (co, Sum.inr (1, [Value.int xcache, Value.int xpending, Value.long xlow, Value.long xrange, Value.long xcode, Value.long xreadLow, Value.long xreadRange, Value.ref ri, Value.ref ro, Value.ref rw, Value.int xasked]))]) (va_runV (As := [Value.int r_5]) (rest := []) ⟨hx, hb, hml, hown, hts⟩ (c_Odds_signAt l dC dI cI cM cO H.size oo osg osm ofc oca opa ol ocf opl opf r_5 (by first | assumption | omega) (by first | assumption | omega)) (cwV 1 hts (my_gV k811 k812 k813 k14 k814) rfl rfl rfl cu_Odds_signAt_1 ⟨by rw [hR]; exact Nat.le_of_ble_eq_true rfl, by rw [hR]; exact Nat.le_of_ble_eq_true rfl⟩) (my_preV hK hN (hP.sub [2, 3, 4] rfl) (hD.sub [2, 3, 4] (by decide +kernel) rfl) 0 rfl rfl) rfl rfl hl.1 rfl (lv_room (Nat.le_of_ble_eq_true rfl)) d_Ranged_nextSign_20 ⟨by rw [hR]; exact Nat.le_of_ble_eq_true rfl, by rw [hR]; exact Nat.le_of_ble_eq_true rfl⟩) hP hD hS hA [2, 3, 4] [0, 1, 5] rfl rfl (by decide +kernel) (by decide +kernel) (fun r_20 u9 H locs hw_20 hP hD hS => ?_)
    have hPD : my_PD (dC, dI) vwCl A [(ri, Sum.inr (0, [Value.int rin, Value.ref ria])), (ria, Sum.inl (cI, rik, Sum.inl rif)), (co, Sum.inr (1, [Value.int xcache, Value.int xpending, Value.long xlow, Value.long xrange, Value.long xcode, Value.long xreadLow, Value.long xreadRange, Value.ref ri, Value.ref ro, Value.ref rw, Value.int xasked])), (oo, Sum.inr (7, [Value.int osg, Value.int osm, Value.int ofc, Value.ref oca, Value.ref opa])), (oca, Sum.inl (cI, ol, Sum.inl ocf)), (opa, Sum.inl (cI, opl, Sum.inl opf))] H := ⟨hP, hD⟩
    have hP := hPD.1
    have hD := hPD.2
    refine lv_istore_n (lv' := [(3, Value.int r_20), (2, Value.int r_5), (0, Value.ref co), (1, Value.ref oo)]) hx hb d_Ranged_nextSign_23 rfl hl (by decide) rfl (fun ls hl => ?_)
    refine lv_iload_n hx hb d_Ranged_nextSign_24 rfl (lv_at hl 0 rfl) ?_
    refine lv_iconst (v := (-1)) hx hb d_Ranged_nextSign_25 (by decide) ?_
    refine lv_icmp_eq (tgt := 52) hx hb d_Ranged_nextSign_26 (by decide) (fun c_2 => ?_) (fun c_2 => ?_)
    · refine lv_iload_n hx hb d_Ranged_nextSign_52 rfl (lv_at hl 0 rfl) ?_
      exact my_iret (v := r_20) hx hb hr (rfl) hlocks hQ hK hS (Nat.le_refl _) (Nat.le_refl _) (xcode, xreadRange, xasked, osm, ocf) (trivial) (hP.sub [2, 0, 1, 3, 4, 5] rfl) (hD.sub [2, 0, 1, 3, 4, 5] (by decide +kernel) rfl) d_Ranged_nextSign_53
    · refine lv_aload_n hx hb d_Ranged_nextSign_29 rfl (lv_at hl 2 rfl) ?_
      refine lv_aload_n hx hb d_Ranged_nextSign_30 rfl (lv_at hl 3 rfl) ?_
      refine lv_iload_n hx hb d_Ranged_nextSign_31 rfl (lv_at hl 0 rfl) ?_
      refine my_ci (wr := [(ri, Sum.inr (0, [Value.int rin, Value.ref ria])), (ria, Sum.inl (cI, rik, Sum.inl rif)), (co, Sum.inr (1, [Value.int xcache, Value.int xpending, Value.long xlow, Value.long xrange, Value.long xcode, Value.long xreadLow, Value.long xreadRange, Value.ref ri, Value.ref ro, Value.ref rw, Value.int xasked]))]) (va_runV (As := [Value.int r_20]) (rest := [Value.ref co]) ⟨hx, hb, hml, hown, hts⟩ (c_Odds_at l dC dI cI cM cO H.size oo osg osm ofc oca opa ol ocf opl opf r_20 (by first | assumption | omega) (by first | assumption | omega)) (cwV 1 hts (my_gV k493 k436 k437 k14 k438) rfl rfl rfl cu_Odds_at_1 ⟨by rw [hR]; exact Nat.le_of_ble_eq_true rfl, by rw [hR]; exact Nat.le_of_ble_eq_true rfl⟩) (my_preV hK hN (hP.sub [3, 4, 5] rfl) (hD.sub [3, 4, 5] (by decide +kernel) rfl) 0 rfl rfl) rfl rfl hl.1 rfl (lv_room (Nat.le_of_ble_eq_true rfl)) d_Ranged_nextSign_32 ⟨by rw [hR]; exact Nat.le_of_ble_eq_true rfl, by rw [hR]; exact Nat.le_of_ble_eq_true rfl⟩) hP hD hS hA [3, 4, 5] [0, 1, 2] rfl rfl (by decide +kernel) (by decide +kernel) (fun r_32 u9 H locs hw_32 hP hD hS => ?_)
      have hPD : my_PD (dC, dI) vwCl A [(ri, Sum.inr (0, [Value.int rin, Value.ref ria])), (ria, Sum.inl (cI, rik, Sum.inl rif)), (co, Sum.inr (1, [Value.int xcache, Value.int xpending, Value.long xlow, Value.long xrange, Value.long xcode, Value.long xreadLow, Value.long xreadRange, Value.ref ri, Value.ref ro, Value.ref rw, Value.int xasked])), (oo, Sum.inr (7, [Value.int osg, Value.int osm, Value.int ofc, Value.ref oca, Value.ref opa])), (oca, Sum.inl (cI, ol, Sum.inl ocf)), (opa, Sum.inl (cI, opl, Sum.inl opf))] H := ⟨hP, hD⟩
      have hP := hPD.1
      have hD := hPD.2
      refine lv_aload_n hx hb d_Ranged_nextSign_35 rfl (lv_at hl 3 rfl) ?_
      refine lv_iload_n hx hb d_Ranged_nextSign_36 rfl (lv_at hl 0 rfl) ?_
      refine my_ci (wr := [(ri, Sum.inr (0, [Value.int rin, Value.ref ria])), (ria, Sum.inl (cI, rik, Sum.inl rif)), (co, Sum.inr (1, [Value.int xcache, Value.int xpending, Value.long xlow, Value.long xrange, Value.long xcode, Value.long xreadLow, Value.long xreadRange, Value.ref ri, Value.ref ro, Value.ref rw, Value.int xasked]))]) (va_runV (As := [Value.int r_20]) (rest := [Value.int r_32, Value.ref co]) ⟨hx, hb, hml, hown, hts⟩ (c_Odds_below l dC dI cI cM cO H.size oo osg osm ofc oca opa ol ocf opl opf r_20 (by first | assumption | omega) (by first | assumption | omega)) (cwV 1 hts (my_gV k494 k495 k496 k14 k497) rfl rfl rfl cu_Odds_below_1 ⟨by rw [hR]; exact Nat.le_of_ble_eq_true rfl, by rw [hR]; exact Nat.le_of_ble_eq_true rfl⟩) (my_preV hK hN (hP.sub [3, 4, 5] rfl) (hD.sub [3, 4, 5] (by decide +kernel) rfl) 0 rfl rfl) rfl rfl hl.1 rfl (lv_room (Nat.le_of_ble_eq_true rfl)) d_Ranged_nextSign_37 ⟨by rw [hR]; exact Nat.le_of_ble_eq_true rfl, by rw [hR]; exact Nat.le_of_ble_eq_true rfl⟩) hP hD hS hA [3, 4, 5] [0, 1, 2] rfl rfl (by decide +kernel) (by decide +kernel) (fun r_37 u9 H locs hw_37 hP hD hS => ?_)
      have hPD : my_PD (dC, dI) vwCl A [(ri, Sum.inr (0, [Value.int rin, Value.ref ria])), (ria, Sum.inl (cI, rik, Sum.inl rif)), (co, Sum.inr (1, [Value.int xcache, Value.int xpending, Value.long xlow, Value.long xrange, Value.long xcode, Value.long xreadLow, Value.long xreadRange, Value.ref ri, Value.ref ro, Value.ref rw, Value.int xasked])), (oo, Sum.inr (7, [Value.int osg, Value.int osm, Value.int ofc, Value.ref oca, Value.ref opa])), (oca, Sum.inl (cI, ol, Sum.inl ocf)), (opa, Sum.inl (cI, opl, Sum.inl opf))] H := ⟨hP, hD⟩
      have hP := hPD.1
      have hD := hPD.2
      refine lv_aload_n hx hb d_Ranged_nextSign_40 rfl (lv_at hl 3 rfl) ?_
      refine va_get (D := (dC, dI)) (ci := 7) (v := .int osm) (C := "RangeCoders$Odds") (T := T_Odds) (N := 5) hx hb hg in_Odds hown hK hP 3 rfl rfl 1 (by decide) (hg _ k306) (fun _ h9 => h9) rfl d_Ranged_nextSign_41 ?_
      refine my_cv (wr := [(oo, Sum.inr (7, [Value.int osg, Value.int osm, Value.int ofc, Value.ref oca, Value.ref opa])), (oca, Sum.inl (cI, ol, Sum.inl ocf)), (opa, Sum.inl (cI, opl, Sum.inl opf))]) (va_runU (As := [Value.int r_32, Value.int r_37, Value.int osm]) (rest := []) ⟨hx, hb, hml, hown, hts⟩ (c_Carries_Carries_readPart l dC dI cI cM cO H.size co xcache xpending xlow xrange xcode xreadLow xreadRange ri ro rw xasked rin ria rik rif r_32 r_37 osm (by first | assumption | omega)) (va_cwA 3 hts (my_gU k815 k817 k822 k819 k5 k820) rfl rfl rfl (hN.1 _ j816 rfl) (by decide +kernel) ⟨by rw [hR]; exact Nat.le_of_ble_eq_true rfl, by rw [hR]; exact Nat.le_of_ble_eq_true rfl⟩) (my_preV hK hN (hP.sub [2, 0, 1] rfl) (hD.sub [2, 0, 1] (by decide +kernel) rfl) 0 rfl rfl) rfl rfl hl.1 rfl (lv_room (Nat.le_of_ble_eq_true rfl)) d_Ranged_nextSign_44 ⟨by rw [hR]; exact Nat.le_of_ble_eq_true rfl, by rw [hR]; exact Nat.le_of_ble_eq_true rfl⟩) hP hD hS hA [2, 0, 1] [3, 4, 5] rfl rfl (by decide +kernel) (by decide +kernel) (fun u9 H locs hw_44 hP hD hS => ?_)
      obtain ⟨xcodeq_44, xreadRangeq_44, xaskedq_44⟩ := u9
      have hPD : my_PD (dC, dI) vwCl A [(oo, Sum.inr (7, [Value.int osg, Value.int osm, Value.int ofc, Value.ref oca, Value.ref opa])), (oca, Sum.inl (cI, ol, Sum.inl ocf)), (opa, Sum.inl (cI, opl, Sum.inl opf)), (co, Sum.inr (1, [Value.int xcache, Value.int xpending, Value.long xlow, Value.long xrange, Value.long xcodeq_44, Value.long xreadLow, Value.long xreadRangeq_44, Value.ref ri, Value.ref ro, Value.ref rw, Value.int xaskedq_44])), (ri, Sum.inr (0, [Value.int rin, Value.ref ria])), (ria, Sum.inl (cI, rik, Sum.inl rif))] H := ⟨hP, hD⟩
      have hP := hPD.1
      have hD := hPD.2
      refine lv_aload_n hx hb d_Ranged_nextSign_47 rfl (lv_at hl 3 rfl) ?_
      refine lv_iload_n hx hb d_Ranged_nextSign_48 rfl (lv_at hl 0 rfl) ?_
      refine my_cv (wr := [(co, Sum.inr (1, [Value.int xcache, Value.int xpending, Value.long xlow, Value.long xrange, Value.long xcodeq_44, Value.long xreadLow, Value.long xreadRangeq_44, Value.ref ri, Value.ref ro, Value.ref rw, Value.int xaskedq_44])), (ri, Sum.inr (0, [Value.int rin, Value.ref ria])), (ria, Sum.inl (cI, rik, Sum.inl rif))]) (va_runV (As := [Value.int r_20]) (rest := []) ⟨hx, hb, hml, hown, hts⟩ (c_Odds_learn l dC dI cI cM cO H.size oo osg osm ofc oca opa ol ocf opl opf r_20 (by first | assumption | omega) (by first | assumption | omega)) (cwV 1 hts (my_gV k526 k527 k528 k14 k529) rfl rfl rfl cu_Odds_learn_1 ⟨by rw [hR]; exact Nat.le_of_ble_eq_true rfl, by rw [hR]; exact Nat.le_of_ble_eq_true rfl⟩) (my_preV hK hN (hP.sub [0, 1, 2] rfl) (hD.sub [0, 1, 2] (by decide +kernel) rfl) 0 rfl rfl) rfl rfl hl.1 rfl (lv_room (Nat.le_of_ble_eq_true rfl)) d_Ranged_nextSign_49 ⟨by rw [hR]; exact Nat.le_of_ble_eq_true rfl, by rw [hR]; exact Nat.le_of_ble_eq_true rfl⟩) hP hD hS hA [0, 1, 2] [3, 4, 5] rfl rfl (by decide +kernel) (by decide +kernel) (fun u9 H locs hw_49 hP hD hS => ?_)
      obtain ⟨osmq_49, ocfq_49⟩ := u9
      have hPD : my_PD (dC, dI) vwCl A [(co, Sum.inr (1, [Value.int xcache, Value.int xpending, Value.long xlow, Value.long xrange, Value.long xcodeq_44, Value.long xreadLow, Value.long xreadRangeq_44, Value.ref ri, Value.ref ro, Value.ref rw, Value.int xaskedq_44])), (ri, Sum.inr (0, [Value.int rin, Value.ref ria])), (ria, Sum.inl (cI, rik, Sum.inl rif)), (oo, Sum.inr (7, [Value.int osg, Value.int osmq_49, Value.int ofc, Value.ref oca, Value.ref opa])), (oca, Sum.inl (cI, ol, Sum.inl ocfq_49)), (opa, Sum.inl (cI, opl, Sum.inl opf))] H := ⟨hP, hD⟩
      have hP := hPD.1
      have hD := hPD.2
      refine lv_iload_n hx hb d_Ranged_nextSign_52 rfl (lv_at hl 0 rfl) ?_
      exact my_iret (v := r_20) hx hb hr (rfl) hlocks hQ hK hS (Nat.le_refl _) (Nat.le_refl _) (xcodeq_44, xreadRangeq_44, xaskedq_44, osmq_49, ocfq_49) (trivial) (hP.sub [0, 1, 2, 3, 4, 5] rfl) (hD.sub [0, 1, 2, 3, 4, 5] (by decide +kernel) rfl) d_Ranged_nextSign_53
  · refine lv_iconst (v := (-1)) hx hb d_Ranged_nextSign_14 (by decide) ?_
    refine lv_goto (tgt := 23) hx hb d_Ranged_nextSign_15 (by decide) ?_
    refine lv_istore_n (lv' := [(3, Value.int (-1)), (2, Value.int r_5), (0, Value.ref co), (1, Value.ref oo)]) hx hb d_Ranged_nextSign_23 rfl hl (by decide) rfl (fun ls hl => ?_)
    refine lv_iload_n hx hb d_Ranged_nextSign_24 rfl (lv_at hl 0 rfl) ?_
    refine lv_iconst (v := (-1)) hx hb d_Ranged_nextSign_25 (by decide) ?_
    refine lv_icmp_eq (tgt := 52) hx hb d_Ranged_nextSign_26 (by decide) (fun c_3 => ?_) (fun c_3 => ?_)
    · refine lv_iload_n hx hb d_Ranged_nextSign_52 rfl (lv_at hl 0 rfl) ?_
      exact my_iret (v := (-1)) hx hb hr (rfl) hlocks hQ hK hS (Nat.le_refl _) (Nat.le_refl _) (xcode, xreadRange, xasked, osm, ocf) (trivial) (hP.sub [5, 0, 1, 2, 3, 4] rfl) (hD.sub [5, 0, 1, 2, 3, 4] (by decide +kernel) rfl) d_Ranged_nextSign_53
    · exact absurd (by decide) c_3
set_option maxHeartbeats 2000000 in
set_option maxRecDepth 100000 in
theorem c_Carries_Ranged_nextValue (l : Launch) (dC : Nat → ClassId) (dI : Nat → Nat → Nat) (cI cM cO : ClassId) (sz : Nat) (co : Nat) (xcache : Int32) (xpending : Int32) (xlow : Int64) (xrange : Int64) (xcode : Int64) (xreadLow : Int64) (xreadRange : Int64) (ri : Nat) (ro : Nat) (rw : Nat) (xasked : Int32) (rin : Int32) (ria : Nat) (rik : Nat) (rif : Nat → Int32) (wd : Int32) (hri : rOk rin rik) : MetI l y_Ranged_nextValue (Cond.code y_Ranged_nextValue prog_8_method_12_code 3 (some .int) :: gw) ({ frames := 5, cells := 0, slots := 0, locals := 109 } : Room) (dC, dI) vwCl (kT cI cM cO) [Value.ref co, Value.int wd] [(co, Sum.inr (1, [Value.int xcache, Value.int xpending, Value.long xlow, Value.long xrange, Value.long xcode, Value.long xreadLow, Value.long xreadRange, Value.ref ri, Value.ref ro, Value.ref rw, Value.int xasked])), (ri, Sum.inr (0, [Value.int rin, Value.ref ria])), (ria, Sum.inl (cI, rik, Sum.inl rif))] sz (fun (r : Int32) (u : Int64 × Int64 × Int32) => True) (fun (u : Int64 × Int64 × Int32) => [(co, Sum.inr (1, [Value.int xcache, Value.int xpending, Value.long xlow, Value.long xrange, Value.long u.1, Value.long xreadLow, Value.long u.2.1, Value.ref ri, Value.ref ro, Value.ref rw, Value.int u.2.2])), (ri, Sum.inr (0, [Value.int rin, Value.ref ria])), (ria, Sum.inl (cI, rik, Sum.inl rif))]) 0 0 := by
  refine my_ofI (cc := prog_8_method_12_code) (n := 3) (ret := (some .int)) (by decide) rfl (Nat.le_of_ble_eq_true rfl) ?_
  intro p e s m args below meth c R Q A ls H locs hx hb hr hts hown hlocks hml hnm hR hQ hA hl hP hK hN hD hS
  have hg : ∀ w ∈ gw, w.before args s = true := fun w h => hts w (List.mem_cons_of_mem _ h)
  have hown : s.vm.findClass "RangeCoders$Ranged" = some m.cls := hown
  have hl : lv_has ls 3 [(0, Value.ref co), (1, Value.int wd)] := hl
  have hlt_hri := rOk_lt hri
  refine lv_aload_n hx hb d_Ranged_nextValue_0 rfl (lv_at hl 0 rfl) ?_
  refine lv_iconst (v := 1) hx hb d_Ranged_nextValue_1 (by decide) ?_
  refine lv_iload_n hx hb d_Ranged_nextValue_2 rfl (lv_at hl 1 rfl) ?_
  refine lv_ishl hx hb d_Ranged_nextValue_3 ?_
  refine lv_topi (fun v_1 ev_1 => ?_)
  refine my_ci (wr := [(ri, Sum.inr (0, [Value.int rin, Value.ref ria])), (ria, Sum.inl (cI, rik, Sum.inl rif))]) (va_runU (As := [Value.int v_1]) (rest := []) ⟨hx, hb, hml, hown, hts⟩ (c_Carries_Ranged_nextShare l dC dI cI cM cO H.size co xcache xpending xlow xrange xcode xreadLow xreadRange ri ro rw xasked v_1) (va_cwU 1 hts (my_gU k807 k1289 kx4 k809 k4 k810) rfl rfl rfl rfl (by decide +kernel) ⟨by rw [hR]; exact Nat.le_of_ble_eq_true rfl, by rw [hR]; exact Nat.le_of_ble_eq_true rfl⟩) (my_preV hK hN (hP.sub [0] rfl) (hD.sub [0] (by decide +kernel) rfl) 0 rfl rfl) rfl rfl hl.1 rfl (lv_room (Nat.le_of_ble_eq_true rfl)) d_Ranged_nextValue_4 ⟨by rw [hR]; exact Nat.le_of_ble_eq_true rfl, by rw [hR]; exact Nat.le_of_ble_eq_true rfl⟩) hP hD hS hA [0] [1, 2] rfl rfl (by decide +kernel) (by decide +kernel) (fun r_4 u9 H locs hw_4 hP hD hS => ?_)
  have hPD : my_PD (dC, dI) vwCl A [(ri, Sum.inr (0, [Value.int rin, Value.ref ria])), (ria, Sum.inl (cI, rik, Sum.inl rif)), (co, Sum.inr (1, [Value.int xcache, Value.int xpending, Value.long xlow, Value.long xrange, Value.long xcode, Value.long xreadLow, Value.long xreadRange, Value.ref ri, Value.ref ro, Value.ref rw, Value.int xasked]))] H := ⟨hP, hD⟩
  have hP := hPD.1
  have hD := hPD.2
  refine lv_istore_n (lv' := [(2, Value.int r_4), (0, Value.ref co), (1, Value.int wd)]) hx hb d_Ranged_nextValue_7 rfl hl (by decide) rfl (fun ls hl => ?_)
  refine lv_iload_n hx hb d_Ranged_nextValue_8 rfl (lv_at hl 0 rfl) ?_
  refine lv_iconst (v := (-1)) hx hb d_Ranged_nextValue_9 (by decide) ?_
  refine lv_icmp_eq (tgt := 22) hx hb d_Ranged_nextValue_10 (by decide) (fun c_2 => ?_) (fun c_2 => ?_)
  · refine lv_iload_n hx hb d_Ranged_nextValue_22 rfl (lv_at hl 0 rfl) ?_
    exact my_iret (v := r_4) hx hb hr (rfl) hlocks hQ hK hS (Nat.le_refl _) (Nat.le_refl _) (xcode, xreadRange, xasked) (trivial) (hP.sub [2, 0, 1] rfl) (hD.sub [2, 0, 1] (by decide +kernel) rfl) d_Ranged_nextValue_23
  · refine lv_aload_n hx hb d_Ranged_nextValue_13 rfl (lv_at hl 1 rfl) ?_
    refine lv_iconst (v := 1) hx hb d_Ranged_nextValue_14 (by decide) ?_
    refine lv_iload_n hx hb d_Ranged_nextValue_15 rfl (lv_at hl 0 rfl) ?_
    refine lv_iconst (v := 1) hx hb d_Ranged_nextValue_16 (by decide) ?_
    refine lv_iload_n hx hb d_Ranged_nextValue_17 rfl (lv_at hl 2 rfl) ?_
    refine lv_ishl hx hb d_Ranged_nextValue_18 ?_
    refine lv_topi (fun v_3 ev_3 => ?_)
    refine my_cv (wr := []) (va_runU (As := [Value.int 1, Value.int r_4, Value.int v_3]) (rest := []) ⟨hx, hb, hml, hown, hts⟩ (c_Carries_Carries_readPart l dC dI cI cM cO H.size co xcache xpending xlow xrange xcode xreadLow xreadRange ri ro rw xasked rin ria rik rif 1 r_4 v_3 (by first | assumption | omega)) (va_cwA 3 hts (my_gU k815 k817 k822 k819 k5 k820) rfl rfl rfl (hN.1 _ j816 rfl) (by decide +kernel) ⟨by rw [hR]; exact Nat.le_of_ble_eq_true rfl, by rw [hR]; exact Nat.le_of_ble_eq_true rfl⟩) (my_preV hK hN (hP.sub [2, 0, 1] rfl) (hD.sub [2, 0, 1] (by decide +kernel) rfl) 0 rfl rfl) rfl rfl hl.1 rfl (lv_room (Nat.le_of_ble_eq_true rfl)) d_Ranged_nextValue_19 ⟨by rw [hR]; exact Nat.le_of_ble_eq_true rfl, by rw [hR]; exact Nat.le_of_ble_eq_true rfl⟩) hP hD hS hA [2, 0, 1] [] rfl rfl (by decide +kernel) (by decide +kernel) (fun u9 H locs hw_19 hP hD hS => ?_)
    obtain ⟨xcodeq_19, xreadRangeq_19, xaskedq_19⟩ := u9
    have hPD : my_PD (dC, dI) vwCl A [(co, Sum.inr (1, [Value.int xcache, Value.int xpending, Value.long xlow, Value.long xrange, Value.long xcodeq_19, Value.long xreadLow, Value.long xreadRangeq_19, Value.ref ri, Value.ref ro, Value.ref rw, Value.int xaskedq_19])), (ri, Sum.inr (0, [Value.int rin, Value.ref ria])), (ria, Sum.inl (cI, rik, Sum.inl rif))] H := ⟨hP, hD⟩
    have hP := hPD.1
    have hD := hPD.2
    refine lv_iload_n hx hb d_Ranged_nextValue_22 rfl (lv_at hl 0 rfl) ?_
    exact my_iret (v := r_4) hx hb hr (rfl) hlocks hQ hK hS (Nat.le_refl _) (Nat.le_refl _) (xcodeq_19, xreadRangeq_19, xaskedq_19) (trivial) (hP.sub [0, 1, 2] rfl) (hD.sub [0, 1, 2] (by decide +kernel) rfl) d_Ranged_nextValue_23
set_option maxHeartbeats 2000000 in
set_option maxRecDepth 100000 in
theorem c_Carries_Ranged_openReading (l : Launch) (dC : Nat → ClassId) (dI : Nat → Nat → Nat) (cI cM cO : ClassId) (sz : Nat) (co : Nat) (xcache : Int32) (xpending : Int32) (xlow : Int64) (xrange : Int64) (xcode : Int64) (xreadLow : Int64) (xreadRange : Int64) (ri : Nat) (ro : Nat) (rw : Nat) (xasked : Int32) (rin : Int32) (ria : Nat) (rik : Nat) (rif : Nat → Int32) (hri : rOk rin rik) : MetI l y_Ranged_openReading (Cond.code y_Ranged_openReading prog_8_method_10_code 1 (some .boolean) :: gw) ({ frames := 4, cells := 0, slots := 0, locals := 86 } : Room) (dC, dI) vwCl (kT cI cM cO) [Value.ref co] [(co, Sum.inr (1, [Value.int xcache, Value.int xpending, Value.long xlow, Value.long xrange, Value.long xcode, Value.long xreadLow, Value.long xreadRange, Value.ref ri, Value.ref ro, Value.ref rw, Value.int xasked])), (ri, Sum.inr (0, [Value.int rin, Value.ref ria])), (ria, Sum.inl (cI, rik, Sum.inl rif))] sz (fun (r : Int32) (u : Int64 × Int64 × Int64 × Int32) => True) (fun (u : Int64 × Int64 × Int64 × Int32) => [(co, Sum.inr (1, [Value.int xcache, Value.int xpending, Value.long xlow, Value.long xrange, Value.long u.1, Value.long u.2.1, Value.long u.2.2.1, Value.ref ri, Value.ref ro, Value.ref rw, Value.int u.2.2.2])), (ri, Sum.inr (0, [Value.int rin, Value.ref ria])), (ria, Sum.inl (cI, rik, Sum.inl rif))]) 0 0 := by
  refine my_ofI (cc := prog_8_method_10_code) (n := 1) (ret := (some .boolean)) (by decide) rfl (Nat.le_of_ble_eq_true rfl) ?_
  intro p e s m args below meth c R Q A ls H locs hx hb hr hts hown hlocks hml hnm hR hQ hA hl hP hK hN hD hS
  have hg : ∀ w ∈ gw, w.before args s = true := fun w h => hts w (List.mem_cons_of_mem _ h)
  have hown : s.vm.findClass "RangeCoders$Ranged" = some m.cls := hown
  have hl : lv_has ls 1 [(0, Value.ref co)] := hl
  have hlt_hri := rOk_lt hri
  refine lv_aload_n hx hb d_Ranged_openReading_0 rfl (lv_at hl 0 rfl) ?_
  refine lv_aload_n hx hb d_Ranged_openReading_1 rfl (lv_at hl 0 rfl) ?_
  refine my_cl (wr := []) (va_runU (As := []) (rest := [Value.ref co]) ⟨hx, hb, hml, hown, hts⟩ (c_Carries_Coder_firstFourBytes l dC dI cI cM cO H.size co xcache xpending xlow xrange xcode xreadLow xreadRange ri ro rw xasked rin ria rik rif (by first | assumption | omega)) (va_cwU 0 hts (my_gU k733 k734 k737 k739 k3 k740) rfl rfl rfl rfl (by decide +kernel) ⟨by rw [hR]; exact Nat.le_of_ble_eq_true rfl, by rw [hR]; exact Nat.le_of_ble_eq_true rfl⟩) (my_preV hK hN (hP.sub [0, 1, 2] rfl) (hD.sub [0, 1, 2] (by decide +kernel) rfl) 0 rfl rfl) rfl rfl hl.1 rfl (lv_room (Nat.le_of_ble_eq_true rfl)) d_Ranged_openReading_2 ⟨by rw [hR]; exact Nat.le_of_ble_eq_true rfl, by rw [hR]; exact Nat.le_of_ble_eq_true rfl⟩) hP hD hS hA [0, 1, 2] [] rfl rfl (by decide +kernel) (by decide +kernel) (fun r_2 u9 H locs hw_2 hP hD hS => ?_)
  obtain ⟨xaskedq_2, rfl⟩ : ∃ z, z = u9 := ⟨_, rfl⟩
  have hPD : my_PD (dC, dI) vwCl A [(co, Sum.inr (1, [Value.int xcache, Value.int xpending, Value.long xlow, Value.long xrange, Value.long xcode, Value.long xreadLow, Value.long xreadRange, Value.ref ri, Value.ref ro, Value.ref rw, Value.int xaskedq_2])), (ri, Sum.inr (0, [Value.int rin, Value.ref ria])), (ria, Sum.inl (cI, rik, Sum.inl rif))] H := ⟨hP, hD⟩
  have hP := hPD.1
  have hD := hPD.2
  refine va_put (D := (dC, dI)) (ci := 1) (v := .long r_2) (ty := .long) (C := "RangeCoders$Carries") (T := T_Carries) (N := 11) hx hb hg in_Carries t_Carries o_Carries n_Carries hown hK hP hD hS 0 rfl rfl 4 (by decide) (hg _ k90) (fun _ h9 => h9) rfl (o_Carries 4 (by decide)) rfl rfl (Nat.le_of_ble_eq_true rfl) d_Ranged_openReading_5 (fun H locs hP hD hS => ?_)
  have hPD : my_PD (dC, dI) vwCl A [(co, Sum.inr (1, [Value.int xcache, Value.int xpending, Value.long xlow, Value.long xrange, Value.long r_2, Value.long xreadLow, Value.long xreadRange, Value.ref ri, Value.ref ro, Value.ref rw, Value.int xaskedq_2])), (ri, Sum.inr (0, [Value.int rin, Value.ref ria])), (ria, Sum.inl (cI, rik, Sum.inl rif))] H := ⟨hP, hD⟩
  have hP := hPD.1
  have hD := hPD.2
  refine lv_aload_n hx hb d_Ranged_openReading_8 rfl (lv_at hl 0 rfl) ?_
  refine lv_lconst (v := 0) hx hb d_Ranged_openReading_9 (by decide) ?_
  refine va_put (D := (dC, dI)) (ci := 1) (v := .long 0) (ty := .long) (C := "RangeCoders$Carries") (T := T_Carries) (N := 11) hx hb hg in_Carries t_Carries o_Carries n_Carries hown hK hP hD hS 0 rfl rfl 5 (by decide) (hg _ k93) (fun _ h9 => h9) rfl (o_Carries 5 (by decide)) rfl rfl (Nat.le_of_ble_eq_true rfl) d_Ranged_openReading_10 (fun H locs hP hD hS => ?_)
  have hPD : my_PD (dC, dI) vwCl A [(co, Sum.inr (1, [Value.int xcache, Value.int xpending, Value.long xlow, Value.long xrange, Value.long r_2, Value.long 0, Value.long xreadRange, Value.ref ri, Value.ref ro, Value.ref rw, Value.int xaskedq_2])), (ri, Sum.inr (0, [Value.int rin, Value.ref ria])), (ria, Sum.inl (cI, rik, Sum.inl rif))] H := ⟨hP, hD⟩
  have hP := hPD.1
  have hD := hPD.2
  refine lv_aload_n hx hb d_Ranged_openReading_13 rfl (lv_at hl 0 rfl) ?_
  refine lv_ldc2 (v := 4294967295) hx hb hown (hg _ k67) d_Ranged_openReading_14 ?_
  refine va_put (D := (dC, dI)) (ci := 1) (v := .long 4294967295) (ty := .long) (C := "RangeCoders$Carries") (T := T_Carries) (N := 11) hx hb hg in_Carries t_Carries o_Carries n_Carries hown hK hP hD hS 0 rfl rfl 6 (by decide) (hg _ k100) (fun _ h9 => h9) rfl (o_Carries 6 (by decide)) rfl rfl (Nat.le_of_ble_eq_true rfl) d_Ranged_openReading_17 (fun H locs hP hD hS => ?_)
  have hPD : my_PD (dC, dI) vwCl A [(co, Sum.inr (1, [Value.int xcache, Value.int xpending, Value.long xlow, Value.long xrange, Value.long r_2, Value.long 0, Value.long 4294967295, Value.ref ri, Value.ref ro, Value.ref rw, Value.int xaskedq_2])), (ri, Sum.inr (0, [Value.int rin, Value.ref ria])), (ria, Sum.inl (cI, rik, Sum.inl rif))] H := ⟨hP, hD⟩
  have hP := hPD.1
  have hD := hPD.2
  refine lv_iconst (v := 1) hx hb d_Ranged_openReading_20 (by decide) ?_
  exact my_iret (v := 1) hx hb hr (rfl) hlocks hQ hK hS (Nat.le_refl _) (Nat.le_refl _) (r_2, (0 : Int64), (4294967295 : Int64), xaskedq_2) (trivial) (hP.sub [0, 1, 2] rfl) (hD.sub [0, 1, 2] (by decide +kernel) rfl) d_Ranged_openReading_21
set_option maxHeartbeats 2000000 in
set_option maxRecDepth 100000 in
theorem c_Carries_Ranged_register (l : Launch) (dC : Nat → ClassId) (dI : Nat → Nat → Nat) (cI cM cO : ClassId) (sz : Nat) (co : Nat) (xcache : Int32) (xpending : Int32) (xlow : Int64) (xrange : Int64) (xcode : Int64) (xreadLow : Int64) (xreadRange : Int64) (ri : Nat) (ro : Nat) (rw : Nat) (xasked : Int32) (wh : Int32) : MetL l y_Ranged_register (Cond.code y_Ranged_register prog_8_method_13_code 2 (some .long) :: gw) ({ frames := 0, cells := 0, slots := 0, locals := 0 } : Room) (dC, dI) vwCl (kT cI cM cO) [Value.ref co, Value.int wh] [(co, Sum.inr (1, [Value.int xcache, Value.int xpending, Value.long xlow, Value.long xrange, Value.long xcode, Value.long xreadLow, Value.long xreadRange, Value.ref ri, Value.ref ro, Value.ref rw, Value.int xasked]))] sz (fun (r : Int64) (u : Unit) => True) (fun (u : Unit) => [(co, Sum.inr (1, [Value.int xcache, Value.int xpending, Value.long xlow, Value.long xrange, Value.long xcode, Value.long xreadLow, Value.long xreadRange, Value.ref ri, Value.ref ro, Value.ref rw, Value.int xasked]))]) 0 0 := by
  refine my_ofL (cc := prog_8_method_13_code) (n := 2) (ret := (some .long)) (by decide) rfl (Nat.le_of_ble_eq_true rfl) ?_
  intro p e s m args below meth c R Q A ls H locs hx hb hr hts hown hlocks hml hnm hR hQ hA hl hP hK hN hD hS
  have hg : ∀ w ∈ gw, w.before args s = true := fun w h => hts w (List.mem_cons_of_mem _ h)
  have hown : s.vm.findClass "RangeCoders$Ranged" = some m.cls := hown
  have hl : lv_has ls 2 [(0, Value.ref co), (1, Value.int wh)] := hl
  refine lv_iload_n hx hb d_Ranged_register_0 rfl (lv_at hl 1 rfl) ?_
  by_cases c_1 : wh = 0
  · refine lv_tableIn (tgt := 36) hx hb d_Ranged_register_1 (by rw [c_1]; decide) (by rw [c_1]; decide) (by rw [c_1]; rfl) (by decide) ?_
    refine lv_aload_n hx hb d_Ranged_register_36 rfl (lv_at hl 0 rfl) ?_
    refine va_get (D := (dC, dI)) (ci := 1) (v := .long xlow) (C := "RangeCoders$Carries") (T := T_Carries) (N := 11) hx hb hg in_Carries hown hK hP 0 rfl rfl 2 (by decide) (hg _ k74) (fun _ h9 => h9) rfl d_Ranged_register_37 ?_
    exact my_lret (v := xlow) hx hb hr hlocks hQ hK hS (Nat.le_refl _) (Nat.le_refl _) () (trivial) (hP.sub [0] rfl) (hD.sub [0] (by decide +kernel) rfl) d_Ranged_register_40
  by_cases c_2 : wh = 1
  · refine lv_tableIn (tgt := 41) hx hb d_Ranged_register_1 (by rw [c_2]; decide) (by rw [c_2]; decide) (by rw [c_2]; rfl) (by decide) ?_
    refine lv_aload_n hx hb d_Ranged_register_41 rfl (lv_at hl 0 rfl) ?_
    refine va_get (D := (dC, dI)) (ci := 1) (v := .long xrange) (C := "RangeCoders$Carries") (T := T_Carries) (N := 11) hx hb hg in_Carries hown hK hP 0 rfl rfl 3 (by decide) (hg _ k77) (fun _ h9 => h9) rfl d_Ranged_register_42 ?_
    exact my_lret (v := xrange) hx hb hr hlocks hQ hK hS (Nat.le_refl _) (Nat.le_refl _) () (trivial) (hP.sub [0] rfl) (hD.sub [0] (by decide +kernel) rfl) d_Ranged_register_45
  by_cases c_3 : wh = 2
  · refine lv_tableIn (tgt := 46) hx hb d_Ranged_register_1 (by rw [c_3]; decide) (by rw [c_3]; decide) (by rw [c_3]; rfl) (by decide) ?_
    refine lv_aload_n hx hb d_Ranged_register_46 rfl (lv_at hl 0 rfl) ?_
    refine va_get (D := (dC, dI)) (ci := 1) (v := .long xcode) (C := "RangeCoders$Carries") (T := T_Carries) (N := 11) hx hb hg in_Carries hown hK hP 0 rfl rfl 4 (by decide) (hg _ k90) (fun _ h9 => h9) rfl d_Ranged_register_47 ?_
    exact my_lret (v := xcode) hx hb hr hlocks hQ hK hS (Nat.le_refl _) (Nat.le_refl _) () (trivial) (hP.sub [0] rfl) (hD.sub [0] (by decide +kernel) rfl) d_Ranged_register_50
  by_cases c_4 : wh = 3
  · refine lv_tableIn (tgt := 51) hx hb d_Ranged_register_1 (by rw [c_4]; decide) (by rw [c_4]; decide) (by rw [c_4]; rfl) (by decide) ?_
    refine lv_aload_n hx hb d_Ranged_register_51 rfl (lv_at hl 0 rfl) ?_
    refine va_get (D := (dC, dI)) (ci := 1) (v := .long xreadLow) (C := "RangeCoders$Carries") (T := T_Carries) (N := 11) hx hb hg in_Carries hown hK hP 0 rfl rfl 5 (by decide) (hg _ k93) (fun _ h9 => h9) rfl d_Ranged_register_52 ?_
    exact my_lret (v := xreadLow) hx hb hr hlocks hQ hK hS (Nat.le_refl _) (Nat.le_refl _) () (trivial) (hP.sub [0] rfl) (hD.sub [0] (by decide +kernel) rfl) d_Ranged_register_55
  by_cases c_5 : wh = 4
  · refine lv_tableIn (tgt := 56) hx hb d_Ranged_register_1 (by rw [c_5]; decide) (by rw [c_5]; decide) (by rw [c_5]; rfl) (by decide) ?_
    refine lv_aload_n hx hb d_Ranged_register_56 rfl (lv_at hl 0 rfl) ?_
    refine va_get (D := (dC, dI)) (ci := 1) (v := .long xreadRange) (C := "RangeCoders$Carries") (T := T_Carries) (N := 11) hx hb hg in_Carries hown hK hP 0 rfl rfl 6 (by decide) (hg _ k100) (fun _ h9 => h9) rfl d_Ranged_register_57 ?_
    exact my_lret (v := xreadRange) hx hb hr hlocks hQ hK hS (Nat.le_refl _) (Nat.le_refl _) () (trivial) (hP.sub [0] rfl) (hD.sub [0] (by decide +kernel) rfl) d_Ranged_register_60
  refine lv_tableOut (tgt := 61) hx hb d_Ranged_register_1 (by have ac_1 : wh.toInt ≠ 0 := fun z => c_1 (Int32.toInt_inj.mp z); have ac_2 : wh.toInt ≠ 1 := fun z => c_2 (Int32.toInt_inj.mp z); have ac_3 : wh.toInt ≠ 2 := fun z => c_3 (Int32.toInt_inj.mp z); have ac_4 : wh.toInt ≠ 3 := fun z => c_4 (Int32.toInt_inj.mp z); have ac_5 : wh.toInt ≠ 4 := fun z => c_5 (Int32.toInt_inj.mp z); omega) (by decide) ?_
  refine lv_lconst (v := 0) hx hb d_Ranged_register_61 (by decide) ?_
  exact my_lret (v := 0) hx hb hr hlocks hQ hK hS (Nat.le_refl _) (Nat.le_refl _) () (trivial) (hP.sub [0] rfl) (hD.sub [0] (by decide +kernel) rfl) d_Ranged_register_62
end
section
set_option maxHeartbeats 2000000 in
set_option maxRecDepth 100000 in
theorem c_NoCarries_Coder_nextByte (l : Launch) (dC : Nat → ClassId) (dI : Nat → Nat → Nat) (cI cM cO : ClassId) (sz : Nat) (co : Nat) (xlow : Int64) (xrange : Int64) (xcode : Int64) (xreadLow : Int64) (xreadRange : Int64) (ri : Nat) (ro : Nat) (rw : Nat) (xasked : Int32) (rin : Int32) (ria : Nat) (rik : Nat) (rif : Nat → Int32) (hri : rOk rin rik) : MetI l y_Coder_nextByte (Cond.code y_Coder_nextByte prog_4_method_15_code 2 (some .int) :: gw) ({ frames := 2, cells := 0, slots := 0, locals := 42 } : Room) (dC, dI) vwCl (kT cI cM cO) [Value.ref co] [(co, Sum.inr (2, [Value.long xlow, Value.long xrange, Value.long xcode, Value.long xreadLow, Value.long xreadRange, Value.ref ri, Value.ref ro, Value.ref rw, Value.int xasked])), (ri, Sum.inr (0, [Value.int rin, Value.ref ria])), (ria, Sum.inl (cI, rik, Sum.inl rif))] sz (fun (r : Int32) (u : Int32) => True) (fun (u : Int32) => [(co, Sum.inr (2, [Value.long xlow, Value.long xrange, Value.long xcode, Value.long xreadLow, Value.long xreadRange, Value.ref ri, Value.ref ro, Value.ref rw, Value.int u])), (ri, Sum.inr (0, [Value.int rin, Value.ref ria])), (ria, Sum.inl (cI, rik, Sum.inl rif))]) 0 0 := by
  refine my_ofI (cc := prog_4_method_15_code) (n := 2) (ret := (some .int)) (by decide) rfl (Nat.le_of_ble_eq_true rfl) ?_
  intro p e s m args below meth c R Q A ls H locs hx hb hr hts hown hlocks hml hnm hR hQ hA hl hP hK hN hD hS
  have hg : ∀ w ∈ gw, w.before args s = true := fun w h => hts w (List.mem_cons_of_mem _ h)
  have hown : s.vm.findClass "RangeCoders$Coder" = some m.cls := hown
  have hl : lv_has ls 2 [(0, Value.ref co)] := hl
  have hlt_hri := rOk_lt hri
  refine lv_aload_n hx hb d_Coder_nextByte_0 rfl (lv_at hl 0 rfl) ?_
  refine va_get (D := (dC, dI)) (ci := 2) (v := .ref ri) (C := "RangeCoders$NoCarries") (T := T_NoCarries) (N := 9) hx hb hg in_NoCarries hown hK hP 0 rfl rfl 5 (by decide) (hg _ k101) (fun _ h9 => h9) rfl d_Coder_nextByte_1 ?_
  refine lv_aload_n hx hb d_Coder_nextByte_4 rfl (lv_at hl 0 rfl) ?_
  refine va_get (D := (dC, dI)) (ci := 2) (v := .int xasked) (C := "RangeCoders$NoCarries") (T := T_NoCarries) (N := 9) hx hb hg in_NoCarries hown hK hP 0 rfl rfl 8 (by decide) (hg _ k130) (fun _ h9 => h9) rfl d_Coder_nextByte_5 ?_
  refine my_ci (wr := [(co, Sum.inr (2, [Value.long xlow, Value.long xrange, Value.long xcode, Value.long xreadLow, Value.long xreadRange, Value.ref ri, Value.ref ro, Value.ref rw, Value.int xasked]))]) (va_runV (As := [Value.int xasked]) (rest := []) ⟨hx, hb, hml, hown, hts⟩ (c_Row_has l dC dI cI cM cO H.size ri rin ria rik rif xasked (by first | assumption | omega)) (cwV 1 hts (my_gV k750 k663 k664 k6 k665) rfl rfl rfl cu_Row_has_1 ⟨by rw [hR]; exact Nat.le_of_ble_eq_true rfl, by rw [hR]; exact Nat.le_of_ble_eq_true rfl⟩) (my_preV hK hN (hP.sub [1, 2] rfl) (hD.sub [1, 2] (by decide +kernel) rfl) 0 rfl rfl) rfl rfl hl.1 rfl (lv_room (Nat.le_of_ble_eq_true rfl)) d_Coder_nextByte_8 ⟨by rw [hR]; exact Nat.le_of_ble_eq_true rfl, by rw [hR]; exact Nat.le_of_ble_eq_true rfl⟩) hP hD hS hA [1, 2] [0] rfl rfl (by decide +kernel) (by decide +kernel) (fun r_8 u9 H locs hw_8 hP hD hS => ?_)
  have hr_8 : r_8 ≠ 0 → vp_in xasked rik := hw_8
  have hPD : my_PD (dC, dI) vwCl A [(co, Sum.inr (2, [Value.long xlow, Value.long xrange, Value.long xcode, Value.long xreadLow, Value.long xreadRange, Value.ref ri, Value.ref ro, Value.ref rw, Value.int xasked])), (ri, Sum.inr (0, [Value.int rin, Value.ref ria])), (ria, Sum.inl (cI, rik, Sum.inl rif))] H := ⟨hP, hD⟩
  have hP := hPD.1
  have hD := hPD.2
  refine lv_if_eq (tgt := 28) hx hb d_Coder_nextByte_11 (by decide) (fun c_1 => ?_) (fun c_1 => ?_)
  · refine lv_iconst (v := 0) hx hb d_Coder_nextByte_28 (by decide) ?_
    refine lv_istore_n (lv' := [(1, Value.int 0), (0, Value.ref co)]) hx hb d_Coder_nextByte_29 rfl hl (by decide) rfl (fun ls hl => ?_)
    refine lv_aload_n hx hb d_Coder_nextByte_30 rfl (lv_at hl 1 rfl) ?_
    refine lv_dup hx hb d_Coder_nextByte_31 rfl ?_
    refine va_get (D := (dC, dI)) (ci := 2) (v := .int xasked) (C := "RangeCoders$NoCarries") (T := T_NoCarries) (N := 9) hx hb hg in_NoCarries hown hK hP 0 rfl rfl 8 (by decide) (hg _ k130) (fun _ h9 => h9) rfl d_Coder_nextByte_32 ?_
    refine lv_iconst (v := 1) hx hb d_Coder_nextByte_35 (by decide) ?_
    refine lv_iadd hx hb d_Coder_nextByte_36 ?_
    refine lv_topi (fun v_2 ev_2 => ?_)
    refine va_put (D := (dC, dI)) (ci := 2) (v := .int v_2) (ty := .int) (C := "RangeCoders$NoCarries") (T := T_NoCarries) (N := 9) hx hb hg in_NoCarries t_NoCarries o_NoCarries n_NoCarries hown hK hP hD hS 0 rfl rfl 8 (by decide) (hg _ k130) (fun _ h9 => h9) rfl (o_NoCarries 8 (by decide)) rfl rfl (Nat.le_of_ble_eq_true rfl) d_Coder_nextByte_37 (fun H locs hP hD hS => ?_)
    have hPD : my_PD (dC, dI) vwCl A [(co, Sum.inr (2, [Value.long xlow, Value.long xrange, Value.long xcode, Value.long xreadLow, Value.long xreadRange, Value.ref ri, Value.ref ro, Value.ref rw, Value.int v_2])), (ri, Sum.inr (0, [Value.int rin, Value.ref ria])), (ria, Sum.inl (cI, rik, Sum.inl rif))] H := ⟨hP, hD⟩
    have hP := hPD.1
    have hD := hPD.2
    refine lv_iload_n hx hb d_Coder_nextByte_40 rfl (lv_at hl 0 rfl) ?_
    exact my_iret (v := 0) hx hb hr (rfl) hlocks hQ hK hS (Nat.le_refl _) (Nat.le_refl _) (v_2) (trivial) (hP.sub [0, 1, 2] rfl) (hD.sub [0, 1, 2] (by decide +kernel) rfl) d_Coder_nextByte_41
  · refine lv_aload_n hx hb d_Coder_nextByte_14 rfl (lv_at hl 0 rfl) ?_
    refine va_get (D := (dC, dI)) (ci := 2) (v := .ref ri) (C := "RangeCoders$NoCarries") (T := T_NoCarries) (N := 9) hx hb hg in_NoCarries hown hK hP 0 rfl rfl 5 (by decide) (hg _ k101) (fun _ h9 => h9) rfl d_Coder_nextByte_15 ?_
    refine lv_aload_n hx hb d_Coder_nextByte_18 rfl (lv_at hl 0 rfl) ?_
    refine va_get (D := (dC, dI)) (ci := 2) (v := .int xasked) (C := "RangeCoders$NoCarries") (T := T_NoCarries) (N := 9) hx hb hg in_NoCarries hown hK hP 0 rfl rfl 8 (by decide) (hg _ k130) (fun _ h9 => h9) rfl d_Coder_nextByte_19 ?_
    refine my_ci (wr := [(co, Sum.inr (2, [Value.long xlow, Value.long xrange, Value.long xcode, Value.long xreadLow, Value.long xreadRange, Value.ref ri, Value.ref ro, Value.ref rw, Value.int xasked]))]) (va_runV (As := [Value.int xasked]) (rest := []) ⟨hx, hb, hml, hown, hts⟩ (c_Row_at l dC dI cI cM cO H.size ri rin ria rik rif xasked (by first | assumption | omega)) (cwV 1 hts (my_gV k751 k659 k660 k6 k661) rfl rfl rfl cu_Row_at_1 ⟨by rw [hR]; exact Nat.le_of_ble_eq_true rfl, by rw [hR]; exact Nat.le_of_ble_eq_true rfl⟩) (my_preV hK hN (hP.sub [1, 2] rfl) (hD.sub [1, 2] (by decide +kernel) rfl) 0 rfl rfl) rfl rfl hl.1 rfl (lv_room (Nat.le_of_ble_eq_true rfl)) d_Coder_nextByte_22 ⟨by rw [hR]; exact Nat.le_of_ble_eq_true rfl, by rw [hR]; exact Nat.le_of_ble_eq_true rfl⟩) hP hD hS hA [1, 2] [0] rfl rfl (by decide +kernel) (by decide +kernel) (fun r_22 u9 H locs hw_22 hP hD hS => ?_)
    have hPD : my_PD (dC, dI) vwCl A [(co, Sum.inr (2, [Value.long xlow, Value.long xrange, Value.long xcode, Value.long xreadLow, Value.long xreadRange, Value.ref ri, Value.ref ro, Value.ref rw, Value.int xasked])), (ri, Sum.inr (0, [Value.int rin, Value.ref ria])), (ria, Sum.inl (cI, rik, Sum.inl rif))] H := ⟨hP, hD⟩
    have hP := hPD.1
    have hD := hPD.2
    refine lv_goto (tgt := 29) hx hb d_Coder_nextByte_25 (by decide) ?_
    refine lv_istore_n (lv' := [(1, Value.int r_22), (0, Value.ref co)]) hx hb d_Coder_nextByte_29 rfl hl (by decide) rfl (fun ls hl => ?_)
    refine lv_aload_n hx hb d_Coder_nextByte_30 rfl (lv_at hl 1 rfl) ?_
    refine lv_dup hx hb d_Coder_nextByte_31 rfl ?_
    refine va_get (D := (dC, dI)) (ci := 2) (v := .int xasked) (C := "RangeCoders$NoCarries") (T := T_NoCarries) (N := 9) hx hb hg in_NoCarries hown hK hP 0 rfl rfl 8 (by decide) (hg _ k130) (fun _ h9 => h9) rfl d_Coder_nextByte_32 ?_
    refine lv_iconst (v := 1) hx hb d_Coder_nextByte_35 (by decide) ?_
    refine lv_iadd hx hb d_Coder_nextByte_36 ?_
    refine lv_topi (fun v_3 ev_3 => ?_)
    refine va_put (D := (dC, dI)) (ci := 2) (v := .int v_3) (ty := .int) (C := "RangeCoders$NoCarries") (T := T_NoCarries) (N := 9) hx hb hg in_NoCarries t_NoCarries o_NoCarries n_NoCarries hown hK hP hD hS 0 rfl rfl 8 (by decide) (hg _ k130) (fun _ h9 => h9) rfl (o_NoCarries 8 (by decide)) rfl rfl (Nat.le_of_ble_eq_true rfl) d_Coder_nextByte_37 (fun H locs hP hD hS => ?_)
    have hPD : my_PD (dC, dI) vwCl A [(co, Sum.inr (2, [Value.long xlow, Value.long xrange, Value.long xcode, Value.long xreadLow, Value.long xreadRange, Value.ref ri, Value.ref ro, Value.ref rw, Value.int v_3])), (ri, Sum.inr (0, [Value.int rin, Value.ref ria])), (ria, Sum.inl (cI, rik, Sum.inl rif))] H := ⟨hP, hD⟩
    have hP := hPD.1
    have hD := hPD.2
    refine lv_iload_n hx hb d_Coder_nextByte_40 rfl (lv_at hl 0 rfl) ?_
    exact my_iret (v := r_22) hx hb hr (rfl) hlocks hQ hK hS (Nat.le_refl _) (Nat.le_refl _) (v_3) (trivial) (hP.sub [0, 1, 2] rfl) (hD.sub [0, 1, 2] (by decide +kernel) rfl) d_Coder_nextByte_41
set_option maxHeartbeats 2000000 in
set_option maxRecDepth 100000 in
theorem c_NoCarries_Coder_firstFourBytes (l : Launch) (dC : Nat → ClassId) (dI : Nat → Nat → Nat) (cI cM cO : ClassId) (sz : Nat) (co : Nat) (xlow : Int64) (xrange : Int64) (xcode : Int64) (xreadLow : Int64) (xreadRange : Int64) (ri : Nat) (ro : Nat) (rw : Nat) (xasked : Int32) (rin : Int32) (ria : Nat) (rik : Nat) (rif : Nat → Int32) (hri : rOk rin rik) : MetL l y_Coder_firstFourBytes (Cond.code y_Coder_firstFourBytes prog_4_method_16_code 4 (some .long) :: gw) ({ frames := 3, cells := 0, slots := 0, locals := 63 } : Room) (dC, dI) vwCl (kT cI cM cO) [Value.ref co] [(co, Sum.inr (2, [Value.long xlow, Value.long xrange, Value.long xcode, Value.long xreadLow, Value.long xreadRange, Value.ref ri, Value.ref ro, Value.ref rw, Value.int xasked])), (ri, Sum.inr (0, [Value.int rin, Value.ref ria])), (ria, Sum.inl (cI, rik, Sum.inl rif))] sz (fun (r : Int64) (u : Int32) => True) (fun (u : Int32) => [(co, Sum.inr (2, [Value.long xlow, Value.long xrange, Value.long xcode, Value.long xreadLow, Value.long xreadRange, Value.ref ri, Value.ref ro, Value.ref rw, Value.int u])), (ri, Sum.inr (0, [Value.int rin, Value.ref ria])), (ria, Sum.inl (cI, rik, Sum.inl rif))]) 0 0 := by
  refine my_ofL (cc := prog_4_method_16_code) (n := 4) (ret := (some .long)) (by decide) rfl (Nat.le_of_ble_eq_true rfl) ?_
  intro p e s m args below meth c R Q A ls H locs hx hb hr hts hown hlocks hml hnm hR hQ hA hl hP hK hN hD hS
  have hg : ∀ w ∈ gw, w.before args s = true := fun w h => hts w (List.mem_cons_of_mem _ h)
  have hown : s.vm.findClass "RangeCoders$Coder" = some m.cls := hown
  have hl : lv_has ls 4 [(0, Value.ref co)] := hl
  have hlt_hri := rOk_lt hri
  refine lv_aload_n hx hb d_Coder_firstFourBytes_0 rfl (lv_at hl 0 rfl) ?_
  refine lv_iconst (v := 0) hx hb d_Coder_firstFourBytes_1 (by decide) ?_
  refine va_put (D := (dC, dI)) (ci := 2) (v := .int 0) (ty := .int) (C := "RangeCoders$NoCarries") (T := T_NoCarries) (N := 9) hx hb hg in_NoCarries t_NoCarries o_NoCarries n_NoCarries hown hK hP hD hS 0 rfl rfl 8 (by decide) (hg _ k130) (fun _ h9 => h9) rfl (o_NoCarries 8 (by decide)) rfl rfl (Nat.le_of_ble_eq_true rfl) d_Coder_firstFourBytes_2 (fun H locs hP hD hS => ?_)
  have hPD : my_PD (dC, dI) vwCl A [(co, Sum.inr (2, [Value.long xlow, Value.long xrange, Value.long xcode, Value.long xreadLow, Value.long xreadRange, Value.ref ri, Value.ref ro, Value.ref rw, Value.int 0])), (ri, Sum.inr (0, [Value.int rin, Value.ref ria])), (ria, Sum.inl (cI, rik, Sum.inl rif))] H := ⟨hP, hD⟩
  have hP := hPD.1
  have hD := hPD.2
  refine lv_lconst (v := 0) hx hb d_Coder_firstFourBytes_5 (by decide) ?_
  refine lv_lstore_n (lv' := [(1, Value.long 0), (0, Value.ref co)]) hx hb d_Coder_firstFourBytes_6 rfl hl (by decide) rfl (fun ls hl => ?_)
  refine lv_iconst (v := 0) hx hb d_Coder_firstFourBytes_7 (by decide) ?_
  refine lv_istore_n (lv' := [(3, Value.int 0), (1, Value.long 0), (0, Value.ref co)]) hx hb d_Coder_firstFourBytes_8 rfl hl (by decide) rfl (fun ls hl => ?_)
  have J_9 : ∀ (n9_9 : Nat) (b9_0 : Int32) (b9_1 : Int64) (b9_2 : Int32) (hn9_9 : ((4 : Int32).toInt - b9_0.toInt).toNat = n9_9) (hi_9 : 0 ≤ b9_0.toInt) (H : Heap) (locs : List Loc) (ls : Array Slot), va_P (dC, dI) vwCl [(co, Sum.inr (2, [Value.long xlow, Value.long xrange, Value.long xcode, Value.long xreadLow, Value.long xreadRange, Value.ref ri, Value.ref ro, Value.ref rw, Value.int b9_2])), (ri, Sum.inr (0, [Value.int rin, Value.ref ria])), (ria, Sum.inl (cI, rik, Sum.inl rif))] H → va_D A [(co, Sum.inr (2, [Value.long xlow, Value.long xrange, Value.long xcode, Value.long xreadLow, Value.long xreadRange, Value.ref ri, Value.ref ro, Value.ref rw, Value.int b9_2])), (ri, Sum.inr (0, [Value.int rin, Value.ref ria])), (ria, Sum.inl (cI, rik, Sum.inl rif))] → va_S A s.heap H locs → lv_has ls 4 [(3, Value.int b9_0), (1, Value.long b9_1), (0, Value.ref co)] → W p l e R s m args below meth c H locs 0 0 Q (F0 m 9 ls []) := by
    intro n9_9
    induction n9_9 using Nat.strongRecOn with
    | ind n9_9 ih9_9 =>
      intro b9_0 b9_1 b9_2 hn9_9 hi_9 H locs ls hP hD hS hl
      refine lv_iload_n hx hb d_Coder_firstFourBytes_9 rfl (lv_at hl 0 rfl) ?_
      refine lv_iconst (v := 4) hx hb d_Coder_firstFourBytes_10 (by decide) ?_
      refine lv_icmp_ge (tgt := 31) hx hb d_Coder_firstFourBytes_11 (by decide) (fun c_1 => ?_) (fun c_1 => ?_)
      · refine lv_lload_n hx hb d_Coder_firstFourBytes_31 rfl (lv_at hl 1 rfl) ?_
        exact my_lret (v := b9_1) hx hb hr hlocks hQ hK hS (Nat.le_refl _) (Nat.le_refl _) (b9_2) (trivial) (hP.sub [0, 1, 2] rfl) (hD.sub [0, 1, 2] (by decide +kernel) rfl) d_Coder_firstFourBytes_32
      · refine lv_lload_n hx hb d_Coder_firstFourBytes_14 rfl (lv_at hl 1 rfl) ?_
        refine lv_bipush (v := 8) hx hb d_Coder_firstFourBytes_15 (by decide) ?_
        refine lv_lshl hx hb d_Coder_firstFourBytes_17 rfl ?_
        refine lv_topl (fun v_2 ev_2 => ?_)
        refine lv_aload_n hx hb d_Coder_firstFourBytes_18 rfl (lv_at hl 2 rfl) ?_
        refine my_ci (wr := []) (va_runU (As := []) (rest := [Value.long v_2]) ⟨hx, hb, hml, hown, hts⟩ (c_NoCarries_Coder_nextByte l dC dI cI cM cO H.size co xlow xrange xcode xreadLow xreadRange ri ro rw b9_2 rin ria rik rif (by first | assumption | omega)) (va_cwU 0 hts (my_gU k741 k743 k746 k742 k3 k749) rfl rfl rfl rfl (by decide +kernel) ⟨by rw [hR]; exact Nat.le_of_ble_eq_true rfl, by rw [hR]; exact Nat.le_of_ble_eq_true rfl⟩) (my_preV hK hN (hP.sub [0, 1, 2] rfl) (hD.sub [0, 1, 2] (by decide +kernel) rfl) 0 rfl rfl) rfl rfl hl.1 rfl (lv_room (Nat.le_of_ble_eq_true rfl)) d_Coder_firstFourBytes_19 ⟨by rw [hR]; exact Nat.le_of_ble_eq_true rfl, by rw [hR]; exact Nat.le_of_ble_eq_true rfl⟩) hP hD hS hA [0, 1, 2] [] rfl rfl (by decide +kernel) (by decide +kernel) (fun r_19 u9 H locs hw_19 hP hD hS => ?_)
        obtain ⟨xaskedq_19, rfl⟩ : ∃ z, z = u9 := ⟨_, rfl⟩
        have hPD : my_PD (dC, dI) vwCl A [(co, Sum.inr (2, [Value.long xlow, Value.long xrange, Value.long xcode, Value.long xreadLow, Value.long xreadRange, Value.ref ri, Value.ref ro, Value.ref rw, Value.int xaskedq_19])), (ri, Sum.inr (0, [Value.int rin, Value.ref ria])), (ria, Sum.inl (cI, rik, Sum.inl rif))] H := ⟨hP, hD⟩
        have hP := hPD.1
        have hD := hPD.2
        refine lv_i2l hx hb d_Coder_firstFourBytes_22 rfl ?_
        refine lv_topl (fun v_3 ev_3 => ?_)
        refine lv_lor hx hb d_Coder_firstFourBytes_23 ?_
        refine lv_topl (fun v_4 ev_4 => ?_)
        refine lv_lstore_n (lv' := [(1, Value.long v_4), (3, Value.int b9_0), (0, Value.ref co)]) hx hb d_Coder_firstFourBytes_24 rfl hl (by decide) rfl (fun ls hl => ?_)
        obtain ⟨v_5, ev_5⟩ : ∃ y : Int32, y = b9_0 + (1) := ⟨_, rfl⟩
        refine lv_iinc (v := v_5) (lv' := [(3, Value.int v_5), (1, Value.long v_4), (0, Value.ref co)]) hx hb d_Coder_firstFourBytes_25 hl (k := 1) rfl (by rw [ev_5]; rfl) (by decide) rfl (fun ls hl => ?_)
        refine lv_goto (tgt := 9) hx hb d_Coder_firstFourBytes_28 (by decide) ?_
        exact ih9_9 _ (by first | omega | (have z9 := I_up c_1 ev_5; omega)) v_5 v_4 xaskedq_19 rfl (by have z9 := I_up c_1 ev_5; omega) H locs ls (hP.sub [0, 1, 2] rfl) (hD.sub [0, 1, 2] (by decide +kernel) rfl) hS (lv_sub hl [0, 1, 2] rfl)
  exact J_9 _ (0 : Int32) (0 : Int64) (0 : Int32) rfl (by first | decide | assumption | omega) H locs ls (hP.sub [0, 1, 2] rfl) (hD.sub [0, 1, 2] (by decide +kernel) rfl) hS (lv_sub hl [0, 1, 2] rfl)
set_option maxHeartbeats 2000000 in
set_option maxRecDepth 100000 in
theorem c_NoCarries_Coder_hasWidth (l : Launch) (dC : Nat → ClassId) (dI : Nat → Nat → Nat) (cI cM cO : ClassId) (sz : Nat) (co : Nat) (xlow : Int64) (xrange : Int64) (xcode : Int64) (xreadLow : Int64) (xreadRange : Int64) (ri : Nat) (ro : Nat) (rw : Nat) (xasked : Int32) (wd : Int32) : MetI l y_Coder_hasWidth (Cond.code y_Coder_hasWidth prog_4_method_13_code 2 (some .boolean) :: gw) ({ frames := 0, cells := 0, slots := 0, locals := 0 } : Room) (dC, dI) vwCl (kT cI cM cO) [Value.ref co, Value.int wd] [(co, Sum.inr (2, [Value.long xlow, Value.long xrange, Value.long xcode, Value.long xreadLow, Value.long xreadRange, Value.ref ri, Value.ref ro, Value.ref rw, Value.int xasked]))] sz (fun (r : Int32) (u : Unit) => True) (fun (u : Unit) => [(co, Sum.inr (2, [Value.long xlow, Value.long xrange, Value.long xcode, Value.long xreadLow, Value.long xreadRange, Value.ref ri, Value.ref ro, Value.ref rw, Value.int xasked]))]) 0 0 := by
  refine my_ofI (cc := prog_4_method_13_code) (n := 2) (ret := (some .boolean)) (by decide) rfl (Nat.le_of_ble_eq_true rfl) ?_
  intro p e s m args below meth c R Q A ls H locs hx hb hr hts hown hlocks hml hnm hR hQ hA hl hP hK hN hD hS
  have hg : ∀ w ∈ gw, w.before args s = true := fun w h => hts w (List.mem_cons_of_mem _ h)
  have hown : s.vm.findClass "RangeCoders$Coder" = some m.cls := hown
  have hl : lv_has ls 2 [(0, Value.ref co), (1, Value.int wd)] := hl
  refine lv_iload_n hx hb d_Coder_hasWidth_0 rfl (lv_at hl 1 rfl) ?_
  refine lv_iconst (v := 1) hx hb d_Coder_hasWidth_1 (by decide) ?_
  refine lv_icmp_lt (tgt := 15) hx hb d_Coder_hasWidth_2 (by decide) (fun c_1 => ?_) (fun c_1 => ?_)
  · refine lv_iconst (v := 0) hx hb d_Coder_hasWidth_15 (by decide) ?_
    exact my_iret (v := 0) hx hb hr (rfl) hlocks hQ hK hS (Nat.le_refl _) (Nat.le_refl _) () (trivial) (hP.sub [0] rfl) (hD.sub [0] (by decide +kernel) rfl) d_Coder_hasWidth_16
  · refine lv_iload_n hx hb d_Coder_hasWidth_5 rfl (lv_at hl 1 rfl) ?_
    refine lv_bipush (v := 12) hx hb d_Coder_hasWidth_6 (by decide) ?_
    refine lv_icmp_gt (tgt := 15) hx hb d_Coder_hasWidth_8 (by decide) (fun c_2 => ?_) (fun c_2 => ?_)
    · refine lv_iconst (v := 0) hx hb d_Coder_hasWidth_15 (by decide) ?_
      exact my_iret (v := 0) hx hb hr (rfl) hlocks hQ hK hS (Nat.le_refl _) (Nat.le_refl _) () (trivial) (hP.sub [0] rfl) (hD.sub [0] (by decide +kernel) rfl) d_Coder_hasWidth_16
    · refine lv_iconst (v := 1) hx hb d_Coder_hasWidth_11 (by decide) ?_
      refine lv_goto (tgt := 16) hx hb d_Coder_hasWidth_12 (by decide) ?_
      exact my_iret (v := 1) hx hb hr (rfl) hlocks hQ hK hS (Nat.le_refl _) (Nat.le_refl _) () (trivial) (hP.sub [0] rfl) (hD.sub [0] (by decide +kernel) rfl) d_Coder_hasWidth_16
set_option maxHeartbeats 2000000 in
set_option maxRecDepth 100000 in
theorem c_NoCarries_Coder_bytesAsked (l : Launch) (dC : Nat → ClassId) (dI : Nat → Nat → Nat) (cI cM cO : ClassId) (sz : Nat) (co : Nat) (xlow : Int64) (xrange : Int64) (xcode : Int64) (xreadLow : Int64) (xreadRange : Int64) (ri : Nat) (ro : Nat) (rw : Nat) (xasked : Int32) : MetI l y_Coder_bytesAsked (Cond.code y_Coder_bytesAsked prog_4_method_14_code 1 (some .int) :: gw) ({ frames := 0, cells := 0, slots := 0, locals := 0 } : Room) (dC, dI) vwCl (kT cI cM cO) [Value.ref co] [(co, Sum.inr (2, [Value.long xlow, Value.long xrange, Value.long xcode, Value.long xreadLow, Value.long xreadRange, Value.ref ri, Value.ref ro, Value.ref rw, Value.int xasked]))] sz (fun (r : Int32) (u : Unit) => True) (fun (u : Unit) => [(co, Sum.inr (2, [Value.long xlow, Value.long xrange, Value.long xcode, Value.long xreadLow, Value.long xreadRange, Value.ref ri, Value.ref ro, Value.ref rw, Value.int xasked]))]) 0 0 := by
  refine my_ofI (cc := prog_4_method_14_code) (n := 1) (ret := (some .int)) (by decide) rfl (Nat.le_of_ble_eq_true rfl) ?_
  intro p e s m args below meth c R Q A ls H locs hx hb hr hts hown hlocks hml hnm hR hQ hA hl hP hK hN hD hS
  have hg : ∀ w ∈ gw, w.before args s = true := fun w h => hts w (List.mem_cons_of_mem _ h)
  have hown : s.vm.findClass "RangeCoders$Coder" = some m.cls := hown
  have hl : lv_has ls 1 [(0, Value.ref co)] := hl
  refine lv_aload_n hx hb d_Coder_bytesAsked_0 rfl (lv_at hl 0 rfl) ?_
  refine va_get (D := (dC, dI)) (ci := 2) (v := .int xasked) (C := "RangeCoders$NoCarries") (T := T_NoCarries) (N := 9) hx hb hg in_NoCarries hown hK hP 0 rfl rfl 8 (by decide) (hg _ k130) (fun _ h9 => h9) rfl d_Coder_bytesAsked_1 ?_
  exact my_iret (v := xasked) hx hb hr (rfl) hlocks hQ hK hS (Nat.le_refl _) (Nat.le_refl _) () (trivial) (hP.sub [0] rfl) (hD.sub [0] (by decide +kernel) rfl) d_Coder_bytesAsked_4
set_option maxHeartbeats 2000000 in
set_option maxRecDepth 100000 in
theorem c_NoCarries_sameTop (l : Launch) (dC : Nat → ClassId) (dI : Nat → Nat → Nat) (cI cM cO : ClassId) (sz : Nat) (lw : Int64) (rg : Int64) : MetI l y_NoCarries_sameTop (Cond.code y_NoCarries_sameTop prog_6_method_6_code 4 (some .boolean) :: gw) ({ frames := 0, cells := 0, slots := 0, locals := 0 } : Room) (dC, dI) vwCl (kT cI cM cO) [Value.long lw, Value.long rg] [] sz (fun (r : Int32) (u : Unit) => True) (fun (u : Unit) => []) 0 0 := by
  refine my_ofI (cc := prog_6_method_6_code) (n := 4) (ret := (some .boolean)) (by decide) rfl (Nat.le_of_ble_eq_true rfl) ?_
  intro p e s m args below meth c R Q A ls H locs hx hb hr hts hown hlocks hml hnm hR hQ hA hl hP hK hN hD hS
  have hg : ∀ w ∈ gw, w.before args s = true := fun w h => hts w (List.mem_cons_of_mem _ h)
  have hown : s.vm.findClass "RangeCoders$NoCarries" = some m.cls := hown
  have hl : lv_has ls 4 [(0, Value.long lw), (2, Value.long rg)] := hl
  refine lv_lload_n hx hb d_NoCarries_sameTop_0 rfl (lv_at hl 0 rfl) ?_
  refine lv_bipush (v := 24) hx hb d_NoCarries_sameTop_1 (by decide) ?_
  refine lv_lushr hx hb d_NoCarries_sameTop_3 rfl ?_
  refine lv_topl (fun v_1 ev_1 => ?_)
  refine lv_lload_n hx hb d_NoCarries_sameTop_4 rfl (lv_at hl 0 rfl) ?_
  refine lv_lload_n hx hb d_NoCarries_sameTop_5 rfl (lv_at hl 1 rfl) ?_
  refine lv_ladd hx hb d_NoCarries_sameTop_6 ?_
  refine lv_topl (fun v_2 ev_2 => ?_)
  refine lv_ldc2 (v := 4294967295) hx hb hown (hg _ k509) d_NoCarries_sameTop_7 ?_
  refine lv_land hx hb d_NoCarries_sameTop_10 ?_
  refine lv_topl (fun v_3 ev_3 => ?_)
  refine lv_bipush (v := 24) hx hb d_NoCarries_sameTop_11 (by decide) ?_
  refine lv_lushr hx hb d_NoCarries_sameTop_13 rfl ?_
  refine lv_topl (fun v_4 ev_4 => ?_)
  refine W.lcmp hx hb d_NoCarries_sameTop_14 ?_
  refine lv_if_ne (tgt := 22) hx hb d_NoCarries_sameTop_15 (by decide) (fun c_5 => ?_) (fun c_5 => ?_)
  · rw [lg_cmp_eq] at c_5
    refine lv_iconst (v := 0) hx hb d_NoCarries_sameTop_22 (by decide) ?_
    exact my_iret (v := 0) hx hb hr (rfl) hlocks hQ hK hS (Nat.le_refl _) (Nat.le_refl _) () (trivial) (hP.sub [] rfl) (hD.sub [] (by decide +kernel) rfl) d_NoCarries_sameTop_23
  · rw [lg_cmp_eq] at c_5
    refine lv_iconst (v := 1) hx hb d_NoCarries_sameTop_18 (by decide) ?_
    refine lv_goto (tgt := 23) hx hb d_NoCarries_sameTop_19 (by decide) ?_
    exact my_iret (v := 1) hx hb hr (rfl) hlocks hQ hK hS (Nat.le_refl _) (Nat.le_refl _) () (trivial) (hP.sub [] rfl) (hD.sub [] (by decide +kernel) rfl) d_NoCarries_sameTop_23
set_option maxHeartbeats 2000000 in
set_option maxRecDepth 100000 in
theorem c_NoCarries_mustMove (l : Launch) (dC : Nat → ClassId) (dI : Nat → Nat → Nat) (cI cM cO : ClassId) (sz : Nat) (lw : Int64) (rg : Int64) : MetI l y_NoCarries_mustMove (Cond.code y_NoCarries_mustMove prog_6_method_7_code 4 (some .boolean) :: gw) ({ frames := 1, cells := 0, slots := 0, locals := 23 } : Room) (dC, dI) vwCl (kT cI cM cO) [Value.long lw, Value.long rg] [] sz (fun (r : Int32) (u : Unit) => True) (fun (u : Unit) => []) 0 0 := by
  refine my_ofI (cc := prog_6_method_7_code) (n := 4) (ret := (some .boolean)) (by decide) rfl (Nat.le_of_ble_eq_true rfl) ?_
  intro p e s m args below meth c R Q A ls H locs hx hb hr hts hown hlocks hml hnm hR hQ hA hl hP hK hN hD hS
  have hg : ∀ w ∈ gw, w.before args s = true := fun w h => hts w (List.mem_cons_of_mem _ h)
  have hown : s.vm.findClass "RangeCoders$NoCarries" = some m.cls := hown
  have hl : lv_has ls 4 [(0, Value.long lw), (2, Value.long rg)] := hl
  refine lv_lload_n hx hb d_NoCarries_mustMove_0 rfl (lv_at hl 0 rfl) ?_
  refine lv_lload_n hx hb d_NoCarries_mustMove_1 rfl (lv_at hl 1 rfl) ?_
  refine my_ci (wr := []) (va_runS (As := [Value.long lw, Value.long rg]) (rest := []) ⟨hx, hb, hml, hown, hts⟩ (c_NoCarries_sameTop l dC dI cI cM cO H.size lw rg) (cwS 2 hts (my_gS k513 k514 k7 k515) rfl rfl rfl (by decide +kernel) ⟨by rw [hR]; exact Nat.le_of_ble_eq_true rfl, by rw [hR]; exact Nat.le_of_ble_eq_true rfl⟩) (my_pre hK hN (hP.sub [] rfl) (hD.sub [] (by decide +kernel) rfl)) rfl rfl hl.1 rfl (lv_room (Nat.le_of_ble_eq_true rfl)) d_NoCarries_mustMove_2 ⟨by rw [hR]; exact Nat.le_of_ble_eq_true rfl, by rw [hR]; exact Nat.le_of_ble_eq_true rfl⟩) hP hD hS hA [] [] rfl rfl (by decide +kernel) (by decide +kernel) (fun r_2 u9 H locs hw_2 hP hD hS => ?_)
  have hPD : my_PD (dC, dI) vwCl A [] H := ⟨hP, hD⟩
  have hP := hPD.1
  have hD := hPD.2
  refine lv_if_ne (tgt := 16) hx hb d_NoCarries_mustMove_5 (by decide) (fun c_1 => ?_) (fun c_1 => ?_)
  · refine lv_iconst (v := 1) hx hb d_NoCarries_mustMove_16 (by decide) ?_
    refine lv_goto (tgt := 21) hx hb d_NoCarries_mustMove_17 (by decide) ?_
    exact my_iret (v := 1) hx hb hr (rfl) hlocks hQ hK hS (Nat.le_refl _) (Nat.le_refl _) () (trivial) (hP.sub [] rfl) (hD.sub [] (by decide +kernel) rfl) d_NoCarries_mustMove_21
  · refine lv_lload_n hx hb d_NoCarries_mustMove_8 rfl (lv_at hl 1 rfl) ?_
    refine lv_ldc2 (v := 65536) hx hb hown (hg _ k516) d_NoCarries_mustMove_9 ?_
    refine W.lcmp hx hb d_NoCarries_mustMove_12 ?_
    refine lv_if_ge (tgt := 20) hx hb d_NoCarries_mustMove_13 (by decide) (fun c_2 => ?_) (fun c_2 => ?_)
    · rw [lg_cmp_ge] at c_2
      refine lv_iconst (v := 0) hx hb d_NoCarries_mustMove_20 (by decide) ?_
      exact my_iret (v := 0) hx hb hr (rfl) hlocks hQ hK hS (Nat.le_refl _) (Nat.le_refl _) () (trivial) (hP.sub [] rfl) (hD.sub [] (by decide +kernel) rfl) d_NoCarries_mustMove_21
    · rw [lg_cmp_ge] at c_2
      refine lv_iconst (v := 1) hx hb d_NoCarries_mustMove_16 (by decide) ?_
      refine lv_goto (tgt := 21) hx hb d_NoCarries_mustMove_17 (by decide) ?_
      exact my_iret (v := 1) hx hb hr (rfl) hlocks hQ hK hS (Nat.le_refl _) (Nat.le_refl _) () (trivial) (hP.sub [] rfl) (hD.sub [] (by decide +kernel) rfl) d_NoCarries_mustMove_21
set_option maxHeartbeats 2000000 in
set_option maxRecDepth 100000 in
theorem c_NoCarries_moved (l : Launch) (dC : Nat → ClassId) (dI : Nat → Nat → Nat) (cI cM cO : ClassId) (sz : Nat) (lw : Int64) (rg : Int64) : MetL l y_NoCarries_moved (Cond.code y_NoCarries_moved prog_6_method_8_code 6 (some .long) :: gw) ({ frames := 1, cells := 0, slots := 0, locals := 23 } : Room) (dC, dI) vwCl (kT cI cM cO) [Value.long lw, Value.long rg] [] sz (fun (r : Int64) (u : Unit) => True) (fun (u : Unit) => []) 0 0 := by
  refine my_ofL (cc := prog_6_method_8_code) (n := 6) (ret := (some .long)) (by decide) rfl (Nat.le_of_ble_eq_true rfl) ?_
  intro p e s m args below meth c R Q A ls H locs hx hb hr hts hown hlocks hml hnm hR hQ hA hl hP hK hN hD hS
  have hg : ∀ w ∈ gw, w.before args s = true := fun w h => hts w (List.mem_cons_of_mem _ h)
  have hown : s.vm.findClass "RangeCoders$NoCarries" = some m.cls := hown
  have hl : lv_has ls 6 [(0, Value.long lw), (2, Value.long rg)] := hl
  refine lv_lload_n hx hb d_NoCarries_moved_0 rfl (lv_at hl 0 rfl) ?_
  refine lv_lload_n hx hb d_NoCarries_moved_1 rfl (lv_at hl 1 rfl) ?_
  refine my_ci (wr := []) (va_runS (As := [Value.long lw, Value.long rg]) (rest := []) ⟨hx, hb, hml, hown, hts⟩ (c_NoCarries_sameTop l dC dI cI cM cO H.size lw rg) (cwS 2 hts (my_gS k513 k514 k7 k515) rfl rfl rfl (by decide +kernel) ⟨by rw [hR]; exact Nat.le_of_ble_eq_true rfl, by rw [hR]; exact Nat.le_of_ble_eq_true rfl⟩) (my_pre hK hN (hP.sub [] rfl) (hD.sub [] (by decide +kernel) rfl)) rfl rfl hl.1 rfl (lv_room (Nat.le_of_ble_eq_true rfl)) d_NoCarries_moved_2 ⟨by rw [hR]; exact Nat.le_of_ble_eq_true rfl, by rw [hR]; exact Nat.le_of_ble_eq_true rfl⟩) hP hD hS hA [] [] rfl rfl (by decide +kernel) (by decide +kernel) (fun r_2 u9 H locs hw_2 hP hD hS => ?_)
  have hPD : my_PD (dC, dI) vwCl A [] H := ⟨hP, hD⟩
  have hP := hPD.1
  have hD := hPD.2
  refine lv_if_eq (tgt := 12) hx hb d_NoCarries_moved_5 (by decide) (fun c_1 => ?_) (fun c_1 => ?_)
  · refine lv_lload_n hx hb d_NoCarries_moved_12 rfl (lv_at hl 0 rfl) ?_
    refine lv_lneg hx hb d_NoCarries_moved_13 ?_
    refine lv_topl (fun v_2 ev_2 => ?_)
    refine lv_ldc2 (v := 65535) hx hb hown (hg _ k520) d_NoCarries_moved_14 ?_
    refine lv_land hx hb d_NoCarries_moved_17 ?_
    refine lv_topl (fun v_3 ev_3 => ?_)
    refine lv_lstore (lv' := [(4, Value.long v_3), (0, Value.long lw), (2, Value.long rg)]) hx hb d_NoCarries_moved_18 hl (by decide) rfl (fun ls hl => ?_)
    refine lv_lload hx hb d_NoCarries_moved_20 (lv_at hl 0 rfl) ?_
    refine lv_bipush (v := 8) hx hb d_NoCarries_moved_22 (by decide) ?_
    refine lv_lshl hx hb d_NoCarries_moved_24 rfl ?_
    refine lv_topl (fun v_4 ev_4 => ?_)
    refine lv_ldc2 (v := 4294967295) hx hb hown (hg _ k509) d_NoCarries_moved_25 ?_
    refine lv_land hx hb d_NoCarries_moved_28 ?_
    refine lv_topl (fun v_5 ev_5 => ?_)
    exact my_lret (v := v_5) hx hb hr hlocks hQ hK hS (Nat.le_refl _) (Nat.le_refl _) () (trivial) (hP.sub [] rfl) (hD.sub [] (by decide +kernel) rfl) d_NoCarries_moved_29
  · refine lv_lload_n hx hb d_NoCarries_moved_8 rfl (lv_at hl 1 rfl) ?_
    refine lv_goto (tgt := 18) hx hb d_NoCarries_moved_9 (by decide) ?_
    refine lv_lstore (lv' := [(4, Value.long rg), (0, Value.long lw), (2, Value.long rg)]) hx hb d_NoCarries_moved_18 hl (by decide) rfl (fun ls hl => ?_)
    refine lv_lload hx hb d_NoCarries_moved_20 (lv_at hl 0 rfl) ?_
    refine lv_bipush (v := 8) hx hb d_NoCarries_moved_22 (by decide) ?_
    refine lv_lshl hx hb d_NoCarries_moved_24 rfl ?_
    refine lv_topl (fun v_6 ev_6 => ?_)
    refine lv_ldc2 (v := 4294967295) hx hb hown (hg _ k509) d_NoCarries_moved_25 ?_
    refine lv_land hx hb d_NoCarries_moved_28 ?_
    refine lv_topl (fun v_7 ev_7 => ?_)
    exact my_lret (v := v_7) hx hb hr hlocks hQ hK hS (Nat.le_refl _) (Nat.le_refl _) () (trivial) (hP.sub [] rfl) (hD.sub [] (by decide +kernel) rfl) d_NoCarries_moved_29
set_option maxHeartbeats 2000000 in
set_option maxRecDepth 100000 in
theorem c_NoCarries_NoCarries_readPart (l : Launch) (dC : Nat → ClassId) (dI : Nat → Nat → Nat) (cI cM cO : ClassId) (sz : Nat) (co : Nat) (xlow : Int64) (xrange : Int64) (xcode : Int64) (xreadLow : Int64) (xreadRange : Int64) (ri : Nat) (ro : Nat) (rw : Nat) (xasked : Int32) (rin : Int32) (ria : Nat) (rik : Nat) (rif : Nat → Int32) (pf : Int32) (pcc : Int32) (pt : Int32) (hri : rOk rin rik) : MetV l y_NoCarries_readPart (Cond.code y_NoCarries_readPart prog_6_method_3_code 7 none :: gw) ({ frames := 3, cells := 0, slots := 0, locals := 63 } : Room) (dC, dI) vwCl (kT cI cM cO) [Value.ref co, Value.int pf, Value.int pcc, Value.int pt] [(co, Sum.inr (2, [Value.long xlow, Value.long xrange, Value.long xcode, Value.long xreadLow, Value.long xreadRange, Value.ref ri, Value.ref ro, Value.ref rw, Value.int xasked])), (ri, Sum.inr (0, [Value.int rin, Value.ref ria])), (ria, Sum.inl (cI, rik, Sum.inl rif))] sz (fun (u : Int64 × Int64 × Int64 × Int32) => True) (fun (u : Int64 × Int64 × Int64 × Int32) => [(co, Sum.inr (2, [Value.long xlow, Value.long xrange, Value.long u.1, Value.long u.2.1, Value.long u.2.2.1, Value.ref ri, Value.ref ro, Value.ref rw, Value.int u.2.2.2])), (ri, Sum.inr (0, [Value.int rin, Value.ref ria])), (ria, Sum.inl (cI, rik, Sum.inl rif))]) 0 0 := by
  refine my_ofV (cc := prog_6_method_3_code) (n := 7) (ret := none) (by decide) rfl (Nat.le_of_ble_eq_true rfl) ?_
  intro p e s m args below meth c R Q A ls H locs hx hb hr hts hown hlocks hml hnm hR hQ hA hl hP hK hN hD hS
  have hg : ∀ w ∈ gw, w.before args s = true := fun w h => hts w (List.mem_cons_of_mem _ h)
  have hown : s.vm.findClass "RangeCoders$NoCarries" = some m.cls := hown
  have hl : lv_has ls 7 [(0, Value.ref co), (1, Value.int pf), (2, Value.int pcc), (3, Value.int pt)] := hl
  have hlt_hri := rOk_lt hri
  refine lv_iload_n hx hb d_NoCarries_readPart_0 rfl (lv_at hl 3 rfl) ?_
  refine lv_if_le (tgt := 14) hx hb d_NoCarries_readPart_1 (by decide) (fun c_1 => ?_) (fun c_1 => ?_)
  · refine lv_lconst (v := 0) hx hb d_NoCarries_readPart_14 (by decide) ?_
    refine lv_lstore (lv' := [(4, Value.long 0), (0, Value.ref co), (1, Value.int pf), (2, Value.int pcc), (3, Value.int pt)]) hx hb d_NoCarries_readPart_15 hl (by decide) rfl (fun ls hl => ?_)
    refine lv_aload_n hx hb d_NoCarries_readPart_17 rfl (lv_at hl 1 rfl) ?_
    refine lv_aload_n hx hb d_NoCarries_readPart_18 rfl (lv_at hl 1 rfl) ?_
    refine va_get (D := (dC, dI)) (ci := 2) (v := .long xreadLow) (C := "RangeCoders$NoCarries") (T := T_NoCarries) (N := 9) hx hb hg in_NoCarries hown hK hP 0 rfl rfl 3 (by decide) (hg _ k91) (fun x9 h9 => u_same (hg _ k92) x9 h9) rfl d_NoCarries_readPart_19 ?_
    refine lv_lload hx hb d_NoCarries_readPart_22 (lv_at hl 0 rfl) ?_
    refine lv_iload_n hx hb d_NoCarries_readPart_24 rfl (lv_at hl 3 rfl) ?_
    refine lv_i2l hx hb d_NoCarries_readPart_25 rfl ?_
    refine lv_topl (fun v_2 ev_2 => ?_)
    refine lv_lmul hx hb d_NoCarries_readPart_26 ?_
    refine lv_topl (fun v_3 ev_3 => ?_)
    refine lv_ladd hx hb d_NoCarries_readPart_27 ?_
    refine lv_topl (fun v_4 ev_4 => ?_)
    refine lv_ldc2 (v := 4294967295) hx hb hown (hg _ k509) d_NoCarries_readPart_28 ?_
    refine lv_land hx hb d_NoCarries_readPart_31 ?_
    refine lv_topl (fun v_5 ev_5 => ?_)
    refine va_put (D := (dC, dI)) (ci := 2) (v := .long v_5) (ty := .long) (C := "RangeCoders$NoCarries") (T := T_NoCarries) (N := 9) hx hb hg in_NoCarries t_NoCarries o_NoCarries n_NoCarries hown hK hP hD hS 0 rfl rfl 3 (by decide) (hg _ k91) (fun x9 h9 => u_same (hg _ k92) x9 h9) rfl (o_NoCarries 3 (by decide)) rfl rfl (Nat.le_of_ble_eq_true rfl) d_NoCarries_readPart_32 (fun H locs hP hD hS => ?_)
    have hPD : my_PD (dC, dI) vwCl A [(co, Sum.inr (2, [Value.long xlow, Value.long xrange, Value.long xcode, Value.long v_5, Value.long xreadRange, Value.ref ri, Value.ref ro, Value.ref rw, Value.int xasked])), (ri, Sum.inr (0, [Value.int rin, Value.ref ria])), (ria, Sum.inl (cI, rik, Sum.inl rif))] H := ⟨hP, hD⟩
    have hP := hPD.1
    have hD := hPD.2
    refine lv_aload_n hx hb d_NoCarries_readPart_35 rfl (lv_at hl 1 rfl) ?_
    refine lv_lload hx hb d_NoCarries_readPart_36 (lv_at hl 0 rfl) ?_
    refine lv_iload_n hx hb d_NoCarries_readPart_38 rfl (lv_at hl 2 rfl) ?_
    refine lv_i2l hx hb d_NoCarries_readPart_39 rfl ?_
    refine lv_topl (fun v_6 ev_6 => ?_)
    refine lv_lmul hx hb d_NoCarries_readPart_40 ?_
    refine lv_topl (fun v_7 ev_7 => ?_)
    refine lv_ldc2 (v := 4294967295) hx hb hown (hg _ k509) d_NoCarries_readPart_41 ?_
    refine lv_land hx hb d_NoCarries_readPart_44 ?_
    refine lv_topl (fun v_8 ev_8 => ?_)
    refine va_put (D := (dC, dI)) (ci := 2) (v := .long v_8) (ty := .long) (C := "RangeCoders$NoCarries") (T := T_NoCarries) (N := 9) hx hb hg in_NoCarries t_NoCarries o_NoCarries n_NoCarries hown hK hP hD hS 0 rfl rfl 4 (by decide) (hg _ k94) (fun x9 h9 => u_same (hg _ k95) x9 h9) rfl (o_NoCarries 4 (by decide)) rfl rfl (Nat.le_of_ble_eq_true rfl) d_NoCarries_readPart_45 (fun H locs hP hD hS => ?_)
    have hPD : my_PD (dC, dI) vwCl A [(co, Sum.inr (2, [Value.long xlow, Value.long xrange, Value.long xcode, Value.long v_5, Value.long v_8, Value.ref ri, Value.ref ro, Value.ref rw, Value.int xasked])), (ri, Sum.inr (0, [Value.int rin, Value.ref ria])), (ria, Sum.inl (cI, rik, Sum.inl rif))] H := ⟨hP, hD⟩
    have hP := hPD.1
    have hD := hPD.2
    refine lv_iconst (v := 0) hx hb d_NoCarries_readPart_48 (by decide) ?_
    refine lv_istore (lv' := [(6, Value.int 0), (4, Value.long 0), (0, Value.ref co), (1, Value.int pf), (2, Value.int pcc), (3, Value.int pt)]) hx hb d_NoCarries_readPart_49 hl (by decide) rfl (fun ls hl => ?_)
    have J_51 : ∀ (n9_51 : Nat) (b51_0 : Int32) (b51_1 : Int64) (b51_2 : Int64) (b51_3 : Int64) (b51_4 : Int32) (hn9_51 : ((8 : Int32).toInt - b51_0.toInt).toNat = n9_51) (hi_51 : 0 ≤ b51_0.toInt) (H : Heap) (locs : List Loc) (ls : Array Slot), va_P (dC, dI) vwCl [(co, Sum.inr (2, [Value.long xlow, Value.long xrange, Value.long b51_1, Value.long b51_2, Value.long b51_3, Value.ref ri, Value.ref ro, Value.ref rw, Value.int b51_4])), (ri, Sum.inr (0, [Value.int rin, Value.ref ria])), (ria, Sum.inl (cI, rik, Sum.inl rif))] H → va_D A [(co, Sum.inr (2, [Value.long xlow, Value.long xrange, Value.long b51_1, Value.long b51_2, Value.long b51_3, Value.ref ri, Value.ref ro, Value.ref rw, Value.int b51_4])), (ri, Sum.inr (0, [Value.int rin, Value.ref ria])), (ria, Sum.inl (cI, rik, Sum.inl rif))] → va_S A s.heap H locs → lv_has ls 7 [(6, Value.int b51_0), (4, Value.long 0), (0, Value.ref co), (1, Value.int pf), (2, Value.int pcc), (3, Value.int pt)] → W p l e R s m args below meth c H locs 0 0 Q (F0 m 51 ls []) := by
      intro n9_51
      induction n9_51 using Nat.strongRecOn with
      | ind n9_51 ih9_51 =>
        intro b51_0 b51_1 b51_2 b51_3 b51_4 hn9_51 hi_51 H locs ls hP hD hS hl
        refine lv_iload hx hb d_NoCarries_readPart_51 (lv_at hl 0 rfl) ?_
        refine lv_bipush (v := 8) hx hb d_NoCarries_readPart_53 (by decide) ?_
        refine lv_icmp_ge (tgt := 129) hx hb d_NoCarries_readPart_55 (by decide) (fun c_9 => ?_) (fun c_9 => ?_)
        · exact my_vret hx hb hr hlocks hQ hK hS (Nat.le_refl _) (Nat.le_refl _) (b51_1, b51_2, b51_3, b51_4) (trivial) (hP.sub [0, 1, 2] rfl) (hD.sub [0, 1, 2] (by decide +kernel) rfl) d_NoCarries_readPart_129
        · refine lv_aload_n hx hb d_NoCarries_readPart_58 rfl (lv_at hl 2 rfl) ?_
          refine va_get (D := (dC, dI)) (ci := 2) (v := .long b51_2) (C := "RangeCoders$NoCarries") (T := T_NoCarries) (N := 9) hx hb hg in_NoCarries hown hK hP 0 rfl rfl 3 (by decide) (hg _ k91) (fun x9 h9 => u_same (hg _ k92) x9 h9) rfl d_NoCarries_readPart_59 ?_
          refine lv_aload_n hx hb d_NoCarries_readPart_62 rfl (lv_at hl 2 rfl) ?_
          refine va_get (D := (dC, dI)) (ci := 2) (v := .long b51_3) (C := "RangeCoders$NoCarries") (T := T_NoCarries) (N := 9) hx hb hg in_NoCarries hown hK hP 0 rfl rfl 4 (by decide) (hg _ k94) (fun x9 h9 => u_same (hg _ k95) x9 h9) rfl d_NoCarries_readPart_63 ?_
          refine my_ci (wr := [(co, Sum.inr (2, [Value.long xlow, Value.long xrange, Value.long b51_1, Value.long b51_2, Value.long b51_3, Value.ref ri, Value.ref ro, Value.ref rw, Value.int b51_4])), (ri, Sum.inr (0, [Value.int rin, Value.ref ria])), (ria, Sum.inl (cI, rik, Sum.inl rif))]) (va_runS (As := [Value.long b51_2, Value.long b51_3]) (rest := []) ⟨hx, hb, hml, hown, hts⟩ (c_NoCarries_mustMove l dC dI cI cM cO H.size b51_2 b51_3) (cwS 2 hts (my_gS k510 k511 k7 k512) rfl rfl rfl (by decide +kernel) ⟨by rw [hR]; exact Nat.le_of_ble_eq_true rfl, by rw [hR]; exact Nat.le_of_ble_eq_true rfl⟩) (my_pre hK hN (hP.sub [] rfl) (hD.sub [] (by decide +kernel) rfl)) rfl rfl hl.1 rfl (lv_room (Nat.le_of_ble_eq_true rfl)) d_NoCarries_readPart_66 ⟨by rw [hR]; exact Nat.le_of_ble_eq_true rfl, by rw [hR]; exact Nat.le_of_ble_eq_true rfl⟩) hP hD hS hA [] [0, 1, 2] rfl rfl (by decide +kernel) (by decide +kernel) (fun r_66 u9 H locs hw_66 hP hD hS => ?_)
          have hPD : my_PD (dC, dI) vwCl A [(co, Sum.inr (2, [Value.long xlow, Value.long xrange, Value.long b51_1, Value.long b51_2, Value.long b51_3, Value.ref ri, Value.ref ro, Value.ref rw, Value.int b51_4])), (ri, Sum.inr (0, [Value.int rin, Value.ref ria])), (ria, Sum.inl (cI, rik, Sum.inl rif))] H := ⟨hP, hD⟩
          have hP := hPD.1
          have hD := hPD.2
          refine lv_if_eq (tgt := 129) hx hb d_NoCarries_readPart_69 (by decide) (fun c_10 => ?_) (fun c_10 => ?_)
          · exact my_vret hx hb hr hlocks hQ hK hS (Nat.le_refl _) (Nat.le_refl _) (b51_1, b51_2, b51_3, b51_4) (trivial) (hP.sub [0, 1, 2] rfl) (hD.sub [0, 1, 2] (by decide +kernel) rfl) d_NoCarries_readPart_129
          · refine lv_aload_n hx hb d_NoCarries_readPart_72 rfl (lv_at hl 2 rfl) ?_
            refine lv_aload_n hx hb d_NoCarries_readPart_73 rfl (lv_at hl 2 rfl) ?_
            refine va_get (D := (dC, dI)) (ci := 2) (v := .long b51_2) (C := "RangeCoders$NoCarries") (T := T_NoCarries) (N := 9) hx hb hg in_NoCarries hown hK hP 0 rfl rfl 3 (by decide) (hg _ k91) (fun x9 h9 => u_same (hg _ k92) x9 h9) rfl d_NoCarries_readPart_74 ?_
            refine lv_aload_n hx hb d_NoCarries_readPart_77 rfl (lv_at hl 2 rfl) ?_
            refine va_get (D := (dC, dI)) (ci := 2) (v := .long b51_3) (C := "RangeCoders$NoCarries") (T := T_NoCarries) (N := 9) hx hb hg in_NoCarries hown hK hP 0 rfl rfl 4 (by decide) (hg _ k94) (fun x9 h9 => u_same (hg _ k95) x9 h9) rfl d_NoCarries_readPart_78 ?_
            refine my_cl (wr := [(co, Sum.inr (2, [Value.long xlow, Value.long xrange, Value.long b51_1, Value.long b51_2, Value.long b51_3, Value.ref ri, Value.ref ro, Value.ref rw, Value.int b51_4])), (ri, Sum.inr (0, [Value.int rin, Value.ref ria])), (ria, Sum.inl (cI, rik, Sum.inl rif))]) (va_runS (As := [Value.long b51_2, Value.long b51_3]) (rest := [Value.ref co]) ⟨hx, hb, hml, hown, hts⟩ (c_NoCarries_moved l dC dI cI cM cO H.size b51_2 b51_3) (cwS 2 hts (my_gS k517 k518 k7 k519) rfl rfl rfl (by decide +kernel) ⟨by rw [hR]; exact Nat.le_of_ble_eq_true rfl, by rw [hR]; exact Nat.le_of_ble_eq_true rfl⟩) (my_pre hK hN (hP.sub [] rfl) (hD.sub [] (by decide +kernel) rfl)) rfl rfl hl.1 rfl (lv_room (Nat.le_of_ble_eq_true rfl)) d_NoCarries_readPart_81 ⟨by rw [hR]; exact Nat.le_of_ble_eq_true rfl, by rw [hR]; exact Nat.le_of_ble_eq_true rfl⟩) hP hD hS hA [] [0, 1, 2] rfl rfl (by decide +kernel) (by decide +kernel) (fun r_81 u9 H locs hw_81 hP hD hS => ?_)
            have hPD : my_PD (dC, dI) vwCl A [(co, Sum.inr (2, [Value.long xlow, Value.long xrange, Value.long b51_1, Value.long b51_2, Value.long b51_3, Value.ref ri, Value.ref ro, Value.ref rw, Value.int b51_4])), (ri, Sum.inr (0, [Value.int rin, Value.ref ria])), (ria, Sum.inl (cI, rik, Sum.inl rif))] H := ⟨hP, hD⟩
            have hP := hPD.1
            have hD := hPD.2
            refine va_put (D := (dC, dI)) (ci := 2) (v := .long r_81) (ty := .long) (C := "RangeCoders$NoCarries") (T := T_NoCarries) (N := 9) hx hb hg in_NoCarries t_NoCarries o_NoCarries n_NoCarries hown hK hP hD hS 0 rfl rfl 4 (by decide) (hg _ k94) (fun x9 h9 => u_same (hg _ k95) x9 h9) rfl (o_NoCarries 4 (by decide)) rfl rfl (Nat.le_of_ble_eq_true rfl) d_NoCarries_readPart_84 (fun H locs hP hD hS => ?_)
            have hPD : my_PD (dC, dI) vwCl A [(co, Sum.inr (2, [Value.long xlow, Value.long xrange, Value.long b51_1, Value.long b51_2, Value.long r_81, Value.ref ri, Value.ref ro, Value.ref rw, Value.int b51_4])), (ri, Sum.inr (0, [Value.int rin, Value.ref ria])), (ria, Sum.inl (cI, rik, Sum.inl rif))] H := ⟨hP, hD⟩
            have hP := hPD.1
            have hD := hPD.2
            refine lv_aload_n hx hb d_NoCarries_readPart_87 rfl (lv_at hl 2 rfl) ?_
            refine lv_aload_n hx hb d_NoCarries_readPart_88 rfl (lv_at hl 2 rfl) ?_
            refine va_get (D := (dC, dI)) (ci := 2) (v := .long b51_2) (C := "RangeCoders$NoCarries") (T := T_NoCarries) (N := 9) hx hb hg in_NoCarries hown hK hP 0 rfl rfl 3 (by decide) (hg _ k91) (fun x9 h9 => u_same (hg _ k92) x9 h9) rfl d_NoCarries_readPart_89 ?_
            refine lv_bipush (v := 8) hx hb d_NoCarries_readPart_92 (by decide) ?_
            refine lv_lshl hx hb d_NoCarries_readPart_94 rfl ?_
            refine lv_topl (fun v_11 ev_11 => ?_)
            refine lv_ldc2 (v := 4294967295) hx hb hown (hg _ k509) d_NoCarries_readPart_95 ?_
            refine lv_land hx hb d_NoCarries_readPart_98 ?_
            refine lv_topl (fun v_12 ev_12 => ?_)
            refine va_put (D := (dC, dI)) (ci := 2) (v := .long v_12) (ty := .long) (C := "RangeCoders$NoCarries") (T := T_NoCarries) (N := 9) hx hb hg in_NoCarries t_NoCarries o_NoCarries n_NoCarries hown hK hP hD hS 0 rfl rfl 3 (by decide) (hg _ k91) (fun x9 h9 => u_same (hg _ k92) x9 h9) rfl (o_NoCarries 3 (by decide)) rfl rfl (Nat.le_of_ble_eq_true rfl) d_NoCarries_readPart_99 (fun H locs hP hD hS => ?_)
            have hPD : my_PD (dC, dI) vwCl A [(co, Sum.inr (2, [Value.long xlow, Value.long xrange, Value.long b51_1, Value.long v_12, Value.long r_81, Value.ref ri, Value.ref ro, Value.ref rw, Value.int b51_4])), (ri, Sum.inr (0, [Value.int rin, Value.ref ria])), (ria, Sum.inl (cI, rik, Sum.inl rif))] H := ⟨hP, hD⟩
            have hP := hPD.1
            have hD := hPD.2
            refine lv_aload_n hx hb d_NoCarries_readPart_102 rfl (lv_at hl 2 rfl) ?_
            refine lv_aload_n hx hb d_NoCarries_readPart_103 rfl (lv_at hl 2 rfl) ?_
            refine va_get (D := (dC, dI)) (ci := 2) (v := .long b51_1) (C := "RangeCoders$NoCarries") (T := T_NoCarries) (N := 9) hx hb hg in_NoCarries hown hK hP 0 rfl rfl 2 (by decide) (hg _ k84) (fun x9 h9 => u_same (hg _ k85) x9 h9) rfl d_NoCarries_readPart_104 ?_
            refine lv_bipush (v := 8) hx hb d_NoCarries_readPart_107 (by decide) ?_
            refine lv_lshl hx hb d_NoCarries_readPart_109 rfl ?_
            refine lv_topl (fun v_13 ev_13 => ?_)
            refine lv_aload_n hx hb d_NoCarries_readPart_110 rfl (lv_at hl 2 rfl) ?_
            refine my_ci (wr := []) (va_runU (As := []) (rest := [Value.long v_13, Value.ref co]) ⟨hx, hb, hml, hown, hts⟩ (c_NoCarries_Coder_nextByte l dC dI cI cM cO H.size co xlow xrange b51_1 v_12 r_81 ri ro rw b51_4 rin ria rik rif (by first | assumption | omega)) (va_cwU 0 hts (my_gU k826 k827 k828 k742 k3 k749) rfl rfl rfl rfl (by decide +kernel) ⟨by rw [hR]; exact Nat.le_of_ble_eq_true rfl, by rw [hR]; exact Nat.le_of_ble_eq_true rfl⟩) (my_preV hK hN (hP.sub [0, 1, 2] rfl) (hD.sub [0, 1, 2] (by decide +kernel) rfl) 0 rfl rfl) rfl rfl hl.1 rfl (lv_room (Nat.le_of_ble_eq_true rfl)) d_NoCarries_readPart_111 ⟨by rw [hR]; exact Nat.le_of_ble_eq_true rfl, by rw [hR]; exact Nat.le_of_ble_eq_true rfl⟩) hP hD hS hA [0, 1, 2] [] rfl rfl (by decide +kernel) (by decide +kernel) (fun r_111 u9 H locs hw_111 hP hD hS => ?_)
            obtain ⟨xaskedq_111, rfl⟩ : ∃ z, z = u9 := ⟨_, rfl⟩
            have hPD : my_PD (dC, dI) vwCl A [(co, Sum.inr (2, [Value.long xlow, Value.long xrange, Value.long b51_1, Value.long v_12, Value.long r_81, Value.ref ri, Value.ref ro, Value.ref rw, Value.int xaskedq_111])), (ri, Sum.inr (0, [Value.int rin, Value.ref ria])), (ria, Sum.inl (cI, rik, Sum.inl rif))] H := ⟨hP, hD⟩
            have hP := hPD.1
            have hD := hPD.2
            refine lv_i2l hx hb d_NoCarries_readPart_114 rfl ?_
            refine lv_topl (fun v_14 ev_14 => ?_)
            refine lv_lor hx hb d_NoCarries_readPart_115 ?_
            refine lv_topl (fun v_15 ev_15 => ?_)
            refine lv_ldc2 (v := 4294967295) hx hb hown (hg _ k509) d_NoCarries_readPart_116 ?_
            refine lv_land hx hb d_NoCarries_readPart_119 ?_
            refine lv_topl (fun v_16 ev_16 => ?_)
            refine va_put (D := (dC, dI)) (ci := 2) (v := .long v_16) (ty := .long) (C := "RangeCoders$NoCarries") (T := T_NoCarries) (N := 9) hx hb hg in_NoCarries t_NoCarries o_NoCarries n_NoCarries hown hK hP hD hS 0 rfl rfl 2 (by decide) (hg _ k84) (fun x9 h9 => u_same (hg _ k85) x9 h9) rfl (o_NoCarries 2 (by decide)) rfl rfl (Nat.le_of_ble_eq_true rfl) d_NoCarries_readPart_120 (fun H locs hP hD hS => ?_)
            have hPD : my_PD (dC, dI) vwCl A [(co, Sum.inr (2, [Value.long xlow, Value.long xrange, Value.long v_16, Value.long v_12, Value.long r_81, Value.ref ri, Value.ref ro, Value.ref rw, Value.int xaskedq_111])), (ri, Sum.inr (0, [Value.int rin, Value.ref ria])), (ria, Sum.inl (cI, rik, Sum.inl rif))] H := ⟨hP, hD⟩
            have hP := hPD.1
            have hD := hPD.2
            obtain ⟨v_17, ev_17⟩ : ∃ y : Int32, y = b51_0 + (1) := ⟨_, rfl⟩
            refine lv_iinc (v := v_17) (lv' := [(6, Value.int v_17), (4, Value.long 0), (0, Value.ref co), (1, Value.int pf), (2, Value.int pcc), (3, Value.int pt)]) hx hb d_NoCarries_readPart_123 hl (k := 0) rfl (by rw [ev_17]; rfl) (by decide) rfl (fun ls hl => ?_)
            refine lv_goto (tgt := 51) hx hb d_NoCarries_readPart_126 (by decide) ?_
            exact ih9_51 _ (by first | omega | (have z9 := I_up c_9 ev_17; omega)) v_17 v_16 v_12 r_81 xaskedq_111 rfl (by have z9 := I_up c_9 ev_17; omega) H locs ls (hP.sub [0, 1, 2] rfl) (hD.sub [0, 1, 2] (by decide +kernel) rfl) hS (lv_sub hl [0, 1, 2, 3, 4, 5] rfl)
    exact J_51 _ (0 : Int32) xcode v_5 v_8 xasked rfl (by first | decide | assumption | omega) H locs ls (hP.sub [0, 1, 2] rfl) (hD.sub [0, 1, 2] (by decide +kernel) rfl) hS (lv_sub hl [0, 1, 2, 3, 4, 5] rfl)
  · refine lv_aload_n hx hb d_NoCarries_readPart_4 rfl (lv_at hl 0 rfl) ?_
    refine va_get (D := (dC, dI)) (ci := 2) (v := .long xreadRange) (C := "RangeCoders$NoCarries") (T := T_NoCarries) (N := 9) hx hb hg in_NoCarries hown hK hP 0 rfl rfl 4 (by decide) (hg _ k94) (fun x9 h9 => u_same (hg _ k95) x9 h9) rfl d_NoCarries_readPart_5 ?_
    refine lv_iload_n hx hb d_NoCarries_readPart_8 rfl (lv_at hl 3 rfl) ?_
    refine lv_i2l hx hb d_NoCarries_readPart_9 rfl ?_
    refine lv_topl (fun v_18 ev_18 => ?_)
    refine lv_ldiv hx hb d_NoCarries_readPart_10 (by rw [ev_18]; first | exact L_nzi (by assumption) | exact L_nzip (by assumption)) ?_
    refine lv_topl (fun v_19 ev_19 => ?_)
    refine lv_goto (tgt := 15) hx hb d_NoCarries_readPart_11 (by decide) ?_
    refine lv_lstore (lv' := [(4, Value.long v_19), (0, Value.ref co), (1, Value.int pf), (2, Value.int pcc), (3, Value.int pt)]) hx hb d_NoCarries_readPart_15 hl (by decide) rfl (fun ls hl => ?_)
    refine lv_aload_n hx hb d_NoCarries_readPart_17 rfl (lv_at hl 1 rfl) ?_
    refine lv_aload_n hx hb d_NoCarries_readPart_18 rfl (lv_at hl 1 rfl) ?_
    refine va_get (D := (dC, dI)) (ci := 2) (v := .long xreadLow) (C := "RangeCoders$NoCarries") (T := T_NoCarries) (N := 9) hx hb hg in_NoCarries hown hK hP 0 rfl rfl 3 (by decide) (hg _ k91) (fun x9 h9 => u_same (hg _ k92) x9 h9) rfl d_NoCarries_readPart_19 ?_
    refine lv_lload hx hb d_NoCarries_readPart_22 (lv_at hl 0 rfl) ?_
    refine lv_iload_n hx hb d_NoCarries_readPart_24 rfl (lv_at hl 3 rfl) ?_
    refine lv_i2l hx hb d_NoCarries_readPart_25 rfl ?_
    refine lv_topl (fun v_20 ev_20 => ?_)
    refine lv_lmul hx hb d_NoCarries_readPart_26 ?_
    refine lv_topl (fun v_21 ev_21 => ?_)
    refine lv_ladd hx hb d_NoCarries_readPart_27 ?_
    refine lv_topl (fun v_22 ev_22 => ?_)
    refine lv_ldc2 (v := 4294967295) hx hb hown (hg _ k509) d_NoCarries_readPart_28 ?_
    refine lv_land hx hb d_NoCarries_readPart_31 ?_
    refine lv_topl (fun v_23 ev_23 => ?_)
    refine va_put (D := (dC, dI)) (ci := 2) (v := .long v_23) (ty := .long) (C := "RangeCoders$NoCarries") (T := T_NoCarries) (N := 9) hx hb hg in_NoCarries t_NoCarries o_NoCarries n_NoCarries hown hK hP hD hS 0 rfl rfl 3 (by decide) (hg _ k91) (fun x9 h9 => u_same (hg _ k92) x9 h9) rfl (o_NoCarries 3 (by decide)) rfl rfl (Nat.le_of_ble_eq_true rfl) d_NoCarries_readPart_32 (fun H locs hP hD hS => ?_)
    have hPD : my_PD (dC, dI) vwCl A [(co, Sum.inr (2, [Value.long xlow, Value.long xrange, Value.long xcode, Value.long v_23, Value.long xreadRange, Value.ref ri, Value.ref ro, Value.ref rw, Value.int xasked])), (ri, Sum.inr (0, [Value.int rin, Value.ref ria])), (ria, Sum.inl (cI, rik, Sum.inl rif))] H := ⟨hP, hD⟩
    have hP := hPD.1
    have hD := hPD.2
    refine lv_aload_n hx hb d_NoCarries_readPart_35 rfl (lv_at hl 1 rfl) ?_
    refine lv_lload hx hb d_NoCarries_readPart_36 (lv_at hl 0 rfl) ?_
    refine lv_iload_n hx hb d_NoCarries_readPart_38 rfl (lv_at hl 2 rfl) ?_
    refine lv_i2l hx hb d_NoCarries_readPart_39 rfl ?_
    refine lv_topl (fun v_24 ev_24 => ?_)
    refine lv_lmul hx hb d_NoCarries_readPart_40 ?_
    refine lv_topl (fun v_25 ev_25 => ?_)
    refine lv_ldc2 (v := 4294967295) hx hb hown (hg _ k509) d_NoCarries_readPart_41 ?_
    refine lv_land hx hb d_NoCarries_readPart_44 ?_
    refine lv_topl (fun v_26 ev_26 => ?_)
    refine va_put (D := (dC, dI)) (ci := 2) (v := .long v_26) (ty := .long) (C := "RangeCoders$NoCarries") (T := T_NoCarries) (N := 9) hx hb hg in_NoCarries t_NoCarries o_NoCarries n_NoCarries hown hK hP hD hS 0 rfl rfl 4 (by decide) (hg _ k94) (fun x9 h9 => u_same (hg _ k95) x9 h9) rfl (o_NoCarries 4 (by decide)) rfl rfl (Nat.le_of_ble_eq_true rfl) d_NoCarries_readPart_45 (fun H locs hP hD hS => ?_)
    have hPD : my_PD (dC, dI) vwCl A [(co, Sum.inr (2, [Value.long xlow, Value.long xrange, Value.long xcode, Value.long v_23, Value.long v_26, Value.ref ri, Value.ref ro, Value.ref rw, Value.int xasked])), (ri, Sum.inr (0, [Value.int rin, Value.ref ria])), (ria, Sum.inl (cI, rik, Sum.inl rif))] H := ⟨hP, hD⟩
    have hP := hPD.1
    have hD := hPD.2
    refine lv_iconst (v := 0) hx hb d_NoCarries_readPart_48 (by decide) ?_
    refine lv_istore (lv' := [(6, Value.int 0), (4, Value.long v_19), (0, Value.ref co), (1, Value.int pf), (2, Value.int pcc), (3, Value.int pt)]) hx hb d_NoCarries_readPart_49 hl (by decide) rfl (fun ls hl => ?_)
    have J_51 : ∀ (n9_51 : Nat) (b51_0 : Int32) (b51_1 : Int64) (b51_2 : Int64) (b51_3 : Int64) (b51_4 : Int32) (hn9_51 : ((8 : Int32).toInt - b51_0.toInt).toNat = n9_51) (hi_51 : 0 ≤ b51_0.toInt) (H : Heap) (locs : List Loc) (ls : Array Slot), va_P (dC, dI) vwCl [(co, Sum.inr (2, [Value.long xlow, Value.long xrange, Value.long b51_1, Value.long b51_2, Value.long b51_3, Value.ref ri, Value.ref ro, Value.ref rw, Value.int b51_4])), (ri, Sum.inr (0, [Value.int rin, Value.ref ria])), (ria, Sum.inl (cI, rik, Sum.inl rif))] H → va_D A [(co, Sum.inr (2, [Value.long xlow, Value.long xrange, Value.long b51_1, Value.long b51_2, Value.long b51_3, Value.ref ri, Value.ref ro, Value.ref rw, Value.int b51_4])), (ri, Sum.inr (0, [Value.int rin, Value.ref ria])), (ria, Sum.inl (cI, rik, Sum.inl rif))] → va_S A s.heap H locs → lv_has ls 7 [(6, Value.int b51_0), (4, Value.long v_19), (0, Value.ref co), (1, Value.int pf), (2, Value.int pcc), (3, Value.int pt)] → W p l e R s m args below meth c H locs 0 0 Q (F0 m 51 ls []) := by
      intro n9_51
      induction n9_51 using Nat.strongRecOn with
      | ind n9_51 ih9_51 =>
        intro b51_0 b51_1 b51_2 b51_3 b51_4 hn9_51 hi_51 H locs ls hP hD hS hl
        refine lv_iload hx hb d_NoCarries_readPart_51 (lv_at hl 0 rfl) ?_
        refine lv_bipush (v := 8) hx hb d_NoCarries_readPart_53 (by decide) ?_
        refine lv_icmp_ge (tgt := 129) hx hb d_NoCarries_readPart_55 (by decide) (fun c_27 => ?_) (fun c_27 => ?_)
        · exact my_vret hx hb hr hlocks hQ hK hS (Nat.le_refl _) (Nat.le_refl _) (b51_1, b51_2, b51_3, b51_4) (trivial) (hP.sub [0, 1, 2] rfl) (hD.sub [0, 1, 2] (by decide +kernel) rfl) d_NoCarries_readPart_129
        · refine lv_aload_n hx hb d_NoCarries_readPart_58 rfl (lv_at hl 2 rfl) ?_
          refine va_get (D := (dC, dI)) (ci := 2) (v := .long b51_2) (C := "RangeCoders$NoCarries") (T := T_NoCarries) (N := 9) hx hb hg in_NoCarries hown hK hP 0 rfl rfl 3 (by decide) (hg _ k91) (fun x9 h9 => u_same (hg _ k92) x9 h9) rfl d_NoCarries_readPart_59 ?_
          refine lv_aload_n hx hb d_NoCarries_readPart_62 rfl (lv_at hl 2 rfl) ?_
          refine va_get (D := (dC, dI)) (ci := 2) (v := .long b51_3) (C := "RangeCoders$NoCarries") (T := T_NoCarries) (N := 9) hx hb hg in_NoCarries hown hK hP 0 rfl rfl 4 (by decide) (hg _ k94) (fun x9 h9 => u_same (hg _ k95) x9 h9) rfl d_NoCarries_readPart_63 ?_
          refine my_ci (wr := [(co, Sum.inr (2, [Value.long xlow, Value.long xrange, Value.long b51_1, Value.long b51_2, Value.long b51_3, Value.ref ri, Value.ref ro, Value.ref rw, Value.int b51_4])), (ri, Sum.inr (0, [Value.int rin, Value.ref ria])), (ria, Sum.inl (cI, rik, Sum.inl rif))]) (va_runS (As := [Value.long b51_2, Value.long b51_3]) (rest := []) ⟨hx, hb, hml, hown, hts⟩ (c_NoCarries_mustMove l dC dI cI cM cO H.size b51_2 b51_3) (cwS 2 hts (my_gS k510 k511 k7 k512) rfl rfl rfl (by decide +kernel) ⟨by rw [hR]; exact Nat.le_of_ble_eq_true rfl, by rw [hR]; exact Nat.le_of_ble_eq_true rfl⟩) (my_pre hK hN (hP.sub [] rfl) (hD.sub [] (by decide +kernel) rfl)) rfl rfl hl.1 rfl (lv_room (Nat.le_of_ble_eq_true rfl)) d_NoCarries_readPart_66 ⟨by rw [hR]; exact Nat.le_of_ble_eq_true rfl, by rw [hR]; exact Nat.le_of_ble_eq_true rfl⟩) hP hD hS hA [] [0, 1, 2] rfl rfl (by decide +kernel) (by decide +kernel) (fun r_66 u9 H locs hw_66 hP hD hS => ?_)
          have hPD : my_PD (dC, dI) vwCl A [(co, Sum.inr (2, [Value.long xlow, Value.long xrange, Value.long b51_1, Value.long b51_2, Value.long b51_3, Value.ref ri, Value.ref ro, Value.ref rw, Value.int b51_4])), (ri, Sum.inr (0, [Value.int rin, Value.ref ria])), (ria, Sum.inl (cI, rik, Sum.inl rif))] H := ⟨hP, hD⟩
          have hP := hPD.1
          have hD := hPD.2
          refine lv_if_eq (tgt := 129) hx hb d_NoCarries_readPart_69 (by decide) (fun c_28 => ?_) (fun c_28 => ?_)
          · exact my_vret hx hb hr hlocks hQ hK hS (Nat.le_refl _) (Nat.le_refl _) (b51_1, b51_2, b51_3, b51_4) (trivial) (hP.sub [0, 1, 2] rfl) (hD.sub [0, 1, 2] (by decide +kernel) rfl) d_NoCarries_readPart_129
          · refine lv_aload_n hx hb d_NoCarries_readPart_72 rfl (lv_at hl 2 rfl) ?_
            refine lv_aload_n hx hb d_NoCarries_readPart_73 rfl (lv_at hl 2 rfl) ?_
            refine va_get (D := (dC, dI)) (ci := 2) (v := .long b51_2) (C := "RangeCoders$NoCarries") (T := T_NoCarries) (N := 9) hx hb hg in_NoCarries hown hK hP 0 rfl rfl 3 (by decide) (hg _ k91) (fun x9 h9 => u_same (hg _ k92) x9 h9) rfl d_NoCarries_readPart_74 ?_
            refine lv_aload_n hx hb d_NoCarries_readPart_77 rfl (lv_at hl 2 rfl) ?_
            refine va_get (D := (dC, dI)) (ci := 2) (v := .long b51_3) (C := "RangeCoders$NoCarries") (T := T_NoCarries) (N := 9) hx hb hg in_NoCarries hown hK hP 0 rfl rfl 4 (by decide) (hg _ k94) (fun x9 h9 => u_same (hg _ k95) x9 h9) rfl d_NoCarries_readPart_78 ?_
            refine my_cl (wr := [(co, Sum.inr (2, [Value.long xlow, Value.long xrange, Value.long b51_1, Value.long b51_2, Value.long b51_3, Value.ref ri, Value.ref ro, Value.ref rw, Value.int b51_4])), (ri, Sum.inr (0, [Value.int rin, Value.ref ria])), (ria, Sum.inl (cI, rik, Sum.inl rif))]) (va_runS (As := [Value.long b51_2, Value.long b51_3]) (rest := [Value.ref co]) ⟨hx, hb, hml, hown, hts⟩ (c_NoCarries_moved l dC dI cI cM cO H.size b51_2 b51_3) (cwS 2 hts (my_gS k517 k518 k7 k519) rfl rfl rfl (by decide +kernel) ⟨by rw [hR]; exact Nat.le_of_ble_eq_true rfl, by rw [hR]; exact Nat.le_of_ble_eq_true rfl⟩) (my_pre hK hN (hP.sub [] rfl) (hD.sub [] (by decide +kernel) rfl)) rfl rfl hl.1 rfl (lv_room (Nat.le_of_ble_eq_true rfl)) d_NoCarries_readPart_81 ⟨by rw [hR]; exact Nat.le_of_ble_eq_true rfl, by rw [hR]; exact Nat.le_of_ble_eq_true rfl⟩) hP hD hS hA [] [0, 1, 2] rfl rfl (by decide +kernel) (by decide +kernel) (fun r_81 u9 H locs hw_81 hP hD hS => ?_)
            have hPD : my_PD (dC, dI) vwCl A [(co, Sum.inr (2, [Value.long xlow, Value.long xrange, Value.long b51_1, Value.long b51_2, Value.long b51_3, Value.ref ri, Value.ref ro, Value.ref rw, Value.int b51_4])), (ri, Sum.inr (0, [Value.int rin, Value.ref ria])), (ria, Sum.inl (cI, rik, Sum.inl rif))] H := ⟨hP, hD⟩
            have hP := hPD.1
            have hD := hPD.2
            refine va_put (D := (dC, dI)) (ci := 2) (v := .long r_81) (ty := .long) (C := "RangeCoders$NoCarries") (T := T_NoCarries) (N := 9) hx hb hg in_NoCarries t_NoCarries o_NoCarries n_NoCarries hown hK hP hD hS 0 rfl rfl 4 (by decide) (hg _ k94) (fun x9 h9 => u_same (hg _ k95) x9 h9) rfl (o_NoCarries 4 (by decide)) rfl rfl (Nat.le_of_ble_eq_true rfl) d_NoCarries_readPart_84 (fun H locs hP hD hS => ?_)
            have hPD : my_PD (dC, dI) vwCl A [(co, Sum.inr (2, [Value.long xlow, Value.long xrange, Value.long b51_1, Value.long b51_2, Value.long r_81, Value.ref ri, Value.ref ro, Value.ref rw, Value.int b51_4])), (ri, Sum.inr (0, [Value.int rin, Value.ref ria])), (ria, Sum.inl (cI, rik, Sum.inl rif))] H := ⟨hP, hD⟩
            have hP := hPD.1
            have hD := hPD.2
            refine lv_aload_n hx hb d_NoCarries_readPart_87 rfl (lv_at hl 2 rfl) ?_
            refine lv_aload_n hx hb d_NoCarries_readPart_88 rfl (lv_at hl 2 rfl) ?_
            refine va_get (D := (dC, dI)) (ci := 2) (v := .long b51_2) (C := "RangeCoders$NoCarries") (T := T_NoCarries) (N := 9) hx hb hg in_NoCarries hown hK hP 0 rfl rfl 3 (by decide) (hg _ k91) (fun x9 h9 => u_same (hg _ k92) x9 h9) rfl d_NoCarries_readPart_89 ?_
            refine lv_bipush (v := 8) hx hb d_NoCarries_readPart_92 (by decide) ?_
            refine lv_lshl hx hb d_NoCarries_readPart_94 rfl ?_
            refine lv_topl (fun v_29 ev_29 => ?_)
            refine lv_ldc2 (v := 4294967295) hx hb hown (hg _ k509) d_NoCarries_readPart_95 ?_
            refine lv_land hx hb d_NoCarries_readPart_98 ?_
            refine lv_topl (fun v_30 ev_30 => ?_)
            refine va_put (D := (dC, dI)) (ci := 2) (v := .long v_30) (ty := .long) (C := "RangeCoders$NoCarries") (T := T_NoCarries) (N := 9) hx hb hg in_NoCarries t_NoCarries o_NoCarries n_NoCarries hown hK hP hD hS 0 rfl rfl 3 (by decide) (hg _ k91) (fun x9 h9 => u_same (hg _ k92) x9 h9) rfl (o_NoCarries 3 (by decide)) rfl rfl (Nat.le_of_ble_eq_true rfl) d_NoCarries_readPart_99 (fun H locs hP hD hS => ?_)
            have hPD : my_PD (dC, dI) vwCl A [(co, Sum.inr (2, [Value.long xlow, Value.long xrange, Value.long b51_1, Value.long v_30, Value.long r_81, Value.ref ri, Value.ref ro, Value.ref rw, Value.int b51_4])), (ri, Sum.inr (0, [Value.int rin, Value.ref ria])), (ria, Sum.inl (cI, rik, Sum.inl rif))] H := ⟨hP, hD⟩
            have hP := hPD.1
            have hD := hPD.2
            refine lv_aload_n hx hb d_NoCarries_readPart_102 rfl (lv_at hl 2 rfl) ?_
            refine lv_aload_n hx hb d_NoCarries_readPart_103 rfl (lv_at hl 2 rfl) ?_
            refine va_get (D := (dC, dI)) (ci := 2) (v := .long b51_1) (C := "RangeCoders$NoCarries") (T := T_NoCarries) (N := 9) hx hb hg in_NoCarries hown hK hP 0 rfl rfl 2 (by decide) (hg _ k84) (fun x9 h9 => u_same (hg _ k85) x9 h9) rfl d_NoCarries_readPart_104 ?_
            refine lv_bipush (v := 8) hx hb d_NoCarries_readPart_107 (by decide) ?_
            refine lv_lshl hx hb d_NoCarries_readPart_109 rfl ?_
            refine lv_topl (fun v_31 ev_31 => ?_)
            refine lv_aload_n hx hb d_NoCarries_readPart_110 rfl (lv_at hl 2 rfl) ?_
            refine my_ci (wr := []) (va_runU (As := []) (rest := [Value.long v_31, Value.ref co]) ⟨hx, hb, hml, hown, hts⟩ (c_NoCarries_Coder_nextByte l dC dI cI cM cO H.size co xlow xrange b51_1 v_30 r_81 ri ro rw b51_4 rin ria rik rif (by first | assumption | omega)) (va_cwU 0 hts (my_gU k826 k827 k828 k742 k3 k749) rfl rfl rfl rfl (by decide +kernel) ⟨by rw [hR]; exact Nat.le_of_ble_eq_true rfl, by rw [hR]; exact Nat.le_of_ble_eq_true rfl⟩) (my_preV hK hN (hP.sub [0, 1, 2] rfl) (hD.sub [0, 1, 2] (by decide +kernel) rfl) 0 rfl rfl) rfl rfl hl.1 rfl (lv_room (Nat.le_of_ble_eq_true rfl)) d_NoCarries_readPart_111 ⟨by rw [hR]; exact Nat.le_of_ble_eq_true rfl, by rw [hR]; exact Nat.le_of_ble_eq_true rfl⟩) hP hD hS hA [0, 1, 2] [] rfl rfl (by decide +kernel) (by decide +kernel) (fun r_111 u9 H locs hw_111 hP hD hS => ?_)
            obtain ⟨xaskedq_111, rfl⟩ : ∃ z, z = u9 := ⟨_, rfl⟩
            have hPD : my_PD (dC, dI) vwCl A [(co, Sum.inr (2, [Value.long xlow, Value.long xrange, Value.long b51_1, Value.long v_30, Value.long r_81, Value.ref ri, Value.ref ro, Value.ref rw, Value.int xaskedq_111])), (ri, Sum.inr (0, [Value.int rin, Value.ref ria])), (ria, Sum.inl (cI, rik, Sum.inl rif))] H := ⟨hP, hD⟩
            have hP := hPD.1
            have hD := hPD.2
            refine lv_i2l hx hb d_NoCarries_readPart_114 rfl ?_
            refine lv_topl (fun v_32 ev_32 => ?_)
            refine lv_lor hx hb d_NoCarries_readPart_115 ?_
            refine lv_topl (fun v_33 ev_33 => ?_)
            refine lv_ldc2 (v := 4294967295) hx hb hown (hg _ k509) d_NoCarries_readPart_116 ?_
            refine lv_land hx hb d_NoCarries_readPart_119 ?_
            refine lv_topl (fun v_34 ev_34 => ?_)
            refine va_put (D := (dC, dI)) (ci := 2) (v := .long v_34) (ty := .long) (C := "RangeCoders$NoCarries") (T := T_NoCarries) (N := 9) hx hb hg in_NoCarries t_NoCarries o_NoCarries n_NoCarries hown hK hP hD hS 0 rfl rfl 2 (by decide) (hg _ k84) (fun x9 h9 => u_same (hg _ k85) x9 h9) rfl (o_NoCarries 2 (by decide)) rfl rfl (Nat.le_of_ble_eq_true rfl) d_NoCarries_readPart_120 (fun H locs hP hD hS => ?_)
            have hPD : my_PD (dC, dI) vwCl A [(co, Sum.inr (2, [Value.long xlow, Value.long xrange, Value.long v_34, Value.long v_30, Value.long r_81, Value.ref ri, Value.ref ro, Value.ref rw, Value.int xaskedq_111])), (ri, Sum.inr (0, [Value.int rin, Value.ref ria])), (ria, Sum.inl (cI, rik, Sum.inl rif))] H := ⟨hP, hD⟩
            have hP := hPD.1
            have hD := hPD.2
            obtain ⟨v_35, ev_35⟩ : ∃ y : Int32, y = b51_0 + (1) := ⟨_, rfl⟩
            refine lv_iinc (v := v_35) (lv' := [(6, Value.int v_35), (4, Value.long v_19), (0, Value.ref co), (1, Value.int pf), (2, Value.int pcc), (3, Value.int pt)]) hx hb d_NoCarries_readPart_123 hl (k := 0) rfl (by rw [ev_35]; rfl) (by decide) rfl (fun ls hl => ?_)
            refine lv_goto (tgt := 51) hx hb d_NoCarries_readPart_126 (by decide) ?_
            exact ih9_51 _ (by first | omega | (have z9 := I_up c_27 ev_35; omega)) v_35 v_34 v_30 r_81 xaskedq_111 rfl (by have z9 := I_up c_27 ev_35; omega) H locs ls (hP.sub [0, 1, 2] rfl) (hD.sub [0, 1, 2] (by decide +kernel) rfl) hS (lv_sub hl [0, 1, 2, 3, 4, 5] rfl)
    exact J_51 _ (0 : Int32) xcode v_23 v_26 xasked rfl (by first | decide | assumption | omega) H locs ls (hP.sub [0, 1, 2] rfl) (hD.sub [0, 1, 2] (by decide +kernel) rfl) hS (lv_sub hl [0, 1, 2, 3, 4, 5] rfl)
set_option maxHeartbeats 2000000 in
set_option maxRecDepth 100000 in
theorem c_NoCarries_Ranged_prepare (l : Launch) (dC : Nat → ClassId) (dI : Nat → Nat → Nat) (cI cM cO : ClassId) (sz : Nat) (co : Nat) (xlow : Int64) (xrange : Int64) (xcode : Int64) (xreadLow : Int64) (xreadRange : Int64) (ri : Nat) (ro : Nat) (rw : Nat) (xasked : Int32) (oo : Nat) (osg : Int32) (osm : Int32) (ofc : Int32) (oca : Nat) (opa : Nat) (ol : Nat) (ocf : Nat → Int32) (opl : Nat) (opf : Nat → Int32) (ka : Nat) (kl : Nat) (kf : Nat → Int32) (hol : ol ≤ 64) (hopl : opl ≤ 512) (hkl : kl ≤ 64) : MetV l y_Ranged_prepare (Cond.code y_Ranged_prepare prog_8_method_5_code 3 none :: gw) ({ frames := 2, cells := 0, slots := 0, locals := 44 } : Room) (dC, dI) vwCl (kT cI cM cO) [Value.ref co, Value.ref oo, Value.ref ka] [(co, Sum.inr (2, [Value.long xlow, Value.long xrange, Value.long xcode, Value.long xreadLow, Value.long xreadRange, Value.ref ri, Value.ref ro, Value.ref rw, Value.int xasked])), (oo, Sum.inr (7, [Value.int osg, Value.int osm, Value.int ofc, Value.ref oca, Value.ref opa])), (oca, Sum.inl (cI, ol, Sum.inl ocf)), (opa, Sum.inl (cI, opl, Sum.inl opf)), (ka, Sum.inl (cI, kl, Sum.inl kf))] sz (fun (u : Int32 × (Nat → Int32)) => True) (fun (u : Int32 × (Nat → Int32)) => [(co, Sum.inr (2, [Value.long xlow, Value.long xrange, Value.long xcode, Value.long xreadLow, Value.long xreadRange, Value.ref ri, Value.ref ro, Value.ref rw, Value.int xasked])), (oo, Sum.inr (7, [Value.int osg, Value.int u.1, Value.int ofc, Value.ref oca, Value.ref opa])), (oca, Sum.inl (cI, ol, Sum.inl u.2)), (opa, Sum.inl (cI, opl, Sum.inl opf)), (ka, Sum.inl (cI, kl, Sum.inl kf))]) 0 0 := by
  refine my_ofV (cc := prog_8_method_5_code) (n := 3) (ret := none) (by decide) rfl (Nat.le_of_ble_eq_true rfl) ?_
  intro p e s m args below meth c R Q A ls H locs hx hb hr hts hown hlocks hml hnm hR hQ hA hl hP hK hN hD hS
  have hg : ∀ w ∈ gw, w.before args s = true := fun w h => hts w (List.mem_cons_of_mem _ h)
  have hown : s.vm.findClass "RangeCoders$Ranged" = some m.cls := hown
  have hl : lv_has ls 3 [(0, Value.ref co), (1, Value.ref oo), (2, Value.ref ka)] := hl
  refine lv_aload_n hx hb d_Ranged_prepare_0 rfl (lv_at hl 1 rfl) ?_
  refine lv_aload_n hx hb d_Ranged_prepare_1 rfl (lv_at hl 2 rfl) ?_
  refine my_cv (wr := [(co, Sum.inr (2, [Value.long xlow, Value.long xrange, Value.long xcode, Value.long xreadLow, Value.long xreadRange, Value.ref ri, Value.ref ro, Value.ref rw, Value.int xasked]))]) (va_runV (As := [Value.ref ka]) (rest := []) ⟨hx, hb, hml, hown, hts⟩ (c_Odds_fromCounts l dC dI cI cM cO H.size oo osg osm ofc oca opa ol ocf opl opf ka kl kf (by first | assumption | omega) (by first | assumption | omega) (by first | assumption | omega)) (cwV 1 hts (my_gV k367 k368 k369 k14 k370) rfl rfl rfl cu_Odds_fromCounts_1 ⟨by rw [hR]; exact Nat.le_of_ble_eq_true rfl, by rw [hR]; exact Nat.le_of_ble_eq_true rfl⟩) (my_preV hK hN (hP.sub [1, 2, 3, 4] rfl) (hD.sub [1, 2, 3, 4] (by decide +kernel) rfl) 0 rfl rfl) rfl rfl hl.1 rfl (lv_room (Nat.le_of_ble_eq_true rfl)) d_Ranged_prepare_2 ⟨by rw [hR]; exact Nat.le_of_ble_eq_true rfl, by rw [hR]; exact Nat.le_of_ble_eq_true rfl⟩) hP hD hS hA [1, 2, 3, 4] [0] rfl rfl (by decide +kernel) (by decide +kernel) (fun u9 H locs hw_2 hP hD hS => ?_)
  obtain ⟨osmq_2, ocfq_2⟩ := u9
  have hPD : my_PD (dC, dI) vwCl A [(co, Sum.inr (2, [Value.long xlow, Value.long xrange, Value.long xcode, Value.long xreadLow, Value.long xreadRange, Value.ref ri, Value.ref ro, Value.ref rw, Value.int xasked])), (oo, Sum.inr (7, [Value.int osg, Value.int osmq_2, Value.int ofc, Value.ref oca, Value.ref opa])), (oca, Sum.inl (cI, ol, Sum.inl ocfq_2)), (opa, Sum.inl (cI, opl, Sum.inl opf)), (ka, Sum.inl (cI, kl, Sum.inl kf))] H := ⟨hP, hD⟩
  have hP := hPD.1
  have hD := hPD.2
  exact my_vret hx hb hr hlocks hQ hK hS (Nat.le_refl _) (Nat.le_refl _) (osmq_2, ocfq_2) (trivial) (hP.sub [0, 1, 2, 3, 4] rfl) (hD.sub [0, 1, 2, 3, 4] (by decide +kernel) rfl) d_Ranged_prepare_5
set_option maxHeartbeats 2000000 in
set_option maxRecDepth 100000 in
theorem c_NoCarries_Ranged_nextShare (l : Launch) (dC : Nat → ClassId) (dI : Nat → Nat → Nat) (cI cM cO : ClassId) (sz : Nat) (co : Nat) (xlow : Int64) (xrange : Int64) (xcode : Int64) (xreadLow : Int64) (xreadRange : Int64) (ri : Nat) (ro : Nat) (rw : Nat) (xasked : Int32) (pt : Int32) : MetI l y_Ranged_nextShare (Cond.code y_Ranged_nextShare prog_8_method_14_code 6 (some .int) :: gw) ({ frames := 0, cells := 0, slots := 0, locals := 0 } : Room) (dC, dI) vwCl (kT cI cM cO) [Value.ref co, Value.int pt] [(co, Sum.inr (2, [Value.long xlow, Value.long xrange, Value.long xcode, Value.long xreadLow, Value.long xreadRange, Value.ref ri, Value.ref ro, Value.ref rw, Value.int xasked]))] sz (fun (r : Int32) (u : Unit) => True) (fun (u : Unit) => [(co, Sum.inr (2, [Value.long xlow, Value.long xrange, Value.long xcode, Value.long xreadLow, Value.long xreadRange, Value.ref ri, Value.ref ro, Value.ref rw, Value.int xasked]))]) 0 0 := by
  refine my_ofI (cc := prog_8_method_14_code) (n := 6) (ret := (some .int)) (by decide) rfl (Nat.le_of_ble_eq_true rfl) ?_
  intro p e s m args below meth c R Q A ls H locs hx hb hr hts hown hlocks hml hnm hR hQ hA hl hP hK hN hD hS
  have hg : ∀ w ∈ gw, w.before args s = true := fun w h => hts w (List.mem_cons_of_mem _ h)
  have hown : s.vm.findClass "RangeCoders$Ranged" = some m.cls := hown
  have hl : lv_has ls 6 [(0, Value.ref co), (1, Value.int pt)] := hl
  refine lv_iload_n hx hb d_Ranged_nextShare_0 rfl (lv_at hl 1 rfl) ?_
  refine lv_if_le (tgt := 14) hx hb d_Ranged_nextShare_1 (by decide) (fun c_1 => ?_) (fun c_1 => ?_)
  · refine lv_lconst (v := 0) hx hb d_Ranged_nextShare_14 (by decide) ?_
    refine lv_lstore_n (lv' := [(2, Value.long 0), (0, Value.ref co), (1, Value.int pt)]) hx hb d_Ranged_nextShare_15 rfl hl (by decide) rfl (fun ls hl => ?_)
    refine lv_lload_n hx hb d_Ranged_nextShare_16 rfl (lv_at hl 0 rfl) ?_
    refine lv_lconst (v := 0) hx hb d_Ranged_nextShare_17 (by decide) ?_
    refine W.lcmp hx hb d_Ranged_nextShare_18 ?_
    refine lv_if_gt (tgt := 24) hx hb d_Ranged_nextShare_19 (by decide) (fun c_2 => ?_) (fun c_2 => ?_)
    · rw [lg_cmp_gt] at c_2
      refine lv_aload_n hx hb d_Ranged_nextShare_24 rfl (lv_at hl 1 rfl) ?_
      refine va_get (D := (dC, dI)) (ci := 2) (v := .long xcode) (C := "RangeCoders$NoCarries") (T := T_NoCarries) (N := 9) hx hb hg in_NoCarries hown hK hP 0 rfl rfl 2 (by decide) (hg _ k90) (fun _ h9 => h9) rfl d_Ranged_nextShare_25 ?_
      refine lv_aload_n hx hb d_Ranged_nextShare_28 rfl (lv_at hl 1 rfl) ?_
      refine va_get (D := (dC, dI)) (ci := 2) (v := .long xreadLow) (C := "RangeCoders$NoCarries") (T := T_NoCarries) (N := 9) hx hb hg in_NoCarries hown hK hP 0 rfl rfl 3 (by decide) (hg _ k93) (fun _ h9 => h9) rfl d_Ranged_nextShare_29 ?_
      refine lv_lsub hx hb d_Ranged_nextShare_32 ?_
      refine lv_topl (fun v_3 ev_3 => ?_)
      refine lv_ldc2 (v := 4294967295) hx hb hown (hg _ k67) d_Ranged_nextShare_33 ?_
      refine lv_land hx hb d_Ranged_nextShare_36 ?_
      refine lv_topl (fun v_4 ev_4 => ?_)
      refine lv_lload_n hx hb d_Ranged_nextShare_37 rfl (lv_at hl 0 rfl) ?_
      refine lv_ldiv hx hb d_Ranged_nextShare_38 (by first | decide | exact L_nzp (by assumption) | exact L_nz (by assumption)) ?_
      refine lv_topl (fun v_5 ev_5 => ?_)
      refine lv_lstore (lv' := [(4, Value.long v_5), (2, Value.long 0), (0, Value.ref co), (1, Value.int pt)]) hx hb d_Ranged_nextShare_39 hl (by decide) rfl (fun ls hl => ?_)
      refine lv_lload hx hb d_Ranged_nextShare_41 (lv_at hl 0 rfl) ?_
      refine lv_iload_n hx hb d_Ranged_nextShare_43 rfl (lv_at hl 3 rfl) ?_
      refine lv_i2l hx hb d_Ranged_nextShare_44 rfl ?_
      refine lv_topl (fun v_6 ev_6 => ?_)
      refine W.lcmp hx hb d_Ranged_nextShare_45 ?_
      refine lv_if_ge (tgt := 55) hx hb d_Ranged_nextShare_46 (by decide) (fun c_7 => ?_) (fun c_7 => ?_)
      · rw [lg_cmp_ge] at c_7
        refine lv_iconst (v := (-1)) hx hb d_Ranged_nextShare_55 (by decide) ?_
        exact my_iret (v := (-1)) hx hb hr (rfl) hlocks hQ hK hS (Nat.le_refl _) (Nat.le_refl _) () (trivial) (hP.sub [0] rfl) (hD.sub [0] (by decide +kernel) rfl) d_Ranged_nextShare_56
      · rw [lg_cmp_ge] at c_7
        refine lv_lload hx hb d_Ranged_nextShare_49 (lv_at hl 0 rfl) ?_
        refine lv_l2i hx hb d_Ranged_nextShare_51 rfl ?_
        refine lv_topi (fun v_8 ev_8 => ?_)
        refine lv_goto (tgt := 56) hx hb d_Ranged_nextShare_52 (by decide) ?_
        exact my_iret (v := v_8) hx hb hr (rfl) hlocks hQ hK hS (Nat.le_refl _) (Nat.le_refl _) () (trivial) (hP.sub [0] rfl) (hD.sub [0] (by decide +kernel) rfl) d_Ranged_nextShare_56
    · rw [lg_cmp_gt] at c_2
      refine lv_iconst (v := (-1)) hx hb d_Ranged_nextShare_22 (by decide) ?_
      exact my_iret (v := (-1)) hx hb hr (rfl) hlocks hQ hK hS (Nat.le_refl _) (Nat.le_refl _) () (trivial) (hP.sub [0] rfl) (hD.sub [0] (by decide +kernel) rfl) d_Ranged_nextShare_23
  · refine lv_aload_n hx hb d_Ranged_nextShare_4 rfl (lv_at hl 0 rfl) ?_
    refine va_get (D := (dC, dI)) (ci := 2) (v := .long xreadRange) (C := "RangeCoders$NoCarries") (T := T_NoCarries) (N := 9) hx hb hg in_NoCarries hown hK hP 0 rfl rfl 4 (by decide) (hg _ k100) (fun _ h9 => h9) rfl d_Ranged_nextShare_5 ?_
    refine lv_iload_n hx hb d_Ranged_nextShare_8 rfl (lv_at hl 1 rfl) ?_
    refine lv_i2l hx hb d_Ranged_nextShare_9 rfl ?_
    refine lv_topl (fun v_9 ev_9 => ?_)
    refine lv_ldiv hx hb d_Ranged_nextShare_10 (by rw [ev_9]; first | exact L_nzi (by assumption) | exact L_nzip (by assumption)) ?_
    refine lv_topl (fun v_10 ev_10 => ?_)
    refine lv_goto (tgt := 15) hx hb d_Ranged_nextShare_11 (by decide) ?_
    refine lv_lstore_n (lv' := [(2, Value.long v_10), (0, Value.ref co), (1, Value.int pt)]) hx hb d_Ranged_nextShare_15 rfl hl (by decide) rfl (fun ls hl => ?_)
    refine lv_lload_n hx hb d_Ranged_nextShare_16 rfl (lv_at hl 0 rfl) ?_
    refine lv_lconst (v := 0) hx hb d_Ranged_nextShare_17 (by decide) ?_
    refine W.lcmp hx hb d_Ranged_nextShare_18 ?_
    refine lv_if_gt (tgt := 24) hx hb d_Ranged_nextShare_19 (by decide) (fun c_11 => ?_) (fun c_11 => ?_)
    · rw [lg_cmp_gt] at c_11
      refine lv_aload_n hx hb d_Ranged_nextShare_24 rfl (lv_at hl 1 rfl) ?_
      refine va_get (D := (dC, dI)) (ci := 2) (v := .long xcode) (C := "RangeCoders$NoCarries") (T := T_NoCarries) (N := 9) hx hb hg in_NoCarries hown hK hP 0 rfl rfl 2 (by decide) (hg _ k90) (fun _ h9 => h9) rfl d_Ranged_nextShare_25 ?_
      refine lv_aload_n hx hb d_Ranged_nextShare_28 rfl (lv_at hl 1 rfl) ?_
      refine va_get (D := (dC, dI)) (ci := 2) (v := .long xreadLow) (C := "RangeCoders$NoCarries") (T := T_NoCarries) (N := 9) hx hb hg in_NoCarries hown hK hP 0 rfl rfl 3 (by decide) (hg _ k93) (fun _ h9 => h9) rfl d_Ranged_nextShare_29 ?_
      refine lv_lsub hx hb d_Ranged_nextShare_32 ?_
      refine lv_topl (fun v_12 ev_12 => ?_)
      refine lv_ldc2 (v := 4294967295) hx hb hown (hg _ k67) d_Ranged_nextShare_33 ?_
      refine lv_land hx hb d_Ranged_nextShare_36 ?_
      refine lv_topl (fun v_13 ev_13 => ?_)
      refine lv_lload_n hx hb d_Ranged_nextShare_37 rfl (lv_at hl 0 rfl) ?_
      refine lv_ldiv hx hb d_Ranged_nextShare_38 (by first | decide | exact L_nzp (by assumption) | exact L_nz (by assumption)) ?_
      refine lv_topl (fun v_14 ev_14 => ?_)
      refine lv_lstore (lv' := [(4, Value.long v_14), (2, Value.long v_10), (0, Value.ref co), (1, Value.int pt)]) hx hb d_Ranged_nextShare_39 hl (by decide) rfl (fun ls hl => ?_)
      refine lv_lload hx hb d_Ranged_nextShare_41 (lv_at hl 0 rfl) ?_
      refine lv_iload_n hx hb d_Ranged_nextShare_43 rfl (lv_at hl 3 rfl) ?_
      refine lv_i2l hx hb d_Ranged_nextShare_44 rfl ?_
      refine lv_topl (fun v_15 ev_15 => ?_)
      refine W.lcmp hx hb d_Ranged_nextShare_45 ?_
      refine lv_if_ge (tgt := 55) hx hb d_Ranged_nextShare_46 (by decide) (fun c_16 => ?_) (fun c_16 => ?_)
      · rw [lg_cmp_ge] at c_16
        refine lv_iconst (v := (-1)) hx hb d_Ranged_nextShare_55 (by decide) ?_
        exact my_iret (v := (-1)) hx hb hr (rfl) hlocks hQ hK hS (Nat.le_refl _) (Nat.le_refl _) () (trivial) (hP.sub [0] rfl) (hD.sub [0] (by decide +kernel) rfl) d_Ranged_nextShare_56
      · rw [lg_cmp_ge] at c_16
        refine lv_lload hx hb d_Ranged_nextShare_49 (lv_at hl 0 rfl) ?_
        refine lv_l2i hx hb d_Ranged_nextShare_51 rfl ?_
        refine lv_topi (fun v_17 ev_17 => ?_)
        refine lv_goto (tgt := 56) hx hb d_Ranged_nextShare_52 (by decide) ?_
        exact my_iret (v := v_17) hx hb hr (rfl) hlocks hQ hK hS (Nat.le_refl _) (Nat.le_refl _) () (trivial) (hP.sub [0] rfl) (hD.sub [0] (by decide +kernel) rfl) d_Ranged_nextShare_56
    · rw [lg_cmp_gt] at c_11
      refine lv_iconst (v := (-1)) hx hb d_Ranged_nextShare_22 (by decide) ?_
      exact my_iret (v := (-1)) hx hb hr (rfl) hlocks hQ hK hS (Nat.le_refl _) (Nat.le_refl _) () (trivial) (hP.sub [0] rfl) (hD.sub [0] (by decide +kernel) rfl) d_Ranged_nextShare_23
set_option maxHeartbeats 2000000 in
set_option maxRecDepth 100000 in
theorem c_NoCarries_Ranged_nextSign (l : Launch) (dC : Nat → ClassId) (dI : Nat → Nat → Nat) (cI cM cO : ClassId) (sz : Nat) (co : Nat) (xlow : Int64) (xrange : Int64) (xcode : Int64) (xreadLow : Int64) (xreadRange : Int64) (ri : Nat) (ro : Nat) (rw : Nat) (xasked : Int32) (rin : Int32) (ria : Nat) (rik : Nat) (rif : Nat → Int32) (oo : Nat) (osg : Int32) (osm : Int32) (ofc : Int32) (oca : Nat) (opa : Nat) (ol : Nat) (ocf : Nat → Int32) (opl : Nat) (opf : Nat → Int32) (hri : rOk rin rik) (hol : ol ≤ 64) (hopl : opl ≤ 512) : MetI l y_Ranged_nextSign (Cond.code y_Ranged_nextSign prog_8_method_11_code 4 (some .int) :: gw) ({ frames := 4, cells := 0, slots := 0, locals := 89 } : Room) (dC, dI) vwCl (kT cI cM cO) [Value.ref co, Value.ref oo] [(co, Sum.inr (2, [Value.long xlow, Value.long xrange, Value.long xcode, Value.long xreadLow, Value.long xreadRange, Value.ref ri, Value.ref ro, Value.ref rw, Value.int xasked])), (ri, Sum.inr (0, [Value.int rin, Value.ref ria])), (ria, Sum.inl (cI, rik, Sum.inl rif)), (oo, Sum.inr (7, [Value.int osg, Value.int osm, Value.int ofc, Value.ref oca, Value.ref opa])), (oca, Sum.inl (cI, ol, Sum.inl ocf)), (opa, Sum.inl (cI, opl, Sum.inl opf))] sz (fun (r : Int32) (u : Int64 × Int64 × Int64 × Int32 × Int32 × (Nat → Int32)) => True) (fun (u : Int64 × Int64 × Int64 × Int32 × Int32 × (Nat → Int32)) => [(co, Sum.inr (2, [Value.long xlow, Value.long xrange, Value.long u.1, Value.long u.2.1, Value.long u.2.2.1, Value.ref ri, Value.ref ro, Value.ref rw, Value.int u.2.2.2.1])), (ri, Sum.inr (0, [Value.int rin, Value.ref ria])), (ria, Sum.inl (cI, rik, Sum.inl rif)), (oo, Sum.inr (7, [Value.int osg, Value.int u.2.2.2.2.1, Value.int ofc, Value.ref oca, Value.ref opa])), (oca, Sum.inl (cI, ol, Sum.inl u.2.2.2.2.2)), (opa, Sum.inl (cI, opl, Sum.inl opf))]) 0 0 := by
  refine my_ofI (cc := prog_8_method_11_code) (n := 4) (ret := (some .int)) (by decide) rfl (Nat.le_of_ble_eq_true rfl) ?_
  intro p e s m args below meth c R Q A ls H locs hx hb hr hts hown hlocks hml hnm hR hQ hA hl hP hK hN hD hS
  have hg : ∀ w ∈ gw, w.before args s = true := fun w h => hts w (List.mem_cons_of_mem _ h)
  have hown : s.vm.findClass "RangeCoders$Ranged" = some m.cls := hown
  have hl : lv_has ls 4 [(0, Value.ref co), (1, Value.ref oo)] := hl
  have hlt_hri := rOk_lt hri
  refine lv_aload_n hx hb d_Ranged_nextSign_0 rfl (lv_at hl 0 rfl) ?_
  refine lv_aload_n hx hb d_Ranged_nextSign_1 rfl (lv_at hl 1 rfl) ?_
  refine va_get (D := (dC, dI)) (ci := 7) (v := .int osm) (C := "RangeCoders$Odds") (T := T_Odds) (N := 5) hx hb hg in_Odds hown hK hP 3 rfl rfl 1 (by decide) (hg _ k306) (fun _ h9 => h9) rfl d_Ranged_nextSign_2 ?_
  refine my_ci (wr := [(ri, Sum.inr (0, [Value.int rin, Value.ref ria])), (ria, Sum.inl (cI, rik, Sum.inl rif)), (oo, Sum.inr (7, [Value.int osg, Value.int osm, Value.int ofc, Value.ref oca, Value.ref opa])), (oca, Sum.inl (cI, ol, Sum.inl ocf)), (opa, Sum.inl (cI, opl, Sum.inl opf))]) (va_runU (As := [Value.int osm]) (rest := []) ⟨hx, hb, hml, hown, hts⟩ (c_NoCarries_Ranged_nextShare l dC dI cI cM cO H.size co xlow xrange xcode xreadLow xreadRange ri ro rw xasked osm) (va_cwU 1 hts (my_gU k807 k1289 kx5 k809 k4 k810) rfl rfl rfl rfl (by decide +kernel) ⟨by rw [hR]; exact Nat.le_of_ble_eq_true rfl, by rw [hR]; exact Nat.le_of_ble_eq_true rfl⟩) (my_preV hK hN (hP.sub [0] rfl) (hD.sub [0] (by decide +kernel) rfl) 0 rfl rfl) rfl rfl hl.1 rfl (lv_room (Nat.le_of_ble_eq_true rfl)) d_Ranged_nextSign_5 ⟨by rw [hR]; exact Nat.le_of_ble_eq_true rfl, by rw [hR]; exact Nat.le_of_ble_eq_true rfl⟩) hP hD hS hA [0] [1, 2, 3, 4, 5] rfl rfl (by decide +kernel) (by decide +kernel) (fun r_5 u9 H locs hw_5 hP hD hS => ?_)
  have hPD : my_PD (dC, dI) vwCl A [(ri, Sum.inr (0, [Value.int rin, Value.ref ria])), (ria, Sum.inl (cI, rik, Sum.inl rif)), (oo, Sum.inr (7, [Value.int osg, Value.int osm, Value.int ofc, Value.ref oca, Value.ref opa])), (oca, Sum.inl (cI, ol, Sum.inl ocf)), (opa, Sum.inl (cI, opl, Sum.inl opf)), (co, Sum.inr (2, [Value.long xlow, Value.long xrange, Value.long xcode, Value.long xreadLow, Value.long xreadRange, Value.ref ri, Value.ref ro, Value.ref rw, Value.int xasked]))] H := ⟨hP, hD⟩
  have hP := hPD.1
  have hD := hPD.2
  refine lv_istore_n (lv' := [(2, Value.int r_5), (0, Value.ref co), (1, Value.ref oo)]) hx hb d_Ranged_nextSign_8 rfl hl (by decide) rfl (fun ls hl => ?_)
  refine lv_iload_n hx hb d_Ranged_nextSign_9 rfl (lv_at hl 0 rfl) ?_
  refine lv_iconst (v := (-1)) hx hb d_Ranged_nextSign_10 (by decide) ?_
  refine lv_icmp_ne (tgt := 18) hx hb d_Ranged_nextSign_11 (by decide) (fun c_1 => ?_) (fun c_1 => ?_)
  · refine lv_aload_n hx hb d_Ranged_nextSign_18 rfl (lv_at hl 2 rfl) ?_
    refine lv_iload_n hx hb d_Ranged_nextSign_19 rfl (lv_at hl 0 rfl) ?_
    refine my_ci (wr := [(ri, Sum.inr (0, [Value.int rin, Value.ref ria])), (ria, Sum.inl (cI, rik, Sum.inl rif)), (co, Sum.inr (2, [Value.long xlow, Value.long xrange, Value.long xcode, Value.long xreadLow, Value.long xreadRange, Value.ref ri, Value.ref ro, Value.ref rw, Value.int xasked]))]) (va_runV (As := [Value.int r_5]) (rest := []) ⟨hx, hb, hml, hown, hts⟩ (c_Odds_signAt l dC dI cI cM cO H.size oo osg osm ofc oca opa ol ocf opl opf r_5 (by first | assumption | omega) (by first | assumption | omega)) (cwV 1 hts (my_gV k811 k812 k813 k14 k814) rfl rfl rfl cu_Odds_signAt_1 ⟨by rw [hR]; exact Nat.le_of_ble_eq_true rfl, by rw [hR]; exact Nat.le_of_ble_eq_true rfl⟩) (my_preV hK hN (hP.sub [2, 3, 4] rfl) (hD.sub [2, 3, 4] (by decide +kernel) rfl) 0 rfl rfl) rfl rfl hl.1 rfl (lv_room (Nat.le_of_ble_eq_true rfl)) d_Ranged_nextSign_20 ⟨by rw [hR]; exact Nat.le_of_ble_eq_true rfl, by rw [hR]; exact Nat.le_of_ble_eq_true rfl⟩) hP hD hS hA [2, 3, 4] [0, 1, 5] rfl rfl (by decide +kernel) (by decide +kernel) (fun r_20 u9 H locs hw_20 hP hD hS => ?_)
    have hPD : my_PD (dC, dI) vwCl A [(ri, Sum.inr (0, [Value.int rin, Value.ref ria])), (ria, Sum.inl (cI, rik, Sum.inl rif)), (co, Sum.inr (2, [Value.long xlow, Value.long xrange, Value.long xcode, Value.long xreadLow, Value.long xreadRange, Value.ref ri, Value.ref ro, Value.ref rw, Value.int xasked])), (oo, Sum.inr (7, [Value.int osg, Value.int osm, Value.int ofc, Value.ref oca, Value.ref opa])), (oca, Sum.inl (cI, ol, Sum.inl ocf)), (opa, Sum.inl (cI, opl, Sum.inl opf))] H := ⟨hP, hD⟩
    have hP := hPD.1
    have hD := hPD.2
    refine lv_istore_n (lv' := [(3, Value.int r_20), (2, Value.int r_5), (0, Value.ref co), (1, Value.ref oo)]) hx hb d_Ranged_nextSign_23 rfl hl (by decide) rfl (fun ls hl => ?_)
    refine lv_iload_n hx hb d_Ranged_nextSign_24 rfl (lv_at hl 0 rfl) ?_
    refine lv_iconst (v := (-1)) hx hb d_Ranged_nextSign_25 (by decide) ?_
    refine lv_icmp_eq (tgt := 52) hx hb d_Ranged_nextSign_26 (by decide) (fun c_2 => ?_) (fun c_2 => ?_)
    · refine lv_iload_n hx hb d_Ranged_nextSign_52 rfl (lv_at hl 0 rfl) ?_
      exact my_iret (v := r_20) hx hb hr (rfl) hlocks hQ hK hS (Nat.le_refl _) (Nat.le_refl _) (xcode, xreadLow, xreadRange, xasked, osm, ocf) (trivial) (hP.sub [2, 0, 1, 3, 4, 5] rfl) (hD.sub [2, 0, 1, 3, 4, 5] (by decide +kernel) rfl) d_Ranged_nextSign_53
    · refine lv_aload_n hx hb d_Ranged_nextSign_29 rfl (lv_at hl 2 rfl) ?_
      refine lv_aload_n hx hb d_Ranged_nextSign_30 rfl (lv_at hl 3 rfl) ?_
      refine lv_iload_n hx hb d_Ranged_nextSign_31 rfl (lv_at hl 0 rfl) ?_
      refine my_ci (wr := [(ri, Sum.inr (0, [Value.int rin, Value.ref ria])), (ria, Sum.inl (cI, rik, Sum.inl rif)), (co, Sum.inr (2, [Value.long xlow, Value.long xrange, Value.long xcode, Value.long xreadLow, Value.long xreadRange, Value.ref ri, Value.ref ro, Value.ref rw, Value.int xasked]))]) (va_runV (As := [Value.int r_20]) (rest := [Value.ref co]) ⟨hx, hb, hml, hown, hts⟩ (c_Odds_at l dC dI cI cM cO H.size oo osg osm ofc oca opa ol ocf opl opf r_20 (by first | assumption | omega) (by first | assumption | omega)) (cwV 1 hts (my_gV k493 k436 k437 k14 k438) rfl rfl rfl cu_Odds_at_1 ⟨by rw [hR]; exact Nat.le_of_ble_eq_true rfl, by rw [hR]; exact Nat.le_of_ble_eq_true rfl⟩) (my_preV hK hN (hP.sub [3, 4, 5] rfl) (hD.sub [3, 4, 5] (by decide +kernel) rfl) 0 rfl rfl) rfl rfl hl.1 rfl (lv_room (Nat.le_of_ble_eq_true rfl)) d_Ranged_nextSign_32 ⟨by rw [hR]; exact Nat.le_of_ble_eq_true rfl, by rw [hR]; exact Nat.le_of_ble_eq_true rfl⟩) hP hD hS hA [3, 4, 5] [0, 1, 2] rfl rfl (by decide +kernel) (by decide +kernel) (fun r_32 u9 H locs hw_32 hP hD hS => ?_)
      have hPD : my_PD (dC, dI) vwCl A [(ri, Sum.inr (0, [Value.int rin, Value.ref ria])), (ria, Sum.inl (cI, rik, Sum.inl rif)), (co, Sum.inr (2, [Value.long xlow, Value.long xrange, Value.long xcode, Value.long xreadLow, Value.long xreadRange, Value.ref ri, Value.ref ro, Value.ref rw, Value.int xasked])), (oo, Sum.inr (7, [Value.int osg, Value.int osm, Value.int ofc, Value.ref oca, Value.ref opa])), (oca, Sum.inl (cI, ol, Sum.inl ocf)), (opa, Sum.inl (cI, opl, Sum.inl opf))] H := ⟨hP, hD⟩
      have hP := hPD.1
      have hD := hPD.2
      refine lv_aload_n hx hb d_Ranged_nextSign_35 rfl (lv_at hl 3 rfl) ?_
      refine lv_iload_n hx hb d_Ranged_nextSign_36 rfl (lv_at hl 0 rfl) ?_
      refine my_ci (wr := [(ri, Sum.inr (0, [Value.int rin, Value.ref ria])), (ria, Sum.inl (cI, rik, Sum.inl rif)), (co, Sum.inr (2, [Value.long xlow, Value.long xrange, Value.long xcode, Value.long xreadLow, Value.long xreadRange, Value.ref ri, Value.ref ro, Value.ref rw, Value.int xasked]))]) (va_runV (As := [Value.int r_20]) (rest := [Value.int r_32, Value.ref co]) ⟨hx, hb, hml, hown, hts⟩ (c_Odds_below l dC dI cI cM cO H.size oo osg osm ofc oca opa ol ocf opl opf r_20 (by first | assumption | omega) (by first | assumption | omega)) (cwV 1 hts (my_gV k494 k495 k496 k14 k497) rfl rfl rfl cu_Odds_below_1 ⟨by rw [hR]; exact Nat.le_of_ble_eq_true rfl, by rw [hR]; exact Nat.le_of_ble_eq_true rfl⟩) (my_preV hK hN (hP.sub [3, 4, 5] rfl) (hD.sub [3, 4, 5] (by decide +kernel) rfl) 0 rfl rfl) rfl rfl hl.1 rfl (lv_room (Nat.le_of_ble_eq_true rfl)) d_Ranged_nextSign_37 ⟨by rw [hR]; exact Nat.le_of_ble_eq_true rfl, by rw [hR]; exact Nat.le_of_ble_eq_true rfl⟩) hP hD hS hA [3, 4, 5] [0, 1, 2] rfl rfl (by decide +kernel) (by decide +kernel) (fun r_37 u9 H locs hw_37 hP hD hS => ?_)
      have hPD : my_PD (dC, dI) vwCl A [(ri, Sum.inr (0, [Value.int rin, Value.ref ria])), (ria, Sum.inl (cI, rik, Sum.inl rif)), (co, Sum.inr (2, [Value.long xlow, Value.long xrange, Value.long xcode, Value.long xreadLow, Value.long xreadRange, Value.ref ri, Value.ref ro, Value.ref rw, Value.int xasked])), (oo, Sum.inr (7, [Value.int osg, Value.int osm, Value.int ofc, Value.ref oca, Value.ref opa])), (oca, Sum.inl (cI, ol, Sum.inl ocf)), (opa, Sum.inl (cI, opl, Sum.inl opf))] H := ⟨hP, hD⟩
      have hP := hPD.1
      have hD := hPD.2
      refine lv_aload_n hx hb d_Ranged_nextSign_40 rfl (lv_at hl 3 rfl) ?_
      refine va_get (D := (dC, dI)) (ci := 7) (v := .int osm) (C := "RangeCoders$Odds") (T := T_Odds) (N := 5) hx hb hg in_Odds hown hK hP 3 rfl rfl 1 (by decide) (hg _ k306) (fun _ h9 => h9) rfl d_Ranged_nextSign_41 ?_
      refine my_cv (wr := [(oo, Sum.inr (7, [Value.int osg, Value.int osm, Value.int ofc, Value.ref oca, Value.ref opa])), (oca, Sum.inl (cI, ol, Sum.inl ocf)), (opa, Sum.inl (cI, opl, Sum.inl opf))]) (va_runU (As := [Value.int r_32, Value.int r_37, Value.int osm]) (rest := []) ⟨hx, hb, hml, hown, hts⟩ (c_NoCarries_NoCarries_readPart l dC dI cI cM cO H.size co xlow xrange xcode xreadLow xreadRange ri ro rw xasked rin ria rik rif r_32 r_37 osm (by first | assumption | omega)) (va_cwA 3 hts (my_gU k815 k817 k823 k824 k7 k825) rfl rfl rfl (hN.1 _ j816 rfl) (by decide +kernel) ⟨by rw [hR]; exact Nat.le_of_ble_eq_true rfl, by rw [hR]; exact Nat.le_of_ble_eq_true rfl⟩) (my_preV hK hN (hP.sub [2, 0, 1] rfl) (hD.sub [2, 0, 1] (by decide +kernel) rfl) 0 rfl rfl) rfl rfl hl.1 rfl (lv_room (Nat.le_of_ble_eq_true rfl)) d_Ranged_nextSign_44 ⟨by rw [hR]; exact Nat.le_of_ble_eq_true rfl, by rw [hR]; exact Nat.le_of_ble_eq_true rfl⟩) hP hD hS hA [2, 0, 1] [3, 4, 5] rfl rfl (by decide +kernel) (by decide +kernel) (fun u9 H locs hw_44 hP hD hS => ?_)
      obtain ⟨xcodeq_44, xreadLowq_44, xreadRangeq_44, xaskedq_44⟩ := u9
      have hPD : my_PD (dC, dI) vwCl A [(oo, Sum.inr (7, [Value.int osg, Value.int osm, Value.int ofc, Value.ref oca, Value.ref opa])), (oca, Sum.inl (cI, ol, Sum.inl ocf)), (opa, Sum.inl (cI, opl, Sum.inl opf)), (co, Sum.inr (2, [Value.long xlow, Value.long xrange, Value.long xcodeq_44, Value.long xreadLowq_44, Value.long xreadRangeq_44, Value.ref ri, Value.ref ro, Value.ref rw, Value.int xaskedq_44])), (ri, Sum.inr (0, [Value.int rin, Value.ref ria])), (ria, Sum.inl (cI, rik, Sum.inl rif))] H := ⟨hP, hD⟩
      have hP := hPD.1
      have hD := hPD.2
      refine lv_aload_n hx hb d_Ranged_nextSign_47 rfl (lv_at hl 3 rfl) ?_
      refine lv_iload_n hx hb d_Ranged_nextSign_48 rfl (lv_at hl 0 rfl) ?_
      refine my_cv (wr := [(co, Sum.inr (2, [Value.long xlow, Value.long xrange, Value.long xcodeq_44, Value.long xreadLowq_44, Value.long xreadRangeq_44, Value.ref ri, Value.ref ro, Value.ref rw, Value.int xaskedq_44])), (ri, Sum.inr (0, [Value.int rin, Value.ref ria])), (ria, Sum.inl (cI, rik, Sum.inl rif))]) (va_runV (As := [Value.int r_20]) (rest := []) ⟨hx, hb, hml, hown, hts⟩ (c_Odds_learn l dC dI cI cM cO H.size oo osg osm ofc oca opa ol ocf opl opf r_20 (by first | assumption | omega) (by first | assumption | omega)) (cwV 1 hts (my_gV k526 k527 k528 k14 k529) rfl rfl rfl cu_Odds_learn_1 ⟨by rw [hR]; exact Nat.le_of_ble_eq_true rfl, by rw [hR]; exact Nat.le_of_ble_eq_true rfl⟩) (my_preV hK hN (hP.sub [0, 1, 2] rfl) (hD.sub [0, 1, 2] (by decide +kernel) rfl) 0 rfl rfl) rfl rfl hl.1 rfl (lv_room (Nat.le_of_ble_eq_true rfl)) d_Ranged_nextSign_49 ⟨by rw [hR]; exact Nat.le_of_ble_eq_true rfl, by rw [hR]; exact Nat.le_of_ble_eq_true rfl⟩) hP hD hS hA [0, 1, 2] [3, 4, 5] rfl rfl (by decide +kernel) (by decide +kernel) (fun u9 H locs hw_49 hP hD hS => ?_)
      obtain ⟨osmq_49, ocfq_49⟩ := u9
      have hPD : my_PD (dC, dI) vwCl A [(co, Sum.inr (2, [Value.long xlow, Value.long xrange, Value.long xcodeq_44, Value.long xreadLowq_44, Value.long xreadRangeq_44, Value.ref ri, Value.ref ro, Value.ref rw, Value.int xaskedq_44])), (ri, Sum.inr (0, [Value.int rin, Value.ref ria])), (ria, Sum.inl (cI, rik, Sum.inl rif)), (oo, Sum.inr (7, [Value.int osg, Value.int osmq_49, Value.int ofc, Value.ref oca, Value.ref opa])), (oca, Sum.inl (cI, ol, Sum.inl ocfq_49)), (opa, Sum.inl (cI, opl, Sum.inl opf))] H := ⟨hP, hD⟩
      have hP := hPD.1
      have hD := hPD.2
      refine lv_iload_n hx hb d_Ranged_nextSign_52 rfl (lv_at hl 0 rfl) ?_
      exact my_iret (v := r_20) hx hb hr (rfl) hlocks hQ hK hS (Nat.le_refl _) (Nat.le_refl _) (xcodeq_44, xreadLowq_44, xreadRangeq_44, xaskedq_44, osmq_49, ocfq_49) (trivial) (hP.sub [0, 1, 2, 3, 4, 5] rfl) (hD.sub [0, 1, 2, 3, 4, 5] (by decide +kernel) rfl) d_Ranged_nextSign_53
  · refine lv_iconst (v := (-1)) hx hb d_Ranged_nextSign_14 (by decide) ?_
    refine lv_goto (tgt := 23) hx hb d_Ranged_nextSign_15 (by decide) ?_
    refine lv_istore_n (lv' := [(3, Value.int (-1)), (2, Value.int r_5), (0, Value.ref co), (1, Value.ref oo)]) hx hb d_Ranged_nextSign_23 rfl hl (by decide) rfl (fun ls hl => ?_)
    refine lv_iload_n hx hb d_Ranged_nextSign_24 rfl (lv_at hl 0 rfl) ?_
    refine lv_iconst (v := (-1)) hx hb d_Ranged_nextSign_25 (by decide) ?_
    refine lv_icmp_eq (tgt := 52) hx hb d_Ranged_nextSign_26 (by decide) (fun c_3 => ?_) (fun c_3 => ?_)
    · refine lv_iload_n hx hb d_Ranged_nextSign_52 rfl (lv_at hl 0 rfl) ?_
      exact my_iret (v := (-1)) hx hb hr (rfl) hlocks hQ hK hS (Nat.le_refl _) (Nat.le_refl _) (xcode, xreadLow, xreadRange, xasked, osm, ocf) (trivial) (hP.sub [5, 0, 1, 2, 3, 4] rfl) (hD.sub [5, 0, 1, 2, 3, 4] (by decide +kernel) rfl) d_Ranged_nextSign_53
    · exact absurd (by decide) c_3
set_option maxHeartbeats 2000000 in
set_option maxRecDepth 100000 in
theorem c_NoCarries_Ranged_nextValue (l : Launch) (dC : Nat → ClassId) (dI : Nat → Nat → Nat) (cI cM cO : ClassId) (sz : Nat) (co : Nat) (xlow : Int64) (xrange : Int64) (xcode : Int64) (xreadLow : Int64) (xreadRange : Int64) (ri : Nat) (ro : Nat) (rw : Nat) (xasked : Int32) (rin : Int32) (ria : Nat) (rik : Nat) (rif : Nat → Int32) (wd : Int32) (hri : rOk rin rik) : MetI l y_Ranged_nextValue (Cond.code y_Ranged_nextValue prog_8_method_12_code 3 (some .int) :: gw) ({ frames := 4, cells := 0, slots := 0, locals := 89 } : Room) (dC, dI) vwCl (kT cI cM cO) [Value.ref co, Value.int wd] [(co, Sum.inr (2, [Value.long xlow, Value.long xrange, Value.long xcode, Value.long xreadLow, Value.long xreadRange, Value.ref ri, Value.ref ro, Value.ref rw, Value.int xasked])), (ri, Sum.inr (0, [Value.int rin, Value.ref ria])), (ria, Sum.inl (cI, rik, Sum.inl rif))] sz (fun (r : Int32) (u : Int64 × Int64 × Int64 × Int32) => True) (fun (u : Int64 × Int64 × Int64 × Int32) => [(co, Sum.inr (2, [Value.long xlow, Value.long xrange, Value.long u.1, Value.long u.2.1, Value.long u.2.2.1, Value.ref ri, Value.ref ro, Value.ref rw, Value.int u.2.2.2])), (ri, Sum.inr (0, [Value.int rin, Value.ref ria])), (ria, Sum.inl (cI, rik, Sum.inl rif))]) 0 0 := by
  refine my_ofI (cc := prog_8_method_12_code) (n := 3) (ret := (some .int)) (by decide) rfl (Nat.le_of_ble_eq_true rfl) ?_
  intro p e s m args below meth c R Q A ls H locs hx hb hr hts hown hlocks hml hnm hR hQ hA hl hP hK hN hD hS
  have hg : ∀ w ∈ gw, w.before args s = true := fun w h => hts w (List.mem_cons_of_mem _ h)
  have hown : s.vm.findClass "RangeCoders$Ranged" = some m.cls := hown
  have hl : lv_has ls 3 [(0, Value.ref co), (1, Value.int wd)] := hl
  have hlt_hri := rOk_lt hri
  refine lv_aload_n hx hb d_Ranged_nextValue_0 rfl (lv_at hl 0 rfl) ?_
  refine lv_iconst (v := 1) hx hb d_Ranged_nextValue_1 (by decide) ?_
  refine lv_iload_n hx hb d_Ranged_nextValue_2 rfl (lv_at hl 1 rfl) ?_
  refine lv_ishl hx hb d_Ranged_nextValue_3 ?_
  refine lv_topi (fun v_1 ev_1 => ?_)
  refine my_ci (wr := [(ri, Sum.inr (0, [Value.int rin, Value.ref ria])), (ria, Sum.inl (cI, rik, Sum.inl rif))]) (va_runU (As := [Value.int v_1]) (rest := []) ⟨hx, hb, hml, hown, hts⟩ (c_NoCarries_Ranged_nextShare l dC dI cI cM cO H.size co xlow xrange xcode xreadLow xreadRange ri ro rw xasked v_1) (va_cwU 1 hts (my_gU k807 k1289 kx5 k809 k4 k810) rfl rfl rfl rfl (by decide +kernel) ⟨by rw [hR]; exact Nat.le_of_ble_eq_true rfl, by rw [hR]; exact Nat.le_of_ble_eq_true rfl⟩) (my_preV hK hN (hP.sub [0] rfl) (hD.sub [0] (by decide +kernel) rfl) 0 rfl rfl) rfl rfl hl.1 rfl (lv_room (Nat.le_of_ble_eq_true rfl)) d_Ranged_nextValue_4 ⟨by rw [hR]; exact Nat.le_of_ble_eq_true rfl, by rw [hR]; exact Nat.le_of_ble_eq_true rfl⟩) hP hD hS hA [0] [1, 2] rfl rfl (by decide +kernel) (by decide +kernel) (fun r_4 u9 H locs hw_4 hP hD hS => ?_)
  have hPD : my_PD (dC, dI) vwCl A [(ri, Sum.inr (0, [Value.int rin, Value.ref ria])), (ria, Sum.inl (cI, rik, Sum.inl rif)), (co, Sum.inr (2, [Value.long xlow, Value.long xrange, Value.long xcode, Value.long xreadLow, Value.long xreadRange, Value.ref ri, Value.ref ro, Value.ref rw, Value.int xasked]))] H := ⟨hP, hD⟩
  have hP := hPD.1
  have hD := hPD.2
  refine lv_istore_n (lv' := [(2, Value.int r_4), (0, Value.ref co), (1, Value.int wd)]) hx hb d_Ranged_nextValue_7 rfl hl (by decide) rfl (fun ls hl => ?_)
  refine lv_iload_n hx hb d_Ranged_nextValue_8 rfl (lv_at hl 0 rfl) ?_
  refine lv_iconst (v := (-1)) hx hb d_Ranged_nextValue_9 (by decide) ?_
  refine lv_icmp_eq (tgt := 22) hx hb d_Ranged_nextValue_10 (by decide) (fun c_2 => ?_) (fun c_2 => ?_)
  · refine lv_iload_n hx hb d_Ranged_nextValue_22 rfl (lv_at hl 0 rfl) ?_
    exact my_iret (v := r_4) hx hb hr (rfl) hlocks hQ hK hS (Nat.le_refl _) (Nat.le_refl _) (xcode, xreadLow, xreadRange, xasked) (trivial) (hP.sub [2, 0, 1] rfl) (hD.sub [2, 0, 1] (by decide +kernel) rfl) d_Ranged_nextValue_23
  · refine lv_aload_n hx hb d_Ranged_nextValue_13 rfl (lv_at hl 1 rfl) ?_
    refine lv_iconst (v := 1) hx hb d_Ranged_nextValue_14 (by decide) ?_
    refine lv_iload_n hx hb d_Ranged_nextValue_15 rfl (lv_at hl 0 rfl) ?_
    refine lv_iconst (v := 1) hx hb d_Ranged_nextValue_16 (by decide) ?_
    refine lv_iload_n hx hb d_Ranged_nextValue_17 rfl (lv_at hl 2 rfl) ?_
    refine lv_ishl hx hb d_Ranged_nextValue_18 ?_
    refine lv_topi (fun v_3 ev_3 => ?_)
    refine my_cv (wr := []) (va_runU (As := [Value.int 1, Value.int r_4, Value.int v_3]) (rest := []) ⟨hx, hb, hml, hown, hts⟩ (c_NoCarries_NoCarries_readPart l dC dI cI cM cO H.size co xlow xrange xcode xreadLow xreadRange ri ro rw xasked rin ria rik rif 1 r_4 v_3 (by first | assumption | omega)) (va_cwA 3 hts (my_gU k815 k817 k823 k824 k7 k825) rfl rfl rfl (hN.1 _ j816 rfl) (by decide +kernel) ⟨by rw [hR]; exact Nat.le_of_ble_eq_true rfl, by rw [hR]; exact Nat.le_of_ble_eq_true rfl⟩) (my_preV hK hN (hP.sub [2, 0, 1] rfl) (hD.sub [2, 0, 1] (by decide +kernel) rfl) 0 rfl rfl) rfl rfl hl.1 rfl (lv_room (Nat.le_of_ble_eq_true rfl)) d_Ranged_nextValue_19 ⟨by rw [hR]; exact Nat.le_of_ble_eq_true rfl, by rw [hR]; exact Nat.le_of_ble_eq_true rfl⟩) hP hD hS hA [2, 0, 1] [] rfl rfl (by decide +kernel) (by decide +kernel) (fun u9 H locs hw_19 hP hD hS => ?_)
    obtain ⟨xcodeq_19, xreadLowq_19, xreadRangeq_19, xaskedq_19⟩ := u9
    have hPD : my_PD (dC, dI) vwCl A [(co, Sum.inr (2, [Value.long xlow, Value.long xrange, Value.long xcodeq_19, Value.long xreadLowq_19, Value.long xreadRangeq_19, Value.ref ri, Value.ref ro, Value.ref rw, Value.int xaskedq_19])), (ri, Sum.inr (0, [Value.int rin, Value.ref ria])), (ria, Sum.inl (cI, rik, Sum.inl rif))] H := ⟨hP, hD⟩
    have hP := hPD.1
    have hD := hPD.2
    refine lv_iload_n hx hb d_Ranged_nextValue_22 rfl (lv_at hl 0 rfl) ?_
    exact my_iret (v := r_4) hx hb hr (rfl) hlocks hQ hK hS (Nat.le_refl _) (Nat.le_refl _) (xcodeq_19, xreadLowq_19, xreadRangeq_19, xaskedq_19) (trivial) (hP.sub [0, 1, 2] rfl) (hD.sub [0, 1, 2] (by decide +kernel) rfl) d_Ranged_nextValue_23
set_option maxHeartbeats 2000000 in
set_option maxRecDepth 100000 in
theorem c_NoCarries_Ranged_openReading (l : Launch) (dC : Nat → ClassId) (dI : Nat → Nat → Nat) (cI cM cO : ClassId) (sz : Nat) (co : Nat) (xlow : Int64) (xrange : Int64) (xcode : Int64) (xreadLow : Int64) (xreadRange : Int64) (ri : Nat) (ro : Nat) (rw : Nat) (xasked : Int32) (rin : Int32) (ria : Nat) (rik : Nat) (rif : Nat → Int32) (hri : rOk rin rik) : MetI l y_Ranged_openReading (Cond.code y_Ranged_openReading prog_8_method_10_code 1 (some .boolean) :: gw) ({ frames := 4, cells := 0, slots := 0, locals := 86 } : Room) (dC, dI) vwCl (kT cI cM cO) [Value.ref co] [(co, Sum.inr (2, [Value.long xlow, Value.long xrange, Value.long xcode, Value.long xreadLow, Value.long xreadRange, Value.ref ri, Value.ref ro, Value.ref rw, Value.int xasked])), (ri, Sum.inr (0, [Value.int rin, Value.ref ria])), (ria, Sum.inl (cI, rik, Sum.inl rif))] sz (fun (r : Int32) (u : Int64 × Int64 × Int64 × Int32) => True) (fun (u : Int64 × Int64 × Int64 × Int32) => [(co, Sum.inr (2, [Value.long xlow, Value.long xrange, Value.long u.1, Value.long u.2.1, Value.long u.2.2.1, Value.ref ri, Value.ref ro, Value.ref rw, Value.int u.2.2.2])), (ri, Sum.inr (0, [Value.int rin, Value.ref ria])), (ria, Sum.inl (cI, rik, Sum.inl rif))]) 0 0 := by
  refine my_ofI (cc := prog_8_method_10_code) (n := 1) (ret := (some .boolean)) (by decide) rfl (Nat.le_of_ble_eq_true rfl) ?_
  intro p e s m args below meth c R Q A ls H locs hx hb hr hts hown hlocks hml hnm hR hQ hA hl hP hK hN hD hS
  have hg : ∀ w ∈ gw, w.before args s = true := fun w h => hts w (List.mem_cons_of_mem _ h)
  have hown : s.vm.findClass "RangeCoders$Ranged" = some m.cls := hown
  have hl : lv_has ls 1 [(0, Value.ref co)] := hl
  have hlt_hri := rOk_lt hri
  refine lv_aload_n hx hb d_Ranged_openReading_0 rfl (lv_at hl 0 rfl) ?_
  refine lv_aload_n hx hb d_Ranged_openReading_1 rfl (lv_at hl 0 rfl) ?_
  refine my_cl (wr := []) (va_runU (As := []) (rest := [Value.ref co]) ⟨hx, hb, hml, hown, hts⟩ (c_NoCarries_Coder_firstFourBytes l dC dI cI cM cO H.size co xlow xrange xcode xreadLow xreadRange ri ro rw xasked rin ria rik rif (by first | assumption | omega)) (va_cwU 0 hts (my_gU k733 k734 k738 k739 k3 k740) rfl rfl rfl rfl (by decide +kernel) ⟨by rw [hR]; exact Nat.le_of_ble_eq_true rfl, by rw [hR]; exact Nat.le_of_ble_eq_true rfl⟩) (my_preV hK hN (hP.sub [0, 1, 2] rfl) (hD.sub [0, 1, 2] (by decide +kernel) rfl) 0 rfl rfl) rfl rfl hl.1 rfl (lv_room (Nat.le_of_ble_eq_true rfl)) d_Ranged_openReading_2 ⟨by rw [hR]; exact Nat.le_of_ble_eq_true rfl, by rw [hR]; exact Nat.le_of_ble_eq_true rfl⟩) hP hD hS hA [0, 1, 2] [] rfl rfl (by decide +kernel) (by decide +kernel) (fun r_2 u9 H locs hw_2 hP hD hS => ?_)
  obtain ⟨xaskedq_2, rfl⟩ : ∃ z, z = u9 := ⟨_, rfl⟩
  have hPD : my_PD (dC, dI) vwCl A [(co, Sum.inr (2, [Value.long xlow, Value.long xrange, Value.long xcode, Value.long xreadLow, Value.long xreadRange, Value.ref ri, Value.ref ro, Value.ref rw, Value.int xaskedq_2])), (ri, Sum.inr (0, [Value.int rin, Value.ref ria])), (ria, Sum.inl (cI, rik, Sum.inl rif))] H := ⟨hP, hD⟩
  have hP := hPD.1
  have hD := hPD.2
  refine va_put (D := (dC, dI)) (ci := 2) (v := .long r_2) (ty := .long) (C := "RangeCoders$NoCarries") (T := T_NoCarries) (N := 9) hx hb hg in_NoCarries t_NoCarries o_NoCarries n_NoCarries hown hK hP hD hS 0 rfl rfl 2 (by decide) (hg _ k90) (fun _ h9 => h9) rfl (o_NoCarries 2 (by decide)) rfl rfl (Nat.le_of_ble_eq_true rfl) d_Ranged_openReading_5 (fun H locs hP hD hS => ?_)
  have hPD : my_PD (dC, dI) vwCl A [(co, Sum.inr (2, [Value.long xlow, Value.long xrange, Value.long r_2, Value.long xreadLow, Value.long xreadRange, Value.ref ri, Value.ref ro, Value.ref rw, Value.int xaskedq_2])), (ri, Sum.inr (0, [Value.int rin, Value.ref ria])), (ria, Sum.inl (cI, rik, Sum.inl rif))] H := ⟨hP, hD⟩
  have hP := hPD.1
  have hD := hPD.2
  refine lv_aload_n hx hb d_Ranged_openReading_8 rfl (lv_at hl 0 rfl) ?_
  refine lv_lconst (v := 0) hx hb d_Ranged_openReading_9 (by decide) ?_
  refine va_put (D := (dC, dI)) (ci := 2) (v := .long 0) (ty := .long) (C := "RangeCoders$NoCarries") (T := T_NoCarries) (N := 9) hx hb hg in_NoCarries t_NoCarries o_NoCarries n_NoCarries hown hK hP hD hS 0 rfl rfl 3 (by decide) (hg _ k93) (fun _ h9 => h9) rfl (o_NoCarries 3 (by decide)) rfl rfl (Nat.le_of_ble_eq_true rfl) d_Ranged_openReading_10 (fun H locs hP hD hS => ?_)
  have hPD : my_PD (dC, dI) vwCl A [(co, Sum.inr (2, [Value.long xlow, Value.long xrange, Value.long r_2, Value.long 0, Value.long xreadRange, Value.ref ri, Value.ref ro, Value.ref rw, Value.int xaskedq_2])), (ri, Sum.inr (0, [Value.int rin, Value.ref ria])), (ria, Sum.inl (cI, rik, Sum.inl rif))] H := ⟨hP, hD⟩
  have hP := hPD.1
  have hD := hPD.2
  refine lv_aload_n hx hb d_Ranged_openReading_13 rfl (lv_at hl 0 rfl) ?_
  refine lv_ldc2 (v := 4294967295) hx hb hown (hg _ k67) d_Ranged_openReading_14 ?_
  refine va_put (D := (dC, dI)) (ci := 2) (v := .long 4294967295) (ty := .long) (C := "RangeCoders$NoCarries") (T := T_NoCarries) (N := 9) hx hb hg in_NoCarries t_NoCarries o_NoCarries n_NoCarries hown hK hP hD hS 0 rfl rfl 4 (by decide) (hg _ k100) (fun _ h9 => h9) rfl (o_NoCarries 4 (by decide)) rfl rfl (Nat.le_of_ble_eq_true rfl) d_Ranged_openReading_17 (fun H locs hP hD hS => ?_)
  have hPD : my_PD (dC, dI) vwCl A [(co, Sum.inr (2, [Value.long xlow, Value.long xrange, Value.long r_2, Value.long 0, Value.long 4294967295, Value.ref ri, Value.ref ro, Value.ref rw, Value.int xaskedq_2])), (ri, Sum.inr (0, [Value.int rin, Value.ref ria])), (ria, Sum.inl (cI, rik, Sum.inl rif))] H := ⟨hP, hD⟩
  have hP := hPD.1
  have hD := hPD.2
  refine lv_iconst (v := 1) hx hb d_Ranged_openReading_20 (by decide) ?_
  exact my_iret (v := 1) hx hb hr (rfl) hlocks hQ hK hS (Nat.le_refl _) (Nat.le_refl _) (r_2, (0 : Int64), (4294967295 : Int64), xaskedq_2) (trivial) (hP.sub [0, 1, 2] rfl) (hD.sub [0, 1, 2] (by decide +kernel) rfl) d_Ranged_openReading_21
set_option maxHeartbeats 2000000 in
set_option maxRecDepth 100000 in
theorem c_NoCarries_Ranged_register (l : Launch) (dC : Nat → ClassId) (dI : Nat → Nat → Nat) (cI cM cO : ClassId) (sz : Nat) (co : Nat) (xlow : Int64) (xrange : Int64) (xcode : Int64) (xreadLow : Int64) (xreadRange : Int64) (ri : Nat) (ro : Nat) (rw : Nat) (xasked : Int32) (wh : Int32) : MetL l y_Ranged_register (Cond.code y_Ranged_register prog_8_method_13_code 2 (some .long) :: gw) ({ frames := 0, cells := 0, slots := 0, locals := 0 } : Room) (dC, dI) vwCl (kT cI cM cO) [Value.ref co, Value.int wh] [(co, Sum.inr (2, [Value.long xlow, Value.long xrange, Value.long xcode, Value.long xreadLow, Value.long xreadRange, Value.ref ri, Value.ref ro, Value.ref rw, Value.int xasked]))] sz (fun (r : Int64) (u : Unit) => True) (fun (u : Unit) => [(co, Sum.inr (2, [Value.long xlow, Value.long xrange, Value.long xcode, Value.long xreadLow, Value.long xreadRange, Value.ref ri, Value.ref ro, Value.ref rw, Value.int xasked]))]) 0 0 := by
  refine my_ofL (cc := prog_8_method_13_code) (n := 2) (ret := (some .long)) (by decide) rfl (Nat.le_of_ble_eq_true rfl) ?_
  intro p e s m args below meth c R Q A ls H locs hx hb hr hts hown hlocks hml hnm hR hQ hA hl hP hK hN hD hS
  have hg : ∀ w ∈ gw, w.before args s = true := fun w h => hts w (List.mem_cons_of_mem _ h)
  have hown : s.vm.findClass "RangeCoders$Ranged" = some m.cls := hown
  have hl : lv_has ls 2 [(0, Value.ref co), (1, Value.int wh)] := hl
  refine lv_iload_n hx hb d_Ranged_register_0 rfl (lv_at hl 1 rfl) ?_
  by_cases c_1 : wh = 0
  · refine lv_tableIn (tgt := 36) hx hb d_Ranged_register_1 (by rw [c_1]; decide) (by rw [c_1]; decide) (by rw [c_1]; rfl) (by decide) ?_
    refine lv_aload_n hx hb d_Ranged_register_36 rfl (lv_at hl 0 rfl) ?_
    refine va_get (D := (dC, dI)) (ci := 2) (v := .long xlow) (C := "RangeCoders$NoCarries") (T := T_NoCarries) (N := 9) hx hb hg in_NoCarries hown hK hP 0 rfl rfl 0 (by decide) (hg _ k74) (fun _ h9 => h9) rfl d_Ranged_register_37 ?_
    exact my_lret (v := xlow) hx hb hr hlocks hQ hK hS (Nat.le_refl _) (Nat.le_refl _) () (trivial) (hP.sub [0] rfl) (hD.sub [0] (by decide +kernel) rfl) d_Ranged_register_40
  by_cases c_2 : wh = 1
  · refine lv_tableIn (tgt := 41) hx hb d_Ranged_register_1 (by rw [c_2]; decide) (by rw [c_2]; decide) (by rw [c_2]; rfl) (by decide) ?_
    refine lv_aload_n hx hb d_Ranged_register_41 rfl (lv_at hl 0 rfl) ?_
    refine va_get (D := (dC, dI)) (ci := 2) (v := .long xrange) (C := "RangeCoders$NoCarries") (T := T_NoCarries) (N := 9) hx hb hg in_NoCarries hown hK hP 0 rfl rfl 1 (by decide) (hg _ k77) (fun _ h9 => h9) rfl d_Ranged_register_42 ?_
    exact my_lret (v := xrange) hx hb hr hlocks hQ hK hS (Nat.le_refl _) (Nat.le_refl _) () (trivial) (hP.sub [0] rfl) (hD.sub [0] (by decide +kernel) rfl) d_Ranged_register_45
  by_cases c_3 : wh = 2
  · refine lv_tableIn (tgt := 46) hx hb d_Ranged_register_1 (by rw [c_3]; decide) (by rw [c_3]; decide) (by rw [c_3]; rfl) (by decide) ?_
    refine lv_aload_n hx hb d_Ranged_register_46 rfl (lv_at hl 0 rfl) ?_
    refine va_get (D := (dC, dI)) (ci := 2) (v := .long xcode) (C := "RangeCoders$NoCarries") (T := T_NoCarries) (N := 9) hx hb hg in_NoCarries hown hK hP 0 rfl rfl 2 (by decide) (hg _ k90) (fun _ h9 => h9) rfl d_Ranged_register_47 ?_
    exact my_lret (v := xcode) hx hb hr hlocks hQ hK hS (Nat.le_refl _) (Nat.le_refl _) () (trivial) (hP.sub [0] rfl) (hD.sub [0] (by decide +kernel) rfl) d_Ranged_register_50
  by_cases c_4 : wh = 3
  · refine lv_tableIn (tgt := 51) hx hb d_Ranged_register_1 (by rw [c_4]; decide) (by rw [c_4]; decide) (by rw [c_4]; rfl) (by decide) ?_
    refine lv_aload_n hx hb d_Ranged_register_51 rfl (lv_at hl 0 rfl) ?_
    refine va_get (D := (dC, dI)) (ci := 2) (v := .long xreadLow) (C := "RangeCoders$NoCarries") (T := T_NoCarries) (N := 9) hx hb hg in_NoCarries hown hK hP 0 rfl rfl 3 (by decide) (hg _ k93) (fun _ h9 => h9) rfl d_Ranged_register_52 ?_
    exact my_lret (v := xreadLow) hx hb hr hlocks hQ hK hS (Nat.le_refl _) (Nat.le_refl _) () (trivial) (hP.sub [0] rfl) (hD.sub [0] (by decide +kernel) rfl) d_Ranged_register_55
  by_cases c_5 : wh = 4
  · refine lv_tableIn (tgt := 56) hx hb d_Ranged_register_1 (by rw [c_5]; decide) (by rw [c_5]; decide) (by rw [c_5]; rfl) (by decide) ?_
    refine lv_aload_n hx hb d_Ranged_register_56 rfl (lv_at hl 0 rfl) ?_
    refine va_get (D := (dC, dI)) (ci := 2) (v := .long xreadRange) (C := "RangeCoders$NoCarries") (T := T_NoCarries) (N := 9) hx hb hg in_NoCarries hown hK hP 0 rfl rfl 4 (by decide) (hg _ k100) (fun _ h9 => h9) rfl d_Ranged_register_57 ?_
    exact my_lret (v := xreadRange) hx hb hr hlocks hQ hK hS (Nat.le_refl _) (Nat.le_refl _) () (trivial) (hP.sub [0] rfl) (hD.sub [0] (by decide +kernel) rfl) d_Ranged_register_60
  refine lv_tableOut (tgt := 61) hx hb d_Ranged_register_1 (by have ac_1 : wh.toInt ≠ 0 := fun z => c_1 (Int32.toInt_inj.mp z); have ac_2 : wh.toInt ≠ 1 := fun z => c_2 (Int32.toInt_inj.mp z); have ac_3 : wh.toInt ≠ 2 := fun z => c_3 (Int32.toInt_inj.mp z); have ac_4 : wh.toInt ≠ 3 := fun z => c_4 (Int32.toInt_inj.mp z); have ac_5 : wh.toInt ≠ 4 := fun z => c_5 (Int32.toInt_inj.mp z); omega) (by decide) ?_
  refine lv_lconst (v := 0) hx hb d_Ranged_register_61 (by decide) ?_
  exact my_lret (v := 0) hx hb hr hlocks hQ hK hS (Nat.le_refl _) (Nat.le_refl _) () (trivial) (hP.sub [0] rfl) (hD.sub [0] (by decide +kernel) rfl) d_Ranged_register_62
end
