set_option maxHeartbeats 2000000 in
set_option maxRecDepth 100000 in
theorem c_Table_Stacked_register (l : Launch) (dC : Nat → ClassId) (dI : Nat → Nat → Nat) (cI cM cO : ClassId) (sz : Nat) (co : Nat) (xx : Int64) (xreadX : Int64) (soa : Nat) (sna : Nat) (swa : Nat) (xkept : Int32) (ri : Nat) (ro : Nat) (rw : Nat) (xasked : Int32) (wh : Int32) : MetL l y_Stacked_register (Cond.code y_Stacked_register prog_11_method_10_code 2 (some .long) :: gw) ({ frames := 0, cells := 0, slots := 0, locals := 0 } : Room) (dC, dI) vwCl (kT cI cM cO) [Value.ref co, Value.int wh] [(co, Sum.inr (5, [Value.long xx, Value.long xreadX, Value.ref soa, Value.ref sna, Value.ref swa, Value.int xkept, Value.ref ri, Value.ref ro, Value.ref rw, Value.int xasked]))] sz (fun (r : Int64) (u : Unit) => True) (fun (u : Unit) => [(co, Sum.inr (5, [Value.long xx, Value.long xreadX, Value.ref soa, Value.ref sna, Value.ref swa, Value.int xkept, Value.ref ri, Value.ref ro, Value.ref rw, Value.int xasked]))]) 0 0 := by
  refine my_ofL (cc := prog_11_method_10_code) (n := 2) (ret := (some .long)) (by decide) rfl (Nat.le_of_ble_eq_true rfl) ?_
  intro p e s m args below meth c R Q A ls H locs hx hb hr hts hown hlocks hml hnm hR hQ hA hl hP hK hN hD hS
  have hg : ∀ w ∈ gw, w.before args s = true := fun w h => hts w (List.mem_cons_of_mem _ h)
  have hown : s.vm.findClass "RangeCoders$Stacked" = some m.cls := hown
  have hl : lv_has ls 2 [(0, Value.ref co), (1, Value.int wh)] := hl
  refine lv_iload_n hx hb d_Stacked_register_0 rfl (lv_at hl 1 rfl) ?_
  refine lv_iconst (v := 5) hx hb d_Stacked_register_1 (by decide) ?_
  refine lv_icmp_ne (tgt := 12) hx hb d_Stacked_register_2 (by decide) (fun c_1 => ?_) (fun c_1 => ?_)
  · refine lv_lconst (v := 0) hx hb d_Stacked_register_12 (by decide) ?_
    exact my_lret (v := 0) hx hb hr hlocks hQ hK hS (Nat.le_refl _) (Nat.le_refl _) () (trivial) (hP.sub [0] rfl) (hD.sub [0] (by decide +kernel) rfl) d_Stacked_register_13
  · refine lv_aload_n hx hb d_Stacked_register_5 rfl (lv_at hl 0 rfl) ?_
    refine va_get (D := (dC, dI)) (ci := 5) (v := .long xreadX) (C := "RangeCoders$Table") (T := T_Table) (N := 10) hx hb hg in_Table hown hK hP 0 rfl rfl 1 (by decide) (hg _ k217) (fun _ h9 => h9) rfl d_Stacked_register_6 ?_
    refine lv_goto (tgt := 13) hx hb d_Stacked_register_9 (by decide) ?_
    exact my_lret (v := xreadX) hx hb hr hlocks hQ hK hS (Nat.le_refl _) (Nat.le_refl _) () (trivial) (hP.sub [0] rfl) (hD.sub [0] (by decide +kernel) rfl) d_Stacked_register_13
set_option maxHeartbeats 2000000 in
set_option maxRecDepth 100000 in
theorem c_Table_Table_prepare (l : Launch) (dC : Nat → ClassId) (dI : Nat → Nat → Nat) (cI cM cO : ClassId) (sz : Nat) (co : Nat) (xx : Int64) (xreadX : Int64) (soa : Nat) (sna : Nat) (swa : Nat) (xkept : Int32) (ri : Nat) (ro : Nat) (rw : Nat) (xasked : Int32) (oo : Nat) (osg : Int32) (osm : Int32) (ofc : Int32) (oca : Nat) (opa : Nat) (ol : Nat) (ocf : Nat → Int32) (opl : Nat) (opf : Nat → Int32) (ka : Nat) (kl : Nat) (kf : Nat → Int32) (hol : ol ≤ 64) (hopl : opl ≤ 512) (hol0 : 1 ≤ ol) (hkl : kl ≤ 64) : MetV l y_Table_prepare (Cond.code y_Table_prepare prog_12_method_3_code 3 none :: gw) ({ frames := 3, cells := 0, slots := 0, locals := 67 } : Room) (dC, dI) vwCl (kT cI cM cO) [Value.ref co, Value.ref oo, Value.ref ka] [(co, Sum.inr (5, [Value.long xx, Value.long xreadX, Value.ref soa, Value.ref sna, Value.ref swa, Value.int xkept, Value.ref ri, Value.ref ro, Value.ref rw, Value.int xasked])), (oo, Sum.inr (7, [Value.int osg, Value.int osm, Value.int ofc, Value.ref oca, Value.ref opa])), (oca, Sum.inl (cI, ol, Sum.inl ocf)), (opa, Sum.inl (cI, opl, Sum.inl opf)), (ka, Sum.inl (cI, kl, Sum.inl kf))] sz (fun (u : Int32 × (Nat → Int32) × (Nat → Int32)) => True) (fun (u : Int32 × (Nat → Int32) × (Nat → Int32)) => [(co, Sum.inr (5, [Value.long xx, Value.long xreadX, Value.ref soa, Value.ref sna, Value.ref swa, Value.int xkept, Value.ref ri, Value.ref ro, Value.ref rw, Value.int xasked])), (oo, Sum.inr (7, [Value.int osg, Value.int u.1, Value.int ofc, Value.ref oca, Value.ref opa])), (oca, Sum.inl (cI, ol, Sum.inl u.2.1)), (opa, Sum.inl (cI, opl, Sum.inl u.2.2)), (ka, Sum.inl (cI, kl, Sum.inl kf))]) 0 0 := by
  refine my_ofV (cc := prog_12_method_3_code) (n := 3) (ret := none) (by decide) rfl (Nat.le_of_ble_eq_true rfl) ?_
  intro p e s m args below meth c R Q A ls H locs hx hb hr hts hown hlocks hml hnm hR hQ hA hl hP hK hN hD hS
  have hg : ∀ w ∈ gw, w.before args s = true := fun w h => hts w (List.mem_cons_of_mem _ h)
  have hown : s.vm.findClass "RangeCoders$Table" = some m.cls := hown
  have hl : lv_has ls 3 [(0, Value.ref co), (1, Value.ref oo), (2, Value.ref ka)] := hl
  refine lv_aload_n hx hb d_Table_prepare_0 rfl (lv_at hl 1 rfl) ?_
  refine lv_sipush (v := 512) hx hb d_Table_prepare_1 (by decide) ?_
  refine lv_aload_n hx hb d_Table_prepare_4 rfl (lv_at hl 2 rfl) ?_
  refine my_cv (wr := [(co, Sum.inr (5, [Value.long xx, Value.long xreadX, Value.ref soa, Value.ref sna, Value.ref swa, Value.int xkept, Value.ref ri, Value.ref ro, Value.ref rw, Value.int xasked]))]) (va_runV (As := [Value.int 512, Value.ref ka]) (rest := []) ⟨hx, hb, hml, hown, hts⟩ (c_Odds_scaleTo l dC dI cI cM cO H.size oo osg osm ofc oca opa ol ocf opl opf 512 ka kl kf (by first | assumption | omega) (by first | assumption | omega) (by first | assumption | omega) (by first | assumption | omega)) (cwV 2 hts (my_gV k403 k384 k385 k14 k386) rfl rfl rfl (by decide +kernel) ⟨by rw [hR]; exact Nat.le_of_ble_eq_true rfl, by rw [hR]; exact Nat.le_of_ble_eq_true rfl⟩) (my_preV hK hN (hP.sub [1, 2, 3, 4] rfl) (hD.sub [1, 2, 3, 4] (by decide +kernel) rfl) 0 rfl rfl) rfl rfl hl.1 rfl (lv_room (Nat.le_of_ble_eq_true rfl)) d_Table_prepare_5 ⟨by rw [hR]; exact Nat.le_of_ble_eq_true rfl, by rw [hR]; exact Nat.le_of_ble_eq_true rfl⟩) hP hD hS hA [1, 2, 3, 4] [0] rfl rfl (by decide +kernel) (by decide +kernel) (fun u9 H locs hw_5 hP hD hS => ?_)
  obtain ⟨osmq_5, ocfq_5⟩ := u9
  have hP : va_P (dC, dI) vwCl [(co, Sum.inr (5, [Value.long xx, Value.long xreadX, Value.ref soa, Value.ref sna, Value.ref swa, Value.int xkept, Value.ref ri, Value.ref ro, Value.ref rw, Value.int xasked])), (oo, Sum.inr (7, [Value.int osg, Value.int osmq_5, Value.int ofc, Value.ref oca, Value.ref opa])), (oca, Sum.inl (cI, ol, Sum.inl ocfq_5)), (opa, Sum.inl (cI, opl, Sum.inl opf)), (ka, Sum.inl (cI, kl, Sum.inl kf))] H := hP
  have hD : va_D A [(co, Sum.inr (5, [Value.long xx, Value.long xreadX, Value.ref soa, Value.ref sna, Value.ref swa, Value.int xkept, Value.ref ri, Value.ref ro, Value.ref rw, Value.int xasked])), (oo, Sum.inr (7, [Value.int osg, Value.int osmq_5, Value.int ofc, Value.ref oca, Value.ref opa])), (oca, Sum.inl (cI, ol, Sum.inl ocfq_5)), (opa, Sum.inl (cI, opl, Sum.inl opf)), (ka, Sum.inl (cI, kl, Sum.inl kf))] := hD
  refine lv_aload_n hx hb d_Table_prepare_8 rfl (lv_at hl 1 rfl) ?_
  refine my_cv (wr := [(co, Sum.inr (5, [Value.long xx, Value.long xreadX, Value.ref soa, Value.ref sna, Value.ref swa, Value.int xkept, Value.ref ri, Value.ref ro, Value.ref rw, Value.int xasked])), (ka, Sum.inl (cI, kl, Sum.inl kf))]) (va_runV (As := []) (rest := []) ⟨hx, hb, hml, hown, hts⟩ (c_Odds_spread l dC dI cI cM cO H.size oo osg osmq_5 ofc oca opa ol ocfq_5 opl opf (by first | assumption | omega) (by first | assumption | omega)) (cwV 0 hts (my_gV k404 k405 k406 k14 k407) rfl rfl rfl (by decide +kernel) ⟨by rw [hR]; exact Nat.le_of_ble_eq_true rfl, by rw [hR]; exact Nat.le_of_ble_eq_true rfl⟩) (my_preV hK hN (hP.sub [1, 2, 3] rfl) (hD.sub [1, 2, 3] (by decide +kernel) rfl) 0 rfl rfl) rfl rfl hl.1 rfl (lv_room (Nat.le_of_ble_eq_true rfl)) d_Table_prepare_9 ⟨by rw [hR]; exact Nat.le_of_ble_eq_true rfl, by rw [hR]; exact Nat.le_of_ble_eq_true rfl⟩) hP hD hS hA [1, 2, 3] [0, 4] rfl rfl (by decide +kernel) (by decide +kernel) (fun u9 H locs hw_9 hP hD hS => ?_)
  obtain ⟨opfq_9, rfl⟩ : ∃ z, z = u9 := ⟨_, rfl⟩
  have hP : va_P (dC, dI) vwCl [(co, Sum.inr (5, [Value.long xx, Value.long xreadX, Value.ref soa, Value.ref sna, Value.ref swa, Value.int xkept, Value.ref ri, Value.ref ro, Value.ref rw, Value.int xasked])), (ka, Sum.inl (cI, kl, Sum.inl kf)), (oo, Sum.inr (7, [Value.int osg, Value.int osmq_5, Value.int ofc, Value.ref oca, Value.ref opa])), (oca, Sum.inl (cI, ol, Sum.inl ocfq_5)), (opa, Sum.inl (cI, opl, Sum.inl opfq_9))] H := hP
  have hD : va_D A [(co, Sum.inr (5, [Value.long xx, Value.long xreadX, Value.ref soa, Value.ref sna, Value.ref swa, Value.int xkept, Value.ref ri, Value.ref ro, Value.ref rw, Value.int xasked])), (ka, Sum.inl (cI, kl, Sum.inl kf)), (oo, Sum.inr (7, [Value.int osg, Value.int osmq_5, Value.int ofc, Value.ref oca, Value.ref opa])), (oca, Sum.inl (cI, ol, Sum.inl ocfq_5)), (opa, Sum.inl (cI, opl, Sum.inl opfq_9))] := hD
  exact my_vret hx hb hr hlocks hQ hK hS (Nat.le_refl _) (Nat.le_refl _) (osmq_5, ocfq_5, opfq_9) (trivial) (hP.sub [0, 2, 3, 4, 1] rfl) (hD.sub [0, 2, 3, 4, 1] (by decide +kernel) rfl) d_Table_prepare_12
set_option maxHeartbeats 2000000 in
set_option maxRecDepth 100000 in
theorem c_Table_Table_hasWidth (l : Launch) (dC : Nat → ClassId) (dI : Nat → Nat → Nat) (cI cM cO : ClassId) (sz : Nat) (co : Nat) (xx : Int64) (xreadX : Int64) (soa : Nat) (sna : Nat) (swa : Nat) (xkept : Int32) (ri : Nat) (ro : Nat) (rw : Nat) (xasked : Int32) (wd : Int32) : MetI l y_Table_hasWidth (Cond.code y_Table_hasWidth prog_12_method_4_code 2 (some .boolean) :: gw) ({ frames := 0, cells := 0, slots := 0, locals := 0 } : Room) (dC, dI) vwCl (kT cI cM cO) [Value.ref co, Value.int wd] [(co, Sum.inr (5, [Value.long xx, Value.long xreadX, Value.ref soa, Value.ref sna, Value.ref swa, Value.int xkept, Value.ref ri, Value.ref ro, Value.ref rw, Value.int xasked]))] sz (fun (r : Int32) (u : Unit) => True) (fun (u : Unit) => [(co, Sum.inr (5, [Value.long xx, Value.long xreadX, Value.ref soa, Value.ref sna, Value.ref swa, Value.int xkept, Value.ref ri, Value.ref ro, Value.ref rw, Value.int xasked]))]) 0 0 := by
  refine my_ofI (cc := prog_12_method_4_code) (n := 2) (ret := (some .boolean)) (by decide) rfl (Nat.le_of_ble_eq_true rfl) ?_
  intro p e s m args below meth c R Q A ls H locs hx hb hr hts hown hlocks hml hnm hR hQ hA hl hP hK hN hD hS
  have hg : ∀ w ∈ gw, w.before args s = true := fun w h => hts w (List.mem_cons_of_mem _ h)
  have hown : s.vm.findClass "RangeCoders$Table" = some m.cls := hown
  have hl : lv_has ls 2 [(0, Value.ref co), (1, Value.int wd)] := hl
  refine lv_iload_n hx hb d_Table_hasWidth_0 rfl (lv_at hl 1 rfl) ?_
  refine lv_iconst (v := 1) hx hb d_Table_hasWidth_1 (by decide) ?_
  refine lv_icmp_lt (tgt := 15) hx hb d_Table_hasWidth_2 (by decide) (fun c_1 => ?_) (fun c_1 => ?_)
  · refine lv_iconst (v := 0) hx hb d_Table_hasWidth_15 (by decide) ?_
    exact my_iret (v := 0) hx hb hr (rfl) hlocks hQ hK hS (Nat.le_refl _) (Nat.le_refl _) () (trivial) (hP.sub [0] rfl) (hD.sub [0] (by decide +kernel) rfl) d_Table_hasWidth_16
  · refine lv_iload_n hx hb d_Table_hasWidth_5 rfl (lv_at hl 1 rfl) ?_
    refine lv_bipush (v := 9) hx hb d_Table_hasWidth_6 (by decide) ?_
    refine lv_icmp_gt (tgt := 15) hx hb d_Table_hasWidth_8 (by decide) (fun c_2 => ?_) (fun c_2 => ?_)
    · refine lv_iconst (v := 0) hx hb d_Table_hasWidth_15 (by decide) ?_
      exact my_iret (v := 0) hx hb hr (rfl) hlocks hQ hK hS (Nat.le_refl _) (Nat.le_refl _) () (trivial) (hP.sub [0] rfl) (hD.sub [0] (by decide +kernel) rfl) d_Table_hasWidth_16
    · refine lv_iconst (v := 1) hx hb d_Table_hasWidth_11 (by decide) ?_
      refine lv_goto (tgt := 16) hx hb d_Table_hasWidth_12 (by decide) ?_
      exact my_iret (v := 1) hx hb hr (rfl) hlocks hQ hK hS (Nat.le_refl _) (Nat.le_refl _) () (trivial) (hP.sub [0] rfl) (hD.sub [0] (by decide +kernel) rfl) d_Table_hasWidth_16
set_option maxHeartbeats 2000000 in
set_option maxRecDepth 100000 in
theorem c_Table_Table_bytesAsked (l : Launch) (dC : Nat → ClassId) (dI : Nat → Nat → Nat) (cI cM cO : ClassId) (sz : Nat) (co : Nat) (xx : Int64) (xreadX : Int64) (soa : Nat) (sna : Nat) (swa : Nat) (xkept : Int32) (ri : Nat) (ro : Nat) (rw : Nat) (xasked : Int32) : MetI l y_Table_bytesAsked (Cond.code y_Table_bytesAsked prog_12_method_5_code 1 (some .int) :: gw) ({ frames := 0, cells := 0, slots := 0, locals := 0 } : Room) (dC, dI) vwCl (kT cI cM cO) [Value.ref co] [(co, Sum.inr (5, [Value.long xx, Value.long xreadX, Value.ref soa, Value.ref sna, Value.ref swa, Value.int xkept, Value.ref ri, Value.ref ro, Value.ref rw, Value.int xasked]))] sz (fun (r : Int32) (u : Unit) => True) (fun (u : Unit) => [(co, Sum.inr (5, [Value.long xx, Value.long xreadX, Value.ref soa, Value.ref sna, Value.ref swa, Value.int xkept, Value.ref ri, Value.ref ro, Value.ref rw, Value.int xasked]))]) 0 0 := by
  refine my_ofI (cc := prog_12_method_5_code) (n := 1) (ret := (some .int)) (by decide) rfl (Nat.le_of_ble_eq_true rfl) ?_
  intro p e s m args below meth c R Q A ls H locs hx hb hr hts hown hlocks hml hnm hR hQ hA hl hP hK hN hD hS
  have hg : ∀ w ∈ gw, w.before args s = true := fun w h => hts w (List.mem_cons_of_mem _ h)
  have hown : s.vm.findClass "RangeCoders$Table" = some m.cls := hown
  have hl : lv_has ls 1 [(0, Value.ref co)] := hl
  refine lv_aload_n hx hb d_Table_bytesAsked_0 rfl (lv_at hl 0 rfl) ?_
  refine va_get (D := (dC, dI)) (ci := 5) (v := .int xasked) (C := "RangeCoders$Table") (T := T_Table) (N := 10) hx hb hg in_Table hown hK hP 0 rfl rfl 9 (by decide) (hg _ k126) (fun x9 h9 => u_same (hg _ k127) x9 h9) rfl d_Table_bytesAsked_1 ?_
  refine lv_bipush (v := 7) hx hb d_Table_bytesAsked_4 (by decide) ?_
  refine lv_iadd hx hb d_Table_bytesAsked_6 ?_
  refine lv_topi (fun v_1 ev_1 => ?_)
  refine lv_bipush (v := 8) hx hb d_Table_bytesAsked_7 (by decide) ?_
  refine lv_idiv hx hb d_Table_bytesAsked_9 (by first | decide | exact I_nzp (by assumption) | exact I_nz (by assumption)) ?_
  refine lv_topi (fun v_2 ev_2 => ?_)
  exact my_iret (v := v_2) hx hb hr (rfl) hlocks hQ hK hS (Nat.le_refl _) (Nat.le_refl _) () (trivial) (hP.sub [0] rfl) (hD.sub [0] (by decide +kernel) rfl) d_Table_bytesAsked_10
set_option maxHeartbeats 2000000 in
set_option maxRecDepth 100000 in
theorem c_Table_Table_nextInBit (l : Launch) (dC : Nat → ClassId) (dI : Nat → Nat → Nat) (cI cM cO : ClassId) (sz : Nat) (co : Nat) (xx : Int64) (xreadX : Int64) (soa : Nat) (sna : Nat) (swa : Nat) (xkept : Int32) (ri : Nat) (ro : Nat) (rw : Nat) (xasked : Int32) (rin : Int32) (ria : Nat) (rik : Nat) (rif : Nat → Int32) (hri : rOk rin rik) : MetI l y_Table_nextInBit (Cond.code y_Table_nextInBit prog_12_method_14_code 3 (some .int) :: gw) ({ frames := 2, cells := 0, slots := 0, locals := 42 } : Room) (dC, dI) vwCl (kT cI cM cO) [Value.ref co] [(co, Sum.inr (5, [Value.long xx, Value.long xreadX, Value.ref soa, Value.ref sna, Value.ref swa, Value.int xkept, Value.ref ri, Value.ref ro, Value.ref rw, Value.int xasked])), (ri, Sum.inr (0, [Value.int rin, Value.ref ria])), (ria, Sum.inl (cI, rik, Sum.inl rif))] sz (fun (r : Int32) (u : Int32) => True) (fun (u : Int32) => [(co, Sum.inr (5, [Value.long xx, Value.long xreadX, Value.ref soa, Value.ref sna, Value.ref swa, Value.int xkept, Value.ref ri, Value.ref ro, Value.ref rw, Value.int u])), (ri, Sum.inr (0, [Value.int rin, Value.ref ria])), (ria, Sum.inl (cI, rik, Sum.inl rif))]) 0 0 := by
  refine my_ofI (cc := prog_12_method_14_code) (n := 3) (ret := (some .int)) (by decide) rfl (Nat.le_of_ble_eq_true rfl) ?_
  intro p e s m args below meth c R Q A ls H locs hx hb hr hts hown hlocks hml hnm hR hQ hA hl hP hK hN hD hS
  have hg : ∀ w ∈ gw, w.before args s = true := fun w h => hts w (List.mem_cons_of_mem _ h)
  have hown : s.vm.findClass "RangeCoders$Table" = some m.cls := hown
  have hl : lv_has ls 3 [(0, Value.ref co)] := hl
  have hlt_hri := rOk_lt hri
  refine lv_aload_n hx hb d_Table_nextInBit_0 rfl (lv_at hl 0 rfl) ?_
  refine va_get (D := (dC, dI)) (ci := 5) (v := .int xasked) (C := "RangeCoders$Table") (T := T_Table) (N := 10) hx hb hg in_Table hown hK hP 0 rfl rfl 9 (by decide) (hg _ k126) (fun x9 h9 => u_same (hg _ k127) x9 h9) rfl d_Table_nextInBit_1 ?_
  refine lv_bipush (v := 8) hx hb d_Table_nextInBit_4 (by decide) ?_
  refine lv_idiv hx hb d_Table_nextInBit_6 (by first | decide | exact I_nzp (by assumption) | exact I_nz (by assumption)) ?_
  refine lv_topi (fun v_1 ev_1 => ?_)
  refine lv_istore_n (lv' := [(1, Value.int v_1), (0, Value.ref co)]) hx hb d_Table_nextInBit_7 rfl hl (by decide) rfl (fun ls hl => ?_)
  refine lv_aload_n hx hb d_Table_nextInBit_8 rfl (lv_at hl 1 rfl) ?_
  refine va_get (D := (dC, dI)) (ci := 5) (v := .ref ri) (C := "RangeCoders$Table") (T := T_Table) (N := 10) hx hb hg in_Table hown hK hP 0 rfl rfl 6 (by decide) (hg _ k103) (fun x9 h9 => u_same (hg _ k104) x9 h9) rfl d_Table_nextInBit_9 ?_
  refine lv_iload_n hx hb d_Table_nextInBit_12 rfl (lv_at hl 0 rfl) ?_
  refine my_ci (wr := [(co, Sum.inr (5, [Value.long xx, Value.long xreadX, Value.ref soa, Value.ref sna, Value.ref swa, Value.int xkept, Value.ref ri, Value.ref ro, Value.ref rw, Value.int xasked]))]) (va_runV (As := [Value.int v_1]) (rest := []) ⟨hx, hb, hml, hown, hts⟩ (c_Row_has l dC dI cI cM cO H.size ri rin ria rik rif v_1 (by first | assumption | omega)) (cwV 1 hts (my_gV k676 k663 k664 k6 k665) rfl rfl rfl (by decide +kernel) ⟨by rw [hR]; exact Nat.le_of_ble_eq_true rfl, by rw [hR]; exact Nat.le_of_ble_eq_true rfl⟩) (my_preV hK hN (hP.sub [1, 2] rfl) (hD.sub [1, 2] (by decide +kernel) rfl) 0 rfl rfl) rfl rfl hl.1 rfl (lv_room (Nat.le_of_ble_eq_true rfl)) d_Table_nextInBit_13 ⟨by rw [hR]; exact Nat.le_of_ble_eq_true rfl, by rw [hR]; exact Nat.le_of_ble_eq_true rfl⟩) hP hD hS hA [1, 2] [0] rfl rfl (by decide +kernel) (by decide +kernel) (fun r_13 u9 H locs hw_13 hP hD hS => ?_)
  have hr_13 : r_13 ≠ 0 → vp_in v_1 rik := hw_13
  have hP : va_P (dC, dI) vwCl [(co, Sum.inr (5, [Value.long xx, Value.long xreadX, Value.ref soa, Value.ref sna, Value.ref swa, Value.int xkept, Value.ref ri, Value.ref ro, Value.ref rw, Value.int xasked])), (ri, Sum.inr (0, [Value.int rin, Value.ref ria])), (ria, Sum.inl (cI, rik, Sum.inl rif))] H := hP
  have hD : va_D A [(co, Sum.inr (5, [Value.long xx, Value.long xreadX, Value.ref soa, Value.ref sna, Value.ref swa, Value.int xkept, Value.ref ri, Value.ref ro, Value.ref rw, Value.int xasked])), (ri, Sum.inr (0, [Value.int rin, Value.ref ria])), (ria, Sum.inl (cI, rik, Sum.inl rif))] := hD
  refine lv_if_eq (tgt := 43) hx hb d_Table_nextInBit_16 (by decide) (fun c_2 => ?_) (fun c_2 => ?_)
  · refine lv_iconst (v := 0) hx hb d_Table_nextInBit_43 (by decide) ?_
    refine lv_istore_n (lv' := [(2, Value.int 0), (1, Value.int v_1), (0, Value.ref co)]) hx hb d_Table_nextInBit_44 rfl hl (by decide) rfl (fun ls hl => ?_)
    refine lv_aload_n hx hb d_Table_nextInBit_45 rfl (lv_at hl 2 rfl) ?_
    refine lv_dup hx hb d_Table_nextInBit_46 rfl ?_
    refine va_get (D := (dC, dI)) (ci := 5) (v := .int xasked) (C := "RangeCoders$Table") (T := T_Table) (N := 10) hx hb hg in_Table hown hK hP 0 rfl rfl 9 (by decide) (hg _ k126) (fun x9 h9 => u_same (hg _ k127) x9 h9) rfl d_Table_nextInBit_47 ?_
    refine lv_iconst (v := 1) hx hb d_Table_nextInBit_50 (by decide) ?_
    refine lv_iadd hx hb d_Table_nextInBit_51 ?_
    refine lv_topi (fun v_3 ev_3 => ?_)
    refine va_put (D := (dC, dI)) (ci := 5) (v := .int v_3) (ty := .int) (C := "RangeCoders$Table") (T := T_Table) (N := 10) hx hb hg in_Table t_Table o_Table n_Table hown hK hP hD hS 0 rfl rfl 9 (by decide) (hg _ k126) (fun x9 h9 => u_same (hg _ k127) x9 h9) rfl (by decide +kernel) rfl rfl (Nat.le_of_ble_eq_true rfl) d_Table_nextInBit_52 (fun H locs hP hD hS => ?_)
    have hP : va_P (dC, dI) vwCl [(co, Sum.inr (5, [Value.long xx, Value.long xreadX, Value.ref soa, Value.ref sna, Value.ref swa, Value.int xkept, Value.ref ri, Value.ref ro, Value.ref rw, Value.int v_3])), (ri, Sum.inr (0, [Value.int rin, Value.ref ria])), (ria, Sum.inl (cI, rik, Sum.inl rif))] H := hP
    have hD : va_D A [(co, Sum.inr (5, [Value.long xx, Value.long xreadX, Value.ref soa, Value.ref sna, Value.ref swa, Value.int xkept, Value.ref ri, Value.ref ro, Value.ref rw, Value.int v_3])), (ri, Sum.inr (0, [Value.int rin, Value.ref ria])), (ria, Sum.inl (cI, rik, Sum.inl rif))] := hD
    refine lv_iload_n hx hb d_Table_nextInBit_55 rfl (lv_at hl 0 rfl) ?_
    exact my_iret (v := 0) hx hb hr (rfl) hlocks hQ hK hS (Nat.le_refl _) (Nat.le_refl _) (v_3) (trivial) (hP.sub [0, 1, 2] rfl) (hD.sub [0, 1, 2] (by decide +kernel) rfl) d_Table_nextInBit_56
  · refine lv_aload_n hx hb d_Table_nextInBit_19 rfl (lv_at hl 1 rfl) ?_
    refine va_get (D := (dC, dI)) (ci := 5) (v := .ref ri) (C := "RangeCoders$Table") (T := T_Table) (N := 10) hx hb hg in_Table hown hK hP 0 rfl rfl 6 (by decide) (hg _ k103) (fun x9 h9 => u_same (hg _ k104) x9 h9) rfl d_Table_nextInBit_20 ?_
    refine lv_iload_n hx hb d_Table_nextInBit_23 rfl (lv_at hl 0 rfl) ?_
    refine my_ci (wr := [(co, Sum.inr (5, [Value.long xx, Value.long xreadX, Value.ref soa, Value.ref sna, Value.ref swa, Value.int xkept, Value.ref ri, Value.ref ro, Value.ref rw, Value.int xasked]))]) (va_runV (As := [Value.int v_1]) (rest := []) ⟨hx, hb, hml, hown, hts⟩ (c_Row_at l dC dI cI cM cO H.size ri rin ria rik rif v_1 (by first | assumption | omega)) (cwV 1 hts (my_gV k677 k659 k660 k6 k661) rfl rfl rfl (by decide +kernel) ⟨by rw [hR]; exact Nat.le_of_ble_eq_true rfl, by rw [hR]; exact Nat.le_of_ble_eq_true rfl⟩) (my_preV hK hN (hP.sub [1, 2] rfl) (hD.sub [1, 2] (by decide +kernel) rfl) 0 rfl rfl) rfl rfl hl.1 rfl (lv_room (Nat.le_of_ble_eq_true rfl)) d_Table_nextInBit_24 ⟨by rw [hR]; exact Nat.le_of_ble_eq_true rfl, by rw [hR]; exact Nat.le_of_ble_eq_true rfl⟩) hP hD hS hA [1, 2] [0] rfl rfl (by decide +kernel) (by decide +kernel) (fun r_24 u9 H locs hw_24 hP hD hS => ?_)
    have hP : va_P (dC, dI) vwCl [(co, Sum.inr (5, [Value.long xx, Value.long xreadX, Value.ref soa, Value.ref sna, Value.ref swa, Value.int xkept, Value.ref ri, Value.ref ro, Value.ref rw, Value.int xasked])), (ri, Sum.inr (0, [Value.int rin, Value.ref ria])), (ria, Sum.inl (cI, rik, Sum.inl rif))] H := hP
    have hD : va_D A [(co, Sum.inr (5, [Value.long xx, Value.long xreadX, Value.ref soa, Value.ref sna, Value.ref swa, Value.int xkept, Value.ref ri, Value.ref ro, Value.ref rw, Value.int xasked])), (ri, Sum.inr (0, [Value.int rin, Value.ref ria])), (ria, Sum.inl (cI, rik, Sum.inl rif))] := hD
    refine lv_bipush (v := 7) hx hb d_Table_nextInBit_27 (by decide) ?_
    refine lv_aload_n hx hb d_Table_nextInBit_29 rfl (lv_at hl 1 rfl) ?_
    refine va_get (D := (dC, dI)) (ci := 5) (v := .int xasked) (C := "RangeCoders$Table") (T := T_Table) (N := 10) hx hb hg in_Table hown hK hP 0 rfl rfl 9 (by decide) (hg _ k126) (fun x9 h9 => u_same (hg _ k127) x9 h9) rfl d_Table_nextInBit_30 ?_
    refine lv_bipush (v := 8) hx hb d_Table_nextInBit_33 (by decide) ?_
    refine lv_irem hx hb d_Table_nextInBit_35 (by first | decide | exact I_nzp (by assumption) | exact I_nz (by assumption)) ?_
    refine lv_topi (fun v_4 ev_4 => ?_)
    refine lv_isub hx hb d_Table_nextInBit_36 ?_
    refine lv_topi (fun v_5 ev_5 => ?_)
    refine lv_iushr hx hb d_Table_nextInBit_37 rfl ?_
    refine lv_topi (fun v_6 ev_6 => ?_)
    refine lv_iconst (v := 1) hx hb d_Table_nextInBit_38 (by decide) ?_
    refine lv_iand hx hb d_Table_nextInBit_39 ?_
    refine lv_topi (fun v_7 ev_7 => ?_)
    refine lv_goto (tgt := 44) hx hb d_Table_nextInBit_40 (by decide) ?_
    refine lv_istore_n (lv' := [(2, Value.int v_7), (1, Value.int v_1), (0, Value.ref co)]) hx hb d_Table_nextInBit_44 rfl hl (by decide) rfl (fun ls hl => ?_)
    refine lv_aload_n hx hb d_Table_nextInBit_45 rfl (lv_at hl 2 rfl) ?_
    refine lv_dup hx hb d_Table_nextInBit_46 rfl ?_
    refine va_get (D := (dC, dI)) (ci := 5) (v := .int xasked) (C := "RangeCoders$Table") (T := T_Table) (N := 10) hx hb hg in_Table hown hK hP 0 rfl rfl 9 (by decide) (hg _ k126) (fun x9 h9 => u_same (hg _ k127) x9 h9) rfl d_Table_nextInBit_47 ?_
    refine lv_iconst (v := 1) hx hb d_Table_nextInBit_50 (by decide) ?_
    refine lv_iadd hx hb d_Table_nextInBit_51 ?_
    refine lv_topi (fun v_8 ev_8 => ?_)
    refine va_put (D := (dC, dI)) (ci := 5) (v := .int v_8) (ty := .int) (C := "RangeCoders$Table") (T := T_Table) (N := 10) hx hb hg in_Table t_Table o_Table n_Table hown hK hP hD hS 0 rfl rfl 9 (by decide) (hg _ k126) (fun x9 h9 => u_same (hg _ k127) x9 h9) rfl (by decide +kernel) rfl rfl (Nat.le_of_ble_eq_true rfl) d_Table_nextInBit_52 (fun H locs hP hD hS => ?_)
    have hP : va_P (dC, dI) vwCl [(co, Sum.inr (5, [Value.long xx, Value.long xreadX, Value.ref soa, Value.ref sna, Value.ref swa, Value.int xkept, Value.ref ri, Value.ref ro, Value.ref rw, Value.int v_8])), (ri, Sum.inr (0, [Value.int rin, Value.ref ria])), (ria, Sum.inl (cI, rik, Sum.inl rif))] H := hP
    have hD : va_D A [(co, Sum.inr (5, [Value.long xx, Value.long xreadX, Value.ref soa, Value.ref sna, Value.ref swa, Value.int xkept, Value.ref ri, Value.ref ro, Value.ref rw, Value.int v_8])), (ri, Sum.inr (0, [Value.int rin, Value.ref ria])), (ria, Sum.inl (cI, rik, Sum.inl rif))] := hD
    refine lv_iload_n hx hb d_Table_nextInBit_55 rfl (lv_at hl 0 rfl) ?_
    exact my_iret (v := v_7) hx hb hr (rfl) hlocks hQ hK hS (Nat.le_refl _) (Nat.le_refl _) (v_8) (trivial) (hP.sub [0, 1, 2] rfl) (hD.sub [0, 1, 2] (by decide +kernel) rfl) d_Table_nextInBit_56
set_option maxHeartbeats 2000000 in
set_option maxRecDepth 100000 in
theorem c_Table_Table_nextValue (l : Launch) (dC : Nat → ClassId) (dI : Nat → Nat → Nat) (cI cM cO : ClassId) (sz : Nat) (co : Nat) (xx : Int64) (xreadX : Int64) (soa : Nat) (sna : Nat) (swa : Nat) (xkept : Int32) (ri : Nat) (ro : Nat) (rw : Nat) (xasked : Int32) (rin : Int32) (ria : Nat) (rik : Nat) (rif : Nat → Int32) (wd : Int32) (hri : rOk rin rik) : MetI l y_Table_nextValue (Cond.code y_Table_nextValue prog_12_method_12_code 4 (some .int) :: gw) ({ frames := 3, cells := 0, slots := 0, locals := 64 } : Room) (dC, dI) vwCl (kT cI cM cO) [Value.ref co, Value.int wd] [(co, Sum.inr (5, [Value.long xx, Value.long xreadX, Value.ref soa, Value.ref sna, Value.ref swa, Value.int xkept, Value.ref ri, Value.ref ro, Value.ref rw, Value.int xasked])), (ri, Sum.inr (0, [Value.int rin, Value.ref ria])), (ria, Sum.inl (cI, rik, Sum.inl rif))] sz (fun (r : Int32) (u : Int32) => True) (fun (u : Int32) => [(co, Sum.inr (5, [Value.long xx, Value.long xreadX, Value.ref soa, Value.ref sna, Value.ref swa, Value.int xkept, Value.ref ri, Value.ref ro, Value.ref rw, Value.int u])), (ri, Sum.inr (0, [Value.int rin, Value.ref ria])), (ria, Sum.inl (cI, rik, Sum.inl rif))]) 0 0 := by
  refine my_ofI (cc := prog_12_method_12_code) (n := 4) (ret := (some .int)) (by decide) rfl (Nat.le_of_ble_eq_true rfl) ?_
  intro p e s m args below meth c R Q A ls H locs hx hb hr hts hown hlocks hml hnm hR hQ hA hl hP hK hN hD hS
  have hg : ∀ w ∈ gw, w.before args s = true := fun w h => hts w (List.mem_cons_of_mem _ h)
  have hown : s.vm.findClass "RangeCoders$Table" = some m.cls := hown
  have hl : lv_has ls 4 [(0, Value.ref co), (1, Value.int wd)] := hl
  have hlt_hri := rOk_lt hri
  refine lv_iconst (v := 0) hx hb d_Table_nextValue_0 (by decide) ?_
  refine lv_istore_n (lv' := [(2, Value.int 0), (0, Value.ref co), (1, Value.int wd)]) hx hb d_Table_nextValue_1 rfl hl (by decide) rfl (fun ls hl => ?_)
  refine lv_iconst (v := 0) hx hb d_Table_nextValue_2 (by decide) ?_
  refine lv_istore_n (lv' := [(3, Value.int 0), (2, Value.int 0), (0, Value.ref co), (1, Value.int wd)]) hx hb d_Table_nextValue_3 rfl hl (by decide) rfl (fun ls hl => ?_)
  have J_4 : ∀ (n9_4 : Nat) (b4_0 : Int32) (b4_1 : Int32) (b4_2 : Int32) (hn9_4 : (wd.toInt - b4_0.toInt).toNat = n9_4) (hi_4 : 0 ≤ b4_0.toInt) (H : Heap) (locs : List Loc) (ls : Array Slot), va_P (dC, dI) vwCl [(co, Sum.inr (5, [Value.long xx, Value.long xreadX, Value.ref soa, Value.ref sna, Value.ref swa, Value.int xkept, Value.ref ri, Value.ref ro, Value.ref rw, Value.int b4_2])), (ri, Sum.inr (0, [Value.int rin, Value.ref ria])), (ria, Sum.inl (cI, rik, Sum.inl rif))] H → va_D A [(co, Sum.inr (5, [Value.long xx, Value.long xreadX, Value.ref soa, Value.ref sna, Value.ref swa, Value.int xkept, Value.ref ri, Value.ref ro, Value.ref rw, Value.int b4_2])), (ri, Sum.inr (0, [Value.int rin, Value.ref ria])), (ria, Sum.inl (cI, rik, Sum.inl rif))] → va_S A s.heap H locs → lv_has ls 4 [(3, Value.int b4_0), (2, Value.int b4_1), (0, Value.ref co), (1, Value.int wd)] → W p l e R s m args below meth c H locs 0 0 Q (F0 m 4 ls []) := by
    intro n9_4
    induction n9_4 using Nat.strongRecOn with
    | ind n9_4 ih9_4 =>
      intro b4_0 b4_1 b4_2 hn9_4 hi_4 H locs ls hP hD hS hl
      refine lv_iload_n hx hb d_Table_nextValue_4 rfl (lv_at hl 0 rfl) ?_
      refine lv_iload_n hx hb d_Table_nextValue_5 rfl (lv_at hl 3 rfl) ?_
      refine lv_icmp_ge (tgt := 24) hx hb d_Table_nextValue_6 (by decide) (fun c_1 => ?_) (fun c_1 => ?_)
      · refine lv_iload_n hx hb d_Table_nextValue_24 rfl (lv_at hl 1 rfl) ?_
        exact my_iret (v := b4_1) hx hb hr (rfl) hlocks hQ hK hS (Nat.le_refl _) (Nat.le_refl _) (b4_2) (trivial) (hP.sub [0, 1, 2] rfl) (hD.sub [0, 1, 2] (by decide +kernel) rfl) d_Table_nextValue_25
      · refine lv_iconst (v := 2) hx hb d_Table_nextValue_9 (by decide) ?_
        refine lv_iload_n hx hb d_Table_nextValue_10 rfl (lv_at hl 1 rfl) ?_
        refine lv_imul hx hb d_Table_nextValue_11 ?_
        refine lv_topi (fun v_2 ev_2 => ?_)
        refine lv_aload_n hx hb d_Table_nextValue_12 rfl (lv_at hl 2 rfl) ?_
        refine my_ci (wr := []) (va_runV (As := []) (rest := [Value.int v_2]) ⟨hx, hb, hml, hown, hts⟩ (c_Table_Table_nextInBit l dC dI cI cM cO H.size co xx xreadX soa sna swa xkept ri ro rw b4_2 rin ria rik rif (by first | assumption | omega)) (cwV 0 hts (my_gV k767 k769 ks12 k11 k770) rfl rfl rfl (by decide +kernel) ⟨by rw [hR]; exact Nat.le_of_ble_eq_true rfl, by rw [hR]; exact Nat.le_of_ble_eq_true rfl⟩) (my_preV hK hN (hP.sub [0, 1, 2] rfl) (hD.sub [0, 1, 2] (by decide +kernel) rfl) 0 rfl rfl) rfl rfl hl.1 rfl (lv_room (Nat.le_of_ble_eq_true rfl)) d_Table_nextValue_13 ⟨by rw [hR]; exact Nat.le_of_ble_eq_true rfl, by rw [hR]; exact Nat.le_of_ble_eq_true rfl⟩) hP hD hS hA [0, 1, 2] [] rfl rfl (by decide +kernel) (by decide +kernel) (fun r_13 u9 H locs hw_13 hP hD hS => ?_)
        obtain ⟨xaskedq_13, rfl⟩ : ∃ z, z = u9 := ⟨_, rfl⟩
        have hP : va_P (dC, dI) vwCl [(co, Sum.inr (5, [Value.long xx, Value.long xreadX, Value.ref soa, Value.ref sna, Value.ref swa, Value.int xkept, Value.ref ri, Value.ref ro, Value.ref rw, Value.int xaskedq_13])), (ri, Sum.inr (0, [Value.int rin, Value.ref ria])), (ria, Sum.inl (cI, rik, Sum.inl rif))] H := hP
        have hD : va_D A [(co, Sum.inr (5, [Value.long xx, Value.long xreadX, Value.ref soa, Value.ref sna, Value.ref swa, Value.int xkept, Value.ref ri, Value.ref ro, Value.ref rw, Value.int xaskedq_13])), (ri, Sum.inr (0, [Value.int rin, Value.ref ria])), (ria, Sum.inl (cI, rik, Sum.inl rif))] := hD
        refine lv_iadd hx hb d_Table_nextValue_16 ?_
        refine lv_topi (fun v_3 ev_3 => ?_)
        refine lv_istore_n (lv' := [(2, Value.int v_3), (3, Value.int b4_0), (0, Value.ref co), (1, Value.int wd)]) hx hb d_Table_nextValue_17 rfl hl (by decide) rfl (fun ls hl => ?_)
        obtain ⟨v_4, ev_4⟩ : ∃ y : Int32, y = b4_0 + (1) := ⟨_, rfl⟩
        refine lv_iinc (v := v_4) (lv' := [(3, Value.int v_4), (2, Value.int v_3), (0, Value.ref co), (1, Value.int wd)]) hx hb d_Table_nextValue_18 hl (k := 1) rfl (by rw [ev_4]; rfl) (by decide) rfl (fun ls hl => ?_)
        refine lv_goto (tgt := 4) hx hb d_Table_nextValue_21 (by decide) ?_
        exact ih9_4 _ (by first | omega | (have z9 := I_up c_1 ev_4; omega)) v_4 v_3 xaskedq_13 rfl (by have z9 := I_up c_1 ev_4; omega) H locs ls (hP.sub [0, 1, 2] rfl) (hD.sub [0, 1, 2] (by decide +kernel) rfl) hS (lv_sub hl [0, 1, 2, 3] rfl)
  exact J_4 _ (0 : Int32) (0 : Int32) xasked rfl (by first | decide | assumption | omega) H locs ls (hP.sub [0, 1, 2] rfl) (hD.sub [0, 1, 2] (by decide +kernel) rfl) hS (lv_sub hl [0, 1, 2, 3] rfl)
set_option maxHeartbeats 2000000 in
set_option maxRecDepth 100000 in
theorem c_Table_Table_openReading (l : Launch) (dC : Nat → ClassId) (dI : Nat → Nat → Nat) (cI cM cO : ClassId) (sz : Nat) (co : Nat) (xx : Int64) (xreadX : Int64) (soa : Nat) (sna : Nat) (swa : Nat) (xkept : Int32) (ri : Nat) (ro : Nat) (rw : Nat) (xasked : Int32) (rin : Int32) (ria : Nat) (rik : Nat) (rif : Nat → Int32) (hri : rOk rin rik) : MetI l y_Table_openReading (Cond.code y_Table_openReading prog_12_method_10_code 1 (some .boolean) :: gw) ({ frames := 4, cells := 0, slots := 0, locals := 87 } : Room) (dC, dI) vwCl (kT cI cM cO) [Value.ref co] [(co, Sum.inr (5, [Value.long xx, Value.long xreadX, Value.ref soa, Value.ref sna, Value.ref swa, Value.int xkept, Value.ref ri, Value.ref ro, Value.ref rw, Value.int xasked])), (ri, Sum.inr (0, [Value.int rin, Value.ref ria])), (ria, Sum.inl (cI, rik, Sum.inl rif))] sz (fun (r : Int32) (u : Int64 × Int32) => True) (fun (u : Int64 × Int32) => [(co, Sum.inr (5, [Value.long xx, Value.long u.1, Value.ref soa, Value.ref sna, Value.ref swa, Value.int xkept, Value.ref ri, Value.ref ro, Value.ref rw, Value.int u.2])), (ri, Sum.inr (0, [Value.int rin, Value.ref ria])), (ria, Sum.inl (cI, rik, Sum.inl rif))]) 0 0 := by
  refine my_ofI (cc := prog_12_method_10_code) (n := 1) (ret := (some .boolean)) (by decide) rfl (Nat.le_of_ble_eq_true rfl) ?_
  intro p e s m args below meth c R Q A ls H locs hx hb hr hts hown hlocks hml hnm hR hQ hA hl hP hK hN hD hS
  have hg : ∀ w ∈ gw, w.before args s = true := fun w h => hts w (List.mem_cons_of_mem _ h)
  have hown : s.vm.findClass "RangeCoders$Table" = some m.cls := hown
  have hl : lv_has ls 1 [(0, Value.ref co)] := hl
  have hlt_hri := rOk_lt hri
  refine lv_aload_n hx hb d_Table_openReading_0 rfl (lv_at hl 0 rfl) ?_
  refine lv_iconst (v := 0) hx hb d_Table_openReading_1 (by decide) ?_
  refine va_put (D := (dC, dI)) (ci := 5) (v := .int 0) (ty := .int) (C := "RangeCoders$Table") (T := T_Table) (N := 10) hx hb hg in_Table t_Table o_Table n_Table hown hK hP hD hS 0 rfl rfl 9 (by decide) (hg _ k126) (fun x9 h9 => u_same (hg _ k127) x9 h9) rfl (by decide +kernel) rfl rfl (Nat.le_of_ble_eq_true rfl) d_Table_openReading_2 (fun H locs hP hD hS => ?_)
  have hP : va_P (dC, dI) vwCl [(co, Sum.inr (5, [Value.long xx, Value.long xreadX, Value.ref soa, Value.ref sna, Value.ref swa, Value.int xkept, Value.ref ri, Value.ref ro, Value.ref rw, Value.int 0])), (ri, Sum.inr (0, [Value.int rin, Value.ref ria])), (ria, Sum.inl (cI, rik, Sum.inl rif))] H := hP
  have hD : va_D A [(co, Sum.inr (5, [Value.long xx, Value.long xreadX, Value.ref soa, Value.ref sna, Value.ref swa, Value.int xkept, Value.ref ri, Value.ref ro, Value.ref rw, Value.int 0])), (ri, Sum.inr (0, [Value.int rin, Value.ref ria])), (ria, Sum.inl (cI, rik, Sum.inl rif))] := hD
  refine lv_aload_n hx hb d_Table_openReading_5 rfl (lv_at hl 0 rfl) ?_
  refine lv_sipush (v := 512) hx hb d_Table_openReading_6 (by decide) ?_
  refine lv_aload_n hx hb d_Table_openReading_9 rfl (lv_at hl 0 rfl) ?_
  refine lv_bipush (v := 9) hx hb d_Table_openReading_10 (by decide) ?_
  refine my_ci (wr := []) (va_runV (As := [Value.int 9]) (rest := [Value.int 512, Value.ref co]) ⟨hx, hb, hml, hown, hts⟩ (c_Table_Table_nextValue l dC dI cI cM cO H.size co xx xreadX soa sna swa xkept ri ro rw 0 rin ria rik rif 9 (by first | assumption | omega)) (cwV 1 hts (my_gV k763 k764 k765 k11 k766) rfl rfl rfl (by decide +kernel) ⟨by rw [hR]; exact Nat.le_of_ble_eq_true rfl, by rw [hR]; exact Nat.le_of_ble_eq_true rfl⟩) (my_preV hK hN (hP.sub [0, 1, 2] rfl) (hD.sub [0, 1, 2] (by decide +kernel) rfl) 0 rfl rfl) rfl rfl hl.1 rfl (lv_room (Nat.le_of_ble_eq_true rfl)) d_Table_openReading_12 ⟨by rw [hR]; exact Nat.le_of_ble_eq_true rfl, by rw [hR]; exact Nat.le_of_ble_eq_true rfl⟩) hP hD hS hA [0, 1, 2] [] rfl rfl (by decide +kernel) (by decide +kernel) (fun r_12 u9 H locs hw_12 hP hD hS => ?_)
  obtain ⟨xaskedq_12, rfl⟩ : ∃ z, z = u9 := ⟨_, rfl⟩
  have hP : va_P (dC, dI) vwCl [(co, Sum.inr (5, [Value.long xx, Value.long xreadX, Value.ref soa, Value.ref sna, Value.ref swa, Value.int xkept, Value.ref ri, Value.ref ro, Value.ref rw, Value.int xaskedq_12])), (ri, Sum.inr (0, [Value.int rin, Value.ref ria])), (ria, Sum.inl (cI, rik, Sum.inl rif))] H := hP
  have hD : va_D A [(co, Sum.inr (5, [Value.long xx, Value.long xreadX, Value.ref soa, Value.ref sna, Value.ref swa, Value.int xkept, Value.ref ri, Value.ref ro, Value.ref rw, Value.int xaskedq_12])), (ri, Sum.inr (0, [Value.int rin, Value.ref ria])), (ria, Sum.inl (cI, rik, Sum.inl rif))] := hD
  refine lv_iadd hx hb d_Table_openReading_15 ?_
  refine lv_topi (fun v_1 ev_1 => ?_)
  refine lv_i2l hx hb d_Table_openReading_16 rfl ?_
  refine lv_topl (fun v_2 ev_2 => ?_)
  refine va_put (D := (dC, dI)) (ci := 5) (v := .long v_2) (ty := .long) (C := "RangeCoders$Table") (T := T_Table) (N := 10) hx hb hg in_Table t_Table o_Table n_Table hown hK hP hD hS 0 rfl rfl 1 (by decide) (hg _ k218) (fun x9 h9 => u_same (hg _ k219) x9 h9) rfl (by decide +kernel) rfl rfl (Nat.le_of_ble_eq_true rfl) d_Table_openReading_17 (fun H locs hP hD hS => ?_)
  have hP : va_P (dC, dI) vwCl [(co, Sum.inr (5, [Value.long xx, Value.long v_2, Value.ref soa, Value.ref sna, Value.ref swa, Value.int xkept, Value.ref ri, Value.ref ro, Value.ref rw, Value.int xaskedq_12])), (ri, Sum.inr (0, [Value.int rin, Value.ref ria])), (ria, Sum.inl (cI, rik, Sum.inl rif))] H := hP
  have hD : va_D A [(co, Sum.inr (5, [Value.long xx, Value.long v_2, Value.ref soa, Value.ref sna, Value.ref swa, Value.int xkept, Value.ref ri, Value.ref ro, Value.ref rw, Value.int xaskedq_12])), (ri, Sum.inr (0, [Value.int rin, Value.ref ria])), (ria, Sum.inl (cI, rik, Sum.inl rif))] := hD
  refine lv_iconst (v := 1) hx hb d_Table_openReading_20 (by decide) ?_
  exact my_iret (v := 1) hx hb hr (rfl) hlocks hQ hK hS (Nat.le_refl _) (Nat.le_refl _) (v_2, xaskedq_12) (trivial) (hP.sub [0, 1, 2] rfl) (hD.sub [0, 1, 2] (by decide +kernel) rfl) d_Table_openReading_21
set_option maxHeartbeats 2000000 in
set_option maxRecDepth 100000 in
theorem c_Table_Table_nextSign (l : Launch) (dC : Nat → ClassId) (dI : Nat → Nat → Nat) (cI cM cO : ClassId) (sz : Nat) (co : Nat) (xx : Int64) (xreadX : Int64) (soa : Nat) (sna : Nat) (swa : Nat) (xkept : Int32) (ri : Nat) (ro : Nat) (rw : Nat) (xasked : Int32) (rin : Int32) (ria : Nat) (rik : Nat) (rif : Nat → Int32) (oo : Nat) (osg : Int32) (osm : Int32) (ofc : Int32) (oca : Nat) (opa : Nat) (ol : Nat) (ocf : Nat → Int32) (opl : Nat) (opf : Nat → Int32) (hri : rOk rin rik) (hol : ol ≤ 64) (hopl : opl ≤ 512) : MetI l y_Table_nextSign (Cond.code y_Table_nextSign prog_12_method_11_code 5 (some .int) :: gw) ({ frames := 3, cells := 0, slots := 0, locals := 64 } : Room) (dC, dI) vwCl (kT cI cM cO) [Value.ref co, Value.ref oo] [(co, Sum.inr (5, [Value.long xx, Value.long xreadX, Value.ref soa, Value.ref sna, Value.ref swa, Value.int xkept, Value.ref ri, Value.ref ro, Value.ref rw, Value.int xasked])), (ri, Sum.inr (0, [Value.int rin, Value.ref ria])), (ria, Sum.inl (cI, rik, Sum.inl rif)), (oo, Sum.inr (7, [Value.int osg, Value.int osm, Value.int ofc, Value.ref oca, Value.ref opa])), (oca, Sum.inl (cI, ol, Sum.inl ocf)), (opa, Sum.inl (cI, opl, Sum.inl opf))] sz (fun (r : Int32) (u : Int64 × Int32) => True) (fun (u : Int64 × Int32) => [(co, Sum.inr (5, [Value.long xx, Value.long u.1, Value.ref soa, Value.ref sna, Value.ref swa, Value.int xkept, Value.ref ri, Value.ref ro, Value.ref rw, Value.int u.2])), (ri, Sum.inr (0, [Value.int rin, Value.ref ria])), (ria, Sum.inl (cI, rik, Sum.inl rif)), (oo, Sum.inr (7, [Value.int osg, Value.int osm, Value.int ofc, Value.ref oca, Value.ref opa])), (oca, Sum.inl (cI, ol, Sum.inl ocf)), (opa, Sum.inl (cI, opl, Sum.inl opf))]) 0 0 := by
  refine my_ofI (cc := prog_12_method_11_code) (n := 5) (ret := (some .int)) (by decide) rfl (Nat.le_of_ble_eq_true rfl) ?_
  intro p e s m args below meth c R Q A ls H locs hx hb hr hts hown hlocks hml hnm hR hQ hA hl hP hK hN hD hS
  have hg : ∀ w ∈ gw, w.before args s = true := fun w h => hts w (List.mem_cons_of_mem _ h)
  have hown : s.vm.findClass "RangeCoders$Table" = some m.cls := hown
  have hl : lv_has ls 5 [(0, Value.ref co), (1, Value.ref oo)] := hl
  have hlt_hri := rOk_lt hri
  refine lv_aload_n hx hb d_Table_nextSign_0 rfl (lv_at hl 1 rfl) ?_
  refine va_get (D := (dC, dI)) (ci := 7) (v := .int osm) (C := "RangeCoders$Odds") (T := T_Odds) (N := 5) hx hb hg in_Odds hown hK hP 3 rfl rfl 1 (by decide) (hg _ k307) (fun _ h9 => h9) rfl d_Table_nextSign_1 ?_
  refine lv_if_gt (tgt := 9) hx hb d_Table_nextSign_4 (by decide) (fun c_1 => ?_) (fun c_1 => ?_)
  · refine lv_aload_n hx hb d_Table_nextSign_9 rfl (lv_at hl 0 rfl) ?_
    refine va_get (D := (dC, dI)) (ci := 5) (v := .long xreadX) (C := "RangeCoders$Table") (T := T_Table) (N := 10) hx hb hg in_Table hown hK hP 0 rfl rfl 1 (by decide) (hg _ k218) (fun x9 h9 => u_same (hg _ k219) x9 h9) rfl d_Table_nextSign_10 ?_
    refine lv_l2i hx hb d_Table_nextSign_13 rfl ?_
    refine lv_topi (fun v_2 ev_2 => ?_)
    refine lv_sipush (v := 512) hx hb d_Table_nextSign_14 (by decide) ?_
    refine lv_isub hx hb d_Table_nextSign_17 ?_
    refine lv_topi (fun v_3 ev_3 => ?_)
    refine lv_istore_n (lv' := [(2, Value.int v_3), (0, Value.ref co), (1, Value.ref oo)]) hx hb d_Table_nextSign_18 rfl hl (by decide) rfl (fun ls hl => ?_)
    refine lv_aload_n hx hb d_Table_nextSign_19 rfl (lv_at hl 2 rfl) ?_
    refine lv_iload_n hx hb d_Table_nextSign_20 rfl (lv_at hl 0 rfl) ?_
    refine my_ci (wr := [(co, Sum.inr (5, [Value.long xx, Value.long xreadX, Value.ref soa, Value.ref sna, Value.ref swa, Value.int xkept, Value.ref ri, Value.ref ro, Value.ref rw, Value.int xasked])), (ri, Sum.inr (0, [Value.int rin, Value.ref ria])), (ria, Sum.inl (cI, rik, Sum.inl rif))]) (va_runV (As := [Value.int v_3]) (rest := []) ⟨hx, hb, hml, hown, hts⟩ (c_Odds_signOfPlace l dC dI cI cM cO H.size oo osg osm ofc oca opa ol ocf opl opf v_3 (by first | assumption | omega) (by first | assumption | omega)) (cwV 1 hts (my_gV k845 k846 k847 k14 k848) rfl rfl rfl (by decide +kernel) ⟨by rw [hR]; exact Nat.le_of_ble_eq_true rfl, by rw [hR]; exact Nat.le_of_ble_eq_true rfl⟩) (my_preV hK hN (hP.sub [3, 4, 5] rfl) (hD.sub [3, 4, 5] (by decide +kernel) rfl) 0 rfl rfl) rfl rfl hl.1 rfl (lv_room (Nat.le_of_ble_eq_true rfl)) d_Table_nextSign_21 ⟨by rw [hR]; exact Nat.le_of_ble_eq_true rfl, by rw [hR]; exact Nat.le_of_ble_eq_true rfl⟩) hP hD hS hA [3, 4, 5] [0, 1, 2] rfl rfl (by decide +kernel) (by decide +kernel) (fun r_21 u9 H locs hw_21 hP hD hS => ?_)
    have hP : va_P (dC, dI) vwCl [(co, Sum.inr (5, [Value.long xx, Value.long xreadX, Value.ref soa, Value.ref sna, Value.ref swa, Value.int xkept, Value.ref ri, Value.ref ro, Value.ref rw, Value.int xasked])), (ri, Sum.inr (0, [Value.int rin, Value.ref ria])), (ria, Sum.inl (cI, rik, Sum.inl rif)), (oo, Sum.inr (7, [Value.int osg, Value.int osm, Value.int ofc, Value.ref oca, Value.ref opa])), (oca, Sum.inl (cI, ol, Sum.inl ocf)), (opa, Sum.inl (cI, opl, Sum.inl opf))] H := hP
    have hD : va_D A [(co, Sum.inr (5, [Value.long xx, Value.long xreadX, Value.ref soa, Value.ref sna, Value.ref swa, Value.int xkept, Value.ref ri, Value.ref ro, Value.ref rw, Value.int xasked])), (ri, Sum.inr (0, [Value.int rin, Value.ref ria])), (ria, Sum.inl (cI, rik, Sum.inl rif)), (oo, Sum.inr (7, [Value.int osg, Value.int osm, Value.int ofc, Value.ref oca, Value.ref opa])), (oca, Sum.inl (cI, ol, Sum.inl ocf)), (opa, Sum.inl (cI, opl, Sum.inl opf))] := hD
    refine lv_istore_n (lv' := [(3, Value.int r_21), (2, Value.int v_3), (0, Value.ref co), (1, Value.ref oo)]) hx hb d_Table_nextSign_24 rfl hl (by decide) rfl (fun ls hl => ?_)
    refine lv_aload_n hx hb d_Table_nextSign_25 rfl (lv_at hl 2 rfl) ?_
    refine lv_aload_n hx hb d_Table_nextSign_26 rfl (lv_at hl 3 rfl) ?_
    refine lv_iload_n hx hb d_Table_nextSign_27 rfl (lv_at hl 0 rfl) ?_
    refine my_ci (wr := [(co, Sum.inr (5, [Value.long xx, Value.long xreadX, Value.ref soa, Value.ref sna, Value.ref swa, Value.int xkept, Value.ref ri, Value.ref ro, Value.ref rw, Value.int xasked])), (ri, Sum.inr (0, [Value.int rin, Value.ref ria])), (ria, Sum.inl (cI, rik, Sum.inl rif))]) (va_runV (As := [Value.int r_21]) (rest := [Value.ref co]) ⟨hx, hb, hml, hown, hts⟩ (c_Odds_at l dC dI cI cM cO H.size oo osg osm ofc oca opa ol ocf opl opf r_21 (by first | assumption | omega) (by first | assumption | omega)) (cwV 1 hts (my_gV k641 k436 k437 k14 k438) rfl rfl rfl (by decide +kernel) ⟨by rw [hR]; exact Nat.le_of_ble_eq_true rfl, by rw [hR]; exact Nat.le_of_ble_eq_true rfl⟩) (my_preV hK hN (hP.sub [3, 4, 5] rfl) (hD.sub [3, 4, 5] (by decide +kernel) rfl) 0 rfl rfl) rfl rfl hl.1 rfl (lv_room (Nat.le_of_ble_eq_true rfl)) d_Table_nextSign_28 ⟨by rw [hR]; exact Nat.le_of_ble_eq_true rfl, by rw [hR]; exact Nat.le_of_ble_eq_true rfl⟩) hP hD hS hA [3, 4, 5] [0, 1, 2] rfl rfl (by decide +kernel) (by decide +kernel) (fun r_28 u9 H locs hw_28 hP hD hS => ?_)
    have hP : va_P (dC, dI) vwCl [(co, Sum.inr (5, [Value.long xx, Value.long xreadX, Value.ref soa, Value.ref sna, Value.ref swa, Value.int xkept, Value.ref ri, Value.ref ro, Value.ref rw, Value.int xasked])), (ri, Sum.inr (0, [Value.int rin, Value.ref ria])), (ria, Sum.inl (cI, rik, Sum.inl rif)), (oo, Sum.inr (7, [Value.int osg, Value.int osm, Value.int ofc, Value.ref oca, Value.ref opa])), (oca, Sum.inl (cI, ol, Sum.inl ocf)), (opa, Sum.inl (cI, opl, Sum.inl opf))] H := hP
    have hD : va_D A [(co, Sum.inr (5, [Value.long xx, Value.long xreadX, Value.ref soa, Value.ref sna, Value.ref swa, Value.int xkept, Value.ref ri, Value.ref ro, Value.ref rw, Value.int xasked])), (ri, Sum.inr (0, [Value.int rin, Value.ref ria])), (ria, Sum.inl (cI, rik, Sum.inl rif)), (oo, Sum.inr (7, [Value.int osg, Value.int osm, Value.int ofc, Value.ref oca, Value.ref opa])), (oca, Sum.inl (cI, ol, Sum.inl ocf)), (opa, Sum.inl (cI, opl, Sum.inl opf))] := hD
    refine lv_aload_n hx hb d_Table_nextSign_31 rfl (lv_at hl 3 rfl) ?_
    refine lv_iload_n hx hb d_Table_nextSign_32 rfl (lv_at hl 1 rfl) ?_
    refine my_ci (wr := [(co, Sum.inr (5, [Value.long xx, Value.long xreadX, Value.ref soa, Value.ref sna, Value.ref swa, Value.int xkept, Value.ref ri, Value.ref ro, Value.ref rw, Value.int xasked])), (ri, Sum.inr (0, [Value.int rin, Value.ref ria])), (ria, Sum.inl (cI, rik, Sum.inl rif))]) (va_runV (As := [Value.int v_3]) (rest := [Value.int r_28, Value.ref co]) ⟨hx, hb, hml, hown, hts⟩ (c_Odds_numberOfPlace l dC dI cI cM cO H.size oo osg osm ofc oca opa ol ocf opl opf v_3 (by first | assumption | omega) (by first | assumption | omega)) (cwV 1 hts (my_gV k849 k850 k851 k14 k852) rfl rfl rfl (by decide +kernel) ⟨by rw [hR]; exact Nat.le_of_ble_eq_true rfl, by rw [hR]; exact Nat.le_of_ble_eq_true rfl⟩) (my_preV hK hN (hP.sub [3, 4, 5] rfl) (hD.sub [3, 4, 5] (by decide +kernel) rfl) 0 rfl rfl) rfl rfl hl.1 rfl (lv_room (Nat.le_of_ble_eq_true rfl)) d_Table_nextSign_33 ⟨by rw [hR]; exact Nat.le_of_ble_eq_true rfl, by rw [hR]; exact Nat.le_of_ble_eq_true rfl⟩) hP hD hS hA [3, 4, 5] [0, 1, 2] rfl rfl (by decide +kernel) (by decide +kernel) (fun r_33 u9 H locs hw_33 hP hD hS => ?_)
    have hP : va_P (dC, dI) vwCl [(co, Sum.inr (5, [Value.long xx, Value.long xreadX, Value.ref soa, Value.ref sna, Value.ref swa, Value.int xkept, Value.ref ri, Value.ref ro, Value.ref rw, Value.int xasked])), (ri, Sum.inr (0, [Value.int rin, Value.ref ria])), (ria, Sum.inl (cI, rik, Sum.inl rif)), (oo, Sum.inr (7, [Value.int osg, Value.int osm, Value.int ofc, Value.ref oca, Value.ref opa])), (oca, Sum.inl (cI, ol, Sum.inl ocf)), (opa, Sum.inl (cI, opl, Sum.inl opf))] H := hP
    have hD : va_D A [(co, Sum.inr (5, [Value.long xx, Value.long xreadX, Value.ref soa, Value.ref sna, Value.ref swa, Value.int xkept, Value.ref ri, Value.ref ro, Value.ref rw, Value.int xasked])), (ri, Sum.inr (0, [Value.int rin, Value.ref ria])), (ria, Sum.inl (cI, rik, Sum.inl rif)), (oo, Sum.inr (7, [Value.int osg, Value.int osm, Value.int ofc, Value.ref oca, Value.ref opa])), (oca, Sum.inl (cI, ol, Sum.inl ocf)), (opa, Sum.inl (cI, opl, Sum.inl opf))] := hD
    refine lv_iadd hx hb d_Table_nextSign_36 ?_
    refine lv_topi (fun v_4 ev_4 => ?_)
    refine lv_i2l hx hb d_Table_nextSign_37 rfl ?_
    refine lv_topl (fun v_5 ev_5 => ?_)
    refine va_put (D := (dC, dI)) (ci := 5) (v := .long v_5) (ty := .long) (C := "RangeCoders$Table") (T := T_Table) (N := 10) hx hb hg in_Table t_Table o_Table n_Table hown hK hP hD hS 0 rfl rfl 1 (by decide) (hg _ k218) (fun x9 h9 => u_same (hg _ k219) x9 h9) rfl (by decide +kernel) rfl rfl (Nat.le_of_ble_eq_true rfl) d_Table_nextSign_38 (fun H locs hP hD hS => ?_)
    have hP : va_P (dC, dI) vwCl [(co, Sum.inr (5, [Value.long xx, Value.long v_5, Value.ref soa, Value.ref sna, Value.ref swa, Value.int xkept, Value.ref ri, Value.ref ro, Value.ref rw, Value.int xasked])), (ri, Sum.inr (0, [Value.int rin, Value.ref ria])), (ria, Sum.inl (cI, rik, Sum.inl rif)), (oo, Sum.inr (7, [Value.int osg, Value.int osm, Value.int ofc, Value.ref oca, Value.ref opa])), (oca, Sum.inl (cI, ol, Sum.inl ocf)), (opa, Sum.inl (cI, opl, Sum.inl opf))] H := hP
    have hD : va_D A [(co, Sum.inr (5, [Value.long xx, Value.long v_5, Value.ref soa, Value.ref sna, Value.ref swa, Value.int xkept, Value.ref ri, Value.ref ro, Value.ref rw, Value.int xasked])), (ri, Sum.inr (0, [Value.int rin, Value.ref ria])), (ria, Sum.inl (cI, rik, Sum.inl rif)), (oo, Sum.inr (7, [Value.int osg, Value.int osm, Value.int ofc, Value.ref oca, Value.ref opa])), (oca, Sum.inl (cI, ol, Sum.inl ocf)), (opa, Sum.inl (cI, opl, Sum.inl opf))] := hD
    refine lv_iconst (v := 0) hx hb d_Table_nextSign_41 (by decide) ?_
    refine lv_istore (lv' := [(4, Value.int 0), (3, Value.int r_21), (2, Value.int v_3), (0, Value.ref co), (1, Value.ref oo)]) hx hb d_Table_nextSign_42 hl (by decide) rfl (fun ls hl => ?_)
    have J_44 : ∀ (n9_44 : Nat) (b44_0 : Int32) (b44_1 : Int64) (b44_2 : Int32) (hn9_44 : (10 - b44_0.toInt).toNat = n9_44) (hi_44 : 0 ≤ b44_0.toInt) (H : Heap) (locs : List Loc) (ls : Array Slot), va_P (dC, dI) vwCl [(co, Sum.inr (5, [Value.long xx, Value.long b44_1, Value.ref soa, Value.ref sna, Value.ref swa, Value.int xkept, Value.ref ri, Value.ref ro, Value.ref rw, Value.int b44_2])), (ri, Sum.inr (0, [Value.int rin, Value.ref ria])), (ria, Sum.inl (cI, rik, Sum.inl rif)), (oo, Sum.inr (7, [Value.int osg, Value.int osm, Value.int ofc, Value.ref oca, Value.ref opa])), (oca, Sum.inl (cI, ol, Sum.inl ocf)), (opa, Sum.inl (cI, opl, Sum.inl opf))] H → va_D A [(co, Sum.inr (5, [Value.long xx, Value.long b44_1, Value.ref soa, Value.ref sna, Value.ref swa, Value.int xkept, Value.ref ri, Value.ref ro, Value.ref rw, Value.int b44_2])), (ri, Sum.inr (0, [Value.int rin, Value.ref ria])), (ria, Sum.inl (cI, rik, Sum.inl rif)), (oo, Sum.inr (7, [Value.int osg, Value.int osm, Value.int ofc, Value.ref oca, Value.ref opa])), (oca, Sum.inl (cI, ol, Sum.inl ocf)), (opa, Sum.inl (cI, opl, Sum.inl opf))] → va_S A s.heap H locs → lv_has ls 5 [(4, Value.int b44_0), (3, Value.int r_21), (2, Value.int v_3), (0, Value.ref co), (1, Value.ref oo)] → W p l e R s m args below meth c H locs 0 0 Q (F0 m 44 ls []) := by
      intro n9_44
      induction n9_44 using Nat.strongRecOn with
      | ind n9_44 ih9_44 =>
        intro b44_0 b44_1 b44_2 hn9_44 hi_44 H locs ls hP hD hS hl
        refine lv_iload hx hb d_Table_nextSign_44 (lv_at hl 0 rfl) ?_
        refine lv_bipush (v := 9) hx hb d_Table_nextSign_46 (by decide) ?_
        refine lv_icmp_gt (tgt := 86) hx hb d_Table_nextSign_48 (by decide) (fun c_6 => ?_) (fun c_6 => ?_)
        · refine lv_iload_n hx hb d_Table_nextSign_86 rfl (lv_at hl 1 rfl) ?_
          exact my_iret (v := r_21) hx hb hr (rfl) hlocks hQ hK hS (Nat.le_refl _) (Nat.le_refl _) (b44_1, b44_2) (trivial) (hP.sub [0, 1, 2, 3, 4, 5] rfl) (hD.sub [0, 1, 2, 3, 4, 5] (by decide +kernel) rfl) d_Table_nextSign_87
        · refine lv_aload_n hx hb d_Table_nextSign_51 rfl (lv_at hl 3 rfl) ?_
          refine va_get (D := (dC, dI)) (ci := 5) (v := .long b44_1) (C := "RangeCoders$Table") (T := T_Table) (N := 10) hx hb hg in_Table hown hK hP 0 rfl rfl 1 (by decide) (hg _ k218) (fun x9 h9 => u_same (hg _ k219) x9 h9) rfl d_Table_nextSign_52 ?_
          refine lv_ldc2 (v := 512) hx hb hown (hg _ k607) d_Table_nextSign_55 ?_
          refine W.lcmp hx hb d_Table_nextSign_58 ?_
          refine lv_if_ge (tgt := 86) hx hb d_Table_nextSign_59 (by decide) (fun c_7 => ?_) (fun c_7 => ?_)
          · rw [lg_cmp_ge] at c_7
            refine lv_iload_n hx hb d_Table_nextSign_86 rfl (lv_at hl 1 rfl) ?_
            exact my_iret (v := r_21) hx hb hr (rfl) hlocks hQ hK hS (Nat.le_refl _) (Nat.le_refl _) (b44_1, b44_2) (trivial) (hP.sub [0, 1, 2, 3, 4, 5] rfl) (hD.sub [0, 1, 2, 3, 4, 5] (by decide +kernel) rfl) d_Table_nextSign_87
          · rw [lg_cmp_ge] at c_7
            refine lv_aload_n hx hb d_Table_nextSign_62 rfl (lv_at hl 3 rfl) ?_
            refine lv_ldc2 (v := 2) hx hb hown (hg _ k642) d_Table_nextSign_63 ?_
            refine lv_aload_n hx hb d_Table_nextSign_66 rfl (lv_at hl 3 rfl) ?_
            refine va_get (D := (dC, dI)) (ci := 5) (v := .long b44_1) (C := "RangeCoders$Table") (T := T_Table) (N := 10) hx hb hg in_Table hown hK hP 0 rfl rfl 1 (by decide) (hg _ k218) (fun x9 h9 => u_same (hg _ k219) x9 h9) rfl d_Table_nextSign_67 ?_
            refine lv_lmul hx hb d_Table_nextSign_70 ?_
            refine lv_topl (fun v_8 ev_8 => ?_)
            refine lv_aload_n hx hb d_Table_nextSign_71 rfl (lv_at hl 3 rfl) ?_
            refine my_ci (wr := [(oo, Sum.inr (7, [Value.int osg, Value.int osm, Value.int ofc, Value.ref oca, Value.ref opa])), (oca, Sum.inl (cI, ol, Sum.inl ocf)), (opa, Sum.inl (cI, opl, Sum.inl opf))]) (va_runV (As := []) (rest := [Value.long v_8, Value.ref co]) ⟨hx, hb, hml, hown, hts⟩ (c_Table_Table_nextInBit l dC dI cI cM cO H.size co xx b44_1 soa sna swa xkept ri ro rw b44_2 rin ria rik rif (by first | assumption | omega)) (cwV 0 hts (my_gV k767 k769 ks12 k11 k770) rfl rfl rfl (by decide +kernel) ⟨by rw [hR]; exact Nat.le_of_ble_eq_true rfl, by rw [hR]; exact Nat.le_of_ble_eq_true rfl⟩) (my_preV hK hN (hP.sub [0, 1, 2] rfl) (hD.sub [0, 1, 2] (by decide +kernel) rfl) 0 rfl rfl) rfl rfl hl.1 rfl (lv_room (Nat.le_of_ble_eq_true rfl)) d_Table_nextSign_72 ⟨by rw [hR]; exact Nat.le_of_ble_eq_true rfl, by rw [hR]; exact Nat.le_of_ble_eq_true rfl⟩) hP hD hS hA [0, 1, 2] [3, 4, 5] rfl rfl (by decide +kernel) (by decide +kernel) (fun r_72 u9 H locs hw_72 hP hD hS => ?_)
            obtain ⟨xaskedq_72, rfl⟩ : ∃ z, z = u9 := ⟨_, rfl⟩
            have hP : va_P (dC, dI) vwCl [(oo, Sum.inr (7, [Value.int osg, Value.int osm, Value.int ofc, Value.ref oca, Value.ref opa])), (oca, Sum.inl (cI, ol, Sum.inl ocf)), (opa, Sum.inl (cI, opl, Sum.inl opf)), (co, Sum.inr (5, [Value.long xx, Value.long b44_1, Value.ref soa, Value.ref sna, Value.ref swa, Value.int xkept, Value.ref ri, Value.ref ro, Value.ref rw, Value.int xaskedq_72])), (ri, Sum.inr (0, [Value.int rin, Value.ref ria])), (ria, Sum.inl (cI, rik, Sum.inl rif))] H := hP
            have hD : va_D A [(oo, Sum.inr (7, [Value.int osg, Value.int osm, Value.int ofc, Value.ref oca, Value.ref opa])), (oca, Sum.inl (cI, ol, Sum.inl ocf)), (opa, Sum.inl (cI, opl, Sum.inl opf)), (co, Sum.inr (5, [Value.long xx, Value.long b44_1, Value.ref soa, Value.ref sna, Value.ref swa, Value.int xkept, Value.ref ri, Value.ref ro, Value.ref rw, Value.int xaskedq_72])), (ri, Sum.inr (0, [Value.int rin, Value.ref ria])), (ria, Sum.inl (cI, rik, Sum.inl rif))] := hD
            refine lv_i2l hx hb d_Table_nextSign_75 rfl ?_
            refine lv_topl (fun v_9 ev_9 => ?_)
            refine lv_ladd hx hb d_Table_nextSign_76 ?_
            refine lv_topl (fun v_10 ev_10 => ?_)
            refine va_put (D := (dC, dI)) (ci := 5) (v := .long v_10) (ty := .long) (C := "RangeCoders$Table") (T := T_Table) (N := 10) hx hb hg in_Table t_Table o_Table n_Table hown hK hP hD hS 3 rfl rfl 1 (by decide) (hg _ k218) (fun x9 h9 => u_same (hg _ k219) x9 h9) rfl (by decide +kernel) rfl rfl (Nat.le_of_ble_eq_true rfl) d_Table_nextSign_77 (fun H locs hP hD hS => ?_)
            have hP : va_P (dC, dI) vwCl [(oo, Sum.inr (7, [Value.int osg, Value.int osm, Value.int ofc, Value.ref oca, Value.ref opa])), (oca, Sum.inl (cI, ol, Sum.inl ocf)), (opa, Sum.inl (cI, opl, Sum.inl opf)), (co, Sum.inr (5, [Value.long xx, Value.long v_10, Value.ref soa, Value.ref sna, Value.ref swa, Value.int xkept, Value.ref ri, Value.ref ro, Value.ref rw, Value.int xaskedq_72])), (ri, Sum.inr (0, [Value.int rin, Value.ref ria])), (ria, Sum.inl (cI, rik, Sum.inl rif))] H := hP
            have hD : va_D A [(oo, Sum.inr (7, [Value.int osg, Value.int osm, Value.int ofc, Value.ref oca, Value.ref opa])), (oca, Sum.inl (cI, ol, Sum.inl ocf)), (opa, Sum.inl (cI, opl, Sum.inl opf)), (co, Sum.inr (5, [Value.long xx, Value.long v_10, Value.ref soa, Value.ref sna, Value.ref swa, Value.int xkept, Value.ref ri, Value.ref ro, Value.ref rw, Value.int xaskedq_72])), (ri, Sum.inr (0, [Value.int rin, Value.ref ria])), (ria, Sum.inl (cI, rik, Sum.inl rif))] := hD
            obtain ⟨v_11, ev_11⟩ : ∃ y : Int32, y = b44_0 + (1) := ⟨_, rfl⟩
            refine lv_iinc (v := v_11) (lv' := [(4, Value.int v_11), (3, Value.int r_21), (2, Value.int v_3), (0, Value.ref co), (1, Value.ref oo)]) hx hb d_Table_nextSign_80 hl (k := 0) rfl (by rw [ev_11]; rfl) (by decide) rfl (fun ls hl => ?_)
            refine lv_goto (tgt := 44) hx hb d_Table_nextSign_83 (by decide) ?_
            exact ih9_44 _ (by first | omega | (have z9 := I_up9 c_6 ev_11; omega)) v_11 v_10 xaskedq_72 rfl (by have z9 := I_up9 c_6 ev_11; omega) H locs ls (hP.sub [3, 4, 5, 0, 1, 2] rfl) (hD.sub [3, 4, 5, 0, 1, 2] (by decide +kernel) rfl) hS (lv_sub hl [0, 1, 2, 3, 4] rfl)
    exact J_44 _ (0 : Int32) v_5 xasked rfl (by first | decide | assumption | omega) H locs ls (hP.sub [0, 1, 2, 3, 4, 5] rfl) (hD.sub [0, 1, 2, 3, 4, 5] (by decide +kernel) rfl) hS (lv_sub hl [0, 1, 2, 3, 4] rfl)
  · refine lv_iconst (v := (-1)) hx hb d_Table_nextSign_7 (by decide) ?_
    exact my_iret (v := (-1)) hx hb hr (rfl) hlocks hQ hK hS (Nat.le_refl _) (Nat.le_refl _) (xreadX, xasked) (trivial) (hP.sub [0, 1, 2, 3, 4, 5] rfl) (hD.sub [0, 1, 2, 3, 4, 5] (by decide +kernel) rfl) d_Table_nextSign_8
