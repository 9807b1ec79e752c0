set_option maxHeartbeats 2000000 in
set_option maxRecDepth 100000 in
theorem c_Table_Coder_canWrite (l : Launch) (dC : Nat → ClassId) (dI : Nat → Nat → Nat) (cI cM cO : ClassId) (sz : Nat) (co : Nat) (xx : Int64) (xreadX : Int64) (soa : Nat) (sna : Nat) (swa : Nat) (xkept : Int32) (ri : Nat) (ro : Nat) (rw : Nat) (xasked : Int32) (oo : Nat) (osg : Int32) (osm : Int32) (ofc : Int32) (oca : Nat) (opa : Nat) (ol : Nat) (ocf : Nat → Int32) (opl : Nat) (opf : Nat → Int32) (ii : Int32) (hol : ol ≤ 64) (hopl : opl ≤ 512) : MetI l y_Coder_canWrite (Cond.code y_Coder_canWrite prog_4_method_12_code 3 (some .boolean) :: gw) ({ frames := 2, cells := 0, slots := 0, locals := 42 } : Room) (dC, dI) vwCl (kT cI cM cO) [.ref co, .ref oo, .int ii] [(co, .inr (5, [.long xx, .long xreadX, .ref soa, .ref sna, .ref swa, .int xkept, .ref ri, .ref ro, .ref rw, .int xasked])), (oo, .inr (7, [.int osg, .int osm, .int ofc, .ref oca, .ref opa])), (oca, .inl (cI, ol, .inl ocf)), (opa, .inl (cI, opl, .inl opf))] sz (fun (r : Int32) (u : Unit) => True) (fun (u : Unit) => [(co, .inr (5, [.long xx, .long xreadX, .ref soa, .ref sna, .ref swa, .int xkept, .ref ri, .ref ro, .ref rw, .int xasked])), (oo, .inr (7, [.int osg, .int osm, .int ofc, .ref oca, .ref opa])), (oca, .inl (cI, ol, .inl ocf)), (opa, .inl (cI, opl, .inl opf))]) 0 0 := by
  refine my_ofI (cc := prog_4_method_12_code) (n := 3) (ret := (some .boolean)) (by decide) rfl (Nat.le_of_ble_eq_true rfl) ?_
  intro p e s m args below meth c R Q A ls H locs hx hb hr hts hown hlocks hml hnm hR hQ hA hl hP hK hN hD hS
  have hg : ∀ w ∈ gw, w.before args s = true := fun w h => hts w (List.mem_cons_of_mem _ h)
  have hown : s.vm.findClass "RangeCoders$Coder" = some m.cls := hown
  have hl : lv_has ls 3 [(0, .ref co), (1, .ref oo), (2, .int ii)] := hl
  refine lv_aload_n hx hb d_Coder_canWrite_0 rfl (lv_at hl 1 rfl) ?_
  refine lv_iload_n hx hb d_Coder_canWrite_1 rfl (lv_at hl 2 rfl) ?_
  refine my_ci (wr := [(co, .inr (5, [.long xx, .long xreadX, .ref soa, .ref sna, .ref swa, .int xkept, .ref ri, .ref ro, .ref rw, .int xasked]))]) (va_runV (As := [.int ii]) (rest := []) ⟨hx, hb, hml, hown, hts⟩ (c_Odds_at l dC dI cI cM cO H.size oo osg osm ofc oca opa ol ocf opl opf ii (by first | assumption | omega) (by first | assumption | omega)) (cwV 1 hts (my_gV k435 k436 k437 k14 k438) rfl rfl rfl (by decide +kernel) ⟨by rw [hR]; exact Nat.le_of_ble_eq_true rfl, by rw [hR]; exact Nat.le_of_ble_eq_true rfl⟩) (my_preV hK hN (hP.sub [1, 2, 3] rfl) (hD.sub [1, 2, 3] (by decide) rfl) 0 rfl rfl) rfl rfl hl.1 rfl (lv_room (Nat.le_of_ble_eq_true rfl)) d_Coder_canWrite_2 ⟨by rw [hR]; exact Nat.le_of_ble_eq_true rfl, by rw [hR]; exact Nat.le_of_ble_eq_true rfl⟩) hP hD hS hA [1, 2, 3] [0] rfl rfl (by decide) (by decide) (fun r_2 u9 H locs hw_2 hP hD hS => ?_)
  have hP : va_P (dC, dI) vwCl [(co, .inr (5, [.long xx, .long xreadX, .ref soa, .ref sna, .ref swa, .int xkept, .ref ri, .ref ro, .ref rw, .int xasked])), (oo, .inr (7, [.int osg, .int osm, .int ofc, .ref oca, .ref opa])), (oca, .inl (cI, ol, .inl ocf)), (opa, .inl (cI, opl, .inl opf))] H := hP
  have hD : va_D A [(co, .inr (5, [.long xx, .long xreadX, .ref soa, .ref sna, .ref swa, .int xkept, .ref ri, .ref ro, .ref rw, .int xasked])), (oo, .inr (7, [.int osg, .int osm, .int ofc, .ref oca, .ref opa])), (oca, .inl (cI, ol, .inl ocf)), (opa, .inl (cI, opl, .inl opf))] := hD
  refine lv_if_le (tgt := 12) hx hb d_Coder_canWrite_5 (by decide) (fun c_1 => ?_) (fun c_1 => ?_)
  · refine lv_iconst (v := 0) hx hb d_Coder_canWrite_12 (by decide) ?_
    exact my_iret (v := 0) hx hb hr (rfl) hlocks hQ hK hS (Nat.le_refl _) (Nat.le_refl _) () (trivial) (hP.sub [0, 1, 2, 3] rfl) (hD.sub [0, 1, 2, 3] (by decide) rfl) d_Coder_canWrite_13
  · refine lv_iconst (v := 1) hx hb d_Coder_canWrite_8 (by decide) ?_
    refine lv_goto (tgt := 13) hx hb d_Coder_canWrite_9 (by decide) ?_
    exact my_iret (v := 1) hx hb hr (rfl) hlocks hQ hK hS (Nat.le_refl _) (Nat.le_refl _) () (trivial) (hP.sub [0, 1, 2, 3] rfl) (hD.sub [0, 1, 2, 3] (by decide) rfl) d_Coder_canWrite_13
set_option maxHeartbeats 2000000 in
set_option maxRecDepth 100000 in
theorem c_Table_Stacked_register (l : Launch) (dC : Nat → ClassId) (dI : Nat → Nat → Nat) (cI cM cO : ClassId) (sz : Nat) (co : Nat) (xx : Int64) (xreadX : Int64) (soa : Nat) (sna : Nat) (swa : Nat) (xkept : Int32) (ri : Nat) (ro : Nat) (rw : Nat) (xasked : Int32) (wh : Int32) : MetL l y_Stacked_register (Cond.code y_Stacked_register prog_11_method_10_code 2 (some .long) :: gw) ({ frames := 0, cells := 0, slots := 0, locals := 0 } : Room) (dC, dI) vwCl (kT cI cM cO) [.ref co, .int wh] [(co, .inr (5, [.long xx, .long xreadX, .ref soa, .ref sna, .ref swa, .int xkept, .ref ri, .ref ro, .ref rw, .int xasked]))] sz (fun (r : Int64) (u : Unit) => True) (fun (u : Unit) => [(co, .inr (5, [.long xx, .long xreadX, .ref soa, .ref sna, .ref swa, .int xkept, .ref ri, .ref ro, .ref rw, .int xasked]))]) 0 0 := by
  refine my_ofL (cc := prog_11_method_10_code) (n := 2) (ret := (some .long)) (by decide) rfl (Nat.le_of_ble_eq_true rfl) ?_
  intro p e s m args below meth c R Q A ls H locs hx hb hr hts hown hlocks hml hnm hR hQ hA hl hP hK hN hD hS
  have hg : ∀ w ∈ gw, w.before args s = true := fun w h => hts w (List.mem_cons_of_mem _ h)
  have hown : s.vm.findClass "RangeCoders$Stacked" = some m.cls := hown
  have hl : lv_has ls 2 [(0, .ref co), (1, .int wh)] := hl
  refine lv_iload_n hx hb d_Stacked_register_0 rfl (lv_at hl 1 rfl) ?_
  refine lv_iconst (v := 5) hx hb d_Stacked_register_1 (by decide) ?_
  refine lv_icmp_ne (tgt := 12) hx hb d_Stacked_register_2 (by decide) (fun c_1 => ?_) (fun c_1 => ?_)
  · refine lv_lconst (v := 0) hx hb d_Stacked_register_12 (by decide) ?_
    exact my_lret (v := 0) hx hb hr hlocks hQ hK hS (Nat.le_refl _) (Nat.le_refl _) () (trivial) (hP.sub [0] rfl) (hD.sub [0] (by decide) rfl) d_Stacked_register_13
  · refine lv_aload_n hx hb d_Stacked_register_5 rfl (lv_at hl 0 rfl) ?_
    refine va_get (D := (dC, dI)) (ci := 5) (v := .long xreadX) (C := "RangeCoders$Table") (T := T_Table) (N := 10) hx hb hg in_Table hown hK hP 0 rfl rfl 1 (by decide) (hg _ k217) (fun _ h9 => h9) rfl d_Stacked_register_6 ?_
    refine lv_goto (tgt := 13) hx hb d_Stacked_register_9 (by decide) ?_
    exact my_lret (v := xreadX) hx hb hr hlocks hQ hK hS (Nat.le_refl _) (Nat.le_refl _) () (trivial) (hP.sub [0] rfl) (hD.sub [0] (by decide) rfl) d_Stacked_register_13
set_option maxHeartbeats 2000000 in
set_option maxRecDepth 100000 in
theorem c_Table_Table_prepare (l : Launch) (dC : Nat → ClassId) (dI : Nat → Nat → Nat) (cI cM cO : ClassId) (sz : Nat) (co : Nat) (xx : Int64) (xreadX : Int64) (soa : Nat) (sna : Nat) (swa : Nat) (xkept : Int32) (ri : Nat) (ro : Nat) (rw : Nat) (xasked : Int32) (oo : Nat) (osg : Int32) (osm : Int32) (ofc : Int32) (oca : Nat) (opa : Nat) (ol : Nat) (ocf : Nat → Int32) (opl : Nat) (opf : Nat → Int32) (ka : Nat) (kl : Nat) (kf : Nat → Int32) (hol : ol ≤ 64) (hopl : opl ≤ 512) (hol0 : 1 ≤ ol) (hkl : kl ≤ 64) : MetV l y_Table_prepare (Cond.code y_Table_prepare prog_12_method_3_code 3 none :: gw) ({ frames := 3, cells := 0, slots := 0, locals := 67 } : Room) (dC, dI) vwCl (kT cI cM cO) [.ref co, .ref oo, .ref ka] [(co, .inr (5, [.long xx, .long xreadX, .ref soa, .ref sna, .ref swa, .int xkept, .ref ri, .ref ro, .ref rw, .int xasked])), (oo, .inr (7, [.int osg, .int osm, .int ofc, .ref oca, .ref opa])), (oca, .inl (cI, ol, .inl ocf)), (opa, .inl (cI, opl, .inl opf)), (ka, .inl (cI, kl, .inl kf))] sz (fun (u : Int32 × (Nat → Int32) × (Nat → Int32)) => True) (fun (u : Int32 × (Nat → Int32) × (Nat → Int32)) => [(co, .inr (5, [.long xx, .long xreadX, .ref soa, .ref sna, .ref swa, .int xkept, .ref ri, .ref ro, .ref rw, .int xasked])), (oo, .inr (7, [.int osg, .int u.1, .int ofc, .ref oca, .ref opa])), (oca, .inl (cI, ol, .inl u.2.1)), (opa, .inl (cI, opl, .inl u.2.2)), (ka, .inl (cI, kl, .inl kf))]) 0 0 := by
  refine my_ofV (cc := prog_12_method_3_code) (n := 3) (ret := none) (by decide) rfl (Nat.le_of_ble_eq_true rfl) ?_
  intro p e s m args below meth c R Q A ls H locs hx hb hr hts hown hlocks hml hnm hR hQ hA hl hP hK hN hD hS
  have hg : ∀ w ∈ gw, w.before args s = true := fun w h => hts w (List.mem_cons_of_mem _ h)
  have hown : s.vm.findClass "RangeCoders$Table" = some m.cls := hown
  have hl : lv_has ls 3 [(0, .ref co), (1, .ref oo), (2, .ref ka)] := hl
  refine lv_aload_n hx hb d_Table_prepare_0 rfl (lv_at hl 1 rfl) ?_
  refine lv_sipush (v := 512) hx hb d_Table_prepare_1 (by decide) ?_
  refine lv_aload_n hx hb d_Table_prepare_4 rfl (lv_at hl 2 rfl) ?_
  refine my_cv (wr := [(co, .inr (5, [.long xx, .long xreadX, .ref soa, .ref sna, .ref swa, .int xkept, .ref ri, .ref ro, .ref rw, .int xasked]))]) (va_runV (As := [.int 512, .ref ka]) (rest := []) ⟨hx, hb, hml, hown, hts⟩ (c_Odds_scaleTo l dC dI cI cM cO H.size oo osg osm ofc oca opa ol ocf opl opf 512 ka kl kf (by first | assumption | omega) (by first | assumption | omega) (by first | assumption | omega) (by first | assumption | omega)) (cwV 2 hts (my_gV k403 k384 k385 k14 k386) rfl rfl rfl (by decide +kernel) ⟨by rw [hR]; exact Nat.le_of_ble_eq_true rfl, by rw [hR]; exact Nat.le_of_ble_eq_true rfl⟩) (my_preV hK hN (hP.sub [1, 2, 3, 4] rfl) (hD.sub [1, 2, 3, 4] (by decide) rfl) 0 rfl rfl) rfl rfl hl.1 rfl (lv_room (Nat.le_of_ble_eq_true rfl)) d_Table_prepare_5 ⟨by rw [hR]; exact Nat.le_of_ble_eq_true rfl, by rw [hR]; exact Nat.le_of_ble_eq_true rfl⟩) hP hD hS hA [1, 2, 3, 4] [0] rfl rfl (by decide) (by decide) (fun u9 H locs hw_5 hP hD hS => ?_)
  obtain ⟨osmq_5, ocfq_5⟩ := u9
  have hP : va_P (dC, dI) vwCl [(co, .inr (5, [.long xx, .long xreadX, .ref soa, .ref sna, .ref swa, .int xkept, .ref ri, .ref ro, .ref rw, .int xasked])), (oo, .inr (7, [.int osg, .int osmq_5, .int ofc, .ref oca, .ref opa])), (oca, .inl (cI, ol, .inl ocfq_5)), (opa, .inl (cI, opl, .inl opf)), (ka, .inl (cI, kl, .inl kf))] H := hP
  have hD : va_D A [(co, .inr (5, [.long xx, .long xreadX, .ref soa, .ref sna, .ref swa, .int xkept, .ref ri, .ref ro, .ref rw, .int xasked])), (oo, .inr (7, [.int osg, .int osmq_5, .int ofc, .ref oca, .ref opa])), (oca, .inl (cI, ol, .inl ocfq_5)), (opa, .inl (cI, opl, .inl opf)), (ka, .inl (cI, kl, .inl kf))] := hD
  refine lv_aload_n hx hb d_Table_prepare_8 rfl (lv_at hl 1 rfl) ?_
  refine my_cv (wr := [(co, .inr (5, [.long xx, .long xreadX, .ref soa, .ref sna, .ref swa, .int xkept, .ref ri, .ref ro, .ref rw, .int xasked])), (ka, .inl (cI, kl, .inl kf))]) (va_runV (As := []) (rest := []) ⟨hx, hb, hml, hown, hts⟩ (c_Odds_spread l dC dI cI cM cO H.size oo osg osmq_5 ofc oca opa ol ocfq_5 opl opf (by first | assumption | omega) (by first | assumption | omega)) (cwV 0 hts (my_gV k404 k405 k406 k14 k407) rfl rfl rfl (by decide +kernel) ⟨by rw [hR]; exact Nat.le_of_ble_eq_true rfl, by rw [hR]; exact Nat.le_of_ble_eq_true rfl⟩) (my_preV hK hN (hP.sub [1, 2, 3] rfl) (hD.sub [1, 2, 3] (by decide) rfl) 0 rfl rfl) rfl rfl hl.1 rfl (lv_room (Nat.le_of_ble_eq_true rfl)) d_Table_prepare_9 ⟨by rw [hR]; exact Nat.le_of_ble_eq_true rfl, by rw [hR]; exact Nat.le_of_ble_eq_true rfl⟩) hP hD hS hA [1, 2, 3] [0, 4] rfl rfl (by decide) (by decide) (fun u9 H locs hw_9 hP hD hS => ?_)
  obtain ⟨opfq_9, rfl⟩ : ∃ z, z = u9 := ⟨_, rfl⟩
  have hP : va_P (dC, dI) vwCl [(co, .inr (5, [.long xx, .long xreadX, .ref soa, .ref sna, .ref swa, .int xkept, .ref ri, .ref ro, .ref rw, .int xasked])), (ka, .inl (cI, kl, .inl kf)), (oo, .inr (7, [.int osg, .int osmq_5, .int ofc, .ref oca, .ref opa])), (oca, .inl (cI, ol, .inl ocfq_5)), (opa, .inl (cI, opl, .inl opfq_9))] H := hP
  have hD : va_D A [(co, .inr (5, [.long xx, .long xreadX, .ref soa, .ref sna, .ref swa, .int xkept, .ref ri, .ref ro, .ref rw, .int xasked])), (ka, .inl (cI, kl, .inl kf)), (oo, .inr (7, [.int osg, .int osmq_5, .int ofc, .ref oca, .ref opa])), (oca, .inl (cI, ol, .inl ocfq_5)), (opa, .inl (cI, opl, .inl opfq_9))] := hD
  exact my_vret hx hb hr hlocks hQ hK hS (Nat.le_refl _) (Nat.le_refl _) (osmq_5, ocfq_5, opfq_9) (trivial) (hP.sub [0, 2, 3, 4, 1] rfl) (hD.sub [0, 2, 3, 4, 1] (by decide) rfl) d_Table_prepare_12
set_option maxHeartbeats 2000000 in
set_option maxRecDepth 100000 in
theorem c_Table_Table_hasWidth (l : Launch) (dC : Nat → ClassId) (dI : Nat → Nat → Nat) (cI cM cO : ClassId) (sz : Nat) (co : Nat) (xx : Int64) (xreadX : Int64) (soa : Nat) (sna : Nat) (swa : Nat) (xkept : Int32) (ri : Nat) (ro : Nat) (rw : Nat) (xasked : Int32) (wd : Int32) : MetI l y_Table_hasWidth (Cond.code y_Table_hasWidth prog_12_method_4_code 2 (some .boolean) :: gw) ({ frames := 0, cells := 0, slots := 0, locals := 0 } : Room) (dC, dI) vwCl (kT cI cM cO) [.ref co, .int wd] [(co, .inr (5, [.long xx, .long xreadX, .ref soa, .ref sna, .ref swa, .int xkept, .ref ri, .ref ro, .ref rw, .int xasked]))] sz (fun (r : Int32) (u : Unit) => True) (fun (u : Unit) => [(co, .inr (5, [.long xx, .long xreadX, .ref soa, .ref sna, .ref swa, .int xkept, .ref ri, .ref ro, .ref rw, .int xasked]))]) 0 0 := by
  refine my_ofI (cc := prog_12_method_4_code) (n := 2) (ret := (some .boolean)) (by decide) rfl (Nat.le_of_ble_eq_true rfl) ?_
  intro p e s m args below meth c R Q A ls H locs hx hb hr hts hown hlocks hml hnm hR hQ hA hl hP hK hN hD hS
  have hg : ∀ w ∈ gw, w.before args s = true := fun w h => hts w (List.mem_cons_of_mem _ h)
  have hown : s.vm.findClass "RangeCoders$Table" = some m.cls := hown
  have hl : lv_has ls 2 [(0, .ref co), (1, .int wd)] := hl
  refine lv_iload_n hx hb d_Table_hasWidth_0 rfl (lv_at hl 1 rfl) ?_
  refine lv_iconst (v := 1) hx hb d_Table_hasWidth_1 (by decide) ?_
  refine lv_icmp_lt (tgt := 15) hx hb d_Table_hasWidth_2 (by decide) (fun c_1 => ?_) (fun c_1 => ?_)
  · refine lv_iconst (v := 0) hx hb d_Table_hasWidth_15 (by decide) ?_
    exact my_iret (v := 0) hx hb hr (rfl) hlocks hQ hK hS (Nat.le_refl _) (Nat.le_refl _) () (trivial) (hP.sub [0] rfl) (hD.sub [0] (by decide) rfl) d_Table_hasWidth_16
  · refine lv_iload_n hx hb d_Table_hasWidth_5 rfl (lv_at hl 1 rfl) ?_
    refine lv_bipush (v := 9) hx hb d_Table_hasWidth_6 (by decide) ?_
    refine lv_icmp_gt (tgt := 15) hx hb d_Table_hasWidth_8 (by decide) (fun c_2 => ?_) (fun c_2 => ?_)
    · refine lv_iconst (v := 0) hx hb d_Table_hasWidth_15 (by decide) ?_
      exact my_iret (v := 0) hx hb hr (rfl) hlocks hQ hK hS (Nat.le_refl _) (Nat.le_refl _) () (trivial) (hP.sub [0] rfl) (hD.sub [0] (by decide) rfl) d_Table_hasWidth_16
    · refine lv_iconst (v := 1) hx hb d_Table_hasWidth_11 (by decide) ?_
      refine lv_goto (tgt := 16) hx hb d_Table_hasWidth_12 (by decide) ?_
      exact my_iret (v := 1) hx hb hr (rfl) hlocks hQ hK hS (Nat.le_refl _) (Nat.le_refl _) () (trivial) (hP.sub [0] rfl) (hD.sub [0] (by decide) rfl) d_Table_hasWidth_16
set_option maxHeartbeats 2000000 in
set_option maxRecDepth 100000 in
theorem c_Table_Table_bytesAsked (l : Launch) (dC : Nat → ClassId) (dI : Nat → Nat → Nat) (cI cM cO : ClassId) (sz : Nat) (co : Nat) (xx : Int64) (xreadX : Int64) (soa : Nat) (sna : Nat) (swa : Nat) (xkept : Int32) (ri : Nat) (ro : Nat) (rw : Nat) (xasked : Int32) : MetI l y_Table_bytesAsked (Cond.code y_Table_bytesAsked prog_12_method_5_code 1 (some .int) :: gw) ({ frames := 0, cells := 0, slots := 0, locals := 0 } : Room) (dC, dI) vwCl (kT cI cM cO) [.ref co] [(co, .inr (5, [.long xx, .long xreadX, .ref soa, .ref sna, .ref swa, .int xkept, .ref ri, .ref ro, .ref rw, .int xasked]))] sz (fun (r : Int32) (u : Unit) => True) (fun (u : Unit) => [(co, .inr (5, [.long xx, .long xreadX, .ref soa, .ref sna, .ref swa, .int xkept, .ref ri, .ref ro, .ref rw, .int xasked]))]) 0 0 := by
  refine my_ofI (cc := prog_12_method_5_code) (n := 1) (ret := (some .int)) (by decide) rfl (Nat.le_of_ble_eq_true rfl) ?_
  intro p e s m args below meth c R Q A ls H locs hx hb hr hts hown hlocks hml hnm hR hQ hA hl hP hK hN hD hS
  have hg : ∀ w ∈ gw, w.before args s = true := fun w h => hts w (List.mem_cons_of_mem _ h)
  have hown : s.vm.findClass "RangeCoders$Table" = some m.cls := hown
  have hl : lv_has ls 1 [(0, .ref co)] := hl
  refine lv_aload_n hx hb d_Table_bytesAsked_0 rfl (lv_at hl 0 rfl) ?_
  refine va_get (D := (dC, dI)) (ci := 5) (v := .int xasked) (C := "RangeCoders$Table") (T := T_Table) (N := 10) hx hb hg in_Table hown hK hP 0 rfl rfl 9 (by decide) (hg _ k126) (fun x9 h9 => u_same (hg _ k127) x9 h9) rfl d_Table_bytesAsked_1 ?_
  refine lv_bipush (v := 7) hx hb d_Table_bytesAsked_4 (by decide) ?_
  refine lv_iadd hx hb d_Table_bytesAsked_6 ?_
  refine lv_topi (fun v_1 ev_1 => ?_)
  refine lv_bipush (v := 8) hx hb d_Table_bytesAsked_7 (by decide) ?_
  refine lv_idiv hx hb d_Table_bytesAsked_9 (by first | decide | exact I_nzp (by assumption) | exact I_nz (by assumption)) ?_
  refine lv_topi (fun v_2 ev_2 => ?_)
  exact my_iret (v := v_2) hx hb hr (rfl) hlocks hQ hK hS (Nat.le_refl _) (Nat.le_refl _) () (trivial) (hP.sub [0] rfl) (hD.sub [0] (by decide) rfl) d_Table_bytesAsked_10
set_option maxHeartbeats 2000000 in
set_option maxRecDepth 100000 in
theorem c_Table_Table_openStack (l : Launch) (dC : Nat → ClassId) (dI : Nat → Nat → Nat) (cI cM cO : ClassId) (sz : Nat) (co : Nat) (xx : Int64) (xreadX : Int64) (soa : Nat) (sna : Nat) (swa : Nat) (xkept : Int32) (ri : Nat) (ro : Nat) (rw : Nat) (xasked : Int32) : MetV l y_Table_openStack (Cond.code y_Table_openStack prog_12_method_6_code 1 none :: gw) ({ frames := 0, cells := 0, slots := 0, locals := 0 } : Room) (dC, dI) vwCl (kT cI cM cO) [.ref co] [(co, .inr (5, [.long xx, .long xreadX, .ref soa, .ref sna, .ref swa, .int xkept, .ref ri, .ref ro, .ref rw, .int xasked]))] sz (fun (u : Int64) => True) (fun (u : Int64) => [(co, .inr (5, [.long u, .long xreadX, .ref soa, .ref sna, .ref swa, .int xkept, .ref ri, .ref ro, .ref rw, .int xasked]))]) 0 0 := by
  refine my_ofV (cc := prog_12_method_6_code) (n := 1) (ret := none) (by decide) rfl (Nat.le_of_ble_eq_true rfl) ?_
  intro p e s m args below meth c R Q A ls H locs hx hb hr hts hown hlocks hml hnm hR hQ hA hl hP hK hN hD hS
  have hg : ∀ w ∈ gw, w.before args s = true := fun w h => hts w (List.mem_cons_of_mem _ h)
  have hown : s.vm.findClass "RangeCoders$Table" = some m.cls := hown
  have hl : lv_has ls 1 [(0, .ref co)] := hl
  refine lv_aload_n hx hb d_Table_openStack_0 rfl (lv_at hl 0 rfl) ?_
  refine lv_ldc2 (v := 512) hx hb hown (hg _ k607) d_Table_openStack_1 ?_
  refine va_put (D := (dC, dI)) (ci := 5) (v := .long 512) (ty := .long) (C := "RangeCoders$Table") (T := T_Table) (N := 10) hx hb hg in_Table t_Table o_Table n_Table hown hK hP hD hS 0 rfl rfl 0 (by decide) (hg _ k213) (fun x9 h9 => u_same (hg _ k214) x9 h9) rfl (by decide +kernel) rfl rfl (Nat.le_of_ble_eq_true rfl) d_Table_openStack_4 (fun H locs hP hD hS => ?_)
  have hP : va_P (dC, dI) vwCl [(co, .inr (5, [.long 512, .long xreadX, .ref soa, .ref sna, .ref swa, .int xkept, .ref ri, .ref ro, .ref rw, .int xasked]))] H := hP
  have hD : va_D A [(co, .inr (5, [.long 512, .long xreadX, .ref soa, .ref sna, .ref swa, .int xkept, .ref ri, .ref ro, .ref rw, .int xasked]))] := hD
  exact my_vret hx hb hr hlocks hQ hK hS (Nat.le_refl _) (Nat.le_refl _) ((512 : Int64)) (trivial) (hP.sub [0] rfl) (hD.sub [0] (by decide) rfl) d_Table_openStack_7
set_option maxHeartbeats 2000000 in
set_option maxRecDepth 100000 in
theorem c_Table_Table_stackSign (l : Launch) (dC : Nat → ClassId) (dI : Nat → Nat → Nat) (cI cM cO : ClassId) (sz : Nat) (sl : Nat) (co : Nat) (xx : Int64) (xreadX : Int64) (soa : Nat) (sna : Nat) (swa : Nat) (xkept : Int32) (ri : Nat) (ro : Nat) (rw : Nat) (xasked : Int32) (rwn : Int32) (rwa : Nat) (rwk : Nat) (rwf : Nat → Int32) (oo : Nat) (osg : Int32) (osm : Int32) (ofc : Int32) (oca : Nat) (opa : Nat) (ol : Nat) (ocf : Nat → Int32) (opl : Nat) (opf : Nat → Int32) (ii : Int32) (hrw : rOk rwn rwk) (hol : ol ≤ 64) (hopl : opl ≤ 512) : MetVg l y_Table_stackSign (Cond.code y_Table_stackSign prog_12_method_7_code 5 none :: gw) ({ frames := 3, cells := rPh rwk, slots := rPh rwk, locals := 83 } : Room) (dC, dI) vwCl (kT cI cM cO) [.ref co, .ref oo, .int ii] [(co, .inr (5, [.long xx, .long xreadX, .ref soa, .ref sna, .ref swa, .int xkept, .ref ri, .ref ro, .ref rw, .int xasked])), (rw, .inr (0, [.int rwn, .ref rwa])), (rwa, .inl (cI, rwk, .inl rwf)), (oo, .inr (7, [.int osg, .int osm, .int ofc, .ref oca, .ref opa])), (oca, .inl (cI, ol, .inl ocf)), (opa, .inl (cI, opl, .inl opf))] sz sl (fun (u : Int64 × Int32 × Nat × Nat × (Nat → Int32)) => rOk u.2.1 u.2.2.2.1) (fun (u : Int64 × Int32 × Nat × Nat × (Nat → Int32)) => [(co, .inr (5, [.long u.1, .long xreadX, .ref soa, .ref sna, .ref swa, .int xkept, .ref ri, .ref ro, .ref rw, .int xasked])), (rw, .inr (0, [.int u.2.1, .ref u.2.2.1])), (u.2.2.1, .inl (cI, u.2.2.2.1, .inl u.2.2.2.2)), (oo, .inr (7, [.int osg, .int osm, .int ofc, .ref oca, .ref opa])), (oca, .inl (cI, ol, .inl ocf)), (opa, .inl (cI, opl, .inl opf))]) (rPh rwk) (fun (u : Int64 × Int32 × Nat × Nat × (Nat → Int32)) => rPh u.2.2.2.1) := by
  refine my_ofVg (cc := prog_12_method_7_code) (n := 5) (ret := none) (by decide) rfl (Nat.le_of_ble_eq_true rfl) ?_
  intro p e s m args below meth c R Q A ls H locs hx hb hr hts hown hlocks hml hnm hR hQ hA hl hP hK hN hD hS
  have hg : ∀ w ∈ gw, w.before args s = true := fun w h => hts w (List.mem_cons_of_mem _ h)
  have hown : s.vm.findClass "RangeCoders$Table" = some m.cls := hown
  have hl : lv_has ls 5 [(0, .ref co), (1, .ref oo), (2, .int ii)] := hl
  have hlt_hrw := rOk_lt hrw
  refine lv_aload_n hx hb d_Table_stackSign_0 rfl (lv_at hl 1 rfl) ?_
  refine lv_iload_n hx hb d_Table_stackSign_1 rfl (lv_at hl 2 rfl) ?_
  refine my_ci (wr := [(co, .inr (5, [.long xx, .long xreadX, .ref soa, .ref sna, .ref swa, .int xkept, .ref ri, .ref ro, .ref rw, .int xasked])), (rw, .inr (0, [.int rwn, .ref rwa])), (rwa, .inl (cI, rwk, .inl rwf))]) (va_runV (As := [.int ii]) (rest := []) ⟨hx, hb, hml, hown, hts⟩ (c_Odds_at l dC dI cI cM cO H.size oo osg osm ofc oca opa ol ocf opl opf ii (by first | assumption | omega) (by first | assumption | omega)) (cwV 1 hts (my_gV k641 k436 k437 k14 k438) rfl rfl rfl (by decide +kernel) ⟨by rw [hR]; exact Nat.le_of_ble_eq_true rfl, by rw [hR]; exact Nat.le_of_ble_eq_true rfl⟩) (my_preV hK hN (hP.sub [3, 4, 5] rfl) (hD.sub [3, 4, 5] (by decide) rfl) 0 rfl rfl) rfl rfl hl.1 rfl (lv_room (Nat.le_of_ble_eq_true rfl)) d_Table_stackSign_2 ⟨by rw [hR]; exact (show 0 + 0 ≤ (rPh rwk) by omega), by rw [hR]; exact (show 0 + 0 ≤ (rPh rwk) by omega)⟩) hP hD hS hA [3, 4, 5] [0, 1, 2] rfl rfl (by decide) (by decide) (fun r_2 u9 H locs hw_2 hP hD hS => ?_)
  have hP : va_P (dC, dI) vwCl [(co, .inr (5, [.long xx, .long xreadX, .ref soa, .ref sna, .ref swa, .int xkept, .ref ri, .ref ro, .ref rw, .int xasked])), (rw, .inr (0, [.int rwn, .ref rwa])), (rwa, .inl (cI, rwk, .inl rwf)), (oo, .inr (7, [.int osg, .int osm, .int ofc, .ref oca, .ref opa])), (oca, .inl (cI, ol, .inl ocf)), (opa, .inl (cI, opl, .inl opf))] H := hP
  have hD : va_D A [(co, .inr (5, [.long xx, .long xreadX, .ref soa, .ref sna, .ref swa, .int xkept, .ref ri, .ref ro, .ref rw, .int xasked])), (rw, .inr (0, [.int rwn, .ref rwa])), (rwa, .inl (cI, rwk, .inl rwf)), (oo, .inr (7, [.int osg, .int osm, .int ofc, .ref oca, .ref opa])), (oca, .inl (cI, ol, .inl ocf)), (opa, .inl (cI, opl, .inl opf))] := hD
  refine lv_istore_n (lv' := [(3, .int r_2), (0, .ref co), (1, .ref oo), (2, .int ii)]) hx hb d_Table_stackSign_5 rfl hl (by decide) rfl (fun ls hl => ?_)
  refine lv_iconst (v := 0) hx hb d_Table_stackSign_6 (by decide) ?_
  refine lv_istore (lv' := [(4, .int 0), (3, .int r_2), (0, .ref co), (1, .ref oo), (2, .int ii)]) hx hb d_Table_stackSign_7 hl (by decide) rfl (fun ls hl => ?_)
  have J_9 : ∀ (n9_9 : Nat) (b9_0 : Int32) (b9_1 : Nat) (b9_2 : Int64) (b9_3 : Int32) (b9_4 : Nat) (b9_5 : Nat → Int32) (b9_6 : Nat) (hn9_9 : (10 - b9_0.toInt).toNat = n9_9) (hi_9 : 0 ≤ b9_0.toInt) (hr1_9 : rOk b9_3 b9_4) (hd_9 : b9_6 + (rPh b9_4) ≤ rPh rwk) (H : Heap) (locs : List Loc) (ls : Array Slot), va_P (dC, dI) vwCl [(co, .inr (5, [.long b9_2, .long xreadX, .ref soa, .ref sna, .ref swa, .int xkept, .ref ri, .ref ro, .ref rw, .int xasked])), (rw, .inr (0, [.int b9_3, .ref b9_1])), (b9_1, .inl (cI, b9_4, .inl b9_5)), (oo, .inr (7, [.int osg, .int osm, .int ofc, .ref oca, .ref opa])), (oca, .inl (cI, ol, .inl ocf)), (opa, .inl (cI, opl, .inl opf))] H → va_D A [(co, .inr (5, [.long b9_2, .long xreadX, .ref soa, .ref sna, .ref swa, .int xkept, .ref ri, .ref ro, .ref rw, .int xasked])), (rw, .inr (0, [.int b9_3, .ref b9_1])), (b9_1, .inl (cI, b9_4, .inl b9_5)), (oo, .inr (7, [.int osg, .int osm, .int ofc, .ref oca, .ref opa])), (oca, .inl (cI, ol, .inl ocf)), (opa, .inl (cI, opl, .inl opf))] → va_S A s.heap H locs → lv_has ls 5 [(4, .int b9_0), (3, .int r_2), (0, .ref co), (1, .ref oo), (2, .int ii)] → W p l e R s m args below meth c H locs b9_6 b9_6 Q (F0 m 9 ls []) := by
    intro n9_9
    induction n9_9 using Nat.strongRecOn with
    | ind n9_9 ih9_9 =>
      intro b9_0 b9_1 b9_2 b9_3 b9_4 b9_5 b9_6 hn9_9 hi_9 hr1_9 hd_9 H locs ls hP hD hS hl
      refine lv_iload hx hb d_Table_stackSign_9 (lv_at hl 0 rfl) ?_
      refine lv_bipush (v := 9) hx hb d_Table_stackSign_11 (by decide) ?_
      refine lv_icmp_gt (tgt := 60) hx hb d_Table_stackSign_13 (by decide) (fun c_1 => ?_) (fun c_1 => ?_)
      · refine lv_aload_n hx hb d_Table_stackSign_60 rfl (lv_at hl 2 rfl) ?_
        refine lv_sipush (v := 512) hx hb d_Table_stackSign_61 (by decide) ?_
        refine lv_aload_n hx hb d_Table_stackSign_64 rfl (lv_at hl 3 rfl) ?_
        refine lv_iload_n hx hb d_Table_stackSign_65 rfl (lv_at hl 4 rfl) ?_
        refine lv_aload_n hx hb d_Table_stackSign_66 rfl (lv_at hl 2 rfl) ?_
        refine va_get (D := (dC, dI)) (ci := 5) (v := .long b9_2) (C := "RangeCoders$Table") (T := T_Table) (N := 10) hx hb hg in_Table hown hK hP 0 rfl rfl 0 (by decide) (hg _ k213) (fun x9 h9 => u_same (hg _ k214) x9 h9) rfl d_Table_stackSign_67 ?_
        refine lv_l2i hx hb d_Table_stackSign_70 rfl ?_
        refine lv_topi (fun v_2 ev_2 => ?_)
        refine lv_iload_n hx hb d_Table_stackSign_71 rfl (lv_at hl 1 rfl) ?_
        refine lv_isub hx hb d_Table_stackSign_72 ?_
        refine lv_topi (fun v_3 ev_3 => ?_)
        refine my_ci (wr := [(co, .inr (5, [.long b9_2, .long xreadX, .ref soa, .ref sna, .ref swa, .int xkept, .ref ri, .ref ro, .ref rw, .int xasked])), (rw, .inr (0, [.int b9_3, .ref b9_1])), (b9_1, .inl (cI, b9_4, .inl b9_5))]) (va_runV (As := [.int ii, .int v_3]) (rest := [.int 512, .ref co]) ⟨hx, hb, hml, hown, hts⟩ (c_Odds_placeOf l dC dI cI cM cO H.size oo osg osm ofc oca opa ol ocf opl opf ii v_3 (by first | assumption | omega) (by first | assumption | omega)) (cwV 2 hts (my_gV k643 k644 k645 k14 k646) rfl rfl rfl (by decide +kernel) ⟨by rw [hR]; exact Nat.le_of_ble_eq_true rfl, by rw [hR]; exact Nat.le_of_ble_eq_true rfl⟩) (my_preV hK hN (hP.sub [3, 4, 5] rfl) (hD.sub [3, 4, 5] (by decide) rfl) 0 rfl rfl) rfl rfl hl.1 rfl (lv_room (Nat.le_of_ble_eq_true rfl)) d_Table_stackSign_73 ⟨by rw [hR]; exact (show b9_6 + 0 ≤ (rPh rwk) by omega), by rw [hR]; exact (show b9_6 + 0 ≤ (rPh rwk) by omega)⟩) hP hD hS hA [3, 4, 5] [0, 1, 2] rfl rfl (by decide) (by decide) (fun r_73 u9 H locs hw_73 hP hD hS => ?_)
        have hP : va_P (dC, dI) vwCl [(co, .inr (5, [.long b9_2, .long xreadX, .ref soa, .ref sna, .ref swa, .int xkept, .ref ri, .ref ro, .ref rw, .int xasked])), (rw, .inr (0, [.int b9_3, .ref b9_1])), (b9_1, .inl (cI, b9_4, .inl b9_5)), (oo, .inr (7, [.int osg, .int osm, .int ofc, .ref oca, .ref opa])), (oca, .inl (cI, ol, .inl ocf)), (opa, .inl (cI, opl, .inl opf))] H := hP
        have hD : va_D A [(co, .inr (5, [.long b9_2, .long xreadX, .ref soa, .ref sna, .ref swa, .int xkept, .ref ri, .ref ro, .ref rw, .int xasked])), (rw, .inr (0, [.int b9_3, .ref b9_1])), (b9_1, .inl (cI, b9_4, .inl b9_5)), (oo, .inr (7, [.int osg, .int osm, .int ofc, .ref oca, .ref opa])), (oca, .inl (cI, ol, .inl ocf)), (opa, .inl (cI, opl, .inl opf))] := hD
        refine lv_iadd hx hb d_Table_stackSign_76 ?_
        refine lv_topi (fun v_4 ev_4 => ?_)
        refine lv_i2l hx hb d_Table_stackSign_77 rfl ?_
        refine lv_topl (fun v_5 ev_5 => ?_)
        refine va_put (D := (dC, dI)) (ci := 5) (v := .long v_5) (ty := .long) (C := "RangeCoders$Table") (T := T_Table) (N := 10) hx hb hg in_Table t_Table o_Table n_Table hown hK hP hD hS 0 rfl rfl 0 (by decide) (hg _ k213) (fun x9 h9 => u_same (hg _ k214) x9 h9) rfl (by decide +kernel) rfl rfl (Nat.le_of_ble_eq_true rfl) d_Table_stackSign_78 (fun H locs hP hD hS => ?_)
        have hP : va_P (dC, dI) vwCl [(co, .inr (5, [.long v_5, .long xreadX, .ref soa, .ref sna, .ref swa, .int xkept, .ref ri, .ref ro, .ref rw, .int xasked])), (rw, .inr (0, [.int b9_3, .ref b9_1])), (b9_1, .inl (cI, b9_4, .inl b9_5)), (oo, .inr (7, [.int osg, .int osm, .int ofc, .ref oca, .ref opa])), (oca, .inl (cI, ol, .inl ocf)), (opa, .inl (cI, opl, .inl opf))] H := hP
        have hD : va_D A [(co, .inr (5, [.long v_5, .long xreadX, .ref soa, .ref sna, .ref swa, .int xkept, .ref ri, .ref ro, .ref rw, .int xasked])), (rw, .inr (0, [.int b9_3, .ref b9_1])), (b9_1, .inl (cI, b9_4, .inl b9_5)), (oo, .inr (7, [.int osg, .int osm, .int ofc, .ref oca, .ref opa])), (oca, .inl (cI, ol, .inl ocf)), (opa, .inl (cI, opl, .inl opf))] := hD
        exact my_vretg hx hb hr hlocks hQ hK hS (v_5, b9_3, b9_1, b9_4, b9_5) (show b9_6 + (rPh b9_4) ≤ (rPh rwk) by omega) (show b9_6 + (rPh b9_4) ≤ (rPh rwk) by omega) (by first | assumption | (subst_vars; assumption)) (hP.sub [0, 1, 2, 3, 4, 5] rfl) (hD.sub [0, 1, 2, 3, 4, 5] (by decide) rfl) d_Table_stackSign_81
      · refine lv_aload_n hx hb d_Table_stackSign_16 rfl (lv_at hl 2 rfl) ?_
        refine va_get (D := (dC, dI)) (ci := 5) (v := .long b9_2) (C := "RangeCoders$Table") (T := T_Table) (N := 10) hx hb hg in_Table hown hK hP 0 rfl rfl 0 (by decide) (hg _ k213) (fun x9 h9 => u_same (hg _ k214) x9 h9) rfl d_Table_stackSign_17 ?_
        refine lv_ldc2 (v := 2) hx hb hown (hg _ k642) d_Table_stackSign_20 ?_
        refine lv_iload_n hx hb d_Table_stackSign_23 rfl (lv_at hl 1 rfl) ?_
        refine lv_i2l hx hb d_Table_stackSign_24 rfl ?_
        refine lv_topl (fun v_6 ev_6 => ?_)
        refine lv_lmul hx hb d_Table_stackSign_25 ?_
        refine lv_topl (fun v_7 ev_7 => ?_)
        refine W.lcmp hx hb d_Table_stackSign_26 ?_
        refine lv_if_lt (tgt := 60) hx hb d_Table_stackSign_27 (by decide) (fun c_8 => ?_) (fun c_8 => ?_)
        · rw [lg_cmp_lt] at c_8
          refine lv_aload_n hx hb d_Table_stackSign_60 rfl (lv_at hl 2 rfl) ?_
          refine lv_sipush (v := 512) hx hb d_Table_stackSign_61 (by decide) ?_
          refine lv_aload_n hx hb d_Table_stackSign_64 rfl (lv_at hl 3 rfl) ?_
          refine lv_iload_n hx hb d_Table_stackSign_65 rfl (lv_at hl 4 rfl) ?_
          refine lv_aload_n hx hb d_Table_stackSign_66 rfl (lv_at hl 2 rfl) ?_
          refine va_get (D := (dC, dI)) (ci := 5) (v := .long b9_2) (C := "RangeCoders$Table") (T := T_Table) (N := 10) hx hb hg in_Table hown hK hP 0 rfl rfl 0 (by decide) (hg _ k213) (fun x9 h9 => u_same (hg _ k214) x9 h9) rfl d_Table_stackSign_67 ?_
          refine lv_l2i hx hb d_Table_stackSign_70 rfl ?_
          refine lv_topi (fun v_9 ev_9 => ?_)
          refine lv_iload_n hx hb d_Table_stackSign_71 rfl (lv_at hl 1 rfl) ?_
          refine lv_isub hx hb d_Table_stackSign_72 ?_
          refine lv_topi (fun v_10 ev_10 => ?_)
          refine my_ci (wr := [(co, .inr (5, [.long b9_2, .long xreadX, .ref soa, .ref sna, .ref swa, .int xkept, .ref ri, .ref ro, .ref rw, .int xasked])), (rw, .inr (0, [.int b9_3, .ref b9_1])), (b9_1, .inl (cI, b9_4, .inl b9_5))]) (va_runV (As := [.int ii, .int v_10]) (rest := [.int 512, .ref co]) ⟨hx, hb, hml, hown, hts⟩ (c_Odds_placeOf l dC dI cI cM cO H.size oo osg osm ofc oca opa ol ocf opl opf ii v_10 (by first | assumption | omega) (by first | assumption | omega)) (cwV 2 hts (my_gV k643 k644 k645 k14 k646) rfl rfl rfl (by decide +kernel) ⟨by rw [hR]; exact Nat.le_of_ble_eq_true rfl, by rw [hR]; exact Nat.le_of_ble_eq_true rfl⟩) (my_preV hK hN (hP.sub [3, 4, 5] rfl) (hD.sub [3, 4, 5] (by decide) rfl) 0 rfl rfl) rfl rfl hl.1 rfl (lv_room (Nat.le_of_ble_eq_true rfl)) d_Table_stackSign_73 ⟨by rw [hR]; exact (show b9_6 + 0 ≤ (rPh rwk) by omega), by rw [hR]; exact (show b9_6 + 0 ≤ (rPh rwk) by omega)⟩) hP hD hS hA [3, 4, 5] [0, 1, 2] rfl rfl (by decide) (by decide) (fun r_73 u9 H locs hw_73 hP hD hS => ?_)
          have hP : va_P (dC, dI) vwCl [(co, .inr (5, [.long b9_2, .long xreadX, .ref soa, .ref sna, .ref swa, .int xkept, .ref ri, .ref ro, .ref rw, .int xasked])), (rw, .inr (0, [.int b9_3, .ref b9_1])), (b9_1, .inl (cI, b9_4, .inl b9_5)), (oo, .inr (7, [.int osg, .int osm, .int ofc, .ref oca, .ref opa])), (oca, .inl (cI, ol, .inl ocf)), (opa, .inl (cI, opl, .inl opf))] H := hP
          have hD : va_D A [(co, .inr (5, [.long b9_2, .long xreadX, .ref soa, .ref sna, .ref swa, .int xkept, .ref ri, .ref ro, .ref rw, .int xasked])), (rw, .inr (0, [.int b9_3, .ref b9_1])), (b9_1, .inl (cI, b9_4, .inl b9_5)), (oo, .inr (7, [.int osg, .int osm, .int ofc, .ref oca, .ref opa])), (oca, .inl (cI, ol, .inl ocf)), (opa, .inl (cI, opl, .inl opf))] := hD
          refine lv_iadd hx hb d_Table_stackSign_76 ?_
          refine lv_topi (fun v_11 ev_11 => ?_)
          refine lv_i2l hx hb d_Table_stackSign_77 rfl ?_
          refine lv_topl (fun v_12 ev_12 => ?_)
          refine va_put (D := (dC, dI)) (ci := 5) (v := .long v_12) (ty := .long) (C := "RangeCoders$Table") (T := T_Table) (N := 10) hx hb hg in_Table t_Table o_Table n_Table hown hK hP hD hS 0 rfl rfl 0 (by decide) (hg _ k213) (fun x9 h9 => u_same (hg _ k214) x9 h9) rfl (by decide +kernel) rfl rfl (Nat.le_of_ble_eq_true rfl) d_Table_stackSign_78 (fun H locs hP hD hS => ?_)
          have hP : va_P (dC, dI) vwCl [(co, .inr (5, [.long v_12, .long xreadX, .ref soa, .ref sna, .ref swa, .int xkept, .ref ri, .ref ro, .ref rw, .int xasked])), (rw, .inr (0, [.int b9_3, .ref b9_1])), (b9_1, .inl (cI, b9_4, .inl b9_5)), (oo, .inr (7, [.int osg, .int osm, .int ofc, .ref oca, .ref opa])), (oca, .inl (cI, ol, .inl ocf)), (opa, .inl (cI, opl, .inl opf))] H := hP
          have hD : va_D A [(co, .inr (5, [.long v_12, .long xreadX, .ref soa, .ref sna, .ref swa, .int xkept, .ref ri, .ref ro, .ref rw, .int xasked])), (rw, .inr (0, [.int b9_3, .ref b9_1])), (b9_1, .inl (cI, b9_4, .inl b9_5)), (oo, .inr (7, [.int osg, .int osm, .int ofc, .ref oca, .ref opa])), (oca, .inl (cI, ol, .inl ocf)), (opa, .inl (cI, opl, .inl opf))] := hD
          exact my_vretg hx hb hr hlocks hQ hK hS (v_12, b9_3, b9_1, b9_4, b9_5) (show b9_6 + (rPh b9_4) ≤ (rPh rwk) by omega) (show b9_6 + (rPh b9_4) ≤ (rPh rwk) by omega) (by first | assumption | (subst_vars; assumption)) (hP.sub [0, 1, 2, 3, 4, 5] rfl) (hD.sub [0, 1, 2, 3, 4, 5] (by decide) rfl) d_Table_stackSign_81
        · rw [lg_cmp_lt] at c_8
          refine lv_aload_n hx hb d_Table_stackSign_30 rfl (lv_at hl 2 rfl) ?_
          refine va_get (D := (dC, dI)) (ci := 5) (v := .ref rw) (C := "RangeCoders$Table") (T := T_Table) (N := 10) hx hb hg in_Table hown hK hP 0 rfl rfl 8 (by decide) (hg _ k120) (fun x9 h9 => u_same (hg _ k121) x9 h9) rfl d_Table_stackSign_31 ?_
          refine lv_aload_n hx hb d_Table_stackSign_34 rfl (lv_at hl 2 rfl) ?_
          refine va_get (D := (dC, dI)) (ci := 5) (v := .long b9_2) (C := "RangeCoders$Table") (T := T_Table) (N := 10) hx hb hg in_Table hown hK hP 0 rfl rfl 0 (by decide) (hg _ k213) (fun x9 h9 => u_same (hg _ k214) x9 h9) rfl d_Table_stackSign_35 ?_
          refine lv_lconst (v := 1) hx hb d_Table_stackSign_38 (by decide) ?_
          refine lv_land hx hb d_Table_stackSign_39 ?_
          refine lv_topl (fun v_13 ev_13 => ?_)
          refine lv_l2i hx hb d_Table_stackSign_40 rfl ?_
          refine lv_topi (fun v_14 ev_14 => ?_)
          refine my_cvg (wr := [(co, .inr (5, [.long b9_2, .long xreadX, .ref soa, .ref sna, .ref swa, .int xkept, .ref ri, .ref ro, .ref rw, .int xasked])), (oo, .inr (7, [.int osg, .int osm, .int ofc, .ref oca, .ref opa])), (oca, .inl (cI, ol, .inl ocf)), (opa, .inl (cI, opl, .inl opf))]) (va_runV (As := [.int v_14]) (rest := []) ⟨hx, hb, hml, hown, hts⟩ (c_Row_add l dC dI cI cM cO H.size (hSl H) rw b9_3 b9_1 b9_4 b9_5 v_14 (by first | assumption | omega)) (cwV 1 hts (my_gV k629 k473 k474 k6 k475) rfl rfl rfl (by decide +kernel) ⟨by rw [hR]; exact Nat.le_of_ble_eq_true rfl, by rw [hR]; exact Nat.le_of_ble_eq_true rfl⟩) (my_preVg hK hN (hP.sub [1, 2] rfl) (hD.sub [1, 2] (by decide) rfl) 0 rfl rfl) rfl rfl hl.1 rfl (lv_room (Nat.le_of_ble_eq_true rfl)) d_Table_stackSign_41 ⟨by rw [hR]; exact (show b9_6 + (rPh b9_4) ≤ (rPh rwk) by omega), by rw [hR]; exact (show b9_6 + (rPh b9_4) ≤ (rPh rwk) by omega)⟩) hP hD hS hA [1, 2] [0, 3, 4, 5] rfl rfl (by decide) (by decide) (fun u9 d_41 H locs hd_41 hw_41 hP hD hS => ?_)
          obtain ⟨rrnq_41, rraq_41, rrkq_41, rrfq_41⟩ := u9
          have hrr_41 : rOk rrnq_41 rrkq_41 := hw_41
          have hd_41 : d_41 + (rPh rrkq_41) ≤ (rPh b9_4) := hd_41
          have hP : va_P (dC, dI) vwCl [(co, .inr (5, [.long b9_2, .long xreadX, .ref soa, .ref sna, .ref swa, .int xkept, .ref ri, .ref ro, .ref rw, .int xasked])), (oo, .inr (7, [.int osg, .int osm, .int ofc, .ref oca, .ref opa])), (oca, .inl (cI, ol, .inl ocf)), (opa, .inl (cI, opl, .inl opf)), (rw, .inr (0, [.int rrnq_41, .ref rraq_41])), (rraq_41, .inl (cI, rrkq_41, .inl rrfq_41))] H := hP
          have hD : va_D A [(co, .inr (5, [.long b9_2, .long xreadX, .ref soa, .ref sna, .ref swa, .int xkept, .ref ri, .ref ro, .ref rw, .int xasked])), (oo, .inr (7, [.int osg, .int osm, .int ofc, .ref oca, .ref opa])), (oca, .inl (cI, ol, .inl ocf)), (opa, .inl (cI, opl, .inl opf)), (rw, .inr (0, [.int rrnq_41, .ref rraq_41])), (rraq_41, .inl (cI, rrkq_41, .inl rrfq_41))] := hD
          refine lv_aload_n hx hb d_Table_stackSign_44 rfl (lv_at hl 2 rfl) ?_
          refine lv_dup hx hb d_Table_stackSign_45 rfl ?_
          refine va_get (D := (dC, dI)) (ci := 5) (v := .long b9_2) (C := "RangeCoders$Table") (T := T_Table) (N := 10) hx hb hg in_Table hown hK hP 0 rfl rfl 0 (by decide) (hg _ k213) (fun x9 h9 => u_same (hg _ k214) x9 h9) rfl d_Table_stackSign_46 ?_
          refine lv_iconst (v := 1) hx hb d_Table_stackSign_49 (by decide) ?_
          refine lv_lushr hx hb d_Table_stackSign_50 rfl ?_
          refine lv_topl (fun v_15 ev_15 => ?_)
          refine va_put (D := (dC, dI)) (ci := 5) (v := .long v_15) (ty := .long) (C := "RangeCoders$Table") (T := T_Table) (N := 10) hx hb hg in_Table t_Table o_Table n_Table hown hK hP hD hS 0 rfl rfl 0 (by decide) (hg _ k213) (fun x9 h9 => u_same (hg _ k214) x9 h9) rfl (by decide +kernel) rfl rfl (Nat.le_of_ble_eq_true rfl) d_Table_stackSign_51 (fun H locs hP hD hS => ?_)
          have hP : va_P (dC, dI) vwCl [(co, .inr (5, [.long v_15, .long xreadX, .ref soa, .ref sna, .ref swa, .int xkept, .ref ri, .ref ro, .ref rw, .int xasked])), (oo, .inr (7, [.int osg, .int osm, .int ofc, .ref oca, .ref opa])), (oca, .inl (cI, ol, .inl ocf)), (opa, .inl (cI, opl, .inl opf)), (rw, .inr (0, [.int rrnq_41, .ref rraq_41])), (rraq_41, .inl (cI, rrkq_41, .inl rrfq_41))] H := hP
          have hD : va_D A [(co, .inr (5, [.long v_15, .long xreadX, .ref soa, .ref sna, .ref swa, .int xkept, .ref ri, .ref ro, .ref rw, .int xasked])), (oo, .inr (7, [.int osg, .int osm, .int ofc, .ref oca, .ref opa])), (oca, .inl (cI, ol, .inl ocf)), (opa, .inl (cI, opl, .inl opf)), (rw, .inr (0, [.int rrnq_41, .ref rraq_41])), (rraq_41, .inl (cI, rrkq_41, .inl rrfq_41))] := hD
          obtain ⟨v_16, ev_16⟩ : ∃ y : Int32, y = b9_0 + (1) := ⟨_, rfl⟩
          refine lv_iinc (v := v_16) (lv' := [(4, .int v_16), (3, .int r_2), (0, .ref co), (1, .ref oo), (2, .int ii)]) hx hb d_Table_stackSign_54 hl (k := 0) rfl (by rw [ev_16]; rfl) (by decide) rfl (fun ls hl => ?_)
          refine lv_goto (tgt := 9) hx hb d_Table_stackSign_57 (by decide) ?_
          exact ih9_9 _ (by first | omega | (have z9 := I_up9 c_1 ev_16; omega)) v_16 rraq_41 v_15 rrnq_41 rrkq_41 rrfq_41 (b9_6 + d_41) rfl (by have z9 := I_up9 c_1 ev_16; omega) (by assumption) (by omega) H locs ls (hP.sub [0, 4, 5, 1, 2, 3] rfl) (hD.sub [0, 4, 5, 1, 2, 3] (by decide) rfl) hS (lv_sub hl [0, 1, 2, 3, 4] rfl)
  exact J_9 _ (0 : Int32) rwa xx rwn rwk rwf (0 : Nat) rfl (by first | decide | assumption | omega) (by assumption) (by omega) H locs ls (hP.sub [0, 1, 2, 3, 4, 5] rfl) (hD.sub [0, 1, 2, 3, 4, 5] (by decide) rfl) hS (lv_sub hl [0, 1, 2, 3, 4] rfl)
set_option maxHeartbeats 2000000 in
set_option maxRecDepth 100000 in
theorem c_Table_Table_stackValue (l : Launch) (dC : Nat → ClassId) (dI : Nat → Nat → Nat) (cI cM cO : ClassId) (sz : Nat) (sl : Nat) (co : Nat) (xx : Int64) (xreadX : Int64) (soa : Nat) (sna : Nat) (swa : Nat) (xkept : Int32) (ri : Nat) (ro : Nat) (rw : Nat) (xasked : Int32) (rwn : Int32) (rwa : Nat) (rwk : Nat) (rwf : Nat → Int32) (vv : Int32) (wd : Int32) (hrw : rOk rwn rwk) : MetVg l y_Table_stackValue (Cond.code y_Table_stackValue prog_12_method_8_code 4 none :: gw) ({ frames := 3, cells := rPh rwk, slots := rPh rwk, locals := 83 } : Room) (dC, dI) vwCl (kT cI cM cO) [.ref co, .int vv, .int wd] [(co, .inr (5, [.long xx, .long xreadX, .ref soa, .ref sna, .ref swa, .int xkept, .ref ri, .ref ro, .ref rw, .int xasked])), (rw, .inr (0, [.int rwn, .ref rwa])), (rwa, .inl (cI, rwk, .inl rwf))] sz sl (fun (u : Int32 × Nat × Nat × (Nat → Int32)) => rOk u.1 u.2.2.1) (fun (u : Int32 × Nat × Nat × (Nat → Int32)) => [(co, .inr (5, [.long xx, .long xreadX, .ref soa, .ref sna, .ref swa, .int xkept, .ref ri, .ref ro, .ref rw, .int xasked])), (rw, .inr (0, [.int u.1, .ref u.2.1])), (u.2.1, .inl (cI, u.2.2.1, .inl u.2.2.2))]) (rPh rwk) (fun (u : Int32 × Nat × Nat × (Nat → Int32)) => rPh u.2.2.1) := by
  refine my_ofVg (cc := prog_12_method_8_code) (n := 4) (ret := none) (by decide) rfl (Nat.le_of_ble_eq_true rfl) ?_
  intro p e s m args below meth c R Q A ls H locs hx hb hr hts hown hlocks hml hnm hR hQ hA hl hP hK hN hD hS
  have hg : ∀ w ∈ gw, w.before args s = true := fun w h => hts w (List.mem_cons_of_mem _ h)
  have hown : s.vm.findClass "RangeCoders$Table" = some m.cls := hown
  have hl : lv_has ls 4 [(0, .ref co), (1, .int vv), (2, .int wd)] := hl
  have hlt_hrw := rOk_lt hrw
  refine lv_iconst (v := 0) hx hb d_Table_stackValue_0 (by decide) ?_
  refine lv_istore_n (lv' := [(3, .int 0), (0, .ref co), (1, .int vv), (2, .int wd)]) hx hb d_Table_stackValue_1 rfl hl (by decide) rfl (fun ls hl => ?_)
  have J_2 : ∀ (n9_2 : Nat) (b2_0 : Int32) (b2_1 : Nat) (b2_2 : Int32) (b2_3 : Nat) (b2_4 : Nat → Int32) (b2_5 : Nat) (hn9_2 : (wd.toInt - b2_0.toInt).toNat = n9_2) (hi_2 : 0 ≤ b2_0.toInt) (hr1_2 : rOk b2_2 b2_3) (hd_2 : b2_5 + (rPh b2_3) ≤ rPh rwk) (H : Heap) (locs : List Loc) (ls : Array Slot), va_P (dC, dI) vwCl [(co, .inr (5, [.long xx, .long xreadX, .ref soa, .ref sna, .ref swa, .int xkept, .ref ri, .ref ro, .ref rw, .int xasked])), (rw, .inr (0, [.int b2_2, .ref b2_1])), (b2_1, .inl (cI, b2_3, .inl b2_4))] H → va_D A [(co, .inr (5, [.long xx, .long xreadX, .ref soa, .ref sna, .ref swa, .int xkept, .ref ri, .ref ro, .ref rw, .int xasked])), (rw, .inr (0, [.int b2_2, .ref b2_1])), (b2_1, .inl (cI, b2_3, .inl b2_4))] → va_S A s.heap H locs → lv_has ls 4 [(3, .int b2_0), (0, .ref co), (1, .int vv), (2, .int wd)] → W p l e R s m args below meth c H locs b2_5 b2_5 Q (F0 m 2 ls []) := by
    intro n9_2
    induction n9_2 using Nat.strongRecOn with
    | ind n9_2 ih9_2 =>
      intro b2_0 b2_1 b2_2 b2_3 b2_4 b2_5 hn9_2 hi_2 hr1_2 hd_2 H locs ls hP hD hS hl
      refine lv_iload_n hx hb d_Table_stackValue_2 rfl (lv_at hl 0 rfl) ?_
      refine lv_iload_n hx hb d_Table_stackValue_3 rfl (lv_at hl 3 rfl) ?_
      refine lv_icmp_ge (tgt := 25) hx hb d_Table_stackValue_4 (by decide) (fun c_1 => ?_) (fun c_1 => ?_)
      · exact my_vretg hx hb hr hlocks hQ hK hS (b2_2, b2_1, b2_3, b2_4) (show b2_5 + (rPh b2_3) ≤ (rPh rwk) by omega) (show b2_5 + (rPh b2_3) ≤ (rPh rwk) by omega) (by first | assumption | (subst_vars; assumption)) (hP.sub [0, 1, 2] rfl) (hD.sub [0, 1, 2] (by decide) rfl) d_Table_stackValue_25
      · refine lv_aload_n hx hb d_Table_stackValue_7 rfl (lv_at hl 1 rfl) ?_
        refine va_get (D := (dC, dI)) (ci := 5) (v := .ref rw) (C := "RangeCoders$Table") (T := T_Table) (N := 10) hx hb hg in_Table hown hK hP 0 rfl rfl 8 (by decide) (hg _ k120) (fun x9 h9 => u_same (hg _ k121) x9 h9) rfl d_Table_stackValue_8 ?_
        refine lv_iload_n hx hb d_Table_stackValue_11 rfl (lv_at hl 2 rfl) ?_
        refine lv_iload_n hx hb d_Table_stackValue_12 rfl (lv_at hl 0 rfl) ?_
        refine lv_iushr hx hb d_Table_stackValue_13 rfl ?_
        refine lv_topi (fun v_2 ev_2 => ?_)
        refine lv_iconst (v := 1) hx hb d_Table_stackValue_14 (by decide) ?_
        refine lv_iand hx hb d_Table_stackValue_15 ?_
        refine lv_topi (fun v_3 ev_3 => ?_)
        refine my_cvg (wr := [(co, .inr (5, [.long xx, .long xreadX, .ref soa, .ref sna, .ref swa, .int xkept, .ref ri, .ref ro, .ref rw, .int xasked]))]) (va_runV (As := [.int v_3]) (rest := []) ⟨hx, hb, hml, hown, hts⟩ (c_Row_add l dC dI cI cM cO H.size (hSl H) rw b2_2 b2_1 b2_3 b2_4 v_3 (by first | assumption | omega)) (cwV 1 hts (my_gV k629 k473 k474 k6 k475) rfl rfl rfl (by decide +kernel) ⟨by rw [hR]; exact Nat.le_of_ble_eq_true rfl, by rw [hR]; exact Nat.le_of_ble_eq_true rfl⟩) (my_preVg hK hN (hP.sub [1, 2] rfl) (hD.sub [1, 2] (by decide) rfl) 0 rfl rfl) rfl rfl hl.1 rfl (lv_room (Nat.le_of_ble_eq_true rfl)) d_Table_stackValue_16 ⟨by rw [hR]; exact (show b2_5 + (rPh b2_3) ≤ (rPh rwk) by omega), by rw [hR]; exact (show b2_5 + (rPh b2_3) ≤ (rPh rwk) by omega)⟩) hP hD hS hA [1, 2] [0] rfl rfl (by decide) (by decide) (fun u9 d_16 H locs hd_16 hw_16 hP hD hS => ?_)
        obtain ⟨rrnq_16, rraq_16, rrkq_16, rrfq_16⟩ := u9
        have hrr_16 : rOk rrnq_16 rrkq_16 := hw_16
        have hd_16 : d_16 + (rPh rrkq_16) ≤ (rPh b2_3) := hd_16
        have hP : va_P (dC, dI) vwCl [(co, .inr (5, [.long xx, .long xreadX, .ref soa, .ref sna, .ref swa, .int xkept, .ref ri, .ref ro, .ref rw, .int xasked])), (rw, .inr (0, [.int rrnq_16, .ref rraq_16])), (rraq_16, .inl (cI, rrkq_16, .inl rrfq_16))] H := hP
        have hD : va_D A [(co, .inr (5, [.long xx, .long xreadX, .ref soa, .ref sna, .ref swa, .int xkept, .ref ri, .ref ro, .ref rw, .int xasked])), (rw, .inr (0, [.int rrnq_16, .ref rraq_16])), (rraq_16, .inl (cI, rrkq_16, .inl rrfq_16))] := hD
        obtain ⟨v_4, ev_4⟩ : ∃ y : Int32, y = b2_0 + (1) := ⟨_, rfl⟩
        refine lv_iinc (v := v_4) (lv' := [(3, .int v_4), (0, .ref co), (1, .int vv), (2, .int wd)]) hx hb d_Table_stackValue_19 hl (k := 0) rfl (by rw [ev_4]; rfl) (by decide) rfl (fun ls hl => ?_)
        refine lv_goto (tgt := 2) hx hb d_Table_stackValue_22 (by decide) ?_
        exact ih9_2 _ (by first | omega | (have z9 := I_up c_1 ev_4; omega)) v_4 rraq_16 rrnq_16 rrkq_16 rrfq_16 (b2_5 + d_16) rfl (by have z9 := I_up c_1 ev_4; omega) (by assumption) (by omega) H locs ls (hP.sub [0, 1, 2] rfl) (hD.sub [0, 1, 2] (by decide) rfl) hS (lv_sub hl [0, 1, 2, 3] rfl)
  exact J_2 _ (0 : Int32) rwa rwn rwk rwf (0 : Nat) rfl (by first | decide | assumption | omega) (by assumption) (by omega) H locs ls (hP.sub [0, 1, 2] rfl) (hD.sub [0, 1, 2] (by decide) rfl) hS (lv_sub hl [0, 1, 2, 3] rfl)
set_option maxHeartbeats 2000000 in
set_option maxRecDepth 100000 in
theorem c_Table_Table_byteOfWritten (l : Launch) (dC : Nat → ClassId) (dI : Nat → Nat → Nat) (cI cM cO : ClassId) (sz : Nat) (co : Nat) (xx : Int64) (xreadX : Int64) (soa : Nat) (sna : Nat) (swa : Nat) (xkept : Int32) (ri : Nat) (ro : Nat) (rw : Nat) (xasked : Int32) (rwn : Int32) (rwa : Nat) (rwk : Nat) (rwf : Nat → Int32) (fm : Int32) (hrw : rOk rwn rwk) : MetI l y_Table_byteOfWritten (Cond.code y_Table_byteOfWritten prog_12_method_13_code 5 (some .int) :: gw) ({ frames := 2, cells := 0, slots := 0, locals := 42 } : Room) (dC, dI) vwCl (kT cI cM cO) [.ref co, .int fm] [(co, .inr (5, [.long xx, .long xreadX, .ref soa, .ref sna, .ref swa, .int xkept, .ref ri, .ref ro, .ref rw, .int xasked])), (rw, .inr (0, [.int rwn, .ref rwa])), (rwa, .inl (cI, rwk, .inl rwf))] sz (fun (r : Int32) (u : Unit) => True) (fun (u : Unit) => [(co, .inr (5, [.long xx, .long xreadX, .ref soa, .ref sna, .ref swa, .int xkept, .ref ri, .ref ro, .ref rw, .int xasked])), (rw, .inr (0, [.int rwn, .ref rwa])), (rwa, .inl (cI, rwk, .inl rwf))]) 0 0 := by
  refine my_ofI (cc := prog_12_method_13_code) (n := 5) (ret := (some .int)) (by decide) rfl (Nat.le_of_ble_eq_true rfl) ?_
  intro p e s m args below meth c R Q A ls H locs hx hb hr hts hown hlocks hml hnm hR hQ hA hl hP hK hN hD hS
  have hg : ∀ w ∈ gw, w.before args s = true := fun w h => hts w (List.mem_cons_of_mem _ h)
  have hown : s.vm.findClass "RangeCoders$Table" = some m.cls := hown
  have hl : lv_has ls 5 [(0, .ref co), (1, .int fm)] := hl
  have hlt_hrw := rOk_lt hrw
  refine lv_iconst (v := 0) hx hb d_Table_byteOfWritten_0 (by decide) ?_
  refine lv_istore_n (lv' := [(2, .int 0), (0, .ref co), (1, .int fm)]) hx hb d_Table_byteOfWritten_1 rfl hl (by decide) rfl (fun ls hl => ?_)
  refine lv_iload_n hx hb d_Table_byteOfWritten_2 rfl (lv_at hl 2 rfl) ?_
  refine lv_istore_n (lv' := [(3, .int fm), (2, .int 0), (0, .ref co), (1, .int fm)]) hx hb d_Table_byteOfWritten_3 rfl hl (by decide) rfl (fun ls hl => ?_)
  have J_4 : ∀ (n9_4 : Nat) (b4_0 : Int32) (b4_1 : Int32) (hn9_4 : ((fm + 8).toInt - b4_0.toInt).toNat = n9_4) (H : Heap) (locs : List Loc) (ls : Array Slot), va_P (dC, dI) vwCl [(co, .inr (5, [.long xx, .long xreadX, .ref soa, .ref sna, .ref swa, .int xkept, .ref ri, .ref ro, .ref rw, .int xasked])), (rw, .inr (0, [.int rwn, .ref rwa])), (rwa, .inl (cI, rwk, .inl rwf))] H → va_D A [(co, .inr (5, [.long xx, .long xreadX, .ref soa, .ref sna, .ref swa, .int xkept, .ref ri, .ref ro, .ref rw, .int xasked])), (rw, .inr (0, [.int rwn, .ref rwa])), (rwa, .inl (cI, rwk, .inl rwf))] → va_S A s.heap H locs → lv_has ls 5 [(3, .int b4_0), (2, .int b4_1), (0, .ref co), (1, .int fm)] → W p l e R s m args below meth c H locs 0 0 Q (F0 m 4 ls []) := by
    intro n9_4
    induction n9_4 using Nat.strongRecOn with
    | ind n9_4 ih9_4 =>
      intro b4_0 b4_1 hn9_4  H locs ls hP hD hS hl
      refine lv_iload_n hx hb d_Table_byteOfWritten_4 rfl (lv_at hl 0 rfl) ?_
      refine lv_iload_n hx hb d_Table_byteOfWritten_5 rfl (lv_at hl 3 rfl) ?_
      refine lv_bipush (v := 8) hx hb d_Table_byteOfWritten_6 (by decide) ?_
      refine lv_iadd hx hb d_Table_byteOfWritten_8 ?_
      refine lv_topi (fun v_1 ev_1 => ?_)
      refine lv_icmp_ge (tgt := 61) hx hb d_Table_byteOfWritten_9 (by decide) (fun c_2 => ?_) (fun c_2 => ?_)
      · refine lv_iload_n hx hb d_Table_byteOfWritten_61 rfl (lv_at hl 1 rfl) ?_
        exact my_iret (v := b4_1) hx hb hr (rfl) hlocks hQ hK hS (Nat.le_refl _) (Nat.le_refl _) () (trivial) (hP.sub [0, 1, 2] rfl) (hD.sub [0, 1, 2] (by decide) rfl) d_Table_byteOfWritten_62
      · refine lv_aload_n hx hb d_Table_byteOfWritten_12 rfl (lv_at hl 2 rfl) ?_
        refine va_get (D := (dC, dI)) (ci := 5) (v := .ref rw) (C := "RangeCoders$Table") (T := T_Table) (N := 10) hx hb hg in_Table hown hK hP 0 rfl rfl 8 (by decide) (hg _ k120) (fun x9 h9 => u_same (hg _ k121) x9 h9) rfl d_Table_byteOfWritten_13 ?_
        refine va_get (D := (dC, dI)) (ci := 0) (v := .int rwn) (C := "RangeCoders$Row") (T := T_Row) (N := 2) hx hb hg in_Row hown hK hP 1 rfl rfl 0 (by decide) (hg _ k59) (fun _ h9 => h9) rfl d_Table_byteOfWritten_16 ?_
        refine lv_iconst (v := 1) hx hb d_Table_byteOfWritten_19 (by decide) ?_
        refine lv_isub hx hb d_Table_byteOfWritten_20 ?_
        refine lv_topi (fun v_3 ev_3 => ?_)
        refine lv_iload_n hx hb d_Table_byteOfWritten_21 rfl (lv_at hl 0 rfl) ?_
        refine lv_isub hx hb d_Table_byteOfWritten_22 ?_
        refine lv_topi (fun v_4 ev_4 => ?_)
        refine lv_istore (lv' := [(4, .int v_4), (3, .int b4_0), (2, .int b4_1), (0, .ref co), (1, .int fm)]) hx hb d_Table_byteOfWritten_23 hl (by decide) rfl (fun ls hl => ?_)
        refine lv_iconst (v := 2) hx hb d_Table_byteOfWritten_25 (by decide) ?_
        refine lv_iload_n hx hb d_Table_byteOfWritten_26 rfl (lv_at hl 2 rfl) ?_
        refine lv_imul hx hb d_Table_byteOfWritten_27 ?_
        refine lv_topi (fun v_5 ev_5 => ?_)
        refine lv_aload_n hx hb d_Table_byteOfWritten_28 rfl (lv_at hl 3 rfl) ?_
        refine va_get (D := (dC, dI)) (ci := 5) (v := .ref rw) (C := "RangeCoders$Table") (T := T_Table) (N := 10) hx hb hg in_Table hown hK hP 0 rfl rfl 8 (by decide) (hg _ k120) (fun x9 h9 => u_same (hg _ k121) x9 h9) rfl d_Table_byteOfWritten_29 ?_
        refine lv_iload hx hb d_Table_byteOfWritten_32 (lv_at hl 0 rfl) ?_
        refine my_ci (wr := [(co, .inr (5, [.long xx, .long xreadX, .ref soa, .ref sna, .ref swa, .int xkept, .ref ri, .ref ro, .ref rw, .int xasked]))]) (va_runV (As := [.int v_4]) (rest := [.int v_5]) ⟨hx, hb, hml, hown, hts⟩ (c_Row_has l dC dI cI cM cO H.size rw rwn rwa rwk rwf v_4 (by first | assumption | omega)) (cwV 1 hts (my_gV k676 k663 k664 k6 k665) rfl rfl rfl (by decide +kernel) ⟨by rw [hR]; exact Nat.le_of_ble_eq_true rfl, by rw [hR]; exact Nat.le_of_ble_eq_true rfl⟩) (my_preV hK hN (hP.sub [1, 2] rfl) (hD.sub [1, 2] (by decide) rfl) 0 rfl rfl) rfl rfl hl.1 rfl (lv_room (Nat.le_of_ble_eq_true rfl)) d_Table_byteOfWritten_34 ⟨by rw [hR]; exact Nat.le_of_ble_eq_true rfl, by rw [hR]; exact Nat.le_of_ble_eq_true rfl⟩) hP hD hS hA [1, 2] [0] rfl rfl (by decide) (by decide) (fun r_34 u9 H locs hw_34 hP hD hS => ?_)
        have hr_34 : r_34 ≠ 0 → vp_in v_4 rwk := hw_34
        have hP : va_P (dC, dI) vwCl [(co, .inr (5, [.long xx, .long xreadX, .ref soa, .ref sna, .ref swa, .int xkept, .ref ri, .ref ro, .ref rw, .int xasked])), (rw, .inr (0, [.int rwn, .ref rwa])), (rwa, .inl (cI, rwk, .inl rwf))] H := hP
        have hD : va_D A [(co, .inr (5, [.long xx, .long xreadX, .ref soa, .ref sna, .ref swa, .int xkept, .ref ri, .ref ro, .ref rw, .int xasked])), (rw, .inr (0, [.int rwn, .ref rwa])), (rwa, .inl (cI, rwk, .inl rwf))] := hD
        refine lv_if_eq (tgt := 52) hx hb d_Table_byteOfWritten_37 (by decide) (fun c_6 => ?_) (fun c_6 => ?_)
        · refine lv_iconst (v := 0) hx hb d_Table_byteOfWritten_52 (by decide) ?_
          refine lv_iadd hx hb d_Table_byteOfWritten_53 ?_
          refine lv_topi (fun v_7 ev_7 => ?_)
          refine lv_istore_n (lv' := [(2, .int v_7), (4, .int v_4), (3, .int b4_0), (0, .ref co), (1, .int fm)]) hx hb d_Table_byteOfWritten_54 rfl hl (by decide) rfl (fun ls hl => ?_)
          obtain ⟨v_8, ev_8⟩ : ∃ y : Int32, y = b4_0 + (1) := ⟨_, rfl⟩
          refine lv_iinc (v := v_8) (lv' := [(3, .int v_8), (2, .int v_7), (4, .int v_4), (0, .ref co), (1, .int fm)]) hx hb d_Table_byteOfWritten_55 hl (k := 2) rfl (by rw [ev_8]; rfl) (by decide) rfl (fun ls hl => ?_)
          refine lv_goto (tgt := 4) hx hb d_Table_byteOfWritten_58 (by decide) ?_
          exact ih9_4 _ (by first | omega | (have z9 := I_up c_2 ev_8; rw [ev_1] at z9; omega)) v_8 v_7 rfl  H locs ls (hP.sub [0, 1, 2] rfl) (hD.sub [0, 1, 2] (by decide) rfl) hS (lv_sub hl [0, 1, 3, 4] rfl)
        · refine lv_aload_n hx hb d_Table_byteOfWritten_40 rfl (lv_at hl 3 rfl) ?_
          refine va_get (D := (dC, dI)) (ci := 5) (v := .ref rw) (C := "RangeCoders$Table") (T := T_Table) (N := 10) hx hb hg in_Table hown hK hP 0 rfl rfl 8 (by decide) (hg _ k120) (fun x9 h9 => u_same (hg _ k121) x9 h9) rfl d_Table_byteOfWritten_41 ?_
          refine lv_iload hx hb d_Table_byteOfWritten_44 (lv_at hl 0 rfl) ?_
          refine my_ci (wr := [(co, .inr (5, [.long xx, .long xreadX, .ref soa, .ref sna, .ref swa, .int xkept, .ref ri, .ref ro, .ref rw, .int xasked]))]) (va_runV (As := [.int v_4]) (rest := [.int v_5]) ⟨hx, hb, hml, hown, hts⟩ (c_Row_at l dC dI cI cM cO H.size rw rwn rwa rwk rwf v_4 (by first | assumption | omega)) (cwV 1 hts (my_gV k677 k659 k660 k6 k661) rfl rfl rfl (by decide +kernel) ⟨by rw [hR]; exact Nat.le_of_ble_eq_true rfl, by rw [hR]; exact Nat.le_of_ble_eq_true rfl⟩) (my_preV hK hN (hP.sub [1, 2] rfl) (hD.sub [1, 2] (by decide) rfl) 0 rfl rfl) rfl rfl hl.1 rfl (lv_room (Nat.le_of_ble_eq_true rfl)) d_Table_byteOfWritten_46 ⟨by rw [hR]; exact Nat.le_of_ble_eq_true rfl, by rw [hR]; exact Nat.le_of_ble_eq_true rfl⟩) hP hD hS hA [1, 2] [0] rfl rfl (by decide) (by decide) (fun r_46 u9 H locs hw_46 hP hD hS => ?_)
          have hP : va_P (dC, dI) vwCl [(co, .inr (5, [.long xx, .long xreadX, .ref soa, .ref sna, .ref swa, .int xkept, .ref ri, .ref ro, .ref rw, .int xasked])), (rw, .inr (0, [.int rwn, .ref rwa])), (rwa, .inl (cI, rwk, .inl rwf))] H := hP
          have hD : va_D A [(co, .inr (5, [.long xx, .long xreadX, .ref soa, .ref sna, .ref swa, .int xkept, .ref ri, .ref ro, .ref rw, .int xasked])), (rw, .inr (0, [.int rwn, .ref rwa])), (rwa, .inl (cI, rwk, .inl rwf))] := hD
          refine lv_goto (tgt := 53) hx hb d_Table_byteOfWritten_49 (by decide) ?_
          refine lv_iadd hx hb d_Table_byteOfWritten_53 ?_
          refine lv_topi (fun v_9 ev_9 => ?_)
          refine lv_istore_n (lv' := [(2, .int v_9), (4, .int v_4), (3, .int b4_0), (0, .ref co), (1, .int fm)]) hx hb d_Table_byteOfWritten_54 rfl hl (by decide) rfl (fun ls hl => ?_)
          obtain ⟨v_10, ev_10⟩ : ∃ y : Int32, y = b4_0 + (1) := ⟨_, rfl⟩
          refine lv_iinc (v := v_10) (lv' := [(3, .int v_10), (2, .int v_9), (4, .int v_4), (0, .ref co), (1, .int fm)]) hx hb d_Table_byteOfWritten_55 hl (k := 2) rfl (by rw [ev_10]; rfl) (by decide) rfl (fun ls hl => ?_)
          refine lv_goto (tgt := 4) hx hb d_Table_byteOfWritten_58 (by decide) ?_
          exact ih9_4 _ (by first | omega | (have z9 := I_up c_2 ev_10; rw [ev_1] at z9; omega)) v_10 v_9 rfl  H locs ls (hP.sub [0, 1, 2] rfl) (hD.sub [0, 1, 2] (by decide) rfl) hS (lv_sub hl [0, 1, 3, 4] rfl)
  exact J_4 _ fm (0 : Int32) rfl  H locs ls (hP.sub [0, 1, 2] rfl) (hD.sub [0, 1, 2] (by decide) rfl) hS (lv_sub hl [0, 1, 2, 3] rfl)
set_option maxHeartbeats 2000000 in
set_option maxRecDepth 100000 in
theorem c_Table_Table_closeStack (l : Launch) (dC : Nat → ClassId) (dI : Nat → Nat → Nat) (cI cM cO : ClassId) (sz : Nat) (sl : Nat) (co : Nat) (xx : Int64) (xreadX : Int64) (soa : Nat) (sna : Nat) (swa : Nat) (xkept : Int32) (ri : Nat) (ro : Nat) (rw : Nat) (xasked : Int32) (ron : Int32) (roa : Nat) (rok : Nat) (rof : Nat → Int32) (rwn : Int32) (rwa : Nat) (rwk : Nat) (rwf : Nat → Int32) (hro : rOk ron rok) (hrw : rOk rwn rwk) : MetVg l y_Table_closeStack (Cond.code y_Table_closeStack prog_12_method_9_code 2 none :: gw) ({ frames := 4, cells := rPh rok + rPh rwk, slots := rPh rok + rPh rwk, locals := 106 } : Room) (dC, dI) vwCl (kT cI cM cO) [.ref co] [(co, .inr (5, [.long xx, .long xreadX, .ref soa, .ref sna, .ref swa, .int xkept, .ref ri, .ref ro, .ref rw, .int xasked])), (ro, .inr (0, [.int ron, .ref roa])), (roa, .inl (cI, rok, .inl rof)), (rw, .inr (0, [.int rwn, .ref rwa])), (rwa, .inl (cI, rwk, .inl rwf))] sz sl (fun (u : Int32 × Nat × Nat × (Nat → Int32) × Int32 × Nat × Nat × (Nat → Int32)) => rOk u.1 u.2.2.1 ∧ rOk u.2.2.2.2.1 u.2.2.2.2.2.2.1) (fun (u : Int32 × Nat × Nat × (Nat → Int32) × Int32 × Nat × Nat × (Nat → Int32)) => [(co, .inr (5, [.long xx, .long xreadX, .ref soa, .ref sna, .ref swa, .int xkept, .ref ri, .ref ro, .ref rw, .int xasked])), (ro, .inr (0, [.int u.1, .ref u.2.1])), (u.2.1, .inl (cI, u.2.2.1, .inl u.2.2.2.1)), (rw, .inr (0, [.int u.2.2.2.2.1, .ref u.2.2.2.2.2.1])), (u.2.2.2.2.2.1, .inl (cI, u.2.2.2.2.2.2.1, .inl u.2.2.2.2.2.2.2))]) (rPh rok + rPh rwk) (fun (u : Int32 × Nat × Nat × (Nat → Int32) × Int32 × Nat × Nat × (Nat → Int32)) => rPh u.2.2.1 + rPh u.2.2.2.2.2.2.1) := by
  refine my_ofVg (cc := prog_12_method_9_code) (n := 2) (ret := none) (by decide) rfl (Nat.le_of_ble_eq_true rfl) ?_
  intro p e s m args below meth c R Q A ls H locs hx hb hr hts hown hlocks hml hnm hR hQ hA hl hP hK hN hD hS
  have hg : ∀ w ∈ gw, w.before args s = true := fun w h => hts w (List.mem_cons_of_mem _ h)
  have hown : s.vm.findClass "RangeCoders$Table" = some m.cls := hown
  have hl : lv_has ls 2 [(0, .ref co)] := hl
  have hlt_hro := rOk_lt hro
  have hlt_hrw := rOk_lt hrw
  refine lv_aload_n hx hb d_Table_closeStack_0 rfl (lv_at hl 0 rfl) ?_
  refine lv_aload_n hx hb d_Table_closeStack_1 rfl (lv_at hl 0 rfl) ?_
  refine va_get (D := (dC, dI)) (ci := 5) (v := .long xx) (C := "RangeCoders$Table") (T := T_Table) (N := 10) hx hb hg in_Table hown hK hP 0 rfl rfl 0 (by decide) (hg _ k213) (fun x9 h9 => u_same (hg _ k214) x9 h9) rfl d_Table_closeStack_2 ?_
  refine lv_l2i hx hb d_Table_closeStack_5 rfl ?_
  refine lv_topi (fun v_1 ev_1 => ?_)
  refine lv_sipush (v := 512) hx hb d_Table_closeStack_6 (by decide) ?_
  refine lv_isub hx hb d_Table_closeStack_9 ?_
  refine lv_topi (fun v_2 ev_2 => ?_)
  refine lv_bipush (v := 9) hx hb d_Table_closeStack_10 (by decide) ?_
  refine my_cvg (wr := [(ro, .inr (0, [.int ron, .ref roa])), (roa, .inl (cI, rok, .inl rof))]) (va_runV (As := [.int v_2, .int 9]) (rest := []) ⟨hx, hb, hml, hown, hts⟩ (c_Table_Table_stackValue l dC dI cI cM cO H.size (hSl H) co xx xreadX soa sna swa xkept ri ro rw xasked rwn rwa rwk rwf v_2 9 (by first | assumption | omega)) (cwV 2 hts (my_gV k670 k627 k1287 k11 k628) rfl rfl rfl (by decide +kernel) ⟨by rw [hR]; exact Nat.le_of_ble_eq_true rfl, by rw [hR]; exact Nat.le_of_ble_eq_true rfl⟩) (my_preVg hK hN (hP.sub [0, 3, 4] rfl) (hD.sub [0, 3, 4] (by decide) rfl) 0 rfl rfl) rfl rfl hl.1 rfl (lv_room (Nat.le_of_ble_eq_true rfl)) d_Table_closeStack_12 ⟨by rw [hR]; exact (show 0 + (rPh rwk) ≤ (rPh rok + rPh rwk) by omega), by rw [hR]; exact (show 0 + (rPh rwk) ≤ (rPh rok + rPh rwk) by omega)⟩) hP hD hS hA [0, 3, 4] [1, 2] rfl rfl (by decide) (by decide) (fun u9 d_12 H locs hd_12 hw_12 hP hD hS => ?_)
  obtain ⟨rwnq_12, rwaq_12, rwkq_12, rwfq_12⟩ := u9
  have hrw_12 : rOk rwnq_12 rwkq_12 := hw_12
  have hd_12 : d_12 + (rPh rwkq_12) ≤ (rPh rwk) := hd_12
  have hP : va_P (dC, dI) vwCl [(ro, .inr (0, [.int ron, .ref roa])), (roa, .inl (cI, rok, .inl rof)), (co, .inr (5, [.long xx, .long xreadX, .ref soa, .ref sna, .ref swa, .int xkept, .ref ri, .ref ro, .ref rw, .int xasked])), (rw, .inr (0, [.int rwnq_12, .ref rwaq_12])), (rwaq_12, .inl (cI, rwkq_12, .inl rwfq_12))] H := hP
  have hD : va_D A [(ro, .inr (0, [.int ron, .ref roa])), (roa, .inl (cI, rok, .inl rof)), (co, .inr (5, [.long xx, .long xreadX, .ref soa, .ref sna, .ref swa, .int xkept, .ref ri, .ref ro, .ref rw, .int xasked])), (rw, .inr (0, [.int rwnq_12, .ref rwaq_12])), (rwaq_12, .inl (cI, rwkq_12, .inl rwfq_12))] := hD
  refine lv_aload_n hx hb d_Table_closeStack_15 rfl (lv_at hl 0 rfl) ?_
  refine va_get (D := (dC, dI)) (ci := 5) (v := .ref ro) (C := "RangeCoders$Table") (T := T_Table) (N := 10) hx hb hg in_Table hown hK hP 2 rfl rfl 7 (by decide) (hg _ k111) (fun x9 h9 => u_same (hg _ k112) x9 h9) rfl d_Table_closeStack_16 ?_
  refine my_cv (wr := [(co, .inr (5, [.long xx, .long xreadX, .ref soa, .ref sna, .ref swa, .int xkept, .ref ri, .ref ro, .ref rw, .int xasked])), (rw, .inr (0, [.int rwnq_12, .ref rwaq_12])), (rwaq_12, .inl (cI, rwkq_12, .inl rwfq_12))]) (va_runV (As := []) (rest := []) ⟨hx, hb, hml, hown, hts⟩ (c_Row_clear l dC dI cI cM cO H.size ro ron roa rok rof (by first | assumption | omega)) (cwV 0 hts (my_gV k671 k594 k595 k6 k596) rfl rfl rfl (by decide +kernel) ⟨by rw [hR]; exact Nat.le_of_ble_eq_true rfl, by rw [hR]; exact Nat.le_of_ble_eq_true rfl⟩) (my_preV hK hN (hP.sub [0, 1] rfl) (hD.sub [0, 1] (by decide) rfl) 0 rfl rfl) rfl rfl hl.1 rfl (lv_room (Nat.le_of_ble_eq_true rfl)) d_Table_closeStack_19 ⟨by rw [hR]; exact (show (0 + d_12) + 0 ≤ (rPh rok + rPh rwk) by omega), by rw [hR]; exact (show (0 + d_12) + 0 ≤ (rPh rok + rPh rwk) by omega)⟩) hP hD hS hA [0, 1] [2, 3, 4] rfl rfl (by decide) (by decide) (fun u9 H locs hw_19 hP hD hS => ?_)
  have hr_19 : rOk 0 rok := hw_19
  have hP : va_P (dC, dI) vwCl [(co, .inr (5, [.long xx, .long xreadX, .ref soa, .ref sna, .ref swa, .int xkept, .ref ri, .ref ro, .ref rw, .int xasked])), (rw, .inr (0, [.int rwnq_12, .ref rwaq_12])), (rwaq_12, .inl (cI, rwkq_12, .inl rwfq_12)), (ro, .inr (0, [.int 0, .ref roa])), (roa, .inl (cI, rok, .inl rof))] H := hP
  have hD : va_D A [(co, .inr (5, [.long xx, .long xreadX, .ref soa, .ref sna, .ref swa, .int xkept, .ref ri, .ref ro, .ref rw, .int xasked])), (rw, .inr (0, [.int rwnq_12, .ref rwaq_12])), (rwaq_12, .inl (cI, rwkq_12, .inl rwfq_12)), (ro, .inr (0, [.int 0, .ref roa])), (roa, .inl (cI, rok, .inl rof))] := hD
  refine lv_iconst (v := 0) hx hb d_Table_closeStack_22 (by decide) ?_
  refine lv_istore_n (lv' := [(1, .int 0), (0, .ref co)]) hx hb d_Table_closeStack_23 rfl hl (by decide) rfl (fun ls hl => ?_)
  have J_24 : ∀ (n9_24 : Nat) (b24_0 : Int32) (b24_1 : Nat) (b24_2 : Int32) (b24_3 : Nat) (b24_4 : Nat → Int32) (b24_5 : Nat) (hn9_24 : (rwnq_12.toInt - b24_0.toInt).toNat = n9_24) (hi_24 : 0 ≤ b24_0.toInt) (hr1_24 : rOk b24_2 b24_3) (hd_24 : b24_5 + (rPh b24_3 + rPh rwkq_12) ≤ rPh rok + rPh rwk) (H : Heap) (locs : List Loc) (ls : Array Slot), va_P (dC, dI) vwCl [(co, .inr (5, [.long xx, .long xreadX, .ref soa, .ref sna, .ref swa, .int xkept, .ref ri, .ref ro, .ref rw, .int xasked])), (rw, .inr (0, [.int rwnq_12, .ref rwaq_12])), (rwaq_12, .inl (cI, rwkq_12, .inl rwfq_12)), (ro, .inr (0, [.int b24_2, .ref b24_1])), (b24_1, .inl (cI, b24_3, .inl b24_4))] H → va_D A [(co, .inr (5, [.long xx, .long xreadX, .ref soa, .ref sna, .ref swa, .int xkept, .ref ri, .ref ro, .ref rw, .int xasked])), (rw, .inr (0, [.int rwnq_12, .ref rwaq_12])), (rwaq_12, .inl (cI, rwkq_12, .inl rwfq_12)), (ro, .inr (0, [.int b24_2, .ref b24_1])), (b24_1, .inl (cI, b24_3, .inl b24_4))] → va_S A s.heap H locs → lv_has ls 2 [(1, .int b24_0), (0, .ref co)] → W p l e R s m args below meth c H locs b24_5 b24_5 Q (F0 m 24 ls []) := by
    intro n9_24
    induction n9_24 using Nat.strongRecOn with
    | ind n9_24 ih9_24 =>
      intro b24_0 b24_1 b24_2 b24_3 b24_4 b24_5 hn9_24 hi_24 hr1_24 hd_24 H locs ls hP hD hS hl
      refine lv_iload_n hx hb d_Table_closeStack_24 rfl (lv_at hl 0 rfl) ?_
      refine lv_aload_n hx hb d_Table_closeStack_25 rfl (lv_at hl 1 rfl) ?_
      refine va_get (D := (dC, dI)) (ci := 5) (v := .ref rw) (C := "RangeCoders$Table") (T := T_Table) (N := 10) hx hb hg in_Table hown hK hP 0 rfl rfl 8 (by decide) (hg _ k120) (fun x9 h9 => u_same (hg _ k121) x9 h9) rfl d_Table_closeStack_26 ?_
      refine va_get (D := (dC, dI)) (ci := 0) (v := .int rwnq_12) (C := "RangeCoders$Row") (T := T_Row) (N := 2) hx hb hg in_Row hown hK hP 1 rfl rfl 0 (by decide) (hg _ k59) (fun _ h9 => h9) rfl d_Table_closeStack_29 ?_
      refine lv_icmp_ge (tgt := 53) hx hb d_Table_closeStack_32 (by decide) (fun c_3 => ?_) (fun c_3 => ?_)
      · exact my_vretg hx hb hr hlocks hQ hK hS (b24_2, b24_1, b24_3, b24_4, rwnq_12, rwaq_12, rwkq_12, rwfq_12) (show b24_5 + (rPh b24_3 + rPh rwkq_12) ≤ (rPh rok + rPh rwk) by omega) (show b24_5 + (rPh b24_3 + rPh rwkq_12) ≤ (rPh rok + rPh rwk) by omega) (⟨by first | assumption | (subst_vars; assumption), by first | assumption | (subst_vars; assumption)⟩) (hP.sub [0, 3, 4, 1, 2] rfl) (hD.sub [0, 3, 4, 1, 2] (by decide) rfl) d_Table_closeStack_53
      · refine lv_aload_n hx hb d_Table_closeStack_35 rfl (lv_at hl 1 rfl) ?_
        refine va_get (D := (dC, dI)) (ci := 5) (v := .ref ro) (C := "RangeCoders$Table") (T := T_Table) (N := 10) hx hb hg in_Table hown hK hP 0 rfl rfl 7 (by decide) (hg _ k111) (fun x9 h9 => u_same (hg _ k112) x9 h9) rfl d_Table_closeStack_36 ?_
        refine lv_aload_n hx hb d_Table_closeStack_39 rfl (lv_at hl 1 rfl) ?_
        refine lv_iload_n hx hb d_Table_closeStack_40 rfl (lv_at hl 0 rfl) ?_
        refine my_ci (wr := [(ro, .inr (0, [.int b24_2, .ref b24_1])), (b24_1, .inl (cI, b24_3, .inl b24_4))]) (va_runV (As := [.int b24_0]) (rest := [.ref ro]) ⟨hx, hb, hml, hown, hts⟩ (c_Table_Table_byteOfWritten l dC dI cI cM cO H.size co xx xreadX soa sna swa xkept ri ro rw xasked rwnq_12 rwaq_12 rwkq_12 rwfq_12 b24_0 (by first | assumption | omega)) (cwV 1 hts (my_gV k672 k674 ks11 k11 k675) rfl rfl rfl (by decide +kernel) ⟨by rw [hR]; exact Nat.le_of_ble_eq_true rfl, by rw [hR]; exact Nat.le_of_ble_eq_true rfl⟩) (my_preV hK hN (hP.sub [0, 1, 2] rfl) (hD.sub [0, 1, 2] (by decide) rfl) 0 rfl rfl) rfl rfl hl.1 rfl (lv_room (Nat.le_of_ble_eq_true rfl)) d_Table_closeStack_41 ⟨by rw [hR]; exact (show b24_5 + 0 ≤ (rPh rok + rPh rwk) by omega), by rw [hR]; exact (show b24_5 + 0 ≤ (rPh rok + rPh rwk) by omega)⟩) hP hD hS hA [0, 1, 2] [3, 4] rfl rfl (by decide) (by decide) (fun r_41 u9 H locs hw_41 hP hD hS => ?_)
        have hP : va_P (dC, dI) vwCl [(ro, .inr (0, [.int b24_2, .ref b24_1])), (b24_1, .inl (cI, b24_3, .inl b24_4)), (co, .inr (5, [.long xx, .long xreadX, .ref soa, .ref sna, .ref swa, .int xkept, .ref ri, .ref ro, .ref rw, .int xasked])), (rw, .inr (0, [.int rwnq_12, .ref rwaq_12])), (rwaq_12, .inl (cI, rwkq_12, .inl rwfq_12))] H := hP
        have hD : va_D A [(ro, .inr (0, [.int b24_2, .ref b24_1])), (b24_1, .inl (cI, b24_3, .inl b24_4)), (co, .inr (5, [.long xx, .long xreadX, .ref soa, .ref sna, .ref swa, .int xkept, .ref ri, .ref ro, .ref rw, .int xasked])), (rw, .inr (0, [.int rwnq_12, .ref rwaq_12])), (rwaq_12, .inl (cI, rwkq_12, .inl rwfq_12))] := hD
        refine my_cvg (wr := [(co, .inr (5, [.long xx, .long xreadX, .ref soa, .ref sna, .ref swa, .int xkept, .ref ri, .ref ro, .ref rw, .int xasked])), (rw, .inr (0, [.int rwnq_12, .ref rwaq_12])), (rwaq_12, .inl (cI, rwkq_12, .inl rwfq_12))]) (va_runV (As := [.int r_41]) (rest := []) ⟨hx, hb, hml, hown, hts⟩ (c_Row_add l dC dI cI cM cO H.size (hSl H) ro b24_2 b24_1 b24_3 b24_4 r_41 (by first | assumption | omega)) (cwV 1 hts (my_gV k629 k473 k474 k6 k475) rfl rfl rfl (by decide +kernel) ⟨by rw [hR]; exact Nat.le_of_ble_eq_true rfl, by rw [hR]; exact Nat.le_of_ble_eq_true rfl⟩) (my_preVg hK hN (hP.sub [0, 1] rfl) (hD.sub [0, 1] (by decide) rfl) 0 rfl rfl) rfl rfl hl.1 rfl (lv_room (Nat.le_of_ble_eq_true rfl)) d_Table_closeStack_44 ⟨by rw [hR]; exact (show b24_5 + (rPh b24_3) ≤ (rPh rok + rPh rwk) by omega), by rw [hR]; exact (show b24_5 + (rPh b24_3) ≤ (rPh rok + rPh rwk) by omega)⟩) hP hD hS hA [0, 1] [2, 3, 4] rfl rfl (by decide) (by decide) (fun u9 d_44 H locs hd_44 hw_44 hP hD hS => ?_)
        obtain ⟨rrnq_44, rraq_44, rrkq_44, rrfq_44⟩ := u9
        have hrr_44 : rOk rrnq_44 rrkq_44 := hw_44
        have hd_44 : d_44 + (rPh rrkq_44) ≤ (rPh b24_3) := hd_44
        have hP : va_P (dC, dI) vwCl [(co, .inr (5, [.long xx, .long xreadX, .ref soa, .ref sna, .ref swa, .int xkept, .ref ri, .ref ro, .ref rw, .int xasked])), (rw, .inr (0, [.int rwnq_12, .ref rwaq_12])), (rwaq_12, .inl (cI, rwkq_12, .inl rwfq_12)), (ro, .inr (0, [.int rrnq_44, .ref rraq_44])), (rraq_44, .inl (cI, rrkq_44, .inl rrfq_44))] H := hP
        have hD : va_D A [(co, .inr (5, [.long xx, .long xreadX, .ref soa, .ref sna, .ref swa, .int xkept, .ref ri, .ref ro, .ref rw, .int xasked])), (rw, .inr (0, [.int rwnq_12, .ref rwaq_12])), (rwaq_12, .inl (cI, rwkq_12, .inl rwfq_12)), (ro, .inr (0, [.int rrnq_44, .ref rraq_44])), (rraq_44, .inl (cI, rrkq_44, .inl rrfq_44))] := hD
        obtain ⟨v_4, ev_4⟩ : ∃ y : Int32, y = b24_0 + (8) := ⟨_, rfl⟩
        refine lv_iinc (v := v_4) (lv' := [(1, .int v_4), (0, .ref co)]) hx hb d_Table_closeStack_47 hl (k := 0) rfl (by rw [ev_4]; rfl) (by decide) rfl (fun ls hl => ?_)
        refine lv_goto (tgt := 24) hx hb d_Table_closeStack_50 (by decide) ?_
        exact ih9_24 _ (by first | omega | (have z9 := I_up8 (rOk_le (by assumption)) (by assumption) c_3 ev_4; omega)) v_4 rraq_44 rrnq_44 rrkq_44 rrfq_44 (b24_5 + d_44) rfl (by have z9 := I_up8 (rOk_le (by assumption)) (by assumption) c_3 ev_4; omega) (by assumption) (by omega) H locs ls (hP.sub [0, 1, 2, 3, 4] rfl) (hD.sub [0, 1, 2, 3, 4] (by decide) rfl) hS (lv_sub hl [0, 1] rfl)
  exact J_24 _ (0 : Int32) roa (0 : Int32) rok rof (0 + d_12) rfl (by first | decide | assumption | omega) (by assumption) (by omega) H locs ls (hP.sub [0, 1, 2, 3, 4] rfl) (hD.sub [0, 1, 2, 3, 4] (by decide) rfl) hS (lv_sub hl [0, 1] rfl)
set_option maxHeartbeats 2000000 in
set_option maxRecDepth 100000 in
theorem c_Table_Table_nextInBit (l : Launch) (dC : Nat → ClassId) (dI : Nat → Nat → Nat) (cI cM cO : ClassId) (sz : Nat) (co : Nat) (xx : Int64) (xreadX : Int64) (soa : Nat) (sna : Nat) (swa : Nat) (xkept : Int32) (ri : Nat) (ro : Nat) (rw : Nat) (xasked : Int32) (rin : Int32) (ria : Nat) (rik : Nat) (rif : Nat → Int32) (hri : rOk rin rik) : MetI l y_Table_nextInBit (Cond.code y_Table_nextInBit prog_12_method_14_code 3 (some .int) :: gw) ({ frames := 2, cells := 0, slots := 0, locals := 42 } : Room) (dC, dI) vwCl (kT cI cM cO) [.ref co] [(co, .inr (5, [.long xx, .long xreadX, .ref soa, .ref sna, .ref swa, .int xkept, .ref ri, .ref ro, .ref rw, .int xasked])), (ri, .inr (0, [.int rin, .ref ria])), (ria, .inl (cI, rik, .inl rif))] sz (fun (r : Int32) (u : Int32) => True) (fun (u : Int32) => [(co, .inr (5, [.long xx, .long xreadX, .ref soa, .ref sna, .ref swa, .int xkept, .ref ri, .ref ro, .ref rw, .int u])), (ri, .inr (0, [.int rin, .ref ria])), (ria, .inl (cI, rik, .inl rif))]) 0 0 := by
  refine my_ofI (cc := prog_12_method_14_code) (n := 3) (ret := (some .int)) (by decide) rfl (Nat.le_of_ble_eq_true rfl) ?_
  intro p e s m args below meth c R Q A ls H locs hx hb hr hts hown hlocks hml hnm hR hQ hA hl hP hK hN hD hS
  have hg : ∀ w ∈ gw, w.before args s = true := fun w h => hts w (List.mem_cons_of_mem _ h)
  have hown : s.vm.findClass "RangeCoders$Table" = some m.cls := hown
  have hl : lv_has ls 3 [(0, .ref co)] := hl
  have hlt_hri := rOk_lt hri
  refine lv_aload_n hx hb d_Table_nextInBit_0 rfl (lv_at hl 0 rfl) ?_
  refine va_get (D := (dC, dI)) (ci := 5) (v := .int xasked) (C := "RangeCoders$Table") (T := T_Table) (N := 10) hx hb hg in_Table hown hK hP 0 rfl rfl 9 (by decide) (hg _ k126) (fun x9 h9 => u_same (hg _ k127) x9 h9) rfl d_Table_nextInBit_1 ?_
  refine lv_bipush (v := 8) hx hb d_Table_nextInBit_4 (by decide) ?_
  refine lv_idiv hx hb d_Table_nextInBit_6 (by first | decide | exact I_nzp (by assumption) | exact I_nz (by assumption)) ?_
  refine lv_topi (fun v_1 ev_1 => ?_)
  refine lv_istore_n (lv' := [(1, .int v_1), (0, .ref co)]) hx hb d_Table_nextInBit_7 rfl hl (by decide) rfl (fun ls hl => ?_)
  refine lv_aload_n hx hb d_Table_nextInBit_8 rfl (lv_at hl 1 rfl) ?_
  refine va_get (D := (dC, dI)) (ci := 5) (v := .ref ri) (C := "RangeCoders$Table") (T := T_Table) (N := 10) hx hb hg in_Table hown hK hP 0 rfl rfl 6 (by decide) (hg _ k103) (fun x9 h9 => u_same (hg _ k104) x9 h9) rfl d_Table_nextInBit_9 ?_
  refine lv_iload_n hx hb d_Table_nextInBit_12 rfl (lv_at hl 0 rfl) ?_
  refine my_ci (wr := [(co, .inr (5, [.long xx, .long xreadX, .ref soa, .ref sna, .ref swa, .int xkept, .ref ri, .ref ro, .ref rw, .int xasked]))]) (va_runV (As := [.int v_1]) (rest := []) ⟨hx, hb, hml, hown, hts⟩ (c_Row_has l dC dI cI cM cO H.size ri rin ria rik rif v_1 (by first | assumption | omega)) (cwV 1 hts (my_gV k676 k663 k664 k6 k665) rfl rfl rfl (by decide +kernel) ⟨by rw [hR]; exact Nat.le_of_ble_eq_true rfl, by rw [hR]; exact Nat.le_of_ble_eq_true rfl⟩) (my_preV hK hN (hP.sub [1, 2] rfl) (hD.sub [1, 2] (by decide) rfl) 0 rfl rfl) rfl rfl hl.1 rfl (lv_room (Nat.le_of_ble_eq_true rfl)) d_Table_nextInBit_13 ⟨by rw [hR]; exact Nat.le_of_ble_eq_true rfl, by rw [hR]; exact Nat.le_of_ble_eq_true rfl⟩) hP hD hS hA [1, 2] [0] rfl rfl (by decide) (by decide) (fun r_13 u9 H locs hw_13 hP hD hS => ?_)
  have hr_13 : r_13 ≠ 0 → vp_in v_1 rik := hw_13
  have hP : va_P (dC, dI) vwCl [(co, .inr (5, [.long xx, .long xreadX, .ref soa, .ref sna, .ref swa, .int xkept, .ref ri, .ref ro, .ref rw, .int xasked])), (ri, .inr (0, [.int rin, .ref ria])), (ria, .inl (cI, rik, .inl rif))] H := hP
  have hD : va_D A [(co, .inr (5, [.long xx, .long xreadX, .ref soa, .ref sna, .ref swa, .int xkept, .ref ri, .ref ro, .ref rw, .int xasked])), (ri, .inr (0, [.int rin, .ref ria])), (ria, .inl (cI, rik, .inl rif))] := hD
  refine lv_if_eq (tgt := 43) hx hb d_Table_nextInBit_16 (by decide) (fun c_2 => ?_) (fun c_2 => ?_)
  · refine lv_iconst (v := 0) hx hb d_Table_nextInBit_43 (by decide) ?_
    refine lv_istore_n (lv' := [(2, .int 0), (1, .int v_1), (0, .ref co)]) hx hb d_Table_nextInBit_44 rfl hl (by decide) rfl (fun ls hl => ?_)
    refine lv_aload_n hx hb d_Table_nextInBit_45 rfl (lv_at hl 2 rfl) ?_
    refine lv_dup hx hb d_Table_nextInBit_46 rfl ?_
    refine va_get (D := (dC, dI)) (ci := 5) (v := .int xasked) (C := "RangeCoders$Table") (T := T_Table) (N := 10) hx hb hg in_Table hown hK hP 0 rfl rfl 9 (by decide) (hg _ k126) (fun x9 h9 => u_same (hg _ k127) x9 h9) rfl d_Table_nextInBit_47 ?_
    refine lv_iconst (v := 1) hx hb d_Table_nextInBit_50 (by decide) ?_
    refine lv_iadd hx hb d_Table_nextInBit_51 ?_
    refine lv_topi (fun v_3 ev_3 => ?_)
    refine va_put (D := (dC, dI)) (ci := 5) (v := .int v_3) (ty := .int) (C := "RangeCoders$Table") (T := T_Table) (N := 10) hx hb hg in_Table t_Table o_Table n_Table hown hK hP hD hS 0 rfl rfl 9 (by decide) (hg _ k126) (fun x9 h9 => u_same (hg _ k127) x9 h9) rfl (by decide +kernel) rfl rfl (Nat.le_of_ble_eq_true rfl) d_Table_nextInBit_52 (fun H locs hP hD hS => ?_)
    have hP : va_P (dC, dI) vwCl [(co, .inr (5, [.long xx, .long xreadX, .ref soa, .ref sna, .ref swa, .int xkept, .ref ri, .ref ro, .ref rw, .int v_3])), (ri, .inr (0, [.int rin, .ref ria])), (ria, .inl (cI, rik, .inl rif))] H := hP
    have hD : va_D A [(co, .inr (5, [.long xx, .long xreadX, .ref soa, .ref sna, .ref swa, .int xkept, .ref ri, .ref ro, .ref rw, .int v_3])), (ri, .inr (0, [.int rin, .ref ria])), (ria, .inl (cI, rik, .inl rif))] := hD
    refine lv_iload_n hx hb d_Table_nextInBit_55 rfl (lv_at hl 0 rfl) ?_
    exact my_iret (v := 0) hx hb hr (rfl) hlocks hQ hK hS (Nat.le_refl _) (Nat.le_refl _) (v_3) (trivial) (hP.sub [0, 1, 2] rfl) (hD.sub [0, 1, 2] (by decide) rfl) d_Table_nextInBit_56
  · refine lv_aload_n hx hb d_Table_nextInBit_19 rfl (lv_at hl 1 rfl) ?_
    refine va_get (D := (dC, dI)) (ci := 5) (v := .ref ri) (C := "RangeCoders$Table") (T := T_Table) (N := 10) hx hb hg in_Table hown hK hP 0 rfl rfl 6 (by decide) (hg _ k103) (fun x9 h9 => u_same (hg _ k104) x9 h9) rfl d_Table_nextInBit_20 ?_
    refine lv_iload_n hx hb d_Table_nextInBit_23 rfl (lv_at hl 0 rfl) ?_
    refine my_ci (wr := [(co, .inr (5, [.long xx, .long xreadX, .ref soa, .ref sna, .ref swa, .int xkept, .ref ri, .ref ro, .ref rw, .int xasked]))]) (va_runV (As := [.int v_1]) (rest := []) ⟨hx, hb, hml, hown, hts⟩ (c_Row_at l dC dI cI cM cO H.size ri rin ria rik rif v_1 (by first | assumption | omega)) (cwV 1 hts (my_gV k677 k659 k660 k6 k661) rfl rfl rfl (by decide +kernel) ⟨by rw [hR]; exact Nat.le_of_ble_eq_true rfl, by rw [hR]; exact Nat.le_of_ble_eq_true rfl⟩) (my_preV hK hN (hP.sub [1, 2] rfl) (hD.sub [1, 2] (by decide) rfl) 0 rfl rfl) rfl rfl hl.1 rfl (lv_room (Nat.le_of_ble_eq_true rfl)) d_Table_nextInBit_24 ⟨by rw [hR]; exact Nat.le_of_ble_eq_true rfl, by rw [hR]; exact Nat.le_of_ble_eq_true rfl⟩) hP hD hS hA [1, 2] [0] rfl rfl (by decide) (by decide) (fun r_24 u9 H locs hw_24 hP hD hS => ?_)
    have hP : va_P (dC, dI) vwCl [(co, .inr (5, [.long xx, .long xreadX, .ref soa, .ref sna, .ref swa, .int xkept, .ref ri, .ref ro, .ref rw, .int xasked])), (ri, .inr (0, [.int rin, .ref ria])), (ria, .inl (cI, rik, .inl rif))] H := hP
    have hD : va_D A [(co, .inr (5, [.long xx, .long xreadX, .ref soa, .ref sna, .ref swa, .int xkept, .ref ri, .ref ro, .ref rw, .int xasked])), (ri, .inr (0, [.int rin, .ref ria])), (ria, .inl (cI, rik, .inl rif))] := hD
    refine lv_bipush (v := 7) hx hb d_Table_nextInBit_27 (by decide) ?_
    refine lv_aload_n hx hb d_Table_nextInBit_29 rfl (lv_at hl 1 rfl) ?_
    refine va_get (D := (dC, dI)) (ci := 5) (v := .int xasked) (C := "RangeCoders$Table") (T := T_Table) (N := 10) hx hb hg in_Table hown hK hP 0 rfl rfl 9 (by decide) (hg _ k126) (fun x9 h9 => u_same (hg _ k127) x9 h9) rfl d_Table_nextInBit_30 ?_
    refine lv_bipush (v := 8) hx hb d_Table_nextInBit_33 (by decide) ?_
    refine lv_irem hx hb d_Table_nextInBit_35 (by first | decide | exact I_nzp (by assumption) | exact I_nz (by assumption)) ?_
    refine lv_topi (fun v_4 ev_4 => ?_)
    refine lv_isub hx hb d_Table_nextInBit_36 ?_
    refine lv_topi (fun v_5 ev_5 => ?_)
    refine lv_iushr hx hb d_Table_nextInBit_37 rfl ?_
    refine lv_topi (fun v_6 ev_6 => ?_)
    refine lv_iconst (v := 1) hx hb d_Table_nextInBit_38 (by decide) ?_
    refine lv_iand hx hb d_Table_nextInBit_39 ?_
    refine lv_topi (fun v_7 ev_7 => ?_)
    refine lv_goto (tgt := 44) hx hb d_Table_nextInBit_40 (by decide) ?_
    refine lv_istore_n (lv' := [(2, .int v_7), (1, .int v_1), (0, .ref co)]) hx hb d_Table_nextInBit_44 rfl hl (by decide) rfl (fun ls hl => ?_)
    refine lv_aload_n hx hb d_Table_nextInBit_45 rfl (lv_at hl 2 rfl) ?_
    refine lv_dup hx hb d_Table_nextInBit_46 rfl ?_
    refine va_get (D := (dC, dI)) (ci := 5) (v := .int xasked) (C := "RangeCoders$Table") (T := T_Table) (N := 10) hx hb hg in_Table hown hK hP 0 rfl rfl 9 (by decide) (hg _ k126) (fun x9 h9 => u_same (hg _ k127) x9 h9) rfl d_Table_nextInBit_47 ?_
    refine lv_iconst (v := 1) hx hb d_Table_nextInBit_50 (by decide) ?_
    refine lv_iadd hx hb d_Table_nextInBit_51 ?_
    refine lv_topi (fun v_8 ev_8 => ?_)
    refine va_put (D := (dC, dI)) (ci := 5) (v := .int v_8) (ty := .int) (C := "RangeCoders$Table") (T := T_Table) (N := 10) hx hb hg in_Table t_Table o_Table n_Table hown hK hP hD hS 0 rfl rfl 9 (by decide) (hg _ k126) (fun x9 h9 => u_same (hg _ k127) x9 h9) rfl (by decide +kernel) rfl rfl (Nat.le_of_ble_eq_true rfl) d_Table_nextInBit_52 (fun H locs hP hD hS => ?_)
    have hP : va_P (dC, dI) vwCl [(co, .inr (5, [.long xx, .long xreadX, .ref soa, .ref sna, .ref swa, .int xkept, .ref ri, .ref ro, .ref rw, .int v_8])), (ri, .inr (0, [.int rin, .ref ria])), (ria, .inl (cI, rik, .inl rif))] H := hP
    have hD : va_D A [(co, .inr (5, [.long xx, .long xreadX, .ref soa, .ref sna, .ref swa, .int xkept, .ref ri, .ref ro, .ref rw, .int v_8])), (ri, .inr (0, [.int rin, .ref ria])), (ria, .inl (cI, rik, .inl rif))] := hD
    refine lv_iload_n hx hb d_Table_nextInBit_55 rfl (lv_at hl 0 rfl) ?_
    exact my_iret (v := v_7) hx hb hr (rfl) hlocks hQ hK hS (Nat.le_refl _) (Nat.le_refl _) (v_8) (trivial) (hP.sub [0, 1, 2] rfl) (hD.sub [0, 1, 2] (by decide) rfl) d_Table_nextInBit_56
set_option maxHeartbeats 2000000 in
set_option maxRecDepth 100000 in
theorem c_Table_Table_nextValue (l : Launch) (dC : Nat → ClassId) (dI : Nat → Nat → Nat) (cI cM cO : ClassId) (sz : Nat) (co : Nat) (xx : Int64) (xreadX : Int64) (soa : Nat) (sna : Nat) (swa : Nat) (xkept : Int32) (ri : Nat) (ro : Nat) (rw : Nat) (xasked : Int32) (rin : Int32) (ria : Nat) (rik : Nat) (rif : Nat → Int32) (wd : Int32) (hri : rOk rin rik) : MetI l y_Table_nextValue (Cond.code y_Table_nextValue prog_12_method_12_code 4 (some .int) :: gw) ({ frames := 3, cells := 0, slots := 0, locals := 64 } : Room) (dC, dI) vwCl (kT cI cM cO) [.ref co, .int wd] [(co, .inr (5, [.long xx, .long xreadX, .ref soa, .ref sna, .ref swa, .int xkept, .ref ri, .ref ro, .ref rw, .int xasked])), (ri, .inr (0, [.int rin, .ref ria])), (ria, .inl (cI, rik, .inl rif))] sz (fun (r : Int32) (u : Int32) => True) (fun (u : Int32) => [(co, .inr (5, [.long xx, .long xreadX, .ref soa, .ref sna, .ref swa, .int xkept, .ref ri, .ref ro, .ref rw, .int u])), (ri, .inr (0, [.int rin, .ref ria])), (ria, .inl (cI, rik, .inl rif))]) 0 0 := by
  refine my_ofI (cc := prog_12_method_12_code) (n := 4) (ret := (some .int)) (by decide) rfl (Nat.le_of_ble_eq_true rfl) ?_
  intro p e s m args below meth c R Q A ls H locs hx hb hr hts hown hlocks hml hnm hR hQ hA hl hP hK hN hD hS
  have hg : ∀ w ∈ gw, w.before args s = true := fun w h => hts w (List.mem_cons_of_mem _ h)
  have hown : s.vm.findClass "RangeCoders$Table" = some m.cls := hown
  have hl : lv_has ls 4 [(0, .ref co), (1, .int wd)] := hl
  have hlt_hri := rOk_lt hri
  refine lv_iconst (v := 0) hx hb d_Table_nextValue_0 (by decide) ?_
  refine lv_istore_n (lv' := [(2, .int 0), (0, .ref co), (1, .int wd)]) hx hb d_Table_nextValue_1 rfl hl (by decide) rfl (fun ls hl => ?_)
  refine lv_iconst (v := 0) hx hb d_Table_nextValue_2 (by decide) ?_
  refine lv_istore_n (lv' := [(3, .int 0), (2, .int 0), (0, .ref co), (1, .int wd)]) hx hb d_Table_nextValue_3 rfl hl (by decide) rfl (fun ls hl => ?_)
  have J_4 : ∀ (n9_4 : Nat) (b4_0 : Int32) (b4_1 : Int32) (b4_2 : Int32) (hn9_4 : (wd.toInt - b4_0.toInt).toNat = n9_4) (hi_4 : 0 ≤ b4_0.toInt) (H : Heap) (locs : List Loc) (ls : Array Slot), va_P (dC, dI) vwCl [(co, .inr (5, [.long xx, .long xreadX, .ref soa, .ref sna, .ref swa, .int xkept, .ref ri, .ref ro, .ref rw, .int b4_2])), (ri, .inr (0, [.int rin, .ref ria])), (ria, .inl (cI, rik, .inl rif))] H → va_D A [(co, .inr (5, [.long xx, .long xreadX, .ref soa, .ref sna, .ref swa, .int xkept, .ref ri, .ref ro, .ref rw, .int b4_2])), (ri, .inr (0, [.int rin, .ref ria])), (ria, .inl (cI, rik, .inl rif))] → va_S A s.heap H locs → lv_has ls 4 [(3, .int b4_0), (2, .int b4_1), (0, .ref co), (1, .int wd)] → W p l e R s m args below meth c H locs 0 0 Q (F0 m 4 ls []) := by
    intro n9_4
    induction n9_4 using Nat.strongRecOn with
    | ind n9_4 ih9_4 =>
      intro b4_0 b4_1 b4_2 hn9_4 hi_4 H locs ls hP hD hS hl
      refine lv_iload_n hx hb d_Table_nextValue_4 rfl (lv_at hl 0 rfl) ?_
      refine lv_iload_n hx hb d_Table_nextValue_5 rfl (lv_at hl 3 rfl) ?_
      refine lv_icmp_ge (tgt := 24) hx hb d_Table_nextValue_6 (by decide) (fun c_1 => ?_) (fun c_1 => ?_)
      · refine lv_iload_n hx hb d_Table_nextValue_24 rfl (lv_at hl 1 rfl) ?_
        exact my_iret (v := b4_1) hx hb hr (rfl) hlocks hQ hK hS (Nat.le_refl _) (Nat.le_refl _) (b4_2) (trivial) (hP.sub [0, 1, 2] rfl) (hD.sub [0, 1, 2] (by decide) rfl) d_Table_nextValue_25
      · refine lv_iconst (v := 2) hx hb d_Table_nextValue_9 (by decide) ?_
        refine lv_iload_n hx hb d_Table_nextValue_10 rfl (lv_at hl 1 rfl) ?_
        refine lv_imul hx hb d_Table_nextValue_11 ?_
        refine lv_topi (fun v_2 ev_2 => ?_)
        refine lv_aload_n hx hb d_Table_nextValue_12 rfl (lv_at hl 2 rfl) ?_
        refine my_ci (wr := []) (va_runV (As := []) (rest := [.int v_2]) ⟨hx, hb, hml, hown, hts⟩ (c_Table_Table_nextInBit l dC dI cI cM cO H.size co xx xreadX soa sna swa xkept ri ro rw b4_2 rin ria rik rif (by first | assumption | omega)) (cwV 0 hts (my_gV k767 k769 ks12 k11 k770) rfl rfl rfl (by decide +kernel) ⟨by rw [hR]; exact Nat.le_of_ble_eq_true rfl, by rw [hR]; exact Nat.le_of_ble_eq_true rfl⟩) (my_preV hK hN (hP.sub [0, 1, 2] rfl) (hD.sub [0, 1, 2] (by decide) rfl) 0 rfl rfl) rfl rfl hl.1 rfl (lv_room (Nat.le_of_ble_eq_true rfl)) d_Table_nextValue_13 ⟨by rw [hR]; exact Nat.le_of_ble_eq_true rfl, by rw [hR]; exact Nat.le_of_ble_eq_true rfl⟩) hP hD hS hA [0, 1, 2] [] rfl rfl (by decide) (by decide) (fun r_13 u9 H locs hw_13 hP hD hS => ?_)
        obtain ⟨xaskedq_13, rfl⟩ : ∃ z, z = u9 := ⟨_, rfl⟩
        have hP : va_P (dC, dI) vwCl [(co, .inr (5, [.long xx, .long xreadX, .ref soa, .ref sna, .ref swa, .int xkept, .ref ri, .ref ro, .ref rw, .int xaskedq_13])), (ri, .inr (0, [.int rin, .ref ria])), (ria, .inl (cI, rik, .inl rif))] H := hP
        have hD : va_D A [(co, .inr (5, [.long xx, .long xreadX, .ref soa, .ref sna, .ref swa, .int xkept, .ref ri, .ref ro, .ref rw, .int xaskedq_13])), (ri, .inr (0, [.int rin, .ref ria])), (ria, .inl (cI, rik, .inl rif))] := hD
        refine lv_iadd hx hb d_Table_nextValue_16 ?_
        refine lv_topi (fun v_3 ev_3 => ?_)
        refine lv_istore_n (lv' := [(2, .int v_3), (3, .int b4_0), (0, .ref co), (1, .int wd)]) hx hb d_Table_nextValue_17 rfl hl (by decide) rfl (fun ls hl => ?_)
        obtain ⟨v_4, ev_4⟩ : ∃ y : Int32, y = b4_0 + (1) := ⟨_, rfl⟩
        refine lv_iinc (v := v_4) (lv' := [(3, .int v_4), (2, .int v_3), (0, .ref co), (1, .int wd)]) hx hb d_Table_nextValue_18 hl (k := 1) rfl (by rw [ev_4]; rfl) (by decide) rfl (fun ls hl => ?_)
        refine lv_goto (tgt := 4) hx hb d_Table_nextValue_21 (by decide) ?_
        exact ih9_4 _ (by first | omega | (have z9 := I_up c_1 ev_4; omega)) v_4 v_3 xaskedq_13 rfl (by have z9 := I_up c_1 ev_4; omega) H locs ls (hP.sub [0, 1, 2] rfl) (hD.sub [0, 1, 2] (by decide) rfl) hS (lv_sub hl [0, 1, 2, 3] rfl)
  exact J_4 _ (0 : Int32) (0 : Int32) xasked rfl (by first | decide | assumption | omega) H locs ls (hP.sub [0, 1, 2] rfl) (hD.sub [0, 1, 2] (by decide) rfl) hS (lv_sub hl [0, 1, 2, 3] rfl)
set_option maxHeartbeats 2000000 in
set_option maxRecDepth 100000 in
theorem c_Table_Table_openReading (l : Launch) (dC : Nat → ClassId) (dI : Nat → Nat → Nat) (cI cM cO : ClassId) (sz : Nat) (co : Nat) (xx : Int64) (xreadX : Int64) (soa : Nat) (sna : Nat) (swa : Nat) (xkept : Int32) (ri : Nat) (ro : Nat) (rw : Nat) (xasked : Int32) (rin : Int32) (ria : Nat) (rik : Nat) (rif : Nat → Int32) (hri : rOk rin rik) : MetI l y_Table_openReading (Cond.code y_Table_openReading prog_12_method_10_code 1 (some .boolean) :: gw) ({ frames := 4, cells := 0, slots := 0, locals := 87 } : Room) (dC, dI) vwCl (kT cI cM cO) [.ref co] [(co, .inr (5, [.long xx, .long xreadX, .ref soa, .ref sna, .ref swa, .int xkept, .ref ri, .ref ro, .ref rw, .int xasked])), (ri, .inr (0, [.int rin, .ref ria])), (ria, .inl (cI, rik, .inl rif))] sz (fun (r : Int32) (u : Int64 × Int32) => True) (fun (u : Int64 × Int32) => [(co, .inr (5, [.long xx, .long u.1, .ref soa, .ref sna, .ref swa, .int xkept, .ref ri, .ref ro, .ref rw, .int u.2])), (ri, .inr (0, [.int rin, .ref ria])), (ria, .inl (cI, rik, .inl rif))]) 0 0 := by
  refine my_ofI (cc := prog_12_method_10_code) (n := 1) (ret := (some .boolean)) (by decide) rfl (Nat.le_of_ble_eq_true rfl) ?_
  intro p e s m args below meth c R Q A ls H locs hx hb hr hts hown hlocks hml hnm hR hQ hA hl hP hK hN hD hS
  have hg : ∀ w ∈ gw, w.before args s = true := fun w h => hts w (List.mem_cons_of_mem _ h)
  have hown : s.vm.findClass "RangeCoders$Table" = some m.cls := hown
  have hl : lv_has ls 1 [(0, .ref co)] := hl
  have hlt_hri := rOk_lt hri
  refine lv_aload_n hx hb d_Table_openReading_0 rfl (lv_at hl 0 rfl) ?_
  refine lv_iconst (v := 0) hx hb d_Table_openReading_1 (by decide) ?_
  refine va_put (D := (dC, dI)) (ci := 5) (v := .int 0) (ty := .int) (C := "RangeCoders$Table") (T := T_Table) (N := 10) hx hb hg in_Table t_Table o_Table n_Table hown hK hP hD hS 0 rfl rfl 9 (by decide) (hg _ k126) (fun x9 h9 => u_same (hg _ k127) x9 h9) rfl (by decide +kernel) rfl rfl (Nat.le_of_ble_eq_true rfl) d_Table_openReading_2 (fun H locs hP hD hS => ?_)
  have hP : va_P (dC, dI) vwCl [(co, .inr (5, [.long xx, .long xreadX, .ref soa, .ref sna, .ref swa, .int xkept, .ref ri, .ref ro, .ref rw, .int 0])), (ri, .inr (0, [.int rin, .ref ria])), (ria, .inl (cI, rik, .inl rif))] H := hP
  have hD : va_D A [(co, .inr (5, [.long xx, .long xreadX, .ref soa, .ref sna, .ref swa, .int xkept, .ref ri, .ref ro, .ref rw, .int 0])), (ri, .inr (0, [.int rin, .ref ria])), (ria, .inl (cI, rik, .inl rif))] := hD
  refine lv_aload_n hx hb d_Table_openReading_5 rfl (lv_at hl 0 rfl) ?_
  refine lv_sipush (v := 512) hx hb d_Table_openReading_6 (by decide) ?_
  refine lv_aload_n hx hb d_Table_openReading_9 rfl (lv_at hl 0 rfl) ?_
  refine lv_bipush (v := 9) hx hb d_Table_openReading_10 (by decide) ?_
  refine my_ci (wr := []) (va_runV (As := [.int 9]) (rest := [.int 512, .ref co]) ⟨hx, hb, hml, hown, hts⟩ (c_Table_Table_nextValue l dC dI cI cM cO H.size co xx xreadX soa sna swa xkept ri ro rw 0 rin ria rik rif 9 (by first | assumption | omega)) (cwV 1 hts (my_gV k763 k764 k765 k11 k766) rfl rfl rfl (by decide +kernel) ⟨by rw [hR]; exact Nat.le_of_ble_eq_true rfl, by rw [hR]; exact Nat.le_of_ble_eq_true rfl⟩) (my_preV hK hN (hP.sub [0, 1, 2] rfl) (hD.sub [0, 1, 2] (by decide) rfl) 0 rfl rfl) rfl rfl hl.1 rfl (lv_room (Nat.le_of_ble_eq_true rfl)) d_Table_openReading_12 ⟨by rw [hR]; exact Nat.le_of_ble_eq_true rfl, by rw [hR]; exact Nat.le_of_ble_eq_true rfl⟩) hP hD hS hA [0, 1, 2] [] rfl rfl (by decide) (by decide) (fun r_12 u9 H locs hw_12 hP hD hS => ?_)
  obtain ⟨xaskedq_12, rfl⟩ : ∃ z, z = u9 := ⟨_, rfl⟩
  have hP : va_P (dC, dI) vwCl [(co, .inr (5, [.long xx, .long xreadX, .ref soa, .ref sna, .ref swa, .int xkept, .ref ri, .ref ro, .ref rw, .int xaskedq_12])), (ri, .inr (0, [.int rin, .ref ria])), (ria, .inl (cI, rik, .inl rif))] H := hP
  have hD : va_D A [(co, .inr (5, [.long xx, .long xreadX, .ref soa, .ref sna, .ref swa, .int xkept, .ref ri, .ref ro, .ref rw, .int xaskedq_12])), (ri, .inr (0, [.int rin, .ref ria])), (ria, .inl (cI, rik, .inl rif))] := hD
  refine lv_iadd hx hb d_Table_openReading_15 ?_
  refine lv_topi (fun v_1 ev_1 => ?_)
  refine lv_i2l hx hb d_Table_openReading_16 rfl ?_
  refine lv_topl (fun v_2 ev_2 => ?_)
  refine va_put (D := (dC, dI)) (ci := 5) (v := .long v_2) (ty := .long) (C := "RangeCoders$Table") (T := T_Table) (N := 10) hx hb hg in_Table t_Table o_Table n_Table hown hK hP hD hS 0 rfl rfl 1 (by decide) (hg _ k218) (fun x9 h9 => u_same (hg _ k219) x9 h9) rfl (by decide +kernel) rfl rfl (Nat.le_of_ble_eq_true rfl) d_Table_openReading_17 (fun H locs hP hD hS => ?_)
  have hP : va_P (dC, dI) vwCl [(co, .inr (5, [.long xx, .long v_2, .ref soa, .ref sna, .ref swa, .int xkept, .ref ri, .ref ro, .ref rw, .int xaskedq_12])), (ri, .inr (0, [.int rin, .ref ria])), (ria, .inl (cI, rik, .inl rif))] H := hP
  have hD : va_D A [(co, .inr (5, [.long xx, .long v_2, .ref soa, .ref sna, .ref swa, .int xkept, .ref ri, .ref ro, .ref rw, .int xaskedq_12])), (ri, .inr (0, [.int rin, .ref ria])), (ria, .inl (cI, rik, .inl rif))] := hD
  refine lv_iconst (v := 1) hx hb d_Table_openReading_20 (by decide) ?_
  exact my_iret (v := 1) hx hb hr (rfl) hlocks hQ hK hS (Nat.le_refl _) (Nat.le_refl _) (v_2, xaskedq_12) (trivial) (hP.sub [0, 1, 2] rfl) (hD.sub [0, 1, 2] (by decide) rfl) d_Table_openReading_21
set_option maxHeartbeats 2000000 in
set_option maxRecDepth 100000 in
theorem c_Table_Table_nextSign (l : Launch) (dC : Nat → ClassId) (dI : Nat → Nat → Nat) (cI cM cO : ClassId) (sz : Nat) (co : Nat) (xx : Int64) (xreadX : Int64) (soa : Nat) (sna : Nat) (swa : Nat) (xkept : Int32) (ri : Nat) (ro : Nat) (rw : Nat) (xasked : Int32) (rin : Int32) (ria : Nat) (rik : Nat) (rif : Nat → Int32) (oo : Nat) (osg : Int32) (osm : Int32) (ofc : Int32) (oca : Nat) (opa : Nat) (ol : Nat) (ocf : Nat → Int32) (opl : Nat) (opf : Nat → Int32) (hri : rOk rin rik) (hol : ol ≤ 64) (hopl : opl ≤ 512) : MetI l y_Table_nextSign (Cond.code y_Table_nextSign prog_12_method_11_code 5 (some .int) :: gw) ({ frames := 3, cells := 0, slots := 0, locals := 64 } : Room) (dC, dI) vwCl (kT cI cM cO) [.ref co, .ref oo] [(co, .inr (5, [.long xx, .long xreadX, .ref soa, .ref sna, .ref swa, .int xkept, .ref ri, .ref ro, .ref rw, .int xasked])), (ri, .inr (0, [.int rin, .ref ria])), (ria, .inl (cI, rik, .inl rif)), (oo, .inr (7, [.int osg, .int osm, .int ofc, .ref oca, .ref opa])), (oca, .inl (cI, ol, .inl ocf)), (opa, .inl (cI, opl, .inl opf))] sz (fun (r : Int32) (u : Int64 × Int32) => True) (fun (u : Int64 × Int32) => [(co, .inr (5, [.long xx, .long u.1, .ref soa, .ref sna, .ref swa, .int xkept, .ref ri, .ref ro, .ref rw, .int u.2])), (ri, .inr (0, [.int rin, .ref ria])), (ria, .inl (cI, rik, .inl rif)), (oo, .inr (7, [.int osg, .int osm, .int ofc, .ref oca, .ref opa])), (oca, .inl (cI, ol, .inl ocf)), (opa, .inl (cI, opl, .inl opf))]) 0 0 := by
  refine my_ofI (cc := prog_12_method_11_code) (n := 5) (ret := (some .int)) (by decide) rfl (Nat.le_of_ble_eq_true rfl) ?_
  intro p e s m args below meth c R Q A ls H locs hx hb hr hts hown hlocks hml hnm hR hQ hA hl hP hK hN hD hS
  have hg : ∀ w ∈ gw, w.before args s = true := fun w h => hts w (List.mem_cons_of_mem _ h)
  have hown : s.vm.findClass "RangeCoders$Table" = some m.cls := hown
  have hl : lv_has ls 5 [(0, .ref co), (1, .ref oo)] := hl
  have hlt_hri := rOk_lt hri
  refine lv_aload_n hx hb d_Table_nextSign_0 rfl (lv_at hl 1 rfl) ?_
  refine va_get (D := (dC, dI)) (ci := 7) (v := .int osm) (C := "RangeCoders$Odds") (T := T_Odds) (N := 5) hx hb hg in_Odds hown hK hP 3 rfl rfl 1 (by decide) (hg _ k307) (fun _ h9 => h9) rfl d_Table_nextSign_1 ?_
  refine lv_if_gt (tgt := 9) hx hb d_Table_nextSign_4 (by decide) (fun c_1 => ?_) (fun c_1 => ?_)
  · refine lv_aload_n hx hb d_Table_nextSign_9 rfl (lv_at hl 0 rfl) ?_
    refine va_get (D := (dC, dI)) (ci := 5) (v := .long xreadX) (C := "RangeCoders$Table") (T := T_Table) (N := 10) hx hb hg in_Table hown hK hP 0 rfl rfl 1 (by decide) (hg _ k218) (fun x9 h9 => u_same (hg _ k219) x9 h9) rfl d_Table_nextSign_10 ?_
    refine lv_l2i hx hb d_Table_nextSign_13 rfl ?_
    refine lv_topi (fun v_2 ev_2 => ?_)
    refine lv_sipush (v := 512) hx hb d_Table_nextSign_14 (by decide) ?_
    refine lv_isub hx hb d_Table_nextSign_17 ?_
    refine lv_topi (fun v_3 ev_3 => ?_)
    refine lv_istore_n (lv' := [(2, .int v_3), (0, .ref co), (1, .ref oo)]) hx hb d_Table_nextSign_18 rfl hl (by decide) rfl (fun ls hl => ?_)
    refine lv_aload_n hx hb d_Table_nextSign_19 rfl (lv_at hl 2 rfl) ?_
    refine lv_iload_n hx hb d_Table_nextSign_20 rfl (lv_at hl 0 rfl) ?_
    refine my_ci (wr := [(co, .inr (5, [.long xx, .long xreadX, .ref soa, .ref sna, .ref swa, .int xkept, .ref ri, .ref ro, .ref rw, .int xasked])), (ri, .inr (0, [.int rin, .ref ria])), (ria, .inl (cI, rik, .inl rif))]) (va_runV (As := [.int v_3]) (rest := []) ⟨hx, hb, hml, hown, hts⟩ (c_Odds_signOfPlace l dC dI cI cM cO H.size oo osg osm ofc oca opa ol ocf opl opf v_3 (by first | assumption | omega) (by first | assumption | omega)) (cwV 1 hts (my_gV k845 k846 k847 k14 k848) rfl rfl rfl (by decide +kernel) ⟨by rw [hR]; exact Nat.le_of_ble_eq_true rfl, by rw [hR]; exact Nat.le_of_ble_eq_true rfl⟩) (my_preV hK hN (hP.sub [3, 4, 5] rfl) (hD.sub [3, 4, 5] (by decide) rfl) 0 rfl rfl) rfl rfl hl.1 rfl (lv_room (Nat.le_of_ble_eq_true rfl)) d_Table_nextSign_21 ⟨by rw [hR]; exact Nat.le_of_ble_eq_true rfl, by rw [hR]; exact Nat.le_of_ble_eq_true rfl⟩) hP hD hS hA [3, 4, 5] [0, 1, 2] rfl rfl (by decide) (by decide) (fun r_21 u9 H locs hw_21 hP hD hS => ?_)
    have hP : va_P (dC, dI) vwCl [(co, .inr (5, [.long xx, .long xreadX, .ref soa, .ref sna, .ref swa, .int xkept, .ref ri, .ref ro, .ref rw, .int xasked])), (ri, .inr (0, [.int rin, .ref ria])), (ria, .inl (cI, rik, .inl rif)), (oo, .inr (7, [.int osg, .int osm, .int ofc, .ref oca, .ref opa])), (oca, .inl (cI, ol, .inl ocf)), (opa, .inl (cI, opl, .inl opf))] H := hP
    have hD : va_D A [(co, .inr (5, [.long xx, .long xreadX, .ref soa, .ref sna, .ref swa, .int xkept, .ref ri, .ref ro, .ref rw, .int xasked])), (ri, .inr (0, [.int rin, .ref ria])), (ria, .inl (cI, rik, .inl rif)), (oo, .inr (7, [.int osg, .int osm, .int ofc, .ref oca, .ref opa])), (oca, .inl (cI, ol, .inl ocf)), (opa, .inl (cI, opl, .inl opf))] := hD
    refine lv_istore_n (lv' := [(3, .int r_21), (2, .int v_3), (0, .ref co), (1, .ref oo)]) hx hb d_Table_nextSign_24 rfl hl (by decide) rfl (fun ls hl => ?_)
    refine lv_aload_n hx hb d_Table_nextSign_25 rfl (lv_at hl 2 rfl) ?_
    refine lv_aload_n hx hb d_Table_nextSign_26 rfl (lv_at hl 3 rfl) ?_
    refine lv_iload_n hx hb d_Table_nextSign_27 rfl (lv_at hl 0 rfl) ?_
    refine my_ci (wr := [(co, .inr (5, [.long xx, .long xreadX, .ref soa, .ref sna, .ref swa, .int xkept, .ref ri, .ref ro, .ref rw, .int xasked])), (ri, .inr (0, [.int rin, .ref ria])), (ria, .inl (cI, rik, .inl rif))]) (va_runV (As := [.int r_21]) (rest := [.ref co]) ⟨hx, hb, hml, hown, hts⟩ (c_Odds_at l dC dI cI cM cO H.size oo osg osm ofc oca opa ol ocf opl opf r_21 (by first | assumption | omega) (by first | assumption | omega)) (cwV 1 hts (my_gV k641 k436 k437 k14 k438) rfl rfl rfl (by decide +kernel) ⟨by rw [hR]; exact Nat.le_of_ble_eq_true rfl, by rw [hR]; exact Nat.le_of_ble_eq_true rfl⟩) (my_preV hK hN (hP.sub [3, 4, 5] rfl) (hD.sub [3, 4, 5] (by decide) rfl) 0 rfl rfl) rfl rfl hl.1 rfl (lv_room (Nat.le_of_ble_eq_true rfl)) d_Table_nextSign_28 ⟨by rw [hR]; exact Nat.le_of_ble_eq_true rfl, by rw [hR]; exact Nat.le_of_ble_eq_true rfl⟩) hP hD hS hA [3, 4, 5] [0, 1, 2] rfl rfl (by decide) (by decide) (fun r_28 u9 H locs hw_28 hP hD hS => ?_)
    have hP : va_P (dC, dI) vwCl [(co, .inr (5, [.long xx, .long xreadX, .ref soa, .ref sna, .ref swa, .int xkept, .ref ri, .ref ro, .ref rw, .int xasked])), (ri, .inr (0, [.int rin, .ref ria])), (ria, .inl (cI, rik, .inl rif)), (oo, .inr (7, [.int osg, .int osm, .int ofc, .ref oca, .ref opa])), (oca, .inl (cI, ol, .inl ocf)), (opa, .inl (cI, opl, .inl opf))] H := hP
    have hD : va_D A [(co, .inr (5, [.long xx, .long xreadX, .ref soa, .ref sna, .ref swa, .int xkept, .ref ri, .ref ro, .ref rw, .int xasked])), (ri, .inr (0, [.int rin, .ref ria])), (ria, .inl (cI, rik, .inl rif)), (oo, .inr (7, [.int osg, .int osm, .int ofc, .ref oca, .ref opa])), (oca, .inl (cI, ol, .inl ocf)), (opa, .inl (cI, opl, .inl opf))] := hD
    refine lv_aload_n hx hb d_Table_nextSign_31 rfl (lv_at hl 3 rfl) ?_
    refine lv_iload_n hx hb d_Table_nextSign_32 rfl (lv_at hl 1 rfl) ?_
    refine my_ci (wr := [(co, .inr (5, [.long xx, .long xreadX, .ref soa, .ref sna, .ref swa, .int xkept, .ref ri, .ref ro, .ref rw, .int xasked])), (ri, .inr (0, [.int rin, .ref ria])), (ria, .inl (cI, rik, .inl rif))]) (va_runV (As := [.int v_3]) (rest := [.int r_28, .ref co]) ⟨hx, hb, hml, hown, hts⟩ (c_Odds_numberOfPlace l dC dI cI cM cO H.size oo osg osm ofc oca opa ol ocf opl opf v_3 (by first | assumption | omega) (by first | assumption | omega)) (cwV 1 hts (my_gV k849 k850 k851 k14 k852) rfl rfl rfl (by decide +kernel) ⟨by rw [hR]; exact Nat.le_of_ble_eq_true rfl, by rw [hR]; exact Nat.le_of_ble_eq_true rfl⟩) (my_preV hK hN (hP.sub [3, 4, 5] rfl) (hD.sub [3, 4, 5] (by decide) rfl) 0 rfl rfl) rfl rfl hl.1 rfl (lv_room (Nat.le_of_ble_eq_true rfl)) d_Table_nextSign_33 ⟨by rw [hR]; exact Nat.le_of_ble_eq_true rfl, by rw [hR]; exact Nat.le_of_ble_eq_true rfl⟩) hP hD hS hA [3, 4, 5] [0, 1, 2] rfl rfl (by decide) (by decide) (fun r_33 u9 H locs hw_33 hP hD hS => ?_)
    have hP : va_P (dC, dI) vwCl [(co, .inr (5, [.long xx, .long xreadX, .ref soa, .ref sna, .ref swa, .int xkept, .ref ri, .ref ro, .ref rw, .int xasked])), (ri, .inr (0, [.int rin, .ref ria])), (ria, .inl (cI, rik, .inl rif)), (oo, .inr (7, [.int osg, .int osm, .int ofc, .ref oca, .ref opa])), (oca, .inl (cI, ol, .inl ocf)), (opa, .inl (cI, opl, .inl opf))] H := hP
    have hD : va_D A [(co, .inr (5, [.long xx, .long xreadX, .ref soa, .ref sna, .ref swa, .int xkept, .ref ri, .ref ro, .ref rw, .int xasked])), (ri, .inr (0, [.int rin, .ref ria])), (ria, .inl (cI, rik, .inl rif)), (oo, .inr (7, [.int osg, .int osm, .int ofc, .ref oca, .ref opa])), (oca, .inl (cI, ol, .inl ocf)), (opa, .inl (cI, opl, .inl opf))] := hD
    refine lv_iadd hx hb d_Table_nextSign_36 ?_
    refine lv_topi (fun v_4 ev_4 => ?_)
    refine lv_i2l hx hb d_Table_nextSign_37 rfl ?_
    refine lv_topl (fun v_5 ev_5 => ?_)
    refine va_put (D := (dC, dI)) (ci := 5) (v := .long v_5) (ty := .long) (C := "RangeCoders$Table") (T := T_Table) (N := 10) hx hb hg in_Table t_Table o_Table n_Table hown hK hP hD hS 0 rfl rfl 1 (by decide) (hg _ k218) (fun x9 h9 => u_same (hg _ k219) x9 h9) rfl (by decide +kernel) rfl rfl (Nat.le_of_ble_eq_true rfl) d_Table_nextSign_38 (fun H locs hP hD hS => ?_)
    have hP : va_P (dC, dI) vwCl [(co, .inr (5, [.long xx, .long v_5, .ref soa, .ref sna, .ref swa, .int xkept, .ref ri, .ref ro, .ref rw, .int xasked])), (ri, .inr (0, [.int rin, .ref ria])), (ria, .inl (cI, rik, .inl rif)), (oo, .inr (7, [.int osg, .int osm, .int ofc, .ref oca, .ref opa])), (oca, .inl (cI, ol, .inl ocf)), (opa, .inl (cI, opl, .inl opf))] H := hP
    have hD : va_D A [(co, .inr (5, [.long xx, .long v_5, .ref soa, .ref sna, .ref swa, .int xkept, .ref ri, .ref ro, .ref rw, .int xasked])), (ri, .inr (0, [.int rin, .ref ria])), (ria, .inl (cI, rik, .inl rif)), (oo, .inr (7, [.int osg, .int osm, .int ofc, .ref oca, .ref opa])), (oca, .inl (cI, ol, .inl ocf)), (opa, .inl (cI, opl, .inl opf))] := hD
    refine lv_iconst (v := 0) hx hb d_Table_nextSign_41 (by decide) ?_
    refine lv_istore (lv' := [(4, .int 0), (3, .int r_21), (2, .int v_3), (0, .ref co), (1, .ref oo)]) hx hb d_Table_nextSign_42 hl (by decide) rfl (fun ls hl => ?_)
    have J_44 : ∀ (n9_44 : Nat) (b44_0 : Int32) (b44_1 : Int64) (b44_2 : Int32) (hn9_44 : (10 - b44_0.toInt).toNat = n9_44) (hi_44 : 0 ≤ b44_0.toInt) (H : Heap) (locs : List Loc) (ls : Array Slot), va_P (dC, dI) vwCl [(co, .inr (5, [.long xx, .long b44_1, .ref soa, .ref sna, .ref swa, .int xkept, .ref ri, .ref ro, .ref rw, .int b44_2])), (ri, .inr (0, [.int rin, .ref ria])), (ria, .inl (cI, rik, .inl rif)), (oo, .inr (7, [.int osg, .int osm, .int ofc, .ref oca, .ref opa])), (oca, .inl (cI, ol, .inl ocf)), (opa, .inl (cI, opl, .inl opf))] H → va_D A [(co, .inr (5, [.long xx, .long b44_1, .ref soa, .ref sna, .ref swa, .int xkept, .ref ri, .ref ro, .ref rw, .int b44_2])), (ri, .inr (0, [.int rin, .ref ria])), (ria, .inl (cI, rik, .inl rif)), (oo, .inr (7, [.int osg, .int osm, .int ofc, .ref oca, .ref opa])), (oca, .inl (cI, ol, .inl ocf)), (opa, .inl (cI, opl, .inl opf))] → va_S A s.heap H locs → lv_has ls 5 [(4, .int b44_0), (3, .int r_21), (2, .int v_3), (0, .ref co), (1, .ref oo)] → W p l e R s m args below meth c H locs 0 0 Q (F0 m 44 ls []) := by
      intro n9_44
      induction n9_44 using Nat.strongRecOn with
      | ind n9_44 ih9_44 =>
        intro b44_0 b44_1 b44_2 hn9_44 hi_44 H locs ls hP hD hS hl
        refine lv_iload hx hb d_Table_nextSign_44 (lv_at hl 0 rfl) ?_
        refine lv_bipush (v := 9) hx hb d_Table_nextSign_46 (by decide) ?_
        refine lv_icmp_gt (tgt := 86) hx hb d_Table_nextSign_48 (by decide) (fun c_6 => ?_) (fun c_6 => ?_)
        · refine lv_iload_n hx hb d_Table_nextSign_86 rfl (lv_at hl 1 rfl) ?_
          exact my_iret (v := r_21) hx hb hr (rfl) hlocks hQ hK hS (Nat.le_refl _) (Nat.le_refl _) (b44_1, b44_2) (trivial) (hP.sub [0, 1, 2, 3, 4, 5] rfl) (hD.sub [0, 1, 2, 3, 4, 5] (by decide) rfl) d_Table_nextSign_87
        · refine lv_aload_n hx hb d_Table_nextSign_51 rfl (lv_at hl 3 rfl) ?_
          refine va_get (D := (dC, dI)) (ci := 5) (v := .long b44_1) (C := "RangeCoders$Table") (T := T_Table) (N := 10) hx hb hg in_Table hown hK hP 0 rfl rfl 1 (by decide) (hg _ k218) (fun x9 h9 => u_same (hg _ k219) x9 h9) rfl d_Table_nextSign_52 ?_
          refine lv_ldc2 (v := 512) hx hb hown (hg _ k607) d_Table_nextSign_55 ?_
          refine W.lcmp hx hb d_Table_nextSign_58 ?_
          refine lv_if_ge (tgt := 86) hx hb d_Table_nextSign_59 (by decide) (fun c_7 => ?_) (fun c_7 => ?_)
          · rw [lg_cmp_ge] at c_7
            refine lv_iload_n hx hb d_Table_nextSign_86 rfl (lv_at hl 1 rfl) ?_
            exact my_iret (v := r_21) hx hb hr (rfl) hlocks hQ hK hS (Nat.le_refl _) (Nat.le_refl _) (b44_1, b44_2) (trivial) (hP.sub [0, 1, 2, 3, 4, 5] rfl) (hD.sub [0, 1, 2, 3, 4, 5] (by decide) rfl) d_Table_nextSign_87
          · rw [lg_cmp_ge] at c_7
            refine lv_aload_n hx hb d_Table_nextSign_62 rfl (lv_at hl 3 rfl) ?_
            refine lv_ldc2 (v := 2) hx hb hown (hg _ k642) d_Table_nextSign_63 ?_
            refine lv_aload_n hx hb d_Table_nextSign_66 rfl (lv_at hl 3 rfl) ?_
            refine va_get (D := (dC, dI)) (ci := 5) (v := .long b44_1) (C := "RangeCoders$Table") (T := T_Table) (N := 10) hx hb hg in_Table hown hK hP 0 rfl rfl 1 (by decide) (hg _ k218) (fun x9 h9 => u_same (hg _ k219) x9 h9) rfl d_Table_nextSign_67 ?_
            refine lv_lmul hx hb d_Table_nextSign_70 ?_
            refine lv_topl (fun v_8 ev_8 => ?_)
            refine lv_aload_n hx hb d_Table_nextSign_71 rfl (lv_at hl 3 rfl) ?_
            refine my_ci (wr := [(oo, .inr (7, [.int osg, .int osm, .int ofc, .ref oca, .ref opa])), (oca, .inl (cI, ol, .inl ocf)), (opa, .inl (cI, opl, .inl opf))]) (va_runV (As := []) (rest := [.long v_8, .ref co]) ⟨hx, hb, hml, hown, hts⟩ (c_Table_Table_nextInBit l dC dI cI cM cO H.size co xx b44_1 soa sna swa xkept ri ro rw b44_2 rin ria rik rif (by first | assumption | omega)) (cwV 0 hts (my_gV k767 k769 ks12 k11 k770) rfl rfl rfl (by decide +kernel) ⟨by rw [hR]; exact Nat.le_of_ble_eq_true rfl, by rw [hR]; exact Nat.le_of_ble_eq_true rfl⟩) (my_preV hK hN (hP.sub [0, 1, 2] rfl) (hD.sub [0, 1, 2] (by decide) rfl) 0 rfl rfl) rfl rfl hl.1 rfl (lv_room (Nat.le_of_ble_eq_true rfl)) d_Table_nextSign_72 ⟨by rw [hR]; exact Nat.le_of_ble_eq_true rfl, by rw [hR]; exact Nat.le_of_ble_eq_true rfl⟩) hP hD hS hA [0, 1, 2] [3, 4, 5] rfl rfl (by decide) (by decide) (fun r_72 u9 H locs hw_72 hP hD hS => ?_)
            obtain ⟨xaskedq_72, rfl⟩ : ∃ z, z = u9 := ⟨_, rfl⟩
            have hP : va_P (dC, dI) vwCl [(oo, .inr (7, [.int osg, .int osm, .int ofc, .ref oca, .ref opa])), (oca, .inl (cI, ol, .inl ocf)), (opa, .inl (cI, opl, .inl opf)), (co, .inr (5, [.long xx, .long b44_1, .ref soa, .ref sna, .ref swa, .int xkept, .ref ri, .ref ro, .ref rw, .int xaskedq_72])), (ri, .inr (0, [.int rin, .ref ria])), (ria, .inl (cI, rik, .inl rif))] H := hP
            have hD : va_D A [(oo, .inr (7, [.int osg, .int osm, .int ofc, .ref oca, .ref opa])), (oca, .inl (cI, ol, .inl ocf)), (opa, .inl (cI, opl, .inl opf)), (co, .inr (5, [.long xx, .long b44_1, .ref soa, .ref sna, .ref swa, .int xkept, .ref ri, .ref ro, .ref rw, .int xaskedq_72])), (ri, .inr (0, [.int rin, .ref ria])), (ria, .inl (cI, rik, .inl rif))] := hD
            refine lv_i2l hx hb d_Table_nextSign_75 rfl ?_
            refine lv_topl (fun v_9 ev_9 => ?_)
            refine lv_ladd hx hb d_Table_nextSign_76 ?_
            refine lv_topl (fun v_10 ev_10 => ?_)
            refine va_put (D := (dC, dI)) (ci := 5) (v := .long v_10) (ty := .long) (C := "RangeCoders$Table") (T := T_Table) (N := 10) hx hb hg in_Table t_Table o_Table n_Table hown hK hP hD hS 3 rfl rfl 1 (by decide) (hg _ k218) (fun x9 h9 => u_same (hg _ k219) x9 h9) rfl (by decide +kernel) rfl rfl (Nat.le_of_ble_eq_true rfl) d_Table_nextSign_77 (fun H locs hP hD hS => ?_)
            have hP : va_P (dC, dI) vwCl [(oo, .inr (7, [.int osg, .int osm, .int ofc, .ref oca, .ref opa])), (oca, .inl (cI, ol, .inl ocf)), (opa, .inl (cI, opl, .inl opf)), (co, .inr (5, [.long xx, .long v_10, .ref soa, .ref sna, .ref swa, .int xkept, .ref ri, .ref ro, .ref rw, .int xaskedq_72])), (ri, .inr (0, [.int rin, .ref ria])), (ria, .inl (cI, rik, .inl rif))] H := hP
            have hD : va_D A [(oo, .inr (7, [.int osg, .int osm, .int ofc, .ref oca, .ref opa])), (oca, .inl (cI, ol, .inl ocf)), (opa, .inl (cI, opl, .inl opf)), (co, .inr (5, [.long xx, .long v_10, .ref soa, .ref sna, .ref swa, .int xkept, .ref ri, .ref ro, .ref rw, .int xaskedq_72])), (ri, .inr (0, [.int rin, .ref ria])), (ria, .inl (cI, rik, .inl rif))] := hD
            obtain ⟨v_11, ev_11⟩ : ∃ y : Int32, y = b44_0 + (1) := ⟨_, rfl⟩
            refine lv_iinc (v := v_11) (lv' := [(4, .int v_11), (3, .int r_21), (2, .int v_3), (0, .ref co), (1, .ref oo)]) hx hb d_Table_nextSign_80 hl (k := 0) rfl (by rw [ev_11]; rfl) (by decide) rfl (fun ls hl => ?_)
            refine lv_goto (tgt := 44) hx hb d_Table_nextSign_83 (by decide) ?_
            exact ih9_44 _ (by first | omega | (have z9 := I_up9 c_6 ev_11; omega)) v_11 v_10 xaskedq_72 rfl (by have z9 := I_up9 c_6 ev_11; omega) H locs ls (hP.sub [3, 4, 5, 0, 1, 2] rfl) (hD.sub [3, 4, 5, 0, 1, 2] (by decide) rfl) hS (lv_sub hl [0, 1, 2, 3, 4] rfl)
    exact J_44 _ (0 : Int32) v_5 xasked rfl (by first | decide | assumption | omega) H locs ls (hP.sub [0, 1, 2, 3, 4, 5] rfl) (hD.sub [0, 1, 2, 3, 4, 5] (by decide) rfl) hS (lv_sub hl [0, 1, 2, 3, 4] rfl)
  · refine lv_iconst (v := (-1)) hx hb d_Table_nextSign_7 (by decide) ?_
    exact my_iret (v := (-1)) hx hb hr (rfl) hlocks hQ hK hS (Nat.le_refl _) (Nat.le_refl _) (xreadX, xasked) (trivial) (hP.sub [0, 1, 2, 3, 4, 5] rfl) (hD.sub [0, 1, 2, 3, 4, 5] (by decide) rfl) d_Table_nextSign_8
set_option maxHeartbeats 2000000 in
set_option maxRecDepth 100000 in
theorem c_Table_Stacked_openMessage (l : Launch) (dC : Nat → ClassId) (dI : Nat → Nat → Nat) (cI cM cO : ClassId) (sz : Nat) (co : Nat) (xx : Int64) (xreadX : Int64) (soa : Nat) (sna : Nat) (swa : Nat) (xkept : Int32) (ri : Nat) (ro : Nat) (rw : Nat) (xasked : Int32) : MetV l y_Stacked_openMessage (Cond.code y_Stacked_openMessage prog_11_method_6_code 1 none :: gw) ({ frames := 0, cells := 0, slots := 0, locals := 0 } : Room) (dC, dI) vwCl (kT cI cM cO) [.ref co] [(co, .inr (5, [.long xx, .long xreadX, .ref soa, .ref sna, .ref swa, .int xkept, .ref ri, .ref ro, .ref rw, .int xasked]))] sz (fun (u : Int32) => 0 ≤ u.toInt) (fun (u : Int32) => [(co, .inr (5, [.long xx, .long xreadX, .ref soa, .ref sna, .ref swa, .int u, .ref ri, .ref ro, .ref rw, .int xasked]))]) 0 0 := by
  refine my_ofV (cc := prog_11_method_6_code) (n := 1) (ret := none) (by decide) rfl (Nat.le_of_ble_eq_true rfl) ?_
  intro p e s m args below meth c R Q A ls H locs hx hb hr hts hown hlocks hml hnm hR hQ hA hl hP hK hN hD hS
  have hg : ∀ w ∈ gw, w.before args s = true := fun w h => hts w (List.mem_cons_of_mem _ h)
  have hown : s.vm.findClass "RangeCoders$Stacked" = some m.cls := hown
  have hl : lv_has ls 1 [(0, .ref co)] := hl
  refine lv_aload_n hx hb d_Stacked_openMessage_0 rfl (lv_at hl 0 rfl) ?_
  refine lv_iconst (v := 0) hx hb d_Stacked_openMessage_1 (by decide) ?_
  refine va_put (D := (dC, dI)) (ci := 5) (v := .int 0) (ty := .int) (C := "RangeCoders$Table") (T := T_Table) (N := 10) hx hb hg in_Table t_Table o_Table n_Table hown hK hP hD hS 0 rfl rfl 5 (by decide) (hg _ k223) (fun _ h9 => h9) rfl (by decide +kernel) rfl rfl (Nat.le_of_ble_eq_true rfl) d_Stacked_openMessage_2 (fun H locs hP hD hS => ?_)
  have hP : va_P (dC, dI) vwCl [(co, .inr (5, [.long xx, .long xreadX, .ref soa, .ref sna, .ref swa, .int 0, .ref ri, .ref ro, .ref rw, .int xasked]))] H := hP
  have hD : va_D A [(co, .inr (5, [.long xx, .long xreadX, .ref soa, .ref sna, .ref swa, .int 0, .ref ri, .ref ro, .ref rw, .int xasked]))] := hD
  exact my_vret hx hb hr hlocks hQ hK hS (Nat.le_refl _) (Nat.le_refl _) ((0 : Int32)) (by decide) (hP.sub [0] rfl) (hD.sub [0] (by decide) rfl) d_Stacked_openMessage_5
set_option maxHeartbeats 2000000 in
set_option maxRecDepth 100000 in
theorem c_Table_Stacked_keep (l : Launch) (dC : Nat → ClassId) (dI : Nat → Nat → Nat) (cI cM cO : ClassId) (sz : Nat) (co : Nat) (xx : Int64) (xreadX : Int64) (soa : Nat) (sna : Nat) (swa : Nat) (xkept : Int32) (ri : Nat) (ro : Nat) (rw : Nat) (xasked : Int32) (sof : Nat → Option Nat) (snf : Nat → Int32) (swf : Nat → Int32) (oo : Nat) (osg : Int32) (osm : Int32) (ofc : Int32) (oca : Nat) (opa : Nat) (ol : Nat) (ocf : Nat → Int32) (opl : Nat) (opf : Nat → Int32) (nb : Int32) (wd : Int32) (hol : ol ≤ 64) (hopl : opl ≤ 512) (hkp0 : 0 ≤ xkept.toInt) : MetV l y_Stacked_keep (Cond.code y_Stacked_keep prog_11_method_11_code 4 none :: gw) ({ frames := 0, cells := 0, slots := 0, locals := 0 } : Room) (dC, dI) vwCl (kT cI cM cO) [.ref co, .ref oo, .int nb, .int wd] [(co, .inr (5, [.long xx, .long xreadX, .ref soa, .ref sna, .ref swa, .int xkept, .ref ri, .ref ro, .ref rw, .int xasked])), (soa, .inl (cO, 600, .inr (.inr (.inr (.inr sof))))), (sna, .inl (cI, 600, .inl snf)), (swa, .inl (cI, 600, .inl swf)), (oo, .inr (7, [.int osg, .int osm, .int ofc, .ref oca, .ref opa])), (oca, .inl (cI, ol, .inl ocf)), (opa, .inl (cI, opl, .inl opf))] sz (fun (u : Int32 × (Nat → Option Nat) × (Nat → Int32) × (Nat → Int32)) => 0 ≤ u.1.toInt ∧ ∀ i, u.2.1 i = sof i ∨ u.2.1 i = some oo) (fun (u : Int32 × (Nat → Option Nat) × (Nat → Int32) × (Nat → Int32)) => [(co, .inr (5, [.long xx, .long xreadX, .ref soa, .ref sna, .ref swa, .int u.1, .ref ri, .ref ro, .ref rw, .int xasked])), (soa, .inl (cO, 600, .inr (.inr (.inr (.inr u.2.1))))), (sna, .inl (cI, 600, .inl u.2.2.1)), (swa, .inl (cI, 600, .inl u.2.2.2)), (oo, .inr (7, [.int osg, .int osm, .int ofc, .ref oca, .ref opa])), (oca, .inl (cI, ol, .inl ocf)), (opa, .inl (cI, opl, .inl opf))]) 0 0 := by
  refine my_ofV (cc := prog_11_method_11_code) (n := 4) (ret := none) (by decide) rfl (Nat.le_of_ble_eq_true rfl) ?_
  intro p e s m args below meth c R Q A ls H locs hx hb hr hts hown hlocks hml hnm hR hQ hA hl hP hK hN hD hS
  have hg : ∀ w ∈ gw, w.before args s = true := fun w h => hts w (List.mem_cons_of_mem _ h)
  have hown : s.vm.findClass "RangeCoders$Stacked" = some m.cls := hown
  have hl : lv_has ls 4 [(0, .ref co), (1, .ref oo), (2, .int nb), (3, .int wd)] := hl
  refine lv_aload_n hx hb d_Stacked_keep_0 rfl (lv_at hl 0 rfl) ?_
  refine va_get (D := (dC, dI)) (ci := 5) (v := .int xkept) (C := "RangeCoders$Table") (T := T_Table) (N := 10) hx hb hg in_Table hown hK hP 0 rfl rfl 5 (by decide) (hg _ k223) (fun _ h9 => h9) rfl d_Stacked_keep_1 ?_
  refine lv_if_lt (tgt := 57) hx hb d_Stacked_keep_4 (by decide) (fun c_1 => ?_) (fun c_1 => ?_)
  · exact my_vret hx hb hr hlocks hQ hK hS (Nat.le_refl _) (Nat.le_refl _) (xkept, sof, snf, swf) (⟨by first | assumption | exact I_up0 hkp0 (by assumption) (by assumption), by first | assumption | exact fun _ => Or.inl rfl | exact va_up_or _ _ _⟩) (hP.sub [0, 1, 2, 3, 4, 5, 6] rfl) (hD.sub [0, 1, 2, 3, 4, 5, 6] (by decide) rfl) d_Stacked_keep_57
  · refine lv_aload_n hx hb d_Stacked_keep_7 rfl (lv_at hl 0 rfl) ?_
    refine va_get (D := (dC, dI)) (ci := 5) (v := .int xkept) (C := "RangeCoders$Table") (T := T_Table) (N := 10) hx hb hg in_Table hown hK hP 0 rfl rfl 5 (by decide) (hg _ k223) (fun _ h9 => h9) rfl d_Stacked_keep_8 ?_
    refine lv_sipush (v := 600) hx hb d_Stacked_keep_11 (by decide) ?_
    refine lv_icmp_ge (tgt := 57) hx hb d_Stacked_keep_14 (by decide) (fun c_2 => ?_) (fun c_2 => ?_)
    · exact my_vret hx hb hr hlocks hQ hK hS (Nat.le_refl _) (Nat.le_refl _) (xkept, sof, snf, swf) (⟨by first | assumption | exact I_up0 hkp0 (by assumption) (by assumption), by first | assumption | exact fun _ => Or.inl rfl | exact va_up_or _ _ _⟩) (hP.sub [0, 1, 2, 3, 4, 5, 6] rfl) (hD.sub [0, 1, 2, 3, 4, 5, 6] (by decide) rfl) d_Stacked_keep_57
    · refine lv_aload_n hx hb d_Stacked_keep_17 rfl (lv_at hl 0 rfl) ?_
      refine va_get (D := (dC, dI)) (ci := 5) (v := .ref soa) (C := "RangeCoders$Table") (T := T_Table) (N := 10) hx hb hg in_Table hown hK hP 0 rfl rfl 2 (by decide) (hg _ k220) (fun _ h9 => h9) rfl d_Stacked_keep_18 ?_
      refine lv_aload_n hx hb d_Stacked_keep_21 rfl (lv_at hl 0 rfl) ?_
      refine va_get (D := (dC, dI)) (ci := 5) (v := .int xkept) (C := "RangeCoders$Table") (T := T_Table) (N := 10) hx hb hg in_Table hown hK hP 0 rfl rfl 5 (by decide) (hg _ k223) (fun _ h9 => h9) rfl d_Stacked_keep_22 ?_
      refine lv_aload_n hx hb d_Stacked_keep_25 rfl (lv_at hl 1 rfl) ?_
      refine va_astq hx hb hK hP hD hS 1 2 4 7 rfl rfl rfl rfl (by first | assumption | exact I_in (by omega) (by assumption) (by assumption) | exact I_in' (by omega) (by assumption) (by assumption)) d_Stacked_keep_26 (fun H locs hP hD hS => ?_)
      have hP : va_P (dC, dI) vwCl [(co, .inr (5, [.long xx, .long xreadX, .ref soa, .ref sna, .ref swa, .int xkept, .ref ri, .ref ro, .ref rw, .int xasked])), (soa, .inl (cO, 600, .inr (.inr (.inr (.inr (va_up sof xkept.toNatClampNeg (some oo))))))), (sna, .inl (cI, 600, .inl snf)), (swa, .inl (cI, 600, .inl swf)), (oo, .inr (7, [.int osg, .int osm, .int ofc, .ref oca, .ref opa])), (oca, .inl (cI, ol, .inl ocf)), (opa, .inl (cI, opl, .inl opf))] H := hP
      have hD : va_D A [(co, .inr (5, [.long xx, .long xreadX, .ref soa, .ref sna, .ref swa, .int xkept, .ref ri, .ref ro, .ref rw, .int xasked])), (soa, .inl (cO, 600, .inr (.inr (.inr (.inr (va_up sof xkept.toNatClampNeg (some oo))))))), (sna, .inl (cI, 600, .inl snf)), (swa, .inl (cI, 600, .inl swf)), (oo, .inr (7, [.int osg, .int osm, .int ofc, .ref oca, .ref opa])), (oca, .inl (cI, ol, .inl ocf)), (opa, .inl (cI, opl, .inl opf))] := hD
      refine lv_aload_n hx hb d_Stacked_keep_27 rfl (lv_at hl 0 rfl) ?_
      refine va_get (D := (dC, dI)) (ci := 5) (v := .ref sna) (C := "RangeCoders$Table") (T := T_Table) (N := 10) hx hb hg in_Table hown hK hP 0 rfl rfl 3 (by decide) (hg _ k221) (fun _ h9 => h9) rfl d_Stacked_keep_28 ?_
      refine lv_aload_n hx hb d_Stacked_keep_31 rfl (lv_at hl 0 rfl) ?_
      refine va_get (D := (dC, dI)) (ci := 5) (v := .int xkept) (C := "RangeCoders$Table") (T := T_Table) (N := 10) hx hb hg in_Table hown hK hP 0 rfl rfl 5 (by decide) (hg _ k223) (fun _ h9 => h9) rfl d_Stacked_keep_32 ?_
      refine lv_iload_n hx hb d_Stacked_keep_35 rfl (lv_at hl 2 rfl) ?_
      refine va_iast hx hb hK hP hD hS 2 0 rfl rfl (by first | assumption | exact I_in (by omega) (by assumption) (by assumption) | exact I_in' (by omega) (by assumption) (by assumption)) d_Stacked_keep_36 (fun H locs hP hD hS => ?_)
      have hP : va_P (dC, dI) vwCl [(co, .inr (5, [.long xx, .long xreadX, .ref soa, .ref sna, .ref swa, .int xkept, .ref ri, .ref ro, .ref rw, .int xasked])), (soa, .inl (cO, 600, .inr (.inr (.inr (.inr (va_up sof xkept.toNatClampNeg (some oo))))))), (sna, .inl (cI, 600, .inl (upd snf xkept.toNatClampNeg nb))), (swa, .inl (cI, 600, .inl swf)), (oo, .inr (7, [.int osg, .int osm, .int ofc, .ref oca, .ref opa])), (oca, .inl (cI, ol, .inl ocf)), (opa, .inl (cI, opl, .inl opf))] H := hP
      have hD : va_D A [(co, .inr (5, [.long xx, .long xreadX, .ref soa, .ref sna, .ref swa, .int xkept, .ref ri, .ref ro, .ref rw, .int xasked])), (soa, .inl (cO, 600, .inr (.inr (.inr (.inr (va_up sof xkept.toNatClampNeg (some oo))))))), (sna, .inl (cI, 600, .inl (upd snf xkept.toNatClampNeg nb))), (swa, .inl (cI, 600, .inl swf)), (oo, .inr (7, [.int osg, .int osm, .int ofc, .ref oca, .ref opa])), (oca, .inl (cI, ol, .inl ocf)), (opa, .inl (cI, opl, .inl opf))] := hD
      refine lv_aload_n hx hb d_Stacked_keep_37 rfl (lv_at hl 0 rfl) ?_
      refine va_get (D := (dC, dI)) (ci := 5) (v := .ref swa) (C := "RangeCoders$Table") (T := T_Table) (N := 10) hx hb hg in_Table hown hK hP 0 rfl rfl 4 (by decide) (hg _ k222) (fun _ h9 => h9) rfl d_Stacked_keep_38 ?_
      refine lv_aload_n hx hb d_Stacked_keep_41 rfl (lv_at hl 0 rfl) ?_
      refine va_get (D := (dC, dI)) (ci := 5) (v := .int xkept) (C := "RangeCoders$Table") (T := T_Table) (N := 10) hx hb hg in_Table hown hK hP 0 rfl rfl 5 (by decide) (hg _ k223) (fun _ h9 => h9) rfl d_Stacked_keep_42 ?_
      refine lv_iload_n hx hb d_Stacked_keep_45 rfl (lv_at hl 3 rfl) ?_
      refine va_iast hx hb hK hP hD hS 3 0 rfl rfl (by first | assumption | exact I_in (by omega) (by assumption) (by assumption) | exact I_in' (by omega) (by assumption) (by assumption)) d_Stacked_keep_46 (fun H locs hP hD hS => ?_)
      have hP : va_P (dC, dI) vwCl [(co, .inr (5, [.long xx, .long xreadX, .ref soa, .ref sna, .ref swa, .int xkept, .ref ri, .ref ro, .ref rw, .int xasked])), (soa, .inl (cO, 600, .inr (.inr (.inr (.inr (va_up sof xkept.toNatClampNeg (some oo))))))), (sna, .inl (cI, 600, .inl (upd snf xkept.toNatClampNeg nb))), (swa, .inl (cI, 600, .inl (upd swf xkept.toNatClampNeg wd))), (oo, .inr (7, [.int osg, .int osm, .int ofc, .ref oca, .ref opa])), (oca, .inl (cI, ol, .inl ocf)), (opa, .inl (cI, opl, .inl opf))] H := hP
      have hD : va_D A [(co, .inr (5, [.long xx, .long xreadX, .ref soa, .ref sna, .ref swa, .int xkept, .ref ri, .ref ro, .ref rw, .int xasked])), (soa, .inl (cO, 600, .inr (.inr (.inr (.inr (va_up sof xkept.toNatClampNeg (some oo))))))), (sna, .inl (cI, 600, .inl (upd snf xkept.toNatClampNeg nb))), (swa, .inl (cI, 600, .inl (upd swf xkept.toNatClampNeg wd))), (oo, .inr (7, [.int osg, .int osm, .int ofc, .ref oca, .ref opa])), (oca, .inl (cI, ol, .inl ocf)), (opa, .inl (cI, opl, .inl opf))] := hD
      refine lv_aload_n hx hb d_Stacked_keep_47 rfl (lv_at hl 0 rfl) ?_
      refine lv_dup hx hb d_Stacked_keep_48 rfl ?_
      refine va_get (D := (dC, dI)) (ci := 5) (v := .int xkept) (C := "RangeCoders$Table") (T := T_Table) (N := 10) hx hb hg in_Table hown hK hP 0 rfl rfl 5 (by decide) (hg _ k223) (fun _ h9 => h9) rfl d_Stacked_keep_49 ?_
      refine lv_iconst (v := 1) hx hb d_Stacked_keep_52 (by decide) ?_
      refine lv_iadd hx hb d_Stacked_keep_53 ?_
      refine lv_topi (fun v_3 ev_3 => ?_)
      refine va_put (D := (dC, dI)) (ci := 5) (v := .int v_3) (ty := .int) (C := "RangeCoders$Table") (T := T_Table) (N := 10) hx hb hg in_Table t_Table o_Table n_Table hown hK hP hD hS 0 rfl rfl 5 (by decide) (hg _ k223) (fun _ h9 => h9) rfl (by decide +kernel) rfl rfl (Nat.le_of_ble_eq_true rfl) d_Stacked_keep_54 (fun H locs hP hD hS => ?_)
      have hP : va_P (dC, dI) vwCl [(co, .inr (5, [.long xx, .long xreadX, .ref soa, .ref sna, .ref swa, .int v_3, .ref ri, .ref ro, .ref rw, .int xasked])), (soa, .inl (cO, 600, .inr (.inr (.inr (.inr (va_up sof xkept.toNatClampNeg (some oo))))))), (sna, .inl (cI, 600, .inl (upd snf xkept.toNatClampNeg nb))), (swa, .inl (cI, 600, .inl (upd swf xkept.toNatClampNeg wd))), (oo, .inr (7, [.int osg, .int osm, .int ofc, .ref oca, .ref opa])), (oca, .inl (cI, ol, .inl ocf)), (opa, .inl (cI, opl, .inl opf))] H := hP
      have hD : va_D A [(co, .inr (5, [.long xx, .long xreadX, .ref soa, .ref sna, .ref swa, .int v_3, .ref ri, .ref ro, .ref rw, .int xasked])), (soa, .inl (cO, 600, .inr (.inr (.inr (.inr (va_up sof xkept.toNatClampNeg (some oo))))))), (sna, .inl (cI, 600, .inl (upd snf xkept.toNatClampNeg nb))), (swa, .inl (cI, 600, .inl (upd swf xkept.toNatClampNeg wd))), (oo, .inr (7, [.int osg, .int osm, .int ofc, .ref oca, .ref opa])), (oca, .inl (cI, ol, .inl ocf)), (opa, .inl (cI, opl, .inl opf))] := hD
      exact my_vret hx hb hr hlocks hQ hK hS (Nat.le_refl _) (Nat.le_refl _) (v_3, va_up sof xkept.toNatClampNeg (some oo), upd snf xkept.toNatClampNeg nb, upd swf xkept.toNatClampNeg wd) (⟨by first | assumption | exact I_up0 hkp0 (by assumption) (by assumption), by first | assumption | exact fun _ => Or.inl rfl | exact va_up_or _ _ _⟩) (hP.sub [0, 1, 2, 3, 4, 5, 6] rfl) (hD.sub [0, 1, 2, 3, 4, 5, 6] (by decide) rfl) d_Stacked_keep_57
set_option maxHeartbeats 2000000 in
set_option maxRecDepth 100000 in
theorem c_Table_Stacked_keepN (l : Launch) (dC : Nat → ClassId) (dI : Nat → Nat → Nat) (cI cM cO : ClassId) (sz : Nat) (co : Nat) (xx : Int64) (xreadX : Int64) (soa : Nat) (sna : Nat) (swa : Nat) (xkept : Int32) (ri : Nat) (ro : Nat) (rw : Nat) (xasked : Int32) (sof : Nat → Option Nat) (snf : Nat → Int32) (swf : Nat → Int32) (nb : Int32) (wd : Int32) (hkp0 : 0 ≤ xkept.toInt) : MetV l y_Stacked_keep (Cond.code y_Stacked_keep prog_11_method_11_code 4 none :: gw) ({ frames := 0, cells := 0, slots := 0, locals := 0 } : Room) (dC, dI) vwCl (kT cI cM cO) [.ref co, .null, .int nb, .int wd] [(co, .inr (5, [.long xx, .long xreadX, .ref soa, .ref sna, .ref swa, .int xkept, .ref ri, .ref ro, .ref rw, .int xasked])), (soa, .inl (cO, 600, .inr (.inr (.inr (.inr sof))))), (sna, .inl (cI, 600, .inl snf)), (swa, .inl (cI, 600, .inl swf))] sz (fun (u : Int32 × (Nat → Option Nat) × (Nat → Int32) × (Nat → Int32)) => 0 ≤ u.1.toInt ∧ ∀ i, u.2.1 i = sof i ∨ u.2.1 i = none) (fun (u : Int32 × (Nat → Option Nat) × (Nat → Int32) × (Nat → Int32)) => [(co, .inr (5, [.long xx, .long xreadX, .ref soa, .ref sna, .ref swa, .int u.1, .ref ri, .ref ro, .ref rw, .int xasked])), (soa, .inl (cO, 600, .inr (.inr (.inr (.inr u.2.1))))), (sna, .inl (cI, 600, .inl u.2.2.1)), (swa, .inl (cI, 600, .inl u.2.2.2))]) 0 0 := by
  refine my_ofV (cc := prog_11_method_11_code) (n := 4) (ret := none) (by decide) rfl (Nat.le_of_ble_eq_true rfl) ?_
  intro p e s m args below meth c R Q A ls H locs hx hb hr hts hown hlocks hml hnm hR hQ hA hl hP hK hN hD hS
  have hg : ∀ w ∈ gw, w.before args s = true := fun w h => hts w (List.mem_cons_of_mem _ h)
  have hown : s.vm.findClass "RangeCoders$Stacked" = some m.cls := hown
  have hl : lv_has ls 4 [(0, .ref co), (1, .null), (2, .int nb), (3, .int wd)] := hl
  refine lv_aload_n hx hb d_Stacked_keep_0 rfl (lv_at hl 0 rfl) ?_
  refine va_get (D := (dC, dI)) (ci := 5) (v := .int xkept) (C := "RangeCoders$Table") (T := T_Table) (N := 10) hx hb hg in_Table hown hK hP 0 rfl rfl 5 (by decide) (hg _ k223) (fun _ h9 => h9) rfl d_Stacked_keep_1 ?_
  refine lv_if_lt (tgt := 57) hx hb d_Stacked_keep_4 (by decide) (fun c_1 => ?_) (fun c_1 => ?_)
  · exact my_vret hx hb hr hlocks hQ hK hS (Nat.le_refl _) (Nat.le_refl _) (xkept, sof, snf, swf) (⟨by first | assumption | exact I_up0 hkp0 (by assumption) (by assumption), by first | assumption | exact fun _ => Or.inl rfl | exact va_up_or _ _ _⟩) (hP.sub [0, 1, 2, 3] rfl) (hD.sub [0, 1, 2, 3] (by decide) rfl) d_Stacked_keep_57
  · refine lv_aload_n hx hb d_Stacked_keep_7 rfl (lv_at hl 0 rfl) ?_
    refine va_get (D := (dC, dI)) (ci := 5) (v := .int xkept) (C := "RangeCoders$Table") (T := T_Table) (N := 10) hx hb hg in_Table hown hK hP 0 rfl rfl 5 (by decide) (hg _ k223) (fun _ h9 => h9) rfl d_Stacked_keep_8 ?_
    refine lv_sipush (v := 600) hx hb d_Stacked_keep_11 (by decide) ?_
    refine lv_icmp_ge (tgt := 57) hx hb d_Stacked_keep_14 (by decide) (fun c_2 => ?_) (fun c_2 => ?_)
    · exact my_vret hx hb hr hlocks hQ hK hS (Nat.le_refl _) (Nat.le_refl _) (xkept, sof, snf, swf) (⟨by first | assumption | exact I_up0 hkp0 (by assumption) (by assumption), by first | assumption | exact fun _ => Or.inl rfl | exact va_up_or _ _ _⟩) (hP.sub [0, 1, 2, 3] rfl) (hD.sub [0, 1, 2, 3] (by decide) rfl) d_Stacked_keep_57
    · refine lv_aload_n hx hb d_Stacked_keep_17 rfl (lv_at hl 0 rfl) ?_
      refine va_get (D := (dC, dI)) (ci := 5) (v := .ref soa) (C := "RangeCoders$Table") (T := T_Table) (N := 10) hx hb hg in_Table hown hK hP 0 rfl rfl 2 (by decide) (hg _ k220) (fun _ h9 => h9) rfl d_Stacked_keep_18 ?_
      refine lv_aload_n hx hb d_Stacked_keep_21 rfl (lv_at hl 0 rfl) ?_
      refine va_get (D := (dC, dI)) (ci := 5) (v := .int xkept) (C := "RangeCoders$Table") (T := T_Table) (N := 10) hx hb hg in_Table hown hK hP 0 rfl rfl 5 (by decide) (hg _ k223) (fun _ h9 => h9) rfl d_Stacked_keep_22 ?_
      refine lv_aload_nN hx hb d_Stacked_keep_25 rfl (lv_at hl 1 rfl) ?_
      refine va_astqN hx hb hK hP hD hS 1 2 rfl rfl (by first | assumption | exact I_in (by omega) (by assumption) (by assumption) | exact I_in' (by omega) (by assumption) (by assumption)) d_Stacked_keep_26 (fun H locs hP hD hS => ?_)
      have hP : va_P (dC, dI) vwCl [(co, .inr (5, [.long xx, .long xreadX, .ref soa, .ref sna, .ref swa, .int xkept, .ref ri, .ref ro, .ref rw, .int xasked])), (soa, .inl (cO, 600, .inr (.inr (.inr (.inr (va_up sof xkept.toNatClampNeg (none))))))), (sna, .inl (cI, 600, .inl snf)), (swa, .inl (cI, 600, .inl swf))] H := hP
      have hD : va_D A [(co, .inr (5, [.long xx, .long xreadX, .ref soa, .ref sna, .ref swa, .int xkept, .ref ri, .ref ro, .ref rw, .int xasked])), (soa, .inl (cO, 600, .inr (.inr (.inr (.inr (va_up sof xkept.toNatClampNeg (none))))))), (sna, .inl (cI, 600, .inl snf)), (swa, .inl (cI, 600, .inl swf))] := hD
      refine lv_aload_n hx hb d_Stacked_keep_27 rfl (lv_at hl 0 rfl) ?_
      refine va_get (D := (dC, dI)) (ci := 5) (v := .ref sna) (C := "RangeCoders$Table") (T := T_Table) (N := 10) hx hb hg in_Table hown hK hP 0 rfl rfl 3 (by decide) (hg _ k221) (fun _ h9 => h9) rfl d_Stacked_keep_28 ?_
      refine lv_aload_n hx hb d_Stacked_keep_31 rfl (lv_at hl 0 rfl) ?_
      refine va_get (D := (dC, dI)) (ci := 5) (v := .int xkept) (C := "RangeCoders$Table") (T := T_Table) (N := 10) hx hb hg in_Table hown hK hP 0 rfl rfl 5 (by decide) (hg _ k223) (fun _ h9 => h9) rfl d_Stacked_keep_32 ?_
      refine lv_iload_n hx hb d_Stacked_keep_35 rfl (lv_at hl 2 rfl) ?_
      refine va_iast hx hb hK hP hD hS 2 0 rfl rfl (by first | assumption | exact I_in (by omega) (by assumption) (by assumption) | exact I_in' (by omega) (by assumption) (by assumption)) d_Stacked_keep_36 (fun H locs hP hD hS => ?_)
      have hP : va_P (dC, dI) vwCl [(co, .inr (5, [.long xx, .long xreadX, .ref soa, .ref sna, .ref swa, .int xkept, .ref ri, .ref ro, .ref rw, .int xasked])), (soa, .inl (cO, 600, .inr (.inr (.inr (.inr (va_up sof xkept.toNatClampNeg (none))))))), (sna, .inl (cI, 600, .inl (upd snf xkept.toNatClampNeg nb))), (swa, .inl (cI, 600, .inl swf))] H := hP
      have hD : va_D A [(co, .inr (5, [.long xx, .long xreadX, .ref soa, .ref sna, .ref swa, .int xkept, .ref ri, .ref ro, .ref rw, .int xasked])), (soa, .inl (cO, 600, .inr (.inr (.inr (.inr (va_up sof xkept.toNatClampNeg (none))))))), (sna, .inl (cI, 600, .inl (upd snf xkept.toNatClampNeg nb))), (swa, .inl (cI, 600, .inl swf))] := hD
      refine lv_aload_n hx hb d_Stacked_keep_37 rfl (lv_at hl 0 rfl) ?_
      refine va_get (D := (dC, dI)) (ci := 5) (v := .ref swa) (C := "RangeCoders$Table") (T := T_Table) (N := 10) hx hb hg in_Table hown hK hP 0 rfl rfl 4 (by decide) (hg _ k222) (fun _ h9 => h9) rfl d_Stacked_keep_38 ?_
      refine lv_aload_n hx hb d_Stacked_keep_41 rfl (lv_at hl 0 rfl) ?_
      refine va_get (D := (dC, dI)) (ci := 5) (v := .int xkept) (C := "RangeCoders$Table") (T := T_Table) (N := 10) hx hb hg in_Table hown hK hP 0 rfl rfl 5 (by decide) (hg _ k223) (fun _ h9 => h9) rfl d_Stacked_keep_42 ?_
      refine lv_iload_n hx hb d_Stacked_keep_45 rfl (lv_at hl 3 rfl) ?_
      refine va_iast hx hb hK hP hD hS 3 0 rfl rfl (by first | assumption | exact I_in (by omega) (by assumption) (by assumption) | exact I_in' (by omega) (by assumption) (by assumption)) d_Stacked_keep_46 (fun H locs hP hD hS => ?_)
      have hP : va_P (dC, dI) vwCl [(co, .inr (5, [.long xx, .long xreadX, .ref soa, .ref sna, .ref swa, .int xkept, .ref ri, .ref ro, .ref rw, .int xasked])), (soa, .inl (cO, 600, .inr (.inr (.inr (.inr (va_up sof xkept.toNatClampNeg (none))))))), (sna, .inl (cI, 600, .inl (upd snf xkept.toNatClampNeg nb))), (swa, .inl (cI, 600, .inl (upd swf xkept.toNatClampNeg wd)))] H := hP
      have hD : va_D A [(co, .inr (5, [.long xx, .long xreadX, .ref soa, .ref sna, .ref swa, .int xkept, .ref ri, .ref ro, .ref rw, .int xasked])), (soa, .inl (cO, 600, .inr (.inr (.inr (.inr (va_up sof xkept.toNatClampNeg (none))))))), (sna, .inl (cI, 600, .inl (upd snf xkept.toNatClampNeg nb))), (swa, .inl (cI, 600, .inl (upd swf xkept.toNatClampNeg wd)))] := hD
      refine lv_aload_n hx hb d_Stacked_keep_47 rfl (lv_at hl 0 rfl) ?_
      refine lv_dup hx hb d_Stacked_keep_48 rfl ?_
      refine va_get (D := (dC, dI)) (ci := 5) (v := .int xkept) (C := "RangeCoders$Table") (T := T_Table) (N := 10) hx hb hg in_Table hown hK hP 0 rfl rfl 5 (by decide) (hg _ k223) (fun _ h9 => h9) rfl d_Stacked_keep_49 ?_
      refine lv_iconst (v := 1) hx hb d_Stacked_keep_52 (by decide) ?_
      refine lv_iadd hx hb d_Stacked_keep_53 ?_
      refine lv_topi (fun v_3 ev_3 => ?_)
      refine va_put (D := (dC, dI)) (ci := 5) (v := .int v_3) (ty := .int) (C := "RangeCoders$Table") (T := T_Table) (N := 10) hx hb hg in_Table t_Table o_Table n_Table hown hK hP hD hS 0 rfl rfl 5 (by decide) (hg _ k223) (fun _ h9 => h9) rfl (by decide +kernel) rfl rfl (Nat.le_of_ble_eq_true rfl) d_Stacked_keep_54 (fun H locs hP hD hS => ?_)
      have hP : va_P (dC, dI) vwCl [(co, .inr (5, [.long xx, .long xreadX, .ref soa, .ref sna, .ref swa, .int v_3, .ref ri, .ref ro, .ref rw, .int xasked])), (soa, .inl (cO, 600, .inr (.inr (.inr (.inr (va_up sof xkept.toNatClampNeg (none))))))), (sna, .inl (cI, 600, .inl (upd snf xkept.toNatClampNeg nb))), (swa, .inl (cI, 600, .inl (upd swf xkept.toNatClampNeg wd)))] H := hP
      have hD : va_D A [(co, .inr (5, [.long xx, .long xreadX, .ref soa, .ref sna, .ref swa, .int v_3, .ref ri, .ref ro, .ref rw, .int xasked])), (soa, .inl (cO, 600, .inr (.inr (.inr (.inr (va_up sof xkept.toNatClampNeg (none))))))), (sna, .inl (cI, 600, .inl (upd snf xkept.toNatClampNeg nb))), (swa, .inl (cI, 600, .inl (upd swf xkept.toNatClampNeg wd)))] := hD
      exact my_vret hx hb hr hlocks hQ hK hS (Nat.le_refl _) (Nat.le_refl _) (v_3, va_up sof xkept.toNatClampNeg (none), upd snf xkept.toNatClampNeg nb, upd swf xkept.toNatClampNeg wd) (⟨by first | assumption | exact I_up0 hkp0 (by assumption) (by assumption), by first | assumption | exact fun _ => Or.inl rfl | exact va_up_or _ _ _⟩) (hP.sub [0, 1, 2, 3] rfl) (hD.sub [0, 1, 2, 3] (by decide) rfl) d_Stacked_keep_57
set_option maxHeartbeats 2000000 in
set_option maxRecDepth 100000 in
theorem c_Table_Stacked_writeSign (l : Launch) (dC : Nat → ClassId) (dI : Nat → Nat → Nat) (cI cM cO : ClassId) (sz : Nat) (co : Nat) (xx : Int64) (xreadX : Int64) (soa : Nat) (sna : Nat) (swa : Nat) (xkept : Int32) (ri : Nat) (ro : Nat) (rw : Nat) (xasked : Int32) (sof : Nat → Option Nat) (snf : Nat → Int32) (swf : Nat → Int32) (oo : Nat) (osg : Int32) (osm : Int32) (ofc : Int32) (oca : Nat) (opa : Nat) (ol : Nat) (ocf : Nat → Int32) (opl : Nat) (opf : Nat → Int32) (ii : Int32) (hol : ol ≤ 64) (hopl : opl ≤ 512) (hkp0 : 0 ≤ xkept.toInt) : MetV l y_Stacked_writeSign (Cond.code y_Stacked_writeSign prog_11_method_7_code 3 none :: gw) ({ frames := 1, cells := 0, slots := 0, locals := 23 } : Room) (dC, dI) vwCl (kT cI cM cO) [.ref co, .ref oo, .int ii] [(co, .inr (5, [.long xx, .long xreadX, .ref soa, .ref sna, .ref swa, .int xkept, .ref ri, .ref ro, .ref rw, .int xasked])), (soa, .inl (cO, 600, .inr (.inr (.inr (.inr sof))))), (sna, .inl (cI, 600, .inl snf)), (swa, .inl (cI, 600, .inl swf)), (oo, .inr (7, [.int osg, .int osm, .int ofc, .ref oca, .ref opa])), (oca, .inl (cI, ol, .inl ocf)), (opa, .inl (cI, opl, .inl opf))] sz (fun (u : Int32 × (Nat → Option Nat) × (Nat → Int32) × (Nat → Int32)) => 0 ≤ u.1.toInt ∧ ∀ i, u.2.1 i = sof i ∨ u.2.1 i = some oo) (fun (u : Int32 × (Nat → Option Nat) × (Nat → Int32) × (Nat → Int32)) => [(co, .inr (5, [.long xx, .long xreadX, .ref soa, .ref sna, .ref swa, .int u.1, .ref ri, .ref ro, .ref rw, .int xasked])), (soa, .inl (cO, 600, .inr (.inr (.inr (.inr u.2.1))))), (sna, .inl (cI, 600, .inl u.2.2.1)), (swa, .inl (cI, 600, .inl u.2.2.2)), (oo, .inr (7, [.int osg, .int osm, .int ofc, .ref oca, .ref opa])), (oca, .inl (cI, ol, .inl ocf)), (opa, .inl (cI, opl, .inl opf))]) 0 0 := by
  refine my_ofV (cc := prog_11_method_7_code) (n := 3) (ret := none) (by decide) rfl (Nat.le_of_ble_eq_true rfl) ?_
  intro p e s m args below meth c R Q A ls H locs hx hb hr hts hown hlocks hml hnm hR hQ hA hl hP hK hN hD hS
  have hg : ∀ w ∈ gw, w.before args s = true := fun w h => hts w (List.mem_cons_of_mem _ h)
  have hown : s.vm.findClass "RangeCoders$Stacked" = some m.cls := hown
  have hl : lv_has ls 3 [(0, .ref co), (1, .ref oo), (2, .int ii)] := hl
  refine lv_aload_n hx hb d_Stacked_writeSign_0 rfl (lv_at hl 0 rfl) ?_
  refine lv_aload_n hx hb d_Stacked_writeSign_1 rfl (lv_at hl 1 rfl) ?_
  refine lv_iload_n hx hb d_Stacked_writeSign_2 rfl (lv_at hl 2 rfl) ?_
  refine lv_iconst (v := 0) hx hb d_Stacked_writeSign_3 (by decide) ?_
  refine my_cv (wr := []) (va_runU (As := [.ref oo, .int ii, .int 0]) (rest := []) ⟨hx, hb, hml, hown, hts⟩ (c_Table_Stacked_keep l dC dI cI cM cO H.size co xx xreadX soa sna swa xkept ri ro rw xasked sof snf swf oo osg osm ofc oca opa ol ocf opl opf ii 0 (by first | assumption | omega) (by first | assumption | omega) (by first | assumption | omega)) (va_cwU 3 hts (my_gU k534 k1286 kx3 k536 k9 k537) rfl rfl rfl rfl (by decide +kernel) ⟨by rw [hR]; exact Nat.le_of_ble_eq_true rfl, by rw [hR]; exact Nat.le_of_ble_eq_true rfl⟩) (my_preV hK hN (hP.sub [0, 1, 2, 3, 4, 5, 6] rfl) (hD.sub [0, 1, 2, 3, 4, 5, 6] (by decide) rfl) 0 rfl rfl) rfl rfl hl.1 rfl (lv_room (Nat.le_of_ble_eq_true rfl)) d_Stacked_writeSign_4 ⟨by rw [hR]; exact Nat.le_of_ble_eq_true rfl, by rw [hR]; exact Nat.le_of_ble_eq_true rfl⟩) hP hD hS hA [0, 1, 2, 3, 4, 5, 6] [] rfl rfl (by decide) (by decide) (fun u9 H locs hw_4 hP hD hS => ?_)
  obtain ⟨xkeptq_4, sofq_4, snfq_4, swfq_4⟩ := u9
  obtain ⟨hkp_4, hso_4⟩ : 0 ≤ xkeptq_4.toInt ∧ ∀ i, sofq_4 i = sof i ∨ sofq_4 i = some oo := hw_4
  have hP : va_P (dC, dI) vwCl [(co, .inr (5, [.long xx, .long xreadX, .ref soa, .ref sna, .ref swa, .int xkeptq_4, .ref ri, .ref ro, .ref rw, .int xasked])), (soa, .inl (cO, 600, .inr (.inr (.inr (.inr sofq_4))))), (sna, .inl (cI, 600, .inl snfq_4)), (swa, .inl (cI, 600, .inl swfq_4)), (oo, .inr (7, [.int osg, .int osm, .int ofc, .ref oca, .ref opa])), (oca, .inl (cI, ol, .inl ocf)), (opa, .inl (cI, opl, .inl opf))] H := hP
  have hD : va_D A [(co, .inr (5, [.long xx, .long xreadX, .ref soa, .ref sna, .ref swa, .int xkeptq_4, .ref ri, .ref ro, .ref rw, .int xasked])), (soa, .inl (cO, 600, .inr (.inr (.inr (.inr sofq_4))))), (sna, .inl (cI, 600, .inl snfq_4)), (swa, .inl (cI, 600, .inl swfq_4)), (oo, .inr (7, [.int osg, .int osm, .int ofc, .ref oca, .ref opa])), (oca, .inl (cI, ol, .inl ocf)), (opa, .inl (cI, opl, .inl opf))] := hD
  exact my_vret hx hb hr hlocks hQ hK hS (Nat.le_refl _) (Nat.le_refl _) (xkeptq_4, sofq_4, snfq_4, swfq_4) (⟨by first | assumption | (subst_vars; assumption), by first | assumption | exact fun _ => Or.inl rfl | exact va_up_or _ _ _⟩) (hP.sub [0, 1, 2, 3, 4, 5, 6] rfl) (hD.sub [0, 1, 2, 3, 4, 5, 6] (by decide) rfl) d_Stacked_writeSign_7
set_option maxHeartbeats 2000000 in
set_option maxRecDepth 100000 in
theorem c_Table_Stacked_writeValue (l : Launch) (dC : Nat → ClassId) (dI : Nat → Nat → Nat) (cI cM cO : ClassId) (sz : Nat) (co : Nat) (xx : Int64) (xreadX : Int64) (soa : Nat) (sna : Nat) (swa : Nat) (xkept : Int32) (ri : Nat) (ro : Nat) (rw : Nat) (xasked : Int32) (sof : Nat → Option Nat) (snf : Nat → Int32) (swf : Nat → Int32) (vv : Int32) (wd : Int32) (hkp0 : 0 ≤ xkept.toInt) : MetV l y_Stacked_writeValue (Cond.code y_Stacked_writeValue prog_11_method_8_code 3 none :: gw) ({ frames := 1, cells := 0, slots := 0, locals := 23 } : Room) (dC, dI) vwCl (kT cI cM cO) [.ref co, .int vv, .int wd] [(co, .inr (5, [.long xx, .long xreadX, .ref soa, .ref sna, .ref swa, .int xkept, .ref ri, .ref ro, .ref rw, .int xasked])), (soa, .inl (cO, 600, .inr (.inr (.inr (.inr sof))))), (sna, .inl (cI, 600, .inl snf)), (swa, .inl (cI, 600, .inl swf))] sz (fun (u : Int32 × (Nat → Option Nat) × (Nat → Int32) × (Nat → Int32)) => 0 ≤ u.1.toInt ∧ ∀ i, u.2.1 i = sof i ∨ u.2.1 i = none) (fun (u : Int32 × (Nat → Option Nat) × (Nat → Int32) × (Nat → Int32)) => [(co, .inr (5, [.long xx, .long xreadX, .ref soa, .ref sna, .ref swa, .int u.1, .ref ri, .ref ro, .ref rw, .int xasked])), (soa, .inl (cO, 600, .inr (.inr (.inr (.inr u.2.1))))), (sna, .inl (cI, 600, .inl u.2.2.1)), (swa, .inl (cI, 600, .inl u.2.2.2))]) 0 0 := by
  refine my_ofV (cc := prog_11_method_8_code) (n := 3) (ret := none) (by decide) rfl (Nat.le_of_ble_eq_true rfl) ?_
  intro p e s m args below meth c R Q A ls H locs hx hb hr hts hown hlocks hml hnm hR hQ hA hl hP hK hN hD hS
  have hg : ∀ w ∈ gw, w.before args s = true := fun w h => hts w (List.mem_cons_of_mem _ h)
  have hown : s.vm.findClass "RangeCoders$Stacked" = some m.cls := hown
  have hl : lv_has ls 3 [(0, .ref co), (1, .int vv), (2, .int wd)] := hl
  refine lv_aload_n hx hb d_Stacked_writeValue_0 rfl (lv_at hl 0 rfl) ?_
  refine lv_null hx hb d_Stacked_writeValue_1 ?_
  refine lv_iload_n hx hb d_Stacked_writeValue_2 rfl (lv_at hl 1 rfl) ?_
  refine lv_iload_n hx hb d_Stacked_writeValue_3 rfl (lv_at hl 2 rfl) ?_
  refine my_cv (wr := []) (va_runU (As := [.null, .int vv, .int wd]) (rest := []) ⟨hx, hb, hml, hown, hts⟩ (c_Table_Stacked_keepN l dC dI cI cM cO H.size co xx xreadX soa sna swa xkept ri ro rw xasked sof snf swf vv wd (by first | assumption | omega)) (va_cwU 3 hts (my_gU k534 k1286 kx3 k536 k9 k537) rfl rfl rfl rfl (by decide +kernel) ⟨by rw [hR]; exact Nat.le_of_ble_eq_true rfl, by rw [hR]; exact Nat.le_of_ble_eq_true rfl⟩) (my_preV hK hN (hP.sub [0, 1, 2, 3] rfl) (hD.sub [0, 1, 2, 3] (by decide) rfl) 0 rfl rfl) rfl rfl hl.1 rfl (lv_room (Nat.le_of_ble_eq_true rfl)) d_Stacked_writeValue_4 ⟨by rw [hR]; exact Nat.le_of_ble_eq_true rfl, by rw [hR]; exact Nat.le_of_ble_eq_true rfl⟩) hP hD hS hA [0, 1, 2, 3] [] rfl rfl (by decide) (by decide) (fun u9 H locs hw_4 hP hD hS => ?_)
  obtain ⟨xkeptq_4, sofq_4, snfq_4, swfq_4⟩ := u9
  obtain ⟨hkp_4, hso_4⟩ : 0 ≤ xkeptq_4.toInt ∧ ∀ i, sofq_4 i = sof i ∨ sofq_4 i = none := hw_4
  have hP : va_P (dC, dI) vwCl [(co, .inr (5, [.long xx, .long xreadX, .ref soa, .ref sna, .ref swa, .int xkeptq_4, .ref ri, .ref ro, .ref rw, .int xasked])), (soa, .inl (cO, 600, .inr (.inr (.inr (.inr sofq_4))))), (sna, .inl (cI, 600, .inl snfq_4)), (swa, .inl (cI, 600, .inl swfq_4))] H := hP
  have hD : va_D A [(co, .inr (5, [.long xx, .long xreadX, .ref soa, .ref sna, .ref swa, .int xkeptq_4, .ref ri, .ref ro, .ref rw, .int xasked])), (soa, .inl (cO, 600, .inr (.inr (.inr (.inr sofq_4))))), (sna, .inl (cI, 600, .inl snfq_4)), (swa, .inl (cI, 600, .inl swfq_4))] := hD
  exact my_vret hx hb hr hlocks hQ hK hS (Nat.le_refl _) (Nat.le_refl _) (xkeptq_4, sofq_4, snfq_4, swfq_4) (⟨by first | assumption | (subst_vars; assumption), by first | assumption | exact fun _ => Or.inl rfl | exact va_up_or _ _ _⟩) (hP.sub [0, 1, 2, 3] rfl) (hD.sub [0, 1, 2, 3] (by decide) rfl) d_Stacked_writeValue_7
