section
set_option maxHeartbeats 2000000 in
set_option maxRecDepth 100000 in
theorem c_RC_getA_NoCarries (l : Launch) (dC : Nat → ClassId) (dI : Nat → Nat → Nat) (cI cM cO : ClassId) (sz : Nat) (rc : Nat) (ma : Nat) (k : Nat) (fit : Int32) (fen : Int32) (frd : Int32) (fbd : Int32) (fir : Int32) (mf : Nat → Option Nat) (co : Nat) (xlow : Int64) (xrange : Int64) (xcode : Int64) (xreadLow : Int64) (xreadRange : Int64) (ri : Nat) (ro : Nat) (rw : Nat) (xasked : Int32) (mm : Int32) (hk8 : k ≤ 8) (hbad : mm < 0 ∨ nI k ≤ mm) : MetI l y_RC_get (Cond.code y_RC_get prog_1_method_13_code 3 (some .int) :: gw) ({ frames := 1, cells := 0, slots := 0, locals := 21 } : Room) (dC, dI) vwCl (kT cI cM cO) [Value.ref rc, Value.int mm] [(rc, Sum.inr (6, [Value.ref co, Value.ref ma, Value.int (nI k), Value.int fit, Value.int fen, Value.int frd, Value.int fbd, Value.int fir])), (ma, Sum.inl (cM, 8, Sum.inr (Sum.inr (Sum.inr (Sum.inr mf))))), (co, Sum.inr (2, [Value.long xlow, Value.long xrange, Value.long xcode, Value.long xreadLow, Value.long xreadRange, Value.ref ri, Value.ref ro, Value.ref rw, Value.int xasked]))] sz (fun (r : Int32) (u : Unit) => True) (fun (u : Unit) => [(rc, Sum.inr (6, [Value.ref co, Value.ref ma, Value.int (nI k), Value.int fit, Value.int fen, Value.int frd, Value.int fbd, Value.int fir])), (ma, Sum.inl (cM, 8, Sum.inr (Sum.inr (Sum.inr (Sum.inr mf))))), (co, Sum.inr (2, [Value.long xlow, Value.long xrange, Value.long xcode, Value.long xreadLow, Value.long xreadRange, Value.ref ri, Value.ref ro, Value.ref rw, Value.int xasked]))]) 0 0 := by
  refine my_ofI (cc := prog_1_method_13_code) (n := 3) (ret := (some .int)) (by decide) rfl (Nat.le_of_ble_eq_true rfl) ?_
  intro p e s m args below meth c R Q A ls H locs hx hb hr hts hown hlocks hml hnm hR hQ hA hl hP hK hN hD hS
  have hg : ∀ w ∈ gw, w.before args s = true := fun w h => hts w (List.mem_cons_of_mem _ h)
  have hown : s.vm.findClass "RangeCoders" = some m.cls := hown
  have hl : lv_has ls 3 [(0, Value.ref rc), (1, Value.int mm)] := hl
  refine lv_aload_n hx hb d_RC_get_0 rfl (lv_at hl 0 rfl) ?_
  refine lv_iload_n hx hb d_RC_get_1 rfl (lv_at hl 1 rfl) ?_
  refine my_cq (wr := [(co, Sum.inr (2, [Value.long xlow, Value.long xrange, Value.long xcode, Value.long xreadLow, Value.long xreadRange, Value.ref ri, Value.ref ro, Value.ref rw, Value.int xasked]))]) (va_runV (As := [Value.int mm]) (rest := []) ⟨hx, hb, hml, hown, hts⟩ (c_RC_modelAtA l dC dI cI cM cO H.size rc ma k fit fen frd fbd fir mf co mm (by first | assumption | omega)) (cwV 1 hts (my_gV k412 k414 ks3 k1 k415) rfl rfl rfl cu_RC_modelAt_1 ⟨by rw [hR]; exact Nat.le_of_ble_eq_true rfl, by rw [hR]; exact Nat.le_of_ble_eq_true rfl⟩) (my_preV hK hN (hP.sub [0, 1] rfl) (hD.sub [0, 1] (by decide +kernel) rfl) 0 rfl rfl) rfl rfl hl.1 rfl (lv_room (Nat.le_of_ble_eq_true rfl)) d_RC_get_2 ⟨by rw [hR]; exact Nat.le_of_ble_eq_true rfl, by rw [hR]; exact Nat.le_of_ble_eq_true rfl⟩) hP hD hS hA [0, 1] [2] rfl rfl (by decide +kernel) (by decide +kernel) (fun r_2 u9 H locs hw_2 hP hD hS => ?_)
  have hr_2 : r_2 = none := hw_2
  have hPD : my_PD (dC, dI) vwCl A [(co, Sum.inr (2, [Value.long xlow, Value.long xrange, Value.long xcode, Value.long xreadLow, Value.long xreadRange, Value.ref ri, Value.ref ro, Value.ref rw, Value.int xasked])), (rc, Sum.inr (6, [Value.ref co, Value.ref ma, Value.int (nI k), Value.int fit, Value.int fen, Value.int frd, Value.int fbd, Value.int fir])), (ma, Sum.inl (cM, 8, Sum.inr (Sum.inr (Sum.inr (Sum.inr mf)))))] H := ⟨hP, hD⟩
  have hP := hPD.1
  have hD := hPD.2
  subst hr_2
  refine W.eq (g2 := F0 m 5 ls [Value.null]) rfl ?_
  refine lv_astore_nN (lv' := [(2, Value.null), (0, Value.ref rc), (1, Value.int mm)]) hx hb d_RC_get_5 rfl hl (by decide) rfl (fun ls hl => ?_)
  refine lv_aload_nN hx hb d_RC_get_6 rfl (lv_at hl 0 rfl) ?_
  refine lv_ifnonnullN hx hb d_RC_get_7 ?_
  refine lv_iconst (v := (-1)) hx hb d_RC_get_10 (by decide) ?_
  exact my_iret (v := (-1)) hx hb hr (rfl) hlocks hQ hK hS (Nat.le_refl _) (Nat.le_refl _) () (trivial) (hP.sub [1, 2, 0] rfl) (hD.sub [1, 2, 0] (by decide +kernel) rfl) d_RC_get_11
set_option maxHeartbeats 2000000 in
set_option maxRecDepth 100000 in
theorem c_RC_getB_NoCarries (l : Launch) (dC : Nat → ClassId) (dI : Nat → Nat → Nat) (cI cM cO : ClassId) (sz : Nat) (rc : Nat) (ma : Nat) (k : Nat) (fit : Int32) (fen : Int32) (frd : Int32) (fbd : Int32) (fir : Int32) (mf : Nat → Option Nat) (co : Nat) (xlow : Int64) (xrange : Int64) (xcode : Int64) (xreadLow : Int64) (xreadRange : Int64) (ri : Nat) (ro : Nat) (rw : Nat) (xasked : Int32) (rin : Int32) (ria : Nat) (rik : Nat) (rif : Nat → Int32) (j : Nat) (mo : Nat) (o2 : Nat) (oo : Nat) (osg : Int32) (osm : Int32) (ofc : Int32) (oca : Nat) (opa : Nat) (ol : Nat) (ocf : Nat → Int32) (opl : Nat) (opf : Nat → Int32) (ka : Nat) (kl : Nat) (kf : Nat → Int32) (hk8 : k ≤ 8) (hri : rOk rin rik) (hj : j < k) (hmf : mf j = some mo) (hol : ol ≤ 64) (hopl : opl ≤ 512) (hol0 : 1 ≤ ol) (hkl : kl ≤ 64) : MetI l y_RC_get (Cond.code y_RC_get prog_1_method_13_code 3 (some .int) :: gw) ({ frames := 5, cells := 0, slots := 0, locals := 112 } : Room) (dC, dI) vwCl (kT cI cM cO) [Value.ref rc, Value.int (nI j)] [(rc, Sum.inr (6, [Value.ref co, Value.ref ma, Value.int (nI k), Value.int fit, Value.int fen, Value.int frd, Value.int fbd, Value.int fir])), (ma, Sum.inl (cM, 8, Sum.inr (Sum.inr (Sum.inr (Sum.inr mf))))), (co, Sum.inr (2, [Value.long xlow, Value.long xrange, Value.long xcode, Value.long xreadLow, Value.long xreadRange, Value.ref ri, Value.ref ro, Value.ref rw, Value.int xasked])), (ri, Sum.inr (0, [Value.int rin, Value.ref ria])), (ria, Sum.inl (cI, rik, Sum.inl rif)), (mo, Sum.inr (8, [Value.ref ka, Value.ref o2, Value.ref oo])), (ka, Sum.inl (cI, kl, Sum.inl kf)), (oo, Sum.inr (7, [Value.int osg, Value.int osm, Value.int ofc, Value.ref oca, Value.ref opa])), (oca, Sum.inl (cI, ol, Sum.inl ocf)), (opa, Sum.inl (cI, opl, Sum.inl opf))] sz (fun (r : Int32) (u : Int32 × Int32 × Int64 × Int64 × Int64 × Int32 × Int32 × (Nat → Int32)) => True) (fun (u : Int32 × Int32 × Int64 × Int64 × Int64 × Int32 × Int32 × (Nat → Int32)) => [(rc, Sum.inr (6, [Value.ref co, Value.ref ma, Value.int (nI k), Value.int fit, Value.int fen, Value.int frd, Value.int u.1, Value.int u.2.1])), (ma, Sum.inl (cM, 8, Sum.inr (Sum.inr (Sum.inr (Sum.inr mf))))), (co, Sum.inr (2, [Value.long xlow, Value.long xrange, Value.long u.2.2.1, Value.long u.2.2.2.1, Value.long u.2.2.2.2.1, Value.ref ri, Value.ref ro, Value.ref rw, Value.int u.2.2.2.2.2.1])), (ri, Sum.inr (0, [Value.int rin, Value.ref ria])), (ria, Sum.inl (cI, rik, Sum.inl rif)), (mo, Sum.inr (8, [Value.ref ka, Value.ref o2, Value.ref oo])), (ka, Sum.inl (cI, kl, Sum.inl kf)), (oo, Sum.inr (7, [Value.int osg, Value.int u.2.2.2.2.2.2.1, Value.int ofc, Value.ref oca, Value.ref opa])), (oca, Sum.inl (cI, ol, Sum.inl u.2.2.2.2.2.2.2)), (opa, Sum.inl (cI, opl, Sum.inl opf))]) 0 0 := by
  refine my_ofI (cc := prog_1_method_13_code) (n := 3) (ret := (some .int)) (by decide) rfl (Nat.le_of_ble_eq_true rfl) ?_
  intro p e s m args below meth c R Q A ls H locs hx hb hr hts hown hlocks hml hnm hR hQ hA hl hP hK hN hD hS
  have hg : ∀ w ∈ gw, w.before args s = true := fun w h => hts w (List.mem_cons_of_mem _ h)
  have hown : s.vm.findClass "RangeCoders" = some m.cls := hown
  have hl : lv_has ls 3 [(0, Value.ref rc), (1, Value.int (nI j))] := hl
  have hlt_hri := rOk_lt hri
  refine lv_aload_n hx hb d_RC_get_0 rfl (lv_at hl 0 rfl) ?_
  refine lv_iload_n hx hb d_RC_get_1 rfl (lv_at hl 1 rfl) ?_
  refine my_cq (wr := [(co, Sum.inr (2, [Value.long xlow, Value.long xrange, Value.long xcode, Value.long xreadLow, Value.long xreadRange, Value.ref ri, Value.ref ro, Value.ref rw, Value.int xasked])), (ri, Sum.inr (0, [Value.int rin, Value.ref ria])), (ria, Sum.inl (cI, rik, Sum.inl rif)), (mo, Sum.inr (8, [Value.ref ka, Value.ref o2, Value.ref oo])), (ka, Sum.inl (cI, kl, Sum.inl kf)), (oo, Sum.inr (7, [Value.int osg, Value.int osm, Value.int ofc, Value.ref oca, Value.ref opa])), (oca, Sum.inl (cI, ol, Sum.inl ocf)), (opa, Sum.inl (cI, opl, Sum.inl opf))]) (va_runV (As := [Value.int (nI j)]) (rest := []) ⟨hx, hb, hml, hown, hts⟩ (c_RC_modelAtB l dC dI cI cM cO H.size rc ma k fit fen frd fbd fir mf co j mo (by first | assumption | omega) (by first | assumption | omega) (by first | assumption | omega)) (cwV 1 hts (my_gV k412 k414 ks3 k1 k415) rfl rfl rfl cu_RC_modelAt_1 ⟨by rw [hR]; exact Nat.le_of_ble_eq_true rfl, by rw [hR]; exact Nat.le_of_ble_eq_true rfl⟩) (my_preV hK hN (hP.sub [0, 1] rfl) (hD.sub [0, 1] (by decide +kernel) rfl) 0 rfl rfl) rfl rfl hl.1 rfl (lv_room (Nat.le_of_ble_eq_true rfl)) d_RC_get_2 ⟨by rw [hR]; exact Nat.le_of_ble_eq_true rfl, by rw [hR]; exact Nat.le_of_ble_eq_true rfl⟩) hP hD hS hA [0, 1] [2, 3, 4, 5, 6, 7, 8, 9] rfl rfl (by decide +kernel) (by decide +kernel) (fun r_2 u9 H locs hw_2 hP hD hS => ?_)
  have hr_2 : r_2 = some mo := hw_2
  have hPD : my_PD (dC, dI) vwCl A [(co, Sum.inr (2, [Value.long xlow, Value.long xrange, Value.long xcode, Value.long xreadLow, Value.long xreadRange, Value.ref ri, Value.ref ro, Value.ref rw, Value.int xasked])), (ri, Sum.inr (0, [Value.int rin, Value.ref ria])), (ria, Sum.inl (cI, rik, Sum.inl rif)), (mo, Sum.inr (8, [Value.ref ka, Value.ref o2, Value.ref oo])), (ka, Sum.inl (cI, kl, Sum.inl kf)), (oo, Sum.inr (7, [Value.int osg, Value.int osm, Value.int ofc, Value.ref oca, Value.ref opa])), (oca, Sum.inl (cI, ol, Sum.inl ocf)), (opa, Sum.inl (cI, opl, Sum.inl opf)), (rc, Sum.inr (6, [Value.ref co, Value.ref ma, Value.int (nI k), Value.int fit, Value.int fen, Value.int frd, Value.int fbd, Value.int fir])), (ma, Sum.inl (cM, 8, Sum.inr (Sum.inr (Sum.inr (Sum.inr mf)))))] H := ⟨hP, hD⟩
  have hP := hPD.1
  have hD := hPD.2
  subst hr_2
  refine W.eq (g2 := F0 m 5 ls [Value.ref mo]) rfl ?_
  refine lv_astore_n (lv' := [(2, Value.ref mo), (0, Value.ref rc), (1, Value.int (nI j))]) hx hb d_RC_get_5 rfl hl (by decide) rfl (fun ls hl => ?_)
  refine lv_aload_n hx hb d_RC_get_6 rfl (lv_at hl 0 rfl) ?_
  refine lv_ifnonnull (tgt := 12) hx hb d_RC_get_7 (by decide) ?_
  refine lv_aload_n hx hb d_RC_get_12 rfl (lv_at hl 1 rfl) ?_
  refine va_get (D := (dC, dI)) (ci := 6) (v := .int frd) (C := "RangeCoders") (T := T_RC) (N := 8) hx hb hg in_RC hown hK hP 8 rfl rfl 5 (by decide) (hg _ k263) (fun _ h9 => h9) rfl d_RC_get_13 ?_
  refine lv_if_ne (tgt := 22) hx hb d_RC_get_16 (by decide) (fun c_1 => ?_) (fun c_1 => ?_)
  · refine lv_aload_n hx hb d_RC_get_22 rfl (lv_at hl 1 rfl) ?_
    refine va_get (D := (dC, dI)) (ci := 6) (v := .int fbd) (C := "RangeCoders") (T := T_RC) (N := 8) hx hb hg in_RC hown hK hP 8 rfl rfl 6 (by decide) (hg _ k264) (fun _ h9 => h9) rfl d_RC_get_23 ?_
    refine lv_if_eq (tgt := 34) hx hb d_RC_get_26 (by decide) (fun c_2 => ?_) (fun c_2 => ?_)
    · refine lv_aload_n hx hb d_RC_get_34 rfl (lv_at hl 1 rfl) ?_
      refine lv_aload_n hx hb d_RC_get_35 rfl (lv_at hl 1 rfl) ?_
      refine va_get (D := (dC, dI)) (ci := 6) (v := .ref co) (C := "RangeCoders") (T := T_RC) (N := 8) hx hb hg in_RC hown hK hP 8 rfl rfl 0 (by decide) (hg _ k258) (fun _ h9 => h9) rfl d_RC_get_36 ?_
      refine lv_aload_n hx hb d_RC_get_39 rfl (lv_at hl 0 rfl) ?_
      refine va_get (D := (dC, dI)) (ci := 8) (v := .ref oo) (C := "RangeCoders$Model") (T := T_Model) (N := 3) hx hb hg in_Model hown hK hP 3 rfl rfl 2 (by decide) (hg _ k345) (fun _ h9 => h9) rfl d_RC_get_40 ?_
      refine my_ci (wr := [(mo, Sum.inr (8, [Value.ref ka, Value.ref o2, Value.ref oo])), (ka, Sum.inl (cI, kl, Sum.inl kf)), (rc, Sum.inr (6, [Value.ref co, Value.ref ma, Value.int (nI k), Value.int fit, Value.int fen, Value.int frd, Value.int fbd, Value.int fir])), (ma, Sum.inl (cM, 8, Sum.inr (Sum.inr (Sum.inr (Sum.inr mf)))))]) (va_runU (As := [Value.ref oo]) (rest := [Value.ref rc]) ⟨hx, hb, hml, hown, hts⟩ (c_NoCarries_Ranged_nextSign l dC dI cI cM cO H.size co xlow xrange xcode xreadLow xreadRange ri ro rw xasked rin ria rik rif oo osg osm ofc oca opa ol ocf opl opf (by first | assumption | omega) (by first | assumption | omega) (by first | assumption | omega)) (va_cwA 1 hts (my_gU k775 k777 k829 k805 k4 k806) rfl rfl rfl (hN.1 _ j776 rfl) (by decide +kernel) ⟨by rw [hR]; exact Nat.le_of_ble_eq_true rfl, by rw [hR]; exact Nat.le_of_ble_eq_true rfl⟩) (my_preV hK hN (hP.sub [0, 1, 2, 5, 6, 7] rfl) (hD.sub [0, 1, 2, 5, 6, 7] (by decide +kernel) rfl) 0 rfl rfl) rfl rfl hl.1 rfl (lv_room (Nat.le_of_ble_eq_true rfl)) d_RC_get_43 ⟨by rw [hR]; exact Nat.le_of_ble_eq_true rfl, by rw [hR]; exact Nat.le_of_ble_eq_true rfl⟩) hP hD hS hA [0, 1, 2, 5, 6, 7] [3, 4, 8, 9] rfl rfl (by decide +kernel) (by decide +kernel) (fun r_43 u9 H locs hw_43 hP hD hS => ?_)
      obtain ⟨xcodeq_43, xreadLowq_43, xreadRangeq_43, xaskedq_43, osmq_43, ocfq_43⟩ := u9
      have hPD : my_PD (dC, dI) vwCl A [(mo, Sum.inr (8, [Value.ref ka, Value.ref o2, Value.ref oo])), (ka, Sum.inl (cI, kl, Sum.inl kf)), (rc, Sum.inr (6, [Value.ref co, Value.ref ma, Value.int (nI k), Value.int fit, Value.int fen, Value.int frd, Value.int fbd, Value.int fir])), (ma, Sum.inl (cM, 8, Sum.inr (Sum.inr (Sum.inr (Sum.inr mf))))), (co, Sum.inr (2, [Value.long xlow, Value.long xrange, Value.long xcodeq_43, Value.long xreadLowq_43, Value.long xreadRangeq_43, Value.ref ri, Value.ref ro, Value.ref rw, Value.int xaskedq_43])), (ri, Sum.inr (0, [Value.int rin, Value.ref ria])), (ria, Sum.inl (cI, rik, Sum.inl rif)), (oo, Sum.inr (7, [Value.int osg, Value.int osmq_43, Value.int ofc, Value.ref oca, Value.ref opa])), (oca, Sum.inl (cI, ol, Sum.inl ocfq_43)), (opa, Sum.inl (cI, opl, Sum.inl opf))] H := ⟨hP, hD⟩
      have hP := hPD.1
      have hD := hPD.2
      refine my_ci (wr := [(mo, Sum.inr (8, [Value.ref ka, Value.ref o2, Value.ref oo])), (ka, Sum.inl (cI, kl, Sum.inl kf)), (ma, Sum.inl (cM, 8, Sum.inr (Sum.inr (Sum.inr (Sum.inr mf))))), (co, Sum.inr (2, [Value.long xlow, Value.long xrange, Value.long xcodeq_43, Value.long xreadLowq_43, Value.long xreadRangeq_43, Value.ref ri, Value.ref ro, Value.ref rw, Value.int xaskedq_43])), (ri, Sum.inr (0, [Value.int rin, Value.ref ria])), (ria, Sum.inl (cI, rik, Sum.inl rif)), (oo, Sum.inr (7, [Value.int osg, Value.int osmq_43, Value.int ofc, Value.ref oca, Value.ref opa])), (oca, Sum.inl (cI, ol, Sum.inl ocfq_43)), (opa, Sum.inl (cI, opl, Sum.inl opf))]) (va_runV (As := [Value.int r_43]) (rest := []) ⟨hx, hb, hml, hown, hts⟩ (c_RC_itemOrBad l dC dI cI cM cO H.size rc ma k fit fen frd fbd fir mf co r_43) (cwV 1 hts (my_gV k854 k856 ks17 k1 k857) rfl rfl rfl cu_RC_itemOrBad_1 ⟨by rw [hR]; exact Nat.le_of_ble_eq_true rfl, by rw [hR]; exact Nat.le_of_ble_eq_true rfl⟩) (my_preV hK hN (hP.sub [2] rfl) (hD.sub [2] (by decide +kernel) rfl) 0 rfl rfl) rfl rfl hl.1 rfl (lv_room (Nat.le_of_ble_eq_true rfl)) d_RC_get_46 ⟨by rw [hR]; exact Nat.le_of_ble_eq_true rfl, by rw [hR]; exact Nat.le_of_ble_eq_true rfl⟩) hP hD hS hA [2] [0, 1, 3, 4, 5, 6, 7, 8, 9] rfl rfl (by decide +kernel) (by decide +kernel) (fun r_46 u9 H locs hw_46 hP hD hS => ?_)
      obtain ⟨fbdq_46, firq_46⟩ := u9
      have hPD : my_PD (dC, dI) vwCl A [(mo, Sum.inr (8, [Value.ref ka, Value.ref o2, Value.ref oo])), (ka, Sum.inl (cI, kl, Sum.inl kf)), (ma, Sum.inl (cM, 8, Sum.inr (Sum.inr (Sum.inr (Sum.inr mf))))), (co, Sum.inr (2, [Value.long xlow, Value.long xrange, Value.long xcodeq_43, Value.long xreadLowq_43, Value.long xreadRangeq_43, Value.ref ri, Value.ref ro, Value.ref rw, Value.int xaskedq_43])), (ri, Sum.inr (0, [Value.int rin, Value.ref ria])), (ria, Sum.inl (cI, rik, Sum.inl rif)), (oo, Sum.inr (7, [Value.int osg, Value.int osmq_43, Value.int ofc, Value.ref oca, Value.ref opa])), (oca, Sum.inl (cI, ol, Sum.inl ocfq_43)), (opa, Sum.inl (cI, opl, Sum.inl opf)), (rc, Sum.inr (6, [Value.ref co, Value.ref ma, Value.int (nI k), Value.int fit, Value.int fen, Value.int frd, Value.int fbdq_46, Value.int firq_46]))] H := ⟨hP, hD⟩
      have hP := hPD.1
      have hD := hPD.2
      exact my_iret (v := r_46) hx hb hr (rfl) hlocks hQ hK hS (Nat.le_refl _) (Nat.le_refl _) (fbdq_46, firq_46, xcodeq_43, xreadLowq_43, xreadRangeq_43, xaskedq_43, osmq_43, ocfq_43) (trivial) (hP.sub [9, 2, 3, 4, 5, 0, 1, 6, 7, 8] rfl) (hD.sub [9, 2, 3, 4, 5, 0, 1, 6, 7, 8] (by decide +kernel) rfl) d_RC_get_49
    · refine lv_bipush (v := (-5)) hx hb d_RC_get_29 (by decide) ?_
      refine lv_goto (tgt := 49) hx hb d_RC_get_31 (by decide) ?_
      exact my_iret (v := (-5)) hx hb hr (rfl) hlocks hQ hK hS (Nat.le_refl _) (Nat.le_refl _) (fbd, fir, xcode, xreadLow, xreadRange, xasked, osm, ocf) (trivial) (hP.sub [8, 9, 0, 1, 2, 3, 4, 5, 6, 7] rfl) (hD.sub [8, 9, 0, 1, 2, 3, 4, 5, 6, 7] (by decide +kernel) rfl) d_RC_get_49
  · refine lv_bipush (v := (-3)) hx hb d_RC_get_19 (by decide) ?_
    exact my_iret (v := (-3)) hx hb hr (rfl) hlocks hQ hK hS (Nat.le_refl _) (Nat.le_refl _) (fbd, fir, xcode, xreadLow, xreadRange, xasked, osm, ocf) (trivial) (hP.sub [8, 9, 0, 1, 2, 3, 4, 5, 6, 7] rfl) (hD.sub [8, 9, 0, 1, 2, 3, 4, 5, 6, 7] (by decide +kernel) rfl) d_RC_get_21
set_option maxHeartbeats 2000000 in
set_option maxRecDepth 100000 in
theorem c_RC_getBits_NoCarries (l : Launch) (dC : Nat → ClassId) (dI : Nat → Nat → Nat) (cI cM cO : ClassId) (sz : Nat) (rc : Nat) (ma : Nat) (k : Nat) (fit : Int32) (fen : Int32) (frd : Int32) (fbd : Int32) (fir : Int32) (mf : Nat → Option Nat) (co : Nat) (xlow : Int64) (xrange : Int64) (xcode : Int64) (xreadLow : Int64) (xreadRange : Int64) (ri : Nat) (ro : Nat) (rw : Nat) (xasked : Int32) (rin : Int32) (ria : Nat) (rik : Nat) (rif : Nat → Int32) (wd : Int32) (hk8 : k ≤ 8) (hri : rOk rin rik) : MetI l y_RC_getBits (Cond.code y_RC_getBits prog_1_method_14_code 2 (some .int) :: gw) ({ frames := 5, cells := 0, slots := 0, locals := 111 } : Room) (dC, dI) vwCl (kT cI cM cO) [Value.ref rc, Value.int wd] [(rc, Sum.inr (6, [Value.ref co, Value.ref ma, Value.int (nI k), Value.int fit, Value.int fen, Value.int frd, Value.int fbd, Value.int fir])), (ma, Sum.inl (cM, 8, Sum.inr (Sum.inr (Sum.inr (Sum.inr mf))))), (co, Sum.inr (2, [Value.long xlow, Value.long xrange, Value.long xcode, Value.long xreadLow, Value.long xreadRange, Value.ref ri, Value.ref ro, Value.ref rw, Value.int xasked])), (ri, Sum.inr (0, [Value.int rin, Value.ref ria])), (ria, Sum.inl (cI, rik, Sum.inl rif))] sz (fun (r : Int32) (u : Int32 × Int32 × Int64 × Int64 × Int64 × Int32) => True) (fun (u : Int32 × Int32 × Int64 × Int64 × Int64 × Int32) => [(rc, Sum.inr (6, [Value.ref co, Value.ref ma, Value.int (nI k), Value.int fit, Value.int fen, Value.int frd, Value.int u.1, Value.int u.2.1])), (ma, Sum.inl (cM, 8, Sum.inr (Sum.inr (Sum.inr (Sum.inr mf))))), (co, Sum.inr (2, [Value.long xlow, Value.long xrange, Value.long u.2.2.1, Value.long u.2.2.2.1, Value.long u.2.2.2.2.1, Value.ref ri, Value.ref ro, Value.ref rw, Value.int u.2.2.2.2.2])), (ri, Sum.inr (0, [Value.int rin, Value.ref ria])), (ria, Sum.inl (cI, rik, Sum.inl rif))]) 0 0 := by
  refine my_ofI (cc := prog_1_method_14_code) (n := 2) (ret := (some .int)) (by decide) rfl (Nat.le_of_ble_eq_true rfl) ?_
  intro p e s m args below meth c R Q A ls H locs hx hb hr hts hown hlocks hml hnm hR hQ hA hl hP hK hN hD hS
  have hg : ∀ w ∈ gw, w.before args s = true := fun w h => hts w (List.mem_cons_of_mem _ h)
  have hown : s.vm.findClass "RangeCoders" = some m.cls := hown
  have hl : lv_has ls 2 [(0, Value.ref rc), (1, Value.int wd)] := hl
  have hlt_hri := rOk_lt hri
  refine lv_aload_n hx hb d_RC_getBits_0 rfl (lv_at hl 0 rfl) ?_
  refine va_get (D := (dC, dI)) (ci := 6) (v := .ref co) (C := "RangeCoders") (T := T_RC) (N := 8) hx hb hg in_RC hown hK hP 0 rfl rfl 0 (by decide) (hg _ k258) (fun _ h9 => h9) rfl d_RC_getBits_1 ?_
  refine lv_iload_n hx hb d_RC_getBits_4 rfl (lv_at hl 1 rfl) ?_
  refine my_ci (wr := [(rc, Sum.inr (6, [Value.ref co, Value.ref ma, Value.int (nI k), Value.int fit, Value.int fen, Value.int frd, Value.int fbd, Value.int fir])), (ma, Sum.inl (cM, 8, Sum.inr (Sum.inr (Sum.inr (Sum.inr mf))))), (ri, Sum.inr (0, [Value.int rin, Value.ref ria])), (ria, Sum.inl (cI, rik, Sum.inl rif))]) (va_runU (As := [Value.int wd]) (rest := []) ⟨hx, hb, hml, hown, hts⟩ (c_NoCarries_Coder_hasWidth l dC dI cI cM cO H.size co xlow xrange xcode xreadLow xreadRange ri ro rw xasked wd) (va_cwU 1 hts (my_gU k543 k545 k548 k544 k3 k553) rfl rfl rfl rfl (by decide +kernel) ⟨by rw [hR]; exact Nat.le_of_ble_eq_true rfl, by rw [hR]; exact Nat.le_of_ble_eq_true rfl⟩) (my_preV hK hN (hP.sub [2] rfl) (hD.sub [2] (by decide +kernel) rfl) 0 rfl rfl) rfl rfl hl.1 rfl (lv_room (Nat.le_of_ble_eq_true rfl)) d_RC_getBits_5 ⟨by rw [hR]; exact Nat.le_of_ble_eq_true rfl, by rw [hR]; exact Nat.le_of_ble_eq_true rfl⟩) hP hD hS hA [2] [0, 1, 3, 4] rfl rfl (by decide +kernel) (by decide +kernel) (fun r_5 u9 H locs hw_5 hP hD hS => ?_)
  have hPD : my_PD (dC, dI) vwCl A [(rc, Sum.inr (6, [Value.ref co, Value.ref ma, Value.int (nI k), Value.int fit, Value.int fen, Value.int frd, Value.int fbd, Value.int fir])), (ma, Sum.inl (cM, 8, Sum.inr (Sum.inr (Sum.inr (Sum.inr mf))))), (ri, Sum.inr (0, [Value.int rin, Value.ref ria])), (ria, Sum.inl (cI, rik, Sum.inl rif)), (co, Sum.inr (2, [Value.long xlow, Value.long xrange, Value.long xcode, Value.long xreadLow, Value.long xreadRange, Value.ref ri, Value.ref ro, Value.ref rw, Value.int xasked]))] H := ⟨hP, hD⟩
  have hP := hPD.1
  have hD := hPD.2
  refine lv_if_ne (tgt := 14) hx hb d_RC_getBits_8 (by decide) (fun c_1 => ?_) (fun c_1 => ?_)
  · refine lv_aload_n hx hb d_RC_getBits_14 rfl (lv_at hl 0 rfl) ?_
    refine va_get (D := (dC, dI)) (ci := 6) (v := .int frd) (C := "RangeCoders") (T := T_RC) (N := 8) hx hb hg in_RC hown hK hP 0 rfl rfl 5 (by decide) (hg _ k263) (fun _ h9 => h9) rfl d_RC_getBits_15 ?_
    refine lv_if_ne (tgt := 24) hx hb d_RC_getBits_18 (by decide) (fun c_2 => ?_) (fun c_2 => ?_)
    · refine lv_aload_n hx hb d_RC_getBits_24 rfl (lv_at hl 0 rfl) ?_
      refine va_get (D := (dC, dI)) (ci := 6) (v := .int fbd) (C := "RangeCoders") (T := T_RC) (N := 8) hx hb hg in_RC hown hK hP 0 rfl rfl 6 (by decide) (hg _ k264) (fun _ h9 => h9) rfl d_RC_getBits_25 ?_
      refine lv_if_eq (tgt := 36) hx hb d_RC_getBits_28 (by decide) (fun c_3 => ?_) (fun c_3 => ?_)
      · refine lv_aload_n hx hb d_RC_getBits_36 rfl (lv_at hl 0 rfl) ?_
        refine lv_aload_n hx hb d_RC_getBits_37 rfl (lv_at hl 0 rfl) ?_
        refine va_get (D := (dC, dI)) (ci := 6) (v := .ref co) (C := "RangeCoders") (T := T_RC) (N := 8) hx hb hg in_RC hown hK hP 0 rfl rfl 0 (by decide) (hg _ k258) (fun _ h9 => h9) rfl d_RC_getBits_38 ?_
        refine lv_iload_n hx hb d_RC_getBits_41 rfl (lv_at hl 1 rfl) ?_
        refine my_ci (wr := [(rc, Sum.inr (6, [Value.ref co, Value.ref ma, Value.int (nI k), Value.int fit, Value.int fen, Value.int frd, Value.int fbd, Value.int fir])), (ma, Sum.inl (cM, 8, Sum.inr (Sum.inr (Sum.inr (Sum.inr mf)))))]) (va_runU (As := [Value.int wd]) (rest := [Value.ref rc]) ⟨hx, hb, hml, hown, hts⟩ (c_NoCarries_Ranged_nextValue l dC dI cI cM cO H.size co xlow xrange xcode xreadLow xreadRange ri ro rw xasked rin ria rik rif wd (by first | assumption | omega)) (va_cwA 1 hts (my_gU k862 k864 k871 k869 k4 k870) rfl rfl rfl (hN.1 _ j863 rfl) (by decide +kernel) ⟨by rw [hR]; exact Nat.le_of_ble_eq_true rfl, by rw [hR]; exact Nat.le_of_ble_eq_true rfl⟩) (my_preV hK hN (hP.sub [4, 2, 3] rfl) (hD.sub [4, 2, 3] (by decide +kernel) rfl) 0 rfl rfl) rfl rfl hl.1 rfl (lv_room (Nat.le_of_ble_eq_true rfl)) d_RC_getBits_42 ⟨by rw [hR]; exact Nat.le_of_ble_eq_true rfl, by rw [hR]; exact Nat.le_of_ble_eq_true rfl⟩) hP hD hS hA [4, 2, 3] [0, 1] rfl rfl (by decide +kernel) (by decide +kernel) (fun r_42 u9 H locs hw_42 hP hD hS => ?_)
        obtain ⟨xcodeq_42, xreadLowq_42, xreadRangeq_42, xaskedq_42⟩ := u9
        have hPD : my_PD (dC, dI) vwCl A [(rc, Sum.inr (6, [Value.ref co, Value.ref ma, Value.int (nI k), Value.int fit, Value.int fen, Value.int frd, Value.int fbd, Value.int fir])), (ma, Sum.inl (cM, 8, Sum.inr (Sum.inr (Sum.inr (Sum.inr mf))))), (co, Sum.inr (2, [Value.long xlow, Value.long xrange, Value.long xcodeq_42, Value.long xreadLowq_42, Value.long xreadRangeq_42, Value.ref ri, Value.ref ro, Value.ref rw, Value.int xaskedq_42])), (ri, Sum.inr (0, [Value.int rin, Value.ref ria])), (ria, Sum.inl (cI, rik, Sum.inl rif))] H := ⟨hP, hD⟩
        have hP := hPD.1
        have hD := hPD.2
        refine my_ci (wr := [(ma, Sum.inl (cM, 8, Sum.inr (Sum.inr (Sum.inr (Sum.inr mf))))), (co, Sum.inr (2, [Value.long xlow, Value.long xrange, Value.long xcodeq_42, Value.long xreadLowq_42, Value.long xreadRangeq_42, Value.ref ri, Value.ref ro, Value.ref rw, Value.int xaskedq_42])), (ri, Sum.inr (0, [Value.int rin, Value.ref ria])), (ria, Sum.inl (cI, rik, Sum.inl rif))]) (va_runV (As := [Value.int r_42]) (rest := []) ⟨hx, hb, hml, hown, hts⟩ (c_RC_itemOrBad l dC dI cI cM cO H.size rc ma k fit fen frd fbd fir mf co r_42) (cwV 1 hts (my_gV k854 k856 ks17 k1 k857) rfl rfl rfl cu_RC_itemOrBad_1 ⟨by rw [hR]; exact Nat.le_of_ble_eq_true rfl, by rw [hR]; exact Nat.le_of_ble_eq_true rfl⟩) (my_preV hK hN (hP.sub [0] rfl) (hD.sub [0] (by decide +kernel) rfl) 0 rfl rfl) rfl rfl hl.1 rfl (lv_room (Nat.le_of_ble_eq_true rfl)) d_RC_getBits_45 ⟨by rw [hR]; exact Nat.le_of_ble_eq_true rfl, by rw [hR]; exact Nat.le_of_ble_eq_true rfl⟩) hP hD hS hA [0] [1, 2, 3, 4] rfl rfl (by decide +kernel) (by decide +kernel) (fun r_45 u9 H locs hw_45 hP hD hS => ?_)
        obtain ⟨fbdq_45, firq_45⟩ := u9
        have hPD : my_PD (dC, dI) vwCl A [(ma, Sum.inl (cM, 8, Sum.inr (Sum.inr (Sum.inr (Sum.inr mf))))), (co, Sum.inr (2, [Value.long xlow, Value.long xrange, Value.long xcodeq_42, Value.long xreadLowq_42, Value.long xreadRangeq_42, Value.ref ri, Value.ref ro, Value.ref rw, Value.int xaskedq_42])), (ri, Sum.inr (0, [Value.int rin, Value.ref ria])), (ria, Sum.inl (cI, rik, Sum.inl rif)), (rc, Sum.inr (6, [Value.ref co, Value.ref ma, Value.int (nI k), Value.int fit, Value.int fen, Value.int frd, Value.int fbdq_45, Value.int firq_45]))] H := ⟨hP, hD⟩
        have hP := hPD.1
        have hD := hPD.2
        exact my_iret (v := r_45) hx hb hr (rfl) hlocks hQ hK hS (Nat.le_refl _) (Nat.le_refl _) (fbdq_45, firq_45, xcodeq_42, xreadLowq_42, xreadRangeq_42, xaskedq_42) (trivial) (hP.sub [4, 0, 1, 2, 3] rfl) (hD.sub [4, 0, 1, 2, 3] (by decide +kernel) rfl) d_RC_getBits_48
      · refine lv_bipush (v := (-5)) hx hb d_RC_getBits_31 (by decide) ?_
        refine lv_goto (tgt := 48) hx hb d_RC_getBits_33 (by decide) ?_
        exact my_iret (v := (-5)) hx hb hr (rfl) hlocks hQ hK hS (Nat.le_refl _) (Nat.le_refl _) (fbd, fir, xcode, xreadLow, xreadRange, xasked) (trivial) (hP.sub [0, 1, 4, 2, 3] rfl) (hD.sub [0, 1, 4, 2, 3] (by decide +kernel) rfl) d_RC_getBits_48
    · refine lv_bipush (v := (-3)) hx hb d_RC_getBits_21 (by decide) ?_
      exact my_iret (v := (-3)) hx hb hr (rfl) hlocks hQ hK hS (Nat.le_refl _) (Nat.le_refl _) (fbd, fir, xcode, xreadLow, xreadRange, xasked) (trivial) (hP.sub [0, 1, 4, 2, 3] rfl) (hD.sub [0, 1, 4, 2, 3] (by decide +kernel) rfl) d_RC_getBits_23
  · refine lv_bipush (v := (-2)) hx hb d_RC_getBits_11 (by decide) ?_
    exact my_iret (v := (-2)) hx hb hr (rfl) hlocks hQ hK hS (Nat.le_refl _) (Nat.le_refl _) (fbd, fir, xcode, xreadLow, xreadRange, xasked) (trivial) (hP.sub [0, 1, 4, 2, 3] rfl) (hD.sub [0, 1, 4, 2, 3] (by decide +kernel) rfl) d_RC_getBits_13
set_option maxHeartbeats 2000000 in
set_option maxRecDepth 100000 in
theorem c_RC_told_NoCarries (l : Launch) (dC : Nat → ClassId) (dI : Nat → Nat → Nat) (cI cM cO : ClassId) (sz : Nat) (rc : Nat) (ma : Nat) (k : Nat) (fit : Int32) (fen : Int32) (frd : Int32) (fbd : Int32) (fir : Int32) (mf : Nat → Option Nat) (co : Nat) (xlow : Int64) (xrange : Int64) (xcode : Int64) (xreadLow : Int64) (xreadRange : Int64) (ri : Nat) (ro : Nat) (rw : Nat) (xasked : Int32) (rin : Int32) (ria : Nat) (rik : Nat) (rif : Nat → Int32) (ron : Int32) (roa : Nat) (rok : Nat) (rof : Nat → Int32) (wh : Int32) (hk8 : k ≤ 8) (hri : rOk rin rik) (hro : rOk ron rok) : MetI l y_RC_told (Cond.code y_RC_told prog_1_method_15_code 2 (some .int) :: gw) ({ frames := 1, cells := 0, slots := 0, locals := 20 } : Room) (dC, dI) vwCl (kT cI cM cO) [Value.ref rc, Value.int wh] [(rc, Sum.inr (6, [Value.ref co, Value.ref ma, Value.int (nI k), Value.int fit, Value.int fen, Value.int frd, Value.int fbd, Value.int fir])), (ma, Sum.inl (cM, 8, Sum.inr (Sum.inr (Sum.inr (Sum.inr mf))))), (co, Sum.inr (2, [Value.long xlow, Value.long xrange, Value.long xcode, Value.long xreadLow, Value.long xreadRange, Value.ref ri, Value.ref ro, Value.ref rw, Value.int xasked])), (ri, Sum.inr (0, [Value.int rin, Value.ref ria])), (ria, Sum.inl (cI, rik, Sum.inl rif)), (ro, Sum.inr (0, [Value.int ron, Value.ref roa])), (roa, Sum.inl (cI, rok, Sum.inl rof))] sz (fun (r : Int32) (u : Unit) => True) (fun (u : Unit) => [(rc, Sum.inr (6, [Value.ref co, Value.ref ma, Value.int (nI k), Value.int fit, Value.int fen, Value.int frd, Value.int fbd, Value.int fir])), (ma, Sum.inl (cM, 8, Sum.inr (Sum.inr (Sum.inr (Sum.inr mf))))), (co, Sum.inr (2, [Value.long xlow, Value.long xrange, Value.long xcode, Value.long xreadLow, Value.long xreadRange, Value.ref ri, Value.ref ro, Value.ref rw, Value.int xasked])), (ri, Sum.inr (0, [Value.int rin, Value.ref ria])), (ria, Sum.inl (cI, rik, Sum.inl rif)), (ro, Sum.inr (0, [Value.int ron, Value.ref roa])), (roa, Sum.inl (cI, rok, Sum.inl rof))]) 0 0 := by
  refine my_ofI (cc := prog_1_method_15_code) (n := 2) (ret := (some .int)) (by decide) rfl (Nat.le_of_ble_eq_true rfl) ?_
  intro p e s m args below meth c R Q A ls H locs hx hb hr hts hown hlocks hml hnm hR hQ hA hl hP hK hN hD hS
  have hg : ∀ w ∈ gw, w.before args s = true := fun w h => hts w (List.mem_cons_of_mem _ h)
  have hown : s.vm.findClass "RangeCoders" = some m.cls := hown
  have hl : lv_has ls 2 [(0, Value.ref rc), (1, Value.int wh)] := hl
  have hlt_hri := rOk_lt hri
  have hlt_hro := rOk_lt hro
  refine lv_iload_n hx hb d_RC_told_0 rfl (lv_at hl 1 rfl) ?_
  refine lv_if_lt (tgt := 10) hx hb d_RC_told_1 (by decide) (fun c_1 => ?_) (fun c_1 => ?_)
  · refine lv_bipush (v := (-2)) hx hb d_RC_told_10 (by decide) ?_
    exact my_iret (v := (-2)) hx hb hr (rfl) hlocks hQ hK hS (Nat.le_refl _) (Nat.le_refl _) () (trivial) (hP.sub [0, 1, 2, 3, 4, 5, 6] rfl) (hD.sub [0, 1, 2, 3, 4, 5, 6] (by decide +kernel) rfl) d_RC_told_12
  · refine lv_iload_n hx hb d_RC_told_4 rfl (lv_at hl 1 rfl) ?_
    refine lv_bipush (v := 7) hx hb d_RC_told_5 (by decide) ?_
    refine lv_icmp_le (tgt := 13) hx hb d_RC_told_7 (by decide) (fun c_2 => ?_) (fun c_2 => ?_)
    · refine lv_iload_n hx hb d_RC_told_13 rfl (lv_at hl 1 rfl) ?_
      by_cases c_3 : wh = 0
      · refine lv_tableIn (tgt := 56) hx hb d_RC_told_14 (by rw [c_3]; decide) (by rw [c_3]; decide) (by rw [c_3]; rfl) (by decide) ?_
        refine lv_aload_n hx hb d_RC_told_56 rfl (lv_at hl 0 rfl) ?_
        refine va_get (D := (dC, dI)) (ci := 6) (v := .int fit) (C := "RangeCoders") (T := T_RC) (N := 8) hx hb hg in_RC hown hK hP 0 rfl rfl 3 (by decide) (hg _ k261) (fun _ h9 => h9) rfl d_RC_told_57 ?_
        exact my_iret (v := fit) hx hb hr (rfl) hlocks hQ hK hS (Nat.le_refl _) (Nat.le_refl _) () (trivial) (hP.sub [0, 1, 2, 3, 4, 5, 6] rfl) (hD.sub [0, 1, 2, 3, 4, 5, 6] (by decide +kernel) rfl) d_RC_told_60
      by_cases c_4 : wh = 1
      · refine lv_tableIn (tgt := 61) hx hb d_RC_told_14 (by rw [c_4]; decide) (by rw [c_4]; decide) (by rw [c_4]; rfl) (by decide) ?_
        refine lv_aload_n hx hb d_RC_told_61 rfl (lv_at hl 0 rfl) ?_
        refine va_get (D := (dC, dI)) (ci := 6) (v := .int fen) (C := "RangeCoders") (T := T_RC) (N := 8) hx hb hg in_RC hown hK hP 0 rfl rfl 4 (by decide) (hg _ k262) (fun _ h9 => h9) rfl d_RC_told_62 ?_
        refine lv_if_eq (tgt := 72) hx hb d_RC_told_65 (by decide) (fun c_5 => ?_) (fun c_5 => ?_)
        · refine lv_iconst (v := 0) hx hb d_RC_told_72 (by decide) ?_
          exact my_iret (v := 0) hx hb hr (rfl) hlocks hQ hK hS (Nat.le_refl _) (Nat.le_refl _) () (trivial) (hP.sub [0, 1, 2, 3, 4, 5, 6] rfl) (hD.sub [0, 1, 2, 3, 4, 5, 6] (by decide +kernel) rfl) d_RC_told_73
        · refine lv_iconst (v := 1) hx hb d_RC_told_68 (by decide) ?_
          refine lv_goto (tgt := 73) hx hb d_RC_told_69 (by decide) ?_
          exact my_iret (v := 1) hx hb hr (rfl) hlocks hQ hK hS (Nat.le_refl _) (Nat.le_refl _) () (trivial) (hP.sub [0, 1, 2, 3, 4, 5, 6] rfl) (hD.sub [0, 1, 2, 3, 4, 5, 6] (by decide +kernel) rfl) d_RC_told_73
      by_cases c_6 : wh = 2
      · refine lv_tableIn (tgt := 74) hx hb d_RC_told_14 (by rw [c_6]; decide) (by rw [c_6]; decide) (by rw [c_6]; rfl) (by decide) ?_
        refine lv_aload_n hx hb d_RC_told_74 rfl (lv_at hl 0 rfl) ?_
        refine va_get (D := (dC, dI)) (ci := 6) (v := .ref co) (C := "RangeCoders") (T := T_RC) (N := 8) hx hb hg in_RC hown hK hP 0 rfl rfl 0 (by decide) (hg _ k258) (fun _ h9 => h9) rfl d_RC_told_75 ?_
        refine va_get (D := (dC, dI)) (ci := 2) (v := .ref ro) (C := "RangeCoders$NoCarries") (T := T_NoCarries) (N := 9) hx hb hg in_NoCarries hown hK hP 2 rfl rfl 6 (by decide) (hg _ k108) (fun _ h9 => h9) rfl d_RC_told_78 ?_
        refine va_get (D := (dC, dI)) (ci := 0) (v := .int ron) (C := "RangeCoders$Row") (T := T_Row) (N := 2) hx hb hg in_Row hown hK hP 5 rfl rfl 0 (by decide) (hg _ k58) (fun _ h9 => h9) rfl d_RC_told_81 ?_
        exact my_iret (v := ron) hx hb hr (rfl) hlocks hQ hK hS (Nat.le_refl _) (Nat.le_refl _) () (trivial) (hP.sub [0, 1, 2, 3, 4, 5, 6] rfl) (hD.sub [0, 1, 2, 3, 4, 5, 6] (by decide +kernel) rfl) d_RC_told_84
      by_cases c_7 : wh = 3
      · refine lv_tableIn (tgt := 85) hx hb d_RC_told_14 (by rw [c_7]; decide) (by rw [c_7]; decide) (by rw [c_7]; rfl) (by decide) ?_
        refine lv_aload_n hx hb d_RC_told_85 rfl (lv_at hl 0 rfl) ?_
        refine va_get (D := (dC, dI)) (ci := 6) (v := .ref co) (C := "RangeCoders") (T := T_RC) (N := 8) hx hb hg in_RC hown hK hP 0 rfl rfl 0 (by decide) (hg _ k258) (fun _ h9 => h9) rfl d_RC_told_86 ?_
        refine va_get (D := (dC, dI)) (ci := 2) (v := .ref ri) (C := "RangeCoders$NoCarries") (T := T_NoCarries) (N := 9) hx hb hg in_NoCarries hown hK hP 2 rfl rfl 5 (by decide) (hg _ k102) (fun _ h9 => h9) rfl d_RC_told_89 ?_
        refine va_get (D := (dC, dI)) (ci := 0) (v := .int rin) (C := "RangeCoders$Row") (T := T_Row) (N := 2) hx hb hg in_Row hown hK hP 3 rfl rfl 0 (by decide) (hg _ k58) (fun _ h9 => h9) rfl d_RC_told_92 ?_
        exact my_iret (v := rin) hx hb hr (rfl) hlocks hQ hK hS (Nat.le_refl _) (Nat.le_refl _) () (trivial) (hP.sub [0, 1, 2, 3, 4, 5, 6] rfl) (hD.sub [0, 1, 2, 3, 4, 5, 6] (by decide +kernel) rfl) d_RC_told_95
      by_cases c_8 : wh = 4
      · refine lv_tableIn (tgt := 96) hx hb d_RC_told_14 (by rw [c_8]; decide) (by rw [c_8]; decide) (by rw [c_8]; rfl) (by decide) ?_
        refine lv_aload_n hx hb d_RC_told_96 rfl (lv_at hl 0 rfl) ?_
        refine va_get (D := (dC, dI)) (ci := 6) (v := .int fir) (C := "RangeCoders") (T := T_RC) (N := 8) hx hb hg in_RC hown hK hP 0 rfl rfl 7 (by decide) (hg _ k265) (fun _ h9 => h9) rfl d_RC_told_97 ?_
        exact my_iret (v := fir) hx hb hr (rfl) hlocks hQ hK hS (Nat.le_refl _) (Nat.le_refl _) () (trivial) (hP.sub [0, 1, 2, 3, 4, 5, 6] rfl) (hD.sub [0, 1, 2, 3, 4, 5, 6] (by decide +kernel) rfl) d_RC_told_100
      by_cases c_9 : wh = 5
      · refine lv_tableIn (tgt := 101) hx hb d_RC_told_14 (by rw [c_9]; decide) (by rw [c_9]; decide) (by rw [c_9]; rfl) (by decide) ?_
        refine lv_aload_n hx hb d_RC_told_101 rfl (lv_at hl 0 rfl) ?_
        refine va_get (D := (dC, dI)) (ci := 6) (v := .int frd) (C := "RangeCoders") (T := T_RC) (N := 8) hx hb hg in_RC hown hK hP 0 rfl rfl 5 (by decide) (hg _ k263) (fun _ h9 => h9) rfl d_RC_told_102 ?_
        refine lv_if_eq (tgt := 118) hx hb d_RC_told_105 (by decide) (fun c_10 => ?_) (fun c_10 => ?_)
        · refine lv_iconst (v := 0) hx hb d_RC_told_118 (by decide) ?_
          exact my_iret (v := 0) hx hb hr (rfl) hlocks hQ hK hS (Nat.le_refl _) (Nat.le_refl _) () (trivial) (hP.sub [0, 1, 2, 3, 4, 5, 6] rfl) (hD.sub [0, 1, 2, 3, 4, 5, 6] (by decide +kernel) rfl) d_RC_told_119
        · refine lv_aload_n hx hb d_RC_told_108 rfl (lv_at hl 0 rfl) ?_
          refine va_get (D := (dC, dI)) (ci := 6) (v := .ref co) (C := "RangeCoders") (T := T_RC) (N := 8) hx hb hg in_RC hown hK hP 0 rfl rfl 0 (by decide) (hg _ k258) (fun _ h9 => h9) rfl d_RC_told_109 ?_
          refine my_ci (wr := [(rc, Sum.inr (6, [Value.ref co, Value.ref ma, Value.int (nI k), Value.int fit, Value.int fen, Value.int frd, Value.int fbd, Value.int fir])), (ma, Sum.inl (cM, 8, Sum.inr (Sum.inr (Sum.inr (Sum.inr mf))))), (ri, Sum.inr (0, [Value.int rin, Value.ref ria])), (ria, Sum.inl (cI, rik, Sum.inl rif)), (ro, Sum.inr (0, [Value.int ron, Value.ref roa])), (roa, Sum.inl (cI, rok, Sum.inl rof))]) (va_runU (As := []) (rest := []) ⟨hx, hb, hml, hown, hts⟩ (c_NoCarries_Coder_bytesAsked l dC dI cI cM cO H.size co xlow xrange xcode xreadLow xreadRange ri ro rw xasked) (va_cwU 0 hts (my_gU k880 k882 k885 k881 k3 k890) rfl rfl rfl rfl (by decide +kernel) ⟨by rw [hR]; exact Nat.le_of_ble_eq_true rfl, by rw [hR]; exact Nat.le_of_ble_eq_true rfl⟩) (my_preV hK hN (hP.sub [2] rfl) (hD.sub [2] (by decide +kernel) rfl) 0 rfl rfl) rfl rfl hl.1 rfl (lv_room (Nat.le_of_ble_eq_true rfl)) d_RC_told_112 ⟨by rw [hR]; exact Nat.le_of_ble_eq_true rfl, by rw [hR]; exact Nat.le_of_ble_eq_true rfl⟩) hP hD hS hA [2] [0, 1, 3, 4, 5, 6] rfl rfl (by decide +kernel) (by decide +kernel) (fun r_112 u9 H locs hw_112 hP hD hS => ?_)
          have hPD : my_PD (dC, dI) vwCl A [(rc, Sum.inr (6, [Value.ref co, Value.ref ma, Value.int (nI k), Value.int fit, Value.int fen, Value.int frd, Value.int fbd, Value.int fir])), (ma, Sum.inl (cM, 8, Sum.inr (Sum.inr (Sum.inr (Sum.inr mf))))), (ri, Sum.inr (0, [Value.int rin, Value.ref ria])), (ria, Sum.inl (cI, rik, Sum.inl rif)), (ro, Sum.inr (0, [Value.int ron, Value.ref roa])), (roa, Sum.inl (cI, rok, Sum.inl rof)), (co, Sum.inr (2, [Value.long xlow, Value.long xrange, Value.long xcode, Value.long xreadLow, Value.long xreadRange, Value.ref ri, Value.ref ro, Value.ref rw, Value.int xasked]))] H := ⟨hP, hD⟩
          have hP := hPD.1
          have hD := hPD.2
          refine lv_goto (tgt := 119) hx hb d_RC_told_115 (by decide) ?_
          exact my_iret (v := r_112) hx hb hr (rfl) hlocks hQ hK hS (Nat.le_refl _) (Nat.le_refl _) () (trivial) (hP.sub [0, 1, 6, 2, 3, 4, 5] rfl) (hD.sub [0, 1, 6, 2, 3, 4, 5] (by decide +kernel) rfl) d_RC_told_119
      by_cases c_11 : wh = 6
      · refine lv_tableIn (tgt := 120) hx hb d_RC_told_14 (by rw [c_11]; decide) (by rw [c_11]; decide) (by rw [c_11]; rfl) (by decide) ?_
        refine lv_aload_n hx hb d_RC_told_120 rfl (lv_at hl 0 rfl) ?_
        refine va_get (D := (dC, dI)) (ci := 6) (v := .int fbd) (C := "RangeCoders") (T := T_RC) (N := 8) hx hb hg in_RC hown hK hP 0 rfl rfl 6 (by decide) (hg _ k264) (fun _ h9 => h9) rfl d_RC_told_121 ?_
        refine lv_if_eq (tgt := 131) hx hb d_RC_told_124 (by decide) (fun c_12 => ?_) (fun c_12 => ?_)
        · refine lv_iconst (v := 0) hx hb d_RC_told_131 (by decide) ?_
          exact my_iret (v := 0) hx hb hr (rfl) hlocks hQ hK hS (Nat.le_refl _) (Nat.le_refl _) () (trivial) (hP.sub [0, 1, 2, 3, 4, 5, 6] rfl) (hD.sub [0, 1, 2, 3, 4, 5, 6] (by decide +kernel) rfl) d_RC_told_132
        · refine lv_iconst (v := 1) hx hb d_RC_told_127 (by decide) ?_
          refine lv_goto (tgt := 132) hx hb d_RC_told_128 (by decide) ?_
          exact my_iret (v := 1) hx hb hr (rfl) hlocks hQ hK hS (Nat.le_refl _) (Nat.le_refl _) () (trivial) (hP.sub [0, 1, 2, 3, 4, 5, 6] rfl) (hD.sub [0, 1, 2, 3, 4, 5, 6] (by decide +kernel) rfl) d_RC_told_132
      refine lv_tableOut (tgt := 133) hx hb d_RC_told_14 (by have ac_3 : wh.toInt ≠ 0 := fun z => c_3 (Int32.toInt_inj.mp z); have ac_4 : wh.toInt ≠ 1 := fun z => c_4 (Int32.toInt_inj.mp z); have ac_6 : wh.toInt ≠ 2 := fun z => c_6 (Int32.toInt_inj.mp z); have ac_7 : wh.toInt ≠ 3 := fun z => c_7 (Int32.toInt_inj.mp z); have ac_8 : wh.toInt ≠ 4 := fun z => c_8 (Int32.toInt_inj.mp z); have ac_9 : wh.toInt ≠ 5 := fun z => c_9 (Int32.toInt_inj.mp z); have ac_11 : wh.toInt ≠ 6 := fun z => c_11 (Int32.toInt_inj.mp z); omega) (by decide) ?_
      refine lv_aload_n hx hb d_RC_told_133 rfl (lv_at hl 0 rfl) ?_
      refine va_get (D := (dC, dI)) (ci := 6) (v := .int frd) (C := "RangeCoders") (T := T_RC) (N := 8) hx hb hg in_RC hown hK hP 0 rfl rfl 5 (by decide) (hg _ k263) (fun _ h9 => h9) rfl d_RC_told_134 ?_
      refine lv_if_eq (tgt := 144) hx hb d_RC_told_137 (by decide) (fun c_13 => ?_) (fun c_13 => ?_)
      · refine lv_iconst (v := 0) hx hb d_RC_told_144 (by decide) ?_
        exact my_iret (v := 0) hx hb hr (rfl) hlocks hQ hK hS (Nat.le_refl _) (Nat.le_refl _) () (trivial) (hP.sub [0, 1, 2, 3, 4, 5, 6] rfl) (hD.sub [0, 1, 2, 3, 4, 5, 6] (by decide +kernel) rfl) d_RC_told_145
      · refine lv_iconst (v := 1) hx hb d_RC_told_140 (by decide) ?_
        refine lv_goto (tgt := 145) hx hb d_RC_told_141 (by decide) ?_
        exact my_iret (v := 1) hx hb hr (rfl) hlocks hQ hK hS (Nat.le_refl _) (Nat.le_refl _) () (trivial) (hP.sub [0, 1, 2, 3, 4, 5, 6] rfl) (hD.sub [0, 1, 2, 3, 4, 5, 6] (by decide +kernel) rfl) d_RC_told_145
    · refine lv_bipush (v := (-2)) hx hb d_RC_told_10 (by decide) ?_
      exact my_iret (v := (-2)) hx hb hr (rfl) hlocks hQ hK hS (Nat.le_refl _) (Nat.le_refl _) () (trivial) (hP.sub [0, 1, 2, 3, 4, 5, 6] rfl) (hD.sub [0, 1, 2, 3, 4, 5, 6] (by decide +kernel) rfl) d_RC_told_12
set_option maxHeartbeats 2000000 in
set_option maxRecDepth 100000 in
theorem c_RC_state_NoCarries (l : Launch) (dC : Nat → ClassId) (dI : Nat → Nat → Nat) (cI cM cO : ClassId) (sz : Nat) (rc : Nat) (ma : Nat) (k : Nat) (fit : Int32) (fen : Int32) (frd : Int32) (fbd : Int32) (fir : Int32) (mf : Nat → Option Nat) (co : Nat) (xlow : Int64) (xrange : Int64) (xcode : Int64) (xreadLow : Int64) (xreadRange : Int64) (ri : Nat) (ro : Nat) (rw : Nat) (xasked : Int32) (wh : Int32) (hk8 : k ≤ 8) : MetL l y_RC_state (Cond.code y_RC_state prog_1_method_16_code 2 (some .long) :: gw) ({ frames := 1, cells := 0, slots := 0, locals := 21 } : Room) (dC, dI) vwCl (kT cI cM cO) [Value.ref rc, Value.int wh] [(rc, Sum.inr (6, [Value.ref co, Value.ref ma, Value.int (nI k), Value.int fit, Value.int fen, Value.int frd, Value.int fbd, Value.int fir])), (ma, Sum.inl (cM, 8, Sum.inr (Sum.inr (Sum.inr (Sum.inr mf))))), (co, Sum.inr (2, [Value.long xlow, Value.long xrange, Value.long xcode, Value.long xreadLow, Value.long xreadRange, Value.ref ri, Value.ref ro, Value.ref rw, Value.int xasked]))] sz (fun (r : Int64) (u : Unit) => True) (fun (u : Unit) => [(rc, Sum.inr (6, [Value.ref co, Value.ref ma, Value.int (nI k), Value.int fit, Value.int fen, Value.int frd, Value.int fbd, Value.int fir])), (ma, Sum.inl (cM, 8, Sum.inr (Sum.inr (Sum.inr (Sum.inr mf))))), (co, Sum.inr (2, [Value.long xlow, Value.long xrange, Value.long xcode, Value.long xreadLow, Value.long xreadRange, Value.ref ri, Value.ref ro, Value.ref rw, Value.int xasked]))]) 0 0 := by
  refine my_ofL (cc := prog_1_method_16_code) (n := 2) (ret := (some .long)) (by decide) rfl (Nat.le_of_ble_eq_true rfl) ?_
  intro p e s m args below meth c R Q A ls H locs hx hb hr hts hown hlocks hml hnm hR hQ hA hl hP hK hN hD hS
  have hg : ∀ w ∈ gw, w.before args s = true := fun w h => hts w (List.mem_cons_of_mem _ h)
  have hown : s.vm.findClass "RangeCoders" = some m.cls := hown
  have hl : lv_has ls 2 [(0, Value.ref rc), (1, Value.int wh)] := hl
  refine lv_iload_n hx hb d_RC_state_0 rfl (lv_at hl 1 rfl) ?_
  refine lv_if_lt (tgt := 9) hx hb d_RC_state_1 (by decide) (fun c_1 => ?_) (fun c_1 => ?_)
  · refine lv_ldc2 (v := (-2)) hx hb hown (hg _ k895) d_RC_state_9 ?_
    exact my_lret (v := (-2)) hx hb hr hlocks hQ hK hS (Nat.le_refl _) (Nat.le_refl _) () (trivial) (hP.sub [0, 1, 2] rfl) (hD.sub [0, 1, 2] (by decide +kernel) rfl) d_RC_state_12
  · refine lv_iload_n hx hb d_RC_state_4 rfl (lv_at hl 1 rfl) ?_
    refine lv_iconst (v := 5) hx hb d_RC_state_5 (by decide) ?_
    refine lv_icmp_le (tgt := 13) hx hb d_RC_state_6 (by decide) (fun c_2 => ?_) (fun c_2 => ?_)
    · refine lv_iload_n hx hb d_RC_state_13 rfl (lv_at hl 1 rfl) ?_
      refine lv_iconst (v := 1) hx hb d_RC_state_14 (by decide) ?_
      refine lv_icmp_le (tgt := 27) hx hb d_RC_state_15 (by decide) (fun c_3 => ?_) (fun c_3 => ?_)
      · refine lv_aload_n hx hb d_RC_state_27 rfl (lv_at hl 0 rfl) ?_
        refine va_get (D := (dC, dI)) (ci := 6) (v := .ref co) (C := "RangeCoders") (T := T_RC) (N := 8) hx hb hg in_RC hown hK hP 0 rfl rfl 0 (by decide) (hg _ k258) (fun _ h9 => h9) rfl d_RC_state_28 ?_
        refine lv_iload_n hx hb d_RC_state_31 rfl (lv_at hl 1 rfl) ?_
        refine my_cl (wr := [(rc, Sum.inr (6, [Value.ref co, Value.ref ma, Value.int (nI k), Value.int fit, Value.int fen, Value.int frd, Value.int fbd, Value.int fir])), (ma, Sum.inl (cM, 8, Sum.inr (Sum.inr (Sum.inr (Sum.inr mf)))))]) (va_runU (As := [Value.int wh]) (rest := []) ⟨hx, hb, hml, hown, hts⟩ (c_NoCarries_Ranged_register l dC dI cI cM cO H.size co xlow xrange xcode xreadLow xreadRange ri ro rw xasked wh) (va_cwA 1 hts (my_gU k896 k898 k903 k900 k4 k901) rfl rfl rfl (hN.1 _ j897 rfl) (by decide +kernel) ⟨by rw [hR]; exact Nat.le_of_ble_eq_true rfl, by rw [hR]; exact Nat.le_of_ble_eq_true rfl⟩) (my_preV hK hN (hP.sub [2] rfl) (hD.sub [2] (by decide +kernel) rfl) 0 rfl rfl) rfl rfl hl.1 rfl (lv_room (Nat.le_of_ble_eq_true rfl)) d_RC_state_32 ⟨by rw [hR]; exact Nat.le_of_ble_eq_true rfl, by rw [hR]; exact Nat.le_of_ble_eq_true rfl⟩) hP hD hS hA [2] [0, 1] rfl rfl (by decide +kernel) (by decide +kernel) (fun r_32 u9 H locs hw_32 hP hD hS => ?_)
        have hPD : my_PD (dC, dI) vwCl A [(rc, Sum.inr (6, [Value.ref co, Value.ref ma, Value.int (nI k), Value.int fit, Value.int fen, Value.int frd, Value.int fbd, Value.int fir])), (ma, Sum.inl (cM, 8, Sum.inr (Sum.inr (Sum.inr (Sum.inr mf))))), (co, Sum.inr (2, [Value.long xlow, Value.long xrange, Value.long xcode, Value.long xreadLow, Value.long xreadRange, Value.ref ri, Value.ref ro, Value.ref rw, Value.int xasked]))] H := ⟨hP, hD⟩
        have hP := hPD.1
        have hD := hPD.2
        exact my_lret (v := r_32) hx hb hr hlocks hQ hK hS (Nat.le_refl _) (Nat.le_refl _) () (trivial) (hP.sub [0, 1, 2] rfl) (hD.sub [0, 1, 2] (by decide +kernel) rfl) d_RC_state_35
      · refine lv_aload_n hx hb d_RC_state_18 rfl (lv_at hl 0 rfl) ?_
        refine va_get (D := (dC, dI)) (ci := 6) (v := .int frd) (C := "RangeCoders") (T := T_RC) (N := 8) hx hb hg in_RC hown hK hP 0 rfl rfl 5 (by decide) (hg _ k263) (fun _ h9 => h9) rfl d_RC_state_19 ?_
        refine lv_if_ne (tgt := 27) hx hb d_RC_state_22 (by decide) (fun c_4 => ?_) (fun c_4 => ?_)
        · refine lv_aload_n hx hb d_RC_state_27 rfl (lv_at hl 0 rfl) ?_
          refine va_get (D := (dC, dI)) (ci := 6) (v := .ref co) (C := "RangeCoders") (T := T_RC) (N := 8) hx hb hg in_RC hown hK hP 0 rfl rfl 0 (by decide) (hg _ k258) (fun _ h9 => h9) rfl d_RC_state_28 ?_
          refine lv_iload_n hx hb d_RC_state_31 rfl (lv_at hl 1 rfl) ?_
          refine my_cl (wr := [(rc, Sum.inr (6, [Value.ref co, Value.ref ma, Value.int (nI k), Value.int fit, Value.int fen, Value.int frd, Value.int fbd, Value.int fir])), (ma, Sum.inl (cM, 8, Sum.inr (Sum.inr (Sum.inr (Sum.inr mf)))))]) (va_runU (As := [Value.int wh]) (rest := []) ⟨hx, hb, hml, hown, hts⟩ (c_NoCarries_Ranged_register l dC dI cI cM cO H.size co xlow xrange xcode xreadLow xreadRange ri ro rw xasked wh) (va_cwA 1 hts (my_gU k896 k898 k903 k900 k4 k901) rfl rfl rfl (hN.1 _ j897 rfl) (by decide +kernel) ⟨by rw [hR]; exact Nat.le_of_ble_eq_true rfl, by rw [hR]; exact Nat.le_of_ble_eq_true rfl⟩) (my_preV hK hN (hP.sub [2] rfl) (hD.sub [2] (by decide +kernel) rfl) 0 rfl rfl) rfl rfl hl.1 rfl (lv_room (Nat.le_of_ble_eq_true rfl)) d_RC_state_32 ⟨by rw [hR]; exact Nat.le_of_ble_eq_true rfl, by rw [hR]; exact Nat.le_of_ble_eq_true rfl⟩) hP hD hS hA [2] [0, 1] rfl rfl (by decide +kernel) (by decide +kernel) (fun r_32 u9 H locs hw_32 hP hD hS => ?_)
          have hPD : my_PD (dC, dI) vwCl A [(rc, Sum.inr (6, [Value.ref co, Value.ref ma, Value.int (nI k), Value.int fit, Value.int fen, Value.int frd, Value.int fbd, Value.int fir])), (ma, Sum.inl (cM, 8, Sum.inr (Sum.inr (Sum.inr (Sum.inr mf))))), (co, Sum.inr (2, [Value.long xlow, Value.long xrange, Value.long xcode, Value.long xreadLow, Value.long xreadRange, Value.ref ri, Value.ref ro, Value.ref rw, Value.int xasked]))] H := ⟨hP, hD⟩
          have hP := hPD.1
          have hD := hPD.2
          exact my_lret (v := r_32) hx hb hr hlocks hQ hK hS (Nat.le_refl _) (Nat.le_refl _) () (trivial) (hP.sub [0, 1, 2] rfl) (hD.sub [0, 1, 2] (by decide +kernel) rfl) d_RC_state_35
        · refine lv_lconst (v := 0) hx hb d_RC_state_25 (by decide) ?_
          exact my_lret (v := 0) hx hb hr hlocks hQ hK hS (Nat.le_refl _) (Nat.le_refl _) () (trivial) (hP.sub [0, 1, 2] rfl) (hD.sub [0, 1, 2] (by decide +kernel) rfl) d_RC_state_26
    · refine lv_ldc2 (v := (-2)) hx hb hown (hg _ k895) d_RC_state_9 ?_
      exact my_lret (v := (-2)) hx hb hr hlocks hQ hK hS (Nat.le_refl _) (Nat.le_refl _) () (trivial) (hP.sub [0, 1, 2] rfl) (hD.sub [0, 1, 2] (by decide +kernel) rfl) d_RC_state_12
set_option maxHeartbeats 2000000 in
set_option maxRecDepth 100000 in
theorem c_RC_modelA_NoCarries (l : Launch) (dC : Nat → ClassId) (dI : Nat → Nat → Nat) (cI cM cO : ClassId) (sz : Nat) (rc : Nat) (ma : Nat) (k : Nat) (fit : Int32) (fen : Int32) (frd : Int32) (fbd : Int32) (fir : Int32) (mf : Nat → Option Nat) (co : Nat) (xlow : Int64) (xrange : Int64) (xcode : Int64) (xreadLow : Int64) (xreadRange : Int64) (ri : Nat) (ro : Nat) (rw : Nat) (xasked : Int32) (nn : Int32) (hrf : nn < 2 ∨ 64 < nn) : MetI l y_RC_model (Cond.code y_RC_model prog_1_method_2_code 3 (some .int) :: gw) ({ frames := 0, cells := 0, slots := 0, locals := 0 } : Room) (dC, dI) vwCl (kT cI cM cO) [Value.ref rc, Value.int nn] [(rc, Sum.inr (6, [Value.ref co, Value.ref ma, Value.int (nI k), Value.int fit, Value.int fen, Value.int frd, Value.int fbd, Value.int fir])), (ma, Sum.inl (cM, 8, Sum.inr (Sum.inr (Sum.inr (Sum.inr mf))))), (co, Sum.inr (2, [Value.long xlow, Value.long xrange, Value.long xcode, Value.long xreadLow, Value.long xreadRange, Value.ref ri, Value.ref ro, Value.ref rw, Value.int xasked]))] sz (fun (r : Int32) (u : Unit) => r = -2) (fun (u : Unit) => [(rc, Sum.inr (6, [Value.ref co, Value.ref ma, Value.int (nI k), Value.int fit, Value.int fen, Value.int frd, Value.int fbd, Value.int fir])), (ma, Sum.inl (cM, 8, Sum.inr (Sum.inr (Sum.inr (Sum.inr mf))))), (co, Sum.inr (2, [Value.long xlow, Value.long xrange, Value.long xcode, Value.long xreadLow, Value.long xreadRange, Value.ref ri, Value.ref ro, Value.ref rw, Value.int xasked]))]) 0 0 := by
  refine my_ofI (cc := prog_1_method_2_code) (n := 3) (ret := (some .int)) (by decide) rfl (Nat.le_of_ble_eq_true rfl) ?_
  intro p e s m args below meth c R Q A ls H locs hx hb hr hts hown hlocks hml hnm hR hQ hA hl hP hK hN hD hS
  have hg : ∀ w ∈ gw, w.before args s = true := fun w h => hts w (List.mem_cons_of_mem _ h)
  have hown : s.vm.findClass "RangeCoders" = some m.cls := hown
  have hl : lv_has ls 3 [(0, Value.ref rc), (1, Value.int nn)] := hl
  refine lv_iload_n hx hb d_RC_model_0 rfl (lv_at hl 1 rfl) ?_
  refine lv_iconst (v := 2) hx hb d_RC_model_1 (by decide) ?_
  refine lv_icmp_lt (tgt := 11) hx hb d_RC_model_2 (by decide) (fun c_1 => ?_) (fun c_1 => ?_)
  · refine lv_bipush (v := (-2)) hx hb d_RC_model_11 (by decide) ?_
    exact my_iret (v := (-2)) hx hb hr (rfl) hlocks hQ hK hS (Nat.le_refl _) (Nat.le_refl _) () (rfl) (hP.sub [0, 1, 2] rfl) (hD.sub [0, 1, 2] (by decide +kernel) rfl) d_RC_model_13
  · refine lv_iload_n hx hb d_RC_model_5 rfl (lv_at hl 1 rfl) ?_
    refine lv_bipush (v := 64) hx hb d_RC_model_6 (by decide) ?_
    refine lv_icmp_le (tgt := 14) hx hb d_RC_model_8 (by decide) (fun c_2 => ?_) (fun c_2 => ?_)
    · exact absurd hrf (fun h9 => h9.elim c_1 (fun h8 => absurd c_2 (Int32.not_le.mpr h8)))
    · refine lv_bipush (v := (-2)) hx hb d_RC_model_11 (by decide) ?_
      exact my_iret (v := (-2)) hx hb hr (rfl) hlocks hQ hK hS (Nat.le_refl _) (Nat.le_refl _) () (rfl) (hP.sub [0, 1, 2] rfl) (hD.sub [0, 1, 2] (by decide +kernel) rfl) d_RC_model_13
set_option maxHeartbeats 2000000 in
set_option maxRecDepth 100000 in
theorem c_RC_modelF_NoCarries (l : Launch) (dC : Nat → ClassId) (dI : Nat → Nat → Nat) (cI cM cO : ClassId) (sz : Nat) (rc : Nat) (ma : Nat) (k : Nat) (fit : Int32) (fen : Int32) (frd : Int32) (fbd : Int32) (fir : Int32) (mf : Nat → Option Nat) (co : Nat) (xlow : Int64) (xrange : Int64) (xcode : Int64) (xreadLow : Int64) (xreadRange : Int64) (ri : Nat) (ro : Nat) (rw : Nat) (xasked : Int32) (ns : Nat) (hns2 : 2 ≤ ns) (hns : ns ≤ 64) (hk : k = 8) : MetI l y_RC_model (Cond.code y_RC_model prog_1_method_2_code 3 (some .int) :: gw) ({ frames := 0, cells := 0, slots := 0, locals := 0 } : Room) (dC, dI) vwCl (kT cI cM cO) [Value.ref rc, Value.int (nI ns)] [(rc, Sum.inr (6, [Value.ref co, Value.ref ma, Value.int (nI k), Value.int fit, Value.int fen, Value.int frd, Value.int fbd, Value.int fir])), (ma, Sum.inl (cM, 8, Sum.inr (Sum.inr (Sum.inr (Sum.inr mf))))), (co, Sum.inr (2, [Value.long xlow, Value.long xrange, Value.long xcode, Value.long xreadLow, Value.long xreadRange, Value.ref ri, Value.ref ro, Value.ref rw, Value.int xasked]))] sz (fun (r : Int32) (u : Unit) => r = -4) (fun (u : Unit) => [(rc, Sum.inr (6, [Value.ref co, Value.ref ma, Value.int (nI k), Value.int fit, Value.int fen, Value.int frd, Value.int fbd, Value.int fir])), (ma, Sum.inl (cM, 8, Sum.inr (Sum.inr (Sum.inr (Sum.inr mf))))), (co, Sum.inr (2, [Value.long xlow, Value.long xrange, Value.long xcode, Value.long xreadLow, Value.long xreadRange, Value.ref ri, Value.ref ro, Value.ref rw, Value.int xasked]))]) 0 0 := by
  refine my_ofI (cc := prog_1_method_2_code) (n := 3) (ret := (some .int)) (by decide) rfl (Nat.le_of_ble_eq_true rfl) ?_
  intro p e s m args below meth c R Q A ls H locs hx hb hr hts hown hlocks hml hnm hR hQ hA hl hP hK hN hD hS
  have hg : ∀ w ∈ gw, w.before args s = true := fun w h => hts w (List.mem_cons_of_mem _ h)
  have hown : s.vm.findClass "RangeCoders" = some m.cls := hown
  have hl : lv_has ls 3 [(0, Value.ref rc), (1, Value.int (nI ns))] := hl
  refine lv_iload_n hx hb d_RC_model_0 rfl (lv_at hl 1 rfl) ?_
  refine lv_iconst (v := 2) hx hb d_RC_model_1 (by decide) ?_
  refine lv_icmp_lt (tgt := 11) hx hb d_RC_model_2 (by decide) (fun c_1 => ?_) (fun c_1 => ?_)
  · exact absurd c_1 (show ¬ nI ns < nI 2 from nI_nlt hns2 (by omega))
  · refine lv_iload_n hx hb d_RC_model_5 rfl (lv_at hl 1 rfl) ?_
    refine lv_bipush (v := 64) hx hb d_RC_model_6 (by decide) ?_
    refine lv_icmp_le (tgt := 14) hx hb d_RC_model_8 (by decide) (fun c_2 => ?_) (fun c_2 => ?_)
    · refine lv_aload_n hx hb d_RC_model_14 rfl (lv_at hl 0 rfl) ?_
      refine va_get (D := (dC, dI)) (ci := 6) (v := .int (nI k)) (C := "RangeCoders") (T := T_RC) (N := 8) hx hb hg in_RC hown hK hP 0 rfl rfl 2 (by decide) (hg _ k260) (fun _ h9 => h9) rfl d_RC_model_15 ?_
      refine lv_bipush (v := 8) hx hb d_RC_model_18 (by decide) ?_
      refine lv_icmp_lt (tgt := 26) hx hb d_RC_model_20 (by decide) (fun c_3 => ?_) (fun c_3 => ?_)
      · exact absurd c_3 (show ¬ nI k < nI 8 from nI_nlt (by omega) (by omega))
      · refine lv_bipush (v := (-4)) hx hb d_RC_model_23 (by decide) ?_
        exact my_iret (v := (-4)) hx hb hr (rfl) hlocks hQ hK hS (Nat.le_refl _) (Nat.le_refl _) () (rfl) (hP.sub [0, 1, 2] rfl) (hD.sub [0, 1, 2] (by decide +kernel) rfl) d_RC_model_25
    · exact absurd (show nI ns ≤ nI 64 from nI_le hns (by omega)) c_2
end
section
set_option maxHeartbeats 2000000 in
set_option maxRecDepth 100000 in
theorem c_RC_getA_Stack (l : Launch) (dC : Nat → ClassId) (dI : Nat → Nat → Nat) (cI cM cO : ClassId) (sz : Nat) (rc : Nat) (ma : Nat) (k : Nat) (fit : Int32) (fen : Int32) (frd : Int32) (fbd : Int32) (fir : Int32) (mf : Nat → Option Nat) (co : Nat) (xx : Int64) (xreadX : Int64) (soa : Nat) (sna : Nat) (swa : Nat) (xkept : Int32) (ri : Nat) (ro : Nat) (rw : Nat) (xasked : Int32) (mm : Int32) (hk8 : k ≤ 8) (hbad : mm < 0 ∨ nI k ≤ mm) : MetI l y_RC_get (Cond.code y_RC_get prog_1_method_13_code 3 (some .int) :: gw) ({ frames := 1, cells := 0, slots := 0, locals := 21 } : Room) (dC, dI) vwCl (kT cI cM cO) [Value.ref rc, Value.int mm] [(rc, Sum.inr (6, [Value.ref co, Value.ref ma, Value.int (nI k), Value.int fit, Value.int fen, Value.int frd, Value.int fbd, Value.int fir])), (ma, Sum.inl (cM, 8, Sum.inr (Sum.inr (Sum.inr (Sum.inr mf))))), (co, Sum.inr (4, [Value.long xx, Value.long xreadX, Value.ref soa, Value.ref sna, Value.ref swa, Value.int xkept, Value.ref ri, Value.ref ro, Value.ref rw, Value.int xasked]))] sz (fun (r : Int32) (u : Unit) => True) (fun (u : Unit) => [(rc, Sum.inr (6, [Value.ref co, Value.ref ma, Value.int (nI k), Value.int fit, Value.int fen, Value.int frd, Value.int fbd, Value.int fir])), (ma, Sum.inl (cM, 8, Sum.inr (Sum.inr (Sum.inr (Sum.inr mf))))), (co, Sum.inr (4, [Value.long xx, Value.long xreadX, Value.ref soa, Value.ref sna, Value.ref swa, Value.int xkept, Value.ref ri, Value.ref ro, Value.ref rw, Value.int xasked]))]) 0 0 := by
  refine my_ofI (cc := prog_1_method_13_code) (n := 3) (ret := (some .int)) (by decide) rfl (Nat.le_of_ble_eq_true rfl) ?_
  intro p e s m args below meth c R Q A ls H locs hx hb hr hts hown hlocks hml hnm hR hQ hA hl hP hK hN hD hS
  have hg : ∀ w ∈ gw, w.before args s = true := fun w h => hts w (List.mem_cons_of_mem _ h)
  have hown : s.vm.findClass "RangeCoders" = some m.cls := hown
  have hl : lv_has ls 3 [(0, Value.ref rc), (1, Value.int mm)] := hl
  refine lv_aload_n hx hb d_RC_get_0 rfl (lv_at hl 0 rfl) ?_
  refine lv_iload_n hx hb d_RC_get_1 rfl (lv_at hl 1 rfl) ?_
  refine my_cq (wr := [(co, Sum.inr (4, [Value.long xx, Value.long xreadX, Value.ref soa, Value.ref sna, Value.ref swa, Value.int xkept, Value.ref ri, Value.ref ro, Value.ref rw, Value.int xasked]))]) (va_runV (As := [Value.int mm]) (rest := []) ⟨hx, hb, hml, hown, hts⟩ (c_RC_modelAtA l dC dI cI cM cO H.size rc ma k fit fen frd fbd fir mf co mm (by first | assumption | omega)) (cwV 1 hts (my_gV k412 k414 ks3 k1 k415) rfl rfl rfl cu_RC_modelAt_1 ⟨by rw [hR]; exact Nat.le_of_ble_eq_true rfl, by rw [hR]; exact Nat.le_of_ble_eq_true rfl⟩) (my_preV hK hN (hP.sub [0, 1] rfl) (hD.sub [0, 1] (by decide +kernel) rfl) 0 rfl rfl) rfl rfl hl.1 rfl (lv_room (Nat.le_of_ble_eq_true rfl)) d_RC_get_2 ⟨by rw [hR]; exact Nat.le_of_ble_eq_true rfl, by rw [hR]; exact Nat.le_of_ble_eq_true rfl⟩) hP hD hS hA [0, 1] [2] rfl rfl (by decide +kernel) (by decide +kernel) (fun r_2 u9 H locs hw_2 hP hD hS => ?_)
  have hr_2 : r_2 = none := hw_2
  have hPD : my_PD (dC, dI) vwCl A [(co, Sum.inr (4, [Value.long xx, Value.long xreadX, Value.ref soa, Value.ref sna, Value.ref swa, Value.int xkept, Value.ref ri, Value.ref ro, Value.ref rw, Value.int xasked])), (rc, Sum.inr (6, [Value.ref co, Value.ref ma, Value.int (nI k), Value.int fit, Value.int fen, Value.int frd, Value.int fbd, Value.int fir])), (ma, Sum.inl (cM, 8, Sum.inr (Sum.inr (Sum.inr (Sum.inr mf)))))] H := ⟨hP, hD⟩
  have hP := hPD.1
  have hD := hPD.2
  subst hr_2
  refine W.eq (g2 := F0 m 5 ls [Value.null]) rfl ?_
  refine lv_astore_nN (lv' := [(2, Value.null), (0, Value.ref rc), (1, Value.int mm)]) hx hb d_RC_get_5 rfl hl (by decide) rfl (fun ls hl => ?_)
  refine lv_aload_nN hx hb d_RC_get_6 rfl (lv_at hl 0 rfl) ?_
  refine lv_ifnonnullN hx hb d_RC_get_7 ?_
  refine lv_iconst (v := (-1)) hx hb d_RC_get_10 (by decide) ?_
  exact my_iret (v := (-1)) hx hb hr (rfl) hlocks hQ hK hS (Nat.le_refl _) (Nat.le_refl _) () (trivial) (hP.sub [1, 2, 0] rfl) (hD.sub [1, 2, 0] (by decide +kernel) rfl) d_RC_get_11
set_option maxHeartbeats 2000000 in
set_option maxRecDepth 100000 in
theorem c_RC_getB_Stack (l : Launch) (dC : Nat → ClassId) (dI : Nat → Nat → Nat) (cI cM cO : ClassId) (sz : Nat) (rc : Nat) (ma : Nat) (k : Nat) (fit : Int32) (fen : Int32) (frd : Int32) (fbd : Int32) (fir : Int32) (mf : Nat → Option Nat) (co : Nat) (xx : Int64) (xreadX : Int64) (soa : Nat) (sna : Nat) (swa : Nat) (xkept : Int32) (ri : Nat) (ro : Nat) (rw : Nat) (xasked : Int32) (rin : Int32) (ria : Nat) (rik : Nat) (rif : Nat → Int32) (j : Nat) (mo : Nat) (o2 : Nat) (oo : Nat) (osg : Int32) (osm : Int32) (ofc : Int32) (oca : Nat) (opa : Nat) (ol : Nat) (ocf : Nat → Int32) (opl : Nat) (opf : Nat → Int32) (ka : Nat) (kl : Nat) (kf : Nat → Int32) (hk8 : k ≤ 8) (hri : rOk rin rik) (hj : j < k) (hmf : mf j = some mo) (hol : ol ≤ 64) (hopl : opl ≤ 512) (hol0 : 1 ≤ ol) (hkl : kl ≤ 64) : MetI l y_RC_get (Cond.code y_RC_get prog_1_method_13_code 3 (some .int) :: gw) ({ frames := 5, cells := 0, slots := 0, locals := 109 } : Room) (dC, dI) vwCl (kT cI cM cO) [Value.ref rc, Value.int (nI j)] [(rc, Sum.inr (6, [Value.ref co, Value.ref ma, Value.int (nI k), Value.int fit, Value.int fen, Value.int frd, Value.int fbd, Value.int fir])), (ma, Sum.inl (cM, 8, Sum.inr (Sum.inr (Sum.inr (Sum.inr mf))))), (co, Sum.inr (4, [Value.long xx, Value.long xreadX, Value.ref soa, Value.ref sna, Value.ref swa, Value.int xkept, Value.ref ri, Value.ref ro, Value.ref rw, Value.int xasked])), (ri, Sum.inr (0, [Value.int rin, Value.ref ria])), (ria, Sum.inl (cI, rik, Sum.inl rif)), (mo, Sum.inr (8, [Value.ref ka, Value.ref o2, Value.ref oo])), (ka, Sum.inl (cI, kl, Sum.inl kf)), (oo, Sum.inr (7, [Value.int osg, Value.int osm, Value.int ofc, Value.ref oca, Value.ref opa])), (oca, Sum.inl (cI, ol, Sum.inl ocf)), (opa, Sum.inl (cI, opl, Sum.inl opf))] sz (fun (r : Int32) (u : Int32 × Int32 × Int64 × Int32) => True) (fun (u : Int32 × Int32 × Int64 × Int32) => [(rc, Sum.inr (6, [Value.ref co, Value.ref ma, Value.int (nI k), Value.int fit, Value.int fen, Value.int frd, Value.int u.1, Value.int u.2.1])), (ma, Sum.inl (cM, 8, Sum.inr (Sum.inr (Sum.inr (Sum.inr mf))))), (co, Sum.inr (4, [Value.long xx, Value.long u.2.2.1, Value.ref soa, Value.ref sna, Value.ref swa, Value.int xkept, Value.ref ri, Value.ref ro, Value.ref rw, Value.int u.2.2.2])), (ri, Sum.inr (0, [Value.int rin, Value.ref ria])), (ria, Sum.inl (cI, rik, Sum.inl rif)), (mo, Sum.inr (8, [Value.ref ka, Value.ref o2, Value.ref oo])), (ka, Sum.inl (cI, kl, Sum.inl kf)), (oo, Sum.inr (7, [Value.int osg, Value.int osm, Value.int ofc, Value.ref oca, Value.ref opa])), (oca, Sum.inl (cI, ol, Sum.inl ocf)), (opa, Sum.inl (cI, opl, Sum.inl opf))]) 0 0 := by
  refine my_ofI (cc := prog_1_method_13_code) (n := 3) (ret := (some .int)) (by decide) rfl (Nat.le_of_ble_eq_true rfl) ?_
  intro p e s m args below meth c R Q A ls H locs hx hb hr hts hown hlocks hml hnm hR hQ hA hl hP hK hN hD hS
  have hg : ∀ w ∈ gw, w.before args s = true := fun w h => hts w (List.mem_cons_of_mem _ h)
  have hown : s.vm.findClass "RangeCoders" = some m.cls := hown
  have hl : lv_has ls 3 [(0, Value.ref rc), (1, Value.int (nI j))] := hl
  have hlt_hri := rOk_lt hri
  refine lv_aload_n hx hb d_RC_get_0 rfl (lv_at hl 0 rfl) ?_
  refine lv_iload_n hx hb d_RC_get_1 rfl (lv_at hl 1 rfl) ?_
  refine my_cq (wr := [(co, Sum.inr (4, [Value.long xx, Value.long xreadX, Value.ref soa, Value.ref sna, Value.ref swa, Value.int xkept, Value.ref ri, Value.ref ro, Value.ref rw, Value.int xasked])), (ri, Sum.inr (0, [Value.int rin, Value.ref ria])), (ria, Sum.inl (cI, rik, Sum.inl rif)), (mo, Sum.inr (8, [Value.ref ka, Value.ref o2, Value.ref oo])), (ka, Sum.inl (cI, kl, Sum.inl kf)), (oo, Sum.inr (7, [Value.int osg, Value.int osm, Value.int ofc, Value.ref oca, Value.ref opa])), (oca, Sum.inl (cI, ol, Sum.inl ocf)), (opa, Sum.inl (cI, opl, Sum.inl opf))]) (va_runV (As := [Value.int (nI j)]) (rest := []) ⟨hx, hb, hml, hown, hts⟩ (c_RC_modelAtB l dC dI cI cM cO H.size rc ma k fit fen frd fbd fir mf co j mo (by first | assumption | omega) (by first | assumption | omega) (by first | assumption | omega)) (cwV 1 hts (my_gV k412 k414 ks3 k1 k415) rfl rfl rfl cu_RC_modelAt_1 ⟨by rw [hR]; exact Nat.le_of_ble_eq_true rfl, by rw [hR]; exact Nat.le_of_ble_eq_true rfl⟩) (my_preV hK hN (hP.sub [0, 1] rfl) (hD.sub [0, 1] (by decide +kernel) rfl) 0 rfl rfl) rfl rfl hl.1 rfl (lv_room (Nat.le_of_ble_eq_true rfl)) d_RC_get_2 ⟨by rw [hR]; exact Nat.le_of_ble_eq_true rfl, by rw [hR]; exact Nat.le_of_ble_eq_true rfl⟩) hP hD hS hA [0, 1] [2, 3, 4, 5, 6, 7, 8, 9] rfl rfl (by decide +kernel) (by decide +kernel) (fun r_2 u9 H locs hw_2 hP hD hS => ?_)
  have hr_2 : r_2 = some mo := hw_2
  have hPD : my_PD (dC, dI) vwCl A [(co, Sum.inr (4, [Value.long xx, Value.long xreadX, Value.ref soa, Value.ref sna, Value.ref swa, Value.int xkept, Value.ref ri, Value.ref ro, Value.ref rw, Value.int xasked])), (ri, Sum.inr (0, [Value.int rin, Value.ref ria])), (ria, Sum.inl (cI, rik, Sum.inl rif)), (mo, Sum.inr (8, [Value.ref ka, Value.ref o2, Value.ref oo])), (ka, Sum.inl (cI, kl, Sum.inl kf)), (oo, Sum.inr (7, [Value.int osg, Value.int osm, Value.int ofc, Value.ref oca, Value.ref opa])), (oca, Sum.inl (cI, ol, Sum.inl ocf)), (opa, Sum.inl (cI, opl, Sum.inl opf)), (rc, Sum.inr (6, [Value.ref co, Value.ref ma, Value.int (nI k), Value.int fit, Value.int fen, Value.int frd, Value.int fbd, Value.int fir])), (ma, Sum.inl (cM, 8, Sum.inr (Sum.inr (Sum.inr (Sum.inr mf)))))] H := ⟨hP, hD⟩
  have hP := hPD.1
  have hD := hPD.2
  subst hr_2
  refine W.eq (g2 := F0 m 5 ls [Value.ref mo]) rfl ?_
  refine lv_astore_n (lv' := [(2, Value.ref mo), (0, Value.ref rc), (1, Value.int (nI j))]) hx hb d_RC_get_5 rfl hl (by decide) rfl (fun ls hl => ?_)
  refine lv_aload_n hx hb d_RC_get_6 rfl (lv_at hl 0 rfl) ?_
  refine lv_ifnonnull (tgt := 12) hx hb d_RC_get_7 (by decide) ?_
  refine lv_aload_n hx hb d_RC_get_12 rfl (lv_at hl 1 rfl) ?_
  refine va_get (D := (dC, dI)) (ci := 6) (v := .int frd) (C := "RangeCoders") (T := T_RC) (N := 8) hx hb hg in_RC hown hK hP 8 rfl rfl 5 (by decide) (hg _ k263) (fun _ h9 => h9) rfl d_RC_get_13 ?_
  refine lv_if_ne (tgt := 22) hx hb d_RC_get_16 (by decide) (fun c_1 => ?_) (fun c_1 => ?_)
  · refine lv_aload_n hx hb d_RC_get_22 rfl (lv_at hl 1 rfl) ?_
    refine va_get (D := (dC, dI)) (ci := 6) (v := .int fbd) (C := "RangeCoders") (T := T_RC) (N := 8) hx hb hg in_RC hown hK hP 8 rfl rfl 6 (by decide) (hg _ k264) (fun _ h9 => h9) rfl d_RC_get_23 ?_
    refine lv_if_eq (tgt := 34) hx hb d_RC_get_26 (by decide) (fun c_2 => ?_) (fun c_2 => ?_)
    · refine lv_aload_n hx hb d_RC_get_34 rfl (lv_at hl 1 rfl) ?_
      refine lv_aload_n hx hb d_RC_get_35 rfl (lv_at hl 1 rfl) ?_
      refine va_get (D := (dC, dI)) (ci := 6) (v := .ref co) (C := "RangeCoders") (T := T_RC) (N := 8) hx hb hg in_RC hown hK hP 8 rfl rfl 0 (by decide) (hg _ k258) (fun _ h9 => h9) rfl d_RC_get_36 ?_
      refine lv_aload_n hx hb d_RC_get_39 rfl (lv_at hl 0 rfl) ?_
      refine va_get (D := (dC, dI)) (ci := 8) (v := .ref oo) (C := "RangeCoders$Model") (T := T_Model) (N := 3) hx hb hg in_Model hown hK hP 3 rfl rfl 2 (by decide) (hg _ k345) (fun _ h9 => h9) rfl d_RC_get_40 ?_
      refine my_ci (wr := [(mo, Sum.inr (8, [Value.ref ka, Value.ref o2, Value.ref oo])), (ka, Sum.inl (cI, kl, Sum.inl kf)), (rc, Sum.inr (6, [Value.ref co, Value.ref ma, Value.int (nI k), Value.int fit, Value.int fen, Value.int frd, Value.int fbd, Value.int fir])), (ma, Sum.inl (cM, 8, Sum.inr (Sum.inr (Sum.inr (Sum.inr mf)))))]) (va_runU (As := [Value.ref oo]) (rest := [Value.ref rc]) ⟨hx, hb, hml, hown, hts⟩ (c_Stack_Stack_nextSign l dC dI cI cM cO H.size co xx xreadX soa sna swa xkept ri ro rw xasked rin ria rik rif oo osg osm ofc oca opa ol ocf opl opf (by first | assumption | omega) (by first | assumption | omega) (by first | assumption | omega)) (va_cwA 1 hts (my_gU k775 k777 k830 k831 k10 k832) rfl rfl rfl (hN.1 _ j776 rfl) (by decide +kernel) ⟨by rw [hR]; exact Nat.le_of_ble_eq_true rfl, by rw [hR]; exact Nat.le_of_ble_eq_true rfl⟩) (my_preV hK hN (hP.sub [0, 1, 2, 5, 6, 7] rfl) (hD.sub [0, 1, 2, 5, 6, 7] (by decide +kernel) rfl) 0 rfl rfl) rfl rfl hl.1 rfl (lv_room (Nat.le_of_ble_eq_true rfl)) d_RC_get_43 ⟨by rw [hR]; exact Nat.le_of_ble_eq_true rfl, by rw [hR]; exact Nat.le_of_ble_eq_true rfl⟩) hP hD hS hA [0, 1, 2, 5, 6, 7] [3, 4, 8, 9] rfl rfl (by decide +kernel) (by decide +kernel) (fun r_43 u9 H locs hw_43 hP hD hS => ?_)
      obtain ⟨xreadXq_43, xaskedq_43⟩ := u9
      have hPD : my_PD (dC, dI) vwCl A [(mo, Sum.inr (8, [Value.ref ka, Value.ref o2, Value.ref oo])), (ka, Sum.inl (cI, kl, Sum.inl kf)), (rc, Sum.inr (6, [Value.ref co, Value.ref ma, Value.int (nI k), Value.int fit, Value.int fen, Value.int frd, Value.int fbd, Value.int fir])), (ma, Sum.inl (cM, 8, Sum.inr (Sum.inr (Sum.inr (Sum.inr mf))))), (co, Sum.inr (4, [Value.long xx, Value.long xreadXq_43, Value.ref soa, Value.ref sna, Value.ref swa, Value.int xkept, Value.ref ri, Value.ref ro, Value.ref rw, Value.int xaskedq_43])), (ri, Sum.inr (0, [Value.int rin, Value.ref ria])), (ria, Sum.inl (cI, rik, Sum.inl rif)), (oo, Sum.inr (7, [Value.int osg, Value.int osm, Value.int ofc, Value.ref oca, Value.ref opa])), (oca, Sum.inl (cI, ol, Sum.inl ocf)), (opa, Sum.inl (cI, opl, Sum.inl opf))] H := ⟨hP, hD⟩
      have hP := hPD.1
      have hD := hPD.2
      refine my_ci (wr := [(mo, Sum.inr (8, [Value.ref ka, Value.ref o2, Value.ref oo])), (ka, Sum.inl (cI, kl, Sum.inl kf)), (ma, Sum.inl (cM, 8, Sum.inr (Sum.inr (Sum.inr (Sum.inr mf))))), (co, Sum.inr (4, [Value.long xx, Value.long xreadXq_43, Value.ref soa, Value.ref sna, Value.ref swa, Value.int xkept, Value.ref ri, Value.ref ro, Value.ref rw, Value.int xaskedq_43])), (ri, Sum.inr (0, [Value.int rin, Value.ref ria])), (ria, Sum.inl (cI, rik, Sum.inl rif)), (oo, Sum.inr (7, [Value.int osg, Value.int osm, Value.int ofc, Value.ref oca, Value.ref opa])), (oca, Sum.inl (cI, ol, Sum.inl ocf)), (opa, Sum.inl (cI, opl, Sum.inl opf))]) (va_runV (As := [Value.int r_43]) (rest := []) ⟨hx, hb, hml, hown, hts⟩ (c_RC_itemOrBad l dC dI cI cM cO H.size rc ma k fit fen frd fbd fir mf co r_43) (cwV 1 hts (my_gV k854 k856 ks17 k1 k857) rfl rfl rfl cu_RC_itemOrBad_1 ⟨by rw [hR]; exact Nat.le_of_ble_eq_true rfl, by rw [hR]; exact Nat.le_of_ble_eq_true rfl⟩) (my_preV hK hN (hP.sub [2] rfl) (hD.sub [2] (by decide +kernel) rfl) 0 rfl rfl) rfl rfl hl.1 rfl (lv_room (Nat.le_of_ble_eq_true rfl)) d_RC_get_46 ⟨by rw [hR]; exact Nat.le_of_ble_eq_true rfl, by rw [hR]; exact Nat.le_of_ble_eq_true rfl⟩) hP hD hS hA [2] [0, 1, 3, 4, 5, 6, 7, 8, 9] rfl rfl (by decide +kernel) (by decide +kernel) (fun r_46 u9 H locs hw_46 hP hD hS => ?_)
      obtain ⟨fbdq_46, firq_46⟩ := u9
      have hPD : my_PD (dC, dI) vwCl A [(mo, Sum.inr (8, [Value.ref ka, Value.ref o2, Value.ref oo])), (ka, Sum.inl (cI, kl, Sum.inl kf)), (ma, Sum.inl (cM, 8, Sum.inr (Sum.inr (Sum.inr (Sum.inr mf))))), (co, Sum.inr (4, [Value.long xx, Value.long xreadXq_43, Value.ref soa, Value.ref sna, Value.ref swa, Value.int xkept, Value.ref ri, Value.ref ro, Value.ref rw, Value.int xaskedq_43])), (ri, Sum.inr (0, [Value.int rin, Value.ref ria])), (ria, Sum.inl (cI, rik, Sum.inl rif)), (oo, Sum.inr (7, [Value.int osg, Value.int osm, Value.int ofc, Value.ref oca, Value.ref opa])), (oca, Sum.inl (cI, ol, Sum.inl ocf)), (opa, Sum.inl (cI, opl, Sum.inl opf)), (rc, Sum.inr (6, [Value.ref co, Value.ref ma, Value.int (nI k), Value.int fit, Value.int fen, Value.int frd, Value.int fbdq_46, Value.int firq_46]))] H := ⟨hP, hD⟩
      have hP := hPD.1
      have hD := hPD.2
      exact my_iret (v := r_46) hx hb hr (rfl) hlocks hQ hK hS (Nat.le_refl _) (Nat.le_refl _) (fbdq_46, firq_46, xreadXq_43, xaskedq_43) (trivial) (hP.sub [9, 2, 3, 4, 5, 0, 1, 6, 7, 8] rfl) (hD.sub [9, 2, 3, 4, 5, 0, 1, 6, 7, 8] (by decide +kernel) rfl) d_RC_get_49
    · refine lv_bipush (v := (-5)) hx hb d_RC_get_29 (by decide) ?_
      refine lv_goto (tgt := 49) hx hb d_RC_get_31 (by decide) ?_
      exact my_iret (v := (-5)) hx hb hr (rfl) hlocks hQ hK hS (Nat.le_refl _) (Nat.le_refl _) (fbd, fir, xreadX, xasked) (trivial) (hP.sub [8, 9, 0, 1, 2, 3, 4, 5, 6, 7] rfl) (hD.sub [8, 9, 0, 1, 2, 3, 4, 5, 6, 7] (by decide +kernel) rfl) d_RC_get_49
  · refine lv_bipush (v := (-3)) hx hb d_RC_get_19 (by decide) ?_
    exact my_iret (v := (-3)) hx hb hr (rfl) hlocks hQ hK hS (Nat.le_refl _) (Nat.le_refl _) (fbd, fir, xreadX, xasked) (trivial) (hP.sub [8, 9, 0, 1, 2, 3, 4, 5, 6, 7] rfl) (hD.sub [8, 9, 0, 1, 2, 3, 4, 5, 6, 7] (by decide +kernel) rfl) d_RC_get_21
set_option maxHeartbeats 2000000 in
set_option maxRecDepth 100000 in
theorem c_RC_getBits_Stack (l : Launch) (dC : Nat → ClassId) (dI : Nat → Nat → Nat) (cI cM cO : ClassId) (sz : Nat) (rc : Nat) (ma : Nat) (k : Nat) (fit : Int32) (fen : Int32) (frd : Int32) (fbd : Int32) (fir : Int32) (mf : Nat → Option Nat) (co : Nat) (xx : Int64) (xreadX : Int64) (soa : Nat) (sna : Nat) (swa : Nat) (xkept : Int32) (ri : Nat) (ro : Nat) (rw : Nat) (xasked : Int32) (rin : Int32) (ria : Nat) (rik : Nat) (rif : Nat → Int32) (wd : Int32) (hk8 : k ≤ 8) (hri : rOk rin rik) : MetI l y_RC_getBits (Cond.code y_RC_getBits prog_1_method_14_code 2 (some .int) :: gw) ({ frames := 5, cells := 0, slots := 0, locals := 109 } : Room) (dC, dI) vwCl (kT cI cM cO) [Value.ref rc, Value.int wd] [(rc, Sum.inr (6, [Value.ref co, Value.ref ma, Value.int (nI k), Value.int fit, Value.int fen, Value.int frd, Value.int fbd, Value.int fir])), (ma, Sum.inl (cM, 8, Sum.inr (Sum.inr (Sum.inr (Sum.inr mf))))), (co, Sum.inr (4, [Value.long xx, Value.long xreadX, Value.ref soa, Value.ref sna, Value.ref swa, Value.int xkept, Value.ref ri, Value.ref ro, Value.ref rw, Value.int xasked])), (ri, Sum.inr (0, [Value.int rin, Value.ref ria])), (ria, Sum.inl (cI, rik, Sum.inl rif))] sz (fun (r : Int32) (u : Int32 × Int32 × Int64 × Int32) => True) (fun (u : Int32 × Int32 × Int64 × Int32) => [(rc, Sum.inr (6, [Value.ref co, Value.ref ma, Value.int (nI k), Value.int fit, Value.int fen, Value.int frd, Value.int u.1, Value.int u.2.1])), (ma, Sum.inl (cM, 8, Sum.inr (Sum.inr (Sum.inr (Sum.inr mf))))), (co, Sum.inr (4, [Value.long xx, Value.long u.2.2.1, Value.ref soa, Value.ref sna, Value.ref swa, Value.int xkept, Value.ref ri, Value.ref ro, Value.ref rw, Value.int u.2.2.2])), (ri, Sum.inr (0, [Value.int rin, Value.ref ria])), (ria, Sum.inl (cI, rik, Sum.inl rif))]) 0 0 := by
  refine my_ofI (cc := prog_1_method_14_code) (n := 2) (ret := (some .int)) (by decide) rfl (Nat.le_of_ble_eq_true rfl) ?_
  intro p e s m args below meth c R Q A ls H locs hx hb hr hts hown hlocks hml hnm hR hQ hA hl hP hK hN hD hS
  have hg : ∀ w ∈ gw, w.before args s = true := fun w h => hts w (List.mem_cons_of_mem _ h)
  have hown : s.vm.findClass "RangeCoders" = some m.cls := hown
  have hl : lv_has ls 2 [(0, Value.ref rc), (1, Value.int wd)] := hl
  have hlt_hri := rOk_lt hri
  refine lv_aload_n hx hb d_RC_getBits_0 rfl (lv_at hl 0 rfl) ?_
  refine va_get (D := (dC, dI)) (ci := 6) (v := .ref co) (C := "RangeCoders") (T := T_RC) (N := 8) hx hb hg in_RC hown hK hP 0 rfl rfl 0 (by decide) (hg _ k258) (fun _ h9 => h9) rfl d_RC_getBits_1 ?_
  refine lv_iload_n hx hb d_RC_getBits_4 rfl (lv_at hl 1 rfl) ?_
  refine my_ci (wr := [(rc, Sum.inr (6, [Value.ref co, Value.ref ma, Value.int (nI k), Value.int fit, Value.int fen, Value.int frd, Value.int fbd, Value.int fir])), (ma, Sum.inl (cM, 8, Sum.inr (Sum.inr (Sum.inr (Sum.inr mf))))), (ri, Sum.inr (0, [Value.int rin, Value.ref ria])), (ria, Sum.inl (cI, rik, Sum.inl rif))]) (va_runU (As := [Value.int wd]) (rest := []) ⟨hx, hb, hml, hown, hts⟩ (c_Stack_Coder_hasWidth l dC dI cI cM cO H.size co xx xreadX soa sna swa xkept ri ro rw xasked wd) (va_cwU 1 hts (my_gU k543 k545 k549 k544 k3 k553) rfl rfl rfl rfl (by decide +kernel) ⟨by rw [hR]; exact Nat.le_of_ble_eq_true rfl, by rw [hR]; exact Nat.le_of_ble_eq_true rfl⟩) (my_preV hK hN (hP.sub [2] rfl) (hD.sub [2] (by decide +kernel) rfl) 0 rfl rfl) rfl rfl hl.1 rfl (lv_room (Nat.le_of_ble_eq_true rfl)) d_RC_getBits_5 ⟨by rw [hR]; exact Nat.le_of_ble_eq_true rfl, by rw [hR]; exact Nat.le_of_ble_eq_true rfl⟩) hP hD hS hA [2] [0, 1, 3, 4] rfl rfl (by decide +kernel) (by decide +kernel) (fun r_5 u9 H locs hw_5 hP hD hS => ?_)
  have hPD : my_PD (dC, dI) vwCl A [(rc, Sum.inr (6, [Value.ref co, Value.ref ma, Value.int (nI k), Value.int fit, Value.int fen, Value.int frd, Value.int fbd, Value.int fir])), (ma, Sum.inl (cM, 8, Sum.inr (Sum.inr (Sum.inr (Sum.inr mf))))), (ri, Sum.inr (0, [Value.int rin, Value.ref ria])), (ria, Sum.inl (cI, rik, Sum.inl rif)), (co, Sum.inr (4, [Value.long xx, Value.long xreadX, Value.ref soa, Value.ref sna, Value.ref swa, Value.int xkept, Value.ref ri, Value.ref ro, Value.ref rw, Value.int xasked]))] H := ⟨hP, hD⟩
  have hP := hPD.1
  have hD := hPD.2
  refine lv_if_ne (tgt := 14) hx hb d_RC_getBits_8 (by decide) (fun c_1 => ?_) (fun c_1 => ?_)
  · refine lv_aload_n hx hb d_RC_getBits_14 rfl (lv_at hl 0 rfl) ?_
    refine va_get (D := (dC, dI)) (ci := 6) (v := .int frd) (C := "RangeCoders") (T := T_RC) (N := 8) hx hb hg in_RC hown hK hP 0 rfl rfl 5 (by decide) (hg _ k263) (fun _ h9 => h9) rfl d_RC_getBits_15 ?_
    refine lv_if_ne (tgt := 24) hx hb d_RC_getBits_18 (by decide) (fun c_2 => ?_) (fun c_2 => ?_)
    · refine lv_aload_n hx hb d_RC_getBits_24 rfl (lv_at hl 0 rfl) ?_
      refine va_get (D := (dC, dI)) (ci := 6) (v := .int fbd) (C := "RangeCoders") (T := T_RC) (N := 8) hx hb hg in_RC hown hK hP 0 rfl rfl 6 (by decide) (hg _ k264) (fun _ h9 => h9) rfl d_RC_getBits_25 ?_
      refine lv_if_eq (tgt := 36) hx hb d_RC_getBits_28 (by decide) (fun c_3 => ?_) (fun c_3 => ?_)
      · refine lv_aload_n hx hb d_RC_getBits_36 rfl (lv_at hl 0 rfl) ?_
        refine lv_aload_n hx hb d_RC_getBits_37 rfl (lv_at hl 0 rfl) ?_
        refine va_get (D := (dC, dI)) (ci := 6) (v := .ref co) (C := "RangeCoders") (T := T_RC) (N := 8) hx hb hg in_RC hown hK hP 0 rfl rfl 0 (by decide) (hg _ k258) (fun _ h9 => h9) rfl d_RC_getBits_38 ?_
        refine lv_iload_n hx hb d_RC_getBits_41 rfl (lv_at hl 1 rfl) ?_
        refine my_ci (wr := [(rc, Sum.inr (6, [Value.ref co, Value.ref ma, Value.int (nI k), Value.int fit, Value.int fen, Value.int frd, Value.int fbd, Value.int fir])), (ma, Sum.inl (cM, 8, Sum.inr (Sum.inr (Sum.inr (Sum.inr mf)))))]) (va_runU (As := [Value.int wd]) (rest := [Value.ref rc]) ⟨hx, hb, hml, hown, hts⟩ (c_Stack_Stack_nextValue l dC dI cI cM cO H.size co xx xreadX soa sna swa xkept ri ro rw xasked rin ria rik rif wd (by first | assumption | omega)) (va_cwA 1 hts (my_gU k862 k864 k872 k873 k10 k874) rfl rfl rfl (hN.1 _ j863 rfl) (by decide +kernel) ⟨by rw [hR]; exact Nat.le_of_ble_eq_true rfl, by rw [hR]; exact Nat.le_of_ble_eq_true rfl⟩) (my_preV hK hN (hP.sub [4, 2, 3] rfl) (hD.sub [4, 2, 3] (by decide +kernel) rfl) 0 rfl rfl) rfl rfl hl.1 rfl (lv_room (Nat.le_of_ble_eq_true rfl)) d_RC_getBits_42 ⟨by rw [hR]; exact Nat.le_of_ble_eq_true rfl, by rw [hR]; exact Nat.le_of_ble_eq_true rfl⟩) hP hD hS hA [4, 2, 3] [0, 1] rfl rfl (by decide +kernel) (by decide +kernel) (fun r_42 u9 H locs hw_42 hP hD hS => ?_)
        obtain ⟨xreadXq_42, xaskedq_42⟩ := u9
        have hPD : my_PD (dC, dI) vwCl A [(rc, Sum.inr (6, [Value.ref co, Value.ref ma, Value.int (nI k), Value.int fit, Value.int fen, Value.int frd, Value.int fbd, Value.int fir])), (ma, Sum.inl (cM, 8, Sum.inr (Sum.inr (Sum.inr (Sum.inr mf))))), (co, Sum.inr (4, [Value.long xx, Value.long xreadXq_42, Value.ref soa, Value.ref sna, Value.ref swa, Value.int xkept, Value.ref ri, Value.ref ro, Value.ref rw, Value.int xaskedq_42])), (ri, Sum.inr (0, [Value.int rin, Value.ref ria])), (ria, Sum.inl (cI, rik, Sum.inl rif))] H := ⟨hP, hD⟩
        have hP := hPD.1
        have hD := hPD.2
        refine my_ci (wr := [(ma, Sum.inl (cM, 8, Sum.inr (Sum.inr (Sum.inr (Sum.inr mf))))), (co, Sum.inr (4, [Value.long xx, Value.long xreadXq_42, Value.ref soa, Value.ref sna, Value.ref swa, Value.int xkept, Value.ref ri, Value.ref ro, Value.ref rw, Value.int xaskedq_42])), (ri, Sum.inr (0, [Value.int rin, Value.ref ria])), (ria, Sum.inl (cI, rik, Sum.inl rif))]) (va_runV (As := [Value.int r_42]) (rest := []) ⟨hx, hb, hml, hown, hts⟩ (c_RC_itemOrBad l dC dI cI cM cO H.size rc ma k fit fen frd fbd fir mf co r_42) (cwV 1 hts (my_gV k854 k856 ks17 k1 k857) rfl rfl rfl cu_RC_itemOrBad_1 ⟨by rw [hR]; exact Nat.le_of_ble_eq_true rfl, by rw [hR]; exact Nat.le_of_ble_eq_true rfl⟩) (my_preV hK hN (hP.sub [0] rfl) (hD.sub [0] (by decide +kernel) rfl) 0 rfl rfl) rfl rfl hl.1 rfl (lv_room (Nat.le_of_ble_eq_true rfl)) d_RC_getBits_45 ⟨by rw [hR]; exact Nat.le_of_ble_eq_true rfl, by rw [hR]; exact Nat.le_of_ble_eq_true rfl⟩) hP hD hS hA [0] [1, 2, 3, 4] rfl rfl (by decide +kernel) (by decide +kernel) (fun r_45 u9 H locs hw_45 hP hD hS => ?_)
        obtain ⟨fbdq_45, firq_45⟩ := u9
        have hPD : my_PD (dC, dI) vwCl A [(ma, Sum.inl (cM, 8, Sum.inr (Sum.inr (Sum.inr (Sum.inr mf))))), (co, Sum.inr (4, [Value.long xx, Value.long xreadXq_42, Value.ref soa, Value.ref sna, Value.ref swa, Value.int xkept, Value.ref ri, Value.ref ro, Value.ref rw, Value.int xaskedq_42])), (ri, Sum.inr (0, [Value.int rin, Value.ref ria])), (ria, Sum.inl (cI, rik, Sum.inl rif)), (rc, Sum.inr (6, [Value.ref co, Value.ref ma, Value.int (nI k), Value.int fit, Value.int fen, Value.int frd, Value.int fbdq_45, Value.int firq_45]))] H := ⟨hP, hD⟩
        have hP := hPD.1
        have hD := hPD.2
        exact my_iret (v := r_45) hx hb hr (rfl) hlocks hQ hK hS (Nat.le_refl _) (Nat.le_refl _) (fbdq_45, firq_45, xreadXq_42, xaskedq_42) (trivial) (hP.sub [4, 0, 1, 2, 3] rfl) (hD.sub [4, 0, 1, 2, 3] (by decide +kernel) rfl) d_RC_getBits_48
      · refine lv_bipush (v := (-5)) hx hb d_RC_getBits_31 (by decide) ?_
        refine lv_goto (tgt := 48) hx hb d_RC_getBits_33 (by decide) ?_
        exact my_iret (v := (-5)) hx hb hr (rfl) hlocks hQ hK hS (Nat.le_refl _) (Nat.le_refl _) (fbd, fir, xreadX, xasked) (trivial) (hP.sub [0, 1, 4, 2, 3] rfl) (hD.sub [0, 1, 4, 2, 3] (by decide +kernel) rfl) d_RC_getBits_48
    · refine lv_bipush (v := (-3)) hx hb d_RC_getBits_21 (by decide) ?_
      exact my_iret (v := (-3)) hx hb hr (rfl) hlocks hQ hK hS (Nat.le_refl _) (Nat.le_refl _) (fbd, fir, xreadX, xasked) (trivial) (hP.sub [0, 1, 4, 2, 3] rfl) (hD.sub [0, 1, 4, 2, 3] (by decide +kernel) rfl) d_RC_getBits_23
  · refine lv_bipush (v := (-2)) hx hb d_RC_getBits_11 (by decide) ?_
    exact my_iret (v := (-2)) hx hb hr (rfl) hlocks hQ hK hS (Nat.le_refl _) (Nat.le_refl _) (fbd, fir, xreadX, xasked) (trivial) (hP.sub [0, 1, 4, 2, 3] rfl) (hD.sub [0, 1, 4, 2, 3] (by decide +kernel) rfl) d_RC_getBits_13
set_option maxHeartbeats 2000000 in
set_option maxRecDepth 100000 in
theorem c_RC_told_Stack (l : Launch) (dC : Nat → ClassId) (dI : Nat → Nat → Nat) (cI cM cO : ClassId) (sz : Nat) (rc : Nat) (ma : Nat) (k : Nat) (fit : Int32) (fen : Int32) (frd : Int32) (fbd : Int32) (fir : Int32) (mf : Nat → Option Nat) (co : Nat) (xx : Int64) (xreadX : Int64) (soa : Nat) (sna : Nat) (swa : Nat) (xkept : Int32) (ri : Nat) (ro : Nat) (rw : Nat) (xasked : Int32) (rin : Int32) (ria : Nat) (rik : Nat) (rif : Nat → Int32) (ron : Int32) (roa : Nat) (rok : Nat) (rof : Nat → Int32) (wh : Int32) (hk8 : k ≤ 8) (hri : rOk rin rik) (hro : rOk ron rok) : MetI l y_RC_told (Cond.code y_RC_told prog_1_method_15_code 2 (some .int) :: gw) ({ frames := 1, cells := 0, slots := 0, locals := 20 } : Room) (dC, dI) vwCl (kT cI cM cO) [Value.ref rc, Value.int wh] [(rc, Sum.inr (6, [Value.ref co, Value.ref ma, Value.int (nI k), Value.int fit, Value.int fen, Value.int frd, Value.int fbd, Value.int fir])), (ma, Sum.inl (cM, 8, Sum.inr (Sum.inr (Sum.inr (Sum.inr mf))))), (co, Sum.inr (4, [Value.long xx, Value.long xreadX, Value.ref soa, Value.ref sna, Value.ref swa, Value.int xkept, Value.ref ri, Value.ref ro, Value.ref rw, Value.int xasked])), (ri, Sum.inr (0, [Value.int rin, Value.ref ria])), (ria, Sum.inl (cI, rik, Sum.inl rif)), (ro, Sum.inr (0, [Value.int ron, Value.ref roa])), (roa, Sum.inl (cI, rok, Sum.inl rof))] sz (fun (r : Int32) (u : Unit) => True) (fun (u : Unit) => [(rc, Sum.inr (6, [Value.ref co, Value.ref ma, Value.int (nI k), Value.int fit, Value.int fen, Value.int frd, Value.int fbd, Value.int fir])), (ma, Sum.inl (cM, 8, Sum.inr (Sum.inr (Sum.inr (Sum.inr mf))))), (co, Sum.inr (4, [Value.long xx, Value.long xreadX, Value.ref soa, Value.ref sna, Value.ref swa, Value.int xkept, Value.ref ri, Value.ref ro, Value.ref rw, Value.int xasked])), (ri, Sum.inr (0, [Value.int rin, Value.ref ria])), (ria, Sum.inl (cI, rik, Sum.inl rif)), (ro, Sum.inr (0, [Value.int ron, Value.ref roa])), (roa, Sum.inl (cI, rok, Sum.inl rof))]) 0 0 := by
  refine my_ofI (cc := prog_1_method_15_code) (n := 2) (ret := (some .int)) (by decide) rfl (Nat.le_of_ble_eq_true rfl) ?_
  intro p e s m args below meth c R Q A ls H locs hx hb hr hts hown hlocks hml hnm hR hQ hA hl hP hK hN hD hS
  have hg : ∀ w ∈ gw, w.before args s = true := fun w h => hts w (List.mem_cons_of_mem _ h)
  have hown : s.vm.findClass "RangeCoders" = some m.cls := hown
  have hl : lv_has ls 2 [(0, Value.ref rc), (1, Value.int wh)] := hl
  have hlt_hri := rOk_lt hri
  have hlt_hro := rOk_lt hro
  refine lv_iload_n hx hb d_RC_told_0 rfl (lv_at hl 1 rfl) ?_
  refine lv_if_lt (tgt := 10) hx hb d_RC_told_1 (by decide) (fun c_1 => ?_) (fun c_1 => ?_)
  · refine lv_bipush (v := (-2)) hx hb d_RC_told_10 (by decide) ?_
    exact my_iret (v := (-2)) hx hb hr (rfl) hlocks hQ hK hS (Nat.le_refl _) (Nat.le_refl _) () (trivial) (hP.sub [0, 1, 2, 3, 4, 5, 6] rfl) (hD.sub [0, 1, 2, 3, 4, 5, 6] (by decide +kernel) rfl) d_RC_told_12
  · refine lv_iload_n hx hb d_RC_told_4 rfl (lv_at hl 1 rfl) ?_
    refine lv_bipush (v := 7) hx hb d_RC_told_5 (by decide) ?_
    refine lv_icmp_le (tgt := 13) hx hb d_RC_told_7 (by decide) (fun c_2 => ?_) (fun c_2 => ?_)
    · refine lv_iload_n hx hb d_RC_told_13 rfl (lv_at hl 1 rfl) ?_
      by_cases c_3 : wh = 0
      · refine lv_tableIn (tgt := 56) hx hb d_RC_told_14 (by rw [c_3]; decide) (by rw [c_3]; decide) (by rw [c_3]; rfl) (by decide) ?_
        refine lv_aload_n hx hb d_RC_told_56 rfl (lv_at hl 0 rfl) ?_
        refine va_get (D := (dC, dI)) (ci := 6) (v := .int fit) (C := "RangeCoders") (T := T_RC) (N := 8) hx hb hg in_RC hown hK hP 0 rfl rfl 3 (by decide) (hg _ k261) (fun _ h9 => h9) rfl d_RC_told_57 ?_
        exact my_iret (v := fit) hx hb hr (rfl) hlocks hQ hK hS (Nat.le_refl _) (Nat.le_refl _) () (trivial) (hP.sub [0, 1, 2, 3, 4, 5, 6] rfl) (hD.sub [0, 1, 2, 3, 4, 5, 6] (by decide +kernel) rfl) d_RC_told_60
      by_cases c_4 : wh = 1
      · refine lv_tableIn (tgt := 61) hx hb d_RC_told_14 (by rw [c_4]; decide) (by rw [c_4]; decide) (by rw [c_4]; rfl) (by decide) ?_
        refine lv_aload_n hx hb d_RC_told_61 rfl (lv_at hl 0 rfl) ?_
        refine va_get (D := (dC, dI)) (ci := 6) (v := .int fen) (C := "RangeCoders") (T := T_RC) (N := 8) hx hb hg in_RC hown hK hP 0 rfl rfl 4 (by decide) (hg _ k262) (fun _ h9 => h9) rfl d_RC_told_62 ?_
        refine lv_if_eq (tgt := 72) hx hb d_RC_told_65 (by decide) (fun c_5 => ?_) (fun c_5 => ?_)
        · refine lv_iconst (v := 0) hx hb d_RC_told_72 (by decide) ?_
          exact my_iret (v := 0) hx hb hr (rfl) hlocks hQ hK hS (Nat.le_refl _) (Nat.le_refl _) () (trivial) (hP.sub [0, 1, 2, 3, 4, 5, 6] rfl) (hD.sub [0, 1, 2, 3, 4, 5, 6] (by decide +kernel) rfl) d_RC_told_73
        · refine lv_iconst (v := 1) hx hb d_RC_told_68 (by decide) ?_
          refine lv_goto (tgt := 73) hx hb d_RC_told_69 (by decide) ?_
          exact my_iret (v := 1) hx hb hr (rfl) hlocks hQ hK hS (Nat.le_refl _) (Nat.le_refl _) () (trivial) (hP.sub [0, 1, 2, 3, 4, 5, 6] rfl) (hD.sub [0, 1, 2, 3, 4, 5, 6] (by decide +kernel) rfl) d_RC_told_73
      by_cases c_6 : wh = 2
      · refine lv_tableIn (tgt := 74) hx hb d_RC_told_14 (by rw [c_6]; decide) (by rw [c_6]; decide) (by rw [c_6]; rfl) (by decide) ?_
        refine lv_aload_n hx hb d_RC_told_74 rfl (lv_at hl 0 rfl) ?_
        refine va_get (D := (dC, dI)) (ci := 6) (v := .ref co) (C := "RangeCoders") (T := T_RC) (N := 8) hx hb hg in_RC hown hK hP 0 rfl rfl 0 (by decide) (hg _ k258) (fun _ h9 => h9) rfl d_RC_told_75 ?_
        refine va_get (D := (dC, dI)) (ci := 4) (v := .ref ro) (C := "RangeCoders$Stack") (T := T_Stack) (N := 10) hx hb hg in_Stack hown hK hP 2 rfl rfl 7 (by decide) (hg _ k108) (fun _ h9 => h9) rfl d_RC_told_78 ?_
        refine va_get (D := (dC, dI)) (ci := 0) (v := .int ron) (C := "RangeCoders$Row") (T := T_Row) (N := 2) hx hb hg in_Row hown hK hP 5 rfl rfl 0 (by decide) (hg _ k58) (fun _ h9 => h9) rfl d_RC_told_81 ?_
        exact my_iret (v := ron) hx hb hr (rfl) hlocks hQ hK hS (Nat.le_refl _) (Nat.le_refl _) () (trivial) (hP.sub [0, 1, 2, 3, 4, 5, 6] rfl) (hD.sub [0, 1, 2, 3, 4, 5, 6] (by decide +kernel) rfl) d_RC_told_84
      by_cases c_7 : wh = 3
      · refine lv_tableIn (tgt := 85) hx hb d_RC_told_14 (by rw [c_7]; decide) (by rw [c_7]; decide) (by rw [c_7]; rfl) (by decide) ?_
        refine lv_aload_n hx hb d_RC_told_85 rfl (lv_at hl 0 rfl) ?_
        refine va_get (D := (dC, dI)) (ci := 6) (v := .ref co) (C := "RangeCoders") (T := T_RC) (N := 8) hx hb hg in_RC hown hK hP 0 rfl rfl 0 (by decide) (hg _ k258) (fun _ h9 => h9) rfl d_RC_told_86 ?_
        refine va_get (D := (dC, dI)) (ci := 4) (v := .ref ri) (C := "RangeCoders$Stack") (T := T_Stack) (N := 10) hx hb hg in_Stack hown hK hP 2 rfl rfl 6 (by decide) (hg _ k102) (fun _ h9 => h9) rfl d_RC_told_89 ?_
        refine va_get (D := (dC, dI)) (ci := 0) (v := .int rin) (C := "RangeCoders$Row") (T := T_Row) (N := 2) hx hb hg in_Row hown hK hP 3 rfl rfl 0 (by decide) (hg _ k58) (fun _ h9 => h9) rfl d_RC_told_92 ?_
        exact my_iret (v := rin) hx hb hr (rfl) hlocks hQ hK hS (Nat.le_refl _) (Nat.le_refl _) () (trivial) (hP.sub [0, 1, 2, 3, 4, 5, 6] rfl) (hD.sub [0, 1, 2, 3, 4, 5, 6] (by decide +kernel) rfl) d_RC_told_95
      by_cases c_8 : wh = 4
      · refine lv_tableIn (tgt := 96) hx hb d_RC_told_14 (by rw [c_8]; decide) (by rw [c_8]; decide) (by rw [c_8]; rfl) (by decide) ?_
        refine lv_aload_n hx hb d_RC_told_96 rfl (lv_at hl 0 rfl) ?_
        refine va_get (D := (dC, dI)) (ci := 6) (v := .int fir) (C := "RangeCoders") (T := T_RC) (N := 8) hx hb hg in_RC hown hK hP 0 rfl rfl 7 (by decide) (hg _ k265) (fun _ h9 => h9) rfl d_RC_told_97 ?_
        exact my_iret (v := fir) hx hb hr (rfl) hlocks hQ hK hS (Nat.le_refl _) (Nat.le_refl _) () (trivial) (hP.sub [0, 1, 2, 3, 4, 5, 6] rfl) (hD.sub [0, 1, 2, 3, 4, 5, 6] (by decide +kernel) rfl) d_RC_told_100
      by_cases c_9 : wh = 5
      · refine lv_tableIn (tgt := 101) hx hb d_RC_told_14 (by rw [c_9]; decide) (by rw [c_9]; decide) (by rw [c_9]; rfl) (by decide) ?_
        refine lv_aload_n hx hb d_RC_told_101 rfl (lv_at hl 0 rfl) ?_
        refine va_get (D := (dC, dI)) (ci := 6) (v := .int frd) (C := "RangeCoders") (T := T_RC) (N := 8) hx hb hg in_RC hown hK hP 0 rfl rfl 5 (by decide) (hg _ k263) (fun _ h9 => h9) rfl d_RC_told_102 ?_
        refine lv_if_eq (tgt := 118) hx hb d_RC_told_105 (by decide) (fun c_10 => ?_) (fun c_10 => ?_)
        · refine lv_iconst (v := 0) hx hb d_RC_told_118 (by decide) ?_
          exact my_iret (v := 0) hx hb hr (rfl) hlocks hQ hK hS (Nat.le_refl _) (Nat.le_refl _) () (trivial) (hP.sub [0, 1, 2, 3, 4, 5, 6] rfl) (hD.sub [0, 1, 2, 3, 4, 5, 6] (by decide +kernel) rfl) d_RC_told_119
        · refine lv_aload_n hx hb d_RC_told_108 rfl (lv_at hl 0 rfl) ?_
          refine va_get (D := (dC, dI)) (ci := 6) (v := .ref co) (C := "RangeCoders") (T := T_RC) (N := 8) hx hb hg in_RC hown hK hP 0 rfl rfl 0 (by decide) (hg _ k258) (fun _ h9 => h9) rfl d_RC_told_109 ?_
          refine my_ci (wr := [(rc, Sum.inr (6, [Value.ref co, Value.ref ma, Value.int (nI k), Value.int fit, Value.int fen, Value.int frd, Value.int fbd, Value.int fir])), (ma, Sum.inl (cM, 8, Sum.inr (Sum.inr (Sum.inr (Sum.inr mf))))), (ri, Sum.inr (0, [Value.int rin, Value.ref ria])), (ria, Sum.inl (cI, rik, Sum.inl rif)), (ro, Sum.inr (0, [Value.int ron, Value.ref roa])), (roa, Sum.inl (cI, rok, Sum.inl rof))]) (va_runU (As := []) (rest := []) ⟨hx, hb, hml, hown, hts⟩ (c_Stack_Coder_bytesAsked l dC dI cI cM cO H.size co xx xreadX soa sna swa xkept ri ro rw xasked) (va_cwU 0 hts (my_gU k880 k882 k886 k881 k3 k890) rfl rfl rfl rfl (by decide +kernel) ⟨by rw [hR]; exact Nat.le_of_ble_eq_true rfl, by rw [hR]; exact Nat.le_of_ble_eq_true rfl⟩) (my_preV hK hN (hP.sub [2] rfl) (hD.sub [2] (by decide +kernel) rfl) 0 rfl rfl) rfl rfl hl.1 rfl (lv_room (Nat.le_of_ble_eq_true rfl)) d_RC_told_112 ⟨by rw [hR]; exact Nat.le_of_ble_eq_true rfl, by rw [hR]; exact Nat.le_of_ble_eq_true rfl⟩) hP hD hS hA [2] [0, 1, 3, 4, 5, 6] rfl rfl (by decide +kernel) (by decide +kernel) (fun r_112 u9 H locs hw_112 hP hD hS => ?_)
          have hPD : my_PD (dC, dI) vwCl A [(rc, Sum.inr (6, [Value.ref co, Value.ref ma, Value.int (nI k), Value.int fit, Value.int fen, Value.int frd, Value.int fbd, Value.int fir])), (ma, Sum.inl (cM, 8, Sum.inr (Sum.inr (Sum.inr (Sum.inr mf))))), (ri, Sum.inr (0, [Value.int rin, Value.ref ria])), (ria, Sum.inl (cI, rik, Sum.inl rif)), (ro, Sum.inr (0, [Value.int ron, Value.ref roa])), (roa, Sum.inl (cI, rok, Sum.inl rof)), (co, Sum.inr (4, [Value.long xx, Value.long xreadX, Value.ref soa, Value.ref sna, Value.ref swa, Value.int xkept, Value.ref ri, Value.ref ro, Value.ref rw, Value.int xasked]))] H := ⟨hP, hD⟩
          have hP := hPD.1
          have hD := hPD.2
          refine lv_goto (tgt := 119) hx hb d_RC_told_115 (by decide) ?_
          exact my_iret (v := r_112) hx hb hr (rfl) hlocks hQ hK hS (Nat.le_refl _) (Nat.le_refl _) () (trivial) (hP.sub [0, 1, 6, 2, 3, 4, 5] rfl) (hD.sub [0, 1, 6, 2, 3, 4, 5] (by decide +kernel) rfl) d_RC_told_119
      by_cases c_11 : wh = 6
      · refine lv_tableIn (tgt := 120) hx hb d_RC_told_14 (by rw [c_11]; decide) (by rw [c_11]; decide) (by rw [c_11]; rfl) (by decide) ?_
        refine lv_aload_n hx hb d_RC_told_120 rfl (lv_at hl 0 rfl) ?_
        refine va_get (D := (dC, dI)) (ci := 6) (v := .int fbd) (C := "RangeCoders") (T := T_RC) (N := 8) hx hb hg in_RC hown hK hP 0 rfl rfl 6 (by decide) (hg _ k264) (fun _ h9 => h9) rfl d_RC_told_121 ?_
        refine lv_if_eq (tgt := 131) hx hb d_RC_told_124 (by decide) (fun c_12 => ?_) (fun c_12 => ?_)
        · refine lv_iconst (v := 0) hx hb d_RC_told_131 (by decide) ?_
          exact my_iret (v := 0) hx hb hr (rfl) hlocks hQ hK hS (Nat.le_refl _) (Nat.le_refl _) () (trivial) (hP.sub [0, 1, 2, 3, 4, 5, 6] rfl) (hD.sub [0, 1, 2, 3, 4, 5, 6] (by decide +kernel) rfl) d_RC_told_132
        · refine lv_iconst (v := 1) hx hb d_RC_told_127 (by decide) ?_
          refine lv_goto (tgt := 132) hx hb d_RC_told_128 (by decide) ?_
          exact my_iret (v := 1) hx hb hr (rfl) hlocks hQ hK hS (Nat.le_refl _) (Nat.le_refl _) () (trivial) (hP.sub [0, 1, 2, 3, 4, 5, 6] rfl) (hD.sub [0, 1, 2, 3, 4, 5, 6] (by decide +kernel) rfl) d_RC_told_132
      refine lv_tableOut (tgt := 133) hx hb d_RC_told_14 (by have ac_3 : wh.toInt ≠ 0 := fun z => c_3 (Int32.toInt_inj.mp z); have ac_4 : wh.toInt ≠ 1 := fun z => c_4 (Int32.toInt_inj.mp z); have ac_6 : wh.toInt ≠ 2 := fun z => c_6 (Int32.toInt_inj.mp z); have ac_7 : wh.toInt ≠ 3 := fun z => c_7 (Int32.toInt_inj.mp z); have ac_8 : wh.toInt ≠ 4 := fun z => c_8 (Int32.toInt_inj.mp z); have ac_9 : wh.toInt ≠ 5 := fun z => c_9 (Int32.toInt_inj.mp z); have ac_11 : wh.toInt ≠ 6 := fun z => c_11 (Int32.toInt_inj.mp z); omega) (by decide) ?_
      refine lv_aload_n hx hb d_RC_told_133 rfl (lv_at hl 0 rfl) ?_
      refine va_get (D := (dC, dI)) (ci := 6) (v := .int frd) (C := "RangeCoders") (T := T_RC) (N := 8) hx hb hg in_RC hown hK hP 0 rfl rfl 5 (by decide) (hg _ k263) (fun _ h9 => h9) rfl d_RC_told_134 ?_
      refine lv_if_eq (tgt := 144) hx hb d_RC_told_137 (by decide) (fun c_13 => ?_) (fun c_13 => ?_)
      · refine lv_iconst (v := 0) hx hb d_RC_told_144 (by decide) ?_
        exact my_iret (v := 0) hx hb hr (rfl) hlocks hQ hK hS (Nat.le_refl _) (Nat.le_refl _) () (trivial) (hP.sub [0, 1, 2, 3, 4, 5, 6] rfl) (hD.sub [0, 1, 2, 3, 4, 5, 6] (by decide +kernel) rfl) d_RC_told_145
      · refine lv_iconst (v := 1) hx hb d_RC_told_140 (by decide) ?_
        refine lv_goto (tgt := 145) hx hb d_RC_told_141 (by decide) ?_
        exact my_iret (v := 1) hx hb hr (rfl) hlocks hQ hK hS (Nat.le_refl _) (Nat.le_refl _) () (trivial) (hP.sub [0, 1, 2, 3, 4, 5, 6] rfl) (hD.sub [0, 1, 2, 3, 4, 5, 6] (by decide +kernel) rfl) d_RC_told_145
    · refine lv_bipush (v := (-2)) hx hb d_RC_told_10 (by decide) ?_
      exact my_iret (v := (-2)) hx hb hr (rfl) hlocks hQ hK hS (Nat.le_refl _) (Nat.le_refl _) () (trivial) (hP.sub [0, 1, 2, 3, 4, 5, 6] rfl) (hD.sub [0, 1, 2, 3, 4, 5, 6] (by decide +kernel) rfl) d_RC_told_12
set_option maxHeartbeats 2000000 in
set_option maxRecDepth 100000 in
theorem c_RC_state_Stack (l : Launch) (dC : Nat → ClassId) (dI : Nat → Nat → Nat) (cI cM cO : ClassId) (sz : Nat) (rc : Nat) (ma : Nat) (k : Nat) (fit : Int32) (fen : Int32) (frd : Int32) (fbd : Int32) (fir : Int32) (mf : Nat → Option Nat) (co : Nat) (xx : Int64) (xreadX : Int64) (soa : Nat) (sna : Nat) (swa : Nat) (xkept : Int32) (ri : Nat) (ro : Nat) (rw : Nat) (xasked : Int32) (wh : Int32) (hk8 : k ≤ 8) : MetL l y_RC_state (Cond.code y_RC_state prog_1_method_16_code 2 (some .long) :: gw) ({ frames := 1, cells := 0, slots := 0, locals := 21 } : Room) (dC, dI) vwCl (kT cI cM cO) [Value.ref rc, Value.int wh] [(rc, Sum.inr (6, [Value.ref co, Value.ref ma, Value.int (nI k), Value.int fit, Value.int fen, Value.int frd, Value.int fbd, Value.int fir])), (ma, Sum.inl (cM, 8, Sum.inr (Sum.inr (Sum.inr (Sum.inr mf))))), (co, Sum.inr (4, [Value.long xx, Value.long xreadX, Value.ref soa, Value.ref sna, Value.ref swa, Value.int xkept, Value.ref ri, Value.ref ro, Value.ref rw, Value.int xasked]))] sz (fun (r : Int64) (u : Unit) => True) (fun (u : Unit) => [(rc, Sum.inr (6, [Value.ref co, Value.ref ma, Value.int (nI k), Value.int fit, Value.int fen, Value.int frd, Value.int fbd, Value.int fir])), (ma, Sum.inl (cM, 8, Sum.inr (Sum.inr (Sum.inr (Sum.inr mf))))), (co, Sum.inr (4, [Value.long xx, Value.long xreadX, Value.ref soa, Value.ref sna, Value.ref swa, Value.int xkept, Value.ref ri, Value.ref ro, Value.ref rw, Value.int xasked]))]) 0 0 := by
  refine my_ofL (cc := prog_1_method_16_code) (n := 2) (ret := (some .long)) (by decide) rfl (Nat.le_of_ble_eq_true rfl) ?_
  intro p e s m args below meth c R Q A ls H locs hx hb hr hts hown hlocks hml hnm hR hQ hA hl hP hK hN hD hS
  have hg : ∀ w ∈ gw, w.before args s = true := fun w h => hts w (List.mem_cons_of_mem _ h)
  have hown : s.vm.findClass "RangeCoders" = some m.cls := hown
  have hl : lv_has ls 2 [(0, Value.ref rc), (1, Value.int wh)] := hl
  refine lv_iload_n hx hb d_RC_state_0 rfl (lv_at hl 1 rfl) ?_
  refine lv_if_lt (tgt := 9) hx hb d_RC_state_1 (by decide) (fun c_1 => ?_) (fun c_1 => ?_)
  · refine lv_ldc2 (v := (-2)) hx hb hown (hg _ k895) d_RC_state_9 ?_
    exact my_lret (v := (-2)) hx hb hr hlocks hQ hK hS (Nat.le_refl _) (Nat.le_refl _) () (trivial) (hP.sub [0, 1, 2] rfl) (hD.sub [0, 1, 2] (by decide +kernel) rfl) d_RC_state_12
  · refine lv_iload_n hx hb d_RC_state_4 rfl (lv_at hl 1 rfl) ?_
    refine lv_iconst (v := 5) hx hb d_RC_state_5 (by decide) ?_
    refine lv_icmp_le (tgt := 13) hx hb d_RC_state_6 (by decide) (fun c_2 => ?_) (fun c_2 => ?_)
    · refine lv_iload_n hx hb d_RC_state_13 rfl (lv_at hl 1 rfl) ?_
      refine lv_iconst (v := 1) hx hb d_RC_state_14 (by decide) ?_
      refine lv_icmp_le (tgt := 27) hx hb d_RC_state_15 (by decide) (fun c_3 => ?_) (fun c_3 => ?_)
      · refine lv_aload_n hx hb d_RC_state_27 rfl (lv_at hl 0 rfl) ?_
        refine va_get (D := (dC, dI)) (ci := 6) (v := .ref co) (C := "RangeCoders") (T := T_RC) (N := 8) hx hb hg in_RC hown hK hP 0 rfl rfl 0 (by decide) (hg _ k258) (fun _ h9 => h9) rfl d_RC_state_28 ?_
        refine lv_iload_n hx hb d_RC_state_31 rfl (lv_at hl 1 rfl) ?_
        refine my_cl (wr := [(rc, Sum.inr (6, [Value.ref co, Value.ref ma, Value.int (nI k), Value.int fit, Value.int fen, Value.int frd, Value.int fbd, Value.int fir])), (ma, Sum.inl (cM, 8, Sum.inr (Sum.inr (Sum.inr (Sum.inr mf)))))]) (va_runU (As := [Value.int wh]) (rest := []) ⟨hx, hb, hml, hown, hts⟩ (c_Stack_Stacked_register l dC dI cI cM cO H.size co xx xreadX soa sna swa xkept ri ro rw xasked wh) (va_cwA 1 hts (my_gU k896 k898 k904 k905 k9 k906) rfl rfl rfl (hN.1 _ j897 rfl) (by decide +kernel) ⟨by rw [hR]; exact Nat.le_of_ble_eq_true rfl, by rw [hR]; exact Nat.le_of_ble_eq_true rfl⟩) (my_preV hK hN (hP.sub [2] rfl) (hD.sub [2] (by decide +kernel) rfl) 0 rfl rfl) rfl rfl hl.1 rfl (lv_room (Nat.le_of_ble_eq_true rfl)) d_RC_state_32 ⟨by rw [hR]; exact Nat.le_of_ble_eq_true rfl, by rw [hR]; exact Nat.le_of_ble_eq_true rfl⟩) hP hD hS hA [2] [0, 1] rfl rfl (by decide +kernel) (by decide +kernel) (fun r_32 u9 H locs hw_32 hP hD hS => ?_)
        have hPD : my_PD (dC, dI) vwCl A [(rc, Sum.inr (6, [Value.ref co, Value.ref ma, Value.int (nI k), Value.int fit, Value.int fen, Value.int frd, Value.int fbd, Value.int fir])), (ma, Sum.inl (cM, 8, Sum.inr (Sum.inr (Sum.inr (Sum.inr mf))))), (co, Sum.inr (4, [Value.long xx, Value.long xreadX, Value.ref soa, Value.ref sna, Value.ref swa, Value.int xkept, Value.ref ri, Value.ref ro, Value.ref rw, Value.int xasked]))] H := ⟨hP, hD⟩
        have hP := hPD.1
        have hD := hPD.2
        exact my_lret (v := r_32) hx hb hr hlocks hQ hK hS (Nat.le_refl _) (Nat.le_refl _) () (trivial) (hP.sub [0, 1, 2] rfl) (hD.sub [0, 1, 2] (by decide +kernel) rfl) d_RC_state_35
      · refine lv_aload_n hx hb d_RC_state_18 rfl (lv_at hl 0 rfl) ?_
        refine va_get (D := (dC, dI)) (ci := 6) (v := .int frd) (C := "RangeCoders") (T := T_RC) (N := 8) hx hb hg in_RC hown hK hP 0 rfl rfl 5 (by decide) (hg _ k263) (fun _ h9 => h9) rfl d_RC_state_19 ?_
        refine lv_if_ne (tgt := 27) hx hb d_RC_state_22 (by decide) (fun c_4 => ?_) (fun c_4 => ?_)
        · refine lv_aload_n hx hb d_RC_state_27 rfl (lv_at hl 0 rfl) ?_
          refine va_get (D := (dC, dI)) (ci := 6) (v := .ref co) (C := "RangeCoders") (T := T_RC) (N := 8) hx hb hg in_RC hown hK hP 0 rfl rfl 0 (by decide) (hg _ k258) (fun _ h9 => h9) rfl d_RC_state_28 ?_
          refine lv_iload_n hx hb d_RC_state_31 rfl (lv_at hl 1 rfl) ?_
          refine my_cl (wr := [(rc, Sum.inr (6, [Value.ref co, Value.ref ma, Value.int (nI k), Value.int fit, Value.int fen, Value.int frd, Value.int fbd, Value.int fir])), (ma, Sum.inl (cM, 8, Sum.inr (Sum.inr (Sum.inr (Sum.inr mf)))))]) (va_runU (As := [Value.int wh]) (rest := []) ⟨hx, hb, hml, hown, hts⟩ (c_Stack_Stacked_register l dC dI cI cM cO H.size co xx xreadX soa sna swa xkept ri ro rw xasked wh) (va_cwA 1 hts (my_gU k896 k898 k904 k905 k9 k906) rfl rfl rfl (hN.1 _ j897 rfl) (by decide +kernel) ⟨by rw [hR]; exact Nat.le_of_ble_eq_true rfl, by rw [hR]; exact Nat.le_of_ble_eq_true rfl⟩) (my_preV hK hN (hP.sub [2] rfl) (hD.sub [2] (by decide +kernel) rfl) 0 rfl rfl) rfl rfl hl.1 rfl (lv_room (Nat.le_of_ble_eq_true rfl)) d_RC_state_32 ⟨by rw [hR]; exact Nat.le_of_ble_eq_true rfl, by rw [hR]; exact Nat.le_of_ble_eq_true rfl⟩) hP hD hS hA [2] [0, 1] rfl rfl (by decide +kernel) (by decide +kernel) (fun r_32 u9 H locs hw_32 hP hD hS => ?_)
          have hPD : my_PD (dC, dI) vwCl A [(rc, Sum.inr (6, [Value.ref co, Value.ref ma, Value.int (nI k), Value.int fit, Value.int fen, Value.int frd, Value.int fbd, Value.int fir])), (ma, Sum.inl (cM, 8, Sum.inr (Sum.inr (Sum.inr (Sum.inr mf))))), (co, Sum.inr (4, [Value.long xx, Value.long xreadX, Value.ref soa, Value.ref sna, Value.ref swa, Value.int xkept, Value.ref ri, Value.ref ro, Value.ref rw, Value.int xasked]))] H := ⟨hP, hD⟩
          have hP := hPD.1
          have hD := hPD.2
          exact my_lret (v := r_32) hx hb hr hlocks hQ hK hS (Nat.le_refl _) (Nat.le_refl _) () (trivial) (hP.sub [0, 1, 2] rfl) (hD.sub [0, 1, 2] (by decide +kernel) rfl) d_RC_state_35
        · refine lv_lconst (v := 0) hx hb d_RC_state_25 (by decide) ?_
          exact my_lret (v := 0) hx hb hr hlocks hQ hK hS (Nat.le_refl _) (Nat.le_refl _) () (trivial) (hP.sub [0, 1, 2] rfl) (hD.sub [0, 1, 2] (by decide +kernel) rfl) d_RC_state_26
    · refine lv_ldc2 (v := (-2)) hx hb hown (hg _ k895) d_RC_state_9 ?_
      exact my_lret (v := (-2)) hx hb hr hlocks hQ hK hS (Nat.le_refl _) (Nat.le_refl _) () (trivial) (hP.sub [0, 1, 2] rfl) (hD.sub [0, 1, 2] (by decide +kernel) rfl) d_RC_state_12
set_option maxHeartbeats 2000000 in
set_option maxRecDepth 100000 in
theorem c_RC_modelA_Stack (l : Launch) (dC : Nat → ClassId) (dI : Nat → Nat → Nat) (cI cM cO : ClassId) (sz : Nat) (rc : Nat) (ma : Nat) (k : Nat) (fit : Int32) (fen : Int32) (frd : Int32) (fbd : Int32) (fir : Int32) (mf : Nat → Option Nat) (co : Nat) (xx : Int64) (xreadX : Int64) (soa : Nat) (sna : Nat) (swa : Nat) (xkept : Int32) (ri : Nat) (ro : Nat) (rw : Nat) (xasked : Int32) (nn : Int32) (hrf : nn < 2 ∨ 64 < nn) : MetI l y_RC_model (Cond.code y_RC_model prog_1_method_2_code 3 (some .int) :: gw) ({ frames := 0, cells := 0, slots := 0, locals := 0 } : Room) (dC, dI) vwCl (kT cI cM cO) [Value.ref rc, Value.int nn] [(rc, Sum.inr (6, [Value.ref co, Value.ref ma, Value.int (nI k), Value.int fit, Value.int fen, Value.int frd, Value.int fbd, Value.int fir])), (ma, Sum.inl (cM, 8, Sum.inr (Sum.inr (Sum.inr (Sum.inr mf))))), (co, Sum.inr (4, [Value.long xx, Value.long xreadX, Value.ref soa, Value.ref sna, Value.ref swa, Value.int xkept, Value.ref ri, Value.ref ro, Value.ref rw, Value.int xasked]))] sz (fun (r : Int32) (u : Unit) => r = -2) (fun (u : Unit) => [(rc, Sum.inr (6, [Value.ref co, Value.ref ma, Value.int (nI k), Value.int fit, Value.int fen, Value.int frd, Value.int fbd, Value.int fir])), (ma, Sum.inl (cM, 8, Sum.inr (Sum.inr (Sum.inr (Sum.inr mf))))), (co, Sum.inr (4, [Value.long xx, Value.long xreadX, Value.ref soa, Value.ref sna, Value.ref swa, Value.int xkept, Value.ref ri, Value.ref ro, Value.ref rw, Value.int xasked]))]) 0 0 := by
  refine my_ofI (cc := prog_1_method_2_code) (n := 3) (ret := (some .int)) (by decide) rfl (Nat.le_of_ble_eq_true rfl) ?_
  intro p e s m args below meth c R Q A ls H locs hx hb hr hts hown hlocks hml hnm hR hQ hA hl hP hK hN hD hS
  have hg : ∀ w ∈ gw, w.before args s = true := fun w h => hts w (List.mem_cons_of_mem _ h)
  have hown : s.vm.findClass "RangeCoders" = some m.cls := hown
  have hl : lv_has ls 3 [(0, Value.ref rc), (1, Value.int nn)] := hl
  refine lv_iload_n hx hb d_RC_model_0 rfl (lv_at hl 1 rfl) ?_
  refine lv_iconst (v := 2) hx hb d_RC_model_1 (by decide) ?_
  refine lv_icmp_lt (tgt := 11) hx hb d_RC_model_2 (by decide) (fun c_1 => ?_) (fun c_1 => ?_)
  · refine lv_bipush (v := (-2)) hx hb d_RC_model_11 (by decide) ?_
    exact my_iret (v := (-2)) hx hb hr (rfl) hlocks hQ hK hS (Nat.le_refl _) (Nat.le_refl _) () (rfl) (hP.sub [0, 1, 2] rfl) (hD.sub [0, 1, 2] (by decide +kernel) rfl) d_RC_model_13
  · refine lv_iload_n hx hb d_RC_model_5 rfl (lv_at hl 1 rfl) ?_
    refine lv_bipush (v := 64) hx hb d_RC_model_6 (by decide) ?_
    refine lv_icmp_le (tgt := 14) hx hb d_RC_model_8 (by decide) (fun c_2 => ?_) (fun c_2 => ?_)
    · exact absurd hrf (fun h9 => h9.elim c_1 (fun h8 => absurd c_2 (Int32.not_le.mpr h8)))
    · refine lv_bipush (v := (-2)) hx hb d_RC_model_11 (by decide) ?_
      exact my_iret (v := (-2)) hx hb hr (rfl) hlocks hQ hK hS (Nat.le_refl _) (Nat.le_refl _) () (rfl) (hP.sub [0, 1, 2] rfl) (hD.sub [0, 1, 2] (by decide +kernel) rfl) d_RC_model_13
set_option maxHeartbeats 2000000 in
set_option maxRecDepth 100000 in
theorem c_RC_modelF_Stack (l : Launch) (dC : Nat → ClassId) (dI : Nat → Nat → Nat) (cI cM cO : ClassId) (sz : Nat) (rc : Nat) (ma : Nat) (k : Nat) (fit : Int32) (fen : Int32) (frd : Int32) (fbd : Int32) (fir : Int32) (mf : Nat → Option Nat) (co : Nat) (xx : Int64) (xreadX : Int64) (soa : Nat) (sna : Nat) (swa : Nat) (xkept : Int32) (ri : Nat) (ro : Nat) (rw : Nat) (xasked : Int32) (ns : Nat) (hns2 : 2 ≤ ns) (hns : ns ≤ 64) (hk : k = 8) : MetI l y_RC_model (Cond.code y_RC_model prog_1_method_2_code 3 (some .int) :: gw) ({ frames := 0, cells := 0, slots := 0, locals := 0 } : Room) (dC, dI) vwCl (kT cI cM cO) [Value.ref rc, Value.int (nI ns)] [(rc, Sum.inr (6, [Value.ref co, Value.ref ma, Value.int (nI k), Value.int fit, Value.int fen, Value.int frd, Value.int fbd, Value.int fir])), (ma, Sum.inl (cM, 8, Sum.inr (Sum.inr (Sum.inr (Sum.inr mf))))), (co, Sum.inr (4, [Value.long xx, Value.long xreadX, Value.ref soa, Value.ref sna, Value.ref swa, Value.int xkept, Value.ref ri, Value.ref ro, Value.ref rw, Value.int xasked]))] sz (fun (r : Int32) (u : Unit) => r = -4) (fun (u : Unit) => [(rc, Sum.inr (6, [Value.ref co, Value.ref ma, Value.int (nI k), Value.int fit, Value.int fen, Value.int frd, Value.int fbd, Value.int fir])), (ma, Sum.inl (cM, 8, Sum.inr (Sum.inr (Sum.inr (Sum.inr mf))))), (co, Sum.inr (4, [Value.long xx, Value.long xreadX, Value.ref soa, Value.ref sna, Value.ref swa, Value.int xkept, Value.ref ri, Value.ref ro, Value.ref rw, Value.int xasked]))]) 0 0 := by
  refine my_ofI (cc := prog_1_method_2_code) (n := 3) (ret := (some .int)) (by decide) rfl (Nat.le_of_ble_eq_true rfl) ?_
  intro p e s m args below meth c R Q A ls H locs hx hb hr hts hown hlocks hml hnm hR hQ hA hl hP hK hN hD hS
  have hg : ∀ w ∈ gw, w.before args s = true := fun w h => hts w (List.mem_cons_of_mem _ h)
  have hown : s.vm.findClass "RangeCoders" = some m.cls := hown
  have hl : lv_has ls 3 [(0, Value.ref rc), (1, Value.int (nI ns))] := hl
  refine lv_iload_n hx hb d_RC_model_0 rfl (lv_at hl 1 rfl) ?_
  refine lv_iconst (v := 2) hx hb d_RC_model_1 (by decide) ?_
  refine lv_icmp_lt (tgt := 11) hx hb d_RC_model_2 (by decide) (fun c_1 => ?_) (fun c_1 => ?_)
  · exact absurd c_1 (show ¬ nI ns < nI 2 from nI_nlt hns2 (by omega))
  · refine lv_iload_n hx hb d_RC_model_5 rfl (lv_at hl 1 rfl) ?_
    refine lv_bipush (v := 64) hx hb d_RC_model_6 (by decide) ?_
    refine lv_icmp_le (tgt := 14) hx hb d_RC_model_8 (by decide) (fun c_2 => ?_) (fun c_2 => ?_)
    · refine lv_aload_n hx hb d_RC_model_14 rfl (lv_at hl 0 rfl) ?_
      refine va_get (D := (dC, dI)) (ci := 6) (v := .int (nI k)) (C := "RangeCoders") (T := T_RC) (N := 8) hx hb hg in_RC hown hK hP 0 rfl rfl 2 (by decide) (hg _ k260) (fun _ h9 => h9) rfl d_RC_model_15 ?_
      refine lv_bipush (v := 8) hx hb d_RC_model_18 (by decide) ?_
      refine lv_icmp_lt (tgt := 26) hx hb d_RC_model_20 (by decide) (fun c_3 => ?_) (fun c_3 => ?_)
      · exact absurd c_3 (show ¬ nI k < nI 8 from nI_nlt (by omega) (by omega))
      · refine lv_bipush (v := (-4)) hx hb d_RC_model_23 (by decide) ?_
        exact my_iret (v := (-4)) hx hb hr (rfl) hlocks hQ hK hS (Nat.le_refl _) (Nat.le_refl _) () (rfl) (hP.sub [0, 1, 2] rfl) (hD.sub [0, 1, 2] (by decide +kernel) rfl) d_RC_model_25
    · exact absurd (show nI ns ≤ nI 64 from nI_le hns (by omega)) c_2
end
section
set_option maxHeartbeats 2000000 in
set_option maxRecDepth 100000 in
theorem c_RC_getA_Table (l : Launch) (dC : Nat → ClassId) (dI : Nat → Nat → Nat) (cI cM cO : ClassId) (sz : Nat) (rc : Nat) (ma : Nat) (k : Nat) (fit : Int32) (fen : Int32) (frd : Int32) (fbd : Int32) (fir : Int32) (mf : Nat → Option Nat) (co : Nat) (xx : Int64) (xreadX : Int64) (soa : Nat) (sna : Nat) (swa : Nat) (xkept : Int32) (ri : Nat) (ro : Nat) (rw : Nat) (xasked : Int32) (mm : Int32) (hk8 : k ≤ 8) (hbad : mm < 0 ∨ nI k ≤ mm) : MetI l y_RC_get (Cond.code y_RC_get prog_1_method_13_code 3 (some .int) :: gw) ({ frames := 1, cells := 0, slots := 0, locals := 21 } : Room) (dC, dI) vwCl (kT cI cM cO) [Value.ref rc, Value.int mm] [(rc, Sum.inr (6, [Value.ref co, Value.ref ma, Value.int (nI k), Value.int fit, Value.int fen, Value.int frd, Value.int fbd, Value.int fir])), (ma, Sum.inl (cM, 8, Sum.inr (Sum.inr (Sum.inr (Sum.inr mf))))), (co, Sum.inr (5, [Value.long xx, Value.long xreadX, Value.ref soa, Value.ref sna, Value.ref swa, Value.int xkept, Value.ref ri, Value.ref ro, Value.ref rw, Value.int xasked]))] sz (fun (r : Int32) (u : Unit) => True) (fun (u : Unit) => [(rc, Sum.inr (6, [Value.ref co, Value.ref ma, Value.int (nI k), Value.int fit, Value.int fen, Value.int frd, Value.int fbd, Value.int fir])), (ma, Sum.inl (cM, 8, Sum.inr (Sum.inr (Sum.inr (Sum.inr mf))))), (co, Sum.inr (5, [Value.long xx, Value.long xreadX, Value.ref soa, Value.ref sna, Value.ref swa, Value.int xkept, Value.ref ri, Value.ref ro, Value.ref rw, Value.int xasked]))]) 0 0 := by
  refine my_ofI (cc := prog_1_method_13_code) (n := 3) (ret := (some .int)) (by decide) rfl (Nat.le_of_ble_eq_true rfl) ?_
  intro p e s m args below meth c R Q A ls H locs hx hb hr hts hown hlocks hml hnm hR hQ hA hl hP hK hN hD hS
  have hg : ∀ w ∈ gw, w.before args s = true := fun w h => hts w (List.mem_cons_of_mem _ h)
  have hown : s.vm.findClass "RangeCoders" = some m.cls := hown
  have hl : lv_has ls 3 [(0, Value.ref rc), (1, Value.int mm)] := hl
  refine lv_aload_n hx hb d_RC_get_0 rfl (lv_at hl 0 rfl) ?_
  refine lv_iload_n hx hb d_RC_get_1 rfl (lv_at hl 1 rfl) ?_
  refine my_cq (wr := [(co, Sum.inr (5, [Value.long xx, Value.long xreadX, Value.ref soa, Value.ref sna, Value.ref swa, Value.int xkept, Value.ref ri, Value.ref ro, Value.ref rw, Value.int xasked]))]) (va_runV (As := [Value.int mm]) (rest := []) ⟨hx, hb, hml, hown, hts⟩ (c_RC_modelAtA l dC dI cI cM cO H.size rc ma k fit fen frd fbd fir mf co mm (by first | assumption | omega)) (cwV 1 hts (my_gV k412 k414 ks3 k1 k415) rfl rfl rfl cu_RC_modelAt_1 ⟨by rw [hR]; exact Nat.le_of_ble_eq_true rfl, by rw [hR]; exact Nat.le_of_ble_eq_true rfl⟩) (my_preV hK hN (hP.sub [0, 1] rfl) (hD.sub [0, 1] (by decide +kernel) rfl) 0 rfl rfl) rfl rfl hl.1 rfl (lv_room (Nat.le_of_ble_eq_true rfl)) d_RC_get_2 ⟨by rw [hR]; exact Nat.le_of_ble_eq_true rfl, by rw [hR]; exact Nat.le_of_ble_eq_true rfl⟩) hP hD hS hA [0, 1] [2] rfl rfl (by decide +kernel) (by decide +kernel) (fun r_2 u9 H locs hw_2 hP hD hS => ?_)
  have hr_2 : r_2 = none := hw_2
  have hPD : my_PD (dC, dI) vwCl A [(co, Sum.inr (5, [Value.long xx, Value.long xreadX, Value.ref soa, Value.ref sna, Value.ref swa, Value.int xkept, Value.ref ri, Value.ref ro, Value.ref rw, Value.int xasked])), (rc, Sum.inr (6, [Value.ref co, Value.ref ma, Value.int (nI k), Value.int fit, Value.int fen, Value.int frd, Value.int fbd, Value.int fir])), (ma, Sum.inl (cM, 8, Sum.inr (Sum.inr (Sum.inr (Sum.inr mf)))))] H := ⟨hP, hD⟩
  have hP := hPD.1
  have hD := hPD.2
  subst hr_2
  refine W.eq (g2 := F0 m 5 ls [Value.null]) rfl ?_
  refine lv_astore_nN (lv' := [(2, Value.null), (0, Value.ref rc), (1, Value.int mm)]) hx hb d_RC_get_5 rfl hl (by decide) rfl (fun ls hl => ?_)
  refine lv_aload_nN hx hb d_RC_get_6 rfl (lv_at hl 0 rfl) ?_
  refine lv_ifnonnullN hx hb d_RC_get_7 ?_
  refine lv_iconst (v := (-1)) hx hb d_RC_get_10 (by decide) ?_
  exact my_iret (v := (-1)) hx hb hr (rfl) hlocks hQ hK hS (Nat.le_refl _) (Nat.le_refl _) () (trivial) (hP.sub [1, 2, 0] rfl) (hD.sub [1, 2, 0] (by decide +kernel) rfl) d_RC_get_11
set_option maxHeartbeats 2000000 in
set_option maxRecDepth 100000 in
theorem c_RC_getB_Table (l : Launch) (dC : Nat → ClassId) (dI : Nat → Nat → Nat) (cI cM cO : ClassId) (sz : Nat) (rc : Nat) (ma : Nat) (k : Nat) (fit : Int32) (fen : Int32) (frd : Int32) (fbd : Int32) (fir : Int32) (mf : Nat → Option Nat) (co : Nat) (xx : Int64) (xreadX : Int64) (soa : Nat) (sna : Nat) (swa : Nat) (xkept : Int32) (ri : Nat) (ro : Nat) (rw : Nat) (xasked : Int32) (rin : Int32) (ria : Nat) (rik : Nat) (rif : Nat → Int32) (j : Nat) (mo : Nat) (o2 : Nat) (oo : Nat) (osg : Int32) (osm : Int32) (ofc : Int32) (oca : Nat) (opa : Nat) (ol : Nat) (ocf : Nat → Int32) (opl : Nat) (opf : Nat → Int32) (ka : Nat) (kl : Nat) (kf : Nat → Int32) (hk8 : k ≤ 8) (hri : rOk rin rik) (hj : j < k) (hmf : mf j = some mo) (hol : ol ≤ 64) (hopl : opl ≤ 512) (hol0 : 1 ≤ ol) (hkl : kl ≤ 64) : MetI l y_RC_get (Cond.code y_RC_get prog_1_method_13_code 3 (some .int) :: gw) ({ frames := 4, cells := 0, slots := 0, locals := 88 } : Room) (dC, dI) vwCl (kT cI cM cO) [Value.ref rc, Value.int (nI j)] [(rc, Sum.inr (6, [Value.ref co, Value.ref ma, Value.int (nI k), Value.int fit, Value.int fen, Value.int frd, Value.int fbd, Value.int fir])), (ma, Sum.inl (cM, 8, Sum.inr (Sum.inr (Sum.inr (Sum.inr mf))))), (co, Sum.inr (5, [Value.long xx, Value.long xreadX, Value.ref soa, Value.ref sna, Value.ref swa, Value.int xkept, Value.ref ri, Value.ref ro, Value.ref rw, Value.int xasked])), (ri, Sum.inr (0, [Value.int rin, Value.ref ria])), (ria, Sum.inl (cI, rik, Sum.inl rif)), (mo, Sum.inr (8, [Value.ref ka, Value.ref o2, Value.ref oo])), (ka, Sum.inl (cI, kl, Sum.inl kf)), (oo, Sum.inr (7, [Value.int osg, Value.int osm, Value.int ofc, Value.ref oca, Value.ref opa])), (oca, Sum.inl (cI, ol, Sum.inl ocf)), (opa, Sum.inl (cI, opl, Sum.inl opf))] sz (fun (r : Int32) (u : Int32 × Int32 × Int64 × Int32) => True) (fun (u : Int32 × Int32 × Int64 × Int32) => [(rc, Sum.inr (6, [Value.ref co, Value.ref ma, Value.int (nI k), Value.int fit, Value.int fen, Value.int frd, Value.int u.1, Value.int u.2.1])), (ma, Sum.inl (cM, 8, Sum.inr (Sum.inr (Sum.inr (Sum.inr mf))))), (co, Sum.inr (5, [Value.long xx, Value.long u.2.2.1, Value.ref soa, Value.ref sna, Value.ref swa, Value.int xkept, Value.ref ri, Value.ref ro, Value.ref rw, Value.int u.2.2.2])), (ri, Sum.inr (0, [Value.int rin, Value.ref ria])), (ria, Sum.inl (cI, rik, Sum.inl rif)), (mo, Sum.inr (8, [Value.ref ka, Value.ref o2, Value.ref oo])), (ka, Sum.inl (cI, kl, Sum.inl kf)), (oo, Sum.inr (7, [Value.int osg, Value.int osm, Value.int ofc, Value.ref oca, Value.ref opa])), (oca, Sum.inl (cI, ol, Sum.inl ocf)), (opa, Sum.inl (cI, opl, Sum.inl opf))]) 0 0 := by
  refine my_ofI (cc := prog_1_method_13_code) (n := 3) (ret := (some .int)) (by decide) rfl (Nat.le_of_ble_eq_true rfl) ?_
  intro p e s m args below meth c R Q A ls H locs hx hb hr hts hown hlocks hml hnm hR hQ hA hl hP hK hN hD hS
  have hg : ∀ w ∈ gw, w.before args s = true := fun w h => hts w (List.mem_cons_of_mem _ h)
  have hown : s.vm.findClass "RangeCoders" = some m.cls := hown
  have hl : lv_has ls 3 [(0, Value.ref rc), (1, Value.int (nI j))] := hl
  have hlt_hri := rOk_lt hri
  refine lv_aload_n hx hb d_RC_get_0 rfl (lv_at hl 0 rfl) ?_
  refine lv_iload_n hx hb d_RC_get_1 rfl (lv_at hl 1 rfl) ?_
  refine my_cq (wr := [(co, Sum.inr (5, [Value.long xx, Value.long xreadX, Value.ref soa, Value.ref sna, Value.ref swa, Value.int xkept, Value.ref ri, Value.ref ro, Value.ref rw, Value.int xasked])), (ri, Sum.inr (0, [Value.int rin, Value.ref ria])), (ria, Sum.inl (cI, rik, Sum.inl rif)), (mo, Sum.inr (8, [Value.ref ka, Value.ref o2, Value.ref oo])), (ka, Sum.inl (cI, kl, Sum.inl kf)), (oo, Sum.inr (7, [Value.int osg, Value.int osm, Value.int ofc, Value.ref oca, Value.ref opa])), (oca, Sum.inl (cI, ol, Sum.inl ocf)), (opa, Sum.inl (cI, opl, Sum.inl opf))]) (va_runV (As := [Value.int (nI j)]) (rest := []) ⟨hx, hb, hml, hown, hts⟩ (c_RC_modelAtB l dC dI cI cM cO H.size rc ma k fit fen frd fbd fir mf co j mo (by first | assumption | omega) (by first | assumption | omega) (by first | assumption | omega)) (cwV 1 hts (my_gV k412 k414 ks3 k1 k415) rfl rfl rfl cu_RC_modelAt_1 ⟨by rw [hR]; exact Nat.le_of_ble_eq_true rfl, by rw [hR]; exact Nat.le_of_ble_eq_true rfl⟩) (my_preV hK hN (hP.sub [0, 1] rfl) (hD.sub [0, 1] (by decide +kernel) rfl) 0 rfl rfl) rfl rfl hl.1 rfl (lv_room (Nat.le_of_ble_eq_true rfl)) d_RC_get_2 ⟨by rw [hR]; exact Nat.le_of_ble_eq_true rfl, by rw [hR]; exact Nat.le_of_ble_eq_true rfl⟩) hP hD hS hA [0, 1] [2, 3, 4, 5, 6, 7, 8, 9] rfl rfl (by decide +kernel) (by decide +kernel) (fun r_2 u9 H locs hw_2 hP hD hS => ?_)
  have hr_2 : r_2 = some mo := hw_2
  have hPD : my_PD (dC, dI) vwCl A [(co, Sum.inr (5, [Value.long xx, Value.long xreadX, Value.ref soa, Value.ref sna, Value.ref swa, Value.int xkept, Value.ref ri, Value.ref ro, Value.ref rw, Value.int xasked])), (ri, Sum.inr (0, [Value.int rin, Value.ref ria])), (ria, Sum.inl (cI, rik, Sum.inl rif)), (mo, Sum.inr (8, [Value.ref ka, Value.ref o2, Value.ref oo])), (ka, Sum.inl (cI, kl, Sum.inl kf)), (oo, Sum.inr (7, [Value.int osg, Value.int osm, Value.int ofc, Value.ref oca, Value.ref opa])), (oca, Sum.inl (cI, ol, Sum.inl ocf)), (opa, Sum.inl (cI, opl, Sum.inl opf)), (rc, Sum.inr (6, [Value.ref co, Value.ref ma, Value.int (nI k), Value.int fit, Value.int fen, Value.int frd, Value.int fbd, Value.int fir])), (ma, Sum.inl (cM, 8, Sum.inr (Sum.inr (Sum.inr (Sum.inr mf)))))] H := ⟨hP, hD⟩
  have hP := hPD.1
  have hD := hPD.2
  subst hr_2
  refine W.eq (g2 := F0 m 5 ls [Value.ref mo]) rfl ?_
  refine lv_astore_n (lv' := [(2, Value.ref mo), (0, Value.ref rc), (1, Value.int (nI j))]) hx hb d_RC_get_5 rfl hl (by decide) rfl (fun ls hl => ?_)
  refine lv_aload_n hx hb d_RC_get_6 rfl (lv_at hl 0 rfl) ?_
  refine lv_ifnonnull (tgt := 12) hx hb d_RC_get_7 (by decide) ?_
  refine lv_aload_n hx hb d_RC_get_12 rfl (lv_at hl 1 rfl) ?_
  refine va_get (D := (dC, dI)) (ci := 6) (v := .int frd) (C := "RangeCoders") (T := T_RC) (N := 8) hx hb hg in_RC hown hK hP 8 rfl rfl 5 (by decide) (hg _ k263) (fun _ h9 => h9) rfl d_RC_get_13 ?_
  refine lv_if_ne (tgt := 22) hx hb d_RC_get_16 (by decide) (fun c_1 => ?_) (fun c_1 => ?_)
  · refine lv_aload_n hx hb d_RC_get_22 rfl (lv_at hl 1 rfl) ?_
    refine va_get (D := (dC, dI)) (ci := 6) (v := .int fbd) (C := "RangeCoders") (T := T_RC) (N := 8) hx hb hg in_RC hown hK hP 8 rfl rfl 6 (by decide) (hg _ k264) (fun _ h9 => h9) rfl d_RC_get_23 ?_
    refine lv_if_eq (tgt := 34) hx hb d_RC_get_26 (by decide) (fun c_2 => ?_) (fun c_2 => ?_)
    · refine lv_aload_n hx hb d_RC_get_34 rfl (lv_at hl 1 rfl) ?_
      refine lv_aload_n hx hb d_RC_get_35 rfl (lv_at hl 1 rfl) ?_
      refine va_get (D := (dC, dI)) (ci := 6) (v := .ref co) (C := "RangeCoders") (T := T_RC) (N := 8) hx hb hg in_RC hown hK hP 8 rfl rfl 0 (by decide) (hg _ k258) (fun _ h9 => h9) rfl d_RC_get_36 ?_
      refine lv_aload_n hx hb d_RC_get_39 rfl (lv_at hl 0 rfl) ?_
      refine va_get (D := (dC, dI)) (ci := 8) (v := .ref oo) (C := "RangeCoders$Model") (T := T_Model) (N := 3) hx hb hg in_Model hown hK hP 3 rfl rfl 2 (by decide) (hg _ k345) (fun _ h9 => h9) rfl d_RC_get_40 ?_
      refine my_ci (wr := [(mo, Sum.inr (8, [Value.ref ka, Value.ref o2, Value.ref oo])), (ka, Sum.inl (cI, kl, Sum.inl kf)), (rc, Sum.inr (6, [Value.ref co, Value.ref ma, Value.int (nI k), Value.int fit, Value.int fen, Value.int frd, Value.int fbd, Value.int fir])), (ma, Sum.inl (cM, 8, Sum.inr (Sum.inr (Sum.inr (Sum.inr mf)))))]) (va_runU (As := [Value.ref oo]) (rest := [Value.ref rc]) ⟨hx, hb, hml, hown, hts⟩ (c_Table_Table_nextSign l dC dI cI cM cO H.size co xx xreadX soa sna swa xkept ri ro rw xasked rin ria rik rif oo osg osm ofc oca opa ol ocf opl opf (by first | assumption | omega) (by first | assumption | omega) (by first | assumption | omega)) (va_cwA 1 hts (my_gU k775 k777 k842 k843 k11 k844) rfl rfl rfl (hN.1 _ j776 rfl) (by decide +kernel) ⟨by rw [hR]; exact Nat.le_of_ble_eq_true rfl, by rw [hR]; exact Nat.le_of_ble_eq_true rfl⟩) (my_preV hK hN (hP.sub [0, 1, 2, 5, 6, 7] rfl) (hD.sub [0, 1, 2, 5, 6, 7] (by decide +kernel) rfl) 0 rfl rfl) rfl rfl hl.1 rfl (lv_room (Nat.le_of_ble_eq_true rfl)) d_RC_get_43 ⟨by rw [hR]; exact Nat.le_of_ble_eq_true rfl, by rw [hR]; exact Nat.le_of_ble_eq_true rfl⟩) hP hD hS hA [0, 1, 2, 5, 6, 7] [3, 4, 8, 9] rfl rfl (by decide +kernel) (by decide +kernel) (fun r_43 u9 H locs hw_43 hP hD hS => ?_)
      obtain ⟨xreadXq_43, xaskedq_43⟩ := u9
      have hPD : my_PD (dC, dI) vwCl A [(mo, Sum.inr (8, [Value.ref ka, Value.ref o2, Value.ref oo])), (ka, Sum.inl (cI, kl, Sum.inl kf)), (rc, Sum.inr (6, [Value.ref co, Value.ref ma, Value.int (nI k), Value.int fit, Value.int fen, Value.int frd, Value.int fbd, Value.int fir])), (ma, Sum.inl (cM, 8, Sum.inr (Sum.inr (Sum.inr (Sum.inr mf))))), (co, Sum.inr (5, [Value.long xx, Value.long xreadXq_43, Value.ref soa, Value.ref sna, Value.ref swa, Value.int xkept, Value.ref ri, Value.ref ro, Value.ref rw, Value.int xaskedq_43])), (ri, Sum.inr (0, [Value.int rin, Value.ref ria])), (ria, Sum.inl (cI, rik, Sum.inl rif)), (oo, Sum.inr (7, [Value.int osg, Value.int osm, Value.int ofc, Value.ref oca, Value.ref opa])), (oca, Sum.inl (cI, ol, Sum.inl ocf)), (opa, Sum.inl (cI, opl, Sum.inl opf))] H := ⟨hP, hD⟩
      have hP := hPD.1
      have hD := hPD.2
      refine my_ci (wr := [(mo, Sum.inr (8, [Value.ref ka, Value.ref o2, Value.ref oo])), (ka, Sum.inl (cI, kl, Sum.inl kf)), (ma, Sum.inl (cM, 8, Sum.inr (Sum.inr (Sum.inr (Sum.inr mf))))), (co, Sum.inr (5, [Value.long xx, Value.long xreadXq_43, Value.ref soa, Value.ref sna, Value.ref swa, Value.int xkept, Value.ref ri, Value.ref ro, Value.ref rw, Value.int xaskedq_43])), (ri, Sum.inr (0, [Value.int rin, Value.ref ria])), (ria, Sum.inl (cI, rik, Sum.inl rif)), (oo, Sum.inr (7, [Value.int osg, Value.int osm, Value.int ofc, Value.ref oca, Value.ref opa])), (oca, Sum.inl (cI, ol, Sum.inl ocf)), (opa, Sum.inl (cI, opl, Sum.inl opf))]) (va_runV (As := [Value.int r_43]) (rest := []) ⟨hx, hb, hml, hown, hts⟩ (c_RC_itemOrBad l dC dI cI cM cO H.size rc ma k fit fen frd fbd fir mf co r_43) (cwV 1 hts (my_gV k854 k856 ks17 k1 k857) rfl rfl rfl cu_RC_itemOrBad_1 ⟨by rw [hR]; exact Nat.le_of_ble_eq_true rfl, by rw [hR]; exact Nat.le_of_ble_eq_true rfl⟩) (my_preV hK hN (hP.sub [2] rfl) (hD.sub [2] (by decide +kernel) rfl) 0 rfl rfl) rfl rfl hl.1 rfl (lv_room (Nat.le_of_ble_eq_true rfl)) d_RC_get_46 ⟨by rw [hR]; exact Nat.le_of_ble_eq_true rfl, by rw [hR]; exact Nat.le_of_ble_eq_true rfl⟩) hP hD hS hA [2] [0, 1, 3, 4, 5, 6, 7, 8, 9] rfl rfl (by decide +kernel) (by decide +kernel) (fun r_46 u9 H locs hw_46 hP hD hS => ?_)
      obtain ⟨fbdq_46, firq_46⟩ := u9
      have hPD : my_PD (dC, dI) vwCl A [(mo, Sum.inr (8, [Value.ref ka, Value.ref o2, Value.ref oo])), (ka, Sum.inl (cI, kl, Sum.inl kf)), (ma, Sum.inl (cM, 8, Sum.inr (Sum.inr (Sum.inr (Sum.inr mf))))), (co, Sum.inr (5, [Value.long xx, Value.long xreadXq_43, Value.ref soa, Value.ref sna, Value.ref swa, Value.int xkept, Value.ref ri, Value.ref ro, Value.ref rw, Value.int xaskedq_43])), (ri, Sum.inr (0, [Value.int rin, Value.ref ria])), (ria, Sum.inl (cI, rik, Sum.inl rif)), (oo, Sum.inr (7, [Value.int osg, Value.int osm, Value.int ofc, Value.ref oca, Value.ref opa])), (oca, Sum.inl (cI, ol, Sum.inl ocf)), (opa, Sum.inl (cI, opl, Sum.inl opf)), (rc, Sum.inr (6, [Value.ref co, Value.ref ma, Value.int (nI k), Value.int fit, Value.int fen, Value.int frd, Value.int fbdq_46, Value.int firq_46]))] H := ⟨hP, hD⟩
      have hP := hPD.1
      have hD := hPD.2
      exact my_iret (v := r_46) hx hb hr (rfl) hlocks hQ hK hS (Nat.le_refl _) (Nat.le_refl _) (fbdq_46, firq_46, xreadXq_43, xaskedq_43) (trivial) (hP.sub [9, 2, 3, 4, 5, 0, 1, 6, 7, 8] rfl) (hD.sub [9, 2, 3, 4, 5, 0, 1, 6, 7, 8] (by decide +kernel) rfl) d_RC_get_49
    · refine lv_bipush (v := (-5)) hx hb d_RC_get_29 (by decide) ?_
      refine lv_goto (tgt := 49) hx hb d_RC_get_31 (by decide) ?_
      exact my_iret (v := (-5)) hx hb hr (rfl) hlocks hQ hK hS (Nat.le_refl _) (Nat.le_refl _) (fbd, fir, xreadX, xasked) (trivial) (hP.sub [8, 9, 0, 1, 2, 3, 4, 5, 6, 7] rfl) (hD.sub [8, 9, 0, 1, 2, 3, 4, 5, 6, 7] (by decide +kernel) rfl) d_RC_get_49
  · refine lv_bipush (v := (-3)) hx hb d_RC_get_19 (by decide) ?_
    exact my_iret (v := (-3)) hx hb hr (rfl) hlocks hQ hK hS (Nat.le_refl _) (Nat.le_refl _) (fbd, fir, xreadX, xasked) (trivial) (hP.sub [8, 9, 0, 1, 2, 3, 4, 5, 6, 7] rfl) (hD.sub [8, 9, 0, 1, 2, 3, 4, 5, 6, 7] (by decide +kernel) rfl) d_RC_get_21
set_option maxHeartbeats 2000000 in
set_option maxRecDepth 100000 in
theorem c_RC_getBits_Table (l : Launch) (dC : Nat → ClassId) (dI : Nat → Nat → Nat) (cI cM cO : ClassId) (sz : Nat) (rc : Nat) (ma : Nat) (k : Nat) (fit : Int32) (fen : Int32) (frd : Int32) (fbd : Int32) (fir : Int32) (mf : Nat → Option Nat) (co : Nat) (xx : Int64) (xreadX : Int64) (soa : Nat) (sna : Nat) (swa : Nat) (xkept : Int32) (ri : Nat) (ro : Nat) (rw : Nat) (xasked : Int32) (rin : Int32) (ria : Nat) (rik : Nat) (rif : Nat → Int32) (wd : Int32) (hk8 : k ≤ 8) (hri : rOk rin rik) : MetI l y_RC_getBits (Cond.code y_RC_getBits prog_1_method_14_code 2 (some .int) :: gw) ({ frames := 4, cells := 0, slots := 0, locals := 87 } : Room) (dC, dI) vwCl (kT cI cM cO) [Value.ref rc, Value.int wd] [(rc, Sum.inr (6, [Value.ref co, Value.ref ma, Value.int (nI k), Value.int fit, Value.int fen, Value.int frd, Value.int fbd, Value.int fir])), (ma, Sum.inl (cM, 8, Sum.inr (Sum.inr (Sum.inr (Sum.inr mf))))), (co, Sum.inr (5, [Value.long xx, Value.long xreadX, Value.ref soa, Value.ref sna, Value.ref swa, Value.int xkept, Value.ref ri, Value.ref ro, Value.ref rw, Value.int xasked])), (ri, Sum.inr (0, [Value.int rin, Value.ref ria])), (ria, Sum.inl (cI, rik, Sum.inl rif))] sz (fun (r : Int32) (u : Int32 × Int32 × Int32) => True) (fun (u : Int32 × Int32 × Int32) => [(rc, Sum.inr (6, [Value.ref co, Value.ref ma, Value.int (nI k), Value.int fit, Value.int fen, Value.int frd, Value.int u.1, Value.int u.2.1])), (ma, Sum.inl (cM, 8, Sum.inr (Sum.inr (Sum.inr (Sum.inr mf))))), (co, Sum.inr (5, [Value.long xx, Value.long xreadX, Value.ref soa, Value.ref sna, Value.ref swa, Value.int xkept, Value.ref ri, Value.ref ro, Value.ref rw, Value.int u.2.2])), (ri, Sum.inr (0, [Value.int rin, Value.ref ria])), (ria, Sum.inl (cI, rik, Sum.inl rif))]) 0 0 := by
  refine my_ofI (cc := prog_1_method_14_code) (n := 2) (ret := (some .int)) (by decide) rfl (Nat.le_of_ble_eq_true rfl) ?_
  intro p e s m args below meth c R Q A ls H locs hx hb hr hts hown hlocks hml hnm hR hQ hA hl hP hK hN hD hS
  have hg : ∀ w ∈ gw, w.before args s = true := fun w h => hts w (List.mem_cons_of_mem _ h)
  have hown : s.vm.findClass "RangeCoders" = some m.cls := hown
  have hl : lv_has ls 2 [(0, Value.ref rc), (1, Value.int wd)] := hl
  have hlt_hri := rOk_lt hri
  refine lv_aload_n hx hb d_RC_getBits_0 rfl (lv_at hl 0 rfl) ?_
  refine va_get (D := (dC, dI)) (ci := 6) (v := .ref co) (C := "RangeCoders") (T := T_RC) (N := 8) hx hb hg in_RC hown hK hP 0 rfl rfl 0 (by decide) (hg _ k258) (fun _ h9 => h9) rfl d_RC_getBits_1 ?_
  refine lv_iload_n hx hb d_RC_getBits_4 rfl (lv_at hl 1 rfl) ?_
  refine my_ci (wr := [(rc, Sum.inr (6, [Value.ref co, Value.ref ma, Value.int (nI k), Value.int fit, Value.int fen, Value.int frd, Value.int fbd, Value.int fir])), (ma, Sum.inl (cM, 8, Sum.inr (Sum.inr (Sum.inr (Sum.inr mf))))), (ri, Sum.inr (0, [Value.int rin, Value.ref ria])), (ria, Sum.inl (cI, rik, Sum.inl rif))]) (va_runU (As := [Value.int wd]) (rest := []) ⟨hx, hb, hml, hown, hts⟩ (c_Table_Table_hasWidth l dC dI cI cM cO H.size co xx xreadX soa sna swa xkept ri ro rw xasked wd) (va_cwO 1 hts (my_gO k543 k545 k544 k550 k551 k11 k552) rfl rfl rfl (List.mem_cons_of_mem _ k553) (by decide +kernel) ⟨by rw [hR]; exact Nat.le_of_ble_eq_true rfl, by rw [hR]; exact Nat.le_of_ble_eq_true rfl⟩) (my_preV hK hN (hP.sub [2] rfl) (hD.sub [2] (by decide +kernel) rfl) 0 rfl rfl) rfl rfl hl.1 rfl (lv_room (Nat.le_of_ble_eq_true rfl)) d_RC_getBits_5 ⟨by rw [hR]; exact Nat.le_of_ble_eq_true rfl, by rw [hR]; exact Nat.le_of_ble_eq_true rfl⟩) hP hD hS hA [2] [0, 1, 3, 4] rfl rfl (by decide +kernel) (by decide +kernel) (fun r_5 u9 H locs hw_5 hP hD hS => ?_)
  have hPD : my_PD (dC, dI) vwCl A [(rc, Sum.inr (6, [Value.ref co, Value.ref ma, Value.int (nI k), Value.int fit, Value.int fen, Value.int frd, Value.int fbd, Value.int fir])), (ma, Sum.inl (cM, 8, Sum.inr (Sum.inr (Sum.inr (Sum.inr mf))))), (ri, Sum.inr (0, [Value.int rin, Value.ref ria])), (ria, Sum.inl (cI, rik, Sum.inl rif)), (co, Sum.inr (5, [Value.long xx, Value.long xreadX, Value.ref soa, Value.ref sna, Value.ref swa, Value.int xkept, Value.ref ri, Value.ref ro, Value.ref rw, Value.int xasked]))] H := ⟨hP, hD⟩
  have hP := hPD.1
  have hD := hPD.2
  refine lv_if_ne (tgt := 14) hx hb d_RC_getBits_8 (by decide) (fun c_1 => ?_) (fun c_1 => ?_)
  · refine lv_aload_n hx hb d_RC_getBits_14 rfl (lv_at hl 0 rfl) ?_
    refine va_get (D := (dC, dI)) (ci := 6) (v := .int frd) (C := "RangeCoders") (T := T_RC) (N := 8) hx hb hg in_RC hown hK hP 0 rfl rfl 5 (by decide) (hg _ k263) (fun _ h9 => h9) rfl d_RC_getBits_15 ?_
    refine lv_if_ne (tgt := 24) hx hb d_RC_getBits_18 (by decide) (fun c_2 => ?_) (fun c_2 => ?_)
    · refine lv_aload_n hx hb d_RC_getBits_24 rfl (lv_at hl 0 rfl) ?_
      refine va_get (D := (dC, dI)) (ci := 6) (v := .int fbd) (C := "RangeCoders") (T := T_RC) (N := 8) hx hb hg in_RC hown hK hP 0 rfl rfl 6 (by decide) (hg _ k264) (fun _ h9 => h9) rfl d_RC_getBits_25 ?_
      refine lv_if_eq (tgt := 36) hx hb d_RC_getBits_28 (by decide) (fun c_3 => ?_) (fun c_3 => ?_)
      · refine lv_aload_n hx hb d_RC_getBits_36 rfl (lv_at hl 0 rfl) ?_
        refine lv_aload_n hx hb d_RC_getBits_37 rfl (lv_at hl 0 rfl) ?_
        refine va_get (D := (dC, dI)) (ci := 6) (v := .ref co) (C := "RangeCoders") (T := T_RC) (N := 8) hx hb hg in_RC hown hK hP 0 rfl rfl 0 (by decide) (hg _ k258) (fun _ h9 => h9) rfl d_RC_getBits_38 ?_
        refine lv_iload_n hx hb d_RC_getBits_41 rfl (lv_at hl 1 rfl) ?_
        refine my_ci (wr := [(rc, Sum.inr (6, [Value.ref co, Value.ref ma, Value.int (nI k), Value.int fit, Value.int fen, Value.int frd, Value.int fbd, Value.int fir])), (ma, Sum.inl (cM, 8, Sum.inr (Sum.inr (Sum.inr (Sum.inr mf)))))]) (va_runU (As := [Value.int wd]) (rest := [Value.ref rc]) ⟨hx, hb, hml, hown, hts⟩ (c_Table_Table_nextValue l dC dI cI cM cO H.size co xx xreadX soa sna swa xkept ri ro rw xasked rin ria rik rif wd (by first | assumption | omega)) (va_cwA 1 hts (my_gU k862 k864 k875 k764 k11 k766) rfl rfl rfl (hN.1 _ j863 rfl) (by decide +kernel) ⟨by rw [hR]; exact Nat.le_of_ble_eq_true rfl, by rw [hR]; exact Nat.le_of_ble_eq_true rfl⟩) (my_preV hK hN (hP.sub [4, 2, 3] rfl) (hD.sub [4, 2, 3] (by decide +kernel) rfl) 0 rfl rfl) rfl rfl hl.1 rfl (lv_room (Nat.le_of_ble_eq_true rfl)) d_RC_getBits_42 ⟨by rw [hR]; exact Nat.le_of_ble_eq_true rfl, by rw [hR]; exact Nat.le_of_ble_eq_true rfl⟩) hP hD hS hA [4, 2, 3] [0, 1] rfl rfl (by decide +kernel) (by decide +kernel) (fun r_42 u9 H locs hw_42 hP hD hS => ?_)
        obtain ⟨xaskedq_42, rfl⟩ : ∃ z, z = u9 := ⟨_, rfl⟩
        have hPD : my_PD (dC, dI) vwCl A [(rc, Sum.inr (6, [Value.ref co, Value.ref ma, Value.int (nI k), Value.int fit, Value.int fen, Value.int frd, Value.int fbd, Value.int fir])), (ma, Sum.inl (cM, 8, Sum.inr (Sum.inr (Sum.inr (Sum.inr mf))))), (co, Sum.inr (5, [Value.long xx, Value.long xreadX, Value.ref soa, Value.ref sna, Value.ref swa, Value.int xkept, Value.ref ri, Value.ref ro, Value.ref rw, Value.int xaskedq_42])), (ri, Sum.inr (0, [Value.int rin, Value.ref ria])), (ria, Sum.inl (cI, rik, Sum.inl rif))] H := ⟨hP, hD⟩
        have hP := hPD.1
        have hD := hPD.2
        refine my_ci (wr := [(ma, Sum.inl (cM, 8, Sum.inr (Sum.inr (Sum.inr (Sum.inr mf))))), (co, Sum.inr (5, [Value.long xx, Value.long xreadX, Value.ref soa, Value.ref sna, Value.ref swa, Value.int xkept, Value.ref ri, Value.ref ro, Value.ref rw, Value.int xaskedq_42])), (ri, Sum.inr (0, [Value.int rin, Value.ref ria])), (ria, Sum.inl (cI, rik, Sum.inl rif))]) (va_runV (As := [Value.int r_42]) (rest := []) ⟨hx, hb, hml, hown, hts⟩ (c_RC_itemOrBad l dC dI cI cM cO H.size rc ma k fit fen frd fbd fir mf co r_42) (cwV 1 hts (my_gV k854 k856 ks17 k1 k857) rfl rfl rfl cu_RC_itemOrBad_1 ⟨by rw [hR]; exact Nat.le_of_ble_eq_true rfl, by rw [hR]; exact Nat.le_of_ble_eq_true rfl⟩) (my_preV hK hN (hP.sub [0] rfl) (hD.sub [0] (by decide +kernel) rfl) 0 rfl rfl) rfl rfl hl.1 rfl (lv_room (Nat.le_of_ble_eq_true rfl)) d_RC_getBits_45 ⟨by rw [hR]; exact Nat.le_of_ble_eq_true rfl, by rw [hR]; exact Nat.le_of_ble_eq_true rfl⟩) hP hD hS hA [0] [1, 2, 3, 4] rfl rfl (by decide +kernel) (by decide +kernel) (fun r_45 u9 H locs hw_45 hP hD hS => ?_)
        obtain ⟨fbdq_45, firq_45⟩ := u9
        have hPD : my_PD (dC, dI) vwCl A [(ma, Sum.inl (cM, 8, Sum.inr (Sum.inr (Sum.inr (Sum.inr mf))))), (co, Sum.inr (5, [Value.long xx, Value.long xreadX, Value.ref soa, Value.ref sna, Value.ref swa, Value.int xkept, Value.ref ri, Value.ref ro, Value.ref rw, Value.int xaskedq_42])), (ri, Sum.inr (0, [Value.int rin, Value.ref ria])), (ria, Sum.inl (cI, rik, Sum.inl rif)), (rc, Sum.inr (6, [Value.ref co, Value.ref ma, Value.int (nI k), Value.int fit, Value.int fen, Value.int frd, Value.int fbdq_45, Value.int firq_45]))] H := ⟨hP, hD⟩
        have hP := hPD.1
        have hD := hPD.2
        exact my_iret (v := r_45) hx hb hr (rfl) hlocks hQ hK hS (Nat.le_refl _) (Nat.le_refl _) (fbdq_45, firq_45, xaskedq_42) (trivial) (hP.sub [4, 0, 1, 2, 3] rfl) (hD.sub [4, 0, 1, 2, 3] (by decide +kernel) rfl) d_RC_getBits_48
      · refine lv_bipush (v := (-5)) hx hb d_RC_getBits_31 (by decide) ?_
        refine lv_goto (tgt := 48) hx hb d_RC_getBits_33 (by decide) ?_
        exact my_iret (v := (-5)) hx hb hr (rfl) hlocks hQ hK hS (Nat.le_refl _) (Nat.le_refl _) (fbd, fir, xasked) (trivial) (hP.sub [0, 1, 4, 2, 3] rfl) (hD.sub [0, 1, 4, 2, 3] (by decide +kernel) rfl) d_RC_getBits_48
    · refine lv_bipush (v := (-3)) hx hb d_RC_getBits_21 (by decide) ?_
      exact my_iret (v := (-3)) hx hb hr (rfl) hlocks hQ hK hS (Nat.le_refl _) (Nat.le_refl _) (fbd, fir, xasked) (trivial) (hP.sub [0, 1, 4, 2, 3] rfl) (hD.sub [0, 1, 4, 2, 3] (by decide +kernel) rfl) d_RC_getBits_23
  · refine lv_bipush (v := (-2)) hx hb d_RC_getBits_11 (by decide) ?_
    exact my_iret (v := (-2)) hx hb hr (rfl) hlocks hQ hK hS (Nat.le_refl _) (Nat.le_refl _) (fbd, fir, xasked) (trivial) (hP.sub [0, 1, 4, 2, 3] rfl) (hD.sub [0, 1, 4, 2, 3] (by decide +kernel) rfl) d_RC_getBits_13
set_option maxHeartbeats 2000000 in
set_option maxRecDepth 100000 in
theorem c_RC_told_Table (l : Launch) (dC : Nat → ClassId) (dI : Nat → Nat → Nat) (cI cM cO : ClassId) (sz : Nat) (rc : Nat) (ma : Nat) (k : Nat) (fit : Int32) (fen : Int32) (frd : Int32) (fbd : Int32) (fir : Int32) (mf : Nat → Option Nat) (co : Nat) (xx : Int64) (xreadX : Int64) (soa : Nat) (sna : Nat) (swa : Nat) (xkept : Int32) (ri : Nat) (ro : Nat) (rw : Nat) (xasked : Int32) (rin : Int32) (ria : Nat) (rik : Nat) (rif : Nat → Int32) (ron : Int32) (roa : Nat) (rok : Nat) (rof : Nat → Int32) (wh : Int32) (hk8 : k ≤ 8) (hri : rOk rin rik) (hro : rOk ron rok) : MetI l y_RC_told (Cond.code y_RC_told prog_1_method_15_code 2 (some .int) :: gw) ({ frames := 1, cells := 0, slots := 0, locals := 20 } : Room) (dC, dI) vwCl (kT cI cM cO) [Value.ref rc, Value.int wh] [(rc, Sum.inr (6, [Value.ref co, Value.ref ma, Value.int (nI k), Value.int fit, Value.int fen, Value.int frd, Value.int fbd, Value.int fir])), (ma, Sum.inl (cM, 8, Sum.inr (Sum.inr (Sum.inr (Sum.inr mf))))), (co, Sum.inr (5, [Value.long xx, Value.long xreadX, Value.ref soa, Value.ref sna, Value.ref swa, Value.int xkept, Value.ref ri, Value.ref ro, Value.ref rw, Value.int xasked])), (ri, Sum.inr (0, [Value.int rin, Value.ref ria])), (ria, Sum.inl (cI, rik, Sum.inl rif)), (ro, Sum.inr (0, [Value.int ron, Value.ref roa])), (roa, Sum.inl (cI, rok, Sum.inl rof))] sz (fun (r : Int32) (u : Unit) => True) (fun (u : Unit) => [(rc, Sum.inr (6, [Value.ref co, Value.ref ma, Value.int (nI k), Value.int fit, Value.int fen, Value.int frd, Value.int fbd, Value.int fir])), (ma, Sum.inl (cM, 8, Sum.inr (Sum.inr (Sum.inr (Sum.inr mf))))), (co, Sum.inr (5, [Value.long xx, Value.long xreadX, Value.ref soa, Value.ref sna, Value.ref swa, Value.int xkept, Value.ref ri, Value.ref ro, Value.ref rw, Value.int xasked])), (ri, Sum.inr (0, [Value.int rin, Value.ref ria])), (ria, Sum.inl (cI, rik, Sum.inl rif)), (ro, Sum.inr (0, [Value.int ron, Value.ref roa])), (roa, Sum.inl (cI, rok, Sum.inl rof))]) 0 0 := by
  refine my_ofI (cc := prog_1_method_15_code) (n := 2) (ret := (some .int)) (by decide) rfl (Nat.le_of_ble_eq_true rfl) ?_
  intro p e s m args below meth c R Q A ls H locs hx hb hr hts hown hlocks hml hnm hR hQ hA hl hP hK hN hD hS
  have hg : ∀ w ∈ gw, w.before args s = true := fun w h => hts w (List.mem_cons_of_mem _ h)
  have hown : s.vm.findClass "RangeCoders" = some m.cls := hown
  have hl : lv_has ls 2 [(0, Value.ref rc), (1, Value.int wh)] := hl
  have hlt_hri := rOk_lt hri
  have hlt_hro := rOk_lt hro
  refine lv_iload_n hx hb d_RC_told_0 rfl (lv_at hl 1 rfl) ?_
  refine lv_if_lt (tgt := 10) hx hb d_RC_told_1 (by decide) (fun c_1 => ?_) (fun c_1 => ?_)
  · refine lv_bipush (v := (-2)) hx hb d_RC_told_10 (by decide) ?_
    exact my_iret (v := (-2)) hx hb hr (rfl) hlocks hQ hK hS (Nat.le_refl _) (Nat.le_refl _) () (trivial) (hP.sub [0, 1, 2, 3, 4, 5, 6] rfl) (hD.sub [0, 1, 2, 3, 4, 5, 6] (by decide +kernel) rfl) d_RC_told_12
  · refine lv_iload_n hx hb d_RC_told_4 rfl (lv_at hl 1 rfl) ?_
    refine lv_bipush (v := 7) hx hb d_RC_told_5 (by decide) ?_
    refine lv_icmp_le (tgt := 13) hx hb d_RC_told_7 (by decide) (fun c_2 => ?_) (fun c_2 => ?_)
    · refine lv_iload_n hx hb d_RC_told_13 rfl (lv_at hl 1 rfl) ?_
      by_cases c_3 : wh = 0
      · refine lv_tableIn (tgt := 56) hx hb d_RC_told_14 (by rw [c_3]; decide) (by rw [c_3]; decide) (by rw [c_3]; rfl) (by decide) ?_
        refine lv_aload_n hx hb d_RC_told_56 rfl (lv_at hl 0 rfl) ?_
        refine va_get (D := (dC, dI)) (ci := 6) (v := .int fit) (C := "RangeCoders") (T := T_RC) (N := 8) hx hb hg in_RC hown hK hP 0 rfl rfl 3 (by decide) (hg _ k261) (fun _ h9 => h9) rfl d_RC_told_57 ?_
        exact my_iret (v := fit) hx hb hr (rfl) hlocks hQ hK hS (Nat.le_refl _) (Nat.le_refl _) () (trivial) (hP.sub [0, 1, 2, 3, 4, 5, 6] rfl) (hD.sub [0, 1, 2, 3, 4, 5, 6] (by decide +kernel) rfl) d_RC_told_60
      by_cases c_4 : wh = 1
      · refine lv_tableIn (tgt := 61) hx hb d_RC_told_14 (by rw [c_4]; decide) (by rw [c_4]; decide) (by rw [c_4]; rfl) (by decide) ?_
        refine lv_aload_n hx hb d_RC_told_61 rfl (lv_at hl 0 rfl) ?_
        refine va_get (D := (dC, dI)) (ci := 6) (v := .int fen) (C := "RangeCoders") (T := T_RC) (N := 8) hx hb hg in_RC hown hK hP 0 rfl rfl 4 (by decide) (hg _ k262) (fun _ h9 => h9) rfl d_RC_told_62 ?_
        refine lv_if_eq (tgt := 72) hx hb d_RC_told_65 (by decide) (fun c_5 => ?_) (fun c_5 => ?_)
        · refine lv_iconst (v := 0) hx hb d_RC_told_72 (by decide) ?_
          exact my_iret (v := 0) hx hb hr (rfl) hlocks hQ hK hS (Nat.le_refl _) (Nat.le_refl _) () (trivial) (hP.sub [0, 1, 2, 3, 4, 5, 6] rfl) (hD.sub [0, 1, 2, 3, 4, 5, 6] (by decide +kernel) rfl) d_RC_told_73
        · refine lv_iconst (v := 1) hx hb d_RC_told_68 (by decide) ?_
          refine lv_goto (tgt := 73) hx hb d_RC_told_69 (by decide) ?_
          exact my_iret (v := 1) hx hb hr (rfl) hlocks hQ hK hS (Nat.le_refl _) (Nat.le_refl _) () (trivial) (hP.sub [0, 1, 2, 3, 4, 5, 6] rfl) (hD.sub [0, 1, 2, 3, 4, 5, 6] (by decide +kernel) rfl) d_RC_told_73
      by_cases c_6 : wh = 2
      · refine lv_tableIn (tgt := 74) hx hb d_RC_told_14 (by rw [c_6]; decide) (by rw [c_6]; decide) (by rw [c_6]; rfl) (by decide) ?_
        refine lv_aload_n hx hb d_RC_told_74 rfl (lv_at hl 0 rfl) ?_
        refine va_get (D := (dC, dI)) (ci := 6) (v := .ref co) (C := "RangeCoders") (T := T_RC) (N := 8) hx hb hg in_RC hown hK hP 0 rfl rfl 0 (by decide) (hg _ k258) (fun _ h9 => h9) rfl d_RC_told_75 ?_
        refine va_get (D := (dC, dI)) (ci := 5) (v := .ref ro) (C := "RangeCoders$Table") (T := T_Table) (N := 10) hx hb hg in_Table hown hK hP 2 rfl rfl 7 (by decide) (hg _ k108) (fun _ h9 => h9) rfl d_RC_told_78 ?_
        refine va_get (D := (dC, dI)) (ci := 0) (v := .int ron) (C := "RangeCoders$Row") (T := T_Row) (N := 2) hx hb hg in_Row hown hK hP 5 rfl rfl 0 (by decide) (hg _ k58) (fun _ h9 => h9) rfl d_RC_told_81 ?_
        exact my_iret (v := ron) hx hb hr (rfl) hlocks hQ hK hS (Nat.le_refl _) (Nat.le_refl _) () (trivial) (hP.sub [0, 1, 2, 3, 4, 5, 6] rfl) (hD.sub [0, 1, 2, 3, 4, 5, 6] (by decide +kernel) rfl) d_RC_told_84
      by_cases c_7 : wh = 3
      · refine lv_tableIn (tgt := 85) hx hb d_RC_told_14 (by rw [c_7]; decide) (by rw [c_7]; decide) (by rw [c_7]; rfl) (by decide) ?_
        refine lv_aload_n hx hb d_RC_told_85 rfl (lv_at hl 0 rfl) ?_
        refine va_get (D := (dC, dI)) (ci := 6) (v := .ref co) (C := "RangeCoders") (T := T_RC) (N := 8) hx hb hg in_RC hown hK hP 0 rfl rfl 0 (by decide) (hg _ k258) (fun _ h9 => h9) rfl d_RC_told_86 ?_
        refine va_get (D := (dC, dI)) (ci := 5) (v := .ref ri) (C := "RangeCoders$Table") (T := T_Table) (N := 10) hx hb hg in_Table hown hK hP 2 rfl rfl 6 (by decide) (hg _ k102) (fun _ h9 => h9) rfl d_RC_told_89 ?_
        refine va_get (D := (dC, dI)) (ci := 0) (v := .int rin) (C := "RangeCoders$Row") (T := T_Row) (N := 2) hx hb hg in_Row hown hK hP 3 rfl rfl 0 (by decide) (hg _ k58) (fun _ h9 => h9) rfl d_RC_told_92 ?_
        exact my_iret (v := rin) hx hb hr (rfl) hlocks hQ hK hS (Nat.le_refl _) (Nat.le_refl _) () (trivial) (hP.sub [0, 1, 2, 3, 4, 5, 6] rfl) (hD.sub [0, 1, 2, 3, 4, 5, 6] (by decide +kernel) rfl) d_RC_told_95
      by_cases c_8 : wh = 4
      · refine lv_tableIn (tgt := 96) hx hb d_RC_told_14 (by rw [c_8]; decide) (by rw [c_8]; decide) (by rw [c_8]; rfl) (by decide) ?_
        refine lv_aload_n hx hb d_RC_told_96 rfl (lv_at hl 0 rfl) ?_
        refine va_get (D := (dC, dI)) (ci := 6) (v := .int fir) (C := "RangeCoders") (T := T_RC) (N := 8) hx hb hg in_RC hown hK hP 0 rfl rfl 7 (by decide) (hg _ k265) (fun _ h9 => h9) rfl d_RC_told_97 ?_
        exact my_iret (v := fir) hx hb hr (rfl) hlocks hQ hK hS (Nat.le_refl _) (Nat.le_refl _) () (trivial) (hP.sub [0, 1, 2, 3, 4, 5, 6] rfl) (hD.sub [0, 1, 2, 3, 4, 5, 6] (by decide +kernel) rfl) d_RC_told_100
      by_cases c_9 : wh = 5
      · refine lv_tableIn (tgt := 101) hx hb d_RC_told_14 (by rw [c_9]; decide) (by rw [c_9]; decide) (by rw [c_9]; rfl) (by decide) ?_
        refine lv_aload_n hx hb d_RC_told_101 rfl (lv_at hl 0 rfl) ?_
        refine va_get (D := (dC, dI)) (ci := 6) (v := .int frd) (C := "RangeCoders") (T := T_RC) (N := 8) hx hb hg in_RC hown hK hP 0 rfl rfl 5 (by decide) (hg _ k263) (fun _ h9 => h9) rfl d_RC_told_102 ?_
        refine lv_if_eq (tgt := 118) hx hb d_RC_told_105 (by decide) (fun c_10 => ?_) (fun c_10 => ?_)
        · refine lv_iconst (v := 0) hx hb d_RC_told_118 (by decide) ?_
          exact my_iret (v := 0) hx hb hr (rfl) hlocks hQ hK hS (Nat.le_refl _) (Nat.le_refl _) () (trivial) (hP.sub [0, 1, 2, 3, 4, 5, 6] rfl) (hD.sub [0, 1, 2, 3, 4, 5, 6] (by decide +kernel) rfl) d_RC_told_119
        · refine lv_aload_n hx hb d_RC_told_108 rfl (lv_at hl 0 rfl) ?_
          refine va_get (D := (dC, dI)) (ci := 6) (v := .ref co) (C := "RangeCoders") (T := T_RC) (N := 8) hx hb hg in_RC hown hK hP 0 rfl rfl 0 (by decide) (hg _ k258) (fun _ h9 => h9) rfl d_RC_told_109 ?_
          refine my_ci (wr := [(rc, Sum.inr (6, [Value.ref co, Value.ref ma, Value.int (nI k), Value.int fit, Value.int fen, Value.int frd, Value.int fbd, Value.int fir])), (ma, Sum.inl (cM, 8, Sum.inr (Sum.inr (Sum.inr (Sum.inr mf))))), (ri, Sum.inr (0, [Value.int rin, Value.ref ria])), (ria, Sum.inl (cI, rik, Sum.inl rif)), (ro, Sum.inr (0, [Value.int ron, Value.ref roa])), (roa, Sum.inl (cI, rok, Sum.inl rof))]) (va_runU (As := []) (rest := []) ⟨hx, hb, hml, hown, hts⟩ (c_Table_Table_bytesAsked l dC dI cI cM cO H.size co xx xreadX soa sna swa xkept ri ro rw xasked) (va_cwO 0 hts (my_gO k880 k882 k881 k887 k888 k11 k889) rfl rfl rfl (List.mem_cons_of_mem _ k890) (by decide +kernel) ⟨by rw [hR]; exact Nat.le_of_ble_eq_true rfl, by rw [hR]; exact Nat.le_of_ble_eq_true rfl⟩) (my_preV hK hN (hP.sub [2] rfl) (hD.sub [2] (by decide +kernel) rfl) 0 rfl rfl) rfl rfl hl.1 rfl (lv_room (Nat.le_of_ble_eq_true rfl)) d_RC_told_112 ⟨by rw [hR]; exact Nat.le_of_ble_eq_true rfl, by rw [hR]; exact Nat.le_of_ble_eq_true rfl⟩) hP hD hS hA [2] [0, 1, 3, 4, 5, 6] rfl rfl (by decide +kernel) (by decide +kernel) (fun r_112 u9 H locs hw_112 hP hD hS => ?_)
          have hPD : my_PD (dC, dI) vwCl A [(rc, Sum.inr (6, [Value.ref co, Value.ref ma, Value.int (nI k), Value.int fit, Value.int fen, Value.int frd, Value.int fbd, Value.int fir])), (ma, Sum.inl (cM, 8, Sum.inr (Sum.inr (Sum.inr (Sum.inr mf))))), (ri, Sum.inr (0, [Value.int rin, Value.ref ria])), (ria, Sum.inl (cI, rik, Sum.inl rif)), (ro, Sum.inr (0, [Value.int ron, Value.ref roa])), (roa, Sum.inl (cI, rok, Sum.inl rof)), (co, Sum.inr (5, [Value.long xx, Value.long xreadX, Value.ref soa, Value.ref sna, Value.ref swa, Value.int xkept, Value.ref ri, Value.ref ro, Value.ref rw, Value.int xasked]))] H := ⟨hP, hD⟩
          have hP := hPD.1
          have hD := hPD.2
          refine lv_goto (tgt := 119) hx hb d_RC_told_115 (by decide) ?_
          exact my_iret (v := r_112) hx hb hr (rfl) hlocks hQ hK hS (Nat.le_refl _) (Nat.le_refl _) () (trivial) (hP.sub [0, 1, 6, 2, 3, 4, 5] rfl) (hD.sub [0, 1, 6, 2, 3, 4, 5] (by decide +kernel) rfl) d_RC_told_119
      by_cases c_11 : wh = 6
      · refine lv_tableIn (tgt := 120) hx hb d_RC_told_14 (by rw [c_11]; decide) (by rw [c_11]; decide) (by rw [c_11]; rfl) (by decide) ?_
        refine lv_aload_n hx hb d_RC_told_120 rfl (lv_at hl 0 rfl) ?_
        refine va_get (D := (dC, dI)) (ci := 6) (v := .int fbd) (C := "RangeCoders") (T := T_RC) (N := 8) hx hb hg in_RC hown hK hP 0 rfl rfl 6 (by decide) (hg _ k264) (fun _ h9 => h9) rfl d_RC_told_121 ?_
        refine lv_if_eq (tgt := 131) hx hb d_RC_told_124 (by decide) (fun c_12 => ?_) (fun c_12 => ?_)
        · refine lv_iconst (v := 0) hx hb d_RC_told_131 (by decide) ?_
          exact my_iret (v := 0) hx hb hr (rfl) hlocks hQ hK hS (Nat.le_refl _) (Nat.le_refl _) () (trivial) (hP.sub [0, 1, 2, 3, 4, 5, 6] rfl) (hD.sub [0, 1, 2, 3, 4, 5, 6] (by decide +kernel) rfl) d_RC_told_132
        · refine lv_iconst (v := 1) hx hb d_RC_told_127 (by decide) ?_
          refine lv_goto (tgt := 132) hx hb d_RC_told_128 (by decide) ?_
          exact my_iret (v := 1) hx hb hr (rfl) hlocks hQ hK hS (Nat.le_refl _) (Nat.le_refl _) () (trivial) (hP.sub [0, 1, 2, 3, 4, 5, 6] rfl) (hD.sub [0, 1, 2, 3, 4, 5, 6] (by decide +kernel) rfl) d_RC_told_132
      refine lv_tableOut (tgt := 133) hx hb d_RC_told_14 (by have ac_3 : wh.toInt ≠ 0 := fun z => c_3 (Int32.toInt_inj.mp z); have ac_4 : wh.toInt ≠ 1 := fun z => c_4 (Int32.toInt_inj.mp z); have ac_6 : wh.toInt ≠ 2 := fun z => c_6 (Int32.toInt_inj.mp z); have ac_7 : wh.toInt ≠ 3 := fun z => c_7 (Int32.toInt_inj.mp z); have ac_8 : wh.toInt ≠ 4 := fun z => c_8 (Int32.toInt_inj.mp z); have ac_9 : wh.toInt ≠ 5 := fun z => c_9 (Int32.toInt_inj.mp z); have ac_11 : wh.toInt ≠ 6 := fun z => c_11 (Int32.toInt_inj.mp z); omega) (by decide) ?_
      refine lv_aload_n hx hb d_RC_told_133 rfl (lv_at hl 0 rfl) ?_
      refine va_get (D := (dC, dI)) (ci := 6) (v := .int frd) (C := "RangeCoders") (T := T_RC) (N := 8) hx hb hg in_RC hown hK hP 0 rfl rfl 5 (by decide) (hg _ k263) (fun _ h9 => h9) rfl d_RC_told_134 ?_
      refine lv_if_eq (tgt := 144) hx hb d_RC_told_137 (by decide) (fun c_13 => ?_) (fun c_13 => ?_)
      · refine lv_iconst (v := 0) hx hb d_RC_told_144 (by decide) ?_
        exact my_iret (v := 0) hx hb hr (rfl) hlocks hQ hK hS (Nat.le_refl _) (Nat.le_refl _) () (trivial) (hP.sub [0, 1, 2, 3, 4, 5, 6] rfl) (hD.sub [0, 1, 2, 3, 4, 5, 6] (by decide +kernel) rfl) d_RC_told_145
      · refine lv_iconst (v := 1) hx hb d_RC_told_140 (by decide) ?_
        refine lv_goto (tgt := 145) hx hb d_RC_told_141 (by decide) ?_
        exact my_iret (v := 1) hx hb hr (rfl) hlocks hQ hK hS (Nat.le_refl _) (Nat.le_refl _) () (trivial) (hP.sub [0, 1, 2, 3, 4, 5, 6] rfl) (hD.sub [0, 1, 2, 3, 4, 5, 6] (by decide +kernel) rfl) d_RC_told_145
    · refine lv_bipush (v := (-2)) hx hb d_RC_told_10 (by decide) ?_
      exact my_iret (v := (-2)) hx hb hr (rfl) hlocks hQ hK hS (Nat.le_refl _) (Nat.le_refl _) () (trivial) (hP.sub [0, 1, 2, 3, 4, 5, 6] rfl) (hD.sub [0, 1, 2, 3, 4, 5, 6] (by decide +kernel) rfl) d_RC_told_12
set_option maxHeartbeats 2000000 in
set_option maxRecDepth 100000 in
theorem c_RC_state_Table (l : Launch) (dC : Nat → ClassId) (dI : Nat → Nat → Nat) (cI cM cO : ClassId) (sz : Nat) (rc : Nat) (ma : Nat) (k : Nat) (fit : Int32) (fen : Int32) (frd : Int32) (fbd : Int32) (fir : Int32) (mf : Nat → Option Nat) (co : Nat) (xx : Int64) (xreadX : Int64) (soa : Nat) (sna : Nat) (swa : Nat) (xkept : Int32) (ri : Nat) (ro : Nat) (rw : Nat) (xasked : Int32) (wh : Int32) (hk8 : k ≤ 8) : MetL l y_RC_state (Cond.code y_RC_state prog_1_method_16_code 2 (some .long) :: gw) ({ frames := 1, cells := 0, slots := 0, locals := 21 } : Room) (dC, dI) vwCl (kT cI cM cO) [Value.ref rc, Value.int wh] [(rc, Sum.inr (6, [Value.ref co, Value.ref ma, Value.int (nI k), Value.int fit, Value.int fen, Value.int frd, Value.int fbd, Value.int fir])), (ma, Sum.inl (cM, 8, Sum.inr (Sum.inr (Sum.inr (Sum.inr mf))))), (co, Sum.inr (5, [Value.long xx, Value.long xreadX, Value.ref soa, Value.ref sna, Value.ref swa, Value.int xkept, Value.ref ri, Value.ref ro, Value.ref rw, Value.int xasked]))] sz (fun (r : Int64) (u : Unit) => True) (fun (u : Unit) => [(rc, Sum.inr (6, [Value.ref co, Value.ref ma, Value.int (nI k), Value.int fit, Value.int fen, Value.int frd, Value.int fbd, Value.int fir])), (ma, Sum.inl (cM, 8, Sum.inr (Sum.inr (Sum.inr (Sum.inr mf))))), (co, Sum.inr (5, [Value.long xx, Value.long xreadX, Value.ref soa, Value.ref sna, Value.ref swa, Value.int xkept, Value.ref ri, Value.ref ro, Value.ref rw, Value.int xasked]))]) 0 0 := by
  refine my_ofL (cc := prog_1_method_16_code) (n := 2) (ret := (some .long)) (by decide) rfl (Nat.le_of_ble_eq_true rfl) ?_
  intro p e s m args below meth c R Q A ls H locs hx hb hr hts hown hlocks hml hnm hR hQ hA hl hP hK hN hD hS
  have hg : ∀ w ∈ gw, w.before args s = true := fun w h => hts w (List.mem_cons_of_mem _ h)
  have hown : s.vm.findClass "RangeCoders" = some m.cls := hown
  have hl : lv_has ls 2 [(0, Value.ref rc), (1, Value.int wh)] := hl
  refine lv_iload_n hx hb d_RC_state_0 rfl (lv_at hl 1 rfl) ?_
  refine lv_if_lt (tgt := 9) hx hb d_RC_state_1 (by decide) (fun c_1 => ?_) (fun c_1 => ?_)
  · refine lv_ldc2 (v := (-2)) hx hb hown (hg _ k895) d_RC_state_9 ?_
    exact my_lret (v := (-2)) hx hb hr hlocks hQ hK hS (Nat.le_refl _) (Nat.le_refl _) () (trivial) (hP.sub [0, 1, 2] rfl) (hD.sub [0, 1, 2] (by decide +kernel) rfl) d_RC_state_12
  · refine lv_iload_n hx hb d_RC_state_4 rfl (lv_at hl 1 rfl) ?_
    refine lv_iconst (v := 5) hx hb d_RC_state_5 (by decide) ?_
    refine lv_icmp_le (tgt := 13) hx hb d_RC_state_6 (by decide) (fun c_2 => ?_) (fun c_2 => ?_)
    · refine lv_iload_n hx hb d_RC_state_13 rfl (lv_at hl 1 rfl) ?_
      refine lv_iconst (v := 1) hx hb d_RC_state_14 (by decide) ?_
      refine lv_icmp_le (tgt := 27) hx hb d_RC_state_15 (by decide) (fun c_3 => ?_) (fun c_3 => ?_)
      · refine lv_aload_n hx hb d_RC_state_27 rfl (lv_at hl 0 rfl) ?_
        refine va_get (D := (dC, dI)) (ci := 6) (v := .ref co) (C := "RangeCoders") (T := T_RC) (N := 8) hx hb hg in_RC hown hK hP 0 rfl rfl 0 (by decide) (hg _ k258) (fun _ h9 => h9) rfl d_RC_state_28 ?_
        refine lv_iload_n hx hb d_RC_state_31 rfl (lv_at hl 1 rfl) ?_
        refine my_cl (wr := [(rc, Sum.inr (6, [Value.ref co, Value.ref ma, Value.int (nI k), Value.int fit, Value.int fen, Value.int frd, Value.int fbd, Value.int fir])), (ma, Sum.inl (cM, 8, Sum.inr (Sum.inr (Sum.inr (Sum.inr mf)))))]) (va_runU (As := [Value.int wh]) (rest := []) ⟨hx, hb, hml, hown, hts⟩ (c_Table_Stacked_register l dC dI cI cM cO H.size co xx xreadX soa sna swa xkept ri ro rw xasked wh) (va_cwA 1 hts (my_gU k896 k898 k907 k905 k9 k906) rfl rfl rfl (hN.1 _ j897 rfl) (by decide +kernel) ⟨by rw [hR]; exact Nat.le_of_ble_eq_true rfl, by rw [hR]; exact Nat.le_of_ble_eq_true rfl⟩) (my_preV hK hN (hP.sub [2] rfl) (hD.sub [2] (by decide +kernel) rfl) 0 rfl rfl) rfl rfl hl.1 rfl (lv_room (Nat.le_of_ble_eq_true rfl)) d_RC_state_32 ⟨by rw [hR]; exact Nat.le_of_ble_eq_true rfl, by rw [hR]; exact Nat.le_of_ble_eq_true rfl⟩) hP hD hS hA [2] [0, 1] rfl rfl (by decide +kernel) (by decide +kernel) (fun r_32 u9 H locs hw_32 hP hD hS => ?_)
        have hPD : my_PD (dC, dI) vwCl A [(rc, Sum.inr (6, [Value.ref co, Value.ref ma, Value.int (nI k), Value.int fit, Value.int fen, Value.int frd, Value.int fbd, Value.int fir])), (ma, Sum.inl (cM, 8, Sum.inr (Sum.inr (Sum.inr (Sum.inr mf))))), (co, Sum.inr (5, [Value.long xx, Value.long xreadX, Value.ref soa, Value.ref sna, Value.ref swa, Value.int xkept, Value.ref ri, Value.ref ro, Value.ref rw, Value.int xasked]))] H := ⟨hP, hD⟩
        have hP := hPD.1
        have hD := hPD.2
        exact my_lret (v := r_32) hx hb hr hlocks hQ hK hS (Nat.le_refl _) (Nat.le_refl _) () (trivial) (hP.sub [0, 1, 2] rfl) (hD.sub [0, 1, 2] (by decide +kernel) rfl) d_RC_state_35
      · refine lv_aload_n hx hb d_RC_state_18 rfl (lv_at hl 0 rfl) ?_
        refine va_get (D := (dC, dI)) (ci := 6) (v := .int frd) (C := "RangeCoders") (T := T_RC) (N := 8) hx hb hg in_RC hown hK hP 0 rfl rfl 5 (by decide) (hg _ k263) (fun _ h9 => h9) rfl d_RC_state_19 ?_
        refine lv_if_ne (tgt := 27) hx hb d_RC_state_22 (by decide) (fun c_4 => ?_) (fun c_4 => ?_)
        · refine lv_aload_n hx hb d_RC_state_27 rfl (lv_at hl 0 rfl) ?_
          refine va_get (D := (dC, dI)) (ci := 6) (v := .ref co) (C := "RangeCoders") (T := T_RC) (N := 8) hx hb hg in_RC hown hK hP 0 rfl rfl 0 (by decide) (hg _ k258) (fun _ h9 => h9) rfl d_RC_state_28 ?_
          refine lv_iload_n hx hb d_RC_state_31 rfl (lv_at hl 1 rfl) ?_
          refine my_cl (wr := [(rc, Sum.inr (6, [Value.ref co, Value.ref ma, Value.int (nI k), Value.int fit, Value.int fen, Value.int frd, Value.int fbd, Value.int fir])), (ma, Sum.inl (cM, 8, Sum.inr (Sum.inr (Sum.inr (Sum.inr mf)))))]) (va_runU (As := [Value.int wh]) (rest := []) ⟨hx, hb, hml, hown, hts⟩ (c_Table_Stacked_register l dC dI cI cM cO H.size co xx xreadX soa sna swa xkept ri ro rw xasked wh) (va_cwA 1 hts (my_gU k896 k898 k907 k905 k9 k906) rfl rfl rfl (hN.1 _ j897 rfl) (by decide +kernel) ⟨by rw [hR]; exact Nat.le_of_ble_eq_true rfl, by rw [hR]; exact Nat.le_of_ble_eq_true rfl⟩) (my_preV hK hN (hP.sub [2] rfl) (hD.sub [2] (by decide +kernel) rfl) 0 rfl rfl) rfl rfl hl.1 rfl (lv_room (Nat.le_of_ble_eq_true rfl)) d_RC_state_32 ⟨by rw [hR]; exact Nat.le_of_ble_eq_true rfl, by rw [hR]; exact Nat.le_of_ble_eq_true rfl⟩) hP hD hS hA [2] [0, 1] rfl rfl (by decide +kernel) (by decide +kernel) (fun r_32 u9 H locs hw_32 hP hD hS => ?_)
          have hPD : my_PD (dC, dI) vwCl A [(rc, Sum.inr (6, [Value.ref co, Value.ref ma, Value.int (nI k), Value.int fit, Value.int fen, Value.int frd, Value.int fbd, Value.int fir])), (ma, Sum.inl (cM, 8, Sum.inr (Sum.inr (Sum.inr (Sum.inr mf))))), (co, Sum.inr (5, [Value.long xx, Value.long xreadX, Value.ref soa, Value.ref sna, Value.ref swa, Value.int xkept, Value.ref ri, Value.ref ro, Value.ref rw, Value.int xasked]))] H := ⟨hP, hD⟩
          have hP := hPD.1
          have hD := hPD.2
          exact my_lret (v := r_32) hx hb hr hlocks hQ hK hS (Nat.le_refl _) (Nat.le_refl _) () (trivial) (hP.sub [0, 1, 2] rfl) (hD.sub [0, 1, 2] (by decide +kernel) rfl) d_RC_state_35
        · refine lv_lconst (v := 0) hx hb d_RC_state_25 (by decide) ?_
          exact my_lret (v := 0) hx hb hr hlocks hQ hK hS (Nat.le_refl _) (Nat.le_refl _) () (trivial) (hP.sub [0, 1, 2] rfl) (hD.sub [0, 1, 2] (by decide +kernel) rfl) d_RC_state_26
    · refine lv_ldc2 (v := (-2)) hx hb hown (hg _ k895) d_RC_state_9 ?_
      exact my_lret (v := (-2)) hx hb hr hlocks hQ hK hS (Nat.le_refl _) (Nat.le_refl _) () (trivial) (hP.sub [0, 1, 2] rfl) (hD.sub [0, 1, 2] (by decide +kernel) rfl) d_RC_state_12
set_option maxHeartbeats 2000000 in
set_option maxRecDepth 100000 in
theorem c_RC_modelA_Table (l : Launch) (dC : Nat → ClassId) (dI : Nat → Nat → Nat) (cI cM cO : ClassId) (sz : Nat) (rc : Nat) (ma : Nat) (k : Nat) (fit : Int32) (fen : Int32) (frd : Int32) (fbd : Int32) (fir : Int32) (mf : Nat → Option Nat) (co : Nat) (xx : Int64) (xreadX : Int64) (soa : Nat) (sna : Nat) (swa : Nat) (xkept : Int32) (ri : Nat) (ro : Nat) (rw : Nat) (xasked : Int32) (nn : Int32) (hrf : nn < 2 ∨ 64 < nn) : MetI l y_RC_model (Cond.code y_RC_model prog_1_method_2_code 3 (some .int) :: gw) ({ frames := 0, cells := 0, slots := 0, locals := 0 } : Room) (dC, dI) vwCl (kT cI cM cO) [Value.ref rc, Value.int nn] [(rc, Sum.inr (6, [Value.ref co, Value.ref ma, Value.int (nI k), Value.int fit, Value.int fen, Value.int frd, Value.int fbd, Value.int fir])), (ma, Sum.inl (cM, 8, Sum.inr (Sum.inr (Sum.inr (Sum.inr mf))))), (co, Sum.inr (5, [Value.long xx, Value.long xreadX, Value.ref soa, Value.ref sna, Value.ref swa, Value.int xkept, Value.ref ri, Value.ref ro, Value.ref rw, Value.int xasked]))] sz (fun (r : Int32) (u : Unit) => r = -2) (fun (u : Unit) => [(rc, Sum.inr (6, [Value.ref co, Value.ref ma, Value.int (nI k), Value.int fit, Value.int fen, Value.int frd, Value.int fbd, Value.int fir])), (ma, Sum.inl (cM, 8, Sum.inr (Sum.inr (Sum.inr (Sum.inr mf))))), (co, Sum.inr (5, [Value.long xx, Value.long xreadX, Value.ref soa, Value.ref sna, Value.ref swa, Value.int xkept, Value.ref ri, Value.ref ro, Value.ref rw, Value.int xasked]))]) 0 0 := by
  refine my_ofI (cc := prog_1_method_2_code) (n := 3) (ret := (some .int)) (by decide) rfl (Nat.le_of_ble_eq_true rfl) ?_
  intro p e s m args below meth c R Q A ls H locs hx hb hr hts hown hlocks hml hnm hR hQ hA hl hP hK hN hD hS
  have hg : ∀ w ∈ gw, w.before args s = true := fun w h => hts w (List.mem_cons_of_mem _ h)
  have hown : s.vm.findClass "RangeCoders" = some m.cls := hown
  have hl : lv_has ls 3 [(0, Value.ref rc), (1, Value.int nn)] := hl
  refine lv_iload_n hx hb d_RC_model_0 rfl (lv_at hl 1 rfl) ?_
  refine lv_iconst (v := 2) hx hb d_RC_model_1 (by decide) ?_
  refine lv_icmp_lt (tgt := 11) hx hb d_RC_model_2 (by decide) (fun c_1 => ?_) (fun c_1 => ?_)
  · refine lv_bipush (v := (-2)) hx hb d_RC_model_11 (by decide) ?_
    exact my_iret (v := (-2)) hx hb hr (rfl) hlocks hQ hK hS (Nat.le_refl _) (Nat.le_refl _) () (rfl) (hP.sub [0, 1, 2] rfl) (hD.sub [0, 1, 2] (by decide +kernel) rfl) d_RC_model_13
  · refine lv_iload_n hx hb d_RC_model_5 rfl (lv_at hl 1 rfl) ?_
    refine lv_bipush (v := 64) hx hb d_RC_model_6 (by decide) ?_
    refine lv_icmp_le (tgt := 14) hx hb d_RC_model_8 (by decide) (fun c_2 => ?_) (fun c_2 => ?_)
    · exact absurd hrf (fun h9 => h9.elim c_1 (fun h8 => absurd c_2 (Int32.not_le.mpr h8)))
    · refine lv_bipush (v := (-2)) hx hb d_RC_model_11 (by decide) ?_
      exact my_iret (v := (-2)) hx hb hr (rfl) hlocks hQ hK hS (Nat.le_refl _) (Nat.le_refl _) () (rfl) (hP.sub [0, 1, 2] rfl) (hD.sub [0, 1, 2] (by decide +kernel) rfl) d_RC_model_13
set_option maxHeartbeats 2000000 in
set_option maxRecDepth 100000 in
theorem c_RC_modelF_Table (l : Launch) (dC : Nat → ClassId) (dI : Nat → Nat → Nat) (cI cM cO : ClassId) (sz : Nat) (rc : Nat) (ma : Nat) (k : Nat) (fit : Int32) (fen : Int32) (frd : Int32) (fbd : Int32) (fir : Int32) (mf : Nat → Option Nat) (co : Nat) (xx : Int64) (xreadX : Int64) (soa : Nat) (sna : Nat) (swa : Nat) (xkept : Int32) (ri : Nat) (ro : Nat) (rw : Nat) (xasked : Int32) (ns : Nat) (hns2 : 2 ≤ ns) (hns : ns ≤ 64) (hk : k = 8) : MetI l y_RC_model (Cond.code y_RC_model prog_1_method_2_code 3 (some .int) :: gw) ({ frames := 0, cells := 0, slots := 0, locals := 0 } : Room) (dC, dI) vwCl (kT cI cM cO) [Value.ref rc, Value.int (nI ns)] [(rc, Sum.inr (6, [Value.ref co, Value.ref ma, Value.int (nI k), Value.int fit, Value.int fen, Value.int frd, Value.int fbd, Value.int fir])), (ma, Sum.inl (cM, 8, Sum.inr (Sum.inr (Sum.inr (Sum.inr mf))))), (co, Sum.inr (5, [Value.long xx, Value.long xreadX, Value.ref soa, Value.ref sna, Value.ref swa, Value.int xkept, Value.ref ri, Value.ref ro, Value.ref rw, Value.int xasked]))] sz (fun (r : Int32) (u : Unit) => r = -4) (fun (u : Unit) => [(rc, Sum.inr (6, [Value.ref co, Value.ref ma, Value.int (nI k), Value.int fit, Value.int fen, Value.int frd, Value.int fbd, Value.int fir])), (ma, Sum.inl (cM, 8, Sum.inr (Sum.inr (Sum.inr (Sum.inr mf))))), (co, Sum.inr (5, [Value.long xx, Value.long xreadX, Value.ref soa, Value.ref sna, Value.ref swa, Value.int xkept, Value.ref ri, Value.ref ro, Value.ref rw, Value.int xasked]))]) 0 0 := by
  refine my_ofI (cc := prog_1_method_2_code) (n := 3) (ret := (some .int)) (by decide) rfl (Nat.le_of_ble_eq_true rfl) ?_
  intro p e s m args below meth c R Q A ls H locs hx hb hr hts hown hlocks hml hnm hR hQ hA hl hP hK hN hD hS
  have hg : ∀ w ∈ gw, w.before args s = true := fun w h => hts w (List.mem_cons_of_mem _ h)
  have hown : s.vm.findClass "RangeCoders" = some m.cls := hown
  have hl : lv_has ls 3 [(0, Value.ref rc), (1, Value.int (nI ns))] := hl
  refine lv_iload_n hx hb d_RC_model_0 rfl (lv_at hl 1 rfl) ?_
  refine lv_iconst (v := 2) hx hb d_RC_model_1 (by decide) ?_
  refine lv_icmp_lt (tgt := 11) hx hb d_RC_model_2 (by decide) (fun c_1 => ?_) (fun c_1 => ?_)
  · exact absurd c_1 (show ¬ nI ns < nI 2 from nI_nlt hns2 (by omega))
  · refine lv_iload_n hx hb d_RC_model_5 rfl (lv_at hl 1 rfl) ?_
    refine lv_bipush (v := 64) hx hb d_RC_model_6 (by decide) ?_
    refine lv_icmp_le (tgt := 14) hx hb d_RC_model_8 (by decide) (fun c_2 => ?_) (fun c_2 => ?_)
    · refine lv_aload_n hx hb d_RC_model_14 rfl (lv_at hl 0 rfl) ?_
      refine va_get (D := (dC, dI)) (ci := 6) (v := .int (nI k)) (C := "RangeCoders") (T := T_RC) (N := 8) hx hb hg in_RC hown hK hP 0 rfl rfl 2 (by decide) (hg _ k260) (fun _ h9 => h9) rfl d_RC_model_15 ?_
      refine lv_bipush (v := 8) hx hb d_RC_model_18 (by decide) ?_
      refine lv_icmp_lt (tgt := 26) hx hb d_RC_model_20 (by decide) (fun c_3 => ?_) (fun c_3 => ?_)
      · exact absurd c_3 (show ¬ nI k < nI 8 from nI_nlt (by omega) (by omega))
      · refine lv_bipush (v := (-4)) hx hb d_RC_model_23 (by decide) ?_
        exact my_iret (v := (-4)) hx hb hr (rfl) hlocks hQ hK hS (Nat.le_refl _) (Nat.le_refl _) () (rfl) (hP.sub [0, 1, 2] rfl) (hD.sub [0, 1, 2] (by decide +kernel) rfl) d_RC_model_25
    · exact absurd (show nI ns ≤ nI 64 from nI_le hns (by omega)) c_2
end
section
/-! MODELS in any number: the tail of a world -/
/-- an Odds: address, signs, sum, first cell, its rows' addresses, cells, places -/
abbrev OB : Type := Nat × Int32 × Int32 × Int32 × Nat × Nat × Nat × (Nat → Int32) × Nat × (Nat → Int32)
/-- a Model: address, COUNTS (address, number, contents), for the message, for the reading -/
abbrev MB : Type := Nat × Nat × Nat × (Nat → Int32) × OB × OB
def obC (cI : ClassId) (o : OB) : va_W := [(o.1, Sum.inr (7, [Value.int o.2.1, Value.int o.2.2.1, Value.int o.2.2.2.1, Value.ref o.2.2.2.2.1, Value.ref o.2.2.2.2.2.1])), (o.2.2.2.2.1, Sum.inl (cI, o.2.2.2.2.2.2.1, Sum.inl o.2.2.2.2.2.2.2.1)), (o.2.2.2.2.2.1, Sum.inl (cI, o.2.2.2.2.2.2.2.2.1, Sum.inl o.2.2.2.2.2.2.2.2.2))]
def mbC (cI : ClassId) (x : MB) : va_W := (x.1, Sum.inr (8, [Value.ref x.2.1, Value.ref x.2.2.2.2.1.1, Value.ref x.2.2.2.2.2.1])) :: (x.2.1, Sum.inl (cI, x.2.2.1, Sum.inl x.2.2.2.1)) :: (obC cI x.2.2.2.2.1 ++ obC cI x.2.2.2.2.2)
def mbsC (cI : ClassId) (ms : List MB) : va_W := ms.flatMap (mbC cI)
def obOk (o : OB) : Prop := 1 ≤ o.2.2.2.2.2.2.1 ∧ o.2.2.2.2.2.2.1 ≤ 64 ∧ o.2.2.2.2.2.2.2.2.1 ≤ 512
def mbOk (x : MB) : Prop := x.2.2.1 ≤ 64 ∧ obOk x.2.2.2.2.1 ∧ obOk x.2.2.2.2.2
/-- what stays: where a model and its odds for the message lie -/
def mbA (x : MB) : Nat × Nat := (x.1, x.2.2.2.2.1.1)
/-- the object's row of models -/
def mfOk (mf : Nat → Option Nat) (ms : List MB) : Prop := ∀ i, i < 8 → mf i = (ms[i]?).map (·.1)
section PRM
variable {D : va_G} {cl : List vw_C} {ws ws' : va_W} {H : Heap} {A : Nat → Prop}
theorem pm_P (h : va_P D cl ws H) (p : ws'.Perm ws) : va_P D cl ws' H := by
  intro k q hk
  obtain ⟨j, hj, e⟩ := List.mem_iff_getElem.mp (p.mem_iff.mp (List.mem_of_getElem? hk))
  exact h j q (by rw [List.getElem?_eq_getElem hj, e])
theorem pm_nd (h : va_D A ws) : (ws.map (·.1)).Nodup := by
  rw [List.nodup_iff_pairwise_ne, List.pairwise_iff_getElem]
  intro i j hi hj hij e
  rw [List.length_map] at hi hj
  rw [List.getElem_map, List.getElem_map] at e
  have := h.1 i j ws[i] ws[j] (List.getElem?_eq_getElem hi) (List.getElem?_eq_getElem hj) e
  omega
theorem pm_of (h : (ws.map (·.1)).Nodup) (h2 : ∀ q ∈ ws, A q.1) : va_D A ws := by
  refine ⟨fun i j p q hi hj e => ?_, fun k q hk => h2 q (List.mem_of_getElem? hk)⟩
  obtain ⟨hi1, hi2⟩ := List.getElem?_eq_some_iff.mp hi
  obtain ⟨hj1, hj2⟩ := List.getElem?_eq_some_iff.mp hj
  rw [List.nodup_iff_pairwise_ne, List.pairwise_iff_getElem] at h
  rcases Nat.lt_trichotomy i j with z | z | z
  · exact absurd (by rw [List.getElem_map, List.getElem_map, hi2, hj2]; exact e) (h i j (by rw [List.length_map]; exact hi1) (by rw [List.length_map]; exact hj1) z)
  · exact z
  · exact absurd (by rw [List.getElem_map, List.getElem_map, hi2, hj2]; exact e.symm) (h j i (by rw [List.length_map]; exact hj1) (by rw [List.length_map]; exact hi1) z)
theorem pm_D (h : va_D A ws) (p : ws'.Perm ws) : va_D A ws' := by
  refine pm_of ((p.map _).nodup_iff.mpr (pm_nd h)) (fun q hq => ?_)
  obtain ⟨j, hj, e⟩ := List.mem_iff_getElem.mp (p.mem_iff.mp hq)
  exact h.2 j q (by rw [List.getElem?_eq_getElem hj, e])
end PRM
theorem pm_mid {α : Type} (X A C B : List α) : ((X ++ C) ++ (A ++ B)).Perm (X ++ (A ++ (C ++ B))) := by
  rw [List.append_assoc]
  refine List.Perm.append_left X ?_
  rw [← List.append_assoc, ← List.append_assoc]
  exact List.Perm.append_right B List.perm_append_comm
theorem mb_eq (cI : ClassId) (a b : List MB) (x : MB) : mbsC cI (a ++ x :: b) = mbsC cI a ++ (mbC cI x ++ mbsC cI b) := by
  unfold mbsC
  rw [List.flatMap_append, List.flatMap_cons]
theorem mb_out (cI : ClassId) (X : va_W) (a b : List MB) (x : MB) : ((X ++ mbC cI x) ++ (mbsC cI a ++ mbsC cI b)).Perm (X ++ mbsC cI (a ++ x :: b)) := by
  rw [mb_eq]
  exact pm_mid X _ _ _
theorem mb_at {ms : List MB} {i : Nat} (h : i < ms.length) : ∃ a x b, ms = a ++ x :: b ∧ a.length = i := by
  refine ⟨ms.take i, ms[i], ms.drop (i + 1), ?_, by rw [List.length_take]; omega⟩
  rw [List.getElem_cons_drop, List.take_append_drop]
theorem mb_get {a b : List MB} {x : MB} : (a ++ x :: b)[a.length]? = some x := by
  rw [List.getElem?_append_right (Nat.le_refl _), Nat.sub_self]
  rfl
theorem mb_set {a b : List MB} {x y : MB} {f : MB → Nat × Nat} (h : f y = f x) : (a ++ y :: b).map f = (a ++ x :: b).map f := by
  rw [List.map_append, List.map_append, List.map_cons, List.map_cons, h]
theorem mb_len {ms ms' : List MB} (h : ms'.map mbA = ms.map mbA) : ms'.length = ms.length := by
  have := congrArg List.length h
  rwa [List.length_map, List.length_map] at this
theorem mf_keep {mf : Nat → Option Nat} {ms ms' : List MB} (h : mfOk mf ms) (e : ms'.map mbA = ms.map mbA) : mfOk mf ms' := by
  intro i hi
  rw [h i hi]
  have e1 : (ms'.map mbA)[i]? = (ms.map mbA)[i]? := by rw [e]
  rw [List.getElem?_map, List.getElem?_map] at e1
  have e2 := congrArg (Option.map Prod.fst) e1
  rw [Option.map_map, Option.map_map] at e2
  exact e2.symm
theorem mf_some {mf : Nat → Option Nat} {a b : List MB} {x : MB} (h : mfOk mf (a ++ x :: b)) (h8 : a.length < 8) : mf a.length = some x.1 := by
  rw [h _ h8, mb_get]
  rfl
theorem mf_none {mf : Nat → Option Nat} {ms : List MB} {i : Nat} (h : mfOk mf ms) (h8 : i < 8) (hi : ms.length ≤ i) : mf i = none := by
  rw [h _ h8, List.getElem?_eq_none hi]
  rfl
theorem ok_mid {a b : List MB} {x : MB} (h : ∀ y ∈ a ++ x :: b, mbOk y) : mbOk x := h x (List.mem_append_right _ List.mem_cons_self)
theorem ok_set {a b : List MB} {x y : MB} (h : ∀ z ∈ a ++ x :: b, mbOk z) (hy : mbOk y) : ∀ z ∈ a ++ y :: b, mbOk z := by
  intro z hz
  rcases List.mem_append.mp hz with q | q
  · exact h z (List.mem_append_left _ q)
  · rcases List.mem_cons.mp q with e | q
    · rw [e]; exact hy
    · exact h z (List.mem_append_right _ (List.mem_cons_of_mem _ q))
section TLC
variable {p : Program} {l : Launch} {e : Env} {R : Room} {s : State} {m : MethodId} {args : Array Value} {below : List Frame} {meth : Method} {c : Code} {H : Heap} {locs : List Loc} {cells slots : Nat} {Q : State → Prop}
variable {cc : ByteArray} {pc : Nat} {ls : Array Slot} {rest st0 : List Value} {D : va_G} {cl : List vw_C} {tys : List (ClassId × FieldType)} {A : Nat → Prop} {f0 : Nat} {a : Array Value}
theorem my_freeP {X wc pl : va_W} (hD : va_D A (X ++ pl)) (hS : va_S A s.heap H locs) (hA : ∀ q : Nat, s.heap.size ≤ q → A q) (isC : List Nat) (hC : isC.map (fun i => X[i]?) = wc.map some) : ∀ q, va_A (wc ++ pl) H.size q → A q := by
  intro q h
  rcases h with ⟨k, e, h⟩ | h
  · exact hD.2 _ (q, e) (va_part isC hC k (q, e) h)
  · exact hA q (Nat.le_trans hS.1 h)
theorem my_ciT {S : Type} {post : Int32 → S → Prop} {rx pq : S → va_W} {mc ms : Nat} {X wc wr pl : va_W} (hr : va_Run p l e R s m args below meth c H locs cells slots mc ms (F0 m pc ls st0) rest (va_Qi post (my_B D cl tys (fun u => rx u ++ pq u) (va_A (wc ++ pl) H.size)) (va_A (wc ++ pl) H.size) a) (va_A (wc ++ pl) H.size)) (hP : va_P D cl (X ++ pl) H) (hD : va_D A (X ++ pl)) (hS : va_S A s.heap H locs) (hA : ∀ q : Nat, s.heap.size ≤ q → A q) (isC isR : List Nat) (hC : isC.map (fun i => X[i]?) = wc.map some) (hR : isR.map (fun i => X[i]?) = wr.map some) (hn : va_nd isR = true) (hdis : ∀ i ∈ isR, i ∉ isC)
    (kk : ∀ (r : Int32) (u : S) (H1 : Heap) (locs1 : List Loc), post r u → va_P D cl ((wr ++ rx u) ++ pq u) H1 → va_D A ((wr ++ rx u) ++ pq u) → va_S A s.heap H1 locs1 → W p l e R s m args below meth c H1 locs1 (cells + mc) (slots + ms) Q (F0 m (pc + 3) ls (.int r :: rest))) : W p l e R s m args below meth c H locs cells slots Q (F0 m pc ls st0) := by
  have hFc : ∀ q, va_A (wc ++ pl) H.size q → A q := my_freeP hD hS hA isC hC
  refine va_calli hr hS (fun q _ h => hFc q h) hFc (fun r u t H1 locs1 ht hvm hw hB hz1 hk1 hS1 => ?_)
  obtain ⟨hP1, hK1, hD1⟩ := hB
  rw [ht] at hP1
  obtain ⟨hP2, hD2⟩ := va_joinP hP hD isC isR hC hR hn hdis hk1 hFc hP1 hD1
  exact kk r u H1 locs1 hw hP2 hD2 hS1
theorem my_cigT {S : Type} {post : Int32 → S → Prop} {rx pq : S → va_W} {ph : S → Nat} {X wc wr pl : va_W} (hr : va_Run p l e R s m args below meth c H locs cells slots f0 f0 (F0 m pc ls st0) rest (va_Qi post (my_Bg D cl tys (fun u => rx u ++ pq u) (va_A (wc ++ pl) H.size) H.size (hSl H) f0 ph) (va_A (wc ++ pl) H.size) a) (va_A (wc ++ pl) H.size)) (hP : va_P D cl (X ++ pl) H) (hD : va_D A (X ++ pl)) (hS : va_S A s.heap H locs) (hA : ∀ q : Nat, s.heap.size ≤ q → A q) (isC isR : List Nat) (hC : isC.map (fun i => X[i]?) = wc.map some) (hR : isR.map (fun i => X[i]?) = wr.map some) (hn : va_nd isR = true) (hdis : ∀ i ∈ isR, i ∉ isC)
    (kk : ∀ (r : Int32) (u : S) (d : Nat) (H1 : Heap) (locs1 : List Loc), d + ph u ≤ f0 → post r u → va_P D cl ((wr ++ rx u) ++ pq u) H1 → va_D A ((wr ++ rx u) ++ pq u) → va_S A s.heap H1 locs1 → W p l e R s m args below meth c H1 locs1 (cells + d) (slots + d) Q (F0 m (pc + 3) ls (.int r :: rest))) : W p l e R s m args below meth c H locs cells slots Q (F0 m pc ls st0) := by
  refine W.know (fun k1 k2 => ?_)
  have hFc : ∀ q, va_A (wc ++ pl) H.size q → A q := my_freeP hD hS hA isC hC
  refine va_calli hr hS (fun q _ h => hFc q h) hFc (fun r u t H1 locs1 ht hvm hw hB hz1 hk1 hS1 => ?_)
  obtain ⟨⟨hP1, hK1, hD1⟩, g1, g2⟩ := hB
  rw [ht] at hP1 g1 g2
  obtain ⟨hP2, hD2⟩ := va_joinP hP hD isC isR hC hR hn hdis hk1 hFc hP1 hD1
  refine W.tight (cells' := cells + (f0 - ph u)) (slots' := slots + (f0 - ph u)) (by omega) (by omega) ?_
  exact kk r u (f0 - ph u) H1 locs1 (by omega) hw hP2 hD2 hS1
theorem my_cvgT {S : Type} {post : S → Prop} {rx pq : S → va_W} {ph : S → Nat} {X wc wr pl : va_W} (hr : va_Run p l e R s m args below meth c H locs cells slots f0 f0 (F0 m pc ls st0) rest (va_Qv post (my_Bg D cl tys (fun u => rx u ++ pq u) (va_A (wc ++ pl) H.size) H.size (hSl H) f0 ph) (va_A (wc ++ pl) H.size) a) (va_A (wc ++ pl) H.size)) (hP : va_P D cl (X ++ pl) H) (hD : va_D A (X ++ pl)) (hS : va_S A s.heap H locs) (hA : ∀ q : Nat, s.heap.size ≤ q → A q) (isC isR : List Nat) (hC : isC.map (fun i => X[i]?) = wc.map some) (hR : isR.map (fun i => X[i]?) = wr.map some) (hn : va_nd isR = true) (hdis : ∀ i ∈ isR, i ∉ isC)
    (kk : ∀ (u : S) (d : Nat) (H1 : Heap) (locs1 : List Loc), d + ph u ≤ f0 → post u → va_P D cl ((wr ++ rx u) ++ pq u) H1 → va_D A ((wr ++ rx u) ++ pq u) → va_S A s.heap H1 locs1 → W p l e R s m args below meth c H1 locs1 (cells + d) (slots + d) Q (F0 m (pc + 3) ls rest)) : W p l e R s m args below meth c H locs cells slots Q (F0 m pc ls st0) := by
  refine W.know (fun k1 k2 => ?_)
  have hFc : ∀ q, va_A (wc ++ pl) H.size q → A q := my_freeP hD hS hA isC hC
  refine va_callv hr hS (fun q _ h => hFc q h) hFc (fun u t H1 locs1 ht hvm hw hB hz1 hk1 hS1 => ?_)
  obtain ⟨⟨hP1, hK1, hD1⟩, g1, g2⟩ := hB
  rw [ht] at hP1 g1 g2
  obtain ⟨hP2, hD2⟩ := va_joinP hP hD isC isR hC hR hn hdis hk1 hFc hP1 hD1
  refine W.tight (cells' := cells + (f0 - ph u)) (slots' := slots + (f0 - ph u)) (by omega) (by omega) ?_
  exact kk u (f0 - ph u) H1 locs1 (by omega) hw hP2 hD2 hS1
end TLC
theorem od_out {cI : ClassId} {pl rest : va_W} {o : OB} (X : va_W) (h : pl.Perm (obC cI o ++ rest)) : ((X ++ obC cI o) ++ rest).Perm (X ++ pl) := by
  rw [List.append_assoc]
  exact List.Perm.append_left X h.symm
theorem my_subU {D : va_G} {cl : List vw_C} {X cx pl : va_W} {H : Heap} (h : va_P D cl (X ++ pl) H) (is : List Nat) (hs : is.filterMap (fun i => X[i]?) = cx) : va_P D cl cx H :=
  va_P.sub (ws := X) (fun k q hk => h k q (by rw [List.getElem?_append_left (List.getElem?_eq_some_iff.mp hk).1]; exact hk)) is hs
theorem my_partU {D : va_G} {cl : List vw_C} {X cx pl : va_W} {H : Heap} (h : va_P D cl (X ++ pl) H) (is : List Nat) (hs : is.filterMap (fun i => X[i]?) = cx) : va_P D cl (cx ++ pl) H :=
  va_P.app (my_subU h is hs) (fun k q hk => h (X.length + k) q (by rw [List.getElem?_append_right (Nat.le_add_right _ _), Nat.add_sub_cancel_left]; exact hk))
end
section
/-! THE REFERENCE's state: what holds between calls -/
theorem les_main {n : Nat} (hn : n ≤ 64) : ∀ (r : Nat) (F : Nat → Nat), 27 ≤ r → r ≤ 32 → bd F n (lb r) → ns (lesN n r F) n ≤ 8192 := by
  intro r
  induction r with
  | zero => intro F h1; omega
  | succ r ih =>
    intro F h1 h2 hb
    by_cases h : ns F n ≤ 8192
    · rw [lesN_e h]; exact h
    · rw [lesN_s (show 0 < r + 1 from Nat.succ_pos r) h, Nat.add_sub_cancel]
      by_cases hr : 27 < r + 1
      · exact ih (hv F) (by omega) (by omega) (fun k hk => by have := lb_st (r := r + 1) (x := F k) hr h2 (hb k hk); rwa [Nat.add_sub_cancel] at this)
      · exfalso
        have e : r + 1 = 27 := by omega
        rw [e] at hb
        exact h (ns_le64 hn hb)
theorem les_ok {n : Nat} {F : Nat → Nat} (hn : n ≤ 64) (h : bd F n 4095) : ns (les n F) n ≤ 8192 := les_main hn 32 F (by decide) (by decide) h
theorem hv_ns {F : Nat → Nat} : ∀ n : Nat, 2 * ns (hv F) n ≤ ns F n + n
  | 0 => Nat.le_refl _
  | n + 1 => by
    have := hv_ns (F := F) n
    show 2 * (ns (hv F) n + (F n + 1) / 2) ≤ ns F n + F n + (n + 1)
    omega
theorem lrn_ok {n t : Nat} {F : Nat → Nat} (hn : n ≤ 64) (ht : t < n) (h : ns F n ≤ 8192) : ns (lrn n t F) n ≤ 8192 := by
  unfold lrn
  split
  · assumption
  · have h1 := hv_ns (F := upN F t (F t + 32)) n
    have h2 := ns_up (F := F) (v := F t + 32) ht
    omega
theorem dec_sum {n : Nat} (hn : 0 < n) : ∀ (k : Nat) (G : Nat → Nat), k ≤ ns G n → ns (dec n k G) n = ns G n - k
  | 0, G, _ => rfl
  | k + 1, G, h => by
    show ns (dec n k (upN G (gr G n) (G (gr G n) - 1))) n = _
    have h1 := dec_ns (G := G) hn (by omega)
    rw [dec_sum hn k _ (by omega), h1]
    omega
theorem sc_ok {n M : Nat} {F : Nat → Nat} (hn : 0 < n) : ns (sc n M F) n = 0 ∨ ns (sc n M F) n = M := by
  unfold sc
  split
  · left; assumption
  · right
    unfold scE
    generalize hG : dec n (ns (scG n M F) n - M) (scG n M F) = G
    have h1 : ns G n ≤ M := by
      rw [← hG, dec_sum hn _ _ (Nat.sub_le _ _)]
      omega
    have h2 := ns_up (F := G) (v := G (gr G n) + (M - ns G n)) (gr_lt G hn)
    omega
/-- the F of model mm, as the form wants them -/
def tabI (fm n : Nat) (f : Nat → Int32) (mm : Nat) (F : Nat → Nat) : Prop :=
  (fm < 2 ∧ sgI f (64 * mm) n F ∧ ns F n ≤ 8192) ∨ (fm = 2 ∧ sgI f (64 * mm) 64 F ∧ ∀ k, k < 64 → 1 ≤ F k ∧ F k ≤ 2047) ∨ (fm = 3 ∧ sgI f (64 * mm) n F ∧ (ns F n = 0 ∨ ns F n = 4096)) ∨ (fm = 4 ∧ sgI f (64 * mm) n F ∧ (ns F n = 0 ∨ ns F n = 512))
def TB (fm km : Nat) (N : Nat → Nat) (f : Nat → Int32) : Prop := ∀ mm, mm < km → ∃ F, tabI fm (N mm) f mm F
/-- the models -/
def MD (km : Nat) (N : Nat → Nat) (vMany vCounts : Nat → Int32) : Prop := km ≤ 8 ∧ ∀ mm, mm < km → vMany mm = nI (N mm) ∧ 2 ≤ N mm ∧ N mm ≤ 64 ∧ ∃ C, sgI vCounts (64 * mm) (N mm) C ∧ bd C (N mm) 4095
theorem tab_pf {fm n mm : Nat} {f : Nat → Int32} {C : Nat → Nat} (hfm : fm ≤ 4) (hn2 : n ≤ 64) (hn1 : 0 < n) (hB : bd C n 4095) (h : sgI f (64 * mm) (pfN fm n) (pf fm n C)) : tabI fm n f mm (pf fm n C) := by
  unfold tabI
  rcases (show fm = 0 ∨ fm = 1 ∨ fm = 2 ∨ fm = 3 ∨ fm = 4 by omega) with e | e | e | e | e <;> subst e
  · exact Or.inl ⟨by decide, h, les_ok hn2 hB⟩
  · exact Or.inl ⟨by decide, h, les_ok hn2 hB⟩
  · exact Or.inr (Or.inl ⟨rfl, h, fun k _ => by show 1 ≤ 1024 ∧ 1024 ≤ 2047; decide⟩)
  · exact Or.inr (Or.inr (Or.inl ⟨rfl, h, sc_ok hn1⟩))
  · exact Or.inr (Or.inr (Or.inr ⟨rfl, h, sc_ok hn1⟩))
theorem sg_keep {f2 f : Nat → Int32} {a b n : Nat} {F : Nat → Nat} (ho : sgO f2 f (64 * a) 64) (hab : a ≠ b) (hn : n ≤ 64) (h : sgI f (64 * b) n F) : sgI f2 (64 * b) n F := by
  intro k hk
  rw [ho (64 * b + k) (by omega)]
  exact h k hk
theorem tab_keep {fm n : Nat} {f2 f : Nat → Int32} {a b : Nat} {F : Nat → Nat} (ho : sgO f2 f (64 * a) 64) (hab : a ≠ b) (hn : n ≤ 64) (h : tabI fm n f b F) : tabI fm n f2 b F := by
  unfold tabI at h ⊢
  rcases h with ⟨h1, h2, h3⟩ | ⟨h1, h2, h3⟩ | ⟨h1, h2, h3⟩ | ⟨h1, h2, h3⟩
  · exact Or.inl ⟨h1, sg_keep ho hab hn h2, h3⟩
  · exact Or.inr (Or.inl ⟨h1, sg_keep ho hab (Nat.le_refl _) h2, h3⟩)
  · exact Or.inr (Or.inr (Or.inl ⟨h1, sg_keep ho hab hn h2, h3⟩))
  · exact Or.inr (Or.inr (Or.inr ⟨h1, sg_keep ho hab hn h2, h3⟩))
/-- one model's table is made anew -/
theorem TB_set {fm km mm : Nat} {N : Nat → Nat} {f2 f : Nat → Int32} (h : TB fm km N f) (hN : ∀ i, i < km → N i ≤ 64) (ho : sgO f2 f (64 * mm) 64) {F : Nat → Nat} (hF : tabI fm (N mm) f2 mm F) : TB fm km N f2 := by
  intro i hi
  by_cases e : mm = i
  · subst e; exact ⟨F, hF⟩
  · obtain ⟨G, hG⟩ := h i hi
    exact ⟨G, tab_keep ho e (hN i hi) hG⟩
theorem TB_0 (fm : Nat) (N : Nat → Nat) (f : Nat → Int32) : TB fm 0 N f := fun i hi => absurd hi (Nat.not_lt_zero i)
theorem MD_N {km : Nat} {N : Nat → Nat} {vMany vCounts : Nat → Int32} (h : MD km N vMany vCounts) : ∀ i, i < km → N i ≤ 64 := fun i hi => (h.2 i hi).2.2.1
/-- bytes -/
theorem oct_iff {bs : List Nat} : oct bs ↔ ∀ x ∈ bs, x < 256 := by
  constructor
  · intro h x hx
    obtain ⟨i, hi, e⟩ := List.mem_iff_getElem.mp hx
    have this : bs.getD i 0 < 256 := h i
    rw [List.getD_eq_getElem?_getD, List.getElem?_eq_getElem hi, e] at this
    exact this
  · intro h i
    show bs.getD i 0 < 256
    rw [List.getD_eq_getElem?_getD]
    rcases Nat.lt_or_ge i bs.length with q | q
    · rw [List.getElem?_eq_getElem q]
      exact h _ (List.getElem_mem q)
    · rw [List.getElem?_eq_none q]; decide
theorem oct_app {a b : List Nat} (ha : oct a) (hb : oct b) : oct (a ++ b) := by
  rw [oct_iff] at ha hb ⊢
  intro x hx
  rcases List.mem_append.mp hx with h | h
  · exact ha x h
  · exact hb x h
theorem oct_caB (c : Option Nat) (k : Nat) : oct (caB c k) := by
  rw [oct_iff]
  cases c with
  | none => intro x hx; exact absurd hx List.not_mem_nil
  | some v =>
    intro x hx
    have : x = (v + k) % 256 := by simpa [caB] using hx
    rw [this]; exact Nat.mod_lt _ (by decide)
theorem oct_shB {L : Nat} {ca : Option Nat} {P : Nat} {bs : List Nat} (h : oct bs) : oct (shB L ca P bs) := by
  unfold shB
  split
  · refine oct_app (oct_app h (oct_caB _ _)) ?_
    rw [oct_iff]
    intro x hx
    rw [(List.mem_replicate.mp hx).2]
    exact Nat.mod_lt _ (by decide)
  · exact h
theorem oct_wdN : ∀ (k : Nat) (e : ES), oct (eB e) → oct (eB (wdN k e))
  | 0, e, h => h
  | k + 1, e, h => by
    by_cases hr : eR e < 16777216
    · rw [wdN_s (show 0 < k + 1 from Nat.succ_pos k) hr, Nat.add_sub_cancel]
      exact oct_wdN k _ (oct_shB h)
    · rw [wdN_e hr]; exact h
theorem oct_wd {e : ES} (h : oct (eB e)) : oct (eB (wdS e)) := oct_wdN 8 e h
theorem oct_bt {p bt Rg L : Nat} {ca : Option Nat} {Pn : Nat} {bs : List Nat} (h : oct bs) : oct (eB (wdS (btS p bt Rg L ca Pn bs))) := by
  refine oct_wd ?_
  unfold btS
  split <;> exact h
theorem oct_plN : ∀ (k : Nat) (e : PS), oct e.2.2 → oct (plN k e).2.2
  | 0, e, h => h
  | k + 1, e, h => by
    by_cases hr : mvP e.2.1 e.1
    · rw [plN_s (show 0 < k + 1 from Nat.succ_pos k) hr, Nat.add_sub_cancel]
      refine oct_plN k _ (oct_app h ?_)
      rw [oct_iff]
      intro x hx
      rw [List.mem_singleton.mp hx]
      exact Nat.mod_lt _ (by decide)
    · rw [plN_e hr]; exact h
theorem oct_pl {e : PS} (h : oct e.2.2) : oct (plS e).2.2 := oct_plN 8 e h
theorem md_of {km : Nat} {p1 : Int32} (hk : km ≤ 8) (h : 0 ≤ p1 ∧ p1 ≤ nI km - 1) : ∃ jj, jj < km ∧ p1 = nI jj := (isN_iff (by omega)).mp h
theorem in_of2 {a b : Nat} {p : Int32} (ha : a < 2 ^ 31) (hb : b < 2 ^ 31) (h : nI a ≤ p ∧ p ≤ nI b) : ∃ n, a ≤ n ∧ n ≤ b ∧ p = nI n := by
  obtain ⟨h1, h2⟩ := h
  rw [Int32.le_iff_toInt_le, nI_toInt ha] at h1
  rw [Int32.le_iff_toInt_le, nI_toInt hb] at h2
  refine ⟨p.toInt.toNat, by omega, by omega, ?_⟩
  apply Int32.toInt_inj.mp
  rw [nI_toInt (by omega)]
  omega
theorem MD_set {km jj tt c : Nat} {N : Nat → Nat} {vMany vC : Nat → Int32} {i : Nat} {x : Int32} (h : MD km N vMany vC) (hj : jj < km) (ht : tt < N jj) (hc : c ≤ 4095) (hi : i = 64 * jj + tt) (hx : x = nI c) : MD km N vMany (upd vC i x) := by
  refine ⟨h.1, fun mm hm => ?_⟩
  obtain ⟨h1, h2, h3, C, h4, h5⟩ := h.2 mm hm
  refine ⟨h1, h2, h3, ?_⟩
  by_cases e : mm = jj
  · subst e
    obtain ⟨a, -⟩ := sg_up (v := c) h4 ht hi hx
    refine ⟨_, a, fun k hk => ?_⟩
    by_cases e2 : k = tt
    · subst e2; rw [upN_s]; exact hc
    · rw [upN_n _ e2]; exact h5 k hk
  · refine ⟨C, fun k hk => ?_, h5⟩
    rw [pk_un (by have := (h.2 jj hj).2.2.1; omega)]
    exact h4 k hk
theorem MD_new {km ns : Nat} {N : Nat → Nat} {vMany vC vC2 : Nat → Int32} {C : Nat → Nat} (h : MD km N vMany vC) (hk : km < 8) (h2 : 2 ≤ ns) (h64 : ns ≤ 64) (ho : sgO vC2 vC (64 * km) 64) (hC : sgI vC2 (64 * km) ns C) (hB : bd C ns 4095) : MD (km + 1) (upN N km ns) (upd vMany km (nI ns)) vC2 := by
  refine ⟨hk, fun mm hm => ?_⟩
  by_cases e : mm = km
  · subst e
    rw [pk_us, upN_s]
    exact ⟨rfl, h2, h64, C, hC, hB⟩
  · rw [pk_un e, upN_n _ e]
    obtain ⟨a1, a2, a3, D, a4, a5⟩ := h.2 mm (by omega)
    exact ⟨a1, a2, a3, D, sg_keep ho (Ne.symm e) a3 a4, a5⟩
theorem TB_new {fm km ns : Nat} {N : Nat → Nat} {f2 f : Nat → Int32} (h : TB fm km N f) (hN : ∀ i, i < km → N i ≤ 64) (ho : sgO f2 f (64 * km) 64) {F : Nat → Nat} (hF : tabI fm ns f2 km F) : TB fm (km + 1) (upN N km ns) f2 := by
  intro i hi
  by_cases e : i = km
  · subst e; rw [upN_s]; exact ⟨F, hF⟩
  · rw [upN_n _ e]
    obtain ⟨G, hG⟩ := h i (by omega)
    exact ⟨G, tab_keep ho (Ne.symm e) (hN i (by omega)) hG⟩
theorem TB_step {fm km j : Nat} {N : Nat → Nat} {f2 f : Nat → Int32} (h : TB fm j N f) (hN : ∀ i, i < km → N i ≤ 64) (hj : j < km) (ho : sgO f2 f (64 * j) 64) {F : Nat → Nat} (hF : tabI fm (N j) f2 j F) : TB fm (j + 1) N f2 := by
  intro i hi
  by_cases e : i = j
  · subst e; exact ⟨F, hF⟩
  · obtain ⟨G, hG⟩ := h i (by omega)
    exact ⟨G, tab_keep ho (Ne.symm e) (hN i (by omega)) hG⟩
def IN (fIns : Int32) (vIn : Nat → Int32) : Prop := ∃ is : List Nat, fIns = nI is.length ∧ gIs vIn is ∧ is.length ≤ 6000 ∧ oct is
theorem gIs_take {f : Nat → Int32} {os : List Nat} {n : Nat} {fI : Nat → Int32} (h : gIs f os) (hn : n ≤ os.length) (hc : ∀ i, i < n → fI i = f i) : gIs fI (os.take n) := by
  intro i hi
  rw [List.length_take] at hi
  rw [hc i (by omega), h i (by omega)]
  congr 1
  rw [List.getD_eq_getElem?_getD, List.getD_eq_getElem?_getD, List.getElem?_take_of_lt (by omega)]
theorem oct_take {os : List Nat} (n : Nat) (h : oct os) : oct (os.take n) := by
  rw [oct_iff] at h ⊢
  exact fun x hx => h x (List.mem_of_mem_take hx)
theorem oct_one {x : Nat} (h : x < 256) : oct [x] := by
  rw [oct_iff]
  intro y hy
  rw [List.mem_singleton.mp hy]
  exact h
end
section
theorem lev_63 (n : Nat) : 2 ^ lev n ≤ 64 := by
  have h : lev n ≤ 6 := by unfold lev; repeat' split
                           all_goals decide
  exact Nat.le_trans (Nat.pow_le_pow_right (by decide) h) (by decide)
theorem lev_30 (n : Nat) : lev n < 31 := by
  unfold lev
  repeat' split
  all_goals decide
theorem nI_pred9 {n : Nat} (h : 0 < n) : nI n - 1 = nI (n - 1) := by
  have e : n = (n - 1) + 1 := by omega
  rw [e, nI_pred, Nat.add_sub_cancel]
end
section
set_option maxHeartbeats 2000000 in
set_option maxRecDepth 100000 in
theorem c_M_start (l : Launch) (dC : Nat → ClassId) (dI : Nat → Nat → Nat) (cI cM cO : ClassId) (sz : Nat) (o : Nat) (g : Nat → Nat) (fForm : Int32) (fShift : Int32) (fModels : Int32) (fItems : Int32) (fEnded : Int32) (fLow : Int64) (fRange : Int64) (fCache : Int32) (fPend : Int32) (fGoes : Int32) (fOuts : Int32) (fIns : Int32) (fReads : Int32) (fBad : Int32) (fIR : Int32) (fAsk : Int32) (fBAsk : Int32) (fCode : Int64) (fRL : Int64) (fRR : Int64) (fX : Int64) (fWrites : Int32) (fThrown : Int32) (vMany : Nat → Int32) (vCounts : Nat → Int32) (vNow : Nat → Int32) (fm : Nat) (km : Nat) (N : Nat → Nat) (hfm : fm ≤ 4) (hform : fForm = nI fm) (hmod : fModels = nI km) (hMD : MD km N vMany vCounts) : MetV l y_M_start (Cond.code y_M_start prog_14_method_15_code 2 none :: gw) ({ frames := 3, cells := 0, slots := 0, locals := 75 } : Room) (dC, dI) vwCl (kT cI cM cO) [Value.ref o] [(o, Sum.inr (9, mO g fForm fShift fModels fItems fEnded fLow fRange fCache fPend fGoes fOuts fIns fReads fBad fIR fAsk fBAsk fCode fRL fRR fX fWrites fThrown)), ((g 0), Sum.inl (cI, 8, Sum.inl vMany)), ((g 1), Sum.inl (cI, 512, Sum.inl vCounts)), ((g 2), Sum.inl (cI, 512, Sum.inl vNow))] sz (fun (u : Int32 × Int32 × Int64 × Int64 × Int32 × Int32 × Int32 × (Nat → Int32)) => TB fm km N u.2.2.2.2.2.2.2 ∧ u.1 = 0 ∧ u.2.1 = 0 ∧ u.2.2.1 = 0 ∧ u.2.2.2.1 = 4294967295 ∧ u.2.2.2.2.1 = -1 ∧ u.2.2.2.2.2.1 = 0 ∧ u.2.2.2.2.2.2.1 = 0) (fun (u : Int32 × Int32 × Int64 × Int64 × Int32 × Int32 × Int32 × (Nat → Int32)) => [(o, Sum.inr (9, mO g fForm fShift fModels u.1 u.2.1 u.2.2.1 u.2.2.2.1 u.2.2.2.2.1 u.2.2.2.2.2.1 u.2.2.2.2.2.2.1 fOuts fIns fReads fBad fIR fAsk fBAsk fCode fRL fRR fX fWrites fThrown)), ((g 0), Sum.inl (cI, 8, Sum.inl vMany)), ((g 1), Sum.inl (cI, 512, Sum.inl vCounts)), ((g 2), Sum.inl (cI, 512, Sum.inl u.2.2.2.2.2.2.2))]) 0 0 := by
  refine my_ofV (cc := prog_14_method_15_code) (n := 2) (ret := none) (by decide) rfl (Nat.le_of_ble_eq_true rfl) ?_
  intro p e s m args below meth c R Q A ls H locs hx hb hr hts hown hlocks hml hnm hR hQ hA hl hP hK hN hD hS
  have hg : ∀ w ∈ gw, w.before args s = true := fun w h => hts w (List.mem_cons_of_mem _ h)
  have hown : s.vm.findClass "RangeCodersModel" = some m.cls := hown
  have hl : lv_has ls 2 [(0, Value.ref o)] := hl
  refine lv_aload_n hx hb d_M_start_0 rfl (lv_at hl 0 rfl) ?_
  refine lv_iconst (v := 0) hx hb d_M_start_1 (by decide) ?_
  refine va_put (D := (dC, dI)) (ci := 9) (v := .int 0) (ty := .int) (C := "RangeCodersModel") (T := T_M) (N := 35) hx hb hg in_M t_M o_M n_M hown hK hP hD hS 0 rfl rfl 7 (by decide) (hg _ k959) (fun _ h9 => h9) rfl (o_M 7 (by decide)) rfl rfl (Nat.le_of_ble_eq_true rfl) d_M_start_2 (fun H locs hP hD hS => ?_)
  have hPD : my_PD (dC, dI) vwCl A [(o, Sum.inr (9, mO g fForm fShift fModels 0 fEnded fLow fRange fCache fPend fGoes fOuts fIns fReads fBad fIR fAsk fBAsk fCode fRL fRR fX fWrites fThrown)), ((g 0), Sum.inl (cI, 8, Sum.inl vMany)), ((g 1), Sum.inl (cI, 512, Sum.inl vCounts)), ((g 2), Sum.inl (cI, 512, Sum.inl vNow))] H := ⟨hP, hD⟩
  have hP := hPD.1
  have hD := hPD.2
  refine lv_aload_n hx hb d_M_start_5 rfl (lv_at hl 0 rfl) ?_
  refine lv_iconst (v := 0) hx hb d_M_start_6 (by decide) ?_
  refine va_put (D := (dC, dI)) (ci := 9) (v := .int 0) (ty := .boolean) (C := "RangeCodersModel") (T := T_M) (N := 35) hx hb hg in_M t_M o_M n_M hown hK hP hD hS 0 rfl rfl 10 (by decide) (hg _ k962) (fun _ h9 => h9) rfl (o_M 10 (by decide)) rfl rfl (Nat.le_of_ble_eq_true rfl) d_M_start_7 (fun H locs hP hD hS => ?_)
  have hPD : my_PD (dC, dI) vwCl A [(o, Sum.inr (9, mO g fForm fShift fModels 0 0 fLow fRange fCache fPend fGoes fOuts fIns fReads fBad fIR fAsk fBAsk fCode fRL fRR fX fWrites fThrown)), ((g 0), Sum.inl (cI, 8, Sum.inl vMany)), ((g 1), Sum.inl (cI, 512, Sum.inl vCounts)), ((g 2), Sum.inl (cI, 512, Sum.inl vNow))] H := ⟨hP, hD⟩
  have hP := hPD.1
  have hD := hPD.2
  refine lv_aload_n hx hb d_M_start_10 rfl (lv_at hl 0 rfl) ?_
  refine lv_lconst (v := 0) hx hb d_M_start_11 (by decide) ?_
  refine va_put (D := (dC, dI)) (ci := 9) (v := .long 0) (ty := .long) (C := "RangeCodersModel") (T := T_M) (N := 35) hx hb hg in_M t_M o_M n_M hown hK hP hD hS 0 rfl rfl 11 (by decide) (hg _ k963) (fun _ h9 => h9) rfl (o_M 11 (by decide)) rfl rfl (Nat.le_of_ble_eq_true rfl) d_M_start_12 (fun H locs hP hD hS => ?_)
  have hPD : my_PD (dC, dI) vwCl A [(o, Sum.inr (9, mO g fForm fShift fModels 0 0 0 fRange fCache fPend fGoes fOuts fIns fReads fBad fIR fAsk fBAsk fCode fRL fRR fX fWrites fThrown)), ((g 0), Sum.inl (cI, 8, Sum.inl vMany)), ((g 1), Sum.inl (cI, 512, Sum.inl vCounts)), ((g 2), Sum.inl (cI, 512, Sum.inl vNow))] H := ⟨hP, hD⟩
  have hP := hPD.1
  have hD := hPD.2
  refine lv_aload_n hx hb d_M_start_15 rfl (lv_at hl 0 rfl) ?_
  refine lv_ldc2 (v := 4294967295) hx hb hown (hg _ k927) d_M_start_16 ?_
  refine va_put (D := (dC, dI)) (ci := 9) (v := .long 4294967295) (ty := .long) (C := "RangeCodersModel") (T := T_M) (N := 35) hx hb hg in_M t_M o_M n_M hown hK hP hD hS 0 rfl rfl 12 (by decide) (hg _ k964) (fun _ h9 => h9) rfl (o_M 12 (by decide)) rfl rfl (Nat.le_of_ble_eq_true rfl) d_M_start_19 (fun H locs hP hD hS => ?_)
  have hPD : my_PD (dC, dI) vwCl A [(o, Sum.inr (9, mO g fForm fShift fModels 0 0 0 4294967295 fCache fPend fGoes fOuts fIns fReads fBad fIR fAsk fBAsk fCode fRL fRR fX fWrites fThrown)), ((g 0), Sum.inl (cI, 8, Sum.inl vMany)), ((g 1), Sum.inl (cI, 512, Sum.inl vCounts)), ((g 2), Sum.inl (cI, 512, Sum.inl vNow))] H := ⟨hP, hD⟩
  have hP := hPD.1
  have hD := hPD.2
  refine lv_aload_n hx hb d_M_start_22 rfl (lv_at hl 0 rfl) ?_
  refine lv_iconst (v := (-1)) hx hb d_M_start_23 (by decide) ?_
  refine va_put (D := (dC, dI)) (ci := 9) (v := .int (-1)) (ty := .int) (C := "RangeCodersModel") (T := T_M) (N := 35) hx hb hg in_M t_M o_M n_M hown hK hP hD hS 0 rfl rfl 13 (by decide) (hg _ k965) (fun _ h9 => h9) rfl (o_M 13 (by decide)) rfl rfl (Nat.le_of_ble_eq_true rfl) d_M_start_24 (fun H locs hP hD hS => ?_)
  have hPD : my_PD (dC, dI) vwCl A [(o, Sum.inr (9, mO g fForm fShift fModels 0 0 0 4294967295 (-1) fPend fGoes fOuts fIns fReads fBad fIR fAsk fBAsk fCode fRL fRR fX fWrites fThrown)), ((g 0), Sum.inl (cI, 8, Sum.inl vMany)), ((g 1), Sum.inl (cI, 512, Sum.inl vCounts)), ((g 2), Sum.inl (cI, 512, Sum.inl vNow))] H := ⟨hP, hD⟩
  have hP := hPD.1
  have hD := hPD.2
  refine lv_aload_n hx hb d_M_start_27 rfl (lv_at hl 0 rfl) ?_
  refine lv_iconst (v := 0) hx hb d_M_start_28 (by decide) ?_
  refine va_put (D := (dC, dI)) (ci := 9) (v := .int 0) (ty := .int) (C := "RangeCodersModel") (T := T_M) (N := 35) hx hb hg in_M t_M o_M n_M hown hK hP hD hS 0 rfl rfl 14 (by decide) (hg _ k966) (fun _ h9 => h9) rfl (o_M 14 (by decide)) rfl rfl (Nat.le_of_ble_eq_true rfl) d_M_start_29 (fun H locs hP hD hS => ?_)
  have hPD : my_PD (dC, dI) vwCl A [(o, Sum.inr (9, mO g fForm fShift fModels 0 0 0 4294967295 (-1) 0 fGoes fOuts fIns fReads fBad fIR fAsk fBAsk fCode fRL fRR fX fWrites fThrown)), ((g 0), Sum.inl (cI, 8, Sum.inl vMany)), ((g 1), Sum.inl (cI, 512, Sum.inl vCounts)), ((g 2), Sum.inl (cI, 512, Sum.inl vNow))] H := ⟨hP, hD⟩
  have hP := hPD.1
  have hD := hPD.2
  refine lv_aload_n hx hb d_M_start_32 rfl (lv_at hl 0 rfl) ?_
  refine lv_iconst (v := 0) hx hb d_M_start_33 (by decide) ?_
  refine va_put (D := (dC, dI)) (ci := 9) (v := .int 0) (ty := .int) (C := "RangeCodersModel") (T := T_M) (N := 35) hx hb hg in_M t_M o_M n_M hown hK hP hD hS 0 rfl rfl 16 (by decide) (hg _ k968) (fun _ h9 => h9) rfl (o_M 16 (by decide)) rfl rfl (Nat.le_of_ble_eq_true rfl) d_M_start_34 (fun H locs hP hD hS => ?_)
  have hPD : my_PD (dC, dI) vwCl A [(o, Sum.inr (9, mO g fForm fShift fModels 0 0 0 4294967295 (-1) 0 0 fOuts fIns fReads fBad fIR fAsk fBAsk fCode fRL fRR fX fWrites fThrown)), ((g 0), Sum.inl (cI, 8, Sum.inl vMany)), ((g 1), Sum.inl (cI, 512, Sum.inl vCounts)), ((g 2), Sum.inl (cI, 512, Sum.inl vNow))] H := ⟨hP, hD⟩
  have hP := hPD.1
  have hD := hPD.2
  refine lv_iconst (v := 0) hx hb d_M_start_37 (by decide) ?_
  refine lv_istore_n (lv' := [(1, Value.int 0), (0, Value.ref o)]) hx hb d_M_start_38 rfl hl (by decide) rfl (fun ls hl => ?_)
  have J_39 : ∀ (n9_39 : Nat) (jj : Nat) (fN : Nat → Int32) (hn9_39 : km - jj = n9_39) (hjj : jj ≤ km) (hT9 : TB fm jj N fN) (H : Heap) (locs : List Loc) (ls : Array Slot), va_P (dC, dI) vwCl [(o, Sum.inr (9, mO g fForm fShift fModels 0 0 0 4294967295 (-1) 0 0 fOuts fIns fReads fBad fIR fAsk fBAsk fCode fRL fRR fX fWrites fThrown)), ((g 0), Sum.inl (cI, 8, Sum.inl vMany)), ((g 1), Sum.inl (cI, 512, Sum.inl vCounts)), ((g 2), Sum.inl (cI, 512, Sum.inl fN))] H → va_D A [(o, Sum.inr (9, mO g fForm fShift fModels 0 0 0 4294967295 (-1) 0 0 fOuts fIns fReads fBad fIR fAsk fBAsk fCode fRL fRR fX fWrites fThrown)), ((g 0), Sum.inl (cI, 8, Sum.inl vMany)), ((g 1), Sum.inl (cI, 512, Sum.inl vCounts)), ((g 2), Sum.inl (cI, 512, Sum.inl fN))] → va_S A s.heap H locs → lv_has ls 2 [(1, Value.int (nI jj)), (0, Value.ref o)] → W p l e R s m args below meth c H locs 0 0 Q (F0 m 39 ls []) := by
    intro n9_39
    induction n9_39 using Nat.strongRecOn with
    | ind n9_39 ih9_39 =>
      intro jj fN hn9_39 hjj hT9 H locs ls hP hD hS hl
      refine lv_iload_n hx hb d_M_start_39 rfl (lv_at hl 0 rfl) ?_
      refine lv_aload_n hx hb d_M_start_40 rfl (lv_at hl 1 rfl) ?_
      refine va_get (D := (dC, dI)) (ci := 9) (v := .int fModels) (C := "RangeCodersModel") (T := T_M) (N := 35) hx hb hg in_M hown hK hP 0 rfl rfl 2 (by decide) (hg _ k954) (fun _ h9 => h9) rfl d_M_start_41 ?_
      refine lv_icmp_ge (tgt := 62) hx hb d_M_start_44 (by decide) (fun c_1 => ?_) (fun c_1 => ?_)
      · have hjk : jj = km := by
          have hk8 := hMD.1
          rw [hmod] at c_1
          have := (nI_cmp (by omega) (by omega)).mp c_1
          omega
        subst hjk
        exact my_vret hx hb hr hlocks hQ hK hS (Nat.le_refl _) (Nat.le_refl _) ((0 : Int32), (0 : Int32), (0 : Int64), (4294967295 : Int64), (-1 : Int32), (0 : Int32), (0 : Int32), fN) (⟨hT9, rfl, rfl, rfl, rfl, rfl, rfl, rfl⟩) (hP.sub [0, 1, 2, 3] rfl) (hD.sub [0, 1, 2, 3] (by decide +kernel) rfl) d_M_start_62
      · have hjl : jj < km := by
          rcases Nat.lt_or_ge jj km with z | z
          · exact z
          · exact absurd (by rw [hmod]; exact nI_le z (by have := hMD.1; omega)) c_1
        have hk8 := hMD.1
        obtain ⟨hn9, hn2, hn64, C9, hc9, hB9⟩ := hMD.2 jj hjl
        refine lv_aload_n hx hb d_M_start_47 rfl (lv_at hl 1 rfl) ?_
        refine lv_aload_n hx hb d_M_start_48 rfl (lv_at hl 1 rfl) ?_
        refine va_get (D := (dC, dI)) (ci := 9) (v := .ref (g 2)) (C := "RangeCodersModel") (T := T_M) (N := 35) hx hb hg in_M hown hK hP 0 rfl rfl 5 (by decide) (hg _ k957) (fun _ h9 => h9) rfl d_M_start_49 ?_
        refine lv_iload_n hx hb d_M_start_52 rfl (lv_at hl 0 rfl) ?_
        refine my_cv (wr := []) (va_runV (As := [Value.ref (g 2), Value.int (nI jj)]) (rest := []) ⟨hx, hb, hml, hown, hts⟩ (c_M_prepare l dC dI cI cM cO H.size o g fForm fShift fModels 0 0 0 4294967295 (-1) 0 0 fOuts fIns fReads fBad fIR fAsk fBAsk fCode fRL fRR fX fWrites fThrown vMany vCounts (g 2) fN jj (N jj) fm C9 (by omega) (hn9) (hn64) (by omega) (hfm) (hform) (hc9) (hB9)) (cwV 2 hts (my_gV k928 k930 ks19 k12 k931) rfl rfl rfl cu_M_prepare_2 ⟨by rw [hR]; exact Nat.le_of_ble_eq_true rfl, by rw [hR]; exact Nat.le_of_ble_eq_true rfl⟩) (my_preV hK hN (hP.sub [0, 1, 2, 3] rfl) (hD.sub [0, 1, 2, 3] (by decide +kernel) rfl) 0 rfl rfl) rfl rfl hl.1 rfl (lv_room (Nat.le_of_ble_eq_true rfl)) d_M_start_53 ⟨by rw [hR]; exact Nat.le_of_ble_eq_true rfl, by rw [hR]; exact Nat.le_of_ble_eq_true rfl⟩) hP hD hS hA [0, 1, 2, 3] [] rfl rfl (by decide +kernel) (by decide +kernel) (fun u9 H locs hw_53 hP hD hS => ?_)
        obtain ⟨f2_53, rfl⟩ : ∃ z, z = u9 := ⟨_, rfl⟩
        have hw_53 : sgI f2_53 (64 * jj) (pfN fm (N jj)) (pf fm (N jj) C9) ∧ sgO f2_53 fN (64 * jj) 64 := hw_53
        have hPD : my_PD (dC, dI) vwCl A [(o, Sum.inr (9, mO g fForm fShift fModels 0 0 0 4294967295 (-1) 0 0 fOuts fIns fReads fBad fIR fAsk fBAsk fCode fRL fRR fX fWrites fThrown)), ((g 0), Sum.inl (cI, 8, Sum.inl vMany)), ((g 1), Sum.inl (cI, 512, Sum.inl vCounts)), ((g 2), Sum.inl (cI, 512, Sum.inl f2_53))] H := ⟨hP, hD⟩
        have hP := hPD.1
        have hD := hPD.2
        have hT8 := TB_step hT9 (MD_N hMD) hjl hw_53.2 (tab_pf hfm hn64 (by omega) hB9 hw_53.1)
        obtain ⟨v_2, ev_2⟩ : ∃ y : Int32, y = (nI jj) + (1) := ⟨_, rfl⟩
        refine lv_iinc (v := v_2) (lv' := [(1, Value.int v_2), (0, Value.ref o)]) hx hb d_M_start_56 hl (k := 0) rfl (by rw [ev_2]; rfl) (by decide) rfl (fun ls hl => ?_)
        have z9 : v_2 = nI (jj + 1) := by rw [ev_2]; exact nI_1 _
        subst z9
        refine lv_goto (tgt := 39) hx hb d_M_start_59 (by decide) ?_
        exact ih9_39 _ (by first | omega | (omega)) (jj + 1) f2_53 rfl (by omega) (hT8) H locs ls (hP.sub [0, 1, 2, 3] rfl) (hD.sub [0, 1, 2, 3] (by decide +kernel) rfl) hS (lv_sub hl [0, 1] rfl)
  exact J_39 _ (0 : Nat) vNow rfl (Nat.zero_le _) (TB_0 _ _ _) H locs ls (hP.sub [0, 1, 2, 3] rfl) (hD.sub [0, 1, 2, 3] (by decide +kernel) rfl) hS (lv_sub hl [0, 1] rfl)
set_option maxHeartbeats 2000000 in
set_option maxRecDepth 100000 in
theorem c_M_told (l : Launch) (dC : Nat → ClassId) (dI : Nat → Nat → Nat) (cI cM cO : ClassId) (sz : Nat) (o : Nat) (g : Nat → Nat) (fForm : Int32) (fShift : Int32) (fModels : Int32) (fItems : Int32) (fEnded : Int32) (fLow : Int64) (fRange : Int64) (fCache : Int32) (fPend : Int32) (fGoes : Int32) (fOuts : Int32) (fIns : Int32) (fReads : Int32) (fBad : Int32) (fIR : Int32) (fAsk : Int32) (fBAsk : Int32) (fCode : Int64) (fRL : Int64) (fRR : Int64) (fX : Int64) (fWrites : Int32) (fThrown : Int32) (p1 : Int32) : MetI l y_M_told (Cond.code y_M_told prog_14_method_60_code 2 (some .int) :: gw) ({ frames := 0, cells := 0, slots := 0, locals := 0 } : Room) (dC, dI) vwCl (kT cI cM cO) [Value.ref o, Value.int p1] [(o, Sum.inr (9, mO g fForm fShift fModels fItems fEnded fLow fRange fCache fPend fGoes fOuts fIns fReads fBad fIR fAsk fBAsk fCode fRL fRR fX fWrites fThrown))] sz (fun (r : Int32) (u : Int32) => True) (fun (u : Int32) => [(o, Sum.inr (9, mO g fForm fShift fModels fItems fEnded fLow fRange fCache fPend fGoes fOuts fIns fReads fBad fIR fAsk fBAsk fCode fRL fRR fX fWrites u))]) 0 0 := by
  refine my_ofI (cc := prog_14_method_60_code) (n := 2) (ret := (some .int)) (by decide) rfl (Nat.le_of_ble_eq_true rfl) ?_
  intro p e s m args below meth c R Q A ls H locs hx hb hr hts hown hlocks hml hnm hR hQ hA hl hP hK hN hD hS
  have hg : ∀ w ∈ gw, w.before args s = true := fun w h => hts w (List.mem_cons_of_mem _ h)
  have hown : s.vm.findClass "RangeCodersModel" = some m.cls := hown
  have hl : lv_has ls 2 [(0, Value.ref o), (1, Value.int p1)] := hl
  refine lv_aload_n hx hb d_M_told_0 rfl (lv_at hl 0 rfl) ?_
  refine lv_iconst (v := 0) hx hb d_M_told_1 (by decide) ?_
  refine va_put (D := (dC, dI)) (ci := 9) (v := .int 0) (ty := .int) (C := "RangeCodersModel") (T := T_M) (N := 35) hx hb hg in_M t_M o_M n_M hown hK hP hD hS 0 rfl rfl 34 (by decide) (hg _ k986) (fun _ h9 => h9) rfl (o_M 34 (by decide)) rfl rfl (Nat.le_of_ble_eq_true rfl) d_M_told_2 (fun H locs hP hD hS => ?_)
  have hPD : my_PD (dC, dI) vwCl A [(o, Sum.inr (9, mO g fForm fShift fModels fItems fEnded fLow fRange fCache fPend fGoes fOuts fIns fReads fBad fIR fAsk fBAsk fCode fRL fRR fX fWrites 0))] H := ⟨hP, hD⟩
  have hP := hPD.1
  have hD := hPD.2
  refine lv_iload_n hx hb d_M_told_5 rfl (lv_at hl 1 rfl) ?_
  by_cases c_1 : p1 = 0
  · refine lv_tableIn (tgt := 52) hx hb d_M_told_6 (by rw [c_1]; decide) (by rw [c_1]; decide) (by rw [c_1]; rfl) (by decide) ?_
    refine lv_aload_n hx hb d_M_told_52 rfl (lv_at hl 0 rfl) ?_
    refine va_get (D := (dC, dI)) (ci := 9) (v := .int fItems) (C := "RangeCodersModel") (T := T_M) (N := 35) hx hb hg in_M hown hK hP 0 rfl rfl 7 (by decide) (hg _ k959) (fun _ h9 => h9) rfl d_M_told_53 ?_
    exact my_iret (v := fItems) hx hb hr (rfl) hlocks hQ hK hS (Nat.le_refl _) (Nat.le_refl _) ((0 : Int32)) (trivial) (hP.sub [0] rfl) (hD.sub [0] (by decide +kernel) rfl) d_M_told_56
  by_cases c_2 : p1 = 1
  · refine lv_tableIn (tgt := 57) hx hb d_M_told_6 (by rw [c_2]; decide) (by rw [c_2]; decide) (by rw [c_2]; rfl) (by decide) ?_
    refine lv_aload_n hx hb d_M_told_57 rfl (lv_at hl 0 rfl) ?_
    refine va_get (D := (dC, dI)) (ci := 9) (v := .int fEnded) (C := "RangeCodersModel") (T := T_M) (N := 35) hx hb hg in_M hown hK hP 0 rfl rfl 10 (by decide) (hg _ k962) (fun _ h9 => h9) rfl d_M_told_58 ?_
    refine lv_if_eq (tgt := 68) hx hb d_M_told_61 (by decide) (fun c_3 => ?_) (fun c_3 => ?_)
    · refine lv_iconst (v := 0) hx hb d_M_told_68 (by decide) ?_
      exact my_iret (v := 0) hx hb hr (rfl) hlocks hQ hK hS (Nat.le_refl _) (Nat.le_refl _) ((0 : Int32)) (trivial) (hP.sub [0] rfl) (hD.sub [0] (by decide +kernel) rfl) d_M_told_69
    · refine lv_iconst (v := 1) hx hb d_M_told_64 (by decide) ?_
      refine lv_goto (tgt := 69) hx hb d_M_told_65 (by decide) ?_
      exact my_iret (v := 1) hx hb hr (rfl) hlocks hQ hK hS (Nat.le_refl _) (Nat.le_refl _) ((0 : Int32)) (trivial) (hP.sub [0] rfl) (hD.sub [0] (by decide +kernel) rfl) d_M_told_69
  by_cases c_4 : p1 = 2
  · refine lv_tableIn (tgt := 70) hx hb d_M_told_6 (by rw [c_4]; decide) (by rw [c_4]; decide) (by rw [c_4]; rfl) (by decide) ?_
    refine lv_aload_n hx hb d_M_told_70 rfl (lv_at hl 0 rfl) ?_
    refine va_get (D := (dC, dI)) (ci := 9) (v := .int fOuts) (C := "RangeCodersModel") (T := T_M) (N := 35) hx hb hg in_M hown hK hP 0 rfl rfl 18 (by decide) (hg _ k970) (fun _ h9 => h9) rfl d_M_told_71 ?_
    exact my_iret (v := fOuts) hx hb hr (rfl) hlocks hQ hK hS (Nat.le_refl _) (Nat.le_refl _) ((0 : Int32)) (trivial) (hP.sub [0] rfl) (hD.sub [0] (by decide +kernel) rfl) d_M_told_74
  by_cases c_5 : p1 = 3
  · refine lv_tableIn (tgt := 75) hx hb d_M_told_6 (by rw [c_5]; decide) (by rw [c_5]; decide) (by rw [c_5]; rfl) (by decide) ?_
    refine lv_aload_n hx hb d_M_told_75 rfl (lv_at hl 0 rfl) ?_
    refine va_get (D := (dC, dI)) (ci := 9) (v := .int fIns) (C := "RangeCodersModel") (T := T_M) (N := 35) hx hb hg in_M hown hK hP 0 rfl rfl 20 (by decide) (hg _ k972) (fun _ h9 => h9) rfl d_M_told_76 ?_
    exact my_iret (v := fIns) hx hb hr (rfl) hlocks hQ hK hS (Nat.le_refl _) (Nat.le_refl _) ((0 : Int32)) (trivial) (hP.sub [0] rfl) (hD.sub [0] (by decide +kernel) rfl) d_M_told_79
  by_cases c_6 : p1 = 4
  · refine lv_tableIn (tgt := 80) hx hb d_M_told_6 (by rw [c_6]; decide) (by rw [c_6]; decide) (by rw [c_6]; rfl) (by decide) ?_
    refine lv_aload_n hx hb d_M_told_80 rfl (lv_at hl 0 rfl) ?_
    refine va_get (D := (dC, dI)) (ci := 9) (v := .int fReads) (C := "RangeCodersModel") (T := T_M) (N := 35) hx hb hg in_M hown hK hP 0 rfl rfl 21 (by decide) (hg _ k973) (fun _ h9 => h9) rfl d_M_told_81 ?_
    refine lv_if_eq (tgt := 94) hx hb d_M_told_84 (by decide) (fun c_7 => ?_) (fun c_7 => ?_)
    · refine lv_iconst (v := 0) hx hb d_M_told_94 (by decide) ?_
      exact my_iret (v := 0) hx hb hr (rfl) hlocks hQ hK hS (Nat.le_refl _) (Nat.le_refl _) ((0 : Int32)) (trivial) (hP.sub [0] rfl) (hD.sub [0] (by decide +kernel) rfl) d_M_told_95
    · refine lv_aload_n hx hb d_M_told_87 rfl (lv_at hl 0 rfl) ?_
      refine va_get (D := (dC, dI)) (ci := 9) (v := .int fIR) (C := "RangeCodersModel") (T := T_M) (N := 35) hx hb hg in_M hown hK hP 0 rfl rfl 23 (by decide) (hg _ k975) (fun _ h9 => h9) rfl d_M_told_88 ?_
      refine lv_goto (tgt := 95) hx hb d_M_told_91 (by decide) ?_
      exact my_iret (v := fIR) hx hb hr (rfl) hlocks hQ hK hS (Nat.le_refl _) (Nat.le_refl _) ((0 : Int32)) (trivial) (hP.sub [0] rfl) (hD.sub [0] (by decide +kernel) rfl) d_M_told_95
  by_cases c_8 : p1 = 5
  · refine lv_tableIn (tgt := 96) hx hb d_M_told_6 (by rw [c_8]; decide) (by rw [c_8]; decide) (by rw [c_8]; rfl) (by decide) ?_
    refine lv_aload_n hx hb d_M_told_96 rfl (lv_at hl 0 rfl) ?_
    refine va_get (D := (dC, dI)) (ci := 9) (v := .int fReads) (C := "RangeCodersModel") (T := T_M) (N := 35) hx hb hg in_M hown hK hP 0 rfl rfl 21 (by decide) (hg _ k973) (fun _ h9 => h9) rfl d_M_told_97 ?_
    refine lv_if_eq (tgt := 110) hx hb d_M_told_100 (by decide) (fun c_9 => ?_) (fun c_9 => ?_)
    · refine lv_iconst (v := 0) hx hb d_M_told_110 (by decide) ?_
      exact my_iret (v := 0) hx hb hr (rfl) hlocks hQ hK hS (Nat.le_refl _) (Nat.le_refl _) ((0 : Int32)) (trivial) (hP.sub [0] rfl) (hD.sub [0] (by decide +kernel) rfl) d_M_told_111
    · refine lv_aload_n hx hb d_M_told_103 rfl (lv_at hl 0 rfl) ?_
      refine va_get (D := (dC, dI)) (ci := 9) (v := .int fAsk) (C := "RangeCodersModel") (T := T_M) (N := 35) hx hb hg in_M hown hK hP 0 rfl rfl 24 (by decide) (hg _ k976) (fun _ h9 => h9) rfl d_M_told_104 ?_
      refine lv_goto (tgt := 111) hx hb d_M_told_107 (by decide) ?_
      exact my_iret (v := fAsk) hx hb hr (rfl) hlocks hQ hK hS (Nat.le_refl _) (Nat.le_refl _) ((0 : Int32)) (trivial) (hP.sub [0] rfl) (hD.sub [0] (by decide +kernel) rfl) d_M_told_111
  by_cases c_10 : p1 = 6
  · refine lv_tableIn (tgt := 112) hx hb d_M_told_6 (by rw [c_10]; decide) (by rw [c_10]; decide) (by rw [c_10]; rfl) (by decide) ?_
    refine lv_aload_n hx hb d_M_told_112 rfl (lv_at hl 0 rfl) ?_
    refine va_get (D := (dC, dI)) (ci := 9) (v := .int fReads) (C := "RangeCodersModel") (T := T_M) (N := 35) hx hb hg in_M hown hK hP 0 rfl rfl 21 (by decide) (hg _ k973) (fun _ h9 => h9) rfl d_M_told_113 ?_
    refine lv_if_eq (tgt := 130) hx hb d_M_told_116 (by decide) (fun c_11 => ?_) (fun c_11 => ?_)
    · refine lv_iconst (v := 0) hx hb d_M_told_130 (by decide) ?_
      exact my_iret (v := 0) hx hb hr (rfl) hlocks hQ hK hS (Nat.le_refl _) (Nat.le_refl _) ((0 : Int32)) (trivial) (hP.sub [0] rfl) (hD.sub [0] (by decide +kernel) rfl) d_M_told_131
    · refine lv_aload_n hx hb d_M_told_119 rfl (lv_at hl 0 rfl) ?_
      refine va_get (D := (dC, dI)) (ci := 9) (v := .int fBad) (C := "RangeCodersModel") (T := T_M) (N := 35) hx hb hg in_M hown hK hP 0 rfl rfl 22 (by decide) (hg _ k974) (fun _ h9 => h9) rfl d_M_told_120 ?_
      refine lv_if_eq (tgt := 130) hx hb d_M_told_123 (by decide) (fun c_12 => ?_) (fun c_12 => ?_)
      · refine lv_iconst (v := 0) hx hb d_M_told_130 (by decide) ?_
        exact my_iret (v := 0) hx hb hr (rfl) hlocks hQ hK hS (Nat.le_refl _) (Nat.le_refl _) ((0 : Int32)) (trivial) (hP.sub [0] rfl) (hD.sub [0] (by decide +kernel) rfl) d_M_told_131
      · refine lv_iconst (v := 1) hx hb d_M_told_126 (by decide) ?_
        refine lv_goto (tgt := 131) hx hb d_M_told_127 (by decide) ?_
        exact my_iret (v := 1) hx hb hr (rfl) hlocks hQ hK hS (Nat.le_refl _) (Nat.le_refl _) ((0 : Int32)) (trivial) (hP.sub [0] rfl) (hD.sub [0] (by decide +kernel) rfl) d_M_told_131
  by_cases c_13 : p1 = 7
  · refine lv_tableIn (tgt := 132) hx hb d_M_told_6 (by rw [c_13]; decide) (by rw [c_13]; decide) (by rw [c_13]; rfl) (by decide) ?_
    refine lv_aload_n hx hb d_M_told_132 rfl (lv_at hl 0 rfl) ?_
    refine va_get (D := (dC, dI)) (ci := 9) (v := .int fReads) (C := "RangeCodersModel") (T := T_M) (N := 35) hx hb hg in_M hown hK hP 0 rfl rfl 21 (by decide) (hg _ k973) (fun _ h9 => h9) rfl d_M_told_133 ?_
    refine lv_if_eq (tgt := 143) hx hb d_M_told_136 (by decide) (fun c_14 => ?_) (fun c_14 => ?_)
    · refine lv_iconst (v := 0) hx hb d_M_told_143 (by decide) ?_
      exact my_iret (v := 0) hx hb hr (rfl) hlocks hQ hK hS (Nat.le_refl _) (Nat.le_refl _) ((0 : Int32)) (trivial) (hP.sub [0] rfl) (hD.sub [0] (by decide +kernel) rfl) d_M_told_144
    · refine lv_iconst (v := 1) hx hb d_M_told_139 (by decide) ?_
      refine lv_goto (tgt := 144) hx hb d_M_told_140 (by decide) ?_
      exact my_iret (v := 1) hx hb hr (rfl) hlocks hQ hK hS (Nat.le_refl _) (Nat.le_refl _) ((0 : Int32)) (trivial) (hP.sub [0] rfl) (hD.sub [0] (by decide +kernel) rfl) d_M_told_144
  refine lv_tableOut (tgt := 145) hx hb d_M_told_6 (by have ac_1 : p1.toInt ≠ 0 := fun z => c_1 (Int32.toInt_inj.mp z); have ac_2 : p1.toInt ≠ 1 := fun z => c_2 (Int32.toInt_inj.mp z); have ac_4 : p1.toInt ≠ 2 := fun z => c_4 (Int32.toInt_inj.mp z); have ac_5 : p1.toInt ≠ 3 := fun z => c_5 (Int32.toInt_inj.mp z); have ac_6 : p1.toInt ≠ 4 := fun z => c_6 (Int32.toInt_inj.mp z); have ac_8 : p1.toInt ≠ 5 := fun z => c_8 (Int32.toInt_inj.mp z); have ac_10 : p1.toInt ≠ 6 := fun z => c_10 (Int32.toInt_inj.mp z); have ac_13 : p1.toInt ≠ 7 := fun z => c_13 (Int32.toInt_inj.mp z); omega) (by decide) ?_
  refine lv_bipush (v := (-2)) hx hb d_M_told_145 (by decide) ?_
  exact my_iret (v := (-2)) hx hb hr (rfl) hlocks hQ hK hS (Nat.le_refl _) (Nat.le_refl _) ((0 : Int32)) (trivial) (hP.sub [0] rfl) (hD.sub [0] (by decide +kernel) rfl) d_M_told_147
set_option maxHeartbeats 2000000 in
set_option maxRecDepth 100000 in
theorem c_M_state (l : Launch) (dC : Nat → ClassId) (dI : Nat → Nat → Nat) (cI cM cO : ClassId) (sz : Nat) (o : Nat) (g : Nat → Nat) (fForm : Int32) (fShift : Int32) (fModels : Int32) (fItems : Int32) (fEnded : Int32) (fLow : Int64) (fRange : Int64) (fCache : Int32) (fPend : Int32) (fGoes : Int32) (fOuts : Int32) (fIns : Int32) (fReads : Int32) (fBad : Int32) (fIR : Int32) (fAsk : Int32) (fBAsk : Int32) (fCode : Int64) (fRL : Int64) (fRR : Int64) (fX : Int64) (fWrites : Int32) (fThrown : Int32) (p1 : Int32) : MetL l y_M_state (Cond.code y_M_state prog_14_method_61_code 2 (some .long) :: gw) ({ frames := 1, cells := 0, slots := 0, locals := 22 } : Room) (dC, dI) vwCl (kT cI cM cO) [Value.ref o, Value.int p1] [(o, Sum.inr (9, mO g fForm fShift fModels fItems fEnded fLow fRange fCache fPend fGoes fOuts fIns fReads fBad fIR fAsk fBAsk fCode fRL fRR fX fWrites fThrown))] sz (fun (r : Int64) (u : Int32) => True) (fun (u : Int32) => [(o, Sum.inr (9, mO g fForm fShift fModels fItems fEnded fLow fRange fCache fPend fGoes fOuts fIns fReads fBad fIR fAsk fBAsk fCode fRL fRR fX fWrites u))]) 0 0 := by
  refine my_ofL (cc := prog_14_method_61_code) (n := 2) (ret := (some .long)) (by decide) rfl (Nat.le_of_ble_eq_true rfl) ?_
  intro p e s m args below meth c R Q A ls H locs hx hb hr hts hown hlocks hml hnm hR hQ hA hl hP hK hN hD hS
  have hg : ∀ w ∈ gw, w.before args s = true := fun w h => hts w (List.mem_cons_of_mem _ h)
  have hown : s.vm.findClass "RangeCodersModel" = some m.cls := hown
  have hl : lv_has ls 2 [(0, Value.ref o), (1, Value.int p1)] := hl
  refine lv_aload_n hx hb d_M_state_0 rfl (lv_at hl 0 rfl) ?_
  refine lv_iconst (v := 0) hx hb d_M_state_1 (by decide) ?_
  refine va_put (D := (dC, dI)) (ci := 9) (v := .int 0) (ty := .int) (C := "RangeCodersModel") (T := T_M) (N := 35) hx hb hg in_M t_M o_M n_M hown hK hP hD hS 0 rfl rfl 34 (by decide) (hg _ k986) (fun _ h9 => h9) rfl (o_M 34 (by decide)) rfl rfl (Nat.le_of_ble_eq_true rfl) d_M_state_2 (fun H locs hP hD hS => ?_)
  have hPD : my_PD (dC, dI) vwCl A [(o, Sum.inr (9, mO g fForm fShift fModels fItems fEnded fLow fRange fCache fPend fGoes fOuts fIns fReads fBad fIR fAsk fBAsk fCode fRL fRR fX fWrites 0))] H := ⟨hP, hD⟩
  have hP := hPD.1
  have hD := hPD.2
  refine lv_iload_n hx hb d_M_state_5 rfl (lv_at hl 1 rfl) ?_
  refine lv_iconst (v := 0) hx hb d_M_state_6 (by decide) ?_
  refine lv_iconst (v := 5) hx hb d_M_state_7 (by decide) ?_
  refine my_ci (wr := [(o, Sum.inr (9, mO g fForm fShift fModels fItems fEnded fLow fRange fCache fPend fGoes fOuts fIns fReads fBad fIR fAsk fBAsk fCode fRL fRR fX fWrites 0))]) (va_runS (As := [Value.int p1, Value.int 0, Value.int 5]) (rest := []) ⟨hx, hb, hml, hown, hts⟩ (c_M_in l dC dI cI cM cO H.size p1 0 5) (cwS 3 hts (my_gS k1062 k1063 k12 k1064) rfl rfl rfl (by decide +kernel) ⟨by rw [hR]; exact Nat.le_of_ble_eq_true rfl, by rw [hR]; exact Nat.le_of_ble_eq_true rfl⟩) (my_pre hK hN (hP.sub [] rfl) (hD.sub [] (by decide +kernel) rfl)) rfl rfl hl.1 rfl (lv_room (Nat.le_of_ble_eq_true rfl)) d_M_state_8 ⟨by rw [hR]; exact Nat.le_of_ble_eq_true rfl, by rw [hR]; exact Nat.le_of_ble_eq_true rfl⟩) hP hD hS hA [] [0] rfl rfl (by decide +kernel) (by decide +kernel) (fun r_8 u9 H locs hw_8 hP hD hS => ?_)
  have hw_8 : r_8 = if 0 ≤ p1 ∧ p1 ≤ 5 then 1 else 0 := hw_8
  have hPD : my_PD (dC, dI) vwCl A [(o, Sum.inr (9, mO g fForm fShift fModels fItems fEnded fLow fRange fCache fPend fGoes fOuts fIns fReads fBad fIR fAsk fBAsk fCode fRL fRR fX fWrites 0))] H := ⟨hP, hD⟩
  have hP := hPD.1
  have hD := hPD.2
  refine lv_if_ne (tgt := 18) hx hb d_M_state_11 (by decide) (fun c_1 => ?_) (fun c_1 => ?_)
  · refine lv_iload_n hx hb d_M_state_18 rfl (lv_at hl 1 rfl) ?_
    refine lv_iconst (v := 2) hx hb d_M_state_19 (by decide) ?_
    refine lv_icmp_ge (tgt := 51) hx hb d_M_state_20 (by decide) (fun c_2 => ?_) (fun c_2 => ?_)
    · refine lv_aload_n hx hb d_M_state_51 rfl (lv_at hl 0 rfl) ?_
      refine va_get (D := (dC, dI)) (ci := 9) (v := .int fReads) (C := "RangeCodersModel") (T := T_M) (N := 35) hx hb hg in_M hown hK hP 0 rfl rfl 21 (by decide) (hg _ k973) (fun _ h9 => h9) rfl d_M_state_52 ?_
      refine lv_if_ne (tgt := 60) hx hb d_M_state_55 (by decide) (fun c_3 => ?_) (fun c_3 => ?_)
      · refine lv_iload_n hx hb d_M_state_60 rfl (lv_at hl 1 rfl) ?_
        refine lv_iconst (v := 5) hx hb d_M_state_61 (by decide) ?_
        refine lv_icmp_ne (tgt := 82) hx hb d_M_state_62 (by decide) (fun c_4 => ?_) (fun c_4 => ?_)
        · refine lv_aload_n hx hb d_M_state_82 rfl (lv_at hl 0 rfl) ?_
          refine va_get (D := (dC, dI)) (ci := 9) (v := .int fForm) (C := "RangeCodersModel") (T := T_M) (N := 35) hx hb hg in_M hown hK hP 0 rfl rfl 0 (by decide) (hg _ k952) (fun _ h9 => h9) rfl d_M_state_83 ?_
          refine lv_iconst (v := 2) hx hb d_M_state_86 (by decide) ?_
          refine lv_icmp_le (tgt := 92) hx hb d_M_state_87 (by decide) (fun c_5 => ?_) (fun c_5 => ?_)
          · refine lv_iload_n hx hb d_M_state_92 rfl (lv_at hl 1 rfl) ?_
            refine lv_iconst (v := 2) hx hb d_M_state_93 (by decide) ?_
            refine lv_icmp_ne (tgt := 104) hx hb d_M_state_94 (by decide) (fun c_6 => ?_) (fun c_6 => ?_)
            · refine lv_iload_n hx hb d_M_state_104 rfl (lv_at hl 1 rfl) ?_
              refine lv_iconst (v := 3) hx hb d_M_state_105 (by decide) ?_
              refine lv_icmp_ne (tgt := 128) hx hb d_M_state_106 (by decide) (fun c_7 => ?_) (fun c_7 => ?_)
              · refine lv_aload_n hx hb d_M_state_128 rfl (lv_at hl 0 rfl) ?_
                refine va_get (D := (dC, dI)) (ci := 9) (v := .long fRR) (C := "RangeCodersModel") (T := T_M) (N := 35) hx hb hg in_M hown hK hP 0 rfl rfl 28 (by decide) (hg _ k980) (fun _ h9 => h9) rfl d_M_state_129 ?_
                exact my_lret (v := fRR) hx hb hr hlocks hQ hK hS (Nat.le_refl _) (Nat.le_refl _) ((0 : Int32)) (trivial) (hP.sub [0] rfl) (hD.sub [0] (by decide +kernel) rfl) d_M_state_132
              · refine lv_aload_n hx hb d_M_state_109 rfl (lv_at hl 0 rfl) ?_
                refine va_get (D := (dC, dI)) (ci := 9) (v := .int fForm) (C := "RangeCodersModel") (T := T_M) (N := 35) hx hb hg in_M hown hK hP 0 rfl rfl 0 (by decide) (hg _ k952) (fun _ h9 => h9) rfl d_M_state_110 ?_
                refine lv_iconst (v := 1) hx hb d_M_state_113 (by decide) ?_
                refine lv_icmp_ne (tgt := 124) hx hb d_M_state_114 (by decide) (fun c_8 => ?_) (fun c_8 => ?_)
                · refine lv_lconst (v := 0) hx hb d_M_state_124 (by decide) ?_
                  refine lv_goto (tgt := 132) hx hb d_M_state_125 (by decide) ?_
                  exact my_lret (v := 0) hx hb hr hlocks hQ hK hS (Nat.le_refl _) (Nat.le_refl _) ((0 : Int32)) (trivial) (hP.sub [0] rfl) (hD.sub [0] (by decide +kernel) rfl) d_M_state_132
                · refine lv_aload_n hx hb d_M_state_117 rfl (lv_at hl 0 rfl) ?_
                  refine va_get (D := (dC, dI)) (ci := 9) (v := .long fRL) (C := "RangeCodersModel") (T := T_M) (N := 35) hx hb hg in_M hown hK hP 0 rfl rfl 27 (by decide) (hg _ k979) (fun _ h9 => h9) rfl d_M_state_118 ?_
                  refine lv_goto (tgt := 132) hx hb d_M_state_121 (by decide) ?_
                  exact my_lret (v := fRL) hx hb hr hlocks hQ hK hS (Nat.le_refl _) (Nat.le_refl _) ((0 : Int32)) (trivial) (hP.sub [0] rfl) (hD.sub [0] (by decide +kernel) rfl) d_M_state_132
            · refine lv_aload_n hx hb d_M_state_97 rfl (lv_at hl 0 rfl) ?_
              refine va_get (D := (dC, dI)) (ci := 9) (v := .long fCode) (C := "RangeCodersModel") (T := T_M) (N := 35) hx hb hg in_M hown hK hP 0 rfl rfl 26 (by decide) (hg _ k978) (fun _ h9 => h9) rfl d_M_state_98 ?_
              refine lv_goto (tgt := 132) hx hb d_M_state_101 (by decide) ?_
              exact my_lret (v := fCode) hx hb hr hlocks hQ hK hS (Nat.le_refl _) (Nat.le_refl _) ((0 : Int32)) (trivial) (hP.sub [0] rfl) (hD.sub [0] (by decide +kernel) rfl) d_M_state_132
          · refine lv_lconst (v := 0) hx hb d_M_state_90 (by decide) ?_
            exact my_lret (v := 0) hx hb hr hlocks hQ hK hS (Nat.le_refl _) (Nat.le_refl _) ((0 : Int32)) (trivial) (hP.sub [0] rfl) (hD.sub [0] (by decide +kernel) rfl) d_M_state_91
        · refine lv_aload_n hx hb d_M_state_65 rfl (lv_at hl 0 rfl) ?_
          refine va_get (D := (dC, dI)) (ci := 9) (v := .int fForm) (C := "RangeCodersModel") (T := T_M) (N := 35) hx hb hg in_M hown hK hP 0 rfl rfl 0 (by decide) (hg _ k952) (fun _ h9 => h9) rfl d_M_state_66 ?_
          refine lv_iconst (v := 2) hx hb d_M_state_69 (by decide) ?_
          refine lv_icmp_le (tgt := 80) hx hb d_M_state_70 (by decide) (fun c_9 => ?_) (fun c_9 => ?_)
          · refine lv_lconst (v := 0) hx hb d_M_state_80 (by decide) ?_
            exact my_lret (v := 0) hx hb hr hlocks hQ hK hS (Nat.le_refl _) (Nat.le_refl _) ((0 : Int32)) (trivial) (hP.sub [0] rfl) (hD.sub [0] (by decide +kernel) rfl) d_M_state_81
          · refine lv_aload_n hx hb d_M_state_73 rfl (lv_at hl 0 rfl) ?_
            refine va_get (D := (dC, dI)) (ci := 9) (v := .long fX) (C := "RangeCodersModel") (T := T_M) (N := 35) hx hb hg in_M hown hK hP 0 rfl rfl 29 (by decide) (hg _ k981) (fun _ h9 => h9) rfl d_M_state_74 ?_
            refine lv_goto (tgt := 81) hx hb d_M_state_77 (by decide) ?_
            exact my_lret (v := fX) hx hb hr hlocks hQ hK hS (Nat.le_refl _) (Nat.le_refl _) ((0 : Int32)) (trivial) (hP.sub [0] rfl) (hD.sub [0] (by decide +kernel) rfl) d_M_state_81
      · refine lv_lconst (v := 0) hx hb d_M_state_58 (by decide) ?_
        exact my_lret (v := 0) hx hb hr hlocks hQ hK hS (Nat.le_refl _) (Nat.le_refl _) ((0 : Int32)) (trivial) (hP.sub [0] rfl) (hD.sub [0] (by decide +kernel) rfl) d_M_state_59
    · refine lv_aload_n hx hb d_M_state_23 rfl (lv_at hl 0 rfl) ?_
      refine va_get (D := (dC, dI)) (ci := 9) (v := .int fForm) (C := "RangeCodersModel") (T := T_M) (N := 35) hx hb hg in_M hown hK hP 0 rfl rfl 0 (by decide) (hg _ k952) (fun _ h9 => h9) rfl d_M_state_24 ?_
      refine lv_iconst (v := 2) hx hb d_M_state_27 (by decide) ?_
      refine lv_icmp_le (tgt := 35) hx hb d_M_state_28 (by decide) (fun c_10 => ?_) (fun c_10 => ?_)
      · refine lv_iload_n hx hb d_M_state_35 rfl (lv_at hl 1 rfl) ?_
        refine lv_if_ne (tgt := 46) hx hb d_M_state_36 (by decide) (fun c_11 => ?_) (fun c_11 => ?_)
        · refine lv_aload_n hx hb d_M_state_46 rfl (lv_at hl 0 rfl) ?_
          refine va_get (D := (dC, dI)) (ci := 9) (v := .long fRange) (C := "RangeCodersModel") (T := T_M) (N := 35) hx hb hg in_M hown hK hP 0 rfl rfl 12 (by decide) (hg _ k964) (fun _ h9 => h9) rfl d_M_state_47 ?_
          exact my_lret (v := fRange) hx hb hr hlocks hQ hK hS (Nat.le_refl _) (Nat.le_refl _) ((0 : Int32)) (trivial) (hP.sub [0] rfl) (hD.sub [0] (by decide +kernel) rfl) d_M_state_50
        · refine lv_aload_n hx hb d_M_state_39 rfl (lv_at hl 0 rfl) ?_
          refine va_get (D := (dC, dI)) (ci := 9) (v := .long fLow) (C := "RangeCodersModel") (T := T_M) (N := 35) hx hb hg in_M hown hK hP 0 rfl rfl 11 (by decide) (hg _ k963) (fun _ h9 => h9) rfl d_M_state_40 ?_
          refine lv_goto (tgt := 50) hx hb d_M_state_43 (by decide) ?_
          exact my_lret (v := fLow) hx hb hr hlocks hQ hK hS (Nat.le_refl _) (Nat.le_refl _) ((0 : Int32)) (trivial) (hP.sub [0] rfl) (hD.sub [0] (by decide +kernel) rfl) d_M_state_50
      · refine lv_lconst (v := 0) hx hb d_M_state_31 (by decide) ?_
        refine lv_goto (tgt := 50) hx hb d_M_state_32 (by decide) ?_
        exact my_lret (v := 0) hx hb hr hlocks hQ hK hS (Nat.le_refl _) (Nat.le_refl _) ((0 : Int32)) (trivial) (hP.sub [0] rfl) (hD.sub [0] (by decide +kernel) rfl) d_M_state_50
  · refine lv_ldc2 (v := (-2)) hx hb hown (hg _ k1276) d_M_state_14 ?_
    exact my_lret (v := (-2)) hx hb hr hlocks hQ hK hS (Nat.le_refl _) (Nat.le_refl _) ((0 : Int32)) (trivial) (hP.sub [0] rfl) (hD.sub [0] (by decide +kernel) rfl) d_M_state_17
end
section
set_option maxHeartbeats 2000000 in
set_option maxRecDepth 100000 in
theorem c_M_modelA (l : Launch) (dC : Nat → ClassId) (dI : Nat → Nat → Nat) (cI cM cO : ClassId) (sz : Nat) (o : Nat) (g : Nat → Nat) (fForm : Int32) (fShift : Int32) (fModels : Int32) (fItems : Int32) (fEnded : Int32) (fLow : Int64) (fRange : Int64) (fCache : Int32) (fPend : Int32) (fGoes : Int32) (fOuts : Int32) (fIns : Int32) (fReads : Int32) (fBad : Int32) (fIR : Int32) (fAsk : Int32) (fBAsk : Int32) (fCode : Int64) (fRL : Int64) (fRR : Int64) (fX : Int64) (fWrites : Int32) (fThrown : Int32) (vMany : Nat → Int32) (vCounts : Nat → Int32) (fm : Nat) (km : Nat) (N : Nat → Nat) (p1 : Int32) (hmod : fModels = nI km) (hMD : MD km N vMany vCounts) (hrf : p1 < 2 ∨ 64 < p1) : MetI l y_M_model (Cond.code y_M_model prog_14_method_13_code 4 (some .int) :: gw) ({ frames := 1, cells := 0, slots := 0, locals := 22 } : Room) (dC, dI) vwCl (kT cI cM cO) [Value.ref o, Value.int p1] [(o, Sum.inr (9, mO g fForm fShift fModels fItems fEnded fLow fRange fCache fPend fGoes fOuts fIns fReads fBad fIR fAsk fBAsk fCode fRL fRR fX fWrites fThrown)), ((g 0), Sum.inl (cI, 8, Sum.inl vMany)), ((g 1), Sum.inl (cI, 512, Sum.inl vCounts))] sz (fun (r : Int32) (u : Int32) => r = -2) (fun (u : Int32) => [(o, Sum.inr (9, mO g fForm fShift fModels fItems fEnded fLow fRange fCache fPend fGoes fOuts fIns fReads fBad fIR fAsk fBAsk fCode fRL fRR fX fWrites u)), ((g 0), Sum.inl (cI, 8, Sum.inl vMany)), ((g 1), Sum.inl (cI, 512, Sum.inl vCounts))]) 0 0 := by
  refine my_ofI (cc := prog_14_method_13_code) (n := 4) (ret := (some .int)) (by decide) rfl (Nat.le_of_ble_eq_true rfl) ?_
  intro p e s m args below meth c R Q A ls H locs hx hb hr hts hown hlocks hml hnm hR hQ hA hl hP hK hN hD hS
  have hg : ∀ w ∈ gw, w.before args s = true := fun w h => hts w (List.mem_cons_of_mem _ h)
  have hown : s.vm.findClass "RangeCodersModel" = some m.cls := hown
  have hl : lv_has ls 4 [(0, Value.ref o), (1, Value.int p1)] := hl
  refine lv_aload_n hx hb d_M_model_0 rfl (lv_at hl 0 rfl) ?_
  refine lv_iconst (v := 0) hx hb d_M_model_1 (by decide) ?_
  refine va_put (D := (dC, dI)) (ci := 9) (v := .int 0) (ty := .int) (C := "RangeCodersModel") (T := T_M) (N := 35) hx hb hg in_M t_M o_M n_M hown hK hP hD hS 0 rfl rfl 34 (by decide) (hg _ k986) (fun _ h9 => h9) rfl (o_M 34 (by decide)) rfl rfl (Nat.le_of_ble_eq_true rfl) d_M_model_2 (fun H locs hP hD hS => ?_)
  have hPD : my_PD (dC, dI) vwCl A [(o, Sum.inr (9, mO g fForm fShift fModels fItems fEnded fLow fRange fCache fPend fGoes fOuts fIns fReads fBad fIR fAsk fBAsk fCode fRL fRR fX fWrites 0)), ((g 0), Sum.inl (cI, 8, Sum.inl vMany)), ((g 1), Sum.inl (cI, 512, Sum.inl vCounts))] H := ⟨hP, hD⟩
  have hP := hPD.1
  have hD := hPD.2
  refine lv_iload_n hx hb d_M_model_5 rfl (lv_at hl 1 rfl) ?_
  refine lv_iconst (v := 2) hx hb d_M_model_6 (by decide) ?_
  refine lv_bipush (v := 64) hx hb d_M_model_7 (by decide) ?_
  refine my_ci (wr := [(o, Sum.inr (9, mO g fForm fShift fModels fItems fEnded fLow fRange fCache fPend fGoes fOuts fIns fReads fBad fIR fAsk fBAsk fCode fRL fRR fX fWrites 0)), ((g 0), Sum.inl (cI, 8, Sum.inl vMany)), ((g 1), Sum.inl (cI, 512, Sum.inl vCounts))]) (va_runS (As := [Value.int p1, Value.int 2, Value.int 64]) (rest := []) ⟨hx, hb, hml, hown, hts⟩ (c_M_in l dC dI cI cM cO H.size p1 2 64) (cwS 3 hts (my_gS k1062 k1063 k12 k1064) rfl rfl rfl (by decide +kernel) ⟨by rw [hR]; exact Nat.le_of_ble_eq_true rfl, by rw [hR]; exact Nat.le_of_ble_eq_true rfl⟩) (my_pre hK hN (hP.sub [] rfl) (hD.sub [] (by decide +kernel) rfl)) rfl rfl hl.1 rfl (lv_room (Nat.le_of_ble_eq_true rfl)) d_M_model_9 ⟨by rw [hR]; exact Nat.le_of_ble_eq_true rfl, by rw [hR]; exact Nat.le_of_ble_eq_true rfl⟩) hP hD hS hA [] [0, 1, 2] rfl rfl (by decide +kernel) (by decide +kernel) (fun r_9 u9 H locs hw_9 hP hD hS => ?_)
  have hw_9 : r_9 = if 2 ≤ p1 ∧ p1 ≤ 64 then 1 else 0 := hw_9
  have hPD : my_PD (dC, dI) vwCl A [(o, Sum.inr (9, mO g fForm fShift fModels fItems fEnded fLow fRange fCache fPend fGoes fOuts fIns fReads fBad fIR fAsk fBAsk fCode fRL fRR fX fWrites 0)), ((g 0), Sum.inl (cI, 8, Sum.inl vMany)), ((g 1), Sum.inl (cI, 512, Sum.inl vCounts))] H := ⟨hP, hD⟩
  have hP := hPD.1
  have hD := hPD.2
  refine lv_if_ne (tgt := 18) hx hb d_M_model_12 (by decide) (fun c_1 => ?_) (fun c_1 => ?_)
  · exact absurd hrf (fun h9 => h9.elim (fun q9 => absurd (one_ne hw_9 c_1).1 (Int32.not_le.mpr q9)) (fun q9 => absurd (one_ne hw_9 c_1).2 (Int32.not_le.mpr q9)))
  · refine lv_bipush (v := (-2)) hx hb d_M_model_15 (by decide) ?_
    exact my_iret (v := (-2)) hx hb hr (rfl) hlocks hQ hK hS (Nat.le_refl _) (Nat.le_refl _) ((0 : Int32)) (rfl) (hP.sub [0, 1, 2] rfl) (hD.sub [0, 1, 2] (by decide +kernel) rfl) d_M_model_17
set_option maxHeartbeats 2000000 in
set_option maxRecDepth 100000 in
theorem c_M_modelF (l : Launch) (dC : Nat → ClassId) (dI : Nat → Nat → Nat) (cI cM cO : ClassId) (sz : Nat) (o : Nat) (g : Nat → Nat) (fForm : Int32) (fShift : Int32) (fModels : Int32) (fItems : Int32) (fEnded : Int32) (fLow : Int64) (fRange : Int64) (fCache : Int32) (fPend : Int32) (fGoes : Int32) (fOuts : Int32) (fIns : Int32) (fReads : Int32) (fBad : Int32) (fIR : Int32) (fAsk : Int32) (fBAsk : Int32) (fCode : Int64) (fRL : Int64) (fRR : Int64) (fX : Int64) (fWrites : Int32) (fThrown : Int32) (vMany : Nat → Int32) (vCounts : Nat → Int32) (fm : Nat) (km : Nat) (N : Nat → Nat) (ns : Nat) (hmod : fModels = nI km) (hMD : MD km N vMany vCounts) (hns2 : 2 ≤ ns) (hns : ns ≤ 64) (hk : km = 8) : MetI l y_M_model (Cond.code y_M_model prog_14_method_13_code 4 (some .int) :: gw) ({ frames := 1, cells := 0, slots := 0, locals := 22 } : Room) (dC, dI) vwCl (kT cI cM cO) [Value.ref o, Value.int (nI ns)] [(o, Sum.inr (9, mO g fForm fShift fModels fItems fEnded fLow fRange fCache fPend fGoes fOuts fIns fReads fBad fIR fAsk fBAsk fCode fRL fRR fX fWrites fThrown)), ((g 0), Sum.inl (cI, 8, Sum.inl vMany)), ((g 1), Sum.inl (cI, 512, Sum.inl vCounts))] sz (fun (r : Int32) (u : Int32) => r = -4) (fun (u : Int32) => [(o, Sum.inr (9, mO g fForm fShift fModels fItems fEnded fLow fRange fCache fPend fGoes fOuts fIns fReads fBad fIR fAsk fBAsk fCode fRL fRR fX fWrites u)), ((g 0), Sum.inl (cI, 8, Sum.inl vMany)), ((g 1), Sum.inl (cI, 512, Sum.inl vCounts))]) 0 0 := by
  refine my_ofI (cc := prog_14_method_13_code) (n := 4) (ret := (some .int)) (by decide) rfl (Nat.le_of_ble_eq_true rfl) ?_
  intro p e s m args below meth c R Q A ls H locs hx hb hr hts hown hlocks hml hnm hR hQ hA hl hP hK hN hD hS
  have hg : ∀ w ∈ gw, w.before args s = true := fun w h => hts w (List.mem_cons_of_mem _ h)
  have hown : s.vm.findClass "RangeCodersModel" = some m.cls := hown
  have hl : lv_has ls 4 [(0, Value.ref o), (1, Value.int (nI ns))] := hl
  refine lv_aload_n hx hb d_M_model_0 rfl (lv_at hl 0 rfl) ?_
  refine lv_iconst (v := 0) hx hb d_M_model_1 (by decide) ?_
  refine va_put (D := (dC, dI)) (ci := 9) (v := .int 0) (ty := .int) (C := "RangeCodersModel") (T := T_M) (N := 35) hx hb hg in_M t_M o_M n_M hown hK hP hD hS 0 rfl rfl 34 (by decide) (hg _ k986) (fun _ h9 => h9) rfl (o_M 34 (by decide)) rfl rfl (Nat.le_of_ble_eq_true rfl) d_M_model_2 (fun H locs hP hD hS => ?_)
  have hPD : my_PD (dC, dI) vwCl A [(o, Sum.inr (9, mO g fForm fShift fModels fItems fEnded fLow fRange fCache fPend fGoes fOuts fIns fReads fBad fIR fAsk fBAsk fCode fRL fRR fX fWrites 0)), ((g 0), Sum.inl (cI, 8, Sum.inl vMany)), ((g 1), Sum.inl (cI, 512, Sum.inl vCounts))] H := ⟨hP, hD⟩
  have hP := hPD.1
  have hD := hPD.2
  refine lv_iload_n hx hb d_M_model_5 rfl (lv_at hl 1 rfl) ?_
  refine lv_iconst (v := 2) hx hb d_M_model_6 (by decide) ?_
  refine lv_bipush (v := 64) hx hb d_M_model_7 (by decide) ?_
  refine my_ci (wr := [(o, Sum.inr (9, mO g fForm fShift fModels fItems fEnded fLow fRange fCache fPend fGoes fOuts fIns fReads fBad fIR fAsk fBAsk fCode fRL fRR fX fWrites 0)), ((g 0), Sum.inl (cI, 8, Sum.inl vMany)), ((g 1), Sum.inl (cI, 512, Sum.inl vCounts))]) (va_runS (As := [Value.int (nI ns), Value.int 2, Value.int 64]) (rest := []) ⟨hx, hb, hml, hown, hts⟩ (c_M_in l dC dI cI cM cO H.size (nI ns) 2 64) (cwS 3 hts (my_gS k1062 k1063 k12 k1064) rfl rfl rfl (by decide +kernel) ⟨by rw [hR]; exact Nat.le_of_ble_eq_true rfl, by rw [hR]; exact Nat.le_of_ble_eq_true rfl⟩) (my_pre hK hN (hP.sub [] rfl) (hD.sub [] (by decide +kernel) rfl)) rfl rfl hl.1 rfl (lv_room (Nat.le_of_ble_eq_true rfl)) d_M_model_9 ⟨by rw [hR]; exact Nat.le_of_ble_eq_true rfl, by rw [hR]; exact Nat.le_of_ble_eq_true rfl⟩) hP hD hS hA [] [0, 1, 2] rfl rfl (by decide +kernel) (by decide +kernel) (fun r_9 u9 H locs hw_9 hP hD hS => ?_)
  have hw_9 : r_9 = if 2 ≤ (nI ns) ∧ (nI ns) ≤ 64 then 1 else 0 := hw_9
  have hPD : my_PD (dC, dI) vwCl A [(o, Sum.inr (9, mO g fForm fShift fModels fItems fEnded fLow fRange fCache fPend fGoes fOuts fIns fReads fBad fIR fAsk fBAsk fCode fRL fRR fX fWrites 0)), ((g 0), Sum.inl (cI, 8, Sum.inl vMany)), ((g 1), Sum.inl (cI, 512, Sum.inl vCounts))] H := ⟨hP, hD⟩
  have hP := hPD.1
  have hD := hPD.2
  refine lv_if_ne (tgt := 18) hx hb d_M_model_12 (by decide) (fun c_1 => ?_) (fun c_1 => ?_)
  · refine lv_aload_n hx hb d_M_model_18 rfl (lv_at hl 0 rfl) ?_
    refine va_get (D := (dC, dI)) (ci := 9) (v := .int fModels) (C := "RangeCodersModel") (T := T_M) (N := 35) hx hb hg in_M hown hK hP 0 rfl rfl 2 (by decide) (hg _ k954) (fun _ h9 => h9) rfl d_M_model_19 ?_
    refine lv_bipush (v := 8) hx hb d_M_model_22 (by decide) ?_
    refine lv_icmp_ne (tgt := 30) hx hb d_M_model_24 (by decide) (fun c_2 => ?_) (fun c_2 => ?_)
    · exact absurd (by rw [hmod, hk]; rfl) c_2
    · refine lv_bipush (v := (-4)) hx hb d_M_model_27 (by decide) ?_
      exact my_iret (v := (-4)) hx hb hr (rfl) hlocks hQ hK hS (Nat.le_refl _) (Nat.le_refl _) ((0 : Int32)) (rfl) (hP.sub [0, 1, 2] rfl) (hD.sub [0, 1, 2] (by decide +kernel) rfl) d_M_model_29
  · exact absurd ⟨nI_le (a := 2) hns2 (by omega), nI_le (b := 64) hns (by omega)⟩ (one_eq hw_9 c_1)
end
section
/-! what a put leaves -/
theorem nr_le {Rg t c f : Nat} (ht : 0 < t) (hcf : c + f ≤ t) : Rg / t * c + Rg / t * f ≤ Rg := by
  rw [← Nat.mul_add]
  exact Nat.le_trans (Nat.mul_le_mul_left _ hcf) (Nat.div_mul_le_self Rg t)
theorem nr_pos {Rg t f : Nat} (ht : 0 < t) (hf : 0 < f) (h : t ≤ Rg) : 0 < Rg / t * f := Nat.mul_pos (Nat.div_pos h ht) hf
theorem nr_inv {Rg L t c f Pn : Nat} {ca : Option Nat} {bs : List Nat} (h : eInv (Rg, L, ca, Pn, bs)) (ht : 0 < t) (hcf : c + f ≤ t) (hf : 0 < f) (hRt : t ≤ Rg) : eInv (wdS (Rg / t * f, L + Rg / t * c, ca, Pn, bs)) ∧ eN (wdS (Rg / t * f, L + Rg / t * c, ca, Pn, bs)) ≤ bs.length + Pn + 1 + 3 := by
  obtain ⟨h1, h2, h3, h4⟩ := h
  have a := nr_le (Rg := Rg) ht hcf
  have b := nr_pos ht hf hRt
  have h1 : 16777216 ≤ Rg := h1
  have h2 : Rg < 4294967296 := h2
  have h3 : L + Rg ≤ 8589934592 := h3
  exact wd_inv (e := (Rg / t * f, L + Rg / t * c, ca, Pn, bs)) b (show Rg / t * f < 4294967296 by omega) (show L + Rg / t * c + Rg / t * f ≤ 8589934592 by omega) h4
theorem pOk_nr {Rg L t c f : Nat} (h : pOk Rg L) (ht : 0 < t) (hcf : c + f ≤ t) (hf : 0 < f) (hRt : t ≤ Rg) : pOk (Rg / t * f) (L + Rg / t * c) := by
  obtain ⟨h1, h2, h3, h4⟩ := h
  have a := nr_le (Rg := Rg) ht hcf
  have b := nr_pos ht hf hRt
  exact ⟨by omega, by omega, by omega, fun z => by have := h4 (by omega); omega⟩
theorem pl_main : ∀ (k : Nat) (e : PS), plI k e.1 e.2.1 → pOk (plN k e).1 (plN k e).2.1 ∧ 65536 ≤ (plN k e).1 ∧ (plN k e).2.2.length + 4 ≤ e.2.2.length + k
  | 0, e, h => absurd h.2.1 (by decide)
  | k + 1, e, h => by
    by_cases hm : mvP e.2.1 e.1
    · obtain ⟨h1, h2⟩ := plI_st h hm
      rw [plN_s (show 0 < k + 1 from Nat.succ_pos k) hm]
      rw [Nat.add_sub_cancel] at h2 ⊢
      obtain ⟨a, b, c⟩ := pl_main k (mvR e.2.1 e.1, mvL e.2.1, e.2.2 ++ [e.2.1 / 16777216 % 256]) h2
      refine ⟨a, b, ?_⟩
      have c' : (plN k (mvR e.2.1 e.1, mvL e.2.1, e.2.2 ++ [e.2.1 / 16777216 % 256])).2.2.length + 4 ≤ (e.2.2 ++ [e.2.1 / 16777216 % 256]).length + k := c
      rw [List.length_append, List.length_singleton] at c'
      omega
    · rw [plN_e hm]
      refine ⟨h.1, ?_, ?_⟩
      · rcases Nat.lt_or_ge e.1 65536 with z | z
        · exact absurd (Or.inr z) hm
        · exact z
      · have := h.2.1; omega
theorem pl_inv {R L : Nat} {bs : List Nat} (h : pOk R L) : pOk (plS (R, L, bs)).1 (plS (R, L, bs)).2.1 ∧ 65536 ≤ (plS (R, L, bs)).1 ∧ (plS (R, L, bs)).2.2.length ≤ bs.length + 4 := by
  obtain ⟨a, b, c⟩ := pl_main 8 (R, L, bs) (plI_0 h)
  exact ⟨a, b, by have c' : (plN 8 (R, L, bs)).2.2.length + 4 ≤ bs.length + 8 := c; show (plN 8 (R, L, bs)).2.2.length ≤ _; omega⟩
theorem vb_all (v : Nat) : ∀ (b : Nat) (e : ES), eInv e → oct (eB e) → eInv (vbN v b e) ∧ eN (vbN v b e) ≤ eN e + b ∧ oct (eB (vbN v b e))
  | 0, e, h, ho => ⟨h, Nat.le_refl _, ho⟩
  | b + 1, e, h, ho => by
    obtain ⟨a1, a2⟩ := vb_inv h (v / 2 ^ b % 2 = 1)
    obtain ⟨b1, b2, b3⟩ := vb_all v b _ a1 (oct_wd ho)
    exact ⟨b1, by show eN (vbN v b _) ≤ _; omega, b3⟩
theorem sp_all (sh t : Nat) (hs : 1 ≤ sh) : ∀ (k nd : Nat) (e : ES) (C : Nat → Nat), k ≤ 6 → nd < 2 ^ (7 - k) → eInv e → oct (eB e) → (∀ j, j < 64 → 1 ≤ C j ∧ C j ≤ 2047) → eInv (spN sh t k nd e C).1 ∧ eN (spN sh t k nd e C).1 ≤ eN e + 2 * k ∧ oct (eB (spN sh t k nd e C).1) ∧ ∀ j, j < 64 → 1 ≤ (spN sh t k nd e C).2 j ∧ (spN sh t k nd e C).2 j ≤ 2047
  | 0, nd, e, C, _, _, h, ho, hC => ⟨h, Nat.le_refl _, ho, hC⟩
  | k + 1, nd, e, C, hk, hnd, h, ho, hC => by
    have hn64 : nd < 64 := Nat.lt_of_lt_of_le hnd (Nat.le_trans (Nat.pow_le_pow_right (by decide) (show 7 - (k + 1) ≤ 6 by omega)) (by decide))
    obtain ⟨c1, c2⟩ := hC nd hn64
    obtain ⟨a1, a2⟩ := bt_inv (p := C nd) (bt := t / 2 ^ k % 2) h c1 c2
    have hb : t / 2 ^ k % 2 < 2 := Nat.mod_lt _ (by decide)
    have hnd2 : 2 * nd + t / 2 ^ k % 2 < 2 ^ (7 - k) := by
      have e7 : 7 - k = (7 - (k + 1)) + 1 := by omega
      rw [e7, Nat.pow_succ]
      omega
    obtain ⟨b1, b2, b3, b4⟩ := sp_all sh t hs k (2 * nd + t / 2 ^ k % 2) _ (upN C nd (mvC sh (t / 2 ^ k % 2) (C nd))) (by omega) hnd2 a1 (oct_bt ho) (ch_up hs hC)
    exact ⟨b1, by show eN (spN sh t k _ _ _).1 ≤ _; omega, b3, b4⟩
theorem lev_6 (n : Nat) : lev n ≤ 6 := by
  unfold lev
  repeat' split
  all_goals decide
theorem tab_01 {fm n mm : Nat} {f : Nat → Int32} {F : Nat → Nat} (hf : fm < 2) (h : tabI fm n f mm F) : sgI f (64 * mm) n F ∧ ns F n ≤ 8192 := by
  unfold tabI at h
  rcases h with h | h | h | h
  · exact h.2
  · exact absurd h.1 (by omega)
  · exact absurd h.1 (by omega)
  · exact absurd h.1 (by omega)
theorem tab_2 {n mm : Nat} {f : Nat → Int32} {F : Nat → Nat} (h : tabI 2 n f mm F) : sgI f (64 * mm) 64 F ∧ ∀ k, k < 64 → 1 ≤ F k ∧ F k ≤ 2047 := by
  unfold tabI at h
  rcases h with h | h | h | h
  · exact absurd h.1 (by omega)
  · exact h.2
  · exact absurd h.1 (by omega)
  · exact absurd h.1 (by omega)
theorem tab_3 {n mm : Nat} {f : Nat → Int32} {F : Nat → Nat} (h : tabI 3 n f mm F) : sgI f (64 * mm) n F ∧ (ns F n = 0 ∨ ns F n = 4096) := by
  unfold tabI at h
  rcases h with h | h | h | h
  · exact absurd h.1 (by omega)
  · exact absurd h.1 (by omega)
  · exact h.2
  · exact absurd h.1 (by omega)
theorem tab_4 {n mm : Nat} {f : Nat → Int32} {F : Nat → Nat} (h : tabI 4 n f mm F) : sgI f (64 * mm) n F ∧ (ns F n = 0 ∨ ns F n = 512) := by
  unfold tabI at h
  rcases h with h | h | h | h
  · exact absurd h.1 (by omega)
  · exact absurd h.1 (by omega)
  · exact absurd h.1 (by omega)
  · exact h.2
theorem pw12 {b : Nat} (h : b ≤ 12) : 2 ^ b ≤ 4096 := Nat.le_trans (Nat.pow_le_pow_right (by decide) h) (by decide)
theorem n01 {n : Int32} (h : n ≤ 1) (h0 : ¬ n < 0) (h1 : ¬ n = 0) (h2 : ¬ n = 1) : False := by
  have e0 : (0 : Int32).toInt = 0 := rfl
  have e1 : (1 : Int32).toInt = 1 := rfl
  rw [Int32.lt_iff_toInt_lt, e0] at h0
  rw [Int32.le_iff_toInt_le, e1] at h
  have h1' : n.toInt ≠ 0 := fun z => h1 (Int32.toInt_inj.mp (by rw [z]; rfl))
  have h2' : n.toInt ≠ 1 := fun z => h2 (Int32.toInt_inj.mp (by rw [z]; rfl))
  omega
theorem cp_st {fI f : Nat → Int32} {k i : Nat} {x : Int32} (h : ∀ j, j < k → fI j = f j) (hi : i = k) (hx : x = f k) : ∀ j, j < k + 1 → upd fI i x j = f j := by
  intro j hj
  subst hi
  by_cases e : j = i
  · subst e; rw [pk_us]; exact hx
  · rw [pk_un e]; exact h j (by omega)
end
section
/-! what a reading leaves -/
def RD0 (cn : Nat) (fAsk : Int32) (fCode fRR : Int64) : Prop := ∃ RR CD q : Nat, fCode = lN CD ∧ fRR = lN RR ∧ fAsk = nI q ∧ RR < 4294967296 ∧ CD < 4294967296 ∧ q ≤ 40 * cn + 4
def RD1 (cn : Nat) (fAsk : Int32) (fCode fRL fRR : Int64) : Prop := ∃ RR L CD q : Nat, fCode = lN CD ∧ fRL = lN L ∧ fRR = lN RR ∧ fAsk = nI q ∧ pOk RR L ∧ CD < 4294967296 ∧ q ≤ 40 * cn + 4
def RD2 (cn : Nat) (fAsk : Int32) (fCode fRR : Int64) : Prop := ∃ RR CD q : Nat, fCode = lN CD ∧ fRR = lN RR ∧ fAsk = nI q ∧ rInv (RR, CD, q) ∧ q ≤ 40 * cn + 4
def RD3 (cn : Nat) (fAsk : Int32) (fX : Int64) : Prop := ∃ X q : Nat, fX = lN X ∧ fAsk = nI q ∧ 8388608 ≤ X ∧ X < 4294967296 ∧ q ≤ 40 * cn + 4
def RD4 (cn : Nat) (fAsk fBAsk : Int32) (fX : Int64) : Prop := ∃ X t : Nat, fX = lN X ∧ fBAsk = nI t ∧ fAsk = nI ((t + 7) / 8) ∧ 512 ≤ X ∧ X < 1024 ∧ t ≤ 40 * cn + 9
theorem gr0_ok {is : List Nat} {n : Nat} {F : Nat → Nat} {r : RS} (ho : oct is) (hn : n ≤ 64) (hs : ns F n ≤ 8192) (h1 : r.1 < 4294967296) (h2 : r.2.1 < 4294967296) : (gr0 is n F r).2.1.1 < 4294967296 ∧ (gr0 is n F r).2.1.2.1 < 4294967296 ∧ (gr0 is n F r).2.1.2.2 ≤ r.2.2 + 3 ∧ ns (gr0 is n F r).2.2 n ≤ 8192 := by
  cases h : wnt (ns F n) r.1 r.2.1 with
  | none =>
    have e : gr0 is n F r = (none, r, F) := by unfold gr0; rw [h]
    rw [e]
    exact ⟨h1, h2, by show r.2.2 ≤ _; omega, hs⟩
  | some w =>
    have e : gr0 is n F r = (some (sgA F n w), wrS is (r.1 / ns F n * F (sgA F n w), r.2.1 - r.1 / ns F n * ns F (sgA F n w), r.2.2), lrn n (sgA F n w) F) := by unfold gr0; rw [h]
    rw [e]
    obtain ⟨a1, a2, a3, a4, a5⟩ := wnt_some h
    obtain ⟨b1, b2, b3⟩ := sgA_spec a3
    have hf : 0 < F (sgA F n w) := by omega
    have hp := nr_pos a1 hf a2
    have hl := nr_le (Rg := r.1) a1 (ns_m1 F b1)
    obtain ⟨c1, c2, c3⟩ := wr_inv ho (r := (r.1 / ns F n * F (sgA F n w), r.2.1 - r.1 / ns F n * ns F (sgA F n w), r.2.2)) hp (show r.1 / ns F n * F (sgA F n w) < 4294967296 by omega) (show r.2.1 - r.1 / ns F n * ns F (sgA F n w) < 4294967296 by omega)
    exact ⟨c1.2.1, c1.2.2, c2, lrn_ok hn b1 hs⟩
theorem gv0_ok {is : List Nat} {b : Nat} {r : RS} (ho : oct is) (h1 : r.1 < 4294967296) (h2 : r.2.1 < 4294967296) : (gv0 is b r).2.1 < 4294967296 ∧ (gv0 is b r).2.2.1 < 4294967296 ∧ (gv0 is b r).2.2.2 ≤ r.2.2 + 3 := by
  cases h : wnt (2 ^ b) r.1 r.2.1 with
  | none =>
    have e : gv0 is b r = (none, r) := by unfold gv0; rw [h]
    rw [e]
    exact ⟨h1, h2, by show r.2.2 ≤ _; omega⟩
  | some w =>
    have e : gv0 is b r = (some w, wrS is (r.1 / 2 ^ b * 1, r.2.1 - r.1 / 2 ^ b * w, r.2.2)) := by unfold gv0; rw [h]
    rw [e]
    obtain ⟨a1, a2, a3, a4, a5⟩ := wnt_some h
    have hp := nr_pos (f := 1) a1 (by decide) a2
    have hl := nr_le (Rg := r.1) (c := w) (f := 1) a1 (by omega)
    obtain ⟨c1, c2, c3⟩ := wr_inv ho (r := (r.1 / 2 ^ b * 1, r.2.1 - r.1 / 2 ^ b * w, r.2.2)) hp (show r.1 / 2 ^ b * 1 < 4294967296 by omega) (show r.2.1 - r.1 / 2 ^ b * w < 4294967296 by omega)
    exact ⟨c1.2.1, c1.2.2, c2⟩
theorem pr_main {is : List Nat} (ho : oct is) : ∀ (k : Nat) (e : RP), plI k e.1 e.2.1 → e.2.2.1 < 4294967296 → pOk (prN is k e).1 (prN is k e).2.1 ∧ (prN is k e).2.2.1 < 4294967296 ∧ (prN is k e).2.2.2 + 4 ≤ e.2.2.2 + k
  | 0, e, h, _ => absurd h.2.1 (by decide)
  | k + 1, e, h, hc => by
    by_cases hm : mvP e.2.1 e.1
    · obtain ⟨h1, h2⟩ := plI_st h hm
      rw [prN_s (show 0 < k + 1 from Nat.succ_pos k) hm]
      rw [Nat.add_sub_cancel] at h2 ⊢
      have hb := ho e.2.2.2
      obtain ⟨a, b, c⟩ := pr_main ho k (mvR e.2.1 e.1, mvL e.2.1, e.2.2.1 * 256 % 4294967296 + byA is e.2.2.2, e.2.2.2 + 1) h2 (show e.2.2.1 * 256 % 4294967296 + byA is e.2.2.2 < 4294967296 by omega)
      have c' : (prN is k (mvR e.2.1 e.1, mvL e.2.1, e.2.2.1 * 256 % 4294967296 + byA is e.2.2.2, e.2.2.2 + 1)).2.2.2 + 4 ≤ e.2.2.2 + 1 + k := c
      exact ⟨a, b, by omega⟩
    · rw [prN_e hm]
      exact ⟨h.1, hc, by have := h.2.1; omega⟩
theorem pr_inv {is : List Nat} (ho : oct is) {R L C q : Nat} (h : pOk R L) (hc : C < 4294967296) : pOk (prS is (R, L, C, q)).1 (prS is (R, L, C, q)).2.1 ∧ (prS is (R, L, C, q)).2.2.1 < 4294967296 ∧ (prS is (R, L, C, q)).2.2.2 ≤ q + 4 := by
  obtain ⟨a, b, c⟩ := pr_main ho 8 (R, L, C, q) (plI_0 h) hc
  exact ⟨a, b, by have c' : (prN is 8 (R, L, C, q)).2.2.2 + 4 ≤ q + 8 := c; show (prN is 8 (R, L, C, q)).2.2.2 ≤ _; omega⟩
theorem gr1_ok {is : List Nat} {n : Nat} {F : Nat → Nat} {R L C q : Nat} (ho : oct is) (hn : n ≤ 64) (hs : ns F n ≤ 8192) (h1 : pOk R L) (h2 : C < 4294967296) : pOk (gr1 is n F (R, L, C, q)).2.1.1 (gr1 is n F (R, L, C, q)).2.1.2.1 ∧ (gr1 is n F (R, L, C, q)).2.1.2.2.1 < 4294967296 ∧ (gr1 is n F (R, L, C, q)).2.1.2.2.2 ≤ q + 4 ∧ ns (gr1 is n F (R, L, C, q)).2.2 n ≤ 8192 := by
  cases h : wnt (ns F n) R ((C + 4294967296 - L) % 4294967296) with
  | none =>
    have e : gr1 is n F (R, L, C, q) = (none, (R, L, C, q), F) := by unfold gr1; dsimp only; rw [h]
    rw [e]
    exact ⟨h1, h2, by show q ≤ _; omega, hs⟩
  | some w =>
    have e : gr1 is n F (R, L, C, q) = (some (sgA F n w), prS is (R / ns F n * F (sgA F n w), L + R / ns F n * ns F (sgA F n w), C, q), lrn n (sgA F n w) F) := by unfold gr1; dsimp only; rw [h]
    rw [e]
    obtain ⟨a1, a2, a3, a4, a5⟩ := wnt_some h
    obtain ⟨b1, b2, b3⟩ := sgA_spec a3
    obtain ⟨c1, c2, c3⟩ := pr_inv ho (q := q) (pOk_nr h1 a1 (ns_m1 F b1) (by omega) a2) h2
    exact ⟨c1, c2, c3, lrn_ok hn b1 hs⟩
theorem gv1_ok {is : List Nat} {b : Nat} {R L C q : Nat} (ho : oct is) (h1 : pOk R L) (h2 : C < 4294967296) : pOk (gv1 is b (R, L, C, q)).2.1 (gv1 is b (R, L, C, q)).2.2.1 ∧ (gv1 is b (R, L, C, q)).2.2.2.1 < 4294967296 ∧ (gv1 is b (R, L, C, q)).2.2.2.2 ≤ q + 4 := by
  cases h : wnt (2 ^ b) R ((C + 4294967296 - L) % 4294967296) with
  | none =>
    have e : gv1 is b (R, L, C, q) = (none, (R, L, C, q)) := by unfold gv1; dsimp only; rw [h]
    rw [e]
    exact ⟨h1, h2, by show q ≤ _; omega⟩
  | some w =>
    have e : gv1 is b (R, L, C, q) = (some w, prS is (R / 2 ^ b * 1, L + R / 2 ^ b * w, C, q)) := by unfold gv1; dsimp only; rw [h]
    rw [e]
    obtain ⟨a1, a2, a3, a4, a5⟩ := wnt_some h
    exact pr_inv ho (q := q) (pOk_nr h1 a1 (show w + 1 ≤ 2 ^ b by omega) (by decide) a2) h2
theorem gn_main {is : List Nat} (ho : oct is) {sh : Nat} (hs : 1 ≤ sh) : ∀ (k nd : Nat) (r : RS) (D : Nat → Nat), k ≤ 6 → nd < 2 ^ (7 - k) → rInv r → (∀ j, j < 64 → 1 ≤ D j ∧ D j ≤ 2047) → rInv (gnN is sh k nd r D).2.1 ∧ (gnN is sh k nd r D).2.1.2.2 ≤ r.2.2 + 3 * k ∧ ∀ j, j < 64 → 1 ≤ (gnN is sh k nd r D).2.2 j ∧ (gnN is sh k nd r D).2.2 j ≤ 2047
  | 0, nd, r, D, _, _, h, hD => ⟨h, Nat.le_refl _, hD⟩
  | k + 1, nd, r, D, hk, hnd, h, hD => by
    have hn64 : nd < 64 := Nat.lt_of_lt_of_le hnd (Nat.le_trans (Nat.pow_le_pow_right (by decide) (show 7 - (k + 1) ≤ 6 by omega)) (by decide))
    obtain ⟨c1, c2⟩ := hD nd hn64
    have hr : 16777216 ≤ r.1 := h.1
    have hb1 : 0 < r.1 / 2048 * D nd := Nat.mul_pos (by omega) (by omega)
    have hb2 : r.1 / 2048 * D nd < r.1 := by
      have a : r.1 / 2048 * D nd ≤ r.1 / 2048 * 2047 := Nat.mul_le_mul_left _ c2
      omega
    obtain ⟨d1, d2, d3, d4⟩ := rb_ok (q := r.2.2) hb1 hb2 h.2.1 h.2.2
    obtain ⟨e1, e2, e3⟩ := wr_inv ho d1 d2 d3
    have hbt := rbt_lt (r.1 / 2048 * D nd) r.2.1
    have hnd2 : 2 * nd + rbt (r.1 / 2048 * D nd) r.2.1 < 2 ^ (7 - k) := by
      have e7 : 7 - k = (7 - (k + 1)) + 1 := by omega
      rw [e7, Nat.pow_succ]
      omega
    obtain ⟨f1, f2, f3⟩ := gn_main ho hs k (2 * nd + rbt (r.1 / 2048 * D nd) r.2.1) _ (upN D nd (mvC sh (rbt (r.1 / 2048 * D nd) r.2.1) (D nd))) (by omega) hnd2 e1 (ch_up hs hD)
    rw [d4] at e2
    refine ⟨f1, ?_, f3⟩
    show (gnN is sh k _ _ _).2.1.2.2 ≤ _
    omega
theorem gn_ok {is : List Nat} (ho : oct is) {sh n : Nat} (hs : 1 ≤ sh) {r : RS} {D : Nat → Nat} (h : rInv r) (hD : ∀ j, j < 64 → 1 ≤ D j ∧ D j ≤ 2047) : rInv (gnS is sh n r D).2.1 ∧ (gnS is sh n r D).2.1.2.2 ≤ r.2.2 + 18 ∧ ∀ j, j < 64 → 1 ≤ (gnS is sh n r D).2.2 j ∧ (gnS is sh n r D).2.2 j ≤ 2047 := by
  have hl := lev_6 n
  obtain ⟨a, b, c⟩ := gn_main ho hs (lev n) 1 r D hl (Nat.lt_of_lt_of_le (by decide : 1 < 2 ^ 1) (Nat.pow_le_pow_right (by decide) (by omega))) h hD
  unfold gnS
  split
  · exact ⟨a, by show (gnN is sh (lev n) 1 r D).2.1.2.2 ≤ _; omega, c⟩
  · exact ⟨h, by show r.2.2 ≤ _; omega, hD⟩
theorem pb_main {is : List Nat} (ho : oct is) : ∀ (k v : Nat) (r : RS), rInv r → (pbN is k v r).1 ≠ none → rInv (pbN is k v r).2 ∧ (pbN is k v r).2.2.2 ≤ r.2.2 + 3 * k
  | 0, v, r, h, _ => ⟨h, Nat.le_refl _⟩
  | k + 1, v, r, h, hn => by
    have hr : 16777216 ≤ r.1 := h.1
    have hr2 : r.1 < 4294967296 := h.2.1
    by_cases hc : crd r < r.1 / 2
    · have e : pbN is (k + 1) v r = pbN is k (2 * v + rbt (r.1 / 2) r.2.1) (wrS is (r.1 / 2, crd r, r.2.2)) := by
        show (if crd r < r.1 / 2 then _ else _) = _
        rw [if_pos hc]
      rw [e] at hn ⊢
      obtain ⟨e1, e2, e3⟩ := wr_inv ho (r := (r.1 / 2, crd r, r.2.2)) (show 0 < r.1 / 2 by omega) (show r.1 / 2 < 4294967296 by omega) (show crd r < 4294967296 by omega)
      obtain ⟨f1, f2⟩ := pb_main ho k _ _ e1 hn
      have e2' : (wrS is (r.1 / 2, crd r, r.2.2)).2.2 ≤ r.2.2 + 3 := e2
      exact ⟨f1, by omega⟩
    · have e : pbN is (k + 1) v r = (none, (r.1 / 2, crd r, r.2.2)) := by
        show (if crd r < r.1 / 2 then _ else _) = _
        rw [if_neg hc]
      rw [e] at hn
      exact absurd rfl hn
theorem pb_ok {is : List Nat} (ho : oct is) {b : Nat} {r : RS} (h : rInv r) (hn : (pbS is b r).1 ≠ none) : rInv (pbS is b r).2 ∧ (pbS is b r).2.2.2 ≤ r.2.2 + 3 * b := by
  unfold pbS at hn ⊢
  split at hn
  · rename_i z
    rw [if_pos z]
    exact pb_main ho b 0 r h hn
  · exact absurd rfl hn
theorem rf_main {is : List Nat} (ho : oct is) : ∀ (c k : Nat) (r : Nat × Nat), c ≤ 3 → c < k → 256 ^ (3 - c) / 2 ≤ r.1 → 0 < r.1 → r.1 < 4294967296 → 8388608 ≤ (rfN is k r).1 ∧ (rfN is k r).1 < 4294967296 ∧ (rfN is k r).2 ≤ r.2 + c := by
  intro c
  induction c with
  | zero =>
    intro k r _ hk h1 h0 h2
    have h1 : 8388608 ≤ r.1 := h1
    rw [rfN_e (by omega)]
    exact ⟨h1, h2, Nat.le_refl _⟩
  | succ c ih =>
    intro k r hc hk h1 h0 h2
    by_cases hr : r.1 < 8388608
    · rw [rfN_s (by omega) hr]
      have hb := ho r.2
      have hp : 256 ^ (3 - c) / 2 ≤ r.1 * 256 + byA is r.2 := by
        have hx : c = 0 ∨ c = 1 ∨ c = 2 := by omega
        rcases hx with e | e | e <;> subst e <;> simp at h1 ⊢ <;> omega
      obtain ⟨a, b, d⟩ := ih (k - 1) (r.1 * 256 + byA is r.2, r.2 + 1) (by omega) (by omega) hp (show 0 < r.1 * 256 + byA is r.2 by omega) (show r.1 * 256 + byA is r.2 < 4294967296 by omega)
      have d' : (rfN is (k - 1) (r.1 * 256 + byA is r.2, r.2 + 1)).2 ≤ r.2 + 1 + c := d
      exact ⟨a, b, by omega⟩
    · rw [rfN_e hr]
      exact ⟨by omega, h2, by omega⟩
theorem rf_ok {is : List Nat} (ho : oct is) {x q : Nat} (h1 : 0 < x) (h2 : x < 4294967296) : 8388608 ≤ (rfS is (x, q)).1 ∧ (rfS is (x, q)).1 < 4294967296 ∧ (rfS is (x, q)).2 ≤ q + 3 := rf_main ho 3 8 (x, q) (by decide) (by decide) (by show 1 / 2 ≤ x; omega) h1 h2
theorem gs3_ok {is : List Nat} (ho : oct is) {n X q : Nat} {F : Nat → Nat} (hs : ns F n = 0 ∨ ns F n = 4096) (h1 : 8388608 ≤ X) (h2 : X < 4294967296) : 8388608 ≤ (gs3 is n F X q).2.1 ∧ (gs3 is n F X q).2.1 < 4294967296 ∧ (gs3 is n F X q).2.2 ≤ q + 3 := by
  unfold gs3
  split
  · exact ⟨h1, h2, by show q ≤ _; omega⟩
  · rename_i z
    have hs' : ns F n = 4096 := by omega
    obtain ⟨b1, b2, b3⟩ := sgA_spec (F := F) (n := n) (u := X % 4096) (by rw [hs']; exact Nat.mod_lt _ (by decide))
    have hm := ns_m1 F b1
    generalize hsg : sgA F n (X % 4096) = sg at b1 b2 b3 hm ⊢
    have hf : 0 < F sg := by omega
    have hf2 : F sg ≤ 4096 := by omega
    have hx : X / 4096 ≤ 1048575 := by omega
    have ha : X / 4096 * F sg ≤ 1048575 * F sg := Nat.mul_le_mul_right _ hx
    have hb : X / 4096 * 1 ≤ X / 4096 * F sg := Nat.mul_le_mul_left _ hf
    exact rf_ok ho (show 0 < X / 4096 * F sg + X % 4096 - ns F sg by omega) (show X / 4096 * F sg + X % 4096 - ns F sg < 4294967296 by omega)
theorem gv3_ok {is : List Nat} (ho : oct is) {b X q : Nat} (hb : b ≤ 12) (h1 : 8388608 ≤ X) (h2 : X < 4294967296) : 8388608 ≤ (gv3 is b X q).1 ∧ (gv3 is b X q).1 < 4294967296 ∧ (gv3 is b X q).2 ≤ q + 3 := by
  unfold gv3
  have hp : 0 < 4096 / 2 ^ b := Nat.div_pos (pw12 hb) (Nat.two_pow_pos _)
  have hp2 : 4096 / 2 ^ b ≤ 4096 := Nat.div_le_self _ _
  generalize 4096 / 2 ^ b = f at hp hp2 ⊢
  have hx : X / 4096 ≤ 1048575 := by omega
  have ha : X / 4096 * f ≤ 1048575 * f := Nat.mul_le_mul_right _ hx
  have hb : X / 4096 * 1 ≤ X / 4096 * f := Nat.mul_le_mul_left _ hp
  have hm : X % 4096 % f < f := Nat.mod_lt _ hp
  have hd := Nat.div_add_mod (X % 4096) f
  exact rf_ok ho (show 0 < X / 4096 * f + X % 4096 - f * (X % 4096 / f) by omega) (show X / 4096 * f + X % 4096 - f * (X % 4096 / f) < 4294967296 by omega)
theorem RD0_up {cn : Nat} {a : Int32} {c r : Int64} (h : RD0 cn a c r) : RD0 (cn + 1) a c r := by
  obtain ⟨x1, x2, x3, e1, e2, e3, h1, h2, h3⟩ := h
  exact ⟨x1, x2, x3, e1, e2, e3, h1, h2, by omega⟩
theorem RD1_up {cn : Nat} {a : Int32} {c x r : Int64} (h : RD1 cn a c x r) : RD1 (cn + 1) a c x r := by
  obtain ⟨x1, x2, x3, x4, e1, e2, e3, e4, h1, h2, h3⟩ := h
  exact ⟨x1, x2, x3, x4, e1, e2, e3, e4, h1, h2, by omega⟩
theorem RD2_up {cn : Nat} {a : Int32} {c r : Int64} (h : RD2 cn a c r) : RD2 (cn + 1) a c r := by
  obtain ⟨x1, x2, x3, e1, e2, e3, h1, h3⟩ := h
  exact ⟨x1, x2, x3, e1, e2, e3, h1, by omega⟩
theorem RD3_up {cn : Nat} {a : Int32} {x : Int64} (h : RD3 cn a x) : RD3 (cn + 1) a x := by
  obtain ⟨x1, x3, e1, e2, h1, h2, h3⟩ := h
  exact ⟨x1, x3, e1, e2, h1, h2, by omega⟩
theorem RD4_up {cn : Nat} {a b : Int32} {x : Int64} (h : RD4 cn a b x) : RD4 (cn + 1) a b x := by
  obtain ⟨x1, x3, e1, e2, e3, h1, h2, h3⟩ := h
  exact ⟨x1, x3, e1, e2, e3, h1, h2, by omega⟩
end
section
set_option maxHeartbeats 2000000 in
set_option maxRecDepth 100000 in
theorem c_M_get0 (l : Launch) (dC : Nat → ClassId) (dI : Nat → Nat → Nat) (cI cM cO : ClassId) (sz : Nat) (o : Nat) (g : Nat → Nat) (fForm : Int32) (fShift : Int32) (fModels : Int32) (fItems : Int32) (fEnded : Int32) (fLow : Int64) (fRange : Int64) (fCache : Int32) (fPend : Int32) (fGoes : Int32) (fOuts : Int32) (fIns : Int32) (fReads : Int32) (fBad : Int32) (fIR : Int32) (fAsk : Int32) (fBAsk : Int32) (fCode : Int64) (fRL : Int64) (fRR : Int64) (fX : Int64) (fWrites : Int32) (fThrown : Int32) (vMany : Nat → Int32) (vCounts : Nat → Int32) (vThen : Nat → Int32) (vIn : Nat → Int32) (km : Nat) (N : Nat → Nat) (cn : Nat) (p1 : Int32) (hfo : fForm = 0) (hmod : fModels = nI km) (hMD : MD km N vMany vCounts) (hIN : IN fIns vIn) (hcn : cn ≤ 1000) (hU : TB 0 km N vThen) (hRD : ¬ fReads = 0 → fBad = 0 → RD0 cn fAsk fCode fRR) : MetI l y_M_get (Cond.code y_M_get prog_14_method_56_code 3 (some .int) :: gw) ({ frames := 4, cells := 0, slots := 0, locals := 91 } : Room) (dC, dI) vwCl (kT cI cM cO) [Value.ref o, Value.int p1] [(o, Sum.inr (9, mO g fForm fShift fModels fItems fEnded fLow fRange fCache fPend fGoes fOuts fIns fReads fBad fIR fAsk fBAsk fCode fRL fRR fX fWrites fThrown)), ((g 0), Sum.inl (cI, 8, Sum.inl vMany)), ((g 1), Sum.inl (cI, 512, Sum.inl vCounts)), ((g 3), Sum.inl (cI, 512, Sum.inl vThen)), ((g 8), Sum.inl (cI, 6000, Sum.inl vIn))] sz (fun (r : Int32) (u : Int32 × Int32 × Int32 × Int64 × Int64 × Int32 × (Nat → Int32)) => (¬ fReads = 0 → u.1 = 0 → RD0 (cn + 1) u.2.2.1 u.2.2.2.1 u.2.2.2.2.1) ∧ TB 0 km N u.2.2.2.2.2.2) (fun (u : Int32 × Int32 × Int32 × Int64 × Int64 × Int32 × (Nat → Int32)) => [(o, Sum.inr (9, mO g fForm fShift fModels fItems fEnded fLow fRange fCache fPend fGoes fOuts fIns fReads u.1 u.2.1 u.2.2.1 fBAsk u.2.2.2.1 fRL u.2.2.2.2.1 fX fWrites u.2.2.2.2.2.1)), ((g 0), Sum.inl (cI, 8, Sum.inl vMany)), ((g 1), Sum.inl (cI, 512, Sum.inl vCounts)), ((g 3), Sum.inl (cI, 512, Sum.inl u.2.2.2.2.2.2)), ((g 8), Sum.inl (cI, 6000, Sum.inl vIn))]) 0 0 := by
  refine my_ofI (cc := prog_14_method_56_code) (n := 3) (ret := (some .int)) (by decide) rfl (Nat.le_of_ble_eq_true rfl) ?_
  intro p e s m args below meth c R Q A ls H locs hx hb hr hts hown hlocks hml hnm hR hQ hA hl hP hK hN hD hS
  have hg : ∀ w ∈ gw, w.before args s = true := fun w h => hts w (List.mem_cons_of_mem _ h)
  have hown : s.vm.findClass "RangeCodersModel" = some m.cls := hown
  have hl : lv_has ls 3 [(0, Value.ref o), (1, Value.int p1)] := hl
  subst hfo
  obtain ⟨is, rfl, hIn, hlen, hoct⟩ := hIN
  have hPD : my_PD (dC, dI) vwCl A [(o, Sum.inr (9, mO g 0 fShift fModels fItems fEnded fLow fRange fCache fPend fGoes fOuts (nI is.length) fReads fBad fIR fAsk fBAsk fCode fRL fRR fX fWrites fThrown)), ((g 0), Sum.inl (cI, 8, Sum.inl vMany)), ((g 1), Sum.inl (cI, 512, Sum.inl vCounts)), ((g 3), Sum.inl (cI, 512, Sum.inl vThen)), ((g 8), Sum.inl (cI, 6000, Sum.inl vIn))] H := ⟨hP, hD⟩
  have hP := hPD.1
  have hD := hPD.2
  have hl : lv_has ls 3 [(0, Value.ref o), (1, Value.int p1)] := hl
  refine lv_aload_n hx hb d_M_get_0 rfl (lv_at hl 0 rfl) ?_
  refine lv_iconst (v := 0) hx hb d_M_get_1 (by decide) ?_
  refine va_put (D := (dC, dI)) (ci := 9) (v := .int 0) (ty := .int) (C := "RangeCodersModel") (T := T_M) (N := 35) hx hb hg in_M t_M o_M n_M hown hK hP hD hS 0 rfl rfl 34 (by decide) (hg _ k986) (fun _ h9 => h9) rfl (o_M 34 (by decide)) rfl rfl (Nat.le_of_ble_eq_true rfl) d_M_get_2 (fun H locs hP hD hS => ?_)
  have hPD : my_PD (dC, dI) vwCl A [(o, Sum.inr (9, mO g 0 fShift fModels fItems fEnded fLow fRange fCache fPend fGoes fOuts (nI is.length) fReads fBad fIR fAsk fBAsk fCode fRL fRR fX fWrites 0)), ((g 0), Sum.inl (cI, 8, Sum.inl vMany)), ((g 1), Sum.inl (cI, 512, Sum.inl vCounts)), ((g 3), Sum.inl (cI, 512, Sum.inl vThen)), ((g 8), Sum.inl (cI, 6000, Sum.inl vIn))] H := ⟨hP, hD⟩
  have hP := hPD.1
  have hD := hPD.2
  refine lv_aload_n hx hb d_M_get_5 rfl (lv_at hl 0 rfl) ?_
  refine lv_iload_n hx hb d_M_get_6 rfl (lv_at hl 1 rfl) ?_
  refine my_ci (wr := [((g 0), Sum.inl (cI, 8, Sum.inl vMany)), ((g 1), Sum.inl (cI, 512, Sum.inl vCounts)), ((g 3), Sum.inl (cI, 512, Sum.inl vThen)), ((g 8), Sum.inl (cI, 6000, Sum.inl vIn))]) (va_runV (As := [Value.int p1]) (rest := []) ⟨hx, hb, hml, hown, hts⟩ (c_M_isModel l dC dI cI cM cO H.size o g 0 fShift fModels fItems fEnded fLow fRange fCache fPend fGoes fOuts (nI is.length) fReads fBad fIR fAsk fBAsk fCode fRL fRR fX fWrites 0 p1) (cwV 1 hts (my_gV k1073 k1075 ks26 k12 k1076) rfl rfl rfl cu_M_isModel_1 ⟨by rw [hR]; exact Nat.le_of_ble_eq_true rfl, by rw [hR]; exact Nat.le_of_ble_eq_true rfl⟩) (my_preV hK hN (hP.sub [0] rfl) (hD.sub [0] (by decide +kernel) rfl) 0 rfl rfl) rfl rfl hl.1 rfl (lv_room (Nat.le_of_ble_eq_true rfl)) d_M_get_7 ⟨by rw [hR]; exact Nat.le_of_ble_eq_true rfl, by rw [hR]; exact Nat.le_of_ble_eq_true rfl⟩) hP hD hS hA [0] [1, 2, 3, 4] rfl rfl (by decide +kernel) (by decide +kernel) (fun r_7 u9 H locs hw_7 hP hD hS => ?_)
  have hw_7 : r_7 = if 0 ≤ p1 ∧ p1 ≤ fModels - 1 then 1 else 0 := hw_7
  have hPD : my_PD (dC, dI) vwCl A [((g 0), Sum.inl (cI, 8, Sum.inl vMany)), ((g 1), Sum.inl (cI, 512, Sum.inl vCounts)), ((g 3), Sum.inl (cI, 512, Sum.inl vThen)), ((g 8), Sum.inl (cI, 6000, Sum.inl vIn)), (o, Sum.inr (9, mO g 0 fShift fModels fItems fEnded fLow fRange fCache fPend fGoes fOuts (nI is.length) fReads fBad fIR fAsk fBAsk fCode fRL fRR fX fWrites 0))] H := ⟨hP, hD⟩
  have hP := hPD.1
  have hD := hPD.2
  refine lv_if_ne (tgt := 15) hx hb d_M_get_10 (by decide) (fun c_1 => ?_) (fun c_1 => ?_)
  · refine lv_aload_n hx hb d_M_get_15 rfl (lv_at hl 0 rfl) ?_
    refine va_get (D := (dC, dI)) (ci := 9) (v := .int fReads) (C := "RangeCodersModel") (T := T_M) (N := 35) hx hb hg in_M hown hK hP 4 rfl rfl 21 (by decide) (hg _ k973) (fun _ h9 => h9) rfl d_M_get_16 ?_
    refine lv_if_ne (tgt := 25) hx hb d_M_get_19 (by decide) (fun c_2 => ?_) (fun c_2 => ?_)
    · refine lv_aload_n hx hb d_M_get_25 rfl (lv_at hl 0 rfl) ?_
      refine va_get (D := (dC, dI)) (ci := 9) (v := .int fBad) (C := "RangeCodersModel") (T := T_M) (N := 35) hx hb hg in_M hown hK hP 4 rfl rfl 22 (by decide) (hg _ k974) (fun _ h9 => h9) rfl d_M_get_26 ?_
      refine lv_if_eq (tgt := 35) hx hb d_M_get_29 (by decide) (fun c_3 => ?_) (fun c_3 => ?_)
      · have hT := hU
        rw [hmod] at hw_7
        obtain ⟨jj, hj, ej⟩ := md_of hMD.1 (one_ne hw_7 c_1)
        subst ej
        have hk8 := hMD.1
        obtain ⟨hn9, hn2, hn64, C9, hc9, hB9⟩ := hMD.2 jj hj
        obtain ⟨RR, CD, q, rfl, rfl, rfl, hR1, hC, hq⟩ := hRD c_2 c_3
        have hPD : my_PD (dC, dI) vwCl A [((g 0), Sum.inl (cI, 8, Sum.inl vMany)), ((g 1), Sum.inl (cI, 512, Sum.inl vCounts)), ((g 3), Sum.inl (cI, 512, Sum.inl vThen)), ((g 8), Sum.inl (cI, 6000, Sum.inl vIn)), (o, Sum.inr (9, mO g 0 fShift fModels fItems fEnded fLow fRange fCache fPend fGoes fOuts (nI is.length) fReads fBad fIR (nI q) fBAsk (lN CD) fRL (lN RR) fX fWrites 0))] H := ⟨hP, hD⟩
        have hP := hPD.1
        have hD := hPD.2
        obtain ⟨F9, hF⟩ := hT jj hj
        obtain ⟨hF9, hs9⟩ := tab_01 (by decide) hF
        refine lv_aload_n hx hb d_M_get_35 rfl (lv_at hl 0 rfl) ?_
        refine va_get (D := (dC, dI)) (ci := 9) (v := .int 0) (C := "RangeCodersModel") (T := T_M) (N := 35) hx hb hg in_M hown hK hP 4 rfl rfl 0 (by decide) (hg _ k952) (fun _ h9 => h9) rfl d_M_get_36 ?_
        refine lv_iconst (v := 2) hx hb d_M_get_39 (by decide) ?_
        refine lv_icmp_ge (tgt := 51) hx hb d_M_get_40 (by decide) (fun c_4 => ?_) (fun c_4 => ?_)
        · exact absurd c_4 (by decide)
        · refine lv_aload_n hx hb d_M_get_43 rfl (lv_at hl 0 rfl) ?_
          refine lv_iload_n hx hb d_M_get_44 rfl (lv_at hl 1 rfl) ?_
          refine my_ci (wr := [((g 1), Sum.inl (cI, 512, Sum.inl vCounts))]) (va_runV (As := [Value.int (nI jj)]) (rest := []) ⟨hx, hb, hml, hown, hts⟩ (c_M_getRanged0 l dC dI cI cM cO H.size o g fShift fModels fItems fEnded fLow fRange fCache fPend fGoes fOuts fReads fBad fIR fBAsk fRL fX fWrites 0 vMany vThen vIn jj (N jj) F9 RR CD is q (by omega) (hn9) (hn64) (by omega) (hIn) (hlen) (hoct) (by omega) (hF9) (hs9) (hR1) (hC)) (cwV 1 hts (my_gV k1206 k1208 ks47 k12 k1209) rfl rfl rfl cu_M_getRanged_1 ⟨by rw [hR]; exact Nat.le_of_ble_eq_true rfl, by rw [hR]; exact Nat.le_of_ble_eq_true rfl⟩) (my_preV hK hN (hP.sub [4, 0, 2, 3] rfl) (hD.sub [4, 0, 2, 3] (by decide +kernel) rfl) 0 rfl rfl) rfl rfl hl.1 rfl (lv_room (Nat.le_of_ble_eq_true rfl)) d_M_get_45 ⟨by rw [hR]; exact Nat.le_of_ble_eq_true rfl, by rw [hR]; exact Nat.le_of_ble_eq_true rfl⟩) hP hD hS hA [4, 0, 2, 3] [1] rfl rfl (by decide +kernel) (by decide +kernel) (fun r_45 u9 H locs hw_45 hP hD hS => ?_)
          obtain ⟨f2_45, rfl⟩ : ∃ z, z = u9 := ⟨_, rfl⟩
          have hw_45 : r_45 = oI (gr0 is (N jj) F9 (RR, CD, q)).1 ∧ sgI f2_45 (64 * jj) (N jj) (gr0 is (N jj) F9 (RR, CD, q)).2.2 ∧ sgO f2_45 vThen (64 * jj) (N jj) := hw_45
          have hPD : my_PD (dC, dI) vwCl A [((g 1), Sum.inl (cI, 512, Sum.inl vCounts)), (o, Sum.inr (9, mO g 0 fShift fModels fItems fEnded fLow fRange fCache fPend fGoes fOuts (nI is.length) fReads fBad fIR (nI (gr0 is (N jj) F9 (RR, CD, q)).2.1.2.2) fBAsk (lN (gr0 is (N jj) F9 (RR, CD, q)).2.1.2.1) fRL (lN (gr0 is (N jj) F9 (RR, CD, q)).2.1.1) fX fWrites 0)), ((g 0), Sum.inl (cI, 8, Sum.inl vMany)), ((g 3), Sum.inl (cI, 512, Sum.inl f2_45)), ((g 8), Sum.inl (cI, 6000, Sum.inl vIn))] H := ⟨hP, hD⟩
          have hP := hPD.1
          have hD := hPD.2
          refine lv_goto (tgt := 88) hx hb d_M_get_48 (by decide) ?_
          have hg9 := gr0_ok (r := (RR, CD, q)) hoct hn64 hs9 hR1 hC
          have hg8 : (gr0 is (N jj) F9 (RR, CD, q)).2.1.2.2 ≤ q + 3 := hg9.2.2.1
          refine lv_istore_n (lv' := [(2, Value.int r_45), (0, Value.ref o), (1, Value.int (nI jj))]) hx hb d_M_get_88 rfl hl (by decide) rfl (fun ls hl => ?_)
          refine lv_iload_n hx hb d_M_get_89 rfl (lv_at hl 0 rfl) ?_
          refine lv_if_ge (tgt := 98) hx hb d_M_get_90 (by decide) (fun c_5 => ?_) (fun c_5 => ?_)
          · refine lv_aload_n hx hb d_M_get_98 rfl (lv_at hl 1 rfl) ?_
            refine lv_dup hx hb d_M_get_99 rfl ?_
            refine va_get (D := (dC, dI)) (ci := 9) (v := .int fIR) (C := "RangeCodersModel") (T := T_M) (N := 35) hx hb hg in_M hown hK hP 1 rfl rfl 23 (by decide) (hg _ k975) (fun _ h9 => h9) rfl d_M_get_100 ?_
            refine lv_iconst (v := 1) hx hb d_M_get_103 (by decide) ?_
            refine lv_iadd hx hb d_M_get_104 ?_
            refine lv_topi (fun v_6 ev_6 => ?_)
            refine va_put (D := (dC, dI)) (ci := 9) (v := .int v_6) (ty := .int) (C := "RangeCodersModel") (T := T_M) (N := 35) hx hb hg in_M t_M o_M n_M hown hK hP hD hS 1 rfl rfl 23 (by decide) (hg _ k975) (fun _ h9 => h9) rfl (o_M 23 (by decide)) rfl rfl (Nat.le_of_ble_eq_true rfl) d_M_get_105 (fun H locs hP hD hS => ?_)
            have hPD : my_PD (dC, dI) vwCl A [((g 1), Sum.inl (cI, 512, Sum.inl vCounts)), (o, Sum.inr (9, mO g 0 fShift fModels fItems fEnded fLow fRange fCache fPend fGoes fOuts (nI is.length) fReads fBad v_6 (nI (gr0 is (N jj) F9 (RR, CD, q)).2.1.2.2) fBAsk (lN (gr0 is (N jj) F9 (RR, CD, q)).2.1.2.1) fRL (lN (gr0 is (N jj) F9 (RR, CD, q)).2.1.1) fX fWrites 0)), ((g 0), Sum.inl (cI, 8, Sum.inl vMany)), ((g 3), Sum.inl (cI, 512, Sum.inl f2_45)), ((g 8), Sum.inl (cI, 6000, Sum.inl vIn))] H := ⟨hP, hD⟩
            have hP := hPD.1
            have hD := hPD.2
            refine lv_iload_n hx hb d_M_get_108 rfl (lv_at hl 0 rfl) ?_
            exact my_iret (v := r_45) hx hb hr (rfl) hlocks hQ hK hS (Nat.le_refl _) (Nat.le_refl _) (fBad, v_6, nI (gr0 is (N jj) F9 (RR, CD, q)).2.1.2.2, lN (gr0 is (N jj) F9 (RR, CD, q)).2.1.2.1, lN (gr0 is (N jj) F9 (RR, CD, q)).2.1.1, (0 : Int32), f2_45) (⟨fun _ _ => ⟨_, _, _, rfl, rfl, rfl, hg9.1, hg9.2.1, by omega⟩, TB_set hU (MD_N hMD) (sgO_w hw_45.2.2 hn64) (F := (gr0 is (N jj) F9 (RR, CD, q)).2.2) (Or.inl ⟨by decide, hw_45.2.1, hg9.2.2.2⟩)⟩) (hP.sub [1, 2, 0, 3, 4] rfl) (hD.sub [1, 2, 0, 3, 4] (by decide +kernel) rfl) d_M_get_109
          · refine lv_aload_n hx hb d_M_get_93 rfl (lv_at hl 1 rfl) ?_
            refine my_ci (wr := [((g 1), Sum.inl (cI, 512, Sum.inl vCounts)), ((g 0), Sum.inl (cI, 8, Sum.inl vMany)), ((g 3), Sum.inl (cI, 512, Sum.inl f2_45)), ((g 8), Sum.inl (cI, 6000, Sum.inl vIn))]) (va_runV (As := []) (rest := []) ⟨hx, hb, hml, hown, hts⟩ (c_M_spoiled l dC dI cI cM cO H.size o g 0 fShift fModels fItems fEnded fLow fRange fCache fPend fGoes fOuts (nI is.length) fReads fBad fIR (nI (gr0 is (N jj) F9 (RR, CD, q)).2.1.2.2) fBAsk (lN (gr0 is (N jj) F9 (RR, CD, q)).2.1.2.1) fRL (lN (gr0 is (N jj) F9 (RR, CD, q)).2.1.1) fX fWrites 0) (cwV 0 hts (my_gV k1252 k1254 ks58 k12 k1255) rfl rfl rfl cu_M_spoiled_0 ⟨by rw [hR]; exact Nat.le_of_ble_eq_true rfl, by rw [hR]; exact Nat.le_of_ble_eq_true rfl⟩) (my_preV hK hN (hP.sub [1] rfl) (hD.sub [1] (by decide +kernel) rfl) 0 rfl rfl) rfl rfl hl.1 rfl (lv_room (Nat.le_of_ble_eq_true rfl)) d_M_get_94 ⟨by rw [hR]; exact Nat.le_of_ble_eq_true rfl, by rw [hR]; exact Nat.le_of_ble_eq_true rfl⟩) hP hD hS hA [1] [0, 2, 3, 4] rfl rfl (by decide +kernel) (by decide +kernel) (fun r_94 u9 H locs hw_94 hP hD hS => ?_)
            have hw_94 : r_94 = -5 := hw_94
            have hPD : my_PD (dC, dI) vwCl A [((g 1), Sum.inl (cI, 512, Sum.inl vCounts)), ((g 0), Sum.inl (cI, 8, Sum.inl vMany)), ((g 3), Sum.inl (cI, 512, Sum.inl f2_45)), ((g 8), Sum.inl (cI, 6000, Sum.inl vIn)), (o, Sum.inr (9, mO g 0 fShift fModels fItems fEnded fLow fRange fCache fPend fGoes fOuts (nI is.length) fReads 1 fIR (nI (gr0 is (N jj) F9 (RR, CD, q)).2.1.2.2) fBAsk (lN (gr0 is (N jj) F9 (RR, CD, q)).2.1.2.1) fRL (lN (gr0 is (N jj) F9 (RR, CD, q)).2.1.1) fX fWrites 0))] H := ⟨hP, hD⟩
            have hP := hPD.1
            have hD := hPD.2
            exact my_iret (v := r_94) hx hb hr (rfl) hlocks hQ hK hS (Nat.le_refl _) (Nat.le_refl _) ((1 : Int32), fIR, (nI (gr0 is (N jj) F9 (RR, CD, q)).2.1.2.2), (lN (gr0 is (N jj) F9 (RR, CD, q)).2.1.2.1), (lN (gr0 is (N jj) F9 (RR, CD, q)).2.1.1), (0 : Int32), f2_45) (⟨fun z1 z2 => absurd z2 (show ¬ (1 : Int32) = 0 by decide), TB_set hU (MD_N hMD) (sgO_w hw_45.2.2 hn64) (F := (gr0 is (N jj) F9 (RR, CD, q)).2.2) (Or.inl ⟨by decide, hw_45.2.1, hg9.2.2.2⟩)⟩) (hP.sub [4, 1, 0, 2, 3] rfl) (hD.sub [4, 1, 0, 2, 3] (by decide +kernel) rfl) d_M_get_97
      · refine lv_bipush (v := (-5)) hx hb d_M_get_32 (by decide) ?_
        exact my_iret (v := (-5)) hx hb hr (rfl) hlocks hQ hK hS (Nat.le_refl _) (Nat.le_refl _) (fBad, fIR, fAsk, fCode, fRR, (0 : Int32), vThen) (⟨fun z1 z2 => absurd z2 c_3, hU⟩) (hP.sub [4, 0, 1, 2, 3] rfl) (hD.sub [4, 0, 1, 2, 3] (by decide +kernel) rfl) d_M_get_34
    · refine lv_bipush (v := (-3)) hx hb d_M_get_22 (by decide) ?_
      exact my_iret (v := (-3)) hx hb hr (rfl) hlocks hQ hK hS (Nat.le_refl _) (Nat.le_refl _) (fBad, fIR, fAsk, fCode, fRR, (0 : Int32), vThen) (⟨fun z1 z2 => absurd c_2 z1, hU⟩) (hP.sub [4, 0, 1, 2, 3] rfl) (hD.sub [4, 0, 1, 2, 3] (by decide +kernel) rfl) d_M_get_24
  · refine lv_iconst (v := (-1)) hx hb d_M_get_13 (by decide) ?_
    exact my_iret (v := (-1)) hx hb hr (rfl) hlocks hQ hK hS (Nat.le_refl _) (Nat.le_refl _) (fBad, fIR, fAsk, fCode, fRR, (0 : Int32), vThen) (⟨fun z1 z2 => RD0_up (hRD z1 z2), hU⟩) (hP.sub [4, 0, 1, 2, 3] rfl) (hD.sub [4, 0, 1, 2, 3] (by decide +kernel) rfl) d_M_get_14
set_option maxHeartbeats 2000000 in
set_option maxRecDepth 100000 in
theorem c_M_get1 (l : Launch) (dC : Nat → ClassId) (dI : Nat → Nat → Nat) (cI cM cO : ClassId) (sz : Nat) (o : Nat) (g : Nat → Nat) (fForm : Int32) (fShift : Int32) (fModels : Int32) (fItems : Int32) (fEnded : Int32) (fLow : Int64) (fRange : Int64) (fCache : Int32) (fPend : Int32) (fGoes : Int32) (fOuts : Int32) (fIns : Int32) (fReads : Int32) (fBad : Int32) (fIR : Int32) (fAsk : Int32) (fBAsk : Int32) (fCode : Int64) (fRL : Int64) (fRR : Int64) (fX : Int64) (fWrites : Int32) (fThrown : Int32) (vMany : Nat → Int32) (vCounts : Nat → Int32) (vThen : Nat → Int32) (vIn : Nat → Int32) (km : Nat) (N : Nat → Nat) (cn : Nat) (p1 : Int32) (hfo : fForm = 1) (hmod : fModels = nI km) (hMD : MD km N vMany vCounts) (hIN : IN fIns vIn) (hcn : cn ≤ 1000) (hU : TB 1 km N vThen) (hRD : ¬ fReads = 0 → fBad = 0 → RD1 cn fAsk fCode fRL fRR) : MetI l y_M_get (Cond.code y_M_get prog_14_method_56_code 3 (some .int) :: gw) ({ frames := 4, cells := 0, slots := 0, locals := 93 } : Room) (dC, dI) vwCl (kT cI cM cO) [Value.ref o, Value.int p1] [(o, Sum.inr (9, mO g fForm fShift fModels fItems fEnded fLow fRange fCache fPend fGoes fOuts fIns fReads fBad fIR fAsk fBAsk fCode fRL fRR fX fWrites fThrown)), ((g 0), Sum.inl (cI, 8, Sum.inl vMany)), ((g 1), Sum.inl (cI, 512, Sum.inl vCounts)), ((g 3), Sum.inl (cI, 512, Sum.inl vThen)), ((g 8), Sum.inl (cI, 6000, Sum.inl vIn))] sz (fun (r : Int32) (u : Int32 × Int32 × Int32 × Int64 × Int64 × Int64 × Int32 × (Nat → Int32)) => (¬ fReads = 0 → u.1 = 0 → RD1 (cn + 1) u.2.2.1 u.2.2.2.1 u.2.2.2.2.1 u.2.2.2.2.2.1) ∧ TB 1 km N u.2.2.2.2.2.2.2) (fun (u : Int32 × Int32 × Int32 × Int64 × Int64 × Int64 × Int32 × (Nat → Int32)) => [(o, Sum.inr (9, mO g fForm fShift fModels fItems fEnded fLow fRange fCache fPend fGoes fOuts fIns fReads u.1 u.2.1 u.2.2.1 fBAsk u.2.2.2.1 u.2.2.2.2.1 u.2.2.2.2.2.1 fX fWrites u.2.2.2.2.2.2.1)), ((g 0), Sum.inl (cI, 8, Sum.inl vMany)), ((g 1), Sum.inl (cI, 512, Sum.inl vCounts)), ((g 3), Sum.inl (cI, 512, Sum.inl u.2.2.2.2.2.2.2)), ((g 8), Sum.inl (cI, 6000, Sum.inl vIn))]) 0 0 := by
  refine my_ofI (cc := prog_14_method_56_code) (n := 3) (ret := (some .int)) (by decide) rfl (Nat.le_of_ble_eq_true rfl) ?_
  intro p e s m args below meth c R Q A ls H locs hx hb hr hts hown hlocks hml hnm hR hQ hA hl hP hK hN hD hS
  have hg : ∀ w ∈ gw, w.before args s = true := fun w h => hts w (List.mem_cons_of_mem _ h)
  have hown : s.vm.findClass "RangeCodersModel" = some m.cls := hown
  have hl : lv_has ls 3 [(0, Value.ref o), (1, Value.int p1)] := hl
  subst hfo
  obtain ⟨is, rfl, hIn, hlen, hoct⟩ := hIN
  have hPD : my_PD (dC, dI) vwCl A [(o, Sum.inr (9, mO g 1 fShift fModels fItems fEnded fLow fRange fCache fPend fGoes fOuts (nI is.length) fReads fBad fIR fAsk fBAsk fCode fRL fRR fX fWrites fThrown)), ((g 0), Sum.inl (cI, 8, Sum.inl vMany)), ((g 1), Sum.inl (cI, 512, Sum.inl vCounts)), ((g 3), Sum.inl (cI, 512, Sum.inl vThen)), ((g 8), Sum.inl (cI, 6000, Sum.inl vIn))] H := ⟨hP, hD⟩
  have hP := hPD.1
  have hD := hPD.2
  have hl : lv_has ls 3 [(0, Value.ref o), (1, Value.int p1)] := hl
  refine lv_aload_n hx hb d_M_get_0 rfl (lv_at hl 0 rfl) ?_
  refine lv_iconst (v := 0) hx hb d_M_get_1 (by decide) ?_
  refine va_put (D := (dC, dI)) (ci := 9) (v := .int 0) (ty := .int) (C := "RangeCodersModel") (T := T_M) (N := 35) hx hb hg in_M t_M o_M n_M hown hK hP hD hS 0 rfl rfl 34 (by decide) (hg _ k986) (fun _ h9 => h9) rfl (o_M 34 (by decide)) rfl rfl (Nat.le_of_ble_eq_true rfl) d_M_get_2 (fun H locs hP hD hS => ?_)
  have hPD : my_PD (dC, dI) vwCl A [(o, Sum.inr (9, mO g 1 fShift fModels fItems fEnded fLow fRange fCache fPend fGoes fOuts (nI is.length) fReads fBad fIR fAsk fBAsk fCode fRL fRR fX fWrites 0)), ((g 0), Sum.inl (cI, 8, Sum.inl vMany)), ((g 1), Sum.inl (cI, 512, Sum.inl vCounts)), ((g 3), Sum.inl (cI, 512, Sum.inl vThen)), ((g 8), Sum.inl (cI, 6000, Sum.inl vIn))] H := ⟨hP, hD⟩
  have hP := hPD.1
  have hD := hPD.2
  refine lv_aload_n hx hb d_M_get_5 rfl (lv_at hl 0 rfl) ?_
  refine lv_iload_n hx hb d_M_get_6 rfl (lv_at hl 1 rfl) ?_
  refine my_ci (wr := [((g 0), Sum.inl (cI, 8, Sum.inl vMany)), ((g 1), Sum.inl (cI, 512, Sum.inl vCounts)), ((g 3), Sum.inl (cI, 512, Sum.inl vThen)), ((g 8), Sum.inl (cI, 6000, Sum.inl vIn))]) (va_runV (As := [Value.int p1]) (rest := []) ⟨hx, hb, hml, hown, hts⟩ (c_M_isModel l dC dI cI cM cO H.size o g 1 fShift fModels fItems fEnded fLow fRange fCache fPend fGoes fOuts (nI is.length) fReads fBad fIR fAsk fBAsk fCode fRL fRR fX fWrites 0 p1) (cwV 1 hts (my_gV k1073 k1075 ks26 k12 k1076) rfl rfl rfl cu_M_isModel_1 ⟨by rw [hR]; exact Nat.le_of_ble_eq_true rfl, by rw [hR]; exact Nat.le_of_ble_eq_true rfl⟩) (my_preV hK hN (hP.sub [0] rfl) (hD.sub [0] (by decide +kernel) rfl) 0 rfl rfl) rfl rfl hl.1 rfl (lv_room (Nat.le_of_ble_eq_true rfl)) d_M_get_7 ⟨by rw [hR]; exact Nat.le_of_ble_eq_true rfl, by rw [hR]; exact Nat.le_of_ble_eq_true rfl⟩) hP hD hS hA [0] [1, 2, 3, 4] rfl rfl (by decide +kernel) (by decide +kernel) (fun r_7 u9 H locs hw_7 hP hD hS => ?_)
  have hw_7 : r_7 = if 0 ≤ p1 ∧ p1 ≤ fModels - 1 then 1 else 0 := hw_7
  have hPD : my_PD (dC, dI) vwCl A [((g 0), Sum.inl (cI, 8, Sum.inl vMany)), ((g 1), Sum.inl (cI, 512, Sum.inl vCounts)), ((g 3), Sum.inl (cI, 512, Sum.inl vThen)), ((g 8), Sum.inl (cI, 6000, Sum.inl vIn)), (o, Sum.inr (9, mO g 1 fShift fModels fItems fEnded fLow fRange fCache fPend fGoes fOuts (nI is.length) fReads fBad fIR fAsk fBAsk fCode fRL fRR fX fWrites 0))] H := ⟨hP, hD⟩
  have hP := hPD.1
  have hD := hPD.2
  refine lv_if_ne (tgt := 15) hx hb d_M_get_10 (by decide) (fun c_1 => ?_) (fun c_1 => ?_)
  · refine lv_aload_n hx hb d_M_get_15 rfl (lv_at hl 0 rfl) ?_
    refine va_get (D := (dC, dI)) (ci := 9) (v := .int fReads) (C := "RangeCodersModel") (T := T_M) (N := 35) hx hb hg in_M hown hK hP 4 rfl rfl 21 (by decide) (hg _ k973) (fun _ h9 => h9) rfl d_M_get_16 ?_
    refine lv_if_ne (tgt := 25) hx hb d_M_get_19 (by decide) (fun c_2 => ?_) (fun c_2 => ?_)
    · refine lv_aload_n hx hb d_M_get_25 rfl (lv_at hl 0 rfl) ?_
      refine va_get (D := (dC, dI)) (ci := 9) (v := .int fBad) (C := "RangeCodersModel") (T := T_M) (N := 35) hx hb hg in_M hown hK hP 4 rfl rfl 22 (by decide) (hg _ k974) (fun _ h9 => h9) rfl d_M_get_26 ?_
      refine lv_if_eq (tgt := 35) hx hb d_M_get_29 (by decide) (fun c_3 => ?_) (fun c_3 => ?_)
      · have hT := hU
        rw [hmod] at hw_7
        obtain ⟨jj, hj, ej⟩ := md_of hMD.1 (one_ne hw_7 c_1)
        subst ej
        have hk8 := hMD.1
        obtain ⟨hn9, hn2, hn64, C9, hc9, hB9⟩ := hMD.2 jj hj
        obtain ⟨RR, L, CD, q, rfl, rfl, rfl, rfl, hp, hC, hq⟩ := hRD c_2 c_3
        have hPD : my_PD (dC, dI) vwCl A [((g 0), Sum.inl (cI, 8, Sum.inl vMany)), ((g 1), Sum.inl (cI, 512, Sum.inl vCounts)), ((g 3), Sum.inl (cI, 512, Sum.inl vThen)), ((g 8), Sum.inl (cI, 6000, Sum.inl vIn)), (o, Sum.inr (9, mO g 1 fShift fModels fItems fEnded fLow fRange fCache fPend fGoes fOuts (nI is.length) fReads fBad fIR (nI q) fBAsk (lN CD) (lN L) (lN RR) fX fWrites 0))] H := ⟨hP, hD⟩
        have hP := hPD.1
        have hD := hPD.2
        obtain ⟨F9, hF⟩ := hT jj hj
        obtain ⟨hF9, hs9⟩ := tab_01 (by decide) hF
        refine lv_aload_n hx hb d_M_get_35 rfl (lv_at hl 0 rfl) ?_
        refine va_get (D := (dC, dI)) (ci := 9) (v := .int 1) (C := "RangeCodersModel") (T := T_M) (N := 35) hx hb hg in_M hown hK hP 4 rfl rfl 0 (by decide) (hg _ k952) (fun _ h9 => h9) rfl d_M_get_36 ?_
        refine lv_iconst (v := 2) hx hb d_M_get_39 (by decide) ?_
        refine lv_icmp_ge (tgt := 51) hx hb d_M_get_40 (by decide) (fun c_4 => ?_) (fun c_4 => ?_)
        · exact absurd c_4 (by decide)
        · refine lv_aload_n hx hb d_M_get_43 rfl (lv_at hl 0 rfl) ?_
          refine lv_iload_n hx hb d_M_get_44 rfl (lv_at hl 1 rfl) ?_
          refine my_ci (wr := [((g 1), Sum.inl (cI, 512, Sum.inl vCounts))]) (va_runV (As := [Value.int (nI jj)]) (rest := []) ⟨hx, hb, hml, hown, hts⟩ (c_M_getRanged1 l dC dI cI cM cO H.size o g fShift fModels fItems fEnded fLow fRange fCache fPend fGoes fOuts fReads fBad fIR fBAsk fX fWrites 0 vMany vThen vIn jj (N jj) F9 RR L CD is q (by omega) (hn9) (hn64) (by omega) (hIn) (hlen) (hoct) (by omega) (hF9) (hs9) (hp) (hC)) (cwV 1 hts (my_gV k1206 k1208 ks47 k12 k1209) rfl rfl rfl cu_M_getRanged_1 ⟨by rw [hR]; exact Nat.le_of_ble_eq_true rfl, by rw [hR]; exact Nat.le_of_ble_eq_true rfl⟩) (my_preV hK hN (hP.sub [4, 0, 2, 3] rfl) (hD.sub [4, 0, 2, 3] (by decide +kernel) rfl) 0 rfl rfl) rfl rfl hl.1 rfl (lv_room (Nat.le_of_ble_eq_true rfl)) d_M_get_45 ⟨by rw [hR]; exact Nat.le_of_ble_eq_true rfl, by rw [hR]; exact Nat.le_of_ble_eq_true rfl⟩) hP hD hS hA [4, 0, 2, 3] [1] rfl rfl (by decide +kernel) (by decide +kernel) (fun r_45 u9 H locs hw_45 hP hD hS => ?_)
          obtain ⟨f2_45, rfl⟩ : ∃ z, z = u9 := ⟨_, rfl⟩
          have hw_45 : r_45 = oI (gr1 is (N jj) F9 (RR, L, CD, q)).1 ∧ sgI f2_45 (64 * jj) (N jj) (gr1 is (N jj) F9 (RR, L, CD, q)).2.2 ∧ sgO f2_45 vThen (64 * jj) (N jj) := hw_45
          have hPD : my_PD (dC, dI) vwCl A [((g 1), Sum.inl (cI, 512, Sum.inl vCounts)), (o, Sum.inr (9, mO g 1 fShift fModels fItems fEnded fLow fRange fCache fPend fGoes fOuts (nI is.length) fReads fBad fIR (nI (gr1 is (N jj) F9 (RR, L, CD, q)).2.1.2.2.2) fBAsk (lN (gr1 is (N jj) F9 (RR, L, CD, q)).2.1.2.2.1) (lN (gr1 is (N jj) F9 (RR, L, CD, q)).2.1.2.1) (lN (gr1 is (N jj) F9 (RR, L, CD, q)).2.1.1) fX fWrites 0)), ((g 0), Sum.inl (cI, 8, Sum.inl vMany)), ((g 3), Sum.inl (cI, 512, Sum.inl f2_45)), ((g 8), Sum.inl (cI, 6000, Sum.inl vIn))] H := ⟨hP, hD⟩
          have hP := hPD.1
          have hD := hPD.2
          refine lv_goto (tgt := 88) hx hb d_M_get_48 (by decide) ?_
          have hg9 := gr1_ok (q := q) hoct hn64 hs9 hp hC
          refine lv_istore_n (lv' := [(2, Value.int r_45), (0, Value.ref o), (1, Value.int (nI jj))]) hx hb d_M_get_88 rfl hl (by decide) rfl (fun ls hl => ?_)
          refine lv_iload_n hx hb d_M_get_89 rfl (lv_at hl 0 rfl) ?_
          refine lv_if_ge (tgt := 98) hx hb d_M_get_90 (by decide) (fun c_5 => ?_) (fun c_5 => ?_)
          · refine lv_aload_n hx hb d_M_get_98 rfl (lv_at hl 1 rfl) ?_
            refine lv_dup hx hb d_M_get_99 rfl ?_
            refine va_get (D := (dC, dI)) (ci := 9) (v := .int fIR) (C := "RangeCodersModel") (T := T_M) (N := 35) hx hb hg in_M hown hK hP 1 rfl rfl 23 (by decide) (hg _ k975) (fun _ h9 => h9) rfl d_M_get_100 ?_
            refine lv_iconst (v := 1) hx hb d_M_get_103 (by decide) ?_
            refine lv_iadd hx hb d_M_get_104 ?_
            refine lv_topi (fun v_6 ev_6 => ?_)
            refine va_put (D := (dC, dI)) (ci := 9) (v := .int v_6) (ty := .int) (C := "RangeCodersModel") (T := T_M) (N := 35) hx hb hg in_M t_M o_M n_M hown hK hP hD hS 1 rfl rfl 23 (by decide) (hg _ k975) (fun _ h9 => h9) rfl (o_M 23 (by decide)) rfl rfl (Nat.le_of_ble_eq_true rfl) d_M_get_105 (fun H locs hP hD hS => ?_)
            have hPD : my_PD (dC, dI) vwCl A [((g 1), Sum.inl (cI, 512, Sum.inl vCounts)), (o, Sum.inr (9, mO g 1 fShift fModels fItems fEnded fLow fRange fCache fPend fGoes fOuts (nI is.length) fReads fBad v_6 (nI (gr1 is (N jj) F9 (RR, L, CD, q)).2.1.2.2.2) fBAsk (lN (gr1 is (N jj) F9 (RR, L, CD, q)).2.1.2.2.1) (lN (gr1 is (N jj) F9 (RR, L, CD, q)).2.1.2.1) (lN (gr1 is (N jj) F9 (RR, L, CD, q)).2.1.1) fX fWrites 0)), ((g 0), Sum.inl (cI, 8, Sum.inl vMany)), ((g 3), Sum.inl (cI, 512, Sum.inl f2_45)), ((g 8), Sum.inl (cI, 6000, Sum.inl vIn))] H := ⟨hP, hD⟩
            have hP := hPD.1
            have hD := hPD.2
            refine lv_iload_n hx hb d_M_get_108 rfl (lv_at hl 0 rfl) ?_
            exact my_iret (v := r_45) hx hb hr (rfl) hlocks hQ hK hS (Nat.le_refl _) (Nat.le_refl _) (fBad, v_6, nI (gr1 is (N jj) F9 (RR, L, CD, q)).2.1.2.2.2, lN (gr1 is (N jj) F9 (RR, L, CD, q)).2.1.2.2.1, lN (gr1 is (N jj) F9 (RR, L, CD, q)).2.1.2.1, lN (gr1 is (N jj) F9 (RR, L, CD, q)).2.1.1, (0 : Int32), f2_45) (⟨fun _ _ => ⟨_, _, _, _, rfl, rfl, rfl, rfl, hg9.1, hg9.2.1, by omega⟩, TB_set hU (MD_N hMD) (sgO_w hw_45.2.2 hn64) (F := (gr1 is (N jj) F9 (RR, L, CD, q)).2.2) (Or.inl ⟨by decide, hw_45.2.1, hg9.2.2.2⟩)⟩) (hP.sub [1, 2, 0, 3, 4] rfl) (hD.sub [1, 2, 0, 3, 4] (by decide +kernel) rfl) d_M_get_109
          · refine lv_aload_n hx hb d_M_get_93 rfl (lv_at hl 1 rfl) ?_
            refine my_ci (wr := [((g 1), Sum.inl (cI, 512, Sum.inl vCounts)), ((g 0), Sum.inl (cI, 8, Sum.inl vMany)), ((g 3), Sum.inl (cI, 512, Sum.inl f2_45)), ((g 8), Sum.inl (cI, 6000, Sum.inl vIn))]) (va_runV (As := []) (rest := []) ⟨hx, hb, hml, hown, hts⟩ (c_M_spoiled l dC dI cI cM cO H.size o g 1 fShift fModels fItems fEnded fLow fRange fCache fPend fGoes fOuts (nI is.length) fReads fBad fIR (nI (gr1 is (N jj) F9 (RR, L, CD, q)).2.1.2.2.2) fBAsk (lN (gr1 is (N jj) F9 (RR, L, CD, q)).2.1.2.2.1) (lN (gr1 is (N jj) F9 (RR, L, CD, q)).2.1.2.1) (lN (gr1 is (N jj) F9 (RR, L, CD, q)).2.1.1) fX fWrites 0) (cwV 0 hts (my_gV k1252 k1254 ks58 k12 k1255) rfl rfl rfl cu_M_spoiled_0 ⟨by rw [hR]; exact Nat.le_of_ble_eq_true rfl, by rw [hR]; exact Nat.le_of_ble_eq_true rfl⟩) (my_preV hK hN (hP.sub [1] rfl) (hD.sub [1] (by decide +kernel) rfl) 0 rfl rfl) rfl rfl hl.1 rfl (lv_room (Nat.le_of_ble_eq_true rfl)) d_M_get_94 ⟨by rw [hR]; exact Nat.le_of_ble_eq_true rfl, by rw [hR]; exact Nat.le_of_ble_eq_true rfl⟩) hP hD hS hA [1] [0, 2, 3, 4] rfl rfl (by decide +kernel) (by decide +kernel) (fun r_94 u9 H locs hw_94 hP hD hS => ?_)
            have hw_94 : r_94 = -5 := hw_94
            have hPD : my_PD (dC, dI) vwCl A [((g 1), Sum.inl (cI, 512, Sum.inl vCounts)), ((g 0), Sum.inl (cI, 8, Sum.inl vMany)), ((g 3), Sum.inl (cI, 512, Sum.inl f2_45)), ((g 8), Sum.inl (cI, 6000, Sum.inl vIn)), (o, Sum.inr (9, mO g 1 fShift fModels fItems fEnded fLow fRange fCache fPend fGoes fOuts (nI is.length) fReads 1 fIR (nI (gr1 is (N jj) F9 (RR, L, CD, q)).2.1.2.2.2) fBAsk (lN (gr1 is (N jj) F9 (RR, L, CD, q)).2.1.2.2.1) (lN (gr1 is (N jj) F9 (RR, L, CD, q)).2.1.2.1) (lN (gr1 is (N jj) F9 (RR, L, CD, q)).2.1.1) fX fWrites 0))] H := ⟨hP, hD⟩
            have hP := hPD.1
            have hD := hPD.2
            exact my_iret (v := r_94) hx hb hr (rfl) hlocks hQ hK hS (Nat.le_refl _) (Nat.le_refl _) ((1 : Int32), fIR, (nI (gr1 is (N jj) F9 (RR, L, CD, q)).2.1.2.2.2), (lN (gr1 is (N jj) F9 (RR, L, CD, q)).2.1.2.2.1), (lN (gr1 is (N jj) F9 (RR, L, CD, q)).2.1.2.1), (lN (gr1 is (N jj) F9 (RR, L, CD, q)).2.1.1), (0 : Int32), f2_45) (⟨fun z1 z2 => absurd z2 (show ¬ (1 : Int32) = 0 by decide), TB_set hU (MD_N hMD) (sgO_w hw_45.2.2 hn64) (F := (gr1 is (N jj) F9 (RR, L, CD, q)).2.2) (Or.inl ⟨by decide, hw_45.2.1, hg9.2.2.2⟩)⟩) (hP.sub [4, 1, 0, 2, 3] rfl) (hD.sub [4, 1, 0, 2, 3] (by decide +kernel) rfl) d_M_get_97
      · refine lv_bipush (v := (-5)) hx hb d_M_get_32 (by decide) ?_
        exact my_iret (v := (-5)) hx hb hr (rfl) hlocks hQ hK hS (Nat.le_refl _) (Nat.le_refl _) (fBad, fIR, fAsk, fCode, fRL, fRR, (0 : Int32), vThen) (⟨fun z1 z2 => absurd z2 c_3, hU⟩) (hP.sub [4, 0, 1, 2, 3] rfl) (hD.sub [4, 0, 1, 2, 3] (by decide +kernel) rfl) d_M_get_34
    · refine lv_bipush (v := (-3)) hx hb d_M_get_22 (by decide) ?_
      exact my_iret (v := (-3)) hx hb hr (rfl) hlocks hQ hK hS (Nat.le_refl _) (Nat.le_refl _) (fBad, fIR, fAsk, fCode, fRL, fRR, (0 : Int32), vThen) (⟨fun z1 z2 => absurd c_2 z1, hU⟩) (hP.sub [4, 0, 1, 2, 3] rfl) (hD.sub [4, 0, 1, 2, 3] (by decide +kernel) rfl) d_M_get_24
  · refine lv_iconst (v := (-1)) hx hb d_M_get_13 (by decide) ?_
    exact my_iret (v := (-1)) hx hb hr (rfl) hlocks hQ hK hS (Nat.le_refl _) (Nat.le_refl _) (fBad, fIR, fAsk, fCode, fRL, fRR, (0 : Int32), vThen) (⟨fun z1 z2 => RD1_up (hRD z1 z2), hU⟩) (hP.sub [4, 0, 1, 2, 3] rfl) (hD.sub [4, 0, 1, 2, 3] (by decide +kernel) rfl) d_M_get_14
set_option maxHeartbeats 2000000 in
set_option maxRecDepth 100000 in
theorem c_M_get2 (l : Launch) (dC : Nat → ClassId) (dI : Nat → Nat → Nat) (cI cM cO : ClassId) (sz : Nat) (o : Nat) (g : Nat → Nat) (fForm : Int32) (fShift : Int32) (fModels : Int32) (fItems : Int32) (fEnded : Int32) (fLow : Int64) (fRange : Int64) (fCache : Int32) (fPend : Int32) (fGoes : Int32) (fOuts : Int32) (fIns : Int32) (fReads : Int32) (fBad : Int32) (fIR : Int32) (fAsk : Int32) (fBAsk : Int32) (fCode : Int64) (fRL : Int64) (fRR : Int64) (fX : Int64) (fWrites : Int32) (fThrown : Int32) (vMany : Nat → Int32) (vCounts : Nat → Int32) (vThen : Nat → Int32) (vIn : Nat → Int32) (km : Nat) (N : Nat → Nat) (cn : Nat) (sh : Nat) (p1 : Int32) (hfo : fForm = 2) (hsh : fShift = nI sh) (hs1 : 1 ≤ sh) (hs2 : sh ≤ 10) (hmod : fModels = nI km) (hMD : MD km N vMany vCounts) (hIN : IN fIns vIn) (hcn : cn ≤ 1000) (hU : TB 2 km N vThen) (hRD : ¬ fReads = 0 → fBad = 0 → RD2 cn fAsk fCode fRR) : MetI l y_M_get (Cond.code y_M_get prog_14_method_56_code 3 (some .int) :: gw) ({ frames := 4, cells := 0, slots := 0, locals := 90 } : Room) (dC, dI) vwCl (kT cI cM cO) [Value.ref o, Value.int p1] [(o, Sum.inr (9, mO g fForm fShift fModels fItems fEnded fLow fRange fCache fPend fGoes fOuts fIns fReads fBad fIR fAsk fBAsk fCode fRL fRR fX fWrites fThrown)), ((g 0), Sum.inl (cI, 8, Sum.inl vMany)), ((g 1), Sum.inl (cI, 512, Sum.inl vCounts)), ((g 3), Sum.inl (cI, 512, Sum.inl vThen)), ((g 8), Sum.inl (cI, 6000, Sum.inl vIn))] sz (fun (r : Int32) (u : Int32 × Int32 × Int32 × Int64 × Int64 × Int32 × (Nat → Int32)) => (¬ fReads = 0 → u.1 = 0 → RD2 (cn + 1) u.2.2.1 u.2.2.2.1 u.2.2.2.2.1) ∧ TB 2 km N u.2.2.2.2.2.2) (fun (u : Int32 × Int32 × Int32 × Int64 × Int64 × Int32 × (Nat → Int32)) => [(o, Sum.inr (9, mO g fForm fShift fModels fItems fEnded fLow fRange fCache fPend fGoes fOuts fIns fReads u.1 u.2.1 u.2.2.1 fBAsk u.2.2.2.1 fRL u.2.2.2.2.1 fX fWrites u.2.2.2.2.2.1)), ((g 0), Sum.inl (cI, 8, Sum.inl vMany)), ((g 1), Sum.inl (cI, 512, Sum.inl vCounts)), ((g 3), Sum.inl (cI, 512, Sum.inl u.2.2.2.2.2.2)), ((g 8), Sum.inl (cI, 6000, Sum.inl vIn))]) 0 0 := by
  refine my_ofI (cc := prog_14_method_56_code) (n := 3) (ret := (some .int)) (by decide) rfl (Nat.le_of_ble_eq_true rfl) ?_
  intro p e s m args below meth c R Q A ls H locs hx hb hr hts hown hlocks hml hnm hR hQ hA hl hP hK hN hD hS
  have hg : ∀ w ∈ gw, w.before args s = true := fun w h => hts w (List.mem_cons_of_mem _ h)
  have hown : s.vm.findClass "RangeCodersModel" = some m.cls := hown
  have hl : lv_has ls 3 [(0, Value.ref o), (1, Value.int p1)] := hl
  subst hfo
  subst hsh
  obtain ⟨is, rfl, hIn, hlen, hoct⟩ := hIN
  have hPD : my_PD (dC, dI) vwCl A [(o, Sum.inr (9, mO g 2 (nI sh) fModels fItems fEnded fLow fRange fCache fPend fGoes fOuts (nI is.length) fReads fBad fIR fAsk fBAsk fCode fRL fRR fX fWrites fThrown)), ((g 0), Sum.inl (cI, 8, Sum.inl vMany)), ((g 1), Sum.inl (cI, 512, Sum.inl vCounts)), ((g 3), Sum.inl (cI, 512, Sum.inl vThen)), ((g 8), Sum.inl (cI, 6000, Sum.inl vIn))] H := ⟨hP, hD⟩
  have hP := hPD.1
  have hD := hPD.2
  have hl : lv_has ls 3 [(0, Value.ref o), (1, Value.int p1)] := hl
  refine lv_aload_n hx hb d_M_get_0 rfl (lv_at hl 0 rfl) ?_
  refine lv_iconst (v := 0) hx hb d_M_get_1 (by decide) ?_
  refine va_put (D := (dC, dI)) (ci := 9) (v := .int 0) (ty := .int) (C := "RangeCodersModel") (T := T_M) (N := 35) hx hb hg in_M t_M o_M n_M hown hK hP hD hS 0 rfl rfl 34 (by decide) (hg _ k986) (fun _ h9 => h9) rfl (o_M 34 (by decide)) rfl rfl (Nat.le_of_ble_eq_true rfl) d_M_get_2 (fun H locs hP hD hS => ?_)
  have hPD : my_PD (dC, dI) vwCl A [(o, Sum.inr (9, mO g 2 (nI sh) fModels fItems fEnded fLow fRange fCache fPend fGoes fOuts (nI is.length) fReads fBad fIR fAsk fBAsk fCode fRL fRR fX fWrites 0)), ((g 0), Sum.inl (cI, 8, Sum.inl vMany)), ((g 1), Sum.inl (cI, 512, Sum.inl vCounts)), ((g 3), Sum.inl (cI, 512, Sum.inl vThen)), ((g 8), Sum.inl (cI, 6000, Sum.inl vIn))] H := ⟨hP, hD⟩
  have hP := hPD.1
  have hD := hPD.2
  refine lv_aload_n hx hb d_M_get_5 rfl (lv_at hl 0 rfl) ?_
  refine lv_iload_n hx hb d_M_get_6 rfl (lv_at hl 1 rfl) ?_
  refine my_ci (wr := [((g 0), Sum.inl (cI, 8, Sum.inl vMany)), ((g 1), Sum.inl (cI, 512, Sum.inl vCounts)), ((g 3), Sum.inl (cI, 512, Sum.inl vThen)), ((g 8), Sum.inl (cI, 6000, Sum.inl vIn))]) (va_runV (As := [Value.int p1]) (rest := []) ⟨hx, hb, hml, hown, hts⟩ (c_M_isModel l dC dI cI cM cO H.size o g 2 (nI sh) fModels fItems fEnded fLow fRange fCache fPend fGoes fOuts (nI is.length) fReads fBad fIR fAsk fBAsk fCode fRL fRR fX fWrites 0 p1) (cwV 1 hts (my_gV k1073 k1075 ks26 k12 k1076) rfl rfl rfl cu_M_isModel_1 ⟨by rw [hR]; exact Nat.le_of_ble_eq_true rfl, by rw [hR]; exact Nat.le_of_ble_eq_true rfl⟩) (my_preV hK hN (hP.sub [0] rfl) (hD.sub [0] (by decide +kernel) rfl) 0 rfl rfl) rfl rfl hl.1 rfl (lv_room (Nat.le_of_ble_eq_true rfl)) d_M_get_7 ⟨by rw [hR]; exact Nat.le_of_ble_eq_true rfl, by rw [hR]; exact Nat.le_of_ble_eq_true rfl⟩) hP hD hS hA [0] [1, 2, 3, 4] rfl rfl (by decide +kernel) (by decide +kernel) (fun r_7 u9 H locs hw_7 hP hD hS => ?_)
  have hw_7 : r_7 = if 0 ≤ p1 ∧ p1 ≤ fModels - 1 then 1 else 0 := hw_7
  have hPD : my_PD (dC, dI) vwCl A [((g 0), Sum.inl (cI, 8, Sum.inl vMany)), ((g 1), Sum.inl (cI, 512, Sum.inl vCounts)), ((g 3), Sum.inl (cI, 512, Sum.inl vThen)), ((g 8), Sum.inl (cI, 6000, Sum.inl vIn)), (o, Sum.inr (9, mO g 2 (nI sh) fModels fItems fEnded fLow fRange fCache fPend fGoes fOuts (nI is.length) fReads fBad fIR fAsk fBAsk fCode fRL fRR fX fWrites 0))] H := ⟨hP, hD⟩
  have hP := hPD.1
  have hD := hPD.2
  refine lv_if_ne (tgt := 15) hx hb d_M_get_10 (by decide) (fun c_1 => ?_) (fun c_1 => ?_)
  · refine lv_aload_n hx hb d_M_get_15 rfl (lv_at hl 0 rfl) ?_
    refine va_get (D := (dC, dI)) (ci := 9) (v := .int fReads) (C := "RangeCodersModel") (T := T_M) (N := 35) hx hb hg in_M hown hK hP 4 rfl rfl 21 (by decide) (hg _ k973) (fun _ h9 => h9) rfl d_M_get_16 ?_
    refine lv_if_ne (tgt := 25) hx hb d_M_get_19 (by decide) (fun c_2 => ?_) (fun c_2 => ?_)
    · refine lv_aload_n hx hb d_M_get_25 rfl (lv_at hl 0 rfl) ?_
      refine va_get (D := (dC, dI)) (ci := 9) (v := .int fBad) (C := "RangeCodersModel") (T := T_M) (N := 35) hx hb hg in_M hown hK hP 4 rfl rfl 22 (by decide) (hg _ k974) (fun _ h9 => h9) rfl d_M_get_26 ?_
      refine lv_if_eq (tgt := 35) hx hb d_M_get_29 (by decide) (fun c_3 => ?_) (fun c_3 => ?_)
      · have hT := hU
        rw [hmod] at hw_7
        obtain ⟨jj, hj, ej⟩ := md_of hMD.1 (one_ne hw_7 c_1)
        subst ej
        have hk8 := hMD.1
        obtain ⟨hn9, hn2, hn64, C9, hc9, hB9⟩ := hMD.2 jj hj
        obtain ⟨RR, CD, q, rfl, rfl, rfl, hI2, hq⟩ := hRD c_2 c_3
        have hPD : my_PD (dC, dI) vwCl A [((g 0), Sum.inl (cI, 8, Sum.inl vMany)), ((g 1), Sum.inl (cI, 512, Sum.inl vCounts)), ((g 3), Sum.inl (cI, 512, Sum.inl vThen)), ((g 8), Sum.inl (cI, 6000, Sum.inl vIn)), (o, Sum.inr (9, mO g 2 (nI sh) fModels fItems fEnded fLow fRange fCache fPend fGoes fOuts (nI is.length) fReads fBad fIR (nI q) fBAsk (lN CD) fRL (lN RR) fX fWrites 0))] H := ⟨hP, hD⟩
        have hP := hPD.1
        have hD := hPD.2
        obtain ⟨F9, hF⟩ := hT jj hj
        obtain ⟨hF9, hs9⟩ := tab_2 hF
        refine lv_aload_n hx hb d_M_get_35 rfl (lv_at hl 0 rfl) ?_
        refine va_get (D := (dC, dI)) (ci := 9) (v := .int 2) (C := "RangeCodersModel") (T := T_M) (N := 35) hx hb hg in_M hown hK hP 4 rfl rfl 0 (by decide) (hg _ k952) (fun _ h9 => h9) rfl d_M_get_36 ?_
        refine lv_iconst (v := 2) hx hb d_M_get_39 (by decide) ?_
        refine lv_icmp_ge (tgt := 51) hx hb d_M_get_40 (by decide) (fun c_4 => ?_) (fun c_4 => ?_)
        · refine lv_aload_n hx hb d_M_get_51 rfl (lv_at hl 0 rfl) ?_
          refine va_get (D := (dC, dI)) (ci := 9) (v := .int 2) (C := "RangeCodersModel") (T := T_M) (N := 35) hx hb hg in_M hown hK hP 4 rfl rfl 0 (by decide) (hg _ k952) (fun _ h9 => h9) rfl d_M_get_52 ?_
          refine lv_iconst (v := 2) hx hb d_M_get_55 (by decide) ?_
          refine lv_icmp_ne (tgt := 67) hx hb d_M_get_56 (by decide) (fun c_5 => ?_) (fun c_5 => ?_)
          · exact absurd rfl c_5
          · refine lv_aload_n hx hb d_M_get_59 rfl (lv_at hl 0 rfl) ?_
            refine lv_iload_n hx hb d_M_get_60 rfl (lv_at hl 1 rfl) ?_
            refine my_ci (wr := [((g 1), Sum.inl (cI, 512, Sum.inl vCounts))]) (va_runV (As := [Value.int (nI jj)]) (rest := []) ⟨hx, hb, hml, hown, hts⟩ (c_M_getNode l dC dI cI cM cO H.size o g 2 fModels fItems fEnded fLow fRange fCache fPend fGoes fOuts fReads fBad fIR fBAsk fRL fX fWrites 0 vMany vThen vIn jj (N jj) sh F9 RR CD is q (by omega) (hn9) (hn64) (hn2) (hIn) (hlen) (hoct) (by omega) (hF9) (hs9) (hs1) (hs2) (hI2)) (cwV 1 hts (my_gV k1231 k1233 ks53 k12 k1234) rfl rfl rfl cu_M_getNode_1 ⟨by rw [hR]; exact Nat.le_of_ble_eq_true rfl, by rw [hR]; exact Nat.le_of_ble_eq_true rfl⟩) (my_preV hK hN (hP.sub [4, 0, 2, 3] rfl) (hD.sub [4, 0, 2, 3] (by decide +kernel) rfl) 0 rfl rfl) rfl rfl hl.1 rfl (lv_room (Nat.le_of_ble_eq_true rfl)) d_M_get_61 ⟨by rw [hR]; exact Nat.le_of_ble_eq_true rfl, by rw [hR]; exact Nat.le_of_ble_eq_true rfl⟩) hP hD hS hA [4, 0, 2, 3] [1] rfl rfl (by decide +kernel) (by decide +kernel) (fun r_61 u9 H locs hw_61 hP hD hS => ?_)
            obtain ⟨f2_61, rfl⟩ : ∃ z, z = u9 := ⟨_, rfl⟩
            have hw_61 : r_61 = oI (gnS is sh (N jj) (RR, CD, q) F9).1 ∧ sgI f2_61 (64 * jj) 64 (gnS is sh (N jj) (RR, CD, q) F9).2.2 ∧ sgO f2_61 vThen (64 * jj) 64 := hw_61
            have hPD : my_PD (dC, dI) vwCl A [((g 1), Sum.inl (cI, 512, Sum.inl vCounts)), (o, Sum.inr (9, mO g 2 (nI sh) fModels fItems fEnded fLow fRange fCache fPend fGoes fOuts (nI is.length) fReads fBad fIR (nI (gnS is sh (N jj) (RR, CD, q) F9).2.1.2.2) fBAsk (lN (gnS is sh (N jj) (RR, CD, q) F9).2.1.2.1) fRL (lN (gnS is sh (N jj) (RR, CD, q) F9).2.1.1) fX fWrites 0)), ((g 0), Sum.inl (cI, 8, Sum.inl vMany)), ((g 3), Sum.inl (cI, 512, Sum.inl f2_61)), ((g 8), Sum.inl (cI, 6000, Sum.inl vIn))] H := ⟨hP, hD⟩
            have hP := hPD.1
            have hD := hPD.2
            refine lv_goto (tgt := 88) hx hb d_M_get_64 (by decide) ?_
            have hg9 := gn_ok hoct (n := N jj) hs1 (r := (RR, CD, q)) hI2 hs9
            have hg8 : (gnS is sh (N jj) (RR, CD, q) F9).2.1.2.2 ≤ q + 18 := hg9.2.1
            refine lv_istore_n (lv' := [(2, Value.int r_61), (0, Value.ref o), (1, Value.int (nI jj))]) hx hb d_M_get_88 rfl hl (by decide) rfl (fun ls hl => ?_)
            refine lv_iload_n hx hb d_M_get_89 rfl (lv_at hl 0 rfl) ?_
            refine lv_if_ge (tgt := 98) hx hb d_M_get_90 (by decide) (fun c_6 => ?_) (fun c_6 => ?_)
            · refine lv_aload_n hx hb d_M_get_98 rfl (lv_at hl 1 rfl) ?_
              refine lv_dup hx hb d_M_get_99 rfl ?_
              refine va_get (D := (dC, dI)) (ci := 9) (v := .int fIR) (C := "RangeCodersModel") (T := T_M) (N := 35) hx hb hg in_M hown hK hP 1 rfl rfl 23 (by decide) (hg _ k975) (fun _ h9 => h9) rfl d_M_get_100 ?_
              refine lv_iconst (v := 1) hx hb d_M_get_103 (by decide) ?_
              refine lv_iadd hx hb d_M_get_104 ?_
              refine lv_topi (fun v_7 ev_7 => ?_)
              refine va_put (D := (dC, dI)) (ci := 9) (v := .int v_7) (ty := .int) (C := "RangeCodersModel") (T := T_M) (N := 35) hx hb hg in_M t_M o_M n_M hown hK hP hD hS 1 rfl rfl 23 (by decide) (hg _ k975) (fun _ h9 => h9) rfl (o_M 23 (by decide)) rfl rfl (Nat.le_of_ble_eq_true rfl) d_M_get_105 (fun H locs hP hD hS => ?_)
              have hPD : my_PD (dC, dI) vwCl A [((g 1), Sum.inl (cI, 512, Sum.inl vCounts)), (o, Sum.inr (9, mO g 2 (nI sh) fModels fItems fEnded fLow fRange fCache fPend fGoes fOuts (nI is.length) fReads fBad v_7 (nI (gnS is sh (N jj) (RR, CD, q) F9).2.1.2.2) fBAsk (lN (gnS is sh (N jj) (RR, CD, q) F9).2.1.2.1) fRL (lN (gnS is sh (N jj) (RR, CD, q) F9).2.1.1) fX fWrites 0)), ((g 0), Sum.inl (cI, 8, Sum.inl vMany)), ((g 3), Sum.inl (cI, 512, Sum.inl f2_61)), ((g 8), Sum.inl (cI, 6000, Sum.inl vIn))] H := ⟨hP, hD⟩
              have hP := hPD.1
              have hD := hPD.2
              refine lv_iload_n hx hb d_M_get_108 rfl (lv_at hl 0 rfl) ?_
              exact my_iret (v := r_61) hx hb hr (rfl) hlocks hQ hK hS (Nat.le_refl _) (Nat.le_refl _) (fBad, v_7, nI (gnS is sh (N jj) (RR, CD, q) F9).2.1.2.2, lN (gnS is sh (N jj) (RR, CD, q) F9).2.1.2.1, lN (gnS is sh (N jj) (RR, CD, q) F9).2.1.1, (0 : Int32), f2_61) (⟨fun _ _ => ⟨_, _, _, rfl, rfl, rfl, hg9.1, by omega⟩, TB_set hU (MD_N hMD) hw_61.2.2 (F := (gnS is sh (N jj) (RR, CD, q) F9).2.2) (Or.inr (Or.inl ⟨rfl, hw_61.2.1, hg9.2.2⟩))⟩) (hP.sub [1, 2, 0, 3, 4] rfl) (hD.sub [1, 2, 0, 3, 4] (by decide +kernel) rfl) d_M_get_109
            · refine lv_aload_n hx hb d_M_get_93 rfl (lv_at hl 1 rfl) ?_
              refine my_ci (wr := [((g 1), Sum.inl (cI, 512, Sum.inl vCounts)), ((g 0), Sum.inl (cI, 8, Sum.inl vMany)), ((g 3), Sum.inl (cI, 512, Sum.inl f2_61)), ((g 8), Sum.inl (cI, 6000, Sum.inl vIn))]) (va_runV (As := []) (rest := []) ⟨hx, hb, hml, hown, hts⟩ (c_M_spoiled l dC dI cI cM cO H.size o g 2 (nI sh) fModels fItems fEnded fLow fRange fCache fPend fGoes fOuts (nI is.length) fReads fBad fIR (nI (gnS is sh (N jj) (RR, CD, q) F9).2.1.2.2) fBAsk (lN (gnS is sh (N jj) (RR, CD, q) F9).2.1.2.1) fRL (lN (gnS is sh (N jj) (RR, CD, q) F9).2.1.1) fX fWrites 0) (cwV 0 hts (my_gV k1252 k1254 ks58 k12 k1255) rfl rfl rfl cu_M_spoiled_0 ⟨by rw [hR]; exact Nat.le_of_ble_eq_true rfl, by rw [hR]; exact Nat.le_of_ble_eq_true rfl⟩) (my_preV hK hN (hP.sub [1] rfl) (hD.sub [1] (by decide +kernel) rfl) 0 rfl rfl) rfl rfl hl.1 rfl (lv_room (Nat.le_of_ble_eq_true rfl)) d_M_get_94 ⟨by rw [hR]; exact Nat.le_of_ble_eq_true rfl, by rw [hR]; exact Nat.le_of_ble_eq_true rfl⟩) hP hD hS hA [1] [0, 2, 3, 4] rfl rfl (by decide +kernel) (by decide +kernel) (fun r_94 u9 H locs hw_94 hP hD hS => ?_)
              have hw_94 : r_94 = -5 := hw_94
              have hPD : my_PD (dC, dI) vwCl A [((g 1), Sum.inl (cI, 512, Sum.inl vCounts)), ((g 0), Sum.inl (cI, 8, Sum.inl vMany)), ((g 3), Sum.inl (cI, 512, Sum.inl f2_61)), ((g 8), Sum.inl (cI, 6000, Sum.inl vIn)), (o, Sum.inr (9, mO g 2 (nI sh) fModels fItems fEnded fLow fRange fCache fPend fGoes fOuts (nI is.length) fReads 1 fIR (nI (gnS is sh (N jj) (RR, CD, q) F9).2.1.2.2) fBAsk (lN (gnS is sh (N jj) (RR, CD, q) F9).2.1.2.1) fRL (lN (gnS is sh (N jj) (RR, CD, q) F9).2.1.1) fX fWrites 0))] H := ⟨hP, hD⟩
              have hP := hPD.1
              have hD := hPD.2
              exact my_iret (v := r_94) hx hb hr (rfl) hlocks hQ hK hS (Nat.le_refl _) (Nat.le_refl _) ((1 : Int32), fIR, (nI (gnS is sh (N jj) (RR, CD, q) F9).2.1.2.2), (lN (gnS is sh (N jj) (RR, CD, q) F9).2.1.2.1), (lN (gnS is sh (N jj) (RR, CD, q) F9).2.1.1), (0 : Int32), f2_61) (⟨fun z1 z2 => absurd z2 (show ¬ (1 : Int32) = 0 by decide), TB_set hU (MD_N hMD) hw_61.2.2 (F := (gnS is sh (N jj) (RR, CD, q) F9).2.2) (Or.inr (Or.inl ⟨rfl, hw_61.2.1, hg9.2.2⟩))⟩) (hP.sub [4, 1, 0, 2, 3] rfl) (hD.sub [4, 1, 0, 2, 3] (by decide +kernel) rfl) d_M_get_97
        · exact absurd (by decide) c_4
      · refine lv_bipush (v := (-5)) hx hb d_M_get_32 (by decide) ?_
        exact my_iret (v := (-5)) hx hb hr (rfl) hlocks hQ hK hS (Nat.le_refl _) (Nat.le_refl _) (fBad, fIR, fAsk, fCode, fRR, (0 : Int32), vThen) (⟨fun z1 z2 => absurd z2 c_3, hU⟩) (hP.sub [4, 0, 1, 2, 3] rfl) (hD.sub [4, 0, 1, 2, 3] (by decide +kernel) rfl) d_M_get_34
    · refine lv_bipush (v := (-3)) hx hb d_M_get_22 (by decide) ?_
      exact my_iret (v := (-3)) hx hb hr (rfl) hlocks hQ hK hS (Nat.le_refl _) (Nat.le_refl _) (fBad, fIR, fAsk, fCode, fRR, (0 : Int32), vThen) (⟨fun z1 z2 => absurd c_2 z1, hU⟩) (hP.sub [4, 0, 1, 2, 3] rfl) (hD.sub [4, 0, 1, 2, 3] (by decide +kernel) rfl) d_M_get_24
  · refine lv_iconst (v := (-1)) hx hb d_M_get_13 (by decide) ?_
    exact my_iret (v := (-1)) hx hb hr (rfl) hlocks hQ hK hS (Nat.le_refl _) (Nat.le_refl _) (fBad, fIR, fAsk, fCode, fRR, (0 : Int32), vThen) (⟨fun z1 z2 => RD2_up (hRD z1 z2), hU⟩) (hP.sub [4, 0, 1, 2, 3] rfl) (hD.sub [4, 0, 1, 2, 3] (by decide +kernel) rfl) d_M_get_14
set_option maxHeartbeats 2000000 in
set_option maxRecDepth 100000 in
theorem c_M_get3 (l : Launch) (dC : Nat → ClassId) (dI : Nat → Nat → Nat) (cI cM cO : ClassId) (sz : Nat) (o : Nat) (g : Nat → Nat) (fForm : Int32) (fShift : Int32) (fModels : Int32) (fItems : Int32) (fEnded : Int32) (fLow : Int64) (fRange : Int64) (fCache : Int32) (fPend : Int32) (fGoes : Int32) (fOuts : Int32) (fIns : Int32) (fReads : Int32) (fBad : Int32) (fIR : Int32) (fAsk : Int32) (fBAsk : Int32) (fCode : Int64) (fRL : Int64) (fRR : Int64) (fX : Int64) (fWrites : Int32) (fThrown : Int32) (vMany : Nat → Int32) (vCounts : Nat → Int32) (vThen : Nat → Int32) (vIn : Nat → Int32) (km : Nat) (N : Nat → Nat) (cn : Nat) (p1 : Int32) (hfo : fForm = 3) (hmod : fModels = nI km) (hMD : MD km N vMany vCounts) (hIN : IN fIns vIn) (hcn : cn ≤ 1000) (hU : TB 3 km N vThen) (hRD : ¬ fReads = 0 → fBad = 0 → RD3 cn fAsk fX) : MetI l y_M_get (Cond.code y_M_get prog_14_method_56_code 3 (some .int) :: gw) ({ frames := 3, cells := 0, slots := 0, locals := 64 } : Room) (dC, dI) vwCl (kT cI cM cO) [Value.ref o, Value.int p1] [(o, Sum.inr (9, mO g fForm fShift fModels fItems fEnded fLow fRange fCache fPend fGoes fOuts fIns fReads fBad fIR fAsk fBAsk fCode fRL fRR fX fWrites fThrown)), ((g 0), Sum.inl (cI, 8, Sum.inl vMany)), ((g 1), Sum.inl (cI, 512, Sum.inl vCounts)), ((g 3), Sum.inl (cI, 512, Sum.inl vThen)), ((g 8), Sum.inl (cI, 6000, Sum.inl vIn))] sz (fun (r : Int32) (u : Int32 × Int32 × Int32 × Int64 × Int32) => ¬ fReads = 0 → u.1 = 0 → RD3 (cn + 1) u.2.2.1 u.2.2.2.1) (fun (u : Int32 × Int32 × Int32 × Int64 × Int32) => [(o, Sum.inr (9, mO g fForm fShift fModels fItems fEnded fLow fRange fCache fPend fGoes fOuts fIns fReads u.1 u.2.1 u.2.2.1 fBAsk fCode fRL fRR u.2.2.2.1 fWrites u.2.2.2.2)), ((g 0), Sum.inl (cI, 8, Sum.inl vMany)), ((g 1), Sum.inl (cI, 512, Sum.inl vCounts)), ((g 3), Sum.inl (cI, 512, Sum.inl vThen)), ((g 8), Sum.inl (cI, 6000, Sum.inl vIn))]) 0 0 := by
  refine my_ofI (cc := prog_14_method_56_code) (n := 3) (ret := (some .int)) (by decide) rfl (Nat.le_of_ble_eq_true rfl) ?_
  intro p e s m args below meth c R Q A ls H locs hx hb hr hts hown hlocks hml hnm hR hQ hA hl hP hK hN hD hS
  have hg : ∀ w ∈ gw, w.before args s = true := fun w h => hts w (List.mem_cons_of_mem _ h)
  have hown : s.vm.findClass "RangeCodersModel" = some m.cls := hown
  have hl : lv_has ls 3 [(0, Value.ref o), (1, Value.int p1)] := hl
  subst hfo
  obtain ⟨is, rfl, hIn, hlen, hoct⟩ := hIN
  have hPD : my_PD (dC, dI) vwCl A [(o, Sum.inr (9, mO g 3 fShift fModels fItems fEnded fLow fRange fCache fPend fGoes fOuts (nI is.length) fReads fBad fIR fAsk fBAsk fCode fRL fRR fX fWrites fThrown)), ((g 0), Sum.inl (cI, 8, Sum.inl vMany)), ((g 1), Sum.inl (cI, 512, Sum.inl vCounts)), ((g 3), Sum.inl (cI, 512, Sum.inl vThen)), ((g 8), Sum.inl (cI, 6000, Sum.inl vIn))] H := ⟨hP, hD⟩
  have hP := hPD.1
  have hD := hPD.2
  have hl : lv_has ls 3 [(0, Value.ref o), (1, Value.int p1)] := hl
  refine lv_aload_n hx hb d_M_get_0 rfl (lv_at hl 0 rfl) ?_
  refine lv_iconst (v := 0) hx hb d_M_get_1 (by decide) ?_
  refine va_put (D := (dC, dI)) (ci := 9) (v := .int 0) (ty := .int) (C := "RangeCodersModel") (T := T_M) (N := 35) hx hb hg in_M t_M o_M n_M hown hK hP hD hS 0 rfl rfl 34 (by decide) (hg _ k986) (fun _ h9 => h9) rfl (o_M 34 (by decide)) rfl rfl (Nat.le_of_ble_eq_true rfl) d_M_get_2 (fun H locs hP hD hS => ?_)
  have hPD : my_PD (dC, dI) vwCl A [(o, Sum.inr (9, mO g 3 fShift fModels fItems fEnded fLow fRange fCache fPend fGoes fOuts (nI is.length) fReads fBad fIR fAsk fBAsk fCode fRL fRR fX fWrites 0)), ((g 0), Sum.inl (cI, 8, Sum.inl vMany)), ((g 1), Sum.inl (cI, 512, Sum.inl vCounts)), ((g 3), Sum.inl (cI, 512, Sum.inl vThen)), ((g 8), Sum.inl (cI, 6000, Sum.inl vIn))] H := ⟨hP, hD⟩
  have hP := hPD.1
  have hD := hPD.2
  refine lv_aload_n hx hb d_M_get_5 rfl (lv_at hl 0 rfl) ?_
  refine lv_iload_n hx hb d_M_get_6 rfl (lv_at hl 1 rfl) ?_
  refine my_ci (wr := [((g 0), Sum.inl (cI, 8, Sum.inl vMany)), ((g 1), Sum.inl (cI, 512, Sum.inl vCounts)), ((g 3), Sum.inl (cI, 512, Sum.inl vThen)), ((g 8), Sum.inl (cI, 6000, Sum.inl vIn))]) (va_runV (As := [Value.int p1]) (rest := []) ⟨hx, hb, hml, hown, hts⟩ (c_M_isModel l dC dI cI cM cO H.size o g 3 fShift fModels fItems fEnded fLow fRange fCache fPend fGoes fOuts (nI is.length) fReads fBad fIR fAsk fBAsk fCode fRL fRR fX fWrites 0 p1) (cwV 1 hts (my_gV k1073 k1075 ks26 k12 k1076) rfl rfl rfl cu_M_isModel_1 ⟨by rw [hR]; exact Nat.le_of_ble_eq_true rfl, by rw [hR]; exact Nat.le_of_ble_eq_true rfl⟩) (my_preV hK hN (hP.sub [0] rfl) (hD.sub [0] (by decide +kernel) rfl) 0 rfl rfl) rfl rfl hl.1 rfl (lv_room (Nat.le_of_ble_eq_true rfl)) d_M_get_7 ⟨by rw [hR]; exact Nat.le_of_ble_eq_true rfl, by rw [hR]; exact Nat.le_of_ble_eq_true rfl⟩) hP hD hS hA [0] [1, 2, 3, 4] rfl rfl (by decide +kernel) (by decide +kernel) (fun r_7 u9 H locs hw_7 hP hD hS => ?_)
  have hw_7 : r_7 = if 0 ≤ p1 ∧ p1 ≤ fModels - 1 then 1 else 0 := hw_7
  have hPD : my_PD (dC, dI) vwCl A [((g 0), Sum.inl (cI, 8, Sum.inl vMany)), ((g 1), Sum.inl (cI, 512, Sum.inl vCounts)), ((g 3), Sum.inl (cI, 512, Sum.inl vThen)), ((g 8), Sum.inl (cI, 6000, Sum.inl vIn)), (o, Sum.inr (9, mO g 3 fShift fModels fItems fEnded fLow fRange fCache fPend fGoes fOuts (nI is.length) fReads fBad fIR fAsk fBAsk fCode fRL fRR fX fWrites 0))] H := ⟨hP, hD⟩
  have hP := hPD.1
  have hD := hPD.2
  refine lv_if_ne (tgt := 15) hx hb d_M_get_10 (by decide) (fun c_1 => ?_) (fun c_1 => ?_)
  · refine lv_aload_n hx hb d_M_get_15 rfl (lv_at hl 0 rfl) ?_
    refine va_get (D := (dC, dI)) (ci := 9) (v := .int fReads) (C := "RangeCodersModel") (T := T_M) (N := 35) hx hb hg in_M hown hK hP 4 rfl rfl 21 (by decide) (hg _ k973) (fun _ h9 => h9) rfl d_M_get_16 ?_
    refine lv_if_ne (tgt := 25) hx hb d_M_get_19 (by decide) (fun c_2 => ?_) (fun c_2 => ?_)
    · refine lv_aload_n hx hb d_M_get_25 rfl (lv_at hl 0 rfl) ?_
      refine va_get (D := (dC, dI)) (ci := 9) (v := .int fBad) (C := "RangeCodersModel") (T := T_M) (N := 35) hx hb hg in_M hown hK hP 4 rfl rfl 22 (by decide) (hg _ k974) (fun _ h9 => h9) rfl d_M_get_26 ?_
      refine lv_if_eq (tgt := 35) hx hb d_M_get_29 (by decide) (fun c_3 => ?_) (fun c_3 => ?_)
      · have hT := hU
        rw [hmod] at hw_7
        obtain ⟨jj, hj, ej⟩ := md_of hMD.1 (one_ne hw_7 c_1)
        subst ej
        have hk8 := hMD.1
        obtain ⟨hn9, hn2, hn64, C9, hc9, hB9⟩ := hMD.2 jj hj
        obtain ⟨X, q, rfl, rfl, hX0, hX1, hq⟩ := hRD c_2 c_3
        have hPD : my_PD (dC, dI) vwCl A [((g 0), Sum.inl (cI, 8, Sum.inl vMany)), ((g 1), Sum.inl (cI, 512, Sum.inl vCounts)), ((g 3), Sum.inl (cI, 512, Sum.inl vThen)), ((g 8), Sum.inl (cI, 6000, Sum.inl vIn)), (o, Sum.inr (9, mO g 3 fShift fModels fItems fEnded fLow fRange fCache fPend fGoes fOuts (nI is.length) fReads fBad fIR (nI q) fBAsk fCode fRL fRR (lN X) fWrites 0))] H := ⟨hP, hD⟩
        have hP := hPD.1
        have hD := hPD.2
        obtain ⟨F9, hF⟩ := hT jj hj
        obtain ⟨hF9, hs9⟩ := tab_3 hF
        refine lv_aload_n hx hb d_M_get_35 rfl (lv_at hl 0 rfl) ?_
        refine va_get (D := (dC, dI)) (ci := 9) (v := .int 3) (C := "RangeCodersModel") (T := T_M) (N := 35) hx hb hg in_M hown hK hP 4 rfl rfl 0 (by decide) (hg _ k952) (fun _ h9 => h9) rfl d_M_get_36 ?_
        refine lv_iconst (v := 2) hx hb d_M_get_39 (by decide) ?_
        refine lv_icmp_ge (tgt := 51) hx hb d_M_get_40 (by decide) (fun c_4 => ?_) (fun c_4 => ?_)
        · refine lv_aload_n hx hb d_M_get_51 rfl (lv_at hl 0 rfl) ?_
          refine va_get (D := (dC, dI)) (ci := 9) (v := .int 3) (C := "RangeCodersModel") (T := T_M) (N := 35) hx hb hg in_M hown hK hP 4 rfl rfl 0 (by decide) (hg _ k952) (fun _ h9 => h9) rfl d_M_get_52 ?_
          refine lv_iconst (v := 2) hx hb d_M_get_55 (by decide) ?_
          refine lv_icmp_ne (tgt := 67) hx hb d_M_get_56 (by decide) (fun c_5 => ?_) (fun c_5 => ?_)
          · refine lv_aload_n hx hb d_M_get_67 rfl (lv_at hl 0 rfl) ?_
            refine va_get (D := (dC, dI)) (ci := 9) (v := .int 3) (C := "RangeCodersModel") (T := T_M) (N := 35) hx hb hg in_M hown hK hP 4 rfl rfl 0 (by decide) (hg _ k952) (fun _ h9 => h9) rfl d_M_get_68 ?_
            refine lv_iconst (v := 3) hx hb d_M_get_71 (by decide) ?_
            refine lv_icmp_ne (tgt := 83) hx hb d_M_get_72 (by decide) (fun c_6 => ?_) (fun c_6 => ?_)
            · exact absurd rfl c_6
            · refine lv_aload_n hx hb d_M_get_75 rfl (lv_at hl 0 rfl) ?_
              refine lv_iload_n hx hb d_M_get_76 rfl (lv_at hl 1 rfl) ?_
              refine my_ci (wr := [((g 1), Sum.inl (cI, 512, Sum.inl vCounts))]) (va_runV (As := [Value.int (nI jj)]) (rest := []) ⟨hx, hb, hml, hown, hts⟩ (c_M_getStacked l dC dI cI cM cO H.size o g 3 fShift fModels fItems fEnded fLow fRange fCache fPend fGoes fOuts fReads fBad fIR fBAsk fCode fRL fRR fWrites 0 vMany vThen vIn jj (N jj) F9 X is q (by omega) (hn9) (hn64) (hIn) (hlen) (hoct) (by omega) (hF9) (hs9) (hX0) (hX1)) (cwV 1 hts (my_gV k1239 k1241 ks55 k12 k1242) rfl rfl rfl cu_M_getStacked_1 ⟨by rw [hR]; exact Nat.le_of_ble_eq_true rfl, by rw [hR]; exact Nat.le_of_ble_eq_true rfl⟩) (my_preV hK hN (hP.sub [4, 0, 2, 3] rfl) (hD.sub [4, 0, 2, 3] (by decide +kernel) rfl) 0 rfl rfl) rfl rfl hl.1 rfl (lv_room (Nat.le_of_ble_eq_true rfl)) d_M_get_77 ⟨by rw [hR]; exact Nat.le_of_ble_eq_true rfl, by rw [hR]; exact Nat.le_of_ble_eq_true rfl⟩) hP hD hS hA [4, 0, 2, 3] [1] rfl rfl (by decide +kernel) (by decide +kernel) (fun r_77 u9 H locs hw_77 hP hD hS => ?_)
              have hw_77 : r_77 = oI (gs3 is (N jj) F9 X q).1 := hw_77
              have hPD : my_PD (dC, dI) vwCl A [((g 1), Sum.inl (cI, 512, Sum.inl vCounts)), (o, Sum.inr (9, mO g 3 fShift fModels fItems fEnded fLow fRange fCache fPend fGoes fOuts (nI is.length) fReads fBad fIR (nI (gs3 is (N jj) F9 X q).2.2) fBAsk fCode fRL fRR (lN (gs3 is (N jj) F9 X q).2.1) fWrites 0)), ((g 0), Sum.inl (cI, 8, Sum.inl vMany)), ((g 3), Sum.inl (cI, 512, Sum.inl vThen)), ((g 8), Sum.inl (cI, 6000, Sum.inl vIn))] H := ⟨hP, hD⟩
              have hP := hPD.1
              have hD := hPD.2
              refine lv_goto (tgt := 88) hx hb d_M_get_80 (by decide) ?_
              have hg9 := gs3_ok (q := q) hoct hs9 hX0 hX1
              refine lv_istore_n (lv' := [(2, Value.int r_77), (0, Value.ref o), (1, Value.int (nI jj))]) hx hb d_M_get_88 rfl hl (by decide) rfl (fun ls hl => ?_)
              refine lv_iload_n hx hb d_M_get_89 rfl (lv_at hl 0 rfl) ?_
              refine lv_if_ge (tgt := 98) hx hb d_M_get_90 (by decide) (fun c_7 => ?_) (fun c_7 => ?_)
              · refine lv_aload_n hx hb d_M_get_98 rfl (lv_at hl 1 rfl) ?_
                refine lv_dup hx hb d_M_get_99 rfl ?_
                refine va_get (D := (dC, dI)) (ci := 9) (v := .int fIR) (C := "RangeCodersModel") (T := T_M) (N := 35) hx hb hg in_M hown hK hP 1 rfl rfl 23 (by decide) (hg _ k975) (fun _ h9 => h9) rfl d_M_get_100 ?_
                refine lv_iconst (v := 1) hx hb d_M_get_103 (by decide) ?_
                refine lv_iadd hx hb d_M_get_104 ?_
                refine lv_topi (fun v_8 ev_8 => ?_)
                refine va_put (D := (dC, dI)) (ci := 9) (v := .int v_8) (ty := .int) (C := "RangeCodersModel") (T := T_M) (N := 35) hx hb hg in_M t_M o_M n_M hown hK hP hD hS 1 rfl rfl 23 (by decide) (hg _ k975) (fun _ h9 => h9) rfl (o_M 23 (by decide)) rfl rfl (Nat.le_of_ble_eq_true rfl) d_M_get_105 (fun H locs hP hD hS => ?_)
                have hPD : my_PD (dC, dI) vwCl A [((g 1), Sum.inl (cI, 512, Sum.inl vCounts)), (o, Sum.inr (9, mO g 3 fShift fModels fItems fEnded fLow fRange fCache fPend fGoes fOuts (nI is.length) fReads fBad v_8 (nI (gs3 is (N jj) F9 X q).2.2) fBAsk fCode fRL fRR (lN (gs3 is (N jj) F9 X q).2.1) fWrites 0)), ((g 0), Sum.inl (cI, 8, Sum.inl vMany)), ((g 3), Sum.inl (cI, 512, Sum.inl vThen)), ((g 8), Sum.inl (cI, 6000, Sum.inl vIn))] H := ⟨hP, hD⟩
                have hP := hPD.1
                have hD := hPD.2
                refine lv_iload_n hx hb d_M_get_108 rfl (lv_at hl 0 rfl) ?_
                exact my_iret (v := r_77) hx hb hr (rfl) hlocks hQ hK hS (Nat.le_refl _) (Nat.le_refl _) (fBad, v_8, nI (gs3 is (N jj) F9 X q).2.2, lN (gs3 is (N jj) F9 X q).2.1, (0 : Int32)) (fun _ _ => ⟨_, _, rfl, rfl, hg9.1, hg9.2.1, by omega⟩) (hP.sub [1, 2, 0, 3, 4] rfl) (hD.sub [1, 2, 0, 3, 4] (by decide +kernel) rfl) d_M_get_109
              · refine lv_aload_n hx hb d_M_get_93 rfl (lv_at hl 1 rfl) ?_
                refine my_ci (wr := [((g 1), Sum.inl (cI, 512, Sum.inl vCounts)), ((g 0), Sum.inl (cI, 8, Sum.inl vMany)), ((g 3), Sum.inl (cI, 512, Sum.inl vThen)), ((g 8), Sum.inl (cI, 6000, Sum.inl vIn))]) (va_runV (As := []) (rest := []) ⟨hx, hb, hml, hown, hts⟩ (c_M_spoiled l dC dI cI cM cO H.size o g 3 fShift fModels fItems fEnded fLow fRange fCache fPend fGoes fOuts (nI is.length) fReads fBad fIR (nI (gs3 is (N jj) F9 X q).2.2) fBAsk fCode fRL fRR (lN (gs3 is (N jj) F9 X q).2.1) fWrites 0) (cwV 0 hts (my_gV k1252 k1254 ks58 k12 k1255) rfl rfl rfl cu_M_spoiled_0 ⟨by rw [hR]; exact Nat.le_of_ble_eq_true rfl, by rw [hR]; exact Nat.le_of_ble_eq_true rfl⟩) (my_preV hK hN (hP.sub [1] rfl) (hD.sub [1] (by decide +kernel) rfl) 0 rfl rfl) rfl rfl hl.1 rfl (lv_room (Nat.le_of_ble_eq_true rfl)) d_M_get_94 ⟨by rw [hR]; exact Nat.le_of_ble_eq_true rfl, by rw [hR]; exact Nat.le_of_ble_eq_true rfl⟩) hP hD hS hA [1] [0, 2, 3, 4] rfl rfl (by decide +kernel) (by decide +kernel) (fun r_94 u9 H locs hw_94 hP hD hS => ?_)
                have hw_94 : r_94 = -5 := hw_94
                have hPD : my_PD (dC, dI) vwCl A [((g 1), Sum.inl (cI, 512, Sum.inl vCounts)), ((g 0), Sum.inl (cI, 8, Sum.inl vMany)), ((g 3), Sum.inl (cI, 512, Sum.inl vThen)), ((g 8), Sum.inl (cI, 6000, Sum.inl vIn)), (o, Sum.inr (9, mO g 3 fShift fModels fItems fEnded fLow fRange fCache fPend fGoes fOuts (nI is.length) fReads 1 fIR (nI (gs3 is (N jj) F9 X q).2.2) fBAsk fCode fRL fRR (lN (gs3 is (N jj) F9 X q).2.1) fWrites 0))] H := ⟨hP, hD⟩
                have hP := hPD.1
                have hD := hPD.2
                exact my_iret (v := r_94) hx hb hr (rfl) hlocks hQ hK hS (Nat.le_refl _) (Nat.le_refl _) ((1 : Int32), fIR, (nI (gs3 is (N jj) F9 X q).2.2), (lN (gs3 is (N jj) F9 X q).2.1), (0 : Int32)) (fun z1 z2 => absurd z2 (show ¬ (1 : Int32) = 0 by decide)) (hP.sub [4, 1, 0, 2, 3] rfl) (hD.sub [4, 1, 0, 2, 3] (by decide +kernel) rfl) d_M_get_97
          · exact absurd c_5 (by decide)
        · exact absurd (by decide) c_4
      · refine lv_bipush (v := (-5)) hx hb d_M_get_32 (by decide) ?_
        exact my_iret (v := (-5)) hx hb hr (rfl) hlocks hQ hK hS (Nat.le_refl _) (Nat.le_refl _) (fBad, fIR, fAsk, fX, (0 : Int32)) (fun z1 z2 => absurd z2 c_3) (hP.sub [4, 0, 1, 2, 3] rfl) (hD.sub [4, 0, 1, 2, 3] (by decide +kernel) rfl) d_M_get_34
    · refine lv_bipush (v := (-3)) hx hb d_M_get_22 (by decide) ?_
      exact my_iret (v := (-3)) hx hb hr (rfl) hlocks hQ hK hS (Nat.le_refl _) (Nat.le_refl _) (fBad, fIR, fAsk, fX, (0 : Int32)) (fun z1 z2 => absurd c_2 z1) (hP.sub [4, 0, 1, 2, 3] rfl) (hD.sub [4, 0, 1, 2, 3] (by decide +kernel) rfl) d_M_get_24
  · refine lv_iconst (v := (-1)) hx hb d_M_get_13 (by decide) ?_
    exact my_iret (v := (-1)) hx hb hr (rfl) hlocks hQ hK hS (Nat.le_refl _) (Nat.le_refl _) (fBad, fIR, fAsk, fX, (0 : Int32)) (fun z1 z2 => RD3_up (hRD z1 z2)) (hP.sub [4, 0, 1, 2, 3] rfl) (hD.sub [4, 0, 1, 2, 3] (by decide +kernel) rfl) d_M_get_14
set_option maxHeartbeats 2000000 in
set_option maxRecDepth 100000 in
theorem c_M_getBits0 (l : Launch) (dC : Nat → ClassId) (dI : Nat → Nat → Nat) (cI cM cO : ClassId) (sz : Nat) (o : Nat) (g : Nat → Nat) (fForm : Int32) (fShift : Int32) (fModels : Int32) (fItems : Int32) (fEnded : Int32) (fLow : Int64) (fRange : Int64) (fCache : Int32) (fPend : Int32) (fGoes : Int32) (fOuts : Int32) (fIns : Int32) (fReads : Int32) (fBad : Int32) (fIR : Int32) (fAsk : Int32) (fBAsk : Int32) (fCode : Int64) (fRL : Int64) (fRR : Int64) (fX : Int64) (fWrites : Int32) (fThrown : Int32) (vIn : Nat → Int32) (cn : Nat) (p1 : Int32) (hfo : fForm = 0) (hIN : IN fIns vIn) (hcn : cn ≤ 1000) (hRD : ¬ fReads = 0 → fBad = 0 → RD0 cn fAsk fCode fRR) : MetI l y_M_getBits (Cond.code y_M_getBits prog_14_method_57_code 3 (some .int) :: gw) ({ frames := 4, cells := 0, slots := 0, locals := 90 } : Room) (dC, dI) vwCl (kT cI cM cO) [Value.ref o, Value.int p1] [(o, Sum.inr (9, mO g fForm fShift fModels fItems fEnded fLow fRange fCache fPend fGoes fOuts fIns fReads fBad fIR fAsk fBAsk fCode fRL fRR fX fWrites fThrown)), ((g 8), Sum.inl (cI, 6000, Sum.inl vIn))] sz (fun (r : Int32) (u : Int32 × Int32 × Int32 × Int64 × Int64 × Int32) => ¬ fReads = 0 → u.1 = 0 → RD0 (cn + 1) u.2.2.1 u.2.2.2.1 u.2.2.2.2.1) (fun (u : Int32 × Int32 × Int32 × Int64 × Int64 × Int32) => [(o, Sum.inr (9, mO g fForm fShift fModels fItems fEnded fLow fRange fCache fPend fGoes fOuts fIns fReads u.1 u.2.1 u.2.2.1 fBAsk u.2.2.2.1 fRL u.2.2.2.2.1 fX fWrites u.2.2.2.2.2)), ((g 8), Sum.inl (cI, 6000, Sum.inl vIn))]) 0 0 := by
  refine my_ofI (cc := prog_14_method_57_code) (n := 3) (ret := (some .int)) (by decide) rfl (Nat.le_of_ble_eq_true rfl) ?_
  intro p e s m args below meth c R Q A ls H locs hx hb hr hts hown hlocks hml hnm hR hQ hA hl hP hK hN hD hS
  have hg : ∀ w ∈ gw, w.before args s = true := fun w h => hts w (List.mem_cons_of_mem _ h)
  have hown : s.vm.findClass "RangeCodersModel" = some m.cls := hown
  have hl : lv_has ls 3 [(0, Value.ref o), (1, Value.int p1)] := hl
  subst hfo
  obtain ⟨is, rfl, hIn, hlen, hoct⟩ := hIN
  have hPD : my_PD (dC, dI) vwCl A [(o, Sum.inr (9, mO g 0 fShift fModels fItems fEnded fLow fRange fCache fPend fGoes fOuts (nI is.length) fReads fBad fIR fAsk fBAsk fCode fRL fRR fX fWrites fThrown)), ((g 8), Sum.inl (cI, 6000, Sum.inl vIn))] H := ⟨hP, hD⟩
  have hP := hPD.1
  have hD := hPD.2
  have hl : lv_has ls 3 [(0, Value.ref o), (1, Value.int p1)] := hl
  refine lv_aload_n hx hb d_M_getBits_0 rfl (lv_at hl 0 rfl) ?_
  refine lv_iconst (v := 0) hx hb d_M_getBits_1 (by decide) ?_
  refine va_put (D := (dC, dI)) (ci := 9) (v := .int 0) (ty := .int) (C := "RangeCodersModel") (T := T_M) (N := 35) hx hb hg in_M t_M o_M n_M hown hK hP hD hS 0 rfl rfl 34 (by decide) (hg _ k986) (fun _ h9 => h9) rfl (o_M 34 (by decide)) rfl rfl (Nat.le_of_ble_eq_true rfl) d_M_getBits_2 (fun H locs hP hD hS => ?_)
  have hPD : my_PD (dC, dI) vwCl A [(o, Sum.inr (9, mO g 0 fShift fModels fItems fEnded fLow fRange fCache fPend fGoes fOuts (nI is.length) fReads fBad fIR fAsk fBAsk fCode fRL fRR fX fWrites 0)), ((g 8), Sum.inl (cI, 6000, Sum.inl vIn))] H := ⟨hP, hD⟩
  have hP := hPD.1
  have hD := hPD.2
  refine lv_iload_n hx hb d_M_getBits_5 rfl (lv_at hl 1 rfl) ?_
  refine lv_iconst (v := 1) hx hb d_M_getBits_6 (by decide) ?_
  refine lv_aload_n hx hb d_M_getBits_7 rfl (lv_at hl 0 rfl) ?_
  refine va_get (D := (dC, dI)) (ci := 9) (v := .int 0) (C := "RangeCodersModel") (T := T_M) (N := 35) hx hb hg in_M hown hK hP 0 rfl rfl 0 (by decide) (hg _ k952) (fun _ h9 => h9) rfl d_M_getBits_8 ?_
  refine lv_iconst (v := 4) hx hb d_M_getBits_11 (by decide) ?_
  refine lv_icmp_ne (tgt := 20) hx hb d_M_getBits_12 (by decide) (fun c_1 => ?_) (fun c_1 => ?_)
  · refine lv_bipush (v := 12) hx hb d_M_getBits_20 (by decide) ?_
    refine my_ci (wr := [(o, Sum.inr (9, mO g 0 fShift fModels fItems fEnded fLow fRange fCache fPend fGoes fOuts (nI is.length) fReads fBad fIR fAsk fBAsk fCode fRL fRR fX fWrites 0)), ((g 8), Sum.inl (cI, 6000, Sum.inl vIn))]) (va_runS (As := [Value.int p1, Value.int 1, Value.int 12]) (rest := []) ⟨hx, hb, hml, hown, hts⟩ (c_M_in l dC dI cI cM cO H.size p1 1 12) (cwS 3 hts (my_gS k1062 k1063 k12 k1064) rfl rfl rfl (by decide +kernel) ⟨by rw [hR]; exact Nat.le_of_ble_eq_true rfl, by rw [hR]; exact Nat.le_of_ble_eq_true rfl⟩) (my_pre hK hN (hP.sub [] rfl) (hD.sub [] (by decide +kernel) rfl)) rfl rfl hl.1 rfl (lv_room (Nat.le_of_ble_eq_true rfl)) d_M_getBits_22 ⟨by rw [hR]; exact Nat.le_of_ble_eq_true rfl, by rw [hR]; exact Nat.le_of_ble_eq_true rfl⟩) hP hD hS hA [] [0, 1] rfl rfl (by decide +kernel) (by decide +kernel) (fun r_22 u9 H locs hw_22 hP hD hS => ?_)
    have hw_22 : r_22 = if 1 ≤ p1 ∧ p1 ≤ 12 then 1 else 0 := hw_22
    have hPD : my_PD (dC, dI) vwCl A [(o, Sum.inr (9, mO g 0 fShift fModels fItems fEnded fLow fRange fCache fPend fGoes fOuts (nI is.length) fReads fBad fIR fAsk fBAsk fCode fRL fRR fX fWrites 0)), ((g 8), Sum.inl (cI, 6000, Sum.inl vIn))] H := ⟨hP, hD⟩
    have hP := hPD.1
    have hD := hPD.2
    refine lv_if_ne (tgt := 31) hx hb d_M_getBits_25 (by decide) (fun c_2 => ?_) (fun c_2 => ?_)
    · obtain ⟨bb, hb1, hb2, eb⟩ := in_of2 (a := 1) (b := 12) (by decide) (by decide) (one_ne hw_22 c_2)
      subst eb
      refine lv_aload_n hx hb d_M_getBits_31 rfl (lv_at hl 0 rfl) ?_
      refine va_get (D := (dC, dI)) (ci := 9) (v := .int fReads) (C := "RangeCodersModel") (T := T_M) (N := 35) hx hb hg in_M hown hK hP 0 rfl rfl 21 (by decide) (hg _ k973) (fun _ h9 => h9) rfl d_M_getBits_32 ?_
      refine lv_if_ne (tgt := 41) hx hb d_M_getBits_35 (by decide) (fun c_3 => ?_) (fun c_3 => ?_)
      · refine lv_aload_n hx hb d_M_getBits_41 rfl (lv_at hl 0 rfl) ?_
        refine va_get (D := (dC, dI)) (ci := 9) (v := .int fBad) (C := "RangeCodersModel") (T := T_M) (N := 35) hx hb hg in_M hown hK hP 0 rfl rfl 22 (by decide) (hg _ k974) (fun _ h9 => h9) rfl d_M_getBits_42 ?_
        refine lv_if_eq (tgt := 51) hx hb d_M_getBits_45 (by decide) (fun c_4 => ?_) (fun c_4 => ?_)
        · obtain ⟨RR, CD, q, rfl, rfl, rfl, hR1, hC, hq⟩ := hRD c_3 c_4
          have hPD : my_PD (dC, dI) vwCl A [(o, Sum.inr (9, mO g 0 fShift fModels fItems fEnded fLow fRange fCache fPend fGoes fOuts (nI is.length) fReads fBad fIR (nI q) fBAsk (lN CD) fRL (lN RR) fX fWrites 0)), ((g 8), Sum.inl (cI, 6000, Sum.inl vIn))] H := ⟨hP, hD⟩
          have hP := hPD.1
          have hD := hPD.2
          refine lv_aload_n hx hb d_M_getBits_51 rfl (lv_at hl 0 rfl) ?_
          refine lv_iload_n hx hb d_M_getBits_52 rfl (lv_at hl 1 rfl) ?_
          refine my_ci (wr := []) (va_runV (As := [Value.int (nI bb)]) (rest := []) ⟨hx, hb, hml, hown, hts⟩ (c_M_valueOf0 l dC dI cI cM cO H.size o g fShift fModels fItems fEnded fLow fRange fCache fPend fGoes fOuts fReads fBad fIR fBAsk fRL fX fWrites 0 vIn bb RR CD is q (hb1) (hb2) (hIn) (hlen) (hoct) (by omega) (hR1) (hC)) (cwV 1 hts (my_gV k1260 k1262 ks59 k12 k1263) rfl rfl rfl cu_M_valueOf_1 ⟨by rw [hR]; exact Nat.le_of_ble_eq_true rfl, by rw [hR]; exact Nat.le_of_ble_eq_true rfl⟩) (my_preV hK hN (hP.sub [0, 1] rfl) (hD.sub [0, 1] (by decide +kernel) rfl) 0 rfl rfl) rfl rfl hl.1 rfl (lv_room (Nat.le_of_ble_eq_true rfl)) d_M_getBits_53 ⟨by rw [hR]; exact Nat.le_of_ble_eq_true rfl, by rw [hR]; exact Nat.le_of_ble_eq_true rfl⟩) hP hD hS hA [0, 1] [] rfl rfl (by decide +kernel) (by decide +kernel) (fun r_53 u9 H locs hw_53 hP hD hS => ?_)
          have hw_53 : r_53 = oI (gv0 is bb (RR, CD, q)).1 := hw_53
          have hPD : my_PD (dC, dI) vwCl A [(o, Sum.inr (9, mO g 0 fShift fModels fItems fEnded fLow fRange fCache fPend fGoes fOuts (nI is.length) fReads fBad fIR (nI (gv0 is bb (RR, CD, q)).2.2.2) fBAsk (lN (gv0 is bb (RR, CD, q)).2.2.1) fRL (lN (gv0 is bb (RR, CD, q)).2.1) fX fWrites 0)), ((g 8), Sum.inl (cI, 6000, Sum.inl vIn))] H := ⟨hP, hD⟩
          have hP := hPD.1
          have hD := hPD.2
          refine lv_istore_n (lv' := [(2, Value.int r_53), (0, Value.ref o), (1, Value.int (nI bb))]) hx hb d_M_getBits_56 rfl hl (by decide) rfl (fun ls hl => ?_)
          have hg9 := gv0_ok (b := bb) (r := (RR, CD, q)) hoct hR1 hC
          have hg8 : (gv0 is bb (RR, CD, q)).2.2.2 ≤ q + 3 := hg9.2.2
          refine lv_iload_n hx hb d_M_getBits_57 rfl (lv_at hl 0 rfl) ?_
          refine lv_if_ge (tgt := 66) hx hb d_M_getBits_58 (by decide) (fun c_5 => ?_) (fun c_5 => ?_)
          · refine lv_aload_n hx hb d_M_getBits_66 rfl (lv_at hl 1 rfl) ?_
            refine lv_dup hx hb d_M_getBits_67 rfl ?_
            refine va_get (D := (dC, dI)) (ci := 9) (v := .int fIR) (C := "RangeCodersModel") (T := T_M) (N := 35) hx hb hg in_M hown hK hP 0 rfl rfl 23 (by decide) (hg _ k975) (fun _ h9 => h9) rfl d_M_getBits_68 ?_
            refine lv_iconst (v := 1) hx hb d_M_getBits_71 (by decide) ?_
            refine lv_iadd hx hb d_M_getBits_72 ?_
            refine lv_topi (fun v_6 ev_6 => ?_)
            refine va_put (D := (dC, dI)) (ci := 9) (v := .int v_6) (ty := .int) (C := "RangeCodersModel") (T := T_M) (N := 35) hx hb hg in_M t_M o_M n_M hown hK hP hD hS 0 rfl rfl 23 (by decide) (hg _ k975) (fun _ h9 => h9) rfl (o_M 23 (by decide)) rfl rfl (Nat.le_of_ble_eq_true rfl) d_M_getBits_73 (fun H locs hP hD hS => ?_)
            have hPD : my_PD (dC, dI) vwCl A [(o, Sum.inr (9, mO g 0 fShift fModels fItems fEnded fLow fRange fCache fPend fGoes fOuts (nI is.length) fReads fBad v_6 (nI (gv0 is bb (RR, CD, q)).2.2.2) fBAsk (lN (gv0 is bb (RR, CD, q)).2.2.1) fRL (lN (gv0 is bb (RR, CD, q)).2.1) fX fWrites 0)), ((g 8), Sum.inl (cI, 6000, Sum.inl vIn))] H := ⟨hP, hD⟩
            have hP := hPD.1
            have hD := hPD.2
            refine lv_iload_n hx hb d_M_getBits_76 rfl (lv_at hl 0 rfl) ?_
            exact my_iret (v := r_53) hx hb hr (rfl) hlocks hQ hK hS (Nat.le_refl _) (Nat.le_refl _) (fBad, v_6, nI (gv0 is bb (RR, CD, q)).2.2.2, lN (gv0 is bb (RR, CD, q)).2.2.1, lN (gv0 is bb (RR, CD, q)).2.1, (0 : Int32)) (fun _ _ => ⟨_, _, _, rfl, rfl, rfl, hg9.1, hg9.2.1, by omega⟩) (hP.sub [0, 1] rfl) (hD.sub [0, 1] (by decide +kernel) rfl) d_M_getBits_77
          · refine lv_aload_n hx hb d_M_getBits_61 rfl (lv_at hl 1 rfl) ?_
            refine my_ci (wr := [((g 8), Sum.inl (cI, 6000, Sum.inl vIn))]) (va_runV (As := []) (rest := []) ⟨hx, hb, hml, hown, hts⟩ (c_M_spoiled l dC dI cI cM cO H.size o g 0 fShift fModels fItems fEnded fLow fRange fCache fPend fGoes fOuts (nI is.length) fReads fBad fIR (nI (gv0 is bb (RR, CD, q)).2.2.2) fBAsk (lN (gv0 is bb (RR, CD, q)).2.2.1) fRL (lN (gv0 is bb (RR, CD, q)).2.1) fX fWrites 0) (cwV 0 hts (my_gV k1252 k1254 ks58 k12 k1255) rfl rfl rfl cu_M_spoiled_0 ⟨by rw [hR]; exact Nat.le_of_ble_eq_true rfl, by rw [hR]; exact Nat.le_of_ble_eq_true rfl⟩) (my_preV hK hN (hP.sub [0] rfl) (hD.sub [0] (by decide +kernel) rfl) 0 rfl rfl) rfl rfl hl.1 rfl (lv_room (Nat.le_of_ble_eq_true rfl)) d_M_getBits_62 ⟨by rw [hR]; exact Nat.le_of_ble_eq_true rfl, by rw [hR]; exact Nat.le_of_ble_eq_true rfl⟩) hP hD hS hA [0] [1] rfl rfl (by decide +kernel) (by decide +kernel) (fun r_62 u9 H locs hw_62 hP hD hS => ?_)
            have hw_62 : r_62 = -5 := hw_62
            have hPD : my_PD (dC, dI) vwCl A [((g 8), Sum.inl (cI, 6000, Sum.inl vIn)), (o, Sum.inr (9, mO g 0 fShift fModels fItems fEnded fLow fRange fCache fPend fGoes fOuts (nI is.length) fReads 1 fIR (nI (gv0 is bb (RR, CD, q)).2.2.2) fBAsk (lN (gv0 is bb (RR, CD, q)).2.2.1) fRL (lN (gv0 is bb (RR, CD, q)).2.1) fX fWrites 0))] H := ⟨hP, hD⟩
            have hP := hPD.1
            have hD := hPD.2
            exact my_iret (v := r_62) hx hb hr (rfl) hlocks hQ hK hS (Nat.le_refl _) (Nat.le_refl _) ((1 : Int32), fIR, (nI (gv0 is bb (RR, CD, q)).2.2.2), (lN (gv0 is bb (RR, CD, q)).2.2.1), (lN (gv0 is bb (RR, CD, q)).2.1), (0 : Int32)) (fun z1 z2 => absurd z2 (show ¬ (1 : Int32) = 0 by decide)) (hP.sub [1, 0] rfl) (hD.sub [1, 0] (by decide +kernel) rfl) d_M_getBits_65
        · refine lv_bipush (v := (-5)) hx hb d_M_getBits_48 (by decide) ?_
          exact my_iret (v := (-5)) hx hb hr (rfl) hlocks hQ hK hS (Nat.le_refl _) (Nat.le_refl _) (fBad, fIR, fAsk, fCode, fRR, (0 : Int32)) (fun z1 z2 => absurd z2 c_4) (hP.sub [0, 1] rfl) (hD.sub [0, 1] (by decide +kernel) rfl) d_M_getBits_50
      · refine lv_bipush (v := (-3)) hx hb d_M_getBits_38 (by decide) ?_
        exact my_iret (v := (-3)) hx hb hr (rfl) hlocks hQ hK hS (Nat.le_refl _) (Nat.le_refl _) (fBad, fIR, fAsk, fCode, fRR, (0 : Int32)) (fun z1 z2 => absurd c_3 z1) (hP.sub [0, 1] rfl) (hD.sub [0, 1] (by decide +kernel) rfl) d_M_getBits_40
    · refine lv_bipush (v := (-2)) hx hb d_M_getBits_28 (by decide) ?_
      exact my_iret (v := (-2)) hx hb hr (rfl) hlocks hQ hK hS (Nat.le_refl _) (Nat.le_refl _) (fBad, fIR, fAsk, fCode, fRR, (0 : Int32)) (fun z1 z2 => RD0_up (hRD z1 z2)) (hP.sub [0, 1] rfl) (hD.sub [0, 1] (by decide +kernel) rfl) d_M_getBits_30
  · exact absurd c_1 (by decide)
set_option maxHeartbeats 2000000 in
set_option maxRecDepth 100000 in
theorem c_M_getBits1 (l : Launch) (dC : Nat → ClassId) (dI : Nat → Nat → Nat) (cI cM cO : ClassId) (sz : Nat) (o : Nat) (g : Nat → Nat) (fForm : Int32) (fShift : Int32) (fModels : Int32) (fItems : Int32) (fEnded : Int32) (fLow : Int64) (fRange : Int64) (fCache : Int32) (fPend : Int32) (fGoes : Int32) (fOuts : Int32) (fIns : Int32) (fReads : Int32) (fBad : Int32) (fIR : Int32) (fAsk : Int32) (fBAsk : Int32) (fCode : Int64) (fRL : Int64) (fRR : Int64) (fX : Int64) (fWrites : Int32) (fThrown : Int32) (vIn : Nat → Int32) (cn : Nat) (p1 : Int32) (hfo : fForm = 1) (hIN : IN fIns vIn) (hcn : cn ≤ 1000) (hRD : ¬ fReads = 0 → fBad = 0 → RD1 cn fAsk fCode fRL fRR) : MetI l y_M_getBits (Cond.code y_M_getBits prog_14_method_57_code 3 (some .int) :: gw) ({ frames := 4, cells := 0, slots := 0, locals := 92 } : Room) (dC, dI) vwCl (kT cI cM cO) [Value.ref o, Value.int p1] [(o, Sum.inr (9, mO g fForm fShift fModels fItems fEnded fLow fRange fCache fPend fGoes fOuts fIns fReads fBad fIR fAsk fBAsk fCode fRL fRR fX fWrites fThrown)), ((g 8), Sum.inl (cI, 6000, Sum.inl vIn))] sz (fun (r : Int32) (u : Int32 × Int32 × Int32 × Int64 × Int64 × Int64 × Int32) => ¬ fReads = 0 → u.1 = 0 → RD1 (cn + 1) u.2.2.1 u.2.2.2.1 u.2.2.2.2.1 u.2.2.2.2.2.1) (fun (u : Int32 × Int32 × Int32 × Int64 × Int64 × Int64 × Int32) => [(o, Sum.inr (9, mO g fForm fShift fModels fItems fEnded fLow fRange fCache fPend fGoes fOuts fIns fReads u.1 u.2.1 u.2.2.1 fBAsk u.2.2.2.1 u.2.2.2.2.1 u.2.2.2.2.2.1 fX fWrites u.2.2.2.2.2.2)), ((g 8), Sum.inl (cI, 6000, Sum.inl vIn))]) 0 0 := by
  refine my_ofI (cc := prog_14_method_57_code) (n := 3) (ret := (some .int)) (by decide) rfl (Nat.le_of_ble_eq_true rfl) ?_
  intro p e s m args below meth c R Q A ls H locs hx hb hr hts hown hlocks hml hnm hR hQ hA hl hP hK hN hD hS
  have hg : ∀ w ∈ gw, w.before args s = true := fun w h => hts w (List.mem_cons_of_mem _ h)
  have hown : s.vm.findClass "RangeCodersModel" = some m.cls := hown
  have hl : lv_has ls 3 [(0, Value.ref o), (1, Value.int p1)] := hl
  subst hfo
  obtain ⟨is, rfl, hIn, hlen, hoct⟩ := hIN
  have hPD : my_PD (dC, dI) vwCl A [(o, Sum.inr (9, mO g 1 fShift fModels fItems fEnded fLow fRange fCache fPend fGoes fOuts (nI is.length) fReads fBad fIR fAsk fBAsk fCode fRL fRR fX fWrites fThrown)), ((g 8), Sum.inl (cI, 6000, Sum.inl vIn))] H := ⟨hP, hD⟩
  have hP := hPD.1
  have hD := hPD.2
  have hl : lv_has ls 3 [(0, Value.ref o), (1, Value.int p1)] := hl
  refine lv_aload_n hx hb d_M_getBits_0 rfl (lv_at hl 0 rfl) ?_
  refine lv_iconst (v := 0) hx hb d_M_getBits_1 (by decide) ?_
  refine va_put (D := (dC, dI)) (ci := 9) (v := .int 0) (ty := .int) (C := "RangeCodersModel") (T := T_M) (N := 35) hx hb hg in_M t_M o_M n_M hown hK hP hD hS 0 rfl rfl 34 (by decide) (hg _ k986) (fun _ h9 => h9) rfl (o_M 34 (by decide)) rfl rfl (Nat.le_of_ble_eq_true rfl) d_M_getBits_2 (fun H locs hP hD hS => ?_)
  have hPD : my_PD (dC, dI) vwCl A [(o, Sum.inr (9, mO g 1 fShift fModels fItems fEnded fLow fRange fCache fPend fGoes fOuts (nI is.length) fReads fBad fIR fAsk fBAsk fCode fRL fRR fX fWrites 0)), ((g 8), Sum.inl (cI, 6000, Sum.inl vIn))] H := ⟨hP, hD⟩
  have hP := hPD.1
  have hD := hPD.2
  refine lv_iload_n hx hb d_M_getBits_5 rfl (lv_at hl 1 rfl) ?_
  refine lv_iconst (v := 1) hx hb d_M_getBits_6 (by decide) ?_
  refine lv_aload_n hx hb d_M_getBits_7 rfl (lv_at hl 0 rfl) ?_
  refine va_get (D := (dC, dI)) (ci := 9) (v := .int 1) (C := "RangeCodersModel") (T := T_M) (N := 35) hx hb hg in_M hown hK hP 0 rfl rfl 0 (by decide) (hg _ k952) (fun _ h9 => h9) rfl d_M_getBits_8 ?_
  refine lv_iconst (v := 4) hx hb d_M_getBits_11 (by decide) ?_
  refine lv_icmp_ne (tgt := 20) hx hb d_M_getBits_12 (by decide) (fun c_1 => ?_) (fun c_1 => ?_)
  · refine lv_bipush (v := 12) hx hb d_M_getBits_20 (by decide) ?_
    refine my_ci (wr := [(o, Sum.inr (9, mO g 1 fShift fModels fItems fEnded fLow fRange fCache fPend fGoes fOuts (nI is.length) fReads fBad fIR fAsk fBAsk fCode fRL fRR fX fWrites 0)), ((g 8), Sum.inl (cI, 6000, Sum.inl vIn))]) (va_runS (As := [Value.int p1, Value.int 1, Value.int 12]) (rest := []) ⟨hx, hb, hml, hown, hts⟩ (c_M_in l dC dI cI cM cO H.size p1 1 12) (cwS 3 hts (my_gS k1062 k1063 k12 k1064) rfl rfl rfl (by decide +kernel) ⟨by rw [hR]; exact Nat.le_of_ble_eq_true rfl, by rw [hR]; exact Nat.le_of_ble_eq_true rfl⟩) (my_pre hK hN (hP.sub [] rfl) (hD.sub [] (by decide +kernel) rfl)) rfl rfl hl.1 rfl (lv_room (Nat.le_of_ble_eq_true rfl)) d_M_getBits_22 ⟨by rw [hR]; exact Nat.le_of_ble_eq_true rfl, by rw [hR]; exact Nat.le_of_ble_eq_true rfl⟩) hP hD hS hA [] [0, 1] rfl rfl (by decide +kernel) (by decide +kernel) (fun r_22 u9 H locs hw_22 hP hD hS => ?_)
    have hw_22 : r_22 = if 1 ≤ p1 ∧ p1 ≤ 12 then 1 else 0 := hw_22
    have hPD : my_PD (dC, dI) vwCl A [(o, Sum.inr (9, mO g 1 fShift fModels fItems fEnded fLow fRange fCache fPend fGoes fOuts (nI is.length) fReads fBad fIR fAsk fBAsk fCode fRL fRR fX fWrites 0)), ((g 8), Sum.inl (cI, 6000, Sum.inl vIn))] H := ⟨hP, hD⟩
    have hP := hPD.1
    have hD := hPD.2
    refine lv_if_ne (tgt := 31) hx hb d_M_getBits_25 (by decide) (fun c_2 => ?_) (fun c_2 => ?_)
    · obtain ⟨bb, hb1, hb2, eb⟩ := in_of2 (a := 1) (b := 12) (by decide) (by decide) (one_ne hw_22 c_2)
      subst eb
      refine lv_aload_n hx hb d_M_getBits_31 rfl (lv_at hl 0 rfl) ?_
      refine va_get (D := (dC, dI)) (ci := 9) (v := .int fReads) (C := "RangeCodersModel") (T := T_M) (N := 35) hx hb hg in_M hown hK hP 0 rfl rfl 21 (by decide) (hg _ k973) (fun _ h9 => h9) rfl d_M_getBits_32 ?_
      refine lv_if_ne (tgt := 41) hx hb d_M_getBits_35 (by decide) (fun c_3 => ?_) (fun c_3 => ?_)
      · refine lv_aload_n hx hb d_M_getBits_41 rfl (lv_at hl 0 rfl) ?_
        refine va_get (D := (dC, dI)) (ci := 9) (v := .int fBad) (C := "RangeCodersModel") (T := T_M) (N := 35) hx hb hg in_M hown hK hP 0 rfl rfl 22 (by decide) (hg _ k974) (fun _ h9 => h9) rfl d_M_getBits_42 ?_
        refine lv_if_eq (tgt := 51) hx hb d_M_getBits_45 (by decide) (fun c_4 => ?_) (fun c_4 => ?_)
        · obtain ⟨RR, L, CD, q, rfl, rfl, rfl, rfl, hp, hC, hq⟩ := hRD c_3 c_4
          have hPD : my_PD (dC, dI) vwCl A [(o, Sum.inr (9, mO g 1 fShift fModels fItems fEnded fLow fRange fCache fPend fGoes fOuts (nI is.length) fReads fBad fIR (nI q) fBAsk (lN CD) (lN L) (lN RR) fX fWrites 0)), ((g 8), Sum.inl (cI, 6000, Sum.inl vIn))] H := ⟨hP, hD⟩
          have hP := hPD.1
          have hD := hPD.2
          refine lv_aload_n hx hb d_M_getBits_51 rfl (lv_at hl 0 rfl) ?_
          refine lv_iload_n hx hb d_M_getBits_52 rfl (lv_at hl 1 rfl) ?_
          refine my_ci (wr := []) (va_runV (As := [Value.int (nI bb)]) (rest := []) ⟨hx, hb, hml, hown, hts⟩ (c_M_valueOf1 l dC dI cI cM cO H.size o g fShift fModels fItems fEnded fLow fRange fCache fPend fGoes fOuts fReads fBad fIR fBAsk fX fWrites 0 vIn bb RR L CD is q (hb1) (hb2) (hIn) (hlen) (hoct) (by omega) (hp) (hC)) (cwV 1 hts (my_gV k1260 k1262 ks59 k12 k1263) rfl rfl rfl cu_M_valueOf_1 ⟨by rw [hR]; exact Nat.le_of_ble_eq_true rfl, by rw [hR]; exact Nat.le_of_ble_eq_true rfl⟩) (my_preV hK hN (hP.sub [0, 1] rfl) (hD.sub [0, 1] (by decide +kernel) rfl) 0 rfl rfl) rfl rfl hl.1 rfl (lv_room (Nat.le_of_ble_eq_true rfl)) d_M_getBits_53 ⟨by rw [hR]; exact Nat.le_of_ble_eq_true rfl, by rw [hR]; exact Nat.le_of_ble_eq_true rfl⟩) hP hD hS hA [0, 1] [] rfl rfl (by decide +kernel) (by decide +kernel) (fun r_53 u9 H locs hw_53 hP hD hS => ?_)
          have hw_53 : r_53 = oI (gv1 is bb (RR, L, CD, q)).1 := hw_53
          have hPD : my_PD (dC, dI) vwCl A [(o, Sum.inr (9, mO g 1 fShift fModels fItems fEnded fLow fRange fCache fPend fGoes fOuts (nI is.length) fReads fBad fIR (nI (gv1 is bb (RR, L, CD, q)).2.2.2.2) fBAsk (lN (gv1 is bb (RR, L, CD, q)).2.2.2.1) (lN (gv1 is bb (RR, L, CD, q)).2.2.1) (lN (gv1 is bb (RR, L, CD, q)).2.1) fX fWrites 0)), ((g 8), Sum.inl (cI, 6000, Sum.inl vIn))] H := ⟨hP, hD⟩
          have hP := hPD.1
          have hD := hPD.2
          refine lv_istore_n (lv' := [(2, Value.int r_53), (0, Value.ref o), (1, Value.int (nI bb))]) hx hb d_M_getBits_56 rfl hl (by decide) rfl (fun ls hl => ?_)
          have hg9 := gv1_ok (b := bb) (q := q) hoct hp hC
          refine lv_iload_n hx hb d_M_getBits_57 rfl (lv_at hl 0 rfl) ?_
          refine lv_if_ge (tgt := 66) hx hb d_M_getBits_58 (by decide) (fun c_5 => ?_) (fun c_5 => ?_)
          · refine lv_aload_n hx hb d_M_getBits_66 rfl (lv_at hl 1 rfl) ?_
            refine lv_dup hx hb d_M_getBits_67 rfl ?_
            refine va_get (D := (dC, dI)) (ci := 9) (v := .int fIR) (C := "RangeCodersModel") (T := T_M) (N := 35) hx hb hg in_M hown hK hP 0 rfl rfl 23 (by decide) (hg _ k975) (fun _ h9 => h9) rfl d_M_getBits_68 ?_
            refine lv_iconst (v := 1) hx hb d_M_getBits_71 (by decide) ?_
            refine lv_iadd hx hb d_M_getBits_72 ?_
            refine lv_topi (fun v_6 ev_6 => ?_)
            refine va_put (D := (dC, dI)) (ci := 9) (v := .int v_6) (ty := .int) (C := "RangeCodersModel") (T := T_M) (N := 35) hx hb hg in_M t_M o_M n_M hown hK hP hD hS 0 rfl rfl 23 (by decide) (hg _ k975) (fun _ h9 => h9) rfl (o_M 23 (by decide)) rfl rfl (Nat.le_of_ble_eq_true rfl) d_M_getBits_73 (fun H locs hP hD hS => ?_)
            have hPD : my_PD (dC, dI) vwCl A [(o, Sum.inr (9, mO g 1 fShift fModels fItems fEnded fLow fRange fCache fPend fGoes fOuts (nI is.length) fReads fBad v_6 (nI (gv1 is bb (RR, L, CD, q)).2.2.2.2) fBAsk (lN (gv1 is bb (RR, L, CD, q)).2.2.2.1) (lN (gv1 is bb (RR, L, CD, q)).2.2.1) (lN (gv1 is bb (RR, L, CD, q)).2.1) fX fWrites 0)), ((g 8), Sum.inl (cI, 6000, Sum.inl vIn))] H := ⟨hP, hD⟩
            have hP := hPD.1
            have hD := hPD.2
            refine lv_iload_n hx hb d_M_getBits_76 rfl (lv_at hl 0 rfl) ?_
            exact my_iret (v := r_53) hx hb hr (rfl) hlocks hQ hK hS (Nat.le_refl _) (Nat.le_refl _) (fBad, v_6, nI (gv1 is bb (RR, L, CD, q)).2.2.2.2, lN (gv1 is bb (RR, L, CD, q)).2.2.2.1, lN (gv1 is bb (RR, L, CD, q)).2.2.1, lN (gv1 is bb (RR, L, CD, q)).2.1, (0 : Int32)) (fun _ _ => ⟨_, _, _, _, rfl, rfl, rfl, rfl, hg9.1, hg9.2.1, by omega⟩) (hP.sub [0, 1] rfl) (hD.sub [0, 1] (by decide +kernel) rfl) d_M_getBits_77
          · refine lv_aload_n hx hb d_M_getBits_61 rfl (lv_at hl 1 rfl) ?_
            refine my_ci (wr := [((g 8), Sum.inl (cI, 6000, Sum.inl vIn))]) (va_runV (As := []) (rest := []) ⟨hx, hb, hml, hown, hts⟩ (c_M_spoiled l dC dI cI cM cO H.size o g 1 fShift fModels fItems fEnded fLow fRange fCache fPend fGoes fOuts (nI is.length) fReads fBad fIR (nI (gv1 is bb (RR, L, CD, q)).2.2.2.2) fBAsk (lN (gv1 is bb (RR, L, CD, q)).2.2.2.1) (lN (gv1 is bb (RR, L, CD, q)).2.2.1) (lN (gv1 is bb (RR, L, CD, q)).2.1) fX fWrites 0) (cwV 0 hts (my_gV k1252 k1254 ks58 k12 k1255) rfl rfl rfl cu_M_spoiled_0 ⟨by rw [hR]; exact Nat.le_of_ble_eq_true rfl, by rw [hR]; exact Nat.le_of_ble_eq_true rfl⟩) (my_preV hK hN (hP.sub [0] rfl) (hD.sub [0] (by decide +kernel) rfl) 0 rfl rfl) rfl rfl hl.1 rfl (lv_room (Nat.le_of_ble_eq_true rfl)) d_M_getBits_62 ⟨by rw [hR]; exact Nat.le_of_ble_eq_true rfl, by rw [hR]; exact Nat.le_of_ble_eq_true rfl⟩) hP hD hS hA [0] [1] rfl rfl (by decide +kernel) (by decide +kernel) (fun r_62 u9 H locs hw_62 hP hD hS => ?_)
            have hw_62 : r_62 = -5 := hw_62
            have hPD : my_PD (dC, dI) vwCl A [((g 8), Sum.inl (cI, 6000, Sum.inl vIn)), (o, Sum.inr (9, mO g 1 fShift fModels fItems fEnded fLow fRange fCache fPend fGoes fOuts (nI is.length) fReads 1 fIR (nI (gv1 is bb (RR, L, CD, q)).2.2.2.2) fBAsk (lN (gv1 is bb (RR, L, CD, q)).2.2.2.1) (lN (gv1 is bb (RR, L, CD, q)).2.2.1) (lN (gv1 is bb (RR, L, CD, q)).2.1) fX fWrites 0))] H := ⟨hP, hD⟩
            have hP := hPD.1
            have hD := hPD.2
            exact my_iret (v := r_62) hx hb hr (rfl) hlocks hQ hK hS (Nat.le_refl _) (Nat.le_refl _) ((1 : Int32), fIR, (nI (gv1 is bb (RR, L, CD, q)).2.2.2.2), (lN (gv1 is bb (RR, L, CD, q)).2.2.2.1), (lN (gv1 is bb (RR, L, CD, q)).2.2.1), (lN (gv1 is bb (RR, L, CD, q)).2.1), (0 : Int32)) (fun z1 z2 => absurd z2 (show ¬ (1 : Int32) = 0 by decide)) (hP.sub [1, 0] rfl) (hD.sub [1, 0] (by decide +kernel) rfl) d_M_getBits_65
        · refine lv_bipush (v := (-5)) hx hb d_M_getBits_48 (by decide) ?_
          exact my_iret (v := (-5)) hx hb hr (rfl) hlocks hQ hK hS (Nat.le_refl _) (Nat.le_refl _) (fBad, fIR, fAsk, fCode, fRL, fRR, (0 : Int32)) (fun z1 z2 => absurd z2 c_4) (hP.sub [0, 1] rfl) (hD.sub [0, 1] (by decide +kernel) rfl) d_M_getBits_50
      · refine lv_bipush (v := (-3)) hx hb d_M_getBits_38 (by decide) ?_
        exact my_iret (v := (-3)) hx hb hr (rfl) hlocks hQ hK hS (Nat.le_refl _) (Nat.le_refl _) (fBad, fIR, fAsk, fCode, fRL, fRR, (0 : Int32)) (fun z1 z2 => absurd c_3 z1) (hP.sub [0, 1] rfl) (hD.sub [0, 1] (by decide +kernel) rfl) d_M_getBits_40
    · refine lv_bipush (v := (-2)) hx hb d_M_getBits_28 (by decide) ?_
      exact my_iret (v := (-2)) hx hb hr (rfl) hlocks hQ hK hS (Nat.le_refl _) (Nat.le_refl _) (fBad, fIR, fAsk, fCode, fRL, fRR, (0 : Int32)) (fun z1 z2 => RD1_up (hRD z1 z2)) (hP.sub [0, 1] rfl) (hD.sub [0, 1] (by decide +kernel) rfl) d_M_getBits_30
  · exact absurd c_1 (by decide)
set_option maxHeartbeats 2000000 in
set_option maxRecDepth 100000 in
theorem c_M_getBits2 (l : Launch) (dC : Nat → ClassId) (dI : Nat → Nat → Nat) (cI cM cO : ClassId) (sz : Nat) (o : Nat) (g : Nat → Nat) (fForm : Int32) (fShift : Int32) (fModels : Int32) (fItems : Int32) (fEnded : Int32) (fLow : Int64) (fRange : Int64) (fCache : Int32) (fPend : Int32) (fGoes : Int32) (fOuts : Int32) (fIns : Int32) (fReads : Int32) (fBad : Int32) (fIR : Int32) (fAsk : Int32) (fBAsk : Int32) (fCode : Int64) (fRL : Int64) (fRR : Int64) (fX : Int64) (fWrites : Int32) (fThrown : Int32) (vIn : Nat → Int32) (cn : Nat) (p1 : Int32) (hfo : fForm = 2) (hIN : IN fIns vIn) (hcn : cn ≤ 1000) (hRD : ¬ fReads = 0 → fBad = 0 → RD2 cn fAsk fCode fRR) : MetI l y_M_getBits (Cond.code y_M_getBits prog_14_method_57_code 3 (some .int) :: gw) ({ frames := 4, cells := 0, slots := 0, locals := 89 } : Room) (dC, dI) vwCl (kT cI cM cO) [Value.ref o, Value.int p1] [(o, Sum.inr (9, mO g fForm fShift fModels fItems fEnded fLow fRange fCache fPend fGoes fOuts fIns fReads fBad fIR fAsk fBAsk fCode fRL fRR fX fWrites fThrown)), ((g 8), Sum.inl (cI, 6000, Sum.inl vIn))] sz (fun (r : Int32) (u : Int32 × Int32 × Int32 × Int64 × Int64 × Int32) => ¬ fReads = 0 → u.1 = 0 → RD2 (cn + 1) u.2.2.1 u.2.2.2.1 u.2.2.2.2.1) (fun (u : Int32 × Int32 × Int32 × Int64 × Int64 × Int32) => [(o, Sum.inr (9, mO g fForm fShift fModels fItems fEnded fLow fRange fCache fPend fGoes fOuts fIns fReads u.1 u.2.1 u.2.2.1 fBAsk u.2.2.2.1 fRL u.2.2.2.2.1 fX fWrites u.2.2.2.2.2)), ((g 8), Sum.inl (cI, 6000, Sum.inl vIn))]) 0 0 := by
  refine my_ofI (cc := prog_14_method_57_code) (n := 3) (ret := (some .int)) (by decide) rfl (Nat.le_of_ble_eq_true rfl) ?_
  intro p e s m args below meth c R Q A ls H locs hx hb hr hts hown hlocks hml hnm hR hQ hA hl hP hK hN hD hS
  have hg : ∀ w ∈ gw, w.before args s = true := fun w h => hts w (List.mem_cons_of_mem _ h)
  have hown : s.vm.findClass "RangeCodersModel" = some m.cls := hown
  have hl : lv_has ls 3 [(0, Value.ref o), (1, Value.int p1)] := hl
  subst hfo
  obtain ⟨is, rfl, hIn, hlen, hoct⟩ := hIN
  have hPD : my_PD (dC, dI) vwCl A [(o, Sum.inr (9, mO g 2 fShift fModels fItems fEnded fLow fRange fCache fPend fGoes fOuts (nI is.length) fReads fBad fIR fAsk fBAsk fCode fRL fRR fX fWrites fThrown)), ((g 8), Sum.inl (cI, 6000, Sum.inl vIn))] H := ⟨hP, hD⟩
  have hP := hPD.1
  have hD := hPD.2
  have hl : lv_has ls 3 [(0, Value.ref o), (1, Value.int p1)] := hl
  refine lv_aload_n hx hb d_M_getBits_0 rfl (lv_at hl 0 rfl) ?_
  refine lv_iconst (v := 0) hx hb d_M_getBits_1 (by decide) ?_
  refine va_put (D := (dC, dI)) (ci := 9) (v := .int 0) (ty := .int) (C := "RangeCodersModel") (T := T_M) (N := 35) hx hb hg in_M t_M o_M n_M hown hK hP hD hS 0 rfl rfl 34 (by decide) (hg _ k986) (fun _ h9 => h9) rfl (o_M 34 (by decide)) rfl rfl (Nat.le_of_ble_eq_true rfl) d_M_getBits_2 (fun H locs hP hD hS => ?_)
  have hPD : my_PD (dC, dI) vwCl A [(o, Sum.inr (9, mO g 2 fShift fModels fItems fEnded fLow fRange fCache fPend fGoes fOuts (nI is.length) fReads fBad fIR fAsk fBAsk fCode fRL fRR fX fWrites 0)), ((g 8), Sum.inl (cI, 6000, Sum.inl vIn))] H := ⟨hP, hD⟩
  have hP := hPD.1
  have hD := hPD.2
  refine lv_iload_n hx hb d_M_getBits_5 rfl (lv_at hl 1 rfl) ?_
  refine lv_iconst (v := 1) hx hb d_M_getBits_6 (by decide) ?_
  refine lv_aload_n hx hb d_M_getBits_7 rfl (lv_at hl 0 rfl) ?_
  refine va_get (D := (dC, dI)) (ci := 9) (v := .int 2) (C := "RangeCodersModel") (T := T_M) (N := 35) hx hb hg in_M hown hK hP 0 rfl rfl 0 (by decide) (hg _ k952) (fun _ h9 => h9) rfl d_M_getBits_8 ?_
  refine lv_iconst (v := 4) hx hb d_M_getBits_11 (by decide) ?_
  refine lv_icmp_ne (tgt := 20) hx hb d_M_getBits_12 (by decide) (fun c_1 => ?_) (fun c_1 => ?_)
  · refine lv_bipush (v := 12) hx hb d_M_getBits_20 (by decide) ?_
    refine my_ci (wr := [(o, Sum.inr (9, mO g 2 fShift fModels fItems fEnded fLow fRange fCache fPend fGoes fOuts (nI is.length) fReads fBad fIR fAsk fBAsk fCode fRL fRR fX fWrites 0)), ((g 8), Sum.inl (cI, 6000, Sum.inl vIn))]) (va_runS (As := [Value.int p1, Value.int 1, Value.int 12]) (rest := []) ⟨hx, hb, hml, hown, hts⟩ (c_M_in l dC dI cI cM cO H.size p1 1 12) (cwS 3 hts (my_gS k1062 k1063 k12 k1064) rfl rfl rfl (by decide +kernel) ⟨by rw [hR]; exact Nat.le_of_ble_eq_true rfl, by rw [hR]; exact Nat.le_of_ble_eq_true rfl⟩) (my_pre hK hN (hP.sub [] rfl) (hD.sub [] (by decide +kernel) rfl)) rfl rfl hl.1 rfl (lv_room (Nat.le_of_ble_eq_true rfl)) d_M_getBits_22 ⟨by rw [hR]; exact Nat.le_of_ble_eq_true rfl, by rw [hR]; exact Nat.le_of_ble_eq_true rfl⟩) hP hD hS hA [] [0, 1] rfl rfl (by decide +kernel) (by decide +kernel) (fun r_22 u9 H locs hw_22 hP hD hS => ?_)
    have hw_22 : r_22 = if 1 ≤ p1 ∧ p1 ≤ 12 then 1 else 0 := hw_22
    have hPD : my_PD (dC, dI) vwCl A [(o, Sum.inr (9, mO g 2 fShift fModels fItems fEnded fLow fRange fCache fPend fGoes fOuts (nI is.length) fReads fBad fIR fAsk fBAsk fCode fRL fRR fX fWrites 0)), ((g 8), Sum.inl (cI, 6000, Sum.inl vIn))] H := ⟨hP, hD⟩
    have hP := hPD.1
    have hD := hPD.2
    refine lv_if_ne (tgt := 31) hx hb d_M_getBits_25 (by decide) (fun c_2 => ?_) (fun c_2 => ?_)
    · obtain ⟨bb, hb1, hb2, eb⟩ := in_of2 (a := 1) (b := 12) (by decide) (by decide) (one_ne hw_22 c_2)
      subst eb
      refine lv_aload_n hx hb d_M_getBits_31 rfl (lv_at hl 0 rfl) ?_
      refine va_get (D := (dC, dI)) (ci := 9) (v := .int fReads) (C := "RangeCodersModel") (T := T_M) (N := 35) hx hb hg in_M hown hK hP 0 rfl rfl 21 (by decide) (hg _ k973) (fun _ h9 => h9) rfl d_M_getBits_32 ?_
      refine lv_if_ne (tgt := 41) hx hb d_M_getBits_35 (by decide) (fun c_3 => ?_) (fun c_3 => ?_)
      · refine lv_aload_n hx hb d_M_getBits_41 rfl (lv_at hl 0 rfl) ?_
        refine va_get (D := (dC, dI)) (ci := 9) (v := .int fBad) (C := "RangeCodersModel") (T := T_M) (N := 35) hx hb hg in_M hown hK hP 0 rfl rfl 22 (by decide) (hg _ k974) (fun _ h9 => h9) rfl d_M_getBits_42 ?_
        refine lv_if_eq (tgt := 51) hx hb d_M_getBits_45 (by decide) (fun c_4 => ?_) (fun c_4 => ?_)
        · obtain ⟨RR, CD, q, rfl, rfl, rfl, hI2, hq⟩ := hRD c_3 c_4
          have hPD : my_PD (dC, dI) vwCl A [(o, Sum.inr (9, mO g 2 fShift fModels fItems fEnded fLow fRange fCache fPend fGoes fOuts (nI is.length) fReads fBad fIR (nI q) fBAsk (lN CD) fRL (lN RR) fX fWrites 0)), ((g 8), Sum.inl (cI, 6000, Sum.inl vIn))] H := ⟨hP, hD⟩
          have hP := hPD.1
          have hD := hPD.2
          refine lv_aload_n hx hb d_M_getBits_51 rfl (lv_at hl 0 rfl) ?_
          refine lv_iload_n hx hb d_M_getBits_52 rfl (lv_at hl 1 rfl) ?_
          refine my_ci (wr := []) (va_runV (As := [Value.int (nI bb)]) (rest := []) ⟨hx, hb, hml, hown, hts⟩ (c_M_valueOf2 l dC dI cI cM cO H.size o g fShift fModels fItems fEnded fLow fRange fCache fPend fGoes fOuts fReads fBad fIR fBAsk fRL fX fWrites 0 vIn bb RR CD is q (hIn) (hlen) (hoct) (by omega) (hb2) (hI2)) (cwV 1 hts (my_gV k1260 k1262 ks59 k12 k1263) rfl rfl rfl cu_M_valueOf_1 ⟨by rw [hR]; exact Nat.le_of_ble_eq_true rfl, by rw [hR]; exact Nat.le_of_ble_eq_true rfl⟩) (my_preV hK hN (hP.sub [0, 1] rfl) (hD.sub [0, 1] (by decide +kernel) rfl) 0 rfl rfl) rfl rfl hl.1 rfl (lv_room (Nat.le_of_ble_eq_true rfl)) d_M_getBits_53 ⟨by rw [hR]; exact Nat.le_of_ble_eq_true rfl, by rw [hR]; exact Nat.le_of_ble_eq_true rfl⟩) hP hD hS hA [0, 1] [] rfl rfl (by decide +kernel) (by decide +kernel) (fun r_53 u9 H locs hw_53 hP hD hS => ?_)
          have hw_53 : r_53 = oI (pbS is bb (RR, CD, q)).1 := hw_53
          have hPD : my_PD (dC, dI) vwCl A [(o, Sum.inr (9, mO g 2 fShift fModels fItems fEnded fLow fRange fCache fPend fGoes fOuts (nI is.length) fReads fBad fIR (nI (pbS is bb (RR, CD, q)).2.2.2) fBAsk (lN (pbS is bb (RR, CD, q)).2.2.1) fRL (lN (pbS is bb (RR, CD, q)).2.1) fX fWrites 0)), ((g 8), Sum.inl (cI, 6000, Sum.inl vIn))] H := ⟨hP, hD⟩
          have hP := hPD.1
          have hD := hPD.2
          refine lv_istore_n (lv' := [(2, Value.int r_53), (0, Value.ref o), (1, Value.int (nI bb))]) hx hb d_M_getBits_56 rfl hl (by decide) rfl (fun ls hl => ?_)
          refine lv_iload_n hx hb d_M_getBits_57 rfl (lv_at hl 0 rfl) ?_
          refine lv_if_ge (tgt := 66) hx hb d_M_getBits_58 (by decide) (fun c_5 => ?_) (fun c_5 => ?_)
          · have hg9 := pb_ok hoct (b := bb) (r := (RR, CD, q)) hI2 (fun z9 => by rw [z9] at hw_53; rw [hw_53] at c_5; exact absurd c_5 (by decide))
            have hg8 : (pbS is bb (RR, CD, q)).2.2.2 ≤ q + 3 * bb := hg9.2
            refine lv_aload_n hx hb d_M_getBits_66 rfl (lv_at hl 1 rfl) ?_
            refine lv_dup hx hb d_M_getBits_67 rfl ?_
            refine va_get (D := (dC, dI)) (ci := 9) (v := .int fIR) (C := "RangeCodersModel") (T := T_M) (N := 35) hx hb hg in_M hown hK hP 0 rfl rfl 23 (by decide) (hg _ k975) (fun _ h9 => h9) rfl d_M_getBits_68 ?_
            refine lv_iconst (v := 1) hx hb d_M_getBits_71 (by decide) ?_
            refine lv_iadd hx hb d_M_getBits_72 ?_
            refine lv_topi (fun v_6 ev_6 => ?_)
            refine va_put (D := (dC, dI)) (ci := 9) (v := .int v_6) (ty := .int) (C := "RangeCodersModel") (T := T_M) (N := 35) hx hb hg in_M t_M o_M n_M hown hK hP hD hS 0 rfl rfl 23 (by decide) (hg _ k975) (fun _ h9 => h9) rfl (o_M 23 (by decide)) rfl rfl (Nat.le_of_ble_eq_true rfl) d_M_getBits_73 (fun H locs hP hD hS => ?_)
            have hPD : my_PD (dC, dI) vwCl A [(o, Sum.inr (9, mO g 2 fShift fModels fItems fEnded fLow fRange fCache fPend fGoes fOuts (nI is.length) fReads fBad v_6 (nI (pbS is bb (RR, CD, q)).2.2.2) fBAsk (lN (pbS is bb (RR, CD, q)).2.2.1) fRL (lN (pbS is bb (RR, CD, q)).2.1) fX fWrites 0)), ((g 8), Sum.inl (cI, 6000, Sum.inl vIn))] H := ⟨hP, hD⟩
            have hP := hPD.1
            have hD := hPD.2
            refine lv_iload_n hx hb d_M_getBits_76 rfl (lv_at hl 0 rfl) ?_
            exact my_iret (v := r_53) hx hb hr (rfl) hlocks hQ hK hS (Nat.le_refl _) (Nat.le_refl _) (fBad, v_6, nI (pbS is bb (RR, CD, q)).2.2.2, lN (pbS is bb (RR, CD, q)).2.2.1, lN (pbS is bb (RR, CD, q)).2.1, (0 : Int32)) (fun _ _ => ⟨_, _, _, rfl, rfl, rfl, hg9.1, by omega⟩) (hP.sub [0, 1] rfl) (hD.sub [0, 1] (by decide +kernel) rfl) d_M_getBits_77
          · refine lv_aload_n hx hb d_M_getBits_61 rfl (lv_at hl 1 rfl) ?_
            refine my_ci (wr := [((g 8), Sum.inl (cI, 6000, Sum.inl vIn))]) (va_runV (As := []) (rest := []) ⟨hx, hb, hml, hown, hts⟩ (c_M_spoiled l dC dI cI cM cO H.size o g 2 fShift fModels fItems fEnded fLow fRange fCache fPend fGoes fOuts (nI is.length) fReads fBad fIR (nI (pbS is bb (RR, CD, q)).2.2.2) fBAsk (lN (pbS is bb (RR, CD, q)).2.2.1) fRL (lN (pbS is bb (RR, CD, q)).2.1) fX fWrites 0) (cwV 0 hts (my_gV k1252 k1254 ks58 k12 k1255) rfl rfl rfl cu_M_spoiled_0 ⟨by rw [hR]; exact Nat.le_of_ble_eq_true rfl, by rw [hR]; exact Nat.le_of_ble_eq_true rfl⟩) (my_preV hK hN (hP.sub [0] rfl) (hD.sub [0] (by decide +kernel) rfl) 0 rfl rfl) rfl rfl hl.1 rfl (lv_room (Nat.le_of_ble_eq_true rfl)) d_M_getBits_62 ⟨by rw [hR]; exact Nat.le_of_ble_eq_true rfl, by rw [hR]; exact Nat.le_of_ble_eq_true rfl⟩) hP hD hS hA [0] [1] rfl rfl (by decide +kernel) (by decide +kernel) (fun r_62 u9 H locs hw_62 hP hD hS => ?_)
            have hw_62 : r_62 = -5 := hw_62
            have hPD : my_PD (dC, dI) vwCl A [((g 8), Sum.inl (cI, 6000, Sum.inl vIn)), (o, Sum.inr (9, mO g 2 fShift fModels fItems fEnded fLow fRange fCache fPend fGoes fOuts (nI is.length) fReads 1 fIR (nI (pbS is bb (RR, CD, q)).2.2.2) fBAsk (lN (pbS is bb (RR, CD, q)).2.2.1) fRL (lN (pbS is bb (RR, CD, q)).2.1) fX fWrites 0))] H := ⟨hP, hD⟩
            have hP := hPD.1
            have hD := hPD.2
            exact my_iret (v := r_62) hx hb hr (rfl) hlocks hQ hK hS (Nat.le_refl _) (Nat.le_refl _) ((1 : Int32), fIR, (nI (pbS is bb (RR, CD, q)).2.2.2), (lN (pbS is bb (RR, CD, q)).2.2.1), (lN (pbS is bb (RR, CD, q)).2.1), (0 : Int32)) (fun z1 z2 => absurd z2 (show ¬ (1 : Int32) = 0 by decide)) (hP.sub [1, 0] rfl) (hD.sub [1, 0] (by decide +kernel) rfl) d_M_getBits_65
        · refine lv_bipush (v := (-5)) hx hb d_M_getBits_48 (by decide) ?_
          exact my_iret (v := (-5)) hx hb hr (rfl) hlocks hQ hK hS (Nat.le_refl _) (Nat.le_refl _) (fBad, fIR, fAsk, fCode, fRR, (0 : Int32)) (fun z1 z2 => absurd z2 c_4) (hP.sub [0, 1] rfl) (hD.sub [0, 1] (by decide +kernel) rfl) d_M_getBits_50
      · refine lv_bipush (v := (-3)) hx hb d_M_getBits_38 (by decide) ?_
        exact my_iret (v := (-3)) hx hb hr (rfl) hlocks hQ hK hS (Nat.le_refl _) (Nat.le_refl _) (fBad, fIR, fAsk, fCode, fRR, (0 : Int32)) (fun z1 z2 => absurd c_3 z1) (hP.sub [0, 1] rfl) (hD.sub [0, 1] (by decide +kernel) rfl) d_M_getBits_40
    · refine lv_bipush (v := (-2)) hx hb d_M_getBits_28 (by decide) ?_
      exact my_iret (v := (-2)) hx hb hr (rfl) hlocks hQ hK hS (Nat.le_refl _) (Nat.le_refl _) (fBad, fIR, fAsk, fCode, fRR, (0 : Int32)) (fun z1 z2 => RD2_up (hRD z1 z2)) (hP.sub [0, 1] rfl) (hD.sub [0, 1] (by decide +kernel) rfl) d_M_getBits_30
  · exact absurd c_1 (by decide)
set_option maxHeartbeats 2000000 in
set_option maxRecDepth 100000 in
theorem c_M_getBits3 (l : Launch) (dC : Nat → ClassId) (dI : Nat → Nat → Nat) (cI cM cO : ClassId) (sz : Nat) (o : Nat) (g : Nat → Nat) (fForm : Int32) (fShift : Int32) (fModels : Int32) (fItems : Int32) (fEnded : Int32) (fLow : Int64) (fRange : Int64) (fCache : Int32) (fPend : Int32) (fGoes : Int32) (fOuts : Int32) (fIns : Int32) (fReads : Int32) (fBad : Int32) (fIR : Int32) (fAsk : Int32) (fBAsk : Int32) (fCode : Int64) (fRL : Int64) (fRR : Int64) (fX : Int64) (fWrites : Int32) (fThrown : Int32) (vIn : Nat → Int32) (cn : Nat) (p1 : Int32) (hfo : fForm = 3) (hIN : IN fIns vIn) (hcn : cn ≤ 1000) (hRD : ¬ fReads = 0 → fBad = 0 → RD3 cn fAsk fX) : MetI l y_M_getBits (Cond.code y_M_getBits prog_14_method_57_code 3 (some .int) :: gw) ({ frames := 3, cells := 0, slots := 0, locals := 65 } : Room) (dC, dI) vwCl (kT cI cM cO) [Value.ref o, Value.int p1] [(o, Sum.inr (9, mO g fForm fShift fModels fItems fEnded fLow fRange fCache fPend fGoes fOuts fIns fReads fBad fIR fAsk fBAsk fCode fRL fRR fX fWrites fThrown)), ((g 8), Sum.inl (cI, 6000, Sum.inl vIn))] sz (fun (r : Int32) (u : Int32 × Int32 × Int32 × Int64 × Int32) => ¬ fReads = 0 → u.1 = 0 → RD3 (cn + 1) u.2.2.1 u.2.2.2.1) (fun (u : Int32 × Int32 × Int32 × Int64 × Int32) => [(o, Sum.inr (9, mO g fForm fShift fModels fItems fEnded fLow fRange fCache fPend fGoes fOuts fIns fReads u.1 u.2.1 u.2.2.1 fBAsk fCode fRL fRR u.2.2.2.1 fWrites u.2.2.2.2)), ((g 8), Sum.inl (cI, 6000, Sum.inl vIn))]) 0 0 := by
  refine my_ofI (cc := prog_14_method_57_code) (n := 3) (ret := (some .int)) (by decide) rfl (Nat.le_of_ble_eq_true rfl) ?_
  intro p e s m args below meth c R Q A ls H locs hx hb hr hts hown hlocks hml hnm hR hQ hA hl hP hK hN hD hS
  have hg : ∀ w ∈ gw, w.before args s = true := fun w h => hts w (List.mem_cons_of_mem _ h)
  have hown : s.vm.findClass "RangeCodersModel" = some m.cls := hown
  have hl : lv_has ls 3 [(0, Value.ref o), (1, Value.int p1)] := hl
  subst hfo
  obtain ⟨is, rfl, hIn, hlen, hoct⟩ := hIN
  have hPD : my_PD (dC, dI) vwCl A [(o, Sum.inr (9, mO g 3 fShift fModels fItems fEnded fLow fRange fCache fPend fGoes fOuts (nI is.length) fReads fBad fIR fAsk fBAsk fCode fRL fRR fX fWrites fThrown)), ((g 8), Sum.inl (cI, 6000, Sum.inl vIn))] H := ⟨hP, hD⟩
  have hP := hPD.1
  have hD := hPD.2
  have hl : lv_has ls 3 [(0, Value.ref o), (1, Value.int p1)] := hl
  refine lv_aload_n hx hb d_M_getBits_0 rfl (lv_at hl 0 rfl) ?_
  refine lv_iconst (v := 0) hx hb d_M_getBits_1 (by decide) ?_
  refine va_put (D := (dC, dI)) (ci := 9) (v := .int 0) (ty := .int) (C := "RangeCodersModel") (T := T_M) (N := 35) hx hb hg in_M t_M o_M n_M hown hK hP hD hS 0 rfl rfl 34 (by decide) (hg _ k986) (fun _ h9 => h9) rfl (o_M 34 (by decide)) rfl rfl (Nat.le_of_ble_eq_true rfl) d_M_getBits_2 (fun H locs hP hD hS => ?_)
  have hPD : my_PD (dC, dI) vwCl A [(o, Sum.inr (9, mO g 3 fShift fModels fItems fEnded fLow fRange fCache fPend fGoes fOuts (nI is.length) fReads fBad fIR fAsk fBAsk fCode fRL fRR fX fWrites 0)), ((g 8), Sum.inl (cI, 6000, Sum.inl vIn))] H := ⟨hP, hD⟩
  have hP := hPD.1
  have hD := hPD.2
  refine lv_iload_n hx hb d_M_getBits_5 rfl (lv_at hl 1 rfl) ?_
  refine lv_iconst (v := 1) hx hb d_M_getBits_6 (by decide) ?_
  refine lv_aload_n hx hb d_M_getBits_7 rfl (lv_at hl 0 rfl) ?_
  refine va_get (D := (dC, dI)) (ci := 9) (v := .int 3) (C := "RangeCodersModel") (T := T_M) (N := 35) hx hb hg in_M hown hK hP 0 rfl rfl 0 (by decide) (hg _ k952) (fun _ h9 => h9) rfl d_M_getBits_8 ?_
  refine lv_iconst (v := 4) hx hb d_M_getBits_11 (by decide) ?_
  refine lv_icmp_ne (tgt := 20) hx hb d_M_getBits_12 (by decide) (fun c_1 => ?_) (fun c_1 => ?_)
  · refine lv_bipush (v := 12) hx hb d_M_getBits_20 (by decide) ?_
    refine my_ci (wr := [(o, Sum.inr (9, mO g 3 fShift fModels fItems fEnded fLow fRange fCache fPend fGoes fOuts (nI is.length) fReads fBad fIR fAsk fBAsk fCode fRL fRR fX fWrites 0)), ((g 8), Sum.inl (cI, 6000, Sum.inl vIn))]) (va_runS (As := [Value.int p1, Value.int 1, Value.int 12]) (rest := []) ⟨hx, hb, hml, hown, hts⟩ (c_M_in l dC dI cI cM cO H.size p1 1 12) (cwS 3 hts (my_gS k1062 k1063 k12 k1064) rfl rfl rfl (by decide +kernel) ⟨by rw [hR]; exact Nat.le_of_ble_eq_true rfl, by rw [hR]; exact Nat.le_of_ble_eq_true rfl⟩) (my_pre hK hN (hP.sub [] rfl) (hD.sub [] (by decide +kernel) rfl)) rfl rfl hl.1 rfl (lv_room (Nat.le_of_ble_eq_true rfl)) d_M_getBits_22 ⟨by rw [hR]; exact Nat.le_of_ble_eq_true rfl, by rw [hR]; exact Nat.le_of_ble_eq_true rfl⟩) hP hD hS hA [] [0, 1] rfl rfl (by decide +kernel) (by decide +kernel) (fun r_22 u9 H locs hw_22 hP hD hS => ?_)
    have hw_22 : r_22 = if 1 ≤ p1 ∧ p1 ≤ 12 then 1 else 0 := hw_22
    have hPD : my_PD (dC, dI) vwCl A [(o, Sum.inr (9, mO g 3 fShift fModels fItems fEnded fLow fRange fCache fPend fGoes fOuts (nI is.length) fReads fBad fIR fAsk fBAsk fCode fRL fRR fX fWrites 0)), ((g 8), Sum.inl (cI, 6000, Sum.inl vIn))] H := ⟨hP, hD⟩
    have hP := hPD.1
    have hD := hPD.2
    refine lv_if_ne (tgt := 31) hx hb d_M_getBits_25 (by decide) (fun c_2 => ?_) (fun c_2 => ?_)
    · obtain ⟨bb, hb1, hb2, eb⟩ := in_of2 (a := 1) (b := 12) (by decide) (by decide) (one_ne hw_22 c_2)
      subst eb
      refine lv_aload_n hx hb d_M_getBits_31 rfl (lv_at hl 0 rfl) ?_
      refine va_get (D := (dC, dI)) (ci := 9) (v := .int fReads) (C := "RangeCodersModel") (T := T_M) (N := 35) hx hb hg in_M hown hK hP 0 rfl rfl 21 (by decide) (hg _ k973) (fun _ h9 => h9) rfl d_M_getBits_32 ?_
      refine lv_if_ne (tgt := 41) hx hb d_M_getBits_35 (by decide) (fun c_3 => ?_) (fun c_3 => ?_)
      · refine lv_aload_n hx hb d_M_getBits_41 rfl (lv_at hl 0 rfl) ?_
        refine va_get (D := (dC, dI)) (ci := 9) (v := .int fBad) (C := "RangeCodersModel") (T := T_M) (N := 35) hx hb hg in_M hown hK hP 0 rfl rfl 22 (by decide) (hg _ k974) (fun _ h9 => h9) rfl d_M_getBits_42 ?_
        refine lv_if_eq (tgt := 51) hx hb d_M_getBits_45 (by decide) (fun c_4 => ?_) (fun c_4 => ?_)
        · obtain ⟨X, q, rfl, rfl, hX0, hX1, hq⟩ := hRD c_3 c_4
          have hPD : my_PD (dC, dI) vwCl A [(o, Sum.inr (9, mO g 3 fShift fModels fItems fEnded fLow fRange fCache fPend fGoes fOuts (nI is.length) fReads fBad fIR (nI q) fBAsk fCode fRL fRR (lN X) fWrites 0)), ((g 8), Sum.inl (cI, 6000, Sum.inl vIn))] H := ⟨hP, hD⟩
          have hP := hPD.1
          have hD := hPD.2
          refine lv_aload_n hx hb d_M_getBits_51 rfl (lv_at hl 0 rfl) ?_
          refine lv_iload_n hx hb d_M_getBits_52 rfl (lv_at hl 1 rfl) ?_
          refine my_ci (wr := []) (va_runV (As := [Value.int (nI bb)]) (rest := []) ⟨hx, hb, hml, hown, hts⟩ (c_M_valueOf3 l dC dI cI cM cO H.size o g fShift fModels fItems fEnded fLow fRange fCache fPend fGoes fOuts fReads fBad fIR fBAsk fCode fRL fRR fWrites 0 vIn bb X is q (hb1) (hb2) (hIn) (hlen) (hoct) (by omega) (hX0) (hX1)) (cwV 1 hts (my_gV k1260 k1262 ks59 k12 k1263) rfl rfl rfl cu_M_valueOf_1 ⟨by rw [hR]; exact Nat.le_of_ble_eq_true rfl, by rw [hR]; exact Nat.le_of_ble_eq_true rfl⟩) (my_preV hK hN (hP.sub [0, 1] rfl) (hD.sub [0, 1] (by decide +kernel) rfl) 0 rfl rfl) rfl rfl hl.1 rfl (lv_room (Nat.le_of_ble_eq_true rfl)) d_M_getBits_53 ⟨by rw [hR]; exact Nat.le_of_ble_eq_true rfl, by rw [hR]; exact Nat.le_of_ble_eq_true rfl⟩) hP hD hS hA [0, 1] [] rfl rfl (by decide +kernel) (by decide +kernel) (fun r_53 u9 H locs hw_53 hP hD hS => ?_)
          have hw_53 : r_53 = nI (X % 4096 / (4096 / 2 ^ bb)) := hw_53
          have hPD : my_PD (dC, dI) vwCl A [(o, Sum.inr (9, mO g 3 fShift fModels fItems fEnded fLow fRange fCache fPend fGoes fOuts (nI is.length) fReads fBad fIR (nI (gv3 is bb X q).2) fBAsk fCode fRL fRR (lN (gv3 is bb X q).1) fWrites 0)), ((g 8), Sum.inl (cI, 6000, Sum.inl vIn))] H := ⟨hP, hD⟩
          have hP := hPD.1
          have hD := hPD.2
          refine lv_istore_n (lv' := [(2, Value.int r_53), (0, Value.ref o), (1, Value.int (nI bb))]) hx hb d_M_getBits_56 rfl hl (by decide) rfl (fun ls hl => ?_)
          have hg9 := gv3_ok (b := bb) (q := q) hoct (by omega) hX0 hX1
          refine lv_iload_n hx hb d_M_getBits_57 rfl (lv_at hl 0 rfl) ?_
          refine lv_if_ge (tgt := 66) hx hb d_M_getBits_58 (by decide) (fun c_5 => ?_) (fun c_5 => ?_)
          · refine lv_aload_n hx hb d_M_getBits_66 rfl (lv_at hl 1 rfl) ?_
            refine lv_dup hx hb d_M_getBits_67 rfl ?_
            refine va_get (D := (dC, dI)) (ci := 9) (v := .int fIR) (C := "RangeCodersModel") (T := T_M) (N := 35) hx hb hg in_M hown hK hP 0 rfl rfl 23 (by decide) (hg _ k975) (fun _ h9 => h9) rfl d_M_getBits_68 ?_
            refine lv_iconst (v := 1) hx hb d_M_getBits_71 (by decide) ?_
            refine lv_iadd hx hb d_M_getBits_72 ?_
            refine lv_topi (fun v_6 ev_6 => ?_)
            refine va_put (D := (dC, dI)) (ci := 9) (v := .int v_6) (ty := .int) (C := "RangeCodersModel") (T := T_M) (N := 35) hx hb hg in_M t_M o_M n_M hown hK hP hD hS 0 rfl rfl 23 (by decide) (hg _ k975) (fun _ h9 => h9) rfl (o_M 23 (by decide)) rfl rfl (Nat.le_of_ble_eq_true rfl) d_M_getBits_73 (fun H locs hP hD hS => ?_)
            have hPD : my_PD (dC, dI) vwCl A [(o, Sum.inr (9, mO g 3 fShift fModels fItems fEnded fLow fRange fCache fPend fGoes fOuts (nI is.length) fReads fBad v_6 (nI (gv3 is bb X q).2) fBAsk fCode fRL fRR (lN (gv3 is bb X q).1) fWrites 0)), ((g 8), Sum.inl (cI, 6000, Sum.inl vIn))] H := ⟨hP, hD⟩
            have hP := hPD.1
            have hD := hPD.2
            refine lv_iload_n hx hb d_M_getBits_76 rfl (lv_at hl 0 rfl) ?_
            exact my_iret (v := r_53) hx hb hr (rfl) hlocks hQ hK hS (Nat.le_refl _) (Nat.le_refl _) (fBad, v_6, nI (gv3 is bb X q).2, lN (gv3 is bb X q).1, (0 : Int32)) (fun _ _ => ⟨_, _, rfl, rfl, hg9.1, hg9.2.1, by omega⟩) (hP.sub [0, 1] rfl) (hD.sub [0, 1] (by decide +kernel) rfl) d_M_getBits_77
          · refine lv_aload_n hx hb d_M_getBits_61 rfl (lv_at hl 1 rfl) ?_
            refine my_ci (wr := [((g 8), Sum.inl (cI, 6000, Sum.inl vIn))]) (va_runV (As := []) (rest := []) ⟨hx, hb, hml, hown, hts⟩ (c_M_spoiled l dC dI cI cM cO H.size o g 3 fShift fModels fItems fEnded fLow fRange fCache fPend fGoes fOuts (nI is.length) fReads fBad fIR (nI (gv3 is bb X q).2) fBAsk fCode fRL fRR (lN (gv3 is bb X q).1) fWrites 0) (cwV 0 hts (my_gV k1252 k1254 ks58 k12 k1255) rfl rfl rfl cu_M_spoiled_0 ⟨by rw [hR]; exact Nat.le_of_ble_eq_true rfl, by rw [hR]; exact Nat.le_of_ble_eq_true rfl⟩) (my_preV hK hN (hP.sub [0] rfl) (hD.sub [0] (by decide +kernel) rfl) 0 rfl rfl) rfl rfl hl.1 rfl (lv_room (Nat.le_of_ble_eq_true rfl)) d_M_getBits_62 ⟨by rw [hR]; exact Nat.le_of_ble_eq_true rfl, by rw [hR]; exact Nat.le_of_ble_eq_true rfl⟩) hP hD hS hA [0] [1] rfl rfl (by decide +kernel) (by decide +kernel) (fun r_62 u9 H locs hw_62 hP hD hS => ?_)
            have hw_62 : r_62 = -5 := hw_62
            have hPD : my_PD (dC, dI) vwCl A [((g 8), Sum.inl (cI, 6000, Sum.inl vIn)), (o, Sum.inr (9, mO g 3 fShift fModels fItems fEnded fLow fRange fCache fPend fGoes fOuts (nI is.length) fReads 1 fIR (nI (gv3 is bb X q).2) fBAsk fCode fRL fRR (lN (gv3 is bb X q).1) fWrites 0))] H := ⟨hP, hD⟩
            have hP := hPD.1
            have hD := hPD.2
            exact my_iret (v := r_62) hx hb hr (rfl) hlocks hQ hK hS (Nat.le_refl _) (Nat.le_refl _) ((1 : Int32), fIR, (nI (gv3 is bb X q).2), (lN (gv3 is bb X q).1), (0 : Int32)) (fun z1 z2 => absurd z2 (show ¬ (1 : Int32) = 0 by decide)) (hP.sub [1, 0] rfl) (hD.sub [1, 0] (by decide +kernel) rfl) d_M_getBits_65
        · refine lv_bipush (v := (-5)) hx hb d_M_getBits_48 (by decide) ?_
          exact my_iret (v := (-5)) hx hb hr (rfl) hlocks hQ hK hS (Nat.le_refl _) (Nat.le_refl _) (fBad, fIR, fAsk, fX, (0 : Int32)) (fun z1 z2 => absurd z2 c_4) (hP.sub [0, 1] rfl) (hD.sub [0, 1] (by decide +kernel) rfl) d_M_getBits_50
      · refine lv_bipush (v := (-3)) hx hb d_M_getBits_38 (by decide) ?_
        exact my_iret (v := (-3)) hx hb hr (rfl) hlocks hQ hK hS (Nat.le_refl _) (Nat.le_refl _) (fBad, fIR, fAsk, fX, (0 : Int32)) (fun z1 z2 => absurd c_3 z1) (hP.sub [0, 1] rfl) (hD.sub [0, 1] (by decide +kernel) rfl) d_M_getBits_40
    · refine lv_bipush (v := (-2)) hx hb d_M_getBits_28 (by decide) ?_
      exact my_iret (v := (-2)) hx hb hr (rfl) hlocks hQ hK hS (Nat.le_refl _) (Nat.le_refl _) (fBad, fIR, fAsk, fX, (0 : Int32)) (fun z1 z2 => RD3_up (hRD z1 z2)) (hP.sub [0, 1] rfl) (hD.sub [0, 1] (by decide +kernel) rfl) d_M_getBits_30
  · exact absurd c_1 (by decide)
set_option maxHeartbeats 2000000 in
set_option maxRecDepth 100000 in
theorem c_M_getBits4 (l : Launch) (dC : Nat → ClassId) (dI : Nat → Nat → Nat) (cI cM cO : ClassId) (sz : Nat) (o : Nat) (g : Nat → Nat) (fForm : Int32) (fShift : Int32) (fModels : Int32) (fItems : Int32) (fEnded : Int32) (fLow : Int64) (fRange : Int64) (fCache : Int32) (fPend : Int32) (fGoes : Int32) (fOuts : Int32) (fIns : Int32) (fReads : Int32) (fBad : Int32) (fIR : Int32) (fAsk : Int32) (fBAsk : Int32) (fCode : Int64) (fRL : Int64) (fRR : Int64) (fX : Int64) (fWrites : Int32) (fThrown : Int32) (vIn : Nat → Int32) (cn : Nat) (p1 : Int32) (hfo : fForm = 4) (hIN : IN fIns vIn) (hcn : cn ≤ 1000) (hRD : ¬ fReads = 0 → fBad = 0 → RD4 cn fAsk fBAsk fX) : MetI l y_M_getBits (Cond.code y_M_getBits prog_14_method_57_code 3 (some .int) :: gw) ({ frames := 2, cells := 0, slots := 0, locals := 46 } : Room) (dC, dI) vwCl (kT cI cM cO) [Value.ref o, Value.int p1] [(o, Sum.inr (9, mO g fForm fShift fModels fItems fEnded fLow fRange fCache fPend fGoes fOuts fIns fReads fBad fIR fAsk fBAsk fCode fRL fRR fX fWrites fThrown)), ((g 8), Sum.inl (cI, 6000, Sum.inl vIn))] sz (fun (r : Int32) (u : Int32 × Int32 × Int32 × Int32 × Int64 × Int32) => ¬ fReads = 0 → u.1 = 0 → RD4 (cn + 1) u.2.2.1 u.2.2.2.1 u.2.2.2.2.1) (fun (u : Int32 × Int32 × Int32 × Int32 × Int64 × Int32) => [(o, Sum.inr (9, mO g fForm fShift fModels fItems fEnded fLow fRange fCache fPend fGoes fOuts fIns fReads u.1 u.2.1 u.2.2.1 u.2.2.2.1 fCode fRL fRR u.2.2.2.2.1 fWrites u.2.2.2.2.2)), ((g 8), Sum.inl (cI, 6000, Sum.inl vIn))]) 0 0 := by
  refine my_ofI (cc := prog_14_method_57_code) (n := 3) (ret := (some .int)) (by decide) rfl (Nat.le_of_ble_eq_true rfl) ?_
  intro p e s m args below meth c R Q A ls H locs hx hb hr hts hown hlocks hml hnm hR hQ hA hl hP hK hN hD hS
  have hg : ∀ w ∈ gw, w.before args s = true := fun w h => hts w (List.mem_cons_of_mem _ h)
  have hown : s.vm.findClass "RangeCodersModel" = some m.cls := hown
  have hl : lv_has ls 3 [(0, Value.ref o), (1, Value.int p1)] := hl
  subst hfo
  obtain ⟨is, rfl, hIn, hlen, hoct⟩ := hIN
  have hPD : my_PD (dC, dI) vwCl A [(o, Sum.inr (9, mO g 4 fShift fModels fItems fEnded fLow fRange fCache fPend fGoes fOuts (nI is.length) fReads fBad fIR fAsk fBAsk fCode fRL fRR fX fWrites fThrown)), ((g 8), Sum.inl (cI, 6000, Sum.inl vIn))] H := ⟨hP, hD⟩
  have hP := hPD.1
  have hD := hPD.2
  have hl : lv_has ls 3 [(0, Value.ref o), (1, Value.int p1)] := hl
  refine lv_aload_n hx hb d_M_getBits_0 rfl (lv_at hl 0 rfl) ?_
  refine lv_iconst (v := 0) hx hb d_M_getBits_1 (by decide) ?_
  refine va_put (D := (dC, dI)) (ci := 9) (v := .int 0) (ty := .int) (C := "RangeCodersModel") (T := T_M) (N := 35) hx hb hg in_M t_M o_M n_M hown hK hP hD hS 0 rfl rfl 34 (by decide) (hg _ k986) (fun _ h9 => h9) rfl (o_M 34 (by decide)) rfl rfl (Nat.le_of_ble_eq_true rfl) d_M_getBits_2 (fun H locs hP hD hS => ?_)
  have hPD : my_PD (dC, dI) vwCl A [(o, Sum.inr (9, mO g 4 fShift fModels fItems fEnded fLow fRange fCache fPend fGoes fOuts (nI is.length) fReads fBad fIR fAsk fBAsk fCode fRL fRR fX fWrites 0)), ((g 8), Sum.inl (cI, 6000, Sum.inl vIn))] H := ⟨hP, hD⟩
  have hP := hPD.1
  have hD := hPD.2
  refine lv_iload_n hx hb d_M_getBits_5 rfl (lv_at hl 1 rfl) ?_
  refine lv_iconst (v := 1) hx hb d_M_getBits_6 (by decide) ?_
  refine lv_aload_n hx hb d_M_getBits_7 rfl (lv_at hl 0 rfl) ?_
  refine va_get (D := (dC, dI)) (ci := 9) (v := .int 4) (C := "RangeCodersModel") (T := T_M) (N := 35) hx hb hg in_M hown hK hP 0 rfl rfl 0 (by decide) (hg _ k952) (fun _ h9 => h9) rfl d_M_getBits_8 ?_
  refine lv_iconst (v := 4) hx hb d_M_getBits_11 (by decide) ?_
  refine lv_icmp_ne (tgt := 20) hx hb d_M_getBits_12 (by decide) (fun c_1 => ?_) (fun c_1 => ?_)
  · exact absurd rfl c_1
  · refine lv_bipush (v := 9) hx hb d_M_getBits_15 (by decide) ?_
    refine lv_goto (tgt := 22) hx hb d_M_getBits_17 (by decide) ?_
    refine my_ci (wr := [(o, Sum.inr (9, mO g 4 fShift fModels fItems fEnded fLow fRange fCache fPend fGoes fOuts (nI is.length) fReads fBad fIR fAsk fBAsk fCode fRL fRR fX fWrites 0)), ((g 8), Sum.inl (cI, 6000, Sum.inl vIn))]) (va_runS (As := [Value.int p1, Value.int 1, Value.int 9]) (rest := []) ⟨hx, hb, hml, hown, hts⟩ (c_M_in l dC dI cI cM cO H.size p1 1 9) (cwS 3 hts (my_gS k1062 k1063 k12 k1064) rfl rfl rfl (by decide +kernel) ⟨by rw [hR]; exact Nat.le_of_ble_eq_true rfl, by rw [hR]; exact Nat.le_of_ble_eq_true rfl⟩) (my_pre hK hN (hP.sub [] rfl) (hD.sub [] (by decide +kernel) rfl)) rfl rfl hl.1 rfl (lv_room (Nat.le_of_ble_eq_true rfl)) d_M_getBits_22 ⟨by rw [hR]; exact Nat.le_of_ble_eq_true rfl, by rw [hR]; exact Nat.le_of_ble_eq_true rfl⟩) hP hD hS hA [] [0, 1] rfl rfl (by decide +kernel) (by decide +kernel) (fun r_22 u9 H locs hw_22 hP hD hS => ?_)
    have hw_22 : r_22 = if 1 ≤ p1 ∧ p1 ≤ 9 then 1 else 0 := hw_22
    have hPD : my_PD (dC, dI) vwCl A [(o, Sum.inr (9, mO g 4 fShift fModels fItems fEnded fLow fRange fCache fPend fGoes fOuts (nI is.length) fReads fBad fIR fAsk fBAsk fCode fRL fRR fX fWrites 0)), ((g 8), Sum.inl (cI, 6000, Sum.inl vIn))] H := ⟨hP, hD⟩
    have hP := hPD.1
    have hD := hPD.2
    refine lv_if_ne (tgt := 31) hx hb d_M_getBits_25 (by decide) (fun c_2 => ?_) (fun c_2 => ?_)
    · obtain ⟨bb, hb1, hb2, eb⟩ := in_of2 (a := 1) (b := 9) (by decide) (by decide) (one_ne hw_22 c_2)
      subst eb
      refine lv_aload_n hx hb d_M_getBits_31 rfl (lv_at hl 0 rfl) ?_
      refine va_get (D := (dC, dI)) (ci := 9) (v := .int fReads) (C := "RangeCodersModel") (T := T_M) (N := 35) hx hb hg in_M hown hK hP 0 rfl rfl 21 (by decide) (hg _ k973) (fun _ h9 => h9) rfl d_M_getBits_32 ?_
      refine lv_if_ne (tgt := 41) hx hb d_M_getBits_35 (by decide) (fun c_3 => ?_) (fun c_3 => ?_)
      · refine lv_aload_n hx hb d_M_getBits_41 rfl (lv_at hl 0 rfl) ?_
        refine va_get (D := (dC, dI)) (ci := 9) (v := .int fBad) (C := "RangeCodersModel") (T := T_M) (N := 35) hx hb hg in_M hown hK hP 0 rfl rfl 22 (by decide) (hg _ k974) (fun _ h9 => h9) rfl d_M_getBits_42 ?_
        refine lv_if_eq (tgt := 51) hx hb d_M_getBits_45 (by decide) (fun c_4 => ?_) (fun c_4 => ?_)
        · obtain ⟨X, t, rfl, rfl, rfl, hX0, hX1, hq⟩ := hRD c_3 c_4
          have hPD : my_PD (dC, dI) vwCl A [(o, Sum.inr (9, mO g 4 fShift fModels fItems fEnded fLow fRange fCache fPend fGoes fOuts (nI is.length) fReads fBad fIR (nI ((t + 7) / 8)) (nI t) fCode fRL fRR (lN X) fWrites 0)), ((g 8), Sum.inl (cI, 6000, Sum.inl vIn))] H := ⟨hP, hD⟩
          have hP := hPD.1
          have hD := hPD.2
          refine lv_aload_n hx hb d_M_getBits_51 rfl (lv_at hl 0 rfl) ?_
          refine lv_iload_n hx hb d_M_getBits_52 rfl (lv_at hl 1 rfl) ?_
          refine my_ci (wr := []) (va_runV (As := [Value.int (nI bb)]) (rest := []) ⟨hx, hb, hml, hown, hts⟩ (c_M_valueOf4 l dC dI cI cM cO H.size o g fShift fModels fItems fEnded fLow fRange fCache fPend fGoes fOuts fReads fBad fIR fCode fRL fRR (lN X) fWrites 0 vIn bb t is (hb1) (hb2) (hIn) (hlen) (hoct) (by omega)) (cwV 1 hts (my_gV k1260 k1262 ks59 k12 k1263) rfl rfl rfl cu_M_valueOf_1 ⟨by rw [hR]; exact Nat.le_of_ble_eq_true rfl, by rw [hR]; exact Nat.le_of_ble_eq_true rfl⟩) (my_preV hK hN (hP.sub [0, 1] rfl) (hD.sub [0, 1] (by decide +kernel) rfl) 0 rfl rfl) rfl rfl hl.1 rfl (lv_room (Nat.le_of_ble_eq_true rfl)) d_M_getBits_53 ⟨by rw [hR]; exact Nat.le_of_ble_eq_true rfl, by rw [hR]; exact Nat.le_of_ble_eq_true rfl⟩) hP hD hS hA [0, 1] [] rfl rfl (by decide +kernel) (by decide +kernel) (fun r_53 u9 H locs hw_53 hP hD hS => ?_)
          have hw_53 : r_53 = nI (bbN is t bb) := hw_53
          have hPD : my_PD (dC, dI) vwCl A [(o, Sum.inr (9, mO g 4 fShift fModels fItems fEnded fLow fRange fCache fPend fGoes fOuts (nI is.length) fReads fBad fIR (nI ((t + bb + 7) / 8)) (nI (t + bb)) fCode fRL fRR (lN X) fWrites 0)), ((g 8), Sum.inl (cI, 6000, Sum.inl vIn))] H := ⟨hP, hD⟩
          have hP := hPD.1
          have hD := hPD.2
          refine lv_istore_n (lv' := [(2, Value.int r_53), (0, Value.ref o), (1, Value.int (nI bb))]) hx hb d_M_getBits_56 rfl hl (by decide) rfl (fun ls hl => ?_)
          refine lv_iload_n hx hb d_M_getBits_57 rfl (lv_at hl 0 rfl) ?_
          refine lv_if_ge (tgt := 66) hx hb d_M_getBits_58 (by decide) (fun c_5 => ?_) (fun c_5 => ?_)
          · refine lv_aload_n hx hb d_M_getBits_66 rfl (lv_at hl 1 rfl) ?_
            refine lv_dup hx hb d_M_getBits_67 rfl ?_
            refine va_get (D := (dC, dI)) (ci := 9) (v := .int fIR) (C := "RangeCodersModel") (T := T_M) (N := 35) hx hb hg in_M hown hK hP 0 rfl rfl 23 (by decide) (hg _ k975) (fun _ h9 => h9) rfl d_M_getBits_68 ?_
            refine lv_iconst (v := 1) hx hb d_M_getBits_71 (by decide) ?_
            refine lv_iadd hx hb d_M_getBits_72 ?_
            refine lv_topi (fun v_6 ev_6 => ?_)
            refine va_put (D := (dC, dI)) (ci := 9) (v := .int v_6) (ty := .int) (C := "RangeCodersModel") (T := T_M) (N := 35) hx hb hg in_M t_M o_M n_M hown hK hP hD hS 0 rfl rfl 23 (by decide) (hg _ k975) (fun _ h9 => h9) rfl (o_M 23 (by decide)) rfl rfl (Nat.le_of_ble_eq_true rfl) d_M_getBits_73 (fun H locs hP hD hS => ?_)
            have hPD : my_PD (dC, dI) vwCl A [(o, Sum.inr (9, mO g 4 fShift fModels fItems fEnded fLow fRange fCache fPend fGoes fOuts (nI is.length) fReads fBad v_6 (nI ((t + bb + 7) / 8)) (nI (t + bb)) fCode fRL fRR (lN X) fWrites 0)), ((g 8), Sum.inl (cI, 6000, Sum.inl vIn))] H := ⟨hP, hD⟩
            have hP := hPD.1
            have hD := hPD.2
            refine lv_iload_n hx hb d_M_getBits_76 rfl (lv_at hl 0 rfl) ?_
            exact my_iret (v := r_53) hx hb hr (rfl) hlocks hQ hK hS (Nat.le_refl _) (Nat.le_refl _) (fBad, v_6, nI ((t + bb + 7) / 8), nI (t + bb), (lN X), (0 : Int32)) (fun _ _ => ⟨X, t + bb, rfl, rfl, rfl, hX0, hX1, by omega⟩) (hP.sub [0, 1] rfl) (hD.sub [0, 1] (by decide +kernel) rfl) d_M_getBits_77
          · refine lv_aload_n hx hb d_M_getBits_61 rfl (lv_at hl 1 rfl) ?_
            refine my_ci (wr := [((g 8), Sum.inl (cI, 6000, Sum.inl vIn))]) (va_runV (As := []) (rest := []) ⟨hx, hb, hml, hown, hts⟩ (c_M_spoiled l dC dI cI cM cO H.size o g 4 fShift fModels fItems fEnded fLow fRange fCache fPend fGoes fOuts (nI is.length) fReads fBad fIR (nI ((t + bb + 7) / 8)) (nI (t + bb)) fCode fRL fRR (lN X) fWrites 0) (cwV 0 hts (my_gV k1252 k1254 ks58 k12 k1255) rfl rfl rfl cu_M_spoiled_0 ⟨by rw [hR]; exact Nat.le_of_ble_eq_true rfl, by rw [hR]; exact Nat.le_of_ble_eq_true rfl⟩) (my_preV hK hN (hP.sub [0] rfl) (hD.sub [0] (by decide +kernel) rfl) 0 rfl rfl) rfl rfl hl.1 rfl (lv_room (Nat.le_of_ble_eq_true rfl)) d_M_getBits_62 ⟨by rw [hR]; exact Nat.le_of_ble_eq_true rfl, by rw [hR]; exact Nat.le_of_ble_eq_true rfl⟩) hP hD hS hA [0] [1] rfl rfl (by decide +kernel) (by decide +kernel) (fun r_62 u9 H locs hw_62 hP hD hS => ?_)
            have hw_62 : r_62 = -5 := hw_62
            have hPD : my_PD (dC, dI) vwCl A [((g 8), Sum.inl (cI, 6000, Sum.inl vIn)), (o, Sum.inr (9, mO g 4 fShift fModels fItems fEnded fLow fRange fCache fPend fGoes fOuts (nI is.length) fReads 1 fIR (nI ((t + bb + 7) / 8)) (nI (t + bb)) fCode fRL fRR (lN X) fWrites 0))] H := ⟨hP, hD⟩
            have hP := hPD.1
            have hD := hPD.2
            exact my_iret (v := r_62) hx hb hr (rfl) hlocks hQ hK hS (Nat.le_refl _) (Nat.le_refl _) ((1 : Int32), fIR, (nI ((t + bb + 7) / 8)), (nI (t + bb)), (lN X), (0 : Int32)) (fun z1 z2 => absurd z2 (show ¬ (1 : Int32) = 0 by decide)) (hP.sub [1, 0] rfl) (hD.sub [1, 0] (by decide +kernel) rfl) d_M_getBits_65
        · refine lv_bipush (v := (-5)) hx hb d_M_getBits_48 (by decide) ?_
          exact my_iret (v := (-5)) hx hb hr (rfl) hlocks hQ hK hS (Nat.le_refl _) (Nat.le_refl _) (fBad, fIR, fAsk, fBAsk, fX, (0 : Int32)) (fun z1 z2 => absurd z2 c_4) (hP.sub [0, 1] rfl) (hD.sub [0, 1] (by decide +kernel) rfl) d_M_getBits_50
      · refine lv_bipush (v := (-3)) hx hb d_M_getBits_38 (by decide) ?_
        exact my_iret (v := (-3)) hx hb hr (rfl) hlocks hQ hK hS (Nat.le_refl _) (Nat.le_refl _) (fBad, fIR, fAsk, fBAsk, fX, (0 : Int32)) (fun z1 z2 => absurd c_3 z1) (hP.sub [0, 1] rfl) (hD.sub [0, 1] (by decide +kernel) rfl) d_M_getBits_40
    · refine lv_bipush (v := (-2)) hx hb d_M_getBits_28 (by decide) ?_
      exact my_iret (v := (-2)) hx hb hr (rfl) hlocks hQ hK hS (Nat.le_refl _) (Nat.le_refl _) (fBad, fIR, fAsk, fBAsk, fX, (0 : Int32)) (fun z1 z2 => RD4_up (hRD z1 z2)) (hP.sub [0, 1] rfl) (hD.sub [0, 1] (by decide +kernel) rfl) d_M_getBits_30
end
section
/-! PLACES: how many a sign has -/
theorem cn_cP (P : Nat → Nat) (x : Nat) : ∀ q, cn P x q = (List.range q).countP (fun p => P p = x)
  | 0 => rfl
  | q + 1 => by
    rw [List.range_succ, List.countP_append, ← cn_cP P x q]
    show (if P q = x then cn P x q + 1 else cn P x q) = cn P x q + List.countP (fun p => decide (P p = x)) [q]
    by_cases h : P q = x <;> simp [h]
theorem stp_perm : ((List.range 512).map stp).Perm (List.range 512) := by
  refine (List.perm_ext_iff_of_nodup ?_ List.nodup_range).mpr (fun a => ?_)
  · refine List.pairwise_map.mpr (List.Pairwise.imp_of_mem (fun {a b} ha hb hn h => hn ?_) List.nodup_range)
    exact (at_stp a (List.mem_range.mp ha)).symm.trans ((congrArg (fun z => 323 * z % 512) h).trans (at_stp b (List.mem_range.mp hb)))
  · rw [List.mem_map, List.mem_range]
    constructor
    · rintro ⟨p, hp, rfl⟩
      exact Nat.mod_lt _ (by decide)
    · intro h
      exact ⟨323 * a % 512, List.mem_range.mpr (Nat.mod_lt _ (by decide)), stp_at a h⟩
theorem iv_cP (a b : Nat) : ∀ m, (List.range m).countP (fun j => a ≤ j ∧ j < b) = min m b - min m a
  | 0 => by simp
  | m + 1 => by
    rw [List.range_succ, List.countP_append, iv_cP a b m]
    by_cases h : a ≤ m ∧ m < b
    · simp [h]; omega
    · simp [h]; omega
theorem cn_all {F : Nat → Nat} {n x : Nat} (hs : ns F n = 512) (hx : x < n) : cn (plc F n) x 512 = F x := by
  rw [cn_cP]
  have e1 : (List.range 512).countP (fun p => decide (plc F n p = x)) = ((List.range 512).map stp).countP (fun j => decide (sgA F n j = x)) := by
    rw [List.countP_map]
    rfl
  rw [e1, stp_perm.countP_eq]
  have e2 : (List.range 512).countP (fun j => decide (sgA F n j = x)) = (List.range 512).countP (fun j => decide (ns F x ≤ j ∧ j < ns F x + F x)) := by
    refine List.countP_congr (fun j hj => ?_)
    have hj5 : j < 512 := List.mem_range.mp hj
    simp only [decide_eq_true_eq]
    constructor
    · intro h
      obtain ⟨b1, b2, b3⟩ := sgA_spec (F := F) (n := n) (u := j) (by omega)
      rw [h] at b2 b3
      exact ⟨b2, b3⟩
    · intro h
      exact sgA_eq hx h.1 h.2
  have h3 := iv_cP (ns F x) (ns F x + F x) 512
  rw [e2, h3]
  have := ns_m1 F hx
  omega
theorem cn_mono (P : Nat → Nat) (x : Nat) {a b : Nat} (h : a ≤ b) : cn P x a ≤ cn P x b := by
  induction b with
  | zero => have : a = 0 := by omega
            subst this; exact Nat.le_refl _
  | succ b ih =>
    rcases Nat.eq_or_lt_of_le h with e | e
    · subst e; exact Nat.le_refl _
    · have := ih (by omega)
      show _ ≤ (if P b = x then cn P x b + 1 else cn P x b)
      split <;> omega
theorem cn_find (P : Nat → Nat) (x : Nat) {d : Nat} : ∀ q, d < cn P x q → ∃ p, p < q ∧ P p = x ∧ cn P x p = d
  | 0, h => absurd h (Nat.not_lt_zero d)
  | q + 1, h => by
    have h' : d < (if P q = x then cn P x q + 1 else cn P x q) := h
    by_cases hd : d < cn P x q
    · obtain ⟨p, h1, h2, h3⟩ := cn_find P x q hd
      exact ⟨p, by omega, h2, h3⟩
    · split at h'
      · exact ⟨q, Nat.lt_succ_self q, by assumption, by omega⟩
      · exact absurd h' hd
theorem num_lt {F : Nat → Nat} {n p : Nat} (hs : ns F n = 512) (hp : p < 512) : num F n p < F (plc F n p) := by
  have h1 := cn_all hs (plc_lt (p := p) hs)
  have h2 := cn_mono (plc F n) (plc F n p) (a := p + 1) (b := 512) hp
  have h3 : cn (plc F n) (plc F n p) (p + 1) = cn (plc F n) (plc F n p) p + 1 := by
    show (if plc F n p = plc F n p then _ else _) = _
    rw [if_pos rfl]
  show cn (plc F n) (plc F n p) p < _
  omega
theorem pl_find {F : Nat → Nat} {n x d : Nat} (hs : ns F n = 512) (hx : x < n) (hd : d < F x) : ∃ p, p < 512 ∧ plc F n p = x ∧ num F n p = d := by
  obtain ⟨p, h1, h2, h3⟩ := cn_find (plc F n) x 512 (d := d) (by rw [cn_all hs hx]; exact hd)
  exact ⟨p, h1, h2, by show cn (plc F n) (plc F n p) p = d; rw [h2]; exact h3⟩
theorem tb_main {is : List Nat} : ∀ (c k : Nat) (r : Nat × Nat), c ≤ 9 → c < k → 2 ^ (9 - c) ≤ r.1 → r.1 < 1024 → 512 ≤ (tbN is k r).1 ∧ (tbN is k r).1 < 1024 ∧ (tbN is k r).2 ≤ r.2 + c := by
  intro c
  induction c with
  | zero =>
    intro k r _ hk h1 h2
    have h1 : 512 ≤ r.1 := h1
    rw [tbN_e (by omega)]
    exact ⟨h1, h2, Nat.le_refl _⟩
  | succ c ih =>
    intro k r hc hk h1 h2
    by_cases hr : r.1 < 512
    · rw [tbN_s (by omega) hr]
      have hb := biA_lt is r.2
      have hp : 2 ^ (9 - c) ≤ 2 * r.1 + biA is r.2 := by
        have e : 9 - c = (9 - (c + 1)) + 1 := by omega
        rw [e, Nat.pow_succ]
        omega
      obtain ⟨a, b, d⟩ := ih (k - 1) (2 * r.1 + biA is r.2, r.2 + 1) (by omega) (by omega) hp (show 2 * r.1 + biA is r.2 < 1024 by omega)
      have d' : (tbN is (k - 1) (2 * r.1 + biA is r.2, r.2 + 1)).2 ≤ r.2 + 1 + c := d
      exact ⟨a, b, by omega⟩
    · rw [tbN_e hr]
      exact ⟨by omega, h2, by omega⟩
theorem gt4_ok {is : List Nat} {n X t : Nat} {F : Nat → Nat} (hs : ns F n = 0 ∨ ns F n = 512) (h1 : 512 ≤ X) (h2 : X < 1024) : 512 ≤ (gt4 is n F X t).2.1 ∧ (gt4 is n F X t).2.1 < 1024 ∧ (gt4 is n F X t).2.2 ≤ t + 9 := by
  unfold gt4
  split
  · exact ⟨h1, h2, by show t ≤ _; omega⟩
  · have hs' : ns F n = 512 := by omega
    have hn := num_lt (p := X - 512) hs' (by omega)
    have hp := ns_m1 F (plc_lt (p := X - 512) hs')
    have a1 : 2 ^ (9 - 9) ≤ F (plc F n (X - 512)) + num F n (X - 512) := by rw [Nat.sub_self, Nat.pow_zero]; omega
    have a2 : F (plc F n (X - 512)) + num F n (X - 512) < 1024 := by omega
    generalize F (plc F n (X - 512)) + num F n (X - 512) = z at a1 a2 ⊢
    have h := tb_main (is := is) 9 10 (z, t) (by decide) (by decide) a1 a2
    exact ⟨h.1, h.2.1, h.2.2⟩
theorem gt4_F {n X : Nat} {F : Nat → Nat} (h2 : X < 1024) : ns F n = 512 → 0 < F (plc F n (X - 512)) := fun hs => by
  have hn := num_lt (p := X - 512) hs (by omega)
  omega
/-! items of the forms 3 and 4 -/
def Fvw (f : Nat → Int32) : Nat → Nat → Nat := fun mm k => (f (64 * mm + k)).toNatClampNeg
theorem ns_cg {F G : Nat → Nat} : ∀ {n : Nat}, (∀ k, k < n → F k = G k) → ns F n = ns G n
  | 0, _ => rfl
  | n + 1, h => by
    show ns F n + F n = ns G n + G n
    rw [ns_cg (n := n) (fun k hk => h k (by omega)), h n (Nat.lt_succ_self n)]
theorem Fv_eq {f : Nat → Int32} {mm n : Nat} {F : Nat → Nat} (h : sgI f (64 * mm) n F) (hb : ns F n < 2 ^ 31) : ∀ k, k < n → Fvw f mm k = F k := by
  intro k hk
  unfold Fvw
  rw [h k hk]
  exact nI_clamp (Nat.lt_of_le_of_lt (ns_ge hk) hb)
theorem Fv_sg {f : Nat → Int32} {mm n : Nat} {F : Nat → Nat} (h : sgI f (64 * mm) n F) (hb : ns F n < 2 ^ 31) : sgI f (64 * mm) n (Fvw f mm) ∧ ns (Fvw f mm) n = ns F n :=
  ⟨sgI_c h (fun k hk => (Fv_eq h hb k hk).symm), ns_cg (Fv_eq h hb)⟩
def itOk (M bm km : Nat) (N : Nat → Nat) (vNow : Nat → Int32) (it : It) : Prop := (it.1 = 0 ∧ 1 ≤ it.2.1 ∧ it.2.1 ≤ bm ∧ it.2.2 < 2 ^ it.2.1) ∨ (¬ it.1 = 0 ∧ it.2.1 < km ∧ it.2.2 < N it.2.1 ∧ 0 < Fvw vNow it.2.1 it.2.2 ∧ ns (Fvw vNow it.2.1) (N it.2.1) = M ∧ sgI vNow (64 * it.2.1) (N it.2.1) (Fvw vNow it.2.1))
def MI3 (M bm km : Nat) (N : Nat → Nat) (fItems fGoes : Int32) (vIM vIW vNow : Nat → Int32) : Prop := ∃ its : List It, its.length ≤ 600 ∧ fItems = nI its.length ∧ fGoes = 0 ∧ itIs vIM vIW its ∧ ∀ i, i < its.length → itOk M bm km N vNow (itA its i)
theorem itA_l {its : List It} {it : It} {i : Nat} (h : i < its.length) : itA (its ++ [it]) i = itA its i := by
  show (its ++ [it]).getD i (0, 0, 0) = its.getD i (0, 0, 0)
  rw [List.getD_eq_getElem?_getD, List.getD_eq_getElem?_getD, List.getElem?_append_left h]
theorem itA_e {its : List It} {it : It} : itA (its ++ [it]) its.length = it := by
  show (its ++ [it]).getD its.length (0, 0, 0) = it
  rw [List.getD_eq_getElem?_getD, List.getElem?_append_right (Nat.le_refl _), Nat.sub_self]
  rfl
theorem MI3_add {M bm km : Nat} {N : Nat → Nat} {vIM vIW vNow f2 v2 : Nat → Int32} {its : List It} {it : It} {p1 p2 : Int32} (hl : its.length < 600) (hi : itIs vIM vIW its) (hok : ∀ i, i < its.length → itOk M bm km N vNow (itA its i)) (h1 : f2 = upd vIM its.length p1) (h2 : v2 = upd vIW its.length p2) (e1 : p1 = itM it) (e2 : p2 = itW it) (ho : itOk M bm km N vNow it) : MI3 M bm km N (nI (its.length + 1)) 0 f2 v2 vNow := by
  refine ⟨its ++ [it], by rw [List.length_append, List.length_singleton]; omega, by rw [List.length_append, List.length_singleton], rfl, fun i hi2 => ?_, fun i hi2 => ?_⟩
  · rw [List.length_append, List.length_singleton] at hi2
    subst h1 h2 e1 e2
    by_cases e : i = its.length
    · subst e
      rw [itA_e, pk_us, pk_us]
      exact ⟨rfl, rfl⟩
    · rw [itA_l (by omega), pk_un e, pk_un e]
      exact hi i (by omega)
  · rw [List.length_append, List.length_singleton] at hi2
    by_cases e : i = its.length
    · subst e; rw [itA_e]; exact ho
    · rw [itA_l (by omega)]; exact hok i (by omega)
theorem it_sign {M bm km jj tt : Nat} {N : Nat → Nat} {vNow : Nat → Int32} {F : Nat → Nat} (hM : M ≤ 4096) (hj : jj < km) (ht : tt < N jj) (hF : sgI vNow (64 * jj) (N jj) F) (hs : ns F (N jj) = 0 ∨ ns F (N jj) = M) (hp : 0 < F tt) : itOk M bm km N vNow (1, jj, tt) := by
  have h0 := ns_ge (F := F) ht
  have hsM : ns F (N jj) = M := by omega
  obtain ⟨a, b⟩ := Fv_sg hF (by omega)
  refine Or.inr ⟨(show ¬ (1 : Nat) = 0 by decide), hj, ht, ?_, by rw [← hsM]; exact b, a⟩
  show 0 < Fvw vNow jj tt
  rw [Fv_eq hF (by omega) tt ht]
  exact hp
theorem it_val {M bm km b v : Nat} {N : Nat → Nat} {vNow : Nat → Int32} (h1 : 1 ≤ b) (h2 : b ≤ bm) (h3 : v < 2 ^ b) : itOk M bm km N vNow (0, b, v) := Or.inl ⟨rfl, h1, h2, h3⟩
end
section
set_option maxHeartbeats 2000000 in
set_option maxRecDepth 100000 in
theorem c_M_get4 (l : Launch) (dC : Nat → ClassId) (dI : Nat → Nat → Nat) (cI cM cO : ClassId) (sz : Nat) (o : Nat) (g : Nat → Nat) (fForm : Int32) (fShift : Int32) (fModels : Int32) (fItems : Int32) (fEnded : Int32) (fLow : Int64) (fRange : Int64) (fCache : Int32) (fPend : Int32) (fGoes : Int32) (fOuts : Int32) (fIns : Int32) (fReads : Int32) (fBad : Int32) (fIR : Int32) (fAsk : Int32) (fBAsk : Int32) (fCode : Int64) (fRL : Int64) (fRR : Int64) (fX : Int64) (fWrites : Int32) (fThrown : Int32) (vMany : Nat → Int32) (vCounts : Nat → Int32) (vThen : Nat → Int32) (vIn : Nat → Int32) (vSO : Nat → Int32) (vNO : Nat → Int32) (km : Nat) (N : Nat → Nat) (cn : Nat) (p1 : Int32) (hfo : fForm = 4) (hmod : fModels = nI km) (hMD : MD km N vMany vCounts) (hIN : IN fIns vIn) (hcn : cn ≤ 1000) (hU : TB 4 km N vThen) (hRD : ¬ fReads = 0 → fBad = 0 → RD4 cn fAsk fBAsk fX) : MetI l y_M_get (Cond.code y_M_get prog_14_method_56_code 3 (some .int) :: gw) ({ frames := 2, cells := 0, slots := 0, locals := 49 } : Room) (dC, dI) vwCl (kT cI cM cO) [Value.ref o, Value.int p1] [(o, Sum.inr (9, mO g fForm fShift fModels fItems fEnded fLow fRange fCache fPend fGoes fOuts fIns fReads fBad fIR fAsk fBAsk fCode fRL fRR fX fWrites fThrown)), ((g 0), Sum.inl (cI, 8, Sum.inl vMany)), ((g 1), Sum.inl (cI, 512, Sum.inl vCounts)), ((g 3), Sum.inl (cI, 512, Sum.inl vThen)), ((g 8), Sum.inl (cI, 6000, Sum.inl vIn)), ((g 9), Sum.inl (cI, 512, Sum.inl vSO)), ((g 10), Sum.inl (cI, 512, Sum.inl vNO))] sz (fun (r : Int32) (u : Int32 × Int32 × Int32 × Int32 × Int64 × Int32 × (Nat → Int32) × (Nat → Int32)) => ¬ fReads = 0 → u.1 = 0 → RD4 (cn + 1) u.2.2.1 u.2.2.2.1 u.2.2.2.2.1) (fun (u : Int32 × Int32 × Int32 × Int32 × Int64 × Int32 × (Nat → Int32) × (Nat → Int32)) => [(o, Sum.inr (9, mO g fForm fShift fModels fItems fEnded fLow fRange fCache fPend fGoes fOuts fIns fReads u.1 u.2.1 u.2.2.1 u.2.2.2.1 fCode fRL fRR u.2.2.2.2.1 fWrites u.2.2.2.2.2.1)), ((g 0), Sum.inl (cI, 8, Sum.inl vMany)), ((g 1), Sum.inl (cI, 512, Sum.inl vCounts)), ((g 3), Sum.inl (cI, 512, Sum.inl vThen)), ((g 8), Sum.inl (cI, 6000, Sum.inl vIn)), ((g 9), Sum.inl (cI, 512, Sum.inl u.2.2.2.2.2.2.1)), ((g 10), Sum.inl (cI, 512, Sum.inl u.2.2.2.2.2.2.2))]) 0 0 := by
  refine my_ofI (cc := prog_14_method_56_code) (n := 3) (ret := (some .int)) (by decide) rfl (Nat.le_of_ble_eq_true rfl) ?_
  intro p e s m args below meth c R Q A ls H locs hx hb hr hts hown hlocks hml hnm hR hQ hA hl hP hK hN hD hS
  have hg : ∀ w ∈ gw, w.before args s = true := fun w h => hts w (List.mem_cons_of_mem _ h)
  have hown : s.vm.findClass "RangeCodersModel" = some m.cls := hown
  have hl : lv_has ls 3 [(0, Value.ref o), (1, Value.int p1)] := hl
  subst hfo
  obtain ⟨is, rfl, hIn, hlen, hoct⟩ := hIN
  have hPD : my_PD (dC, dI) vwCl A [(o, Sum.inr (9, mO g 4 fShift fModels fItems fEnded fLow fRange fCache fPend fGoes fOuts (nI is.length) fReads fBad fIR fAsk fBAsk fCode fRL fRR fX fWrites fThrown)), ((g 0), Sum.inl (cI, 8, Sum.inl vMany)), ((g 1), Sum.inl (cI, 512, Sum.inl vCounts)), ((g 3), Sum.inl (cI, 512, Sum.inl vThen)), ((g 8), Sum.inl (cI, 6000, Sum.inl vIn)), ((g 9), Sum.inl (cI, 512, Sum.inl vSO)), ((g 10), Sum.inl (cI, 512, Sum.inl vNO))] H := ⟨hP, hD⟩
  have hP := hPD.1
  have hD := hPD.2
  have hl : lv_has ls 3 [(0, Value.ref o), (1, Value.int p1)] := hl
  refine lv_aload_n hx hb d_M_get_0 rfl (lv_at hl 0 rfl) ?_
  refine lv_iconst (v := 0) hx hb d_M_get_1 (by decide) ?_
  refine va_put (D := (dC, dI)) (ci := 9) (v := .int 0) (ty := .int) (C := "RangeCodersModel") (T := T_M) (N := 35) hx hb hg in_M t_M o_M n_M hown hK hP hD hS 0 rfl rfl 34 (by decide) (hg _ k986) (fun _ h9 => h9) rfl (o_M 34 (by decide)) rfl rfl (Nat.le_of_ble_eq_true rfl) d_M_get_2 (fun H locs hP hD hS => ?_)
  have hPD : my_PD (dC, dI) vwCl A [(o, Sum.inr (9, mO g 4 fShift fModels fItems fEnded fLow fRange fCache fPend fGoes fOuts (nI is.length) fReads fBad fIR fAsk fBAsk fCode fRL fRR fX fWrites 0)), ((g 0), Sum.inl (cI, 8, Sum.inl vMany)), ((g 1), Sum.inl (cI, 512, Sum.inl vCounts)), ((g 3), Sum.inl (cI, 512, Sum.inl vThen)), ((g 8), Sum.inl (cI, 6000, Sum.inl vIn)), ((g 9), Sum.inl (cI, 512, Sum.inl vSO)), ((g 10), Sum.inl (cI, 512, Sum.inl vNO))] H := ⟨hP, hD⟩
  have hP := hPD.1
  have hD := hPD.2
  refine lv_aload_n hx hb d_M_get_5 rfl (lv_at hl 0 rfl) ?_
  refine lv_iload_n hx hb d_M_get_6 rfl (lv_at hl 1 rfl) ?_
  refine my_ci (wr := [((g 0), Sum.inl (cI, 8, Sum.inl vMany)), ((g 1), Sum.inl (cI, 512, Sum.inl vCounts)), ((g 3), Sum.inl (cI, 512, Sum.inl vThen)), ((g 8), Sum.inl (cI, 6000, Sum.inl vIn)), ((g 9), Sum.inl (cI, 512, Sum.inl vSO)), ((g 10), Sum.inl (cI, 512, Sum.inl vNO))]) (va_runV (As := [Value.int p1]) (rest := []) ⟨hx, hb, hml, hown, hts⟩ (c_M_isModel l dC dI cI cM cO H.size o g 4 fShift fModels fItems fEnded fLow fRange fCache fPend fGoes fOuts (nI is.length) fReads fBad fIR fAsk fBAsk fCode fRL fRR fX fWrites 0 p1) (cwV 1 hts (my_gV k1073 k1075 ks26 k12 k1076) rfl rfl rfl cu_M_isModel_1 ⟨by rw [hR]; exact Nat.le_of_ble_eq_true rfl, by rw [hR]; exact Nat.le_of_ble_eq_true rfl⟩) (my_preV hK hN (hP.sub [0] rfl) (hD.sub [0] (by decide +kernel) rfl) 0 rfl rfl) rfl rfl hl.1 rfl (lv_room (Nat.le_of_ble_eq_true rfl)) d_M_get_7 ⟨by rw [hR]; exact Nat.le_of_ble_eq_true rfl, by rw [hR]; exact Nat.le_of_ble_eq_true rfl⟩) hP hD hS hA [0] [1, 2, 3, 4, 5, 6] rfl rfl (by decide +kernel) (by decide +kernel) (fun r_7 u9 H locs hw_7 hP hD hS => ?_)
  have hw_7 : r_7 = if 0 ≤ p1 ∧ p1 ≤ fModels - 1 then 1 else 0 := hw_7
  have hPD : my_PD (dC, dI) vwCl A [((g 0), Sum.inl (cI, 8, Sum.inl vMany)), ((g 1), Sum.inl (cI, 512, Sum.inl vCounts)), ((g 3), Sum.inl (cI, 512, Sum.inl vThen)), ((g 8), Sum.inl (cI, 6000, Sum.inl vIn)), ((g 9), Sum.inl (cI, 512, Sum.inl vSO)), ((g 10), Sum.inl (cI, 512, Sum.inl vNO)), (o, Sum.inr (9, mO g 4 fShift fModels fItems fEnded fLow fRange fCache fPend fGoes fOuts (nI is.length) fReads fBad fIR fAsk fBAsk fCode fRL fRR fX fWrites 0))] H := ⟨hP, hD⟩
  have hP := hPD.1
  have hD := hPD.2
  refine lv_if_ne (tgt := 15) hx hb d_M_get_10 (by decide) (fun c_1 => ?_) (fun c_1 => ?_)
  · refine lv_aload_n hx hb d_M_get_15 rfl (lv_at hl 0 rfl) ?_
    refine va_get (D := (dC, dI)) (ci := 9) (v := .int fReads) (C := "RangeCodersModel") (T := T_M) (N := 35) hx hb hg in_M hown hK hP 6 rfl rfl 21 (by decide) (hg _ k973) (fun _ h9 => h9) rfl d_M_get_16 ?_
    refine lv_if_ne (tgt := 25) hx hb d_M_get_19 (by decide) (fun c_2 => ?_) (fun c_2 => ?_)
    · refine lv_aload_n hx hb d_M_get_25 rfl (lv_at hl 0 rfl) ?_
      refine va_get (D := (dC, dI)) (ci := 9) (v := .int fBad) (C := "RangeCodersModel") (T := T_M) (N := 35) hx hb hg in_M hown hK hP 6 rfl rfl 22 (by decide) (hg _ k974) (fun _ h9 => h9) rfl d_M_get_26 ?_
      refine lv_if_eq (tgt := 35) hx hb d_M_get_29 (by decide) (fun c_3 => ?_) (fun c_3 => ?_)
      · have hT := hU
        rw [hmod] at hw_7
        obtain ⟨jj, hj, ej⟩ := md_of hMD.1 (one_ne hw_7 c_1)
        subst ej
        have hk8 := hMD.1
        obtain ⟨hn9, hn2, hn64, C9, hc9, hB9⟩ := hMD.2 jj hj
        obtain ⟨X, t, rfl, rfl, rfl, hX0, hX1, hq⟩ := hRD c_2 c_3
        have hPD : my_PD (dC, dI) vwCl A [((g 0), Sum.inl (cI, 8, Sum.inl vMany)), ((g 1), Sum.inl (cI, 512, Sum.inl vCounts)), ((g 3), Sum.inl (cI, 512, Sum.inl vThen)), ((g 8), Sum.inl (cI, 6000, Sum.inl vIn)), ((g 9), Sum.inl (cI, 512, Sum.inl vSO)), ((g 10), Sum.inl (cI, 512, Sum.inl vNO)), (o, Sum.inr (9, mO g 4 fShift fModels fItems fEnded fLow fRange fCache fPend fGoes fOuts (nI is.length) fReads fBad fIR (nI ((t + 7) / 8)) (nI t) fCode fRL fRR (lN X) fWrites 0))] H := ⟨hP, hD⟩
        have hP := hPD.1
        have hD := hPD.2
        obtain ⟨F9, hF⟩ := hT jj hj
        obtain ⟨hF9, hs9⟩ := tab_4 hF
        refine lv_aload_n hx hb d_M_get_35 rfl (lv_at hl 0 rfl) ?_
        refine va_get (D := (dC, dI)) (ci := 9) (v := .int 4) (C := "RangeCodersModel") (T := T_M) (N := 35) hx hb hg in_M hown hK hP 6 rfl rfl 0 (by decide) (hg _ k952) (fun _ h9 => h9) rfl d_M_get_36 ?_
        refine lv_iconst (v := 2) hx hb d_M_get_39 (by decide) ?_
        refine lv_icmp_ge (tgt := 51) hx hb d_M_get_40 (by decide) (fun c_4 => ?_) (fun c_4 => ?_)
        · refine lv_aload_n hx hb d_M_get_51 rfl (lv_at hl 0 rfl) ?_
          refine va_get (D := (dC, dI)) (ci := 9) (v := .int 4) (C := "RangeCodersModel") (T := T_M) (N := 35) hx hb hg in_M hown hK hP 6 rfl rfl 0 (by decide) (hg _ k952) (fun _ h9 => h9) rfl d_M_get_52 ?_
          refine lv_iconst (v := 2) hx hb d_M_get_55 (by decide) ?_
          refine lv_icmp_ne (tgt := 67) hx hb d_M_get_56 (by decide) (fun c_5 => ?_) (fun c_5 => ?_)
          · refine lv_aload_n hx hb d_M_get_67 rfl (lv_at hl 0 rfl) ?_
            refine va_get (D := (dC, dI)) (ci := 9) (v := .int 4) (C := "RangeCodersModel") (T := T_M) (N := 35) hx hb hg in_M hown hK hP 6 rfl rfl 0 (by decide) (hg _ k952) (fun _ h9 => h9) rfl d_M_get_68 ?_
            refine lv_iconst (v := 3) hx hb d_M_get_71 (by decide) ?_
            refine lv_icmp_ne (tgt := 83) hx hb d_M_get_72 (by decide) (fun c_6 => ?_) (fun c_6 => ?_)
            · refine lv_aload_n hx hb d_M_get_83 rfl (lv_at hl 0 rfl) ?_
              refine lv_iload_n hx hb d_M_get_84 rfl (lv_at hl 1 rfl) ?_
              refine my_ci (wr := [((g 1), Sum.inl (cI, 512, Sum.inl vCounts))]) (va_runV (As := [Value.int (nI jj)]) (rest := []) ⟨hx, hb, hml, hown, hts⟩ (c_M_getTabled l dC dI cI cM cO H.size o g 4 fShift fModels fItems fEnded fLow fRange fCache fPend fGoes fOuts fReads fBad fIR fCode fRL fRR fWrites 0 vMany vThen vIn vSO vNO jj (N jj) F9 X t is (by omega) (hn9) (hn64) (hIn) (hlen) (hoct) (by omega) (hF9) (hs9) (hX0) (hX1) (gt4_F hX1)) (cwV 1 hts (my_gV k1248 k1250 ks57 k12 k1251) rfl rfl rfl cu_M_getTabled_1 ⟨by rw [hR]; exact Nat.le_of_ble_eq_true rfl, by rw [hR]; exact Nat.le_of_ble_eq_true rfl⟩) (my_preV hK hN (hP.sub [6, 0, 2, 3, 4, 5] rfl) (hD.sub [6, 0, 2, 3, 4, 5] (by decide +kernel) rfl) 0 rfl rfl) rfl rfl hl.1 rfl (lv_room (Nat.le_of_ble_eq_true rfl)) d_M_get_85 ⟨by rw [hR]; exact Nat.le_of_ble_eq_true rfl, by rw [hR]; exact Nat.le_of_ble_eq_true rfl⟩) hP hD hS hA [6, 0, 2, 3, 4, 5] [1] rfl rfl (by decide +kernel) (by decide +kernel) (fun r_85 u9 H locs hw_85 hP hD hS => ?_)
              obtain ⟨so2_85, no2_85⟩ := u9
              have hw_85 : r_85 = oI (gt4 is (N jj) F9 X t).1 := hw_85
              have hPD : my_PD (dC, dI) vwCl A [((g 1), Sum.inl (cI, 512, Sum.inl vCounts)), (o, Sum.inr (9, mO g 4 fShift fModels fItems fEnded fLow fRange fCache fPend fGoes fOuts (nI is.length) fReads fBad fIR (nI (((gt4 is (N jj) F9 X t).2.2 + 7) / 8)) (nI (gt4 is (N jj) F9 X t).2.2) fCode fRL fRR (lN (gt4 is (N jj) F9 X t).2.1) fWrites 0)), ((g 0), Sum.inl (cI, 8, Sum.inl vMany)), ((g 3), Sum.inl (cI, 512, Sum.inl vThen)), ((g 8), Sum.inl (cI, 6000, Sum.inl vIn)), ((g 9), Sum.inl (cI, 512, Sum.inl so2_85)), ((g 10), Sum.inl (cI, 512, Sum.inl no2_85))] H := ⟨hP, hD⟩
              have hP := hPD.1
              have hD := hPD.2
              have hg9 := gt4_ok (is := is) (t := t) hs9 hX0 hX1
              refine lv_istore_n (lv' := [(2, Value.int r_85), (0, Value.ref o), (1, Value.int (nI jj))]) hx hb d_M_get_88 rfl hl (by decide) rfl (fun ls hl => ?_)
              refine lv_iload_n hx hb d_M_get_89 rfl (lv_at hl 0 rfl) ?_
              refine lv_if_ge (tgt := 98) hx hb d_M_get_90 (by decide) (fun c_7 => ?_) (fun c_7 => ?_)
              · refine lv_aload_n hx hb d_M_get_98 rfl (lv_at hl 1 rfl) ?_
                refine lv_dup hx hb d_M_get_99 rfl ?_
                refine va_get (D := (dC, dI)) (ci := 9) (v := .int fIR) (C := "RangeCodersModel") (T := T_M) (N := 35) hx hb hg in_M hown hK hP 1 rfl rfl 23 (by decide) (hg _ k975) (fun _ h9 => h9) rfl d_M_get_100 ?_
                refine lv_iconst (v := 1) hx hb d_M_get_103 (by decide) ?_
                refine lv_iadd hx hb d_M_get_104 ?_
                refine lv_topi (fun v_8 ev_8 => ?_)
                refine va_put (D := (dC, dI)) (ci := 9) (v := .int v_8) (ty := .int) (C := "RangeCodersModel") (T := T_M) (N := 35) hx hb hg in_M t_M o_M n_M hown hK hP hD hS 1 rfl rfl 23 (by decide) (hg _ k975) (fun _ h9 => h9) rfl (o_M 23 (by decide)) rfl rfl (Nat.le_of_ble_eq_true rfl) d_M_get_105 (fun H locs hP hD hS => ?_)
                have hPD : my_PD (dC, dI) vwCl A [((g 1), Sum.inl (cI, 512, Sum.inl vCounts)), (o, Sum.inr (9, mO g 4 fShift fModels fItems fEnded fLow fRange fCache fPend fGoes fOuts (nI is.length) fReads fBad v_8 (nI (((gt4 is (N jj) F9 X t).2.2 + 7) / 8)) (nI (gt4 is (N jj) F9 X t).2.2) fCode fRL fRR (lN (gt4 is (N jj) F9 X t).2.1) fWrites 0)), ((g 0), Sum.inl (cI, 8, Sum.inl vMany)), ((g 3), Sum.inl (cI, 512, Sum.inl vThen)), ((g 8), Sum.inl (cI, 6000, Sum.inl vIn)), ((g 9), Sum.inl (cI, 512, Sum.inl so2_85)), ((g 10), Sum.inl (cI, 512, Sum.inl no2_85))] H := ⟨hP, hD⟩
                have hP := hPD.1
                have hD := hPD.2
                refine lv_iload_n hx hb d_M_get_108 rfl (lv_at hl 0 rfl) ?_
                exact my_iret (v := r_85) hx hb hr (rfl) hlocks hQ hK hS (Nat.le_refl _) (Nat.le_refl _) (fBad, v_8, nI (((gt4 is (N jj) F9 X t).2.2 + 7) / 8), nI (gt4 is (N jj) F9 X t).2.2, lN (gt4 is (N jj) F9 X t).2.1, (0 : Int32), so2_85, no2_85) (fun _ _ => ⟨_, _, rfl, rfl, rfl, hg9.1, hg9.2.1, by omega⟩) (hP.sub [1, 2, 0, 3, 4, 5, 6] rfl) (hD.sub [1, 2, 0, 3, 4, 5, 6] (by decide +kernel) rfl) d_M_get_109
              · refine lv_aload_n hx hb d_M_get_93 rfl (lv_at hl 1 rfl) ?_
                refine my_ci (wr := [((g 1), Sum.inl (cI, 512, Sum.inl vCounts)), ((g 0), Sum.inl (cI, 8, Sum.inl vMany)), ((g 3), Sum.inl (cI, 512, Sum.inl vThen)), ((g 8), Sum.inl (cI, 6000, Sum.inl vIn)), ((g 9), Sum.inl (cI, 512, Sum.inl so2_85)), ((g 10), Sum.inl (cI, 512, Sum.inl no2_85))]) (va_runV (As := []) (rest := []) ⟨hx, hb, hml, hown, hts⟩ (c_M_spoiled l dC dI cI cM cO H.size o g 4 fShift fModels fItems fEnded fLow fRange fCache fPend fGoes fOuts (nI is.length) fReads fBad fIR (nI (((gt4 is (N jj) F9 X t).2.2 + 7) / 8)) (nI (gt4 is (N jj) F9 X t).2.2) fCode fRL fRR (lN (gt4 is (N jj) F9 X t).2.1) fWrites 0) (cwV 0 hts (my_gV k1252 k1254 ks58 k12 k1255) rfl rfl rfl cu_M_spoiled_0 ⟨by rw [hR]; exact Nat.le_of_ble_eq_true rfl, by rw [hR]; exact Nat.le_of_ble_eq_true rfl⟩) (my_preV hK hN (hP.sub [1] rfl) (hD.sub [1] (by decide +kernel) rfl) 0 rfl rfl) rfl rfl hl.1 rfl (lv_room (Nat.le_of_ble_eq_true rfl)) d_M_get_94 ⟨by rw [hR]; exact Nat.le_of_ble_eq_true rfl, by rw [hR]; exact Nat.le_of_ble_eq_true rfl⟩) hP hD hS hA [1] [0, 2, 3, 4, 5, 6] rfl rfl (by decide +kernel) (by decide +kernel) (fun r_94 u9 H locs hw_94 hP hD hS => ?_)
                have hw_94 : r_94 = -5 := hw_94
                have hPD : my_PD (dC, dI) vwCl A [((g 1), Sum.inl (cI, 512, Sum.inl vCounts)), ((g 0), Sum.inl (cI, 8, Sum.inl vMany)), ((g 3), Sum.inl (cI, 512, Sum.inl vThen)), ((g 8), Sum.inl (cI, 6000, Sum.inl vIn)), ((g 9), Sum.inl (cI, 512, Sum.inl so2_85)), ((g 10), Sum.inl (cI, 512, Sum.inl no2_85)), (o, Sum.inr (9, mO g 4 fShift fModels fItems fEnded fLow fRange fCache fPend fGoes fOuts (nI is.length) fReads 1 fIR (nI (((gt4 is (N jj) F9 X t).2.2 + 7) / 8)) (nI (gt4 is (N jj) F9 X t).2.2) fCode fRL fRR (lN (gt4 is (N jj) F9 X t).2.1) fWrites 0))] H := ⟨hP, hD⟩
                have hP := hPD.1
                have hD := hPD.2
                exact my_iret (v := r_94) hx hb hr (rfl) hlocks hQ hK hS (Nat.le_refl _) (Nat.le_refl _) ((1 : Int32), fIR, (nI (((gt4 is (N jj) F9 X t).2.2 + 7) / 8)), (nI (gt4 is (N jj) F9 X t).2.2), (lN (gt4 is (N jj) F9 X t).2.1), (0 : Int32), so2_85, no2_85) (fun z1 z2 => absurd z2 (show ¬ (1 : Int32) = 0 by decide)) (hP.sub [6, 1, 0, 2, 3, 4, 5] rfl) (hD.sub [6, 1, 0, 2, 3, 4, 5] (by decide +kernel) rfl) d_M_get_97
            · exact absurd c_6 (by decide)
          · exact absurd c_5 (by decide)
        · exact absurd (by decide) c_4
      · refine lv_bipush (v := (-5)) hx hb d_M_get_32 (by decide) ?_
        exact my_iret (v := (-5)) hx hb hr (rfl) hlocks hQ hK hS (Nat.le_refl _) (Nat.le_refl _) (fBad, fIR, fAsk, fBAsk, fX, (0 : Int32), vSO, vNO) (fun z1 z2 => absurd z2 c_3) (hP.sub [6, 0, 1, 2, 3, 4, 5] rfl) (hD.sub [6, 0, 1, 2, 3, 4, 5] (by decide +kernel) rfl) d_M_get_34
    · refine lv_bipush (v := (-3)) hx hb d_M_get_22 (by decide) ?_
      exact my_iret (v := (-3)) hx hb hr (rfl) hlocks hQ hK hS (Nat.le_refl _) (Nat.le_refl _) (fBad, fIR, fAsk, fBAsk, fX, (0 : Int32), vSO, vNO) (fun z1 z2 => absurd c_2 z1) (hP.sub [6, 0, 1, 2, 3, 4, 5] rfl) (hD.sub [6, 0, 1, 2, 3, 4, 5] (by decide +kernel) rfl) d_M_get_24
  · refine lv_iconst (v := (-1)) hx hb d_M_get_13 (by decide) ?_
    exact my_iret (v := (-1)) hx hb hr (rfl) hlocks hQ hK hS (Nat.le_refl _) (Nat.le_refl _) (fBad, fIR, fAsk, fBAsk, fX, (0 : Int32), vSO, vNO) (fun z1 z2 => RD4_up (hRD z1 z2)) (hP.sub [6, 0, 1, 2, 3, 4, 5] rfl) (hD.sub [6, 0, 1, 2, 3, 4, 5] (by decide +kernel) rfl) d_M_get_14
end
section
theorem r3_ge {x : Int64} {n : Nat} (hx : x = lN n) (hn : n < 4294967296) (c : (8388608 : Int64) ≤ x) : 8388608 ≤ n := by
  rw [hx] at c
  exact (L_le (a := 8388608) (by decide) (by omega)).mp c
end
section
theorem s3_len (f : Nat) : ∀ (k : Nat) (r : Nat × List Nat), (s3N f k r).2.length ≤ r.2.length + k
  | 0, r => Nat.le_refl _
  | k + 1, r => by
    by_cases h : f * 524288 ≤ r.1
    · rw [s3N_s (show 0 < k + 1 from Nat.succ_pos k) h, Nat.add_sub_cancel]
      have := s3_len f k (r.1 / 256, r.2 ++ [r.1 % 256])
      have e : (r.2 ++ [r.1 % 256]).length = r.2.length + 1 := by rw [List.length_append, List.length_singleton]
      have h2 : (s3N f k (r.1 / 256, r.2 ++ [r.1 % 256])).2.length ≤ (r.2 ++ [r.1 % 256]).length + k := this
      omega
    · rw [s3N_e h]; omega
theorem e3_len (Fn : Nat → Nat → Nat) (its : List It) : ∀ (k : Nat) (r : Nat × List Nat), (e3N Fn its k r).2.length ≤ r.2.length + 8 * k
  | 0, r => Nat.le_refl _
  | k + 1, r => by
    have h1 := e3_len Fn its k (s3I (itF 4096 Fn (itA its k)) (itC 4096 Fn (itA its k)) r)
    have h2 := s3_len (itF 4096 Fn (itA its k)) 8 r
    have h3 : (s3I (itF 4096 Fn (itA its k)) (itC 4096 Fn (itA its k)) r).2.length = (s3N (itF 4096 Fn (itA its k)) 8 r).2.length := rfl
    show (e3N Fn its k (s3I (itF 4096 Fn (itA its k)) (itC 4096 Fn (itA its k)) r)).2.length ≤ _
    omega
theorem e3S_len (Fn : Nat → Nat → Nat) (its : List It) : (e3S Fn its).length ≤ 8 * its.length + 4 := by
  unfold e3S
  rw [List.length_append]
  have h1 := e3_len Fn its its.length (8388608, [])
  have h2 : ∀ (x k : Nat), (b4 x k).length = k := by
    intro x k
    induction k generalizing x with
    | zero => rfl
    | succ k ih => rw [b4, List.length_cons, ih]
  rw [h2]
  have h3 : (e3N Fn its its.length (8388608, [])).2.length ≤ 0 + 8 * its.length := h1
  omega
theorem it3_of {km : Nat} {N : Nat → Nat} {vMany vC vNow : Nat → Int32} {it : It} (hM : MD km N vMany vC) (h : itOk 4096 12 km N vNow it) : it3 vNow N (Fvw vNow) it := by
  rcases h with h | ⟨h1, h2, h3, h4, h5, h6⟩
  · exact Or.inl h
  · exact Or.inr ⟨h1, by have := hM.1; omega, (hM.2 _ h2).2.2.1, h3, h4, h5, h6⟩
theorem oct_setx {is : List Nat} {i t : Nat} (h : oct is) (ht : t < 256) : oct (is.set i (byA is i ^^^ t)) := by
  rw [oct_iff] at h ⊢
  intro x hx
  rcases List.mem_or_eq_of_mem_set hx with q | q
  · exact h x q
  · rw [q]
    have h0 : byA is i < 2 ^ 8 := by
      have := oct_iff.mpr h
      exact this i
    exact Nat.xor_lt_two_pow h0 (show t < 2 ^ 8 from ht)
end
section
/-! FORM 4: the end -/
def bt2 (wl : List Nat) : Prop := ∀ x ∈ wl, x < 2
theorem bt2_add {wl : List Nat} {x : Nat} (h : bt2 wl) (hx : x < 2) : bt2 (wl ++ [x]) := by
  intro y hy
  rcases List.mem_append.mp hy with q | q
  · exact h y q
  · rw [List.mem_singleton.mp q]; exact hx
theorem bt2_at {wl : List Nat} {i : Nat} (h : bt2 wl) : byA wl i < 2 := by
  show wl.getD i 0 < 2
  rw [List.getD_eq_getElem?_getD]
  rcases Nat.lt_or_ge i wl.length with q | q
  · rw [List.getElem?_eq_getElem q]; exact h _ (List.getElem_mem q)
  · rw [List.getElem?_eq_none q]; decide
def ldOk (km : Nat) (N : Nat → Nat) (vNow : Nat → Int32) (ld : Int32) (so no : Nat → Int32) : Prop := ld = -1 ∨ ∃ mm, mm < km ∧ ld = nI mm ∧ layd so no (Fvw vNow mm) (N mm)
theorem ld_lay {km mm : Nat} {N : Nat → Nat} {vNow so no : Nat → Int32} (hk : km ≤ 8) (hm : mm < km) (h : ldOk km N vNow (nI mm) so no) : layd so no (Fvw vNow mm) (N mm) := by
  rcases h with e | ⟨m2, h1, h2, h3⟩
  · exfalso
    have h9 : (nI mm).toInt = (-1 : Int32).toInt := by rw [e]
    rw [nI_toInt (by omega)] at h9
    have e1 : (-1 : Int32).toInt = -1 := rfl
    omega
  · have e : mm = m2 := nI_inj (by omega) (by omega) h2
    subst e; exact h3
theorem itm_pos {km M bm : Nat} {N : Nat → Nat} {vNow : Nat → Int32} {it : It} (hk : km ≤ 8) (hb : bm ≤ 12) (h : itOk M bm km N vNow it) : (0 ≤ itM it ↔ ¬ it.1 = 0) := by
  unfold itM
  rcases h with ⟨h1, h2, h3, h4⟩ | ⟨h1, h2, h3⟩
  · rw [if_pos h1]
    constructor
    · intro z
      exfalso
      rw [Int32.le_iff_toInt_le, Int32.toInt_neg, nI_toInt (by omega)] at z
      have e0 : (0 : Int32).toInt = 0 := rfl
      rw [e0] at z
      have e2 : (-(it.2.1 : Int)).bmod (2 ^ 32) = -(it.2.1 : Int) := by
        apply Int.bmod_eq_of_le <;> omega
      rw [e2] at z
      omega
    · intro z; exact absurd h1 z
  · rw [if_neg h1]
    exact ⟨fun _ => h1, fun _ => nI_pos' (by omega)⟩
theorem itm_ng {it : It} (h : it.1 = 0) : -itM it = nI it.2.1 := by
  unfold itM
  rw [if_pos h, Int32.neg_neg]
theorem L_shrV {n j : Nat} (h : n < 2 ^ 62) (hj : j < 9) : lN n >>> ((nI j).toInt64 &&& 63) = lN (n / 2 ^ j) := by
  rcases (show j = 0 ∨ j = 1 ∨ j = 2 ∨ j = 3 ∨ j = 4 ∨ j = 5 ∨ j = 6 ∨ j = 7 ∨ j = 8 by omega) with e | e | e | e | e | e | e | e | e <;> subst e
  · exact pf_shr (d := 0) (by decide +kernel) h
  · exact pf_shr (d := 1) (by decide +kernel) h
  · exact pf_shr (d := 2) (by decide +kernel) h
  · exact pf_shr (d := 3) (by decide +kernel) h
  · exact pf_shr (d := 4) (by decide +kernel) h
  · exact pf_shr (d := 5) (by decide +kernel) h
  · exact pf_shr (d := 6) (by decide +kernel) h
  · exact pf_shr (d := 7) (by decide +kernel) h
  · exact pf_shr (d := 8) (by decide +kernel) h
theorem I_shl {n s : Nat} (hs : s < 32) (h : n * 2 ^ s < 2 ^ 32) : nI n <<< (nI s &&& 31) = nI (n * 2 ^ s) := pk_shlN _ s (sl32 s hs) h
theorem pw_lt {b n x : Nat} (hb : b < 2 ^ n) (hx : x < 2) : 2 * b + x < 2 ^ (n + 1) := by
  rw [Nat.pow_succ]; omega
theorem pw8 {b n : Nat} (h1 : b < 2 ^ n) (hn : n ≤ 8) : b * 2 ^ (8 - n) < 256 := by
  have h2 : b * 2 ^ (8 - n) < 2 ^ n * 2 ^ (8 - n) := Nat.mul_lt_mul_of_pos_right h1 (Nat.two_pow_pos _)
  rw [← Nat.pow_add, show n + (8 - n) = 8 by omega] at h2
  exact h2
theorem pw7 {b n : Nat} (h1 : b < 2 ^ n) (hn : n ≤ 8) : b < 256 := Nat.lt_of_lt_of_le h1 (Nat.le_trans (Nat.pow_le_pow_right (by decide) hn) (by decide))
theorem hv_st {V c : Nat} (h : V < 2 ^ (10 - c)) (hc : c < 9) : V / 2 < 2 ^ (10 - (c + 1)) := by
  have e : 10 - c = (10 - (c + 1)) + 1 := by omega
  rw [e, Nat.pow_succ] at h
  omega
theorem hc_lt {V c : Nat} (h : V < 2 ^ (10 - c)) (hc : c ≤ 9) (h2 : 2 ≤ V) : c < 9 := by
  rcases Nat.lt_or_ge c 9 with z | z
  · exact z
  · have e : c = 9 := by omega
    subst e
    have h : V < 2 := h
    omega
theorem hv_lt {V c : Nat} (h : V < 2 ^ (10 - c)) : V < 1024 := Nat.lt_of_lt_of_le h (Nat.le_trans (Nat.pow_le_pow_right (by decide) (show 10 - c ≤ 10 by omega)) (by decide))
end
