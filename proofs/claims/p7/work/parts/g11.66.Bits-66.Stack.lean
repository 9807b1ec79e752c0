section
set_option maxHeartbeats 2000000 in
set_option maxRecDepth 100000 in
theorem c_RC_getA_Bits (l : Launch) (dC : Nat → ClassId) (dI : Nat → Nat → Nat) (cI cM cO : ClassId) (sz : Nat) (rc : Nat) (ma : Nat) (k : Nat) (fit : Int32) (fen : Int32) (frd : Int32) (fbd : Int32) (fir : Int32) (mf : Nat → Option Nat) (co : Nat) (xshift : Int32) (xkeptCode : Int64) (xkeptRange : Int64) (xkeptAsked : Int32) (xcache : Int32) (xpending : Int32) (xlow : Int64) (xrange : Int64) (xcode : Int64) (xreadLow : Int64) (xreadRange : Int64) (ri : Nat) (ro : Nat) (rw : Nat) (xasked : Int32) (mm : Int32) (hk8 : k ≤ 8) (hbad : mm < 0 ∨ nI k ≤ mm) : MetI l y_RC_get (Cond.code y_RC_get prog_1_method_13_code 3 (some .int) :: gw) ({ frames := 1, cells := 0, slots := 0, locals := 21 } : Room) (dC, dI) vwCl (kT cI cM cO) [Value.ref rc, Value.int mm] [(rc, Sum.inr (6, [Value.ref co, Value.ref ma, Value.int (nI k), Value.int fit, Value.int fen, Value.int frd, Value.int fbd, Value.int fir])), (ma, Sum.inl (cM, 8, Sum.inr (Sum.inr (Sum.inr (Sum.inr mf))))), (co, Sum.inr (3, [Value.int xshift, Value.long xkeptCode, Value.long xkeptRange, Value.int xkeptAsked, Value.int xcache, Value.int xpending, Value.long xlow, Value.long xrange, Value.long xcode, Value.long xreadLow, Value.long xreadRange, Value.ref ri, Value.ref ro, Value.ref rw, Value.int xasked]))] sz (fun (r : Int32) (u : Unit) => True) (fun (u : Unit) => [(rc, Sum.inr (6, [Value.ref co, Value.ref ma, Value.int (nI k), Value.int fit, Value.int fen, Value.int frd, Value.int fbd, Value.int fir])), (ma, Sum.inl (cM, 8, Sum.inr (Sum.inr (Sum.inr (Sum.inr mf))))), (co, Sum.inr (3, [Value.int xshift, Value.long xkeptCode, Value.long xkeptRange, Value.int xkeptAsked, Value.int xcache, Value.int xpending, Value.long xlow, Value.long xrange, Value.long xcode, Value.long xreadLow, Value.long xreadRange, Value.ref ri, Value.ref ro, Value.ref rw, Value.int xasked]))]) 0 0 := by
  refine my_ofI (cc := prog_1_method_13_code) (n := 3) (ret := (some .int)) (by decide) rfl (Nat.le_of_ble_eq_true rfl) ?_
  intro p e s m args below meth c R Q A ls H locs hx hb hr hts hown hlocks hml hnm hR hQ hA hl hP hK hN hD hS
  have hg : ∀ w ∈ gw, w.before args s = true := fun w h => hts w (List.mem_cons_of_mem _ h)
  have hown : s.vm.findClass "RangeCoders" = some m.cls := hown
  have hl : lv_has ls 3 [(0, Value.ref rc), (1, Value.int mm)] := hl
  refine lv_aload_n hx hb d_RC_get_0 rfl (lv_at hl 0 rfl) ?_
  refine lv_iload_n hx hb d_RC_get_1 rfl (lv_at hl 1 rfl) ?_
  refine my_cq (wr := [(co, Sum.inr (3, [Value.int xshift, Value.long xkeptCode, Value.long xkeptRange, Value.int xkeptAsked, Value.int xcache, Value.int xpending, Value.long xlow, Value.long xrange, Value.long xcode, Value.long xreadLow, Value.long xreadRange, Value.ref ri, Value.ref ro, Value.ref rw, Value.int xasked]))]) (va_runV (As := [Value.int mm]) (rest := []) ⟨hx, hb, hml, hown, hts⟩ (c_RC_modelAtA l dC dI cI cM cO H.size rc ma k fit fen frd fbd fir mf co mm (by first | assumption | omega)) (cwV 1 hts (my_gV k412 k414 ks3 k1 k415) rfl rfl rfl (by decide +kernel) ⟨by rw [hR]; exact Nat.le_of_ble_eq_true rfl, by rw [hR]; exact Nat.le_of_ble_eq_true rfl⟩) (my_preV hK hN (hP.sub [0, 1] rfl) (hD.sub [0, 1] (by decide +kernel) rfl) 0 rfl rfl) rfl rfl hl.1 rfl (lv_room (Nat.le_of_ble_eq_true rfl)) d_RC_get_2 ⟨by rw [hR]; exact Nat.le_of_ble_eq_true rfl, by rw [hR]; exact Nat.le_of_ble_eq_true rfl⟩) hP hD hS hA [0, 1] [2] rfl rfl (by decide +kernel) (by decide +kernel) (fun r_2 u9 H locs hw_2 hP hD hS => ?_)
  have hr_2 : r_2 = none := hw_2
  have hPD : my_PD (dC, dI) vwCl A [(co, Sum.inr (3, [Value.int xshift, Value.long xkeptCode, Value.long xkeptRange, Value.int xkeptAsked, Value.int xcache, Value.int xpending, Value.long xlow, Value.long xrange, Value.long xcode, Value.long xreadLow, Value.long xreadRange, Value.ref ri, Value.ref ro, Value.ref rw, Value.int xasked])), (rc, Sum.inr (6, [Value.ref co, Value.ref ma, Value.int (nI k), Value.int fit, Value.int fen, Value.int frd, Value.int fbd, Value.int fir])), (ma, Sum.inl (cM, 8, Sum.inr (Sum.inr (Sum.inr (Sum.inr mf)))))] H := ⟨hP, hD⟩
  have hP := hPD.1
  have hD := hPD.2
  subst hr_2
  refine W.eq (g2 := F0 m 5 ls [Value.null]) rfl ?_
  refine lv_astore_nN (lv' := [(2, Value.null), (0, Value.ref rc), (1, Value.int mm)]) hx hb d_RC_get_5 rfl hl (by decide) rfl (fun ls hl => ?_)
  refine lv_aload_nN hx hb d_RC_get_6 rfl (lv_at hl 0 rfl) ?_
  refine lv_ifnonnullN hx hb d_RC_get_7 ?_
  refine lv_iconst (v := (-1)) hx hb d_RC_get_10 (by decide) ?_
  exact my_iret (v := (-1)) hx hb hr (rfl) hlocks hQ hK hS (Nat.le_refl _) (Nat.le_refl _) () (trivial) (hP.sub [1, 2, 0] rfl) (hD.sub [1, 2, 0] (by decide +kernel) rfl) d_RC_get_11
set_option maxHeartbeats 2000000 in
set_option maxRecDepth 100000 in
theorem c_RC_getB_Bits (l : Launch) (dC : Nat → ClassId) (dI : Nat → Nat → Nat) (cI cM cO : ClassId) (sz : Nat) (rc : Nat) (ma : Nat) (k : Nat) (fit : Int32) (fen : Int32) (frd : Int32) (fbd : Int32) (fir : Int32) (mf : Nat → Option Nat) (co : Nat) (xshift : Int32) (xkeptCode : Int64) (xkeptRange : Int64) (xkeptAsked : Int32) (xcache : Int32) (xpending : Int32) (xlow : Int64) (xrange : Int64) (xcode : Int64) (xreadLow : Int64) (xreadRange : Int64) (ri : Nat) (ro : Nat) (rw : Nat) (xasked : Int32) (rin : Int32) (ria : Nat) (rik : Nat) (rif : Nat → Int32) (j : Nat) (mo : Nat) (o2 : Nat) (oo : Nat) (osg : Int32) (osm : Int32) (ofc : Int32) (oca : Nat) (opa : Nat) (ol : Nat) (ocf : Nat → Int32) (opl : Nat) (opf : Nat → Int32) (ka : Nat) (kl : Nat) (kf : Nat → Int32) (hk8 : k ≤ 8) (hri : rOk rin rik) (hj : j < k) (hmf : mf j = some mo) (hol : ol ≤ 64) (hopl : opl ≤ 512) (hol0 : 1 ≤ ol) (hkl : kl ≤ 64) : MetI l y_RC_get (Cond.code y_RC_get prog_1_method_13_code 3 (some .int) :: gw) ({ frames := 6, cells := 0, slots := 0, locals := 133 } : Room) (dC, dI) vwCl (kT cI cM cO) [Value.ref rc, Value.int (nI j)] [(rc, Sum.inr (6, [Value.ref co, Value.ref ma, Value.int (nI k), Value.int fit, Value.int fen, Value.int frd, Value.int fbd, Value.int fir])), (ma, Sum.inl (cM, 8, Sum.inr (Sum.inr (Sum.inr (Sum.inr mf))))), (co, Sum.inr (3, [Value.int xshift, Value.long xkeptCode, Value.long xkeptRange, Value.int xkeptAsked, Value.int xcache, Value.int xpending, Value.long xlow, Value.long xrange, Value.long xcode, Value.long xreadLow, Value.long xreadRange, Value.ref ri, Value.ref ro, Value.ref rw, Value.int xasked])), (ri, Sum.inr (0, [Value.int rin, Value.ref ria])), (ria, Sum.inl (cI, rik, Sum.inl rif)), (mo, Sum.inr (8, [Value.ref ka, Value.ref o2, Value.ref oo])), (ka, Sum.inl (cI, kl, Sum.inl kf)), (oo, Sum.inr (7, [Value.int osg, Value.int osm, Value.int ofc, Value.ref oca, Value.ref opa])), (oca, Sum.inl (cI, ol, Sum.inl ocf)), (opa, Sum.inl (cI, opl, Sum.inl opf))] sz (fun (r : Int32) (u : Int32 × Int32 × Int64 × Int64 × Int32 × Int64 × Int64 × Int32 × Int32 × (Nat → Int32)) => True) (fun (u : Int32 × Int32 × Int64 × Int64 × Int32 × Int64 × Int64 × Int32 × Int32 × (Nat → Int32)) => [(rc, Sum.inr (6, [Value.ref co, Value.ref ma, Value.int (nI k), Value.int fit, Value.int fen, Value.int frd, Value.int u.1, Value.int u.2.1])), (ma, Sum.inl (cM, 8, Sum.inr (Sum.inr (Sum.inr (Sum.inr mf))))), (co, Sum.inr (3, [Value.int xshift, Value.long u.2.2.1, Value.long u.2.2.2.1, Value.int u.2.2.2.2.1, Value.int xcache, Value.int xpending, Value.long xlow, Value.long xrange, Value.long u.2.2.2.2.2.1, Value.long xreadLow, Value.long u.2.2.2.2.2.2.1, Value.ref ri, Value.ref ro, Value.ref rw, Value.int u.2.2.2.2.2.2.2.1])), (ri, Sum.inr (0, [Value.int rin, Value.ref ria])), (ria, Sum.inl (cI, rik, Sum.inl rif)), (mo, Sum.inr (8, [Value.ref ka, Value.ref o2, Value.ref oo])), (ka, Sum.inl (cI, kl, Sum.inl kf)), (oo, Sum.inr (7, [Value.int osg, Value.int u.2.2.2.2.2.2.2.2.1, Value.int ofc, Value.ref oca, Value.ref opa])), (oca, Sum.inl (cI, ol, Sum.inl u.2.2.2.2.2.2.2.2.2)), (opa, Sum.inl (cI, opl, Sum.inl opf))]) 0 0 := by
  refine my_ofI (cc := prog_1_method_13_code) (n := 3) (ret := (some .int)) (by decide) rfl (Nat.le_of_ble_eq_true rfl) ?_
  intro p e s m args below meth c R Q A ls H locs hx hb hr hts hown hlocks hml hnm hR hQ hA hl hP hK hN hD hS
  have hg : ∀ w ∈ gw, w.before args s = true := fun w h => hts w (List.mem_cons_of_mem _ h)
  have hown : s.vm.findClass "RangeCoders" = some m.cls := hown
  have hl : lv_has ls 3 [(0, Value.ref rc), (1, Value.int (nI j))] := hl
  have hlt_hri := rOk_lt hri
  refine lv_aload_n hx hb d_RC_get_0 rfl (lv_at hl 0 rfl) ?_
  refine lv_iload_n hx hb d_RC_get_1 rfl (lv_at hl 1 rfl) ?_
  refine my_cq (wr := [(co, Sum.inr (3, [Value.int xshift, Value.long xkeptCode, Value.long xkeptRange, Value.int xkeptAsked, Value.int xcache, Value.int xpending, Value.long xlow, Value.long xrange, Value.long xcode, Value.long xreadLow, Value.long xreadRange, Value.ref ri, Value.ref ro, Value.ref rw, Value.int xasked])), (ri, Sum.inr (0, [Value.int rin, Value.ref ria])), (ria, Sum.inl (cI, rik, Sum.inl rif)), (mo, Sum.inr (8, [Value.ref ka, Value.ref o2, Value.ref oo])), (ka, Sum.inl (cI, kl, Sum.inl kf)), (oo, Sum.inr (7, [Value.int osg, Value.int osm, Value.int ofc, Value.ref oca, Value.ref opa])), (oca, Sum.inl (cI, ol, Sum.inl ocf)), (opa, Sum.inl (cI, opl, Sum.inl opf))]) (va_runV (As := [Value.int (nI j)]) (rest := []) ⟨hx, hb, hml, hown, hts⟩ (c_RC_modelAtB l dC dI cI cM cO H.size rc ma k fit fen frd fbd fir mf co j mo (by first | assumption | omega) (by first | assumption | omega) (by first | assumption | omega)) (cwV 1 hts (my_gV k412 k414 ks3 k1 k415) rfl rfl rfl (by decide +kernel) ⟨by rw [hR]; exact Nat.le_of_ble_eq_true rfl, by rw [hR]; exact Nat.le_of_ble_eq_true rfl⟩) (my_preV hK hN (hP.sub [0, 1] rfl) (hD.sub [0, 1] (by decide +kernel) rfl) 0 rfl rfl) rfl rfl hl.1 rfl (lv_room (Nat.le_of_ble_eq_true rfl)) d_RC_get_2 ⟨by rw [hR]; exact Nat.le_of_ble_eq_true rfl, by rw [hR]; exact Nat.le_of_ble_eq_true rfl⟩) hP hD hS hA [0, 1] [2, 3, 4, 5, 6, 7, 8, 9] rfl rfl (by decide +kernel) (by decide +kernel) (fun r_2 u9 H locs hw_2 hP hD hS => ?_)
  have hr_2 : r_2 = some mo := hw_2
  have hPD : my_PD (dC, dI) vwCl A [(co, Sum.inr (3, [Value.int xshift, Value.long xkeptCode, Value.long xkeptRange, Value.int xkeptAsked, Value.int xcache, Value.int xpending, Value.long xlow, Value.long xrange, Value.long xcode, Value.long xreadLow, Value.long xreadRange, Value.ref ri, Value.ref ro, Value.ref rw, Value.int xasked])), (ri, Sum.inr (0, [Value.int rin, Value.ref ria])), (ria, Sum.inl (cI, rik, Sum.inl rif)), (mo, Sum.inr (8, [Value.ref ka, Value.ref o2, Value.ref oo])), (ka, Sum.inl (cI, kl, Sum.inl kf)), (oo, Sum.inr (7, [Value.int osg, Value.int osm, Value.int ofc, Value.ref oca, Value.ref opa])), (oca, Sum.inl (cI, ol, Sum.inl ocf)), (opa, Sum.inl (cI, opl, Sum.inl opf)), (rc, Sum.inr (6, [Value.ref co, Value.ref ma, Value.int (nI k), Value.int fit, Value.int fen, Value.int frd, Value.int fbd, Value.int fir])), (ma, Sum.inl (cM, 8, Sum.inr (Sum.inr (Sum.inr (Sum.inr mf)))))] H := ⟨hP, hD⟩
  have hP := hPD.1
  have hD := hPD.2
  subst hr_2
  refine W.eq (g2 := F0 m 5 ls [Value.ref mo]) rfl ?_
  refine lv_astore_n (lv' := [(2, Value.ref mo), (0, Value.ref rc), (1, Value.int (nI j))]) hx hb d_RC_get_5 rfl hl (by decide) rfl (fun ls hl => ?_)
  refine lv_aload_n hx hb d_RC_get_6 rfl (lv_at hl 0 rfl) ?_
  refine lv_ifnonnull (tgt := 12) hx hb d_RC_get_7 (by decide) ?_
  refine lv_aload_n hx hb d_RC_get_12 rfl (lv_at hl 1 rfl) ?_
  refine va_get (D := (dC, dI)) (ci := 6) (v := .int frd) (C := "RangeCoders") (T := T_RC) (N := 8) hx hb hg in_RC hown hK hP 8 rfl rfl 5 (by decide) (hg _ k263) (fun _ h9 => h9) rfl d_RC_get_13 ?_
  refine lv_if_ne (tgt := 22) hx hb d_RC_get_16 (by decide) (fun c_1 => ?_) (fun c_1 => ?_)
  · refine lv_aload_n hx hb d_RC_get_22 rfl (lv_at hl 1 rfl) ?_
    refine va_get (D := (dC, dI)) (ci := 6) (v := .int fbd) (C := "RangeCoders") (T := T_RC) (N := 8) hx hb hg in_RC hown hK hP 8 rfl rfl 6 (by decide) (hg _ k264) (fun _ h9 => h9) rfl d_RC_get_23 ?_
    refine lv_if_eq (tgt := 34) hx hb d_RC_get_26 (by decide) (fun c_2 => ?_) (fun c_2 => ?_)
    · refine lv_aload_n hx hb d_RC_get_34 rfl (lv_at hl 1 rfl) ?_
      refine lv_aload_n hx hb d_RC_get_35 rfl (lv_at hl 1 rfl) ?_
      refine va_get (D := (dC, dI)) (ci := 6) (v := .ref co) (C := "RangeCoders") (T := T_RC) (N := 8) hx hb hg in_RC hown hK hP 8 rfl rfl 0 (by decide) (hg _ k258) (fun _ h9 => h9) rfl d_RC_get_36 ?_
      refine lv_aload_n hx hb d_RC_get_39 rfl (lv_at hl 0 rfl) ?_
      refine va_get (D := (dC, dI)) (ci := 8) (v := .ref oo) (C := "RangeCoders$Model") (T := T_Model) (N := 3) hx hb hg in_Model hown hK hP 3 rfl rfl 2 (by decide) (hg _ k345) (fun _ h9 => h9) rfl d_RC_get_40 ?_
      refine my_ci (wr := [(mo, Sum.inr (8, [Value.ref ka, Value.ref o2, Value.ref oo])), (ka, Sum.inl (cI, kl, Sum.inl kf)), (rc, Sum.inr (6, [Value.ref co, Value.ref ma, Value.int (nI k), Value.int fit, Value.int fen, Value.int frd, Value.int fbd, Value.int fir])), (ma, Sum.inl (cM, 8, Sum.inr (Sum.inr (Sum.inr (Sum.inr mf)))))]) (va_runU (As := [Value.ref oo]) (rest := [Value.ref rc]) ⟨hx, hb, hml, hown, hts⟩ (c_Bits_Bits_nextSign l dC dI cI cM cO H.size co xshift xkeptCode xkeptRange xkeptAsked xcache xpending xlow xrange xcode xreadLow xreadRange ri ro rw xasked rin ria rik rif oo osg osm ofc oca opa ol ocf opl opf (by first | assumption | omega) (by first | assumption | omega) (by first | assumption | omega)) (va_cwA 1 hts (my_gU k775 k777 k778 k779 k8 k780) rfl rfl rfl (hN.1 _ j776 rfl) (by decide +kernel) ⟨by rw [hR]; exact Nat.le_of_ble_eq_true rfl, by rw [hR]; exact Nat.le_of_ble_eq_true rfl⟩) (my_preV hK hN (hP.sub [0, 1, 2, 5, 6, 7] rfl) (hD.sub [0, 1, 2, 5, 6, 7] (by decide +kernel) rfl) 0 rfl rfl) rfl rfl hl.1 rfl (lv_room (Nat.le_of_ble_eq_true rfl)) d_RC_get_43 ⟨by rw [hR]; exact Nat.le_of_ble_eq_true rfl, by rw [hR]; exact Nat.le_of_ble_eq_true rfl⟩) hP hD hS hA [0, 1, 2, 5, 6, 7] [3, 4, 8, 9] rfl rfl (by decide +kernel) (by decide +kernel) (fun r_43 u9 H locs hw_43 hP hD hS => ?_)
      obtain ⟨xkeptCodeq_43, xkeptRangeq_43, xkeptAskedq_43, xcodeq_43, xreadRangeq_43, xaskedq_43, osmq_43, ocfq_43⟩ := u9
      have hPD : my_PD (dC, dI) vwCl A [(mo, Sum.inr (8, [Value.ref ka, Value.ref o2, Value.ref oo])), (ka, Sum.inl (cI, kl, Sum.inl kf)), (rc, Sum.inr (6, [Value.ref co, Value.ref ma, Value.int (nI k), Value.int fit, Value.int fen, Value.int frd, Value.int fbd, Value.int fir])), (ma, Sum.inl (cM, 8, Sum.inr (Sum.inr (Sum.inr (Sum.inr mf))))), (co, Sum.inr (3, [Value.int xshift, Value.long xkeptCodeq_43, Value.long xkeptRangeq_43, Value.int xkeptAskedq_43, Value.int xcache, Value.int xpending, Value.long xlow, Value.long xrange, Value.long xcodeq_43, Value.long xreadLow, Value.long xreadRangeq_43, Value.ref ri, Value.ref ro, Value.ref rw, Value.int xaskedq_43])), (ri, Sum.inr (0, [Value.int rin, Value.ref ria])), (ria, Sum.inl (cI, rik, Sum.inl rif)), (oo, Sum.inr (7, [Value.int osg, Value.int osmq_43, Value.int ofc, Value.ref oca, Value.ref opa])), (oca, Sum.inl (cI, ol, Sum.inl ocfq_43)), (opa, Sum.inl (cI, opl, Sum.inl opf))] H := ⟨hP, hD⟩
      have hP := hPD.1
      have hD := hPD.2
      refine my_ci (wr := [(mo, Sum.inr (8, [Value.ref ka, Value.ref o2, Value.ref oo])), (ka, Sum.inl (cI, kl, Sum.inl kf)), (ma, Sum.inl (cM, 8, Sum.inr (Sum.inr (Sum.inr (Sum.inr mf))))), (co, Sum.inr (3, [Value.int xshift, Value.long xkeptCodeq_43, Value.long xkeptRangeq_43, Value.int xkeptAskedq_43, Value.int xcache, Value.int xpending, Value.long xlow, Value.long xrange, Value.long xcodeq_43, Value.long xreadLow, Value.long xreadRangeq_43, Value.ref ri, Value.ref ro, Value.ref rw, Value.int xaskedq_43])), (ri, Sum.inr (0, [Value.int rin, Value.ref ria])), (ria, Sum.inl (cI, rik, Sum.inl rif)), (oo, Sum.inr (7, [Value.int osg, Value.int osmq_43, Value.int ofc, Value.ref oca, Value.ref opa])), (oca, Sum.inl (cI, ol, Sum.inl ocfq_43)), (opa, Sum.inl (cI, opl, Sum.inl opf))]) (va_runV (As := [Value.int r_43]) (rest := []) ⟨hx, hb, hml, hown, hts⟩ (c_RC_itemOrBad l dC dI cI cM cO H.size rc ma k fit fen frd fbd fir mf co r_43) (cwV 1 hts (my_gV k854 k856 ks17 k1 k857) rfl rfl rfl (by decide +kernel) ⟨by rw [hR]; exact Nat.le_of_ble_eq_true rfl, by rw [hR]; exact Nat.le_of_ble_eq_true rfl⟩) (my_preV hK hN (hP.sub [2] rfl) (hD.sub [2] (by decide +kernel) rfl) 0 rfl rfl) rfl rfl hl.1 rfl (lv_room (Nat.le_of_ble_eq_true rfl)) d_RC_get_46 ⟨by rw [hR]; exact Nat.le_of_ble_eq_true rfl, by rw [hR]; exact Nat.le_of_ble_eq_true rfl⟩) hP hD hS hA [2] [0, 1, 3, 4, 5, 6, 7, 8, 9] rfl rfl (by decide +kernel) (by decide +kernel) (fun r_46 u9 H locs hw_46 hP hD hS => ?_)
      obtain ⟨fbdq_46, firq_46⟩ := u9
      have hPD : my_PD (dC, dI) vwCl A [(mo, Sum.inr (8, [Value.ref ka, Value.ref o2, Value.ref oo])), (ka, Sum.inl (cI, kl, Sum.inl kf)), (ma, Sum.inl (cM, 8, Sum.inr (Sum.inr (Sum.inr (Sum.inr mf))))), (co, Sum.inr (3, [Value.int xshift, Value.long xkeptCodeq_43, Value.long xkeptRangeq_43, Value.int xkeptAskedq_43, Value.int xcache, Value.int xpending, Value.long xlow, Value.long xrange, Value.long xcodeq_43, Value.long xreadLow, Value.long xreadRangeq_43, Value.ref ri, Value.ref ro, Value.ref rw, Value.int xaskedq_43])), (ri, Sum.inr (0, [Value.int rin, Value.ref ria])), (ria, Sum.inl (cI, rik, Sum.inl rif)), (oo, Sum.inr (7, [Value.int osg, Value.int osmq_43, Value.int ofc, Value.ref oca, Value.ref opa])), (oca, Sum.inl (cI, ol, Sum.inl ocfq_43)), (opa, Sum.inl (cI, opl, Sum.inl opf)), (rc, Sum.inr (6, [Value.ref co, Value.ref ma, Value.int (nI k), Value.int fit, Value.int fen, Value.int frd, Value.int fbdq_46, Value.int firq_46]))] H := ⟨hP, hD⟩
      have hP := hPD.1
      have hD := hPD.2
      exact my_iret (v := r_46) hx hb hr (rfl) hlocks hQ hK hS (Nat.le_refl _) (Nat.le_refl _) (fbdq_46, firq_46, xkeptCodeq_43, xkeptRangeq_43, xkeptAskedq_43, xcodeq_43, xreadRangeq_43, xaskedq_43, osmq_43, ocfq_43) (trivial) (hP.sub [9, 2, 3, 4, 5, 0, 1, 6, 7, 8] rfl) (hD.sub [9, 2, 3, 4, 5, 0, 1, 6, 7, 8] (by decide +kernel) rfl) d_RC_get_49
    · refine lv_bipush (v := (-5)) hx hb d_RC_get_29 (by decide) ?_
      refine lv_goto (tgt := 49) hx hb d_RC_get_31 (by decide) ?_
      exact my_iret (v := (-5)) hx hb hr (rfl) hlocks hQ hK hS (Nat.le_refl _) (Nat.le_refl _) (fbd, fir, xkeptCode, xkeptRange, xkeptAsked, xcode, xreadRange, xasked, osm, ocf) (trivial) (hP.sub [8, 9, 0, 1, 2, 3, 4, 5, 6, 7] rfl) (hD.sub [8, 9, 0, 1, 2, 3, 4, 5, 6, 7] (by decide +kernel) rfl) d_RC_get_49
  · refine lv_bipush (v := (-3)) hx hb d_RC_get_19 (by decide) ?_
    exact my_iret (v := (-3)) hx hb hr (rfl) hlocks hQ hK hS (Nat.le_refl _) (Nat.le_refl _) (fbd, fir, xkeptCode, xkeptRange, xkeptAsked, xcode, xreadRange, xasked, osm, ocf) (trivial) (hP.sub [8, 9, 0, 1, 2, 3, 4, 5, 6, 7] rfl) (hD.sub [8, 9, 0, 1, 2, 3, 4, 5, 6, 7] (by decide +kernel) rfl) d_RC_get_21
set_option maxHeartbeats 2000000 in
set_option maxRecDepth 100000 in
theorem c_RC_getBits_Bits (l : Launch) (dC : Nat → ClassId) (dI : Nat → Nat → Nat) (cI cM cO : ClassId) (sz : Nat) (rc : Nat) (ma : Nat) (k : Nat) (fit : Int32) (fen : Int32) (frd : Int32) (fbd : Int32) (fir : Int32) (mf : Nat → Option Nat) (co : Nat) (xshift : Int32) (xkeptCode : Int64) (xkeptRange : Int64) (xkeptAsked : Int32) (xcache : Int32) (xpending : Int32) (xlow : Int64) (xrange : Int64) (xcode : Int64) (xreadLow : Int64) (xreadRange : Int64) (ri : Nat) (ro : Nat) (rw : Nat) (xasked : Int32) (rin : Int32) (ria : Nat) (rik : Nat) (rif : Nat → Int32) (wd : Int32) (hk8 : k ≤ 8) (hri : rOk rin rik) : MetI l y_RC_getBits (Cond.code y_RC_getBits prog_1_method_14_code 2 (some .int) :: gw) ({ frames := 5, cells := 0, slots := 0, locals := 108 } : Room) (dC, dI) vwCl (kT cI cM cO) [Value.ref rc, Value.int wd] [(rc, Sum.inr (6, [Value.ref co, Value.ref ma, Value.int (nI k), Value.int fit, Value.int fen, Value.int frd, Value.int fbd, Value.int fir])), (ma, Sum.inl (cM, 8, Sum.inr (Sum.inr (Sum.inr (Sum.inr mf))))), (co, Sum.inr (3, [Value.int xshift, Value.long xkeptCode, Value.long xkeptRange, Value.int xkeptAsked, Value.int xcache, Value.int xpending, Value.long xlow, Value.long xrange, Value.long xcode, Value.long xreadLow, Value.long xreadRange, Value.ref ri, Value.ref ro, Value.ref rw, Value.int xasked])), (ri, Sum.inr (0, [Value.int rin, Value.ref ria])), (ria, Sum.inl (cI, rik, Sum.inl rif))] sz (fun (r : Int32) (u : Int32 × Int32 × Int64 × Int64 × Int32 × Int64 × Int64 × Int32) => True) (fun (u : Int32 × Int32 × Int64 × Int64 × Int32 × Int64 × Int64 × Int32) => [(rc, Sum.inr (6, [Value.ref co, Value.ref ma, Value.int (nI k), Value.int fit, Value.int fen, Value.int frd, Value.int u.1, Value.int u.2.1])), (ma, Sum.inl (cM, 8, Sum.inr (Sum.inr (Sum.inr (Sum.inr mf))))), (co, Sum.inr (3, [Value.int xshift, Value.long u.2.2.1, Value.long u.2.2.2.1, Value.int u.2.2.2.2.1, Value.int xcache, Value.int xpending, Value.long xlow, Value.long xrange, Value.long u.2.2.2.2.2.1, Value.long xreadLow, Value.long u.2.2.2.2.2.2.1, Value.ref ri, Value.ref ro, Value.ref rw, Value.int u.2.2.2.2.2.2.2])), (ri, Sum.inr (0, [Value.int rin, Value.ref ria])), (ria, Sum.inl (cI, rik, Sum.inl rif))]) 0 0 := by
  refine my_ofI (cc := prog_1_method_14_code) (n := 2) (ret := (some .int)) (by decide) rfl (Nat.le_of_ble_eq_true rfl) ?_
  intro p e s m args below meth c R Q A ls H locs hx hb hr hts hown hlocks hml hnm hR hQ hA hl hP hK hN hD hS
  have hg : ∀ w ∈ gw, w.before args s = true := fun w h => hts w (List.mem_cons_of_mem _ h)
  have hown : s.vm.findClass "RangeCoders" = some m.cls := hown
  have hl : lv_has ls 2 [(0, Value.ref rc), (1, Value.int wd)] := hl
  have hlt_hri := rOk_lt hri
  refine lv_aload_n hx hb d_RC_getBits_0 rfl (lv_at hl 0 rfl) ?_
  refine va_get (D := (dC, dI)) (ci := 6) (v := .ref co) (C := "RangeCoders") (T := T_RC) (N := 8) hx hb hg in_RC hown hK hP 0 rfl rfl 0 (by decide) (hg _ k258) (fun _ h9 => h9) rfl d_RC_getBits_1 ?_
  refine lv_iload_n hx hb d_RC_getBits_4 rfl (lv_at hl 1 rfl) ?_
  refine my_ci (wr := [(rc, Sum.inr (6, [Value.ref co, Value.ref ma, Value.int (nI k), Value.int fit, Value.int fen, Value.int frd, Value.int fbd, Value.int fir])), (ma, Sum.inl (cM, 8, Sum.inr (Sum.inr (Sum.inr (Sum.inr mf))))), (ri, Sum.inr (0, [Value.int rin, Value.ref ria])), (ria, Sum.inl (cI, rik, Sum.inl rif))]) (va_runU (As := [Value.int wd]) (rest := []) ⟨hx, hb, hml, hown, hts⟩ (c_Bits_Coder_hasWidth l dC dI cI cM cO H.size co xshift xkeptCode xkeptRange xkeptAsked xcache xpending xlow xrange xcode xreadLow xreadRange ri ro rw xasked wd) (va_cwU 1 hts (my_gU k543 k545 k546 k544 k3 k553) rfl rfl rfl rfl (by decide +kernel) ⟨by rw [hR]; exact Nat.le_of_ble_eq_true rfl, by rw [hR]; exact Nat.le_of_ble_eq_true rfl⟩) (my_preV hK hN (hP.sub [2] rfl) (hD.sub [2] (by decide +kernel) rfl) 0 rfl rfl) rfl rfl hl.1 rfl (lv_room (Nat.le_of_ble_eq_true rfl)) d_RC_getBits_5 ⟨by rw [hR]; exact Nat.le_of_ble_eq_true rfl, by rw [hR]; exact Nat.le_of_ble_eq_true rfl⟩) hP hD hS hA [2] [0, 1, 3, 4] rfl rfl (by decide +kernel) (by decide +kernel) (fun r_5 u9 H locs hw_5 hP hD hS => ?_)
  have hPD : my_PD (dC, dI) vwCl A [(rc, Sum.inr (6, [Value.ref co, Value.ref ma, Value.int (nI k), Value.int fit, Value.int fen, Value.int frd, Value.int fbd, Value.int fir])), (ma, Sum.inl (cM, 8, Sum.inr (Sum.inr (Sum.inr (Sum.inr mf))))), (ri, Sum.inr (0, [Value.int rin, Value.ref ria])), (ria, Sum.inl (cI, rik, Sum.inl rif)), (co, Sum.inr (3, [Value.int xshift, Value.long xkeptCode, Value.long xkeptRange, Value.int xkeptAsked, Value.int xcache, Value.int xpending, Value.long xlow, Value.long xrange, Value.long xcode, Value.long xreadLow, Value.long xreadRange, Value.ref ri, Value.ref ro, Value.ref rw, Value.int xasked]))] H := ⟨hP, hD⟩
  have hP := hPD.1
  have hD := hPD.2
  refine lv_if_ne (tgt := 14) hx hb d_RC_getBits_8 (by decide) (fun c_1 => ?_) (fun c_1 => ?_)
  · refine lv_aload_n hx hb d_RC_getBits_14 rfl (lv_at hl 0 rfl) ?_
    refine va_get (D := (dC, dI)) (ci := 6) (v := .int frd) (C := "RangeCoders") (T := T_RC) (N := 8) hx hb hg in_RC hown hK hP 0 rfl rfl 5 (by decide) (hg _ k263) (fun _ h9 => h9) rfl d_RC_getBits_15 ?_
    refine lv_if_ne (tgt := 24) hx hb d_RC_getBits_18 (by decide) (fun c_2 => ?_) (fun c_2 => ?_)
    · refine lv_aload_n hx hb d_RC_getBits_24 rfl (lv_at hl 0 rfl) ?_
      refine va_get (D := (dC, dI)) (ci := 6) (v := .int fbd) (C := "RangeCoders") (T := T_RC) (N := 8) hx hb hg in_RC hown hK hP 0 rfl rfl 6 (by decide) (hg _ k264) (fun _ h9 => h9) rfl d_RC_getBits_25 ?_
      refine lv_if_eq (tgt := 36) hx hb d_RC_getBits_28 (by decide) (fun c_3 => ?_) (fun c_3 => ?_)
      · refine lv_aload_n hx hb d_RC_getBits_36 rfl (lv_at hl 0 rfl) ?_
        refine lv_aload_n hx hb d_RC_getBits_37 rfl (lv_at hl 0 rfl) ?_
        refine va_get (D := (dC, dI)) (ci := 6) (v := .ref co) (C := "RangeCoders") (T := T_RC) (N := 8) hx hb hg in_RC hown hK hP 0 rfl rfl 0 (by decide) (hg _ k258) (fun _ h9 => h9) rfl d_RC_getBits_38 ?_
        refine lv_iload_n hx hb d_RC_getBits_41 rfl (lv_at hl 1 rfl) ?_
        refine my_ci (wr := [(rc, Sum.inr (6, [Value.ref co, Value.ref ma, Value.int (nI k), Value.int fit, Value.int fen, Value.int frd, Value.int fbd, Value.int fir])), (ma, Sum.inl (cM, 8, Sum.inr (Sum.inr (Sum.inr (Sum.inr mf)))))]) (va_runU (As := [Value.int wd]) (rest := [Value.ref rc]) ⟨hx, hb, hml, hown, hts⟩ (c_Bits_Bits_nextValue l dC dI cI cM cO H.size co xshift xkeptCode xkeptRange xkeptAsked xcache xpending xlow xrange xcode xreadLow xreadRange ri ro rw xasked rin ria rik rif wd (by first | assumption | omega)) (va_cwA 1 hts (my_gU k862 k864 k865 k866 k8 k867) rfl rfl rfl (hN.1 _ j863 rfl) (by decide +kernel) ⟨by rw [hR]; exact Nat.le_of_ble_eq_true rfl, by rw [hR]; exact Nat.le_of_ble_eq_true rfl⟩) (my_preV hK hN (hP.sub [4, 2, 3] rfl) (hD.sub [4, 2, 3] (by decide +kernel) rfl) 0 rfl rfl) rfl rfl hl.1 rfl (lv_room (Nat.le_of_ble_eq_true rfl)) d_RC_getBits_42 ⟨by rw [hR]; exact Nat.le_of_ble_eq_true rfl, by rw [hR]; exact Nat.le_of_ble_eq_true rfl⟩) hP hD hS hA [4, 2, 3] [0, 1] rfl rfl (by decide +kernel) (by decide +kernel) (fun r_42 u9 H locs hw_42 hP hD hS => ?_)
        obtain ⟨xkeptCodeq_42, xkeptRangeq_42, xkeptAskedq_42, xcodeq_42, xreadRangeq_42, xaskedq_42⟩ := u9
        have hPD : my_PD (dC, dI) vwCl A [(rc, Sum.inr (6, [Value.ref co, Value.ref ma, Value.int (nI k), Value.int fit, Value.int fen, Value.int frd, Value.int fbd, Value.int fir])), (ma, Sum.inl (cM, 8, Sum.inr (Sum.inr (Sum.inr (Sum.inr mf))))), (co, Sum.inr (3, [Value.int xshift, Value.long xkeptCodeq_42, Value.long xkeptRangeq_42, Value.int xkeptAskedq_42, Value.int xcache, Value.int xpending, Value.long xlow, Value.long xrange, Value.long xcodeq_42, Value.long xreadLow, Value.long xreadRangeq_42, Value.ref ri, Value.ref ro, Value.ref rw, Value.int xaskedq_42])), (ri, Sum.inr (0, [Value.int rin, Value.ref ria])), (ria, Sum.inl (cI, rik, Sum.inl rif))] H := ⟨hP, hD⟩
        have hP := hPD.1
        have hD := hPD.2
        refine my_ci (wr := [(ma, Sum.inl (cM, 8, Sum.inr (Sum.inr (Sum.inr (Sum.inr mf))))), (co, Sum.inr (3, [Value.int xshift, Value.long xkeptCodeq_42, Value.long xkeptRangeq_42, Value.int xkeptAskedq_42, Value.int xcache, Value.int xpending, Value.long xlow, Value.long xrange, Value.long xcodeq_42, Value.long xreadLow, Value.long xreadRangeq_42, Value.ref ri, Value.ref ro, Value.ref rw, Value.int xaskedq_42])), (ri, Sum.inr (0, [Value.int rin, Value.ref ria])), (ria, Sum.inl (cI, rik, Sum.inl rif))]) (va_runV (As := [Value.int r_42]) (rest := []) ⟨hx, hb, hml, hown, hts⟩ (c_RC_itemOrBad l dC dI cI cM cO H.size rc ma k fit fen frd fbd fir mf co r_42) (cwV 1 hts (my_gV k854 k856 ks17 k1 k857) rfl rfl rfl (by decide +kernel) ⟨by rw [hR]; exact Nat.le_of_ble_eq_true rfl, by rw [hR]; exact Nat.le_of_ble_eq_true rfl⟩) (my_preV hK hN (hP.sub [0] rfl) (hD.sub [0] (by decide +kernel) rfl) 0 rfl rfl) rfl rfl hl.1 rfl (lv_room (Nat.le_of_ble_eq_true rfl)) d_RC_getBits_45 ⟨by rw [hR]; exact Nat.le_of_ble_eq_true rfl, by rw [hR]; exact Nat.le_of_ble_eq_true rfl⟩) hP hD hS hA [0] [1, 2, 3, 4] rfl rfl (by decide +kernel) (by decide +kernel) (fun r_45 u9 H locs hw_45 hP hD hS => ?_)
        obtain ⟨fbdq_45, firq_45⟩ := u9
        have hPD : my_PD (dC, dI) vwCl A [(ma, Sum.inl (cM, 8, Sum.inr (Sum.inr (Sum.inr (Sum.inr mf))))), (co, Sum.inr (3, [Value.int xshift, Value.long xkeptCodeq_42, Value.long xkeptRangeq_42, Value.int xkeptAskedq_42, Value.int xcache, Value.int xpending, Value.long xlow, Value.long xrange, Value.long xcodeq_42, Value.long xreadLow, Value.long xreadRangeq_42, Value.ref ri, Value.ref ro, Value.ref rw, Value.int xaskedq_42])), (ri, Sum.inr (0, [Value.int rin, Value.ref ria])), (ria, Sum.inl (cI, rik, Sum.inl rif)), (rc, Sum.inr (6, [Value.ref co, Value.ref ma, Value.int (nI k), Value.int fit, Value.int fen, Value.int frd, Value.int fbdq_45, Value.int firq_45]))] H := ⟨hP, hD⟩
        have hP := hPD.1
        have hD := hPD.2
        exact my_iret (v := r_45) hx hb hr (rfl) hlocks hQ hK hS (Nat.le_refl _) (Nat.le_refl _) (fbdq_45, firq_45, xkeptCodeq_42, xkeptRangeq_42, xkeptAskedq_42, xcodeq_42, xreadRangeq_42, xaskedq_42) (trivial) (hP.sub [4, 0, 1, 2, 3] rfl) (hD.sub [4, 0, 1, 2, 3] (by decide +kernel) rfl) d_RC_getBits_48
      · refine lv_bipush (v := (-5)) hx hb d_RC_getBits_31 (by decide) ?_
        refine lv_goto (tgt := 48) hx hb d_RC_getBits_33 (by decide) ?_
        exact my_iret (v := (-5)) hx hb hr (rfl) hlocks hQ hK hS (Nat.le_refl _) (Nat.le_refl _) (fbd, fir, xkeptCode, xkeptRange, xkeptAsked, xcode, xreadRange, xasked) (trivial) (hP.sub [0, 1, 4, 2, 3] rfl) (hD.sub [0, 1, 4, 2, 3] (by decide +kernel) rfl) d_RC_getBits_48
    · refine lv_bipush (v := (-3)) hx hb d_RC_getBits_21 (by decide) ?_
      exact my_iret (v := (-3)) hx hb hr (rfl) hlocks hQ hK hS (Nat.le_refl _) (Nat.le_refl _) (fbd, fir, xkeptCode, xkeptRange, xkeptAsked, xcode, xreadRange, xasked) (trivial) (hP.sub [0, 1, 4, 2, 3] rfl) (hD.sub [0, 1, 4, 2, 3] (by decide +kernel) rfl) d_RC_getBits_23
  · refine lv_bipush (v := (-2)) hx hb d_RC_getBits_11 (by decide) ?_
    exact my_iret (v := (-2)) hx hb hr (rfl) hlocks hQ hK hS (Nat.le_refl _) (Nat.le_refl _) (fbd, fir, xkeptCode, xkeptRange, xkeptAsked, xcode, xreadRange, xasked) (trivial) (hP.sub [0, 1, 4, 2, 3] rfl) (hD.sub [0, 1, 4, 2, 3] (by decide +kernel) rfl) d_RC_getBits_13
set_option maxHeartbeats 2000000 in
set_option maxRecDepth 100000 in
theorem c_RC_told_Bits (l : Launch) (dC : Nat → ClassId) (dI : Nat → Nat → Nat) (cI cM cO : ClassId) (sz : Nat) (rc : Nat) (ma : Nat) (k : Nat) (fit : Int32) (fen : Int32) (frd : Int32) (fbd : Int32) (fir : Int32) (mf : Nat → Option Nat) (co : Nat) (xshift : Int32) (xkeptCode : Int64) (xkeptRange : Int64) (xkeptAsked : Int32) (xcache : Int32) (xpending : Int32) (xlow : Int64) (xrange : Int64) (xcode : Int64) (xreadLow : Int64) (xreadRange : Int64) (ri : Nat) (ro : Nat) (rw : Nat) (xasked : Int32) (rin : Int32) (ria : Nat) (rik : Nat) (rif : Nat → Int32) (ron : Int32) (roa : Nat) (rok : Nat) (rof : Nat → Int32) (wh : Int32) (hk8 : k ≤ 8) (hri : rOk rin rik) (hro : rOk ron rok) : MetI l y_RC_told (Cond.code y_RC_told prog_1_method_15_code 2 (some .int) :: gw) ({ frames := 1, cells := 0, slots := 0, locals := 20 } : Room) (dC, dI) vwCl (kT cI cM cO) [Value.ref rc, Value.int wh] [(rc, Sum.inr (6, [Value.ref co, Value.ref ma, Value.int (nI k), Value.int fit, Value.int fen, Value.int frd, Value.int fbd, Value.int fir])), (ma, Sum.inl (cM, 8, Sum.inr (Sum.inr (Sum.inr (Sum.inr mf))))), (co, Sum.inr (3, [Value.int xshift, Value.long xkeptCode, Value.long xkeptRange, Value.int xkeptAsked, Value.int xcache, Value.int xpending, Value.long xlow, Value.long xrange, Value.long xcode, Value.long xreadLow, Value.long xreadRange, Value.ref ri, Value.ref ro, Value.ref rw, Value.int xasked])), (ri, Sum.inr (0, [Value.int rin, Value.ref ria])), (ria, Sum.inl (cI, rik, Sum.inl rif)), (ro, Sum.inr (0, [Value.int ron, Value.ref roa])), (roa, Sum.inl (cI, rok, Sum.inl rof))] sz (fun (r : Int32) (u : Unit) => True) (fun (u : Unit) => [(rc, Sum.inr (6, [Value.ref co, Value.ref ma, Value.int (nI k), Value.int fit, Value.int fen, Value.int frd, Value.int fbd, Value.int fir])), (ma, Sum.inl (cM, 8, Sum.inr (Sum.inr (Sum.inr (Sum.inr mf))))), (co, Sum.inr (3, [Value.int xshift, Value.long xkeptCode, Value.long xkeptRange, Value.int xkeptAsked, Value.int xcache, Value.int xpending, Value.long xlow, Value.long xrange, Value.long xcode, Value.long xreadLow, Value.long xreadRange, Value.ref ri, Value.ref ro, Value.ref rw, Value.int xasked])), (ri, Sum.inr (0, [Value.int rin, Value.ref ria])), (ria, Sum.inl (cI, rik, Sum.inl rif)), (ro, Sum.inr (0, [Value.int ron, Value.ref roa])), (roa, Sum.inl (cI, rok, Sum.inl rof))]) 0 0 := by
  refine my_ofI (cc := prog_1_method_15_code) (n := 2) (ret := (some .int)) (by decide) rfl (Nat.le_of_ble_eq_true rfl) ?_
  intro p e s m args below meth c R Q A ls H locs hx hb hr hts hown hlocks hml hnm hR hQ hA hl hP hK hN hD hS
  have hg : ∀ w ∈ gw, w.before args s = true := fun w h => hts w (List.mem_cons_of_mem _ h)
  have hown : s.vm.findClass "RangeCoders" = some m.cls := hown
  have hl : lv_has ls 2 [(0, Value.ref rc), (1, Value.int wh)] := hl
  have hlt_hri := rOk_lt hri
  have hlt_hro := rOk_lt hro
  refine lv_iload_n hx hb d_RC_told_0 rfl (lv_at hl 1 rfl) ?_
  refine lv_if_lt (tgt := 10) hx hb d_RC_told_1 (by decide) (fun c_1 => ?_) (fun c_1 => ?_)
  · refine lv_bipush (v := (-2)) hx hb d_RC_told_10 (by decide) ?_
    exact my_iret (v := (-2)) hx hb hr (rfl) hlocks hQ hK hS (Nat.le_refl _) (Nat.le_refl _) () (trivial) (hP.sub [0, 1, 2, 3, 4, 5, 6] rfl) (hD.sub [0, 1, 2, 3, 4, 5, 6] (by decide +kernel) rfl) d_RC_told_12
  · refine lv_iload_n hx hb d_RC_told_4 rfl (lv_at hl 1 rfl) ?_
    refine lv_bipush (v := 7) hx hb d_RC_told_5 (by decide) ?_
    refine lv_icmp_le (tgt := 13) hx hb d_RC_told_7 (by decide) (fun c_2 => ?_) (fun c_2 => ?_)
    · refine lv_iload_n hx hb d_RC_told_13 rfl (lv_at hl 1 rfl) ?_
      by_cases c_3 : wh = 0
      · refine lv_tableIn (tgt := 56) hx hb d_RC_told_14 (by rw [c_3]; decide) (by rw [c_3]; decide) (by rw [c_3]; rfl) (by decide) ?_
        refine lv_aload_n hx hb d_RC_told_56 rfl (lv_at hl 0 rfl) ?_
        refine va_get (D := (dC, dI)) (ci := 6) (v := .int fit) (C := "RangeCoders") (T := T_RC) (N := 8) hx hb hg in_RC hown hK hP 0 rfl rfl 3 (by decide) (hg _ k261) (fun _ h9 => h9) rfl d_RC_told_57 ?_
        exact my_iret (v := fit) hx hb hr (rfl) hlocks hQ hK hS (Nat.le_refl _) (Nat.le_refl _) () (trivial) (hP.sub [0, 1, 2, 3, 4, 5, 6] rfl) (hD.sub [0, 1, 2, 3, 4, 5, 6] (by decide +kernel) rfl) d_RC_told_60
      by_cases c_4 : wh = 1
      · refine lv_tableIn (tgt := 61) hx hb d_RC_told_14 (by rw [c_4]; decide) (by rw [c_4]; decide) (by rw [c_4]; rfl) (by decide) ?_
        refine lv_aload_n hx hb d_RC_told_61 rfl (lv_at hl 0 rfl) ?_
        refine va_get (D := (dC, dI)) (ci := 6) (v := .int fen) (C := "RangeCoders") (T := T_RC) (N := 8) hx hb hg in_RC hown hK hP 0 rfl rfl 4 (by decide) (hg _ k262) (fun _ h9 => h9) rfl d_RC_told_62 ?_
        refine lv_if_eq (tgt := 72) hx hb d_RC_told_65 (by decide) (fun c_5 => ?_) (fun c_5 => ?_)
        · refine lv_iconst (v := 0) hx hb d_RC_told_72 (by decide) ?_
          exact my_iret (v := 0) hx hb hr (rfl) hlocks hQ hK hS (Nat.le_refl _) (Nat.le_refl _) () (trivial) (hP.sub [0, 1, 2, 3, 4, 5, 6] rfl) (hD.sub [0, 1, 2, 3, 4, 5, 6] (by decide +kernel) rfl) d_RC_told_73
        · refine lv_iconst (v := 1) hx hb d_RC_told_68 (by decide) ?_
          refine lv_goto (tgt := 73) hx hb d_RC_told_69 (by decide) ?_
          exact my_iret (v := 1) hx hb hr (rfl) hlocks hQ hK hS (Nat.le_refl _) (Nat.le_refl _) () (trivial) (hP.sub [0, 1, 2, 3, 4, 5, 6] rfl) (hD.sub [0, 1, 2, 3, 4, 5, 6] (by decide +kernel) rfl) d_RC_told_73
      by_cases c_6 : wh = 2
      · refine lv_tableIn (tgt := 74) hx hb d_RC_told_14 (by rw [c_6]; decide) (by rw [c_6]; decide) (by rw [c_6]; rfl) (by decide) ?_
        refine lv_aload_n hx hb d_RC_told_74 rfl (lv_at hl 0 rfl) ?_
        refine va_get (D := (dC, dI)) (ci := 6) (v := .ref co) (C := "RangeCoders") (T := T_RC) (N := 8) hx hb hg in_RC hown hK hP 0 rfl rfl 0 (by decide) (hg _ k258) (fun _ h9 => h9) rfl d_RC_told_75 ?_
        refine va_get (D := (dC, dI)) (ci := 3) (v := .ref ro) (C := "RangeCoders$Bits") (T := T_Bits) (N := 15) hx hb hg in_Bits hown hK hP 2 rfl rfl 12 (by decide) (hg _ k108) (fun _ h9 => h9) rfl d_RC_told_78 ?_
        refine va_get (D := (dC, dI)) (ci := 0) (v := .int ron) (C := "RangeCoders$Row") (T := T_Row) (N := 2) hx hb hg in_Row hown hK hP 5 rfl rfl 0 (by decide) (hg _ k58) (fun _ h9 => h9) rfl d_RC_told_81 ?_
        exact my_iret (v := ron) hx hb hr (rfl) hlocks hQ hK hS (Nat.le_refl _) (Nat.le_refl _) () (trivial) (hP.sub [0, 1, 2, 3, 4, 5, 6] rfl) (hD.sub [0, 1, 2, 3, 4, 5, 6] (by decide +kernel) rfl) d_RC_told_84
      by_cases c_7 : wh = 3
      · refine lv_tableIn (tgt := 85) hx hb d_RC_told_14 (by rw [c_7]; decide) (by rw [c_7]; decide) (by rw [c_7]; rfl) (by decide) ?_
        refine lv_aload_n hx hb d_RC_told_85 rfl (lv_at hl 0 rfl) ?_
        refine va_get (D := (dC, dI)) (ci := 6) (v := .ref co) (C := "RangeCoders") (T := T_RC) (N := 8) hx hb hg in_RC hown hK hP 0 rfl rfl 0 (by decide) (hg _ k258) (fun _ h9 => h9) rfl d_RC_told_86 ?_
        refine va_get (D := (dC, dI)) (ci := 3) (v := .ref ri) (C := "RangeCoders$Bits") (T := T_Bits) (N := 15) hx hb hg in_Bits hown hK hP 2 rfl rfl 11 (by decide) (hg _ k102) (fun _ h9 => h9) rfl d_RC_told_89 ?_
        refine va_get (D := (dC, dI)) (ci := 0) (v := .int rin) (C := "RangeCoders$Row") (T := T_Row) (N := 2) hx hb hg in_Row hown hK hP 3 rfl rfl 0 (by decide) (hg _ k58) (fun _ h9 => h9) rfl d_RC_told_92 ?_
        exact my_iret (v := rin) hx hb hr (rfl) hlocks hQ hK hS (Nat.le_refl _) (Nat.le_refl _) () (trivial) (hP.sub [0, 1, 2, 3, 4, 5, 6] rfl) (hD.sub [0, 1, 2, 3, 4, 5, 6] (by decide +kernel) rfl) d_RC_told_95
      by_cases c_8 : wh = 4
      · refine lv_tableIn (tgt := 96) hx hb d_RC_told_14 (by rw [c_8]; decide) (by rw [c_8]; decide) (by rw [c_8]; rfl) (by decide) ?_
        refine lv_aload_n hx hb d_RC_told_96 rfl (lv_at hl 0 rfl) ?_
        refine va_get (D := (dC, dI)) (ci := 6) (v := .int fir) (C := "RangeCoders") (T := T_RC) (N := 8) hx hb hg in_RC hown hK hP 0 rfl rfl 7 (by decide) (hg _ k265) (fun _ h9 => h9) rfl d_RC_told_97 ?_
        exact my_iret (v := fir) hx hb hr (rfl) hlocks hQ hK hS (Nat.le_refl _) (Nat.le_refl _) () (trivial) (hP.sub [0, 1, 2, 3, 4, 5, 6] rfl) (hD.sub [0, 1, 2, 3, 4, 5, 6] (by decide +kernel) rfl) d_RC_told_100
      by_cases c_9 : wh = 5
      · refine lv_tableIn (tgt := 101) hx hb d_RC_told_14 (by rw [c_9]; decide) (by rw [c_9]; decide) (by rw [c_9]; rfl) (by decide) ?_
        refine lv_aload_n hx hb d_RC_told_101 rfl (lv_at hl 0 rfl) ?_
        refine va_get (D := (dC, dI)) (ci := 6) (v := .int frd) (C := "RangeCoders") (T := T_RC) (N := 8) hx hb hg in_RC hown hK hP 0 rfl rfl 5 (by decide) (hg _ k263) (fun _ h9 => h9) rfl d_RC_told_102 ?_
        refine lv_if_eq (tgt := 118) hx hb d_RC_told_105 (by decide) (fun c_10 => ?_) (fun c_10 => ?_)
        · refine lv_iconst (v := 0) hx hb d_RC_told_118 (by decide) ?_
          exact my_iret (v := 0) hx hb hr (rfl) hlocks hQ hK hS (Nat.le_refl _) (Nat.le_refl _) () (trivial) (hP.sub [0, 1, 2, 3, 4, 5, 6] rfl) (hD.sub [0, 1, 2, 3, 4, 5, 6] (by decide +kernel) rfl) d_RC_told_119
        · refine lv_aload_n hx hb d_RC_told_108 rfl (lv_at hl 0 rfl) ?_
          refine va_get (D := (dC, dI)) (ci := 6) (v := .ref co) (C := "RangeCoders") (T := T_RC) (N := 8) hx hb hg in_RC hown hK hP 0 rfl rfl 0 (by decide) (hg _ k258) (fun _ h9 => h9) rfl d_RC_told_109 ?_
          refine my_ci (wr := [(rc, Sum.inr (6, [Value.ref co, Value.ref ma, Value.int (nI k), Value.int fit, Value.int fen, Value.int frd, Value.int fbd, Value.int fir])), (ma, Sum.inl (cM, 8, Sum.inr (Sum.inr (Sum.inr (Sum.inr mf))))), (ri, Sum.inr (0, [Value.int rin, Value.ref ria])), (ria, Sum.inl (cI, rik, Sum.inl rif)), (ro, Sum.inr (0, [Value.int ron, Value.ref roa])), (roa, Sum.inl (cI, rok, Sum.inl rof))]) (va_runU (As := []) (rest := []) ⟨hx, hb, hml, hown, hts⟩ (c_Bits_Coder_bytesAsked l dC dI cI cM cO H.size co xshift xkeptCode xkeptRange xkeptAsked xcache xpending xlow xrange xcode xreadLow xreadRange ri ro rw xasked) (va_cwU 0 hts (my_gU k880 k882 k883 k881 k3 k890) rfl rfl rfl rfl (by decide +kernel) ⟨by rw [hR]; exact Nat.le_of_ble_eq_true rfl, by rw [hR]; exact Nat.le_of_ble_eq_true rfl⟩) (my_preV hK hN (hP.sub [2] rfl) (hD.sub [2] (by decide +kernel) rfl) 0 rfl rfl) rfl rfl hl.1 rfl (lv_room (Nat.le_of_ble_eq_true rfl)) d_RC_told_112 ⟨by rw [hR]; exact Nat.le_of_ble_eq_true rfl, by rw [hR]; exact Nat.le_of_ble_eq_true rfl⟩) hP hD hS hA [2] [0, 1, 3, 4, 5, 6] rfl rfl (by decide +kernel) (by decide +kernel) (fun r_112 u9 H locs hw_112 hP hD hS => ?_)
          have hPD : my_PD (dC, dI) vwCl A [(rc, Sum.inr (6, [Value.ref co, Value.ref ma, Value.int (nI k), Value.int fit, Value.int fen, Value.int frd, Value.int fbd, Value.int fir])), (ma, Sum.inl (cM, 8, Sum.inr (Sum.inr (Sum.inr (Sum.inr mf))))), (ri, Sum.inr (0, [Value.int rin, Value.ref ria])), (ria, Sum.inl (cI, rik, Sum.inl rif)), (ro, Sum.inr (0, [Value.int ron, Value.ref roa])), (roa, Sum.inl (cI, rok, Sum.inl rof)), (co, Sum.inr (3, [Value.int xshift, Value.long xkeptCode, Value.long xkeptRange, Value.int xkeptAsked, Value.int xcache, Value.int xpending, Value.long xlow, Value.long xrange, Value.long xcode, Value.long xreadLow, Value.long xreadRange, Value.ref ri, Value.ref ro, Value.ref rw, Value.int xasked]))] H := ⟨hP, hD⟩
          have hP := hPD.1
          have hD := hPD.2
          refine lv_goto (tgt := 119) hx hb d_RC_told_115 (by decide) ?_
          exact my_iret (v := r_112) hx hb hr (rfl) hlocks hQ hK hS (Nat.le_refl _) (Nat.le_refl _) () (trivial) (hP.sub [0, 1, 6, 2, 3, 4, 5] rfl) (hD.sub [0, 1, 6, 2, 3, 4, 5] (by decide +kernel) rfl) d_RC_told_119
      by_cases c_11 : wh = 6
      · refine lv_tableIn (tgt := 120) hx hb d_RC_told_14 (by rw [c_11]; decide) (by rw [c_11]; decide) (by rw [c_11]; rfl) (by decide) ?_
        refine lv_aload_n hx hb d_RC_told_120 rfl (lv_at hl 0 rfl) ?_
        refine va_get (D := (dC, dI)) (ci := 6) (v := .int fbd) (C := "RangeCoders") (T := T_RC) (N := 8) hx hb hg in_RC hown hK hP 0 rfl rfl 6 (by decide) (hg _ k264) (fun _ h9 => h9) rfl d_RC_told_121 ?_
        refine lv_if_eq (tgt := 131) hx hb d_RC_told_124 (by decide) (fun c_12 => ?_) (fun c_12 => ?_)
        · refine lv_iconst (v := 0) hx hb d_RC_told_131 (by decide) ?_
          exact my_iret (v := 0) hx hb hr (rfl) hlocks hQ hK hS (Nat.le_refl _) (Nat.le_refl _) () (trivial) (hP.sub [0, 1, 2, 3, 4, 5, 6] rfl) (hD.sub [0, 1, 2, 3, 4, 5, 6] (by decide +kernel) rfl) d_RC_told_132
        · refine lv_iconst (v := 1) hx hb d_RC_told_127 (by decide) ?_
          refine lv_goto (tgt := 132) hx hb d_RC_told_128 (by decide) ?_
          exact my_iret (v := 1) hx hb hr (rfl) hlocks hQ hK hS (Nat.le_refl _) (Nat.le_refl _) () (trivial) (hP.sub [0, 1, 2, 3, 4, 5, 6] rfl) (hD.sub [0, 1, 2, 3, 4, 5, 6] (by decide +kernel) rfl) d_RC_told_132
      refine lv_tableOut (tgt := 133) hx hb d_RC_told_14 (by have ac_3 : wh.toInt ≠ 0 := fun z => c_3 (Int32.toInt_inj.mp z); have ac_4 : wh.toInt ≠ 1 := fun z => c_4 (Int32.toInt_inj.mp z); have ac_6 : wh.toInt ≠ 2 := fun z => c_6 (Int32.toInt_inj.mp z); have ac_7 : wh.toInt ≠ 3 := fun z => c_7 (Int32.toInt_inj.mp z); have ac_8 : wh.toInt ≠ 4 := fun z => c_8 (Int32.toInt_inj.mp z); have ac_9 : wh.toInt ≠ 5 := fun z => c_9 (Int32.toInt_inj.mp z); have ac_11 : wh.toInt ≠ 6 := fun z => c_11 (Int32.toInt_inj.mp z); omega) (by decide) ?_
      refine lv_aload_n hx hb d_RC_told_133 rfl (lv_at hl 0 rfl) ?_
      refine va_get (D := (dC, dI)) (ci := 6) (v := .int frd) (C := "RangeCoders") (T := T_RC) (N := 8) hx hb hg in_RC hown hK hP 0 rfl rfl 5 (by decide) (hg _ k263) (fun _ h9 => h9) rfl d_RC_told_134 ?_
      refine lv_if_eq (tgt := 144) hx hb d_RC_told_137 (by decide) (fun c_13 => ?_) (fun c_13 => ?_)
      · refine lv_iconst (v := 0) hx hb d_RC_told_144 (by decide) ?_
        exact my_iret (v := 0) hx hb hr (rfl) hlocks hQ hK hS (Nat.le_refl _) (Nat.le_refl _) () (trivial) (hP.sub [0, 1, 2, 3, 4, 5, 6] rfl) (hD.sub [0, 1, 2, 3, 4, 5, 6] (by decide +kernel) rfl) d_RC_told_145
      · refine lv_iconst (v := 1) hx hb d_RC_told_140 (by decide) ?_
        refine lv_goto (tgt := 145) hx hb d_RC_told_141 (by decide) ?_
        exact my_iret (v := 1) hx hb hr (rfl) hlocks hQ hK hS (Nat.le_refl _) (Nat.le_refl _) () (trivial) (hP.sub [0, 1, 2, 3, 4, 5, 6] rfl) (hD.sub [0, 1, 2, 3, 4, 5, 6] (by decide +kernel) rfl) d_RC_told_145
    · refine lv_bipush (v := (-2)) hx hb d_RC_told_10 (by decide) ?_
      exact my_iret (v := (-2)) hx hb hr (rfl) hlocks hQ hK hS (Nat.le_refl _) (Nat.le_refl _) () (trivial) (hP.sub [0, 1, 2, 3, 4, 5, 6] rfl) (hD.sub [0, 1, 2, 3, 4, 5, 6] (by decide +kernel) rfl) d_RC_told_12
set_option maxHeartbeats 2000000 in
set_option maxRecDepth 100000 in
theorem c_RC_state_Bits (l : Launch) (dC : Nat → ClassId) (dI : Nat → Nat → Nat) (cI cM cO : ClassId) (sz : Nat) (rc : Nat) (ma : Nat) (k : Nat) (fit : Int32) (fen : Int32) (frd : Int32) (fbd : Int32) (fir : Int32) (mf : Nat → Option Nat) (co : Nat) (xshift : Int32) (xkeptCode : Int64) (xkeptRange : Int64) (xkeptAsked : Int32) (xcache : Int32) (xpending : Int32) (xlow : Int64) (xrange : Int64) (xcode : Int64) (xreadLow : Int64) (xreadRange : Int64) (ri : Nat) (ro : Nat) (rw : Nat) (xasked : Int32) (wh : Int32) (hk8 : k ≤ 8) : MetL l y_RC_state (Cond.code y_RC_state prog_1_method_16_code 2 (some .long) :: gw) ({ frames := 1, cells := 0, slots := 0, locals := 21 } : Room) (dC, dI) vwCl (kT cI cM cO) [Value.ref rc, Value.int wh] [(rc, Sum.inr (6, [Value.ref co, Value.ref ma, Value.int (nI k), Value.int fit, Value.int fen, Value.int frd, Value.int fbd, Value.int fir])), (ma, Sum.inl (cM, 8, Sum.inr (Sum.inr (Sum.inr (Sum.inr mf))))), (co, Sum.inr (3, [Value.int xshift, Value.long xkeptCode, Value.long xkeptRange, Value.int xkeptAsked, Value.int xcache, Value.int xpending, Value.long xlow, Value.long xrange, Value.long xcode, Value.long xreadLow, Value.long xreadRange, Value.ref ri, Value.ref ro, Value.ref rw, Value.int xasked]))] sz (fun (r : Int64) (u : Unit) => True) (fun (u : Unit) => [(rc, Sum.inr (6, [Value.ref co, Value.ref ma, Value.int (nI k), Value.int fit, Value.int fen, Value.int frd, Value.int fbd, Value.int fir])), (ma, Sum.inl (cM, 8, Sum.inr (Sum.inr (Sum.inr (Sum.inr mf))))), (co, Sum.inr (3, [Value.int xshift, Value.long xkeptCode, Value.long xkeptRange, Value.int xkeptAsked, Value.int xcache, Value.int xpending, Value.long xlow, Value.long xrange, Value.long xcode, Value.long xreadLow, Value.long xreadRange, Value.ref ri, Value.ref ro, Value.ref rw, Value.int xasked]))]) 0 0 := by
  refine my_ofL (cc := prog_1_method_16_code) (n := 2) (ret := (some .long)) (by decide) rfl (Nat.le_of_ble_eq_true rfl) ?_
  intro p e s m args below meth c R Q A ls H locs hx hb hr hts hown hlocks hml hnm hR hQ hA hl hP hK hN hD hS
  have hg : ∀ w ∈ gw, w.before args s = true := fun w h => hts w (List.mem_cons_of_mem _ h)
  have hown : s.vm.findClass "RangeCoders" = some m.cls := hown
  have hl : lv_has ls 2 [(0, Value.ref rc), (1, Value.int wh)] := hl
  refine lv_iload_n hx hb d_RC_state_0 rfl (lv_at hl 1 rfl) ?_
  refine lv_if_lt (tgt := 9) hx hb d_RC_state_1 (by decide) (fun c_1 => ?_) (fun c_1 => ?_)
  · refine lv_ldc2 (v := (-2)) hx hb hown (hg _ k895) d_RC_state_9 ?_
    exact my_lret (v := (-2)) hx hb hr hlocks hQ hK hS (Nat.le_refl _) (Nat.le_refl _) () (trivial) (hP.sub [0, 1, 2] rfl) (hD.sub [0, 1, 2] (by decide +kernel) rfl) d_RC_state_12
  · refine lv_iload_n hx hb d_RC_state_4 rfl (lv_at hl 1 rfl) ?_
    refine lv_iconst (v := 5) hx hb d_RC_state_5 (by decide) ?_
    refine lv_icmp_le (tgt := 13) hx hb d_RC_state_6 (by decide) (fun c_2 => ?_) (fun c_2 => ?_)
    · refine lv_iload_n hx hb d_RC_state_13 rfl (lv_at hl 1 rfl) ?_
      refine lv_iconst (v := 1) hx hb d_RC_state_14 (by decide) ?_
      refine lv_icmp_le (tgt := 27) hx hb d_RC_state_15 (by decide) (fun c_3 => ?_) (fun c_3 => ?_)
      · refine lv_aload_n hx hb d_RC_state_27 rfl (lv_at hl 0 rfl) ?_
        refine va_get (D := (dC, dI)) (ci := 6) (v := .ref co) (C := "RangeCoders") (T := T_RC) (N := 8) hx hb hg in_RC hown hK hP 0 rfl rfl 0 (by decide) (hg _ k258) (fun _ h9 => h9) rfl d_RC_state_28 ?_
        refine lv_iload_n hx hb d_RC_state_31 rfl (lv_at hl 1 rfl) ?_
        refine my_cl (wr := [(rc, Sum.inr (6, [Value.ref co, Value.ref ma, Value.int (nI k), Value.int fit, Value.int fen, Value.int frd, Value.int fbd, Value.int fir])), (ma, Sum.inl (cM, 8, Sum.inr (Sum.inr (Sum.inr (Sum.inr mf)))))]) (va_runU (As := [Value.int wh]) (rest := []) ⟨hx, hb, hml, hown, hts⟩ (c_Bits_Ranged_register l dC dI cI cM cO H.size co xshift xkeptCode xkeptRange xkeptAsked xcache xpending xlow xrange xcode xreadLow xreadRange ri ro rw xasked wh) (va_cwA 1 hts (my_gU k896 k898 k899 k900 k4 k901) rfl rfl rfl (hN.1 _ j897 rfl) (by decide +kernel) ⟨by rw [hR]; exact Nat.le_of_ble_eq_true rfl, by rw [hR]; exact Nat.le_of_ble_eq_true rfl⟩) (my_preV hK hN (hP.sub [2] rfl) (hD.sub [2] (by decide +kernel) rfl) 0 rfl rfl) rfl rfl hl.1 rfl (lv_room (Nat.le_of_ble_eq_true rfl)) d_RC_state_32 ⟨by rw [hR]; exact Nat.le_of_ble_eq_true rfl, by rw [hR]; exact Nat.le_of_ble_eq_true rfl⟩) hP hD hS hA [2] [0, 1] rfl rfl (by decide +kernel) (by decide +kernel) (fun r_32 u9 H locs hw_32 hP hD hS => ?_)
        have hPD : my_PD (dC, dI) vwCl A [(rc, Sum.inr (6, [Value.ref co, Value.ref ma, Value.int (nI k), Value.int fit, Value.int fen, Value.int frd, Value.int fbd, Value.int fir])), (ma, Sum.inl (cM, 8, Sum.inr (Sum.inr (Sum.inr (Sum.inr mf))))), (co, Sum.inr (3, [Value.int xshift, Value.long xkeptCode, Value.long xkeptRange, Value.int xkeptAsked, Value.int xcache, Value.int xpending, Value.long xlow, Value.long xrange, Value.long xcode, Value.long xreadLow, Value.long xreadRange, Value.ref ri, Value.ref ro, Value.ref rw, Value.int xasked]))] H := ⟨hP, hD⟩
        have hP := hPD.1
        have hD := hPD.2
        exact my_lret (v := r_32) hx hb hr hlocks hQ hK hS (Nat.le_refl _) (Nat.le_refl _) () (trivial) (hP.sub [0, 1, 2] rfl) (hD.sub [0, 1, 2] (by decide +kernel) rfl) d_RC_state_35
      · refine lv_aload_n hx hb d_RC_state_18 rfl (lv_at hl 0 rfl) ?_
        refine va_get (D := (dC, dI)) (ci := 6) (v := .int frd) (C := "RangeCoders") (T := T_RC) (N := 8) hx hb hg in_RC hown hK hP 0 rfl rfl 5 (by decide) (hg _ k263) (fun _ h9 => h9) rfl d_RC_state_19 ?_
        refine lv_if_ne (tgt := 27) hx hb d_RC_state_22 (by decide) (fun c_4 => ?_) (fun c_4 => ?_)
        · refine lv_aload_n hx hb d_RC_state_27 rfl (lv_at hl 0 rfl) ?_
          refine va_get (D := (dC, dI)) (ci := 6) (v := .ref co) (C := "RangeCoders") (T := T_RC) (N := 8) hx hb hg in_RC hown hK hP 0 rfl rfl 0 (by decide) (hg _ k258) (fun _ h9 => h9) rfl d_RC_state_28 ?_
          refine lv_iload_n hx hb d_RC_state_31 rfl (lv_at hl 1 rfl) ?_
          refine my_cl (wr := [(rc, Sum.inr (6, [Value.ref co, Value.ref ma, Value.int (nI k), Value.int fit, Value.int fen, Value.int frd, Value.int fbd, Value.int fir])), (ma, Sum.inl (cM, 8, Sum.inr (Sum.inr (Sum.inr (Sum.inr mf)))))]) (va_runU (As := [Value.int wh]) (rest := []) ⟨hx, hb, hml, hown, hts⟩ (c_Bits_Ranged_register l dC dI cI cM cO H.size co xshift xkeptCode xkeptRange xkeptAsked xcache xpending xlow xrange xcode xreadLow xreadRange ri ro rw xasked wh) (va_cwA 1 hts (my_gU k896 k898 k899 k900 k4 k901) rfl rfl rfl (hN.1 _ j897 rfl) (by decide +kernel) ⟨by rw [hR]; exact Nat.le_of_ble_eq_true rfl, by rw [hR]; exact Nat.le_of_ble_eq_true rfl⟩) (my_preV hK hN (hP.sub [2] rfl) (hD.sub [2] (by decide +kernel) rfl) 0 rfl rfl) rfl rfl hl.1 rfl (lv_room (Nat.le_of_ble_eq_true rfl)) d_RC_state_32 ⟨by rw [hR]; exact Nat.le_of_ble_eq_true rfl, by rw [hR]; exact Nat.le_of_ble_eq_true rfl⟩) hP hD hS hA [2] [0, 1] rfl rfl (by decide +kernel) (by decide +kernel) (fun r_32 u9 H locs hw_32 hP hD hS => ?_)
          have hPD : my_PD (dC, dI) vwCl A [(rc, Sum.inr (6, [Value.ref co, Value.ref ma, Value.int (nI k), Value.int fit, Value.int fen, Value.int frd, Value.int fbd, Value.int fir])), (ma, Sum.inl (cM, 8, Sum.inr (Sum.inr (Sum.inr (Sum.inr mf))))), (co, Sum.inr (3, [Value.int xshift, Value.long xkeptCode, Value.long xkeptRange, Value.int xkeptAsked, Value.int xcache, Value.int xpending, Value.long xlow, Value.long xrange, Value.long xcode, Value.long xreadLow, Value.long xreadRange, Value.ref ri, Value.ref ro, Value.ref rw, Value.int xasked]))] H := ⟨hP, hD⟩
          have hP := hPD.1
          have hD := hPD.2
          exact my_lret (v := r_32) hx hb hr hlocks hQ hK hS (Nat.le_refl _) (Nat.le_refl _) () (trivial) (hP.sub [0, 1, 2] rfl) (hD.sub [0, 1, 2] (by decide +kernel) rfl) d_RC_state_35
        · refine lv_lconst (v := 0) hx hb d_RC_state_25 (by decide) ?_
          exact my_lret (v := 0) hx hb hr hlocks hQ hK hS (Nat.le_refl _) (Nat.le_refl _) () (trivial) (hP.sub [0, 1, 2] rfl) (hD.sub [0, 1, 2] (by decide +kernel) rfl) d_RC_state_26
    · refine lv_ldc2 (v := (-2)) hx hb hown (hg _ k895) d_RC_state_9 ?_
      exact my_lret (v := (-2)) hx hb hr hlocks hQ hK hS (Nat.le_refl _) (Nat.le_refl _) () (trivial) (hP.sub [0, 1, 2] rfl) (hD.sub [0, 1, 2] (by decide +kernel) rfl) d_RC_state_12
set_option maxHeartbeats 2000000 in
set_option maxRecDepth 100000 in
theorem c_RC_modelA_Bits (l : Launch) (dC : Nat → ClassId) (dI : Nat → Nat → Nat) (cI cM cO : ClassId) (sz : Nat) (rc : Nat) (ma : Nat) (k : Nat) (fit : Int32) (fen : Int32) (frd : Int32) (fbd : Int32) (fir : Int32) (mf : Nat → Option Nat) (co : Nat) (xshift : Int32) (xkeptCode : Int64) (xkeptRange : Int64) (xkeptAsked : Int32) (xcache : Int32) (xpending : Int32) (xlow : Int64) (xrange : Int64) (xcode : Int64) (xreadLow : Int64) (xreadRange : Int64) (ri : Nat) (ro : Nat) (rw : Nat) (xasked : Int32) (nn : Int32) (hrf : nn < 2 ∨ 64 < nn) : MetI l y_RC_model (Cond.code y_RC_model prog_1_method_2_code 3 (some .int) :: gw) ({ frames := 0, cells := 0, slots := 0, locals := 0 } : Room) (dC, dI) vwCl (kT cI cM cO) [Value.ref rc, Value.int nn] [(rc, Sum.inr (6, [Value.ref co, Value.ref ma, Value.int (nI k), Value.int fit, Value.int fen, Value.int frd, Value.int fbd, Value.int fir])), (ma, Sum.inl (cM, 8, Sum.inr (Sum.inr (Sum.inr (Sum.inr mf))))), (co, Sum.inr (3, [Value.int xshift, Value.long xkeptCode, Value.long xkeptRange, Value.int xkeptAsked, Value.int xcache, Value.int xpending, Value.long xlow, Value.long xrange, Value.long xcode, Value.long xreadLow, Value.long xreadRange, Value.ref ri, Value.ref ro, Value.ref rw, Value.int xasked]))] sz (fun (r : Int32) (u : Unit) => r = -2) (fun (u : Unit) => [(rc, Sum.inr (6, [Value.ref co, Value.ref ma, Value.int (nI k), Value.int fit, Value.int fen, Value.int frd, Value.int fbd, Value.int fir])), (ma, Sum.inl (cM, 8, Sum.inr (Sum.inr (Sum.inr (Sum.inr mf))))), (co, Sum.inr (3, [Value.int xshift, Value.long xkeptCode, Value.long xkeptRange, Value.int xkeptAsked, Value.int xcache, Value.int xpending, Value.long xlow, Value.long xrange, Value.long xcode, Value.long xreadLow, Value.long xreadRange, Value.ref ri, Value.ref ro, Value.ref rw, Value.int xasked]))]) 0 0 := by
  refine my_ofI (cc := prog_1_method_2_code) (n := 3) (ret := (some .int)) (by decide) rfl (Nat.le_of_ble_eq_true rfl) ?_
  intro p e s m args below meth c R Q A ls H locs hx hb hr hts hown hlocks hml hnm hR hQ hA hl hP hK hN hD hS
  have hg : ∀ w ∈ gw, w.before args s = true := fun w h => hts w (List.mem_cons_of_mem _ h)
  have hown : s.vm.findClass "RangeCoders" = some m.cls := hown
  have hl : lv_has ls 3 [(0, Value.ref rc), (1, Value.int nn)] := hl
  refine lv_iload_n hx hb d_RC_model_0 rfl (lv_at hl 1 rfl) ?_
  refine lv_iconst (v := 2) hx hb d_RC_model_1 (by decide) ?_
  refine lv_icmp_lt (tgt := 11) hx hb d_RC_model_2 (by decide) (fun c_1 => ?_) (fun c_1 => ?_)
  · refine lv_bipush (v := (-2)) hx hb d_RC_model_11 (by decide) ?_
    exact my_iret (v := (-2)) hx hb hr (rfl) hlocks hQ hK hS (Nat.le_refl _) (Nat.le_refl _) () (rfl) (hP.sub [0, 1, 2] rfl) (hD.sub [0, 1, 2] (by decide +kernel) rfl) d_RC_model_13
  · refine lv_iload_n hx hb d_RC_model_5 rfl (lv_at hl 1 rfl) ?_
    refine lv_bipush (v := 64) hx hb d_RC_model_6 (by decide) ?_
    refine lv_icmp_le (tgt := 14) hx hb d_RC_model_8 (by decide) (fun c_2 => ?_) (fun c_2 => ?_)
    · exact absurd hrf (fun h9 => h9.elim c_1 (fun h8 => absurd c_2 (Int32.not_le.mpr h8)))
    · refine lv_bipush (v := (-2)) hx hb d_RC_model_11 (by decide) ?_
      exact my_iret (v := (-2)) hx hb hr (rfl) hlocks hQ hK hS (Nat.le_refl _) (Nat.le_refl _) () (rfl) (hP.sub [0, 1, 2] rfl) (hD.sub [0, 1, 2] (by decide +kernel) rfl) d_RC_model_13
set_option maxHeartbeats 2000000 in
set_option maxRecDepth 100000 in
theorem c_RC_modelF_Bits (l : Launch) (dC : Nat → ClassId) (dI : Nat → Nat → Nat) (cI cM cO : ClassId) (sz : Nat) (rc : Nat) (ma : Nat) (k : Nat) (fit : Int32) (fen : Int32) (frd : Int32) (fbd : Int32) (fir : Int32) (mf : Nat → Option Nat) (co : Nat) (xshift : Int32) (xkeptCode : Int64) (xkeptRange : Int64) (xkeptAsked : Int32) (xcache : Int32) (xpending : Int32) (xlow : Int64) (xrange : Int64) (xcode : Int64) (xreadLow : Int64) (xreadRange : Int64) (ri : Nat) (ro : Nat) (rw : Nat) (xasked : Int32) (ns : Nat) (hns2 : 2 ≤ ns) (hns : ns ≤ 64) (hk : k = 8) : MetI l y_RC_model (Cond.code y_RC_model prog_1_method_2_code 3 (some .int) :: gw) ({ frames := 0, cells := 0, slots := 0, locals := 0 } : Room) (dC, dI) vwCl (kT cI cM cO) [Value.ref rc, Value.int (nI ns)] [(rc, Sum.inr (6, [Value.ref co, Value.ref ma, Value.int (nI k), Value.int fit, Value.int fen, Value.int frd, Value.int fbd, Value.int fir])), (ma, Sum.inl (cM, 8, Sum.inr (Sum.inr (Sum.inr (Sum.inr mf))))), (co, Sum.inr (3, [Value.int xshift, Value.long xkeptCode, Value.long xkeptRange, Value.int xkeptAsked, Value.int xcache, Value.int xpending, Value.long xlow, Value.long xrange, Value.long xcode, Value.long xreadLow, Value.long xreadRange, Value.ref ri, Value.ref ro, Value.ref rw, Value.int xasked]))] sz (fun (r : Int32) (u : Unit) => r = -4) (fun (u : Unit) => [(rc, Sum.inr (6, [Value.ref co, Value.ref ma, Value.int (nI k), Value.int fit, Value.int fen, Value.int frd, Value.int fbd, Value.int fir])), (ma, Sum.inl (cM, 8, Sum.inr (Sum.inr (Sum.inr (Sum.inr mf))))), (co, Sum.inr (3, [Value.int xshift, Value.long xkeptCode, Value.long xkeptRange, Value.int xkeptAsked, Value.int xcache, Value.int xpending, Value.long xlow, Value.long xrange, Value.long xcode, Value.long xreadLow, Value.long xreadRange, Value.ref ri, Value.ref ro, Value.ref rw, Value.int xasked]))]) 0 0 := by
  refine my_ofI (cc := prog_1_method_2_code) (n := 3) (ret := (some .int)) (by decide) rfl (Nat.le_of_ble_eq_true rfl) ?_
  intro p e s m args below meth c R Q A ls H locs hx hb hr hts hown hlocks hml hnm hR hQ hA hl hP hK hN hD hS
  have hg : ∀ w ∈ gw, w.before args s = true := fun w h => hts w (List.mem_cons_of_mem _ h)
  have hown : s.vm.findClass "RangeCoders" = some m.cls := hown
  have hl : lv_has ls 3 [(0, Value.ref rc), (1, Value.int (nI ns))] := hl
  refine lv_iload_n hx hb d_RC_model_0 rfl (lv_at hl 1 rfl) ?_
  refine lv_iconst (v := 2) hx hb d_RC_model_1 (by decide) ?_
  refine lv_icmp_lt (tgt := 11) hx hb d_RC_model_2 (by decide) (fun c_1 => ?_) (fun c_1 => ?_)
  · exact absurd c_1 (show ¬ nI ns < nI 2 from nI_nlt hns2 (by omega))
  · refine lv_iload_n hx hb d_RC_model_5 rfl (lv_at hl 1 rfl) ?_
    refine lv_bipush (v := 64) hx hb d_RC_model_6 (by decide) ?_
    refine lv_icmp_le (tgt := 14) hx hb d_RC_model_8 (by decide) (fun c_2 => ?_) (fun c_2 => ?_)
    · refine lv_aload_n hx hb d_RC_model_14 rfl (lv_at hl 0 rfl) ?_
      refine va_get (D := (dC, dI)) (ci := 6) (v := .int (nI k)) (C := "RangeCoders") (T := T_RC) (N := 8) hx hb hg in_RC hown hK hP 0 rfl rfl 2 (by decide) (hg _ k260) (fun _ h9 => h9) rfl d_RC_model_15 ?_
      refine lv_bipush (v := 8) hx hb d_RC_model_18 (by decide) ?_
      refine lv_icmp_lt (tgt := 26) hx hb d_RC_model_20 (by decide) (fun c_3 => ?_) (fun c_3 => ?_)
      · exact absurd c_3 (show ¬ nI k < nI 8 from nI_nlt (by omega) (by omega))
      · refine lv_bipush (v := (-4)) hx hb d_RC_model_23 (by decide) ?_
        exact my_iret (v := (-4)) hx hb hr (rfl) hlocks hQ hK hS (Nat.le_refl _) (Nat.le_refl _) () (rfl) (hP.sub [0, 1, 2] rfl) (hD.sub [0, 1, 2] (by decide +kernel) rfl) d_RC_model_25
    · exact absurd (show nI ns ≤ nI 64 from nI_le hns (by omega)) c_2
end
section
set_option maxHeartbeats 2000000 in
set_option maxRecDepth 100000 in
theorem c_RC_getA_Carries (l : Launch) (dC : Nat → ClassId) (dI : Nat → Nat → Nat) (cI cM cO : ClassId) (sz : Nat) (rc : Nat) (ma : Nat) (k : Nat) (fit : Int32) (fen : Int32) (frd : Int32) (fbd : Int32) (fir : Int32) (mf : Nat → Option Nat) (co : Nat) (xcache : Int32) (xpending : Int32) (xlow : Int64) (xrange : Int64) (xcode : Int64) (xreadLow : Int64) (xreadRange : Int64) (ri : Nat) (ro : Nat) (rw : Nat) (xasked : Int32) (mm : Int32) (hk8 : k ≤ 8) (hbad : mm < 0 ∨ nI k ≤ mm) : MetI l y_RC_get (Cond.code y_RC_get prog_1_method_13_code 3 (some .int) :: gw) ({ frames := 1, cells := 0, slots := 0, locals := 21 } : Room) (dC, dI) vwCl (kT cI cM cO) [Value.ref rc, Value.int mm] [(rc, Sum.inr (6, [Value.ref co, Value.ref ma, Value.int (nI k), Value.int fit, Value.int fen, Value.int frd, Value.int fbd, Value.int fir])), (ma, Sum.inl (cM, 8, Sum.inr (Sum.inr (Sum.inr (Sum.inr mf))))), (co, Sum.inr (1, [Value.int xcache, Value.int xpending, Value.long xlow, Value.long xrange, Value.long xcode, Value.long xreadLow, Value.long xreadRange, Value.ref ri, Value.ref ro, Value.ref rw, Value.int xasked]))] sz (fun (r : Int32) (u : Unit) => True) (fun (u : Unit) => [(rc, Sum.inr (6, [Value.ref co, Value.ref ma, Value.int (nI k), Value.int fit, Value.int fen, Value.int frd, Value.int fbd, Value.int fir])), (ma, Sum.inl (cM, 8, Sum.inr (Sum.inr (Sum.inr (Sum.inr mf))))), (co, Sum.inr (1, [Value.int xcache, Value.int xpending, Value.long xlow, Value.long xrange, Value.long xcode, Value.long xreadLow, Value.long xreadRange, Value.ref ri, Value.ref ro, Value.ref rw, Value.int xasked]))]) 0 0 := by
  refine my_ofI (cc := prog_1_method_13_code) (n := 3) (ret := (some .int)) (by decide) rfl (Nat.le_of_ble_eq_true rfl) ?_
  intro p e s m args below meth c R Q A ls H locs hx hb hr hts hown hlocks hml hnm hR hQ hA hl hP hK hN hD hS
  have hg : ∀ w ∈ gw, w.before args s = true := fun w h => hts w (List.mem_cons_of_mem _ h)
  have hown : s.vm.findClass "RangeCoders" = some m.cls := hown
  have hl : lv_has ls 3 [(0, Value.ref rc), (1, Value.int mm)] := hl
  refine lv_aload_n hx hb d_RC_get_0 rfl (lv_at hl 0 rfl) ?_
  refine lv_iload_n hx hb d_RC_get_1 rfl (lv_at hl 1 rfl) ?_
  refine my_cq (wr := [(co, Sum.inr (1, [Value.int xcache, Value.int xpending, Value.long xlow, Value.long xrange, Value.long xcode, Value.long xreadLow, Value.long xreadRange, Value.ref ri, Value.ref ro, Value.ref rw, Value.int xasked]))]) (va_runV (As := [Value.int mm]) (rest := []) ⟨hx, hb, hml, hown, hts⟩ (c_RC_modelAtA l dC dI cI cM cO H.size rc ma k fit fen frd fbd fir mf co mm (by first | assumption | omega)) (cwV 1 hts (my_gV k412 k414 ks3 k1 k415) rfl rfl rfl (by decide +kernel) ⟨by rw [hR]; exact Nat.le_of_ble_eq_true rfl, by rw [hR]; exact Nat.le_of_ble_eq_true rfl⟩) (my_preV hK hN (hP.sub [0, 1] rfl) (hD.sub [0, 1] (by decide +kernel) rfl) 0 rfl rfl) rfl rfl hl.1 rfl (lv_room (Nat.le_of_ble_eq_true rfl)) d_RC_get_2 ⟨by rw [hR]; exact Nat.le_of_ble_eq_true rfl, by rw [hR]; exact Nat.le_of_ble_eq_true rfl⟩) hP hD hS hA [0, 1] [2] rfl rfl (by decide +kernel) (by decide +kernel) (fun r_2 u9 H locs hw_2 hP hD hS => ?_)
  have hr_2 : r_2 = none := hw_2
  have hPD : my_PD (dC, dI) vwCl A [(co, Sum.inr (1, [Value.int xcache, Value.int xpending, Value.long xlow, Value.long xrange, Value.long xcode, Value.long xreadLow, Value.long xreadRange, Value.ref ri, Value.ref ro, Value.ref rw, Value.int xasked])), (rc, Sum.inr (6, [Value.ref co, Value.ref ma, Value.int (nI k), Value.int fit, Value.int fen, Value.int frd, Value.int fbd, Value.int fir])), (ma, Sum.inl (cM, 8, Sum.inr (Sum.inr (Sum.inr (Sum.inr mf)))))] H := ⟨hP, hD⟩
  have hP := hPD.1
  have hD := hPD.2
  subst hr_2
  refine W.eq (g2 := F0 m 5 ls [Value.null]) rfl ?_
  refine lv_astore_nN (lv' := [(2, Value.null), (0, Value.ref rc), (1, Value.int mm)]) hx hb d_RC_get_5 rfl hl (by decide) rfl (fun ls hl => ?_)
  refine lv_aload_nN hx hb d_RC_get_6 rfl (lv_at hl 0 rfl) ?_
  refine lv_ifnonnullN hx hb d_RC_get_7 ?_
  refine lv_iconst (v := (-1)) hx hb d_RC_get_10 (by decide) ?_
  exact my_iret (v := (-1)) hx hb hr (rfl) hlocks hQ hK hS (Nat.le_refl _) (Nat.le_refl _) () (trivial) (hP.sub [1, 2, 0] rfl) (hD.sub [1, 2, 0] (by decide +kernel) rfl) d_RC_get_11
set_option maxHeartbeats 2000000 in
set_option maxRecDepth 100000 in
theorem c_RC_getB_Carries (l : Launch) (dC : Nat → ClassId) (dI : Nat → Nat → Nat) (cI cM cO : ClassId) (sz : Nat) (rc : Nat) (ma : Nat) (k : Nat) (fit : Int32) (fen : Int32) (frd : Int32) (fbd : Int32) (fir : Int32) (mf : Nat → Option Nat) (co : Nat) (xcache : Int32) (xpending : Int32) (xlow : Int64) (xrange : Int64) (xcode : Int64) (xreadLow : Int64) (xreadRange : Int64) (ri : Nat) (ro : Nat) (rw : Nat) (xasked : Int32) (rin : Int32) (ria : Nat) (rik : Nat) (rif : Nat → Int32) (j : Nat) (mo : Nat) (o2 : Nat) (oo : Nat) (osg : Int32) (osm : Int32) (ofc : Int32) (oca : Nat) (opa : Nat) (ol : Nat) (ocf : Nat → Int32) (opl : Nat) (opf : Nat → Int32) (ka : Nat) (kl : Nat) (kf : Nat → Int32) (hk8 : k ≤ 8) (hri : rOk rin rik) (hj : j < k) (hmf : mf j = some mo) (hol : ol ≤ 64) (hopl : opl ≤ 512) (hol0 : 1 ≤ ol) (hkl : kl ≤ 64) : MetI l y_RC_get (Cond.code y_RC_get prog_1_method_13_code 3 (some .int) :: gw) ({ frames := 6, cells := 0, slots := 0, locals := 132 } : Room) (dC, dI) vwCl (kT cI cM cO) [Value.ref rc, Value.int (nI j)] [(rc, Sum.inr (6, [Value.ref co, Value.ref ma, Value.int (nI k), Value.int fit, Value.int fen, Value.int frd, Value.int fbd, Value.int fir])), (ma, Sum.inl (cM, 8, Sum.inr (Sum.inr (Sum.inr (Sum.inr mf))))), (co, Sum.inr (1, [Value.int xcache, Value.int xpending, Value.long xlow, Value.long xrange, Value.long xcode, Value.long xreadLow, Value.long xreadRange, Value.ref ri, Value.ref ro, Value.ref rw, Value.int xasked])), (ri, Sum.inr (0, [Value.int rin, Value.ref ria])), (ria, Sum.inl (cI, rik, Sum.inl rif)), (mo, Sum.inr (8, [Value.ref ka, Value.ref o2, Value.ref oo])), (ka, Sum.inl (cI, kl, Sum.inl kf)), (oo, Sum.inr (7, [Value.int osg, Value.int osm, Value.int ofc, Value.ref oca, Value.ref opa])), (oca, Sum.inl (cI, ol, Sum.inl ocf)), (opa, Sum.inl (cI, opl, Sum.inl opf))] sz (fun (r : Int32) (u : Int32 × Int32 × Int64 × Int64 × Int32 × Int32 × (Nat → Int32)) => True) (fun (u : Int32 × Int32 × Int64 × Int64 × Int32 × Int32 × (Nat → Int32)) => [(rc, Sum.inr (6, [Value.ref co, Value.ref ma, Value.int (nI k), Value.int fit, Value.int fen, Value.int frd, Value.int u.1, Value.int u.2.1])), (ma, Sum.inl (cM, 8, Sum.inr (Sum.inr (Sum.inr (Sum.inr mf))))), (co, Sum.inr (1, [Value.int xcache, Value.int xpending, Value.long xlow, Value.long xrange, Value.long u.2.2.1, Value.long xreadLow, Value.long u.2.2.2.1, Value.ref ri, Value.ref ro, Value.ref rw, Value.int u.2.2.2.2.1])), (ri, Sum.inr (0, [Value.int rin, Value.ref ria])), (ria, Sum.inl (cI, rik, Sum.inl rif)), (mo, Sum.inr (8, [Value.ref ka, Value.ref o2, Value.ref oo])), (ka, Sum.inl (cI, kl, Sum.inl kf)), (oo, Sum.inr (7, [Value.int osg, Value.int u.2.2.2.2.2.1, Value.int ofc, Value.ref oca, Value.ref opa])), (oca, Sum.inl (cI, ol, Sum.inl u.2.2.2.2.2.2)), (opa, Sum.inl (cI, opl, Sum.inl opf))]) 0 0 := by
  refine my_ofI (cc := prog_1_method_13_code) (n := 3) (ret := (some .int)) (by decide) rfl (Nat.le_of_ble_eq_true rfl) ?_
  intro p e s m args below meth c R Q A ls H locs hx hb hr hts hown hlocks hml hnm hR hQ hA hl hP hK hN hD hS
  have hg : ∀ w ∈ gw, w.before args s = true := fun w h => hts w (List.mem_cons_of_mem _ h)
  have hown : s.vm.findClass "RangeCoders" = some m.cls := hown
  have hl : lv_has ls 3 [(0, Value.ref rc), (1, Value.int (nI j))] := hl
  have hlt_hri := rOk_lt hri
  refine lv_aload_n hx hb d_RC_get_0 rfl (lv_at hl 0 rfl) ?_
  refine lv_iload_n hx hb d_RC_get_1 rfl (lv_at hl 1 rfl) ?_
  refine my_cq (wr := [(co, Sum.inr (1, [Value.int xcache, Value.int xpending, Value.long xlow, Value.long xrange, Value.long xcode, Value.long xreadLow, Value.long xreadRange, Value.ref ri, Value.ref ro, Value.ref rw, Value.int xasked])), (ri, Sum.inr (0, [Value.int rin, Value.ref ria])), (ria, Sum.inl (cI, rik, Sum.inl rif)), (mo, Sum.inr (8, [Value.ref ka, Value.ref o2, Value.ref oo])), (ka, Sum.inl (cI, kl, Sum.inl kf)), (oo, Sum.inr (7, [Value.int osg, Value.int osm, Value.int ofc, Value.ref oca, Value.ref opa])), (oca, Sum.inl (cI, ol, Sum.inl ocf)), (opa, Sum.inl (cI, opl, Sum.inl opf))]) (va_runV (As := [Value.int (nI j)]) (rest := []) ⟨hx, hb, hml, hown, hts⟩ (c_RC_modelAtB l dC dI cI cM cO H.size rc ma k fit fen frd fbd fir mf co j mo (by first | assumption | omega) (by first | assumption | omega) (by first | assumption | omega)) (cwV 1 hts (my_gV k412 k414 ks3 k1 k415) rfl rfl rfl (by decide +kernel) ⟨by rw [hR]; exact Nat.le_of_ble_eq_true rfl, by rw [hR]; exact Nat.le_of_ble_eq_true rfl⟩) (my_preV hK hN (hP.sub [0, 1] rfl) (hD.sub [0, 1] (by decide +kernel) rfl) 0 rfl rfl) rfl rfl hl.1 rfl (lv_room (Nat.le_of_ble_eq_true rfl)) d_RC_get_2 ⟨by rw [hR]; exact Nat.le_of_ble_eq_true rfl, by rw [hR]; exact Nat.le_of_ble_eq_true rfl⟩) hP hD hS hA [0, 1] [2, 3, 4, 5, 6, 7, 8, 9] rfl rfl (by decide +kernel) (by decide +kernel) (fun r_2 u9 H locs hw_2 hP hD hS => ?_)
  have hr_2 : r_2 = some mo := hw_2
  have hPD : my_PD (dC, dI) vwCl A [(co, Sum.inr (1, [Value.int xcache, Value.int xpending, Value.long xlow, Value.long xrange, Value.long xcode, Value.long xreadLow, Value.long xreadRange, Value.ref ri, Value.ref ro, Value.ref rw, Value.int xasked])), (ri, Sum.inr (0, [Value.int rin, Value.ref ria])), (ria, Sum.inl (cI, rik, Sum.inl rif)), (mo, Sum.inr (8, [Value.ref ka, Value.ref o2, Value.ref oo])), (ka, Sum.inl (cI, kl, Sum.inl kf)), (oo, Sum.inr (7, [Value.int osg, Value.int osm, Value.int ofc, Value.ref oca, Value.ref opa])), (oca, Sum.inl (cI, ol, Sum.inl ocf)), (opa, Sum.inl (cI, opl, Sum.inl opf)), (rc, Sum.inr (6, [Value.ref co, Value.ref ma, Value.int (nI k), Value.int fit, Value.int fen, Value.int frd, Value.int fbd, Value.int fir])), (ma, Sum.inl (cM, 8, Sum.inr (Sum.inr (Sum.inr (Sum.inr mf)))))] H := ⟨hP, hD⟩
  have hP := hPD.1
  have hD := hPD.2
  subst hr_2
  refine W.eq (g2 := F0 m 5 ls [Value.ref mo]) rfl ?_
  refine lv_astore_n (lv' := [(2, Value.ref mo), (0, Value.ref rc), (1, Value.int (nI j))]) hx hb d_RC_get_5 rfl hl (by decide) rfl (fun ls hl => ?_)
  refine lv_aload_n hx hb d_RC_get_6 rfl (lv_at hl 0 rfl) ?_
  refine lv_ifnonnull (tgt := 12) hx hb d_RC_get_7 (by decide) ?_
  refine lv_aload_n hx hb d_RC_get_12 rfl (lv_at hl 1 rfl) ?_
  refine va_get (D := (dC, dI)) (ci := 6) (v := .int frd) (C := "RangeCoders") (T := T_RC) (N := 8) hx hb hg in_RC hown hK hP 8 rfl rfl 5 (by decide) (hg _ k263) (fun _ h9 => h9) rfl d_RC_get_13 ?_
  refine lv_if_ne (tgt := 22) hx hb d_RC_get_16 (by decide) (fun c_1 => ?_) (fun c_1 => ?_)
  · refine lv_aload_n hx hb d_RC_get_22 rfl (lv_at hl 1 rfl) ?_
    refine va_get (D := (dC, dI)) (ci := 6) (v := .int fbd) (C := "RangeCoders") (T := T_RC) (N := 8) hx hb hg in_RC hown hK hP 8 rfl rfl 6 (by decide) (hg _ k264) (fun _ h9 => h9) rfl d_RC_get_23 ?_
    refine lv_if_eq (tgt := 34) hx hb d_RC_get_26 (by decide) (fun c_2 => ?_) (fun c_2 => ?_)
    · refine lv_aload_n hx hb d_RC_get_34 rfl (lv_at hl 1 rfl) ?_
      refine lv_aload_n hx hb d_RC_get_35 rfl (lv_at hl 1 rfl) ?_
      refine va_get (D := (dC, dI)) (ci := 6) (v := .ref co) (C := "RangeCoders") (T := T_RC) (N := 8) hx hb hg in_RC hown hK hP 8 rfl rfl 0 (by decide) (hg _ k258) (fun _ h9 => h9) rfl d_RC_get_36 ?_
      refine lv_aload_n hx hb d_RC_get_39 rfl (lv_at hl 0 rfl) ?_
      refine va_get (D := (dC, dI)) (ci := 8) (v := .ref oo) (C := "RangeCoders$Model") (T := T_Model) (N := 3) hx hb hg in_Model hown hK hP 3 rfl rfl 2 (by decide) (hg _ k345) (fun _ h9 => h9) rfl d_RC_get_40 ?_
      refine my_ci (wr := [(mo, Sum.inr (8, [Value.ref ka, Value.ref o2, Value.ref oo])), (ka, Sum.inl (cI, kl, Sum.inl kf)), (rc, Sum.inr (6, [Value.ref co, Value.ref ma, Value.int (nI k), Value.int fit, Value.int fen, Value.int frd, Value.int fbd, Value.int fir])), (ma, Sum.inl (cM, 8, Sum.inr (Sum.inr (Sum.inr (Sum.inr mf)))))]) (va_runU (As := [Value.ref oo]) (rest := [Value.ref rc]) ⟨hx, hb, hml, hown, hts⟩ (c_Carries_Ranged_nextSign l dC dI cI cM cO H.size co xcache xpending xlow xrange xcode xreadLow xreadRange ri ro rw xasked rin ria rik rif oo osg osm ofc oca opa ol ocf opl opf (by first | assumption | omega) (by first | assumption | omega) (by first | assumption | omega)) (va_cwA 1 hts (my_gU k775 k777 k804 k805 k4 k806) rfl rfl rfl (hN.1 _ j776 rfl) (by decide +kernel) ⟨by rw [hR]; exact Nat.le_of_ble_eq_true rfl, by rw [hR]; exact Nat.le_of_ble_eq_true rfl⟩) (my_preV hK hN (hP.sub [0, 1, 2, 5, 6, 7] rfl) (hD.sub [0, 1, 2, 5, 6, 7] (by decide +kernel) rfl) 0 rfl rfl) rfl rfl hl.1 rfl (lv_room (Nat.le_of_ble_eq_true rfl)) d_RC_get_43 ⟨by rw [hR]; exact Nat.le_of_ble_eq_true rfl, by rw [hR]; exact Nat.le_of_ble_eq_true rfl⟩) hP hD hS hA [0, 1, 2, 5, 6, 7] [3, 4, 8, 9] rfl rfl (by decide +kernel) (by decide +kernel) (fun r_43 u9 H locs hw_43 hP hD hS => ?_)
      obtain ⟨xcodeq_43, xreadRangeq_43, xaskedq_43, osmq_43, ocfq_43⟩ := u9
      have hPD : my_PD (dC, dI) vwCl A [(mo, Sum.inr (8, [Value.ref ka, Value.ref o2, Value.ref oo])), (ka, Sum.inl (cI, kl, Sum.inl kf)), (rc, Sum.inr (6, [Value.ref co, Value.ref ma, Value.int (nI k), Value.int fit, Value.int fen, Value.int frd, Value.int fbd, Value.int fir])), (ma, Sum.inl (cM, 8, Sum.inr (Sum.inr (Sum.inr (Sum.inr mf))))), (co, Sum.inr (1, [Value.int xcache, Value.int xpending, Value.long xlow, Value.long xrange, Value.long xcodeq_43, Value.long xreadLow, Value.long xreadRangeq_43, Value.ref ri, Value.ref ro, Value.ref rw, Value.int xaskedq_43])), (ri, Sum.inr (0, [Value.int rin, Value.ref ria])), (ria, Sum.inl (cI, rik, Sum.inl rif)), (oo, Sum.inr (7, [Value.int osg, Value.int osmq_43, Value.int ofc, Value.ref oca, Value.ref opa])), (oca, Sum.inl (cI, ol, Sum.inl ocfq_43)), (opa, Sum.inl (cI, opl, Sum.inl opf))] H := ⟨hP, hD⟩
      have hP := hPD.1
      have hD := hPD.2
      refine my_ci (wr := [(mo, Sum.inr (8, [Value.ref ka, Value.ref o2, Value.ref oo])), (ka, Sum.inl (cI, kl, Sum.inl kf)), (ma, Sum.inl (cM, 8, Sum.inr (Sum.inr (Sum.inr (Sum.inr mf))))), (co, Sum.inr (1, [Value.int xcache, Value.int xpending, Value.long xlow, Value.long xrange, Value.long xcodeq_43, Value.long xreadLow, Value.long xreadRangeq_43, Value.ref ri, Value.ref ro, Value.ref rw, Value.int xaskedq_43])), (ri, Sum.inr (0, [Value.int rin, Value.ref ria])), (ria, Sum.inl (cI, rik, Sum.inl rif)), (oo, Sum.inr (7, [Value.int osg, Value.int osmq_43, Value.int ofc, Value.ref oca, Value.ref opa])), (oca, Sum.inl (cI, ol, Sum.inl ocfq_43)), (opa, Sum.inl (cI, opl, Sum.inl opf))]) (va_runV (As := [Value.int r_43]) (rest := []) ⟨hx, hb, hml, hown, hts⟩ (c_RC_itemOrBad l dC dI cI cM cO H.size rc ma k fit fen frd fbd fir mf co r_43) (cwV 1 hts (my_gV k854 k856 ks17 k1 k857) rfl rfl rfl (by decide +kernel) ⟨by rw [hR]; exact Nat.le_of_ble_eq_true rfl, by rw [hR]; exact Nat.le_of_ble_eq_true rfl⟩) (my_preV hK hN (hP.sub [2] rfl) (hD.sub [2] (by decide +kernel) rfl) 0 rfl rfl) rfl rfl hl.1 rfl (lv_room (Nat.le_of_ble_eq_true rfl)) d_RC_get_46 ⟨by rw [hR]; exact Nat.le_of_ble_eq_true rfl, by rw [hR]; exact Nat.le_of_ble_eq_true rfl⟩) hP hD hS hA [2] [0, 1, 3, 4, 5, 6, 7, 8, 9] rfl rfl (by decide +kernel) (by decide +kernel) (fun r_46 u9 H locs hw_46 hP hD hS => ?_)
      obtain ⟨fbdq_46, firq_46⟩ := u9
      have hPD : my_PD (dC, dI) vwCl A [(mo, Sum.inr (8, [Value.ref ka, Value.ref o2, Value.ref oo])), (ka, Sum.inl (cI, kl, Sum.inl kf)), (ma, Sum.inl (cM, 8, Sum.inr (Sum.inr (Sum.inr (Sum.inr mf))))), (co, Sum.inr (1, [Value.int xcache, Value.int xpending, Value.long xlow, Value.long xrange, Value.long xcodeq_43, Value.long xreadLow, Value.long xreadRangeq_43, Value.ref ri, Value.ref ro, Value.ref rw, Value.int xaskedq_43])), (ri, Sum.inr (0, [Value.int rin, Value.ref ria])), (ria, Sum.inl (cI, rik, Sum.inl rif)), (oo, Sum.inr (7, [Value.int osg, Value.int osmq_43, Value.int ofc, Value.ref oca, Value.ref opa])), (oca, Sum.inl (cI, ol, Sum.inl ocfq_43)), (opa, Sum.inl (cI, opl, Sum.inl opf)), (rc, Sum.inr (6, [Value.ref co, Value.ref ma, Value.int (nI k), Value.int fit, Value.int fen, Value.int frd, Value.int fbdq_46, Value.int firq_46]))] H := ⟨hP, hD⟩
      have hP := hPD.1
      have hD := hPD.2
      exact my_iret (v := r_46) hx hb hr (rfl) hlocks hQ hK hS (Nat.le_refl _) (Nat.le_refl _) (fbdq_46, firq_46, xcodeq_43, xreadRangeq_43, xaskedq_43, osmq_43, ocfq_43) (trivial) (hP.sub [9, 2, 3, 4, 5, 0, 1, 6, 7, 8] rfl) (hD.sub [9, 2, 3, 4, 5, 0, 1, 6, 7, 8] (by decide +kernel) rfl) d_RC_get_49
    · refine lv_bipush (v := (-5)) hx hb d_RC_get_29 (by decide) ?_
      refine lv_goto (tgt := 49) hx hb d_RC_get_31 (by decide) ?_
      exact my_iret (v := (-5)) hx hb hr (rfl) hlocks hQ hK hS (Nat.le_refl _) (Nat.le_refl _) (fbd, fir, xcode, xreadRange, xasked, osm, ocf) (trivial) (hP.sub [8, 9, 0, 1, 2, 3, 4, 5, 6, 7] rfl) (hD.sub [8, 9, 0, 1, 2, 3, 4, 5, 6, 7] (by decide +kernel) rfl) d_RC_get_49
  · refine lv_bipush (v := (-3)) hx hb d_RC_get_19 (by decide) ?_
    exact my_iret (v := (-3)) hx hb hr (rfl) hlocks hQ hK hS (Nat.le_refl _) (Nat.le_refl _) (fbd, fir, xcode, xreadRange, xasked, osm, ocf) (trivial) (hP.sub [8, 9, 0, 1, 2, 3, 4, 5, 6, 7] rfl) (hD.sub [8, 9, 0, 1, 2, 3, 4, 5, 6, 7] (by decide +kernel) rfl) d_RC_get_21
set_option maxHeartbeats 2000000 in
set_option maxRecDepth 100000 in
theorem c_RC_getBits_Carries (l : Launch) (dC : Nat → ClassId) (dI : Nat → Nat → Nat) (cI cM cO : ClassId) (sz : Nat) (rc : Nat) (ma : Nat) (k : Nat) (fit : Int32) (fen : Int32) (frd : Int32) (fbd : Int32) (fir : Int32) (mf : Nat → Option Nat) (co : Nat) (xcache : Int32) (xpending : Int32) (xlow : Int64) (xrange : Int64) (xcode : Int64) (xreadLow : Int64) (xreadRange : Int64) (ri : Nat) (ro : Nat) (rw : Nat) (xasked : Int32) (rin : Int32) (ria : Nat) (rik : Nat) (rif : Nat → Int32) (wd : Int32) (hk8 : k ≤ 8) (hri : rOk rin rik) : MetI l y_RC_getBits (Cond.code y_RC_getBits prog_1_method_14_code 2 (some .int) :: gw) ({ frames := 6, cells := 0, slots := 0, locals := 131 } : Room) (dC, dI) vwCl (kT cI cM cO) [Value.ref rc, Value.int wd] [(rc, Sum.inr (6, [Value.ref co, Value.ref ma, Value.int (nI k), Value.int fit, Value.int fen, Value.int frd, Value.int fbd, Value.int fir])), (ma, Sum.inl (cM, 8, Sum.inr (Sum.inr (Sum.inr (Sum.inr mf))))), (co, Sum.inr (1, [Value.int xcache, Value.int xpending, Value.long xlow, Value.long xrange, Value.long xcode, Value.long xreadLow, Value.long xreadRange, Value.ref ri, Value.ref ro, Value.ref rw, Value.int xasked])), (ri, Sum.inr (0, [Value.int rin, Value.ref ria])), (ria, Sum.inl (cI, rik, Sum.inl rif))] sz (fun (r : Int32) (u : Int32 × Int32 × Int64 × Int64 × Int32) => True) (fun (u : Int32 × Int32 × Int64 × Int64 × Int32) => [(rc, Sum.inr (6, [Value.ref co, Value.ref ma, Value.int (nI k), Value.int fit, Value.int fen, Value.int frd, Value.int u.1, Value.int u.2.1])), (ma, Sum.inl (cM, 8, Sum.inr (Sum.inr (Sum.inr (Sum.inr mf))))), (co, Sum.inr (1, [Value.int xcache, Value.int xpending, Value.long xlow, Value.long xrange, Value.long u.2.2.1, Value.long xreadLow, Value.long u.2.2.2.1, Value.ref ri, Value.ref ro, Value.ref rw, Value.int u.2.2.2.2])), (ri, Sum.inr (0, [Value.int rin, Value.ref ria])), (ria, Sum.inl (cI, rik, Sum.inl rif))]) 0 0 := by
  refine my_ofI (cc := prog_1_method_14_code) (n := 2) (ret := (some .int)) (by decide) rfl (Nat.le_of_ble_eq_true rfl) ?_
  intro p e s m args below meth c R Q A ls H locs hx hb hr hts hown hlocks hml hnm hR hQ hA hl hP hK hN hD hS
  have hg : ∀ w ∈ gw, w.before args s = true := fun w h => hts w (List.mem_cons_of_mem _ h)
  have hown : s.vm.findClass "RangeCoders" = some m.cls := hown
  have hl : lv_has ls 2 [(0, Value.ref rc), (1, Value.int wd)] := hl
  have hlt_hri := rOk_lt hri
  refine lv_aload_n hx hb d_RC_getBits_0 rfl (lv_at hl 0 rfl) ?_
  refine va_get (D := (dC, dI)) (ci := 6) (v := .ref co) (C := "RangeCoders") (T := T_RC) (N := 8) hx hb hg in_RC hown hK hP 0 rfl rfl 0 (by decide) (hg _ k258) (fun _ h9 => h9) rfl d_RC_getBits_1 ?_
  refine lv_iload_n hx hb d_RC_getBits_4 rfl (lv_at hl 1 rfl) ?_
  refine my_ci (wr := [(rc, Sum.inr (6, [Value.ref co, Value.ref ma, Value.int (nI k), Value.int fit, Value.int fen, Value.int frd, Value.int fbd, Value.int fir])), (ma, Sum.inl (cM, 8, Sum.inr (Sum.inr (Sum.inr (Sum.inr mf))))), (ri, Sum.inr (0, [Value.int rin, Value.ref ria])), (ria, Sum.inl (cI, rik, Sum.inl rif))]) (va_runU (As := [Value.int wd]) (rest := []) ⟨hx, hb, hml, hown, hts⟩ (c_Carries_Coder_hasWidth l dC dI cI cM cO H.size co xcache xpending xlow xrange xcode xreadLow xreadRange ri ro rw xasked wd) (va_cwU 1 hts (my_gU k543 k545 k547 k544 k3 k553) rfl rfl rfl rfl (by decide +kernel) ⟨by rw [hR]; exact Nat.le_of_ble_eq_true rfl, by rw [hR]; exact Nat.le_of_ble_eq_true rfl⟩) (my_preV hK hN (hP.sub [2] rfl) (hD.sub [2] (by decide +kernel) rfl) 0 rfl rfl) rfl rfl hl.1 rfl (lv_room (Nat.le_of_ble_eq_true rfl)) d_RC_getBits_5 ⟨by rw [hR]; exact Nat.le_of_ble_eq_true rfl, by rw [hR]; exact Nat.le_of_ble_eq_true rfl⟩) hP hD hS hA [2] [0, 1, 3, 4] rfl rfl (by decide +kernel) (by decide +kernel) (fun r_5 u9 H locs hw_5 hP hD hS => ?_)
  have hPD : my_PD (dC, dI) vwCl A [(rc, Sum.inr (6, [Value.ref co, Value.ref ma, Value.int (nI k), Value.int fit, Value.int fen, Value.int frd, Value.int fbd, Value.int fir])), (ma, Sum.inl (cM, 8, Sum.inr (Sum.inr (Sum.inr (Sum.inr mf))))), (ri, Sum.inr (0, [Value.int rin, Value.ref ria])), (ria, Sum.inl (cI, rik, Sum.inl rif)), (co, Sum.inr (1, [Value.int xcache, Value.int xpending, Value.long xlow, Value.long xrange, Value.long xcode, Value.long xreadLow, Value.long xreadRange, Value.ref ri, Value.ref ro, Value.ref rw, Value.int xasked]))] H := ⟨hP, hD⟩
  have hP := hPD.1
  have hD := hPD.2
  refine lv_if_ne (tgt := 14) hx hb d_RC_getBits_8 (by decide) (fun c_1 => ?_) (fun c_1 => ?_)
  · refine lv_aload_n hx hb d_RC_getBits_14 rfl (lv_at hl 0 rfl) ?_
    refine va_get (D := (dC, dI)) (ci := 6) (v := .int frd) (C := "RangeCoders") (T := T_RC) (N := 8) hx hb hg in_RC hown hK hP 0 rfl rfl 5 (by decide) (hg _ k263) (fun _ h9 => h9) rfl d_RC_getBits_15 ?_
    refine lv_if_ne (tgt := 24) hx hb d_RC_getBits_18 (by decide) (fun c_2 => ?_) (fun c_2 => ?_)
    · refine lv_aload_n hx hb d_RC_getBits_24 rfl (lv_at hl 0 rfl) ?_
      refine va_get (D := (dC, dI)) (ci := 6) (v := .int fbd) (C := "RangeCoders") (T := T_RC) (N := 8) hx hb hg in_RC hown hK hP 0 rfl rfl 6 (by decide) (hg _ k264) (fun _ h9 => h9) rfl d_RC_getBits_25 ?_
      refine lv_if_eq (tgt := 36) hx hb d_RC_getBits_28 (by decide) (fun c_3 => ?_) (fun c_3 => ?_)
      · refine lv_aload_n hx hb d_RC_getBits_36 rfl (lv_at hl 0 rfl) ?_
        refine lv_aload_n hx hb d_RC_getBits_37 rfl (lv_at hl 0 rfl) ?_
        refine va_get (D := (dC, dI)) (ci := 6) (v := .ref co) (C := "RangeCoders") (T := T_RC) (N := 8) hx hb hg in_RC hown hK hP 0 rfl rfl 0 (by decide) (hg _ k258) (fun _ h9 => h9) rfl d_RC_getBits_38 ?_
        refine lv_iload_n hx hb d_RC_getBits_41 rfl (lv_at hl 1 rfl) ?_
        refine my_ci (wr := [(rc, Sum.inr (6, [Value.ref co, Value.ref ma, Value.int (nI k), Value.int fit, Value.int fen, Value.int frd, Value.int fbd, Value.int fir])), (ma, Sum.inl (cM, 8, Sum.inr (Sum.inr (Sum.inr (Sum.inr mf)))))]) (va_runU (As := [Value.int wd]) (rest := [Value.ref rc]) ⟨hx, hb, hml, hown, hts⟩ (c_Carries_Ranged_nextValue l dC dI cI cM cO H.size co xcache xpending xlow xrange xcode xreadLow xreadRange ri ro rw xasked rin ria rik rif wd (by first | assumption | omega)) (va_cwA 1 hts (my_gU k862 k864 k868 k869 k4 k870) rfl rfl rfl (hN.1 _ j863 rfl) (by decide +kernel) ⟨by rw [hR]; exact Nat.le_of_ble_eq_true rfl, by rw [hR]; exact Nat.le_of_ble_eq_true rfl⟩) (my_preV hK hN (hP.sub [4, 2, 3] rfl) (hD.sub [4, 2, 3] (by decide +kernel) rfl) 0 rfl rfl) rfl rfl hl.1 rfl (lv_room (Nat.le_of_ble_eq_true rfl)) d_RC_getBits_42 ⟨by rw [hR]; exact Nat.le_of_ble_eq_true rfl, by rw [hR]; exact Nat.le_of_ble_eq_true rfl⟩) hP hD hS hA [4, 2, 3] [0, 1] rfl rfl (by decide +kernel) (by decide +kernel) (fun r_42 u9 H locs hw_42 hP hD hS => ?_)
        obtain ⟨xcodeq_42, xreadRangeq_42, xaskedq_42⟩ := u9
        have hPD : my_PD (dC, dI) vwCl A [(rc, Sum.inr (6, [Value.ref co, Value.ref ma, Value.int (nI k), Value.int fit, Value.int fen, Value.int frd, Value.int fbd, Value.int fir])), (ma, Sum.inl (cM, 8, Sum.inr (Sum.inr (Sum.inr (Sum.inr mf))))), (co, Sum.inr (1, [Value.int xcache, Value.int xpending, Value.long xlow, Value.long xrange, Value.long xcodeq_42, Value.long xreadLow, Value.long xreadRangeq_42, Value.ref ri, Value.ref ro, Value.ref rw, Value.int xaskedq_42])), (ri, Sum.inr (0, [Value.int rin, Value.ref ria])), (ria, Sum.inl (cI, rik, Sum.inl rif))] H := ⟨hP, hD⟩
        have hP := hPD.1
        have hD := hPD.2
        refine my_ci (wr := [(ma, Sum.inl (cM, 8, Sum.inr (Sum.inr (Sum.inr (Sum.inr mf))))), (co, Sum.inr (1, [Value.int xcache, Value.int xpending, Value.long xlow, Value.long xrange, Value.long xcodeq_42, Value.long xreadLow, Value.long xreadRangeq_42, Value.ref ri, Value.ref ro, Value.ref rw, Value.int xaskedq_42])), (ri, Sum.inr (0, [Value.int rin, Value.ref ria])), (ria, Sum.inl (cI, rik, Sum.inl rif))]) (va_runV (As := [Value.int r_42]) (rest := []) ⟨hx, hb, hml, hown, hts⟩ (c_RC_itemOrBad l dC dI cI cM cO H.size rc ma k fit fen frd fbd fir mf co r_42) (cwV 1 hts (my_gV k854 k856 ks17 k1 k857) rfl rfl rfl (by decide +kernel) ⟨by rw [hR]; exact Nat.le_of_ble_eq_true rfl, by rw [hR]; exact Nat.le_of_ble_eq_true rfl⟩) (my_preV hK hN (hP.sub [0] rfl) (hD.sub [0] (by decide +kernel) rfl) 0 rfl rfl) rfl rfl hl.1 rfl (lv_room (Nat.le_of_ble_eq_true rfl)) d_RC_getBits_45 ⟨by rw [hR]; exact Nat.le_of_ble_eq_true rfl, by rw [hR]; exact Nat.le_of_ble_eq_true rfl⟩) hP hD hS hA [0] [1, 2, 3, 4] rfl rfl (by decide +kernel) (by decide +kernel) (fun r_45 u9 H locs hw_45 hP hD hS => ?_)
        obtain ⟨fbdq_45, firq_45⟩ := u9
        have hPD : my_PD (dC, dI) vwCl A [(ma, Sum.inl (cM, 8, Sum.inr (Sum.inr (Sum.inr (Sum.inr mf))))), (co, Sum.inr (1, [Value.int xcache, Value.int xpending, Value.long xlow, Value.long xrange, Value.long xcodeq_42, Value.long xreadLow, Value.long xreadRangeq_42, Value.ref ri, Value.ref ro, Value.ref rw, Value.int xaskedq_42])), (ri, Sum.inr (0, [Value.int rin, Value.ref ria])), (ria, Sum.inl (cI, rik, Sum.inl rif)), (rc, Sum.inr (6, [Value.ref co, Value.ref ma, Value.int (nI k), Value.int fit, Value.int fen, Value.int frd, Value.int fbdq_45, Value.int firq_45]))] H := ⟨hP, hD⟩
        have hP := hPD.1
        have hD := hPD.2
        exact my_iret (v := r_45) hx hb hr (rfl) hlocks hQ hK hS (Nat.le_refl _) (Nat.le_refl _) (fbdq_45, firq_45, xcodeq_42, xreadRangeq_42, xaskedq_42) (trivial) (hP.sub [4, 0, 1, 2, 3] rfl) (hD.sub [4, 0, 1, 2, 3] (by decide +kernel) rfl) d_RC_getBits_48
      · refine lv_bipush (v := (-5)) hx hb d_RC_getBits_31 (by decide) ?_
        refine lv_goto (tgt := 48) hx hb d_RC_getBits_33 (by decide) ?_
        exact my_iret (v := (-5)) hx hb hr (rfl) hlocks hQ hK hS (Nat.le_refl _) (Nat.le_refl _) (fbd, fir, xcode, xreadRange, xasked) (trivial) (hP.sub [0, 1, 4, 2, 3] rfl) (hD.sub [0, 1, 4, 2, 3] (by decide +kernel) rfl) d_RC_getBits_48
    · refine lv_bipush (v := (-3)) hx hb d_RC_getBits_21 (by decide) ?_
      exact my_iret (v := (-3)) hx hb hr (rfl) hlocks hQ hK hS (Nat.le_refl _) (Nat.le_refl _) (fbd, fir, xcode, xreadRange, xasked) (trivial) (hP.sub [0, 1, 4, 2, 3] rfl) (hD.sub [0, 1, 4, 2, 3] (by decide +kernel) rfl) d_RC_getBits_23
  · refine lv_bipush (v := (-2)) hx hb d_RC_getBits_11 (by decide) ?_
    exact my_iret (v := (-2)) hx hb hr (rfl) hlocks hQ hK hS (Nat.le_refl _) (Nat.le_refl _) (fbd, fir, xcode, xreadRange, xasked) (trivial) (hP.sub [0, 1, 4, 2, 3] rfl) (hD.sub [0, 1, 4, 2, 3] (by decide +kernel) rfl) d_RC_getBits_13
set_option maxHeartbeats 2000000 in
set_option maxRecDepth 100000 in
theorem c_RC_told_Carries (l : Launch) (dC : Nat → ClassId) (dI : Nat → Nat → Nat) (cI cM cO : ClassId) (sz : Nat) (rc : Nat) (ma : Nat) (k : Nat) (fit : Int32) (fen : Int32) (frd : Int32) (fbd : Int32) (fir : Int32) (mf : Nat → Option Nat) (co : Nat) (xcache : Int32) (xpending : Int32) (xlow : Int64) (xrange : Int64) (xcode : Int64) (xreadLow : Int64) (xreadRange : Int64) (ri : Nat) (ro : Nat) (rw : Nat) (xasked : Int32) (rin : Int32) (ria : Nat) (rik : Nat) (rif : Nat → Int32) (ron : Int32) (roa : Nat) (rok : Nat) (rof : Nat → Int32) (wh : Int32) (hk8 : k ≤ 8) (hri : rOk rin rik) (hro : rOk ron rok) : MetI l y_RC_told (Cond.code y_RC_told prog_1_method_15_code 2 (some .int) :: gw) ({ frames := 1, cells := 0, slots := 0, locals := 20 } : Room) (dC, dI) vwCl (kT cI cM cO) [Value.ref rc, Value.int wh] [(rc, Sum.inr (6, [Value.ref co, Value.ref ma, Value.int (nI k), Value.int fit, Value.int fen, Value.int frd, Value.int fbd, Value.int fir])), (ma, Sum.inl (cM, 8, Sum.inr (Sum.inr (Sum.inr (Sum.inr mf))))), (co, Sum.inr (1, [Value.int xcache, Value.int xpending, Value.long xlow, Value.long xrange, Value.long xcode, Value.long xreadLow, Value.long xreadRange, Value.ref ri, Value.ref ro, Value.ref rw, Value.int xasked])), (ri, Sum.inr (0, [Value.int rin, Value.ref ria])), (ria, Sum.inl (cI, rik, Sum.inl rif)), (ro, Sum.inr (0, [Value.int ron, Value.ref roa])), (roa, Sum.inl (cI, rok, Sum.inl rof))] sz (fun (r : Int32) (u : Unit) => True) (fun (u : Unit) => [(rc, Sum.inr (6, [Value.ref co, Value.ref ma, Value.int (nI k), Value.int fit, Value.int fen, Value.int frd, Value.int fbd, Value.int fir])), (ma, Sum.inl (cM, 8, Sum.inr (Sum.inr (Sum.inr (Sum.inr mf))))), (co, Sum.inr (1, [Value.int xcache, Value.int xpending, Value.long xlow, Value.long xrange, Value.long xcode, Value.long xreadLow, Value.long xreadRange, Value.ref ri, Value.ref ro, Value.ref rw, Value.int xasked])), (ri, Sum.inr (0, [Value.int rin, Value.ref ria])), (ria, Sum.inl (cI, rik, Sum.inl rif)), (ro, Sum.inr (0, [Value.int ron, Value.ref roa])), (roa, Sum.inl (cI, rok, Sum.inl rof))]) 0 0 := by
  refine my_ofI (cc := prog_1_method_15_code) (n := 2) (ret := (some .int)) (by decide) rfl (Nat.le_of_ble_eq_true rfl) ?_
  intro p e s m args below meth c R Q A ls H locs hx hb hr hts hown hlocks hml hnm hR hQ hA hl hP hK hN hD hS
  have hg : ∀ w ∈ gw, w.before args s = true := fun w h => hts w (List.mem_cons_of_mem _ h)
  have hown : s.vm.findClass "RangeCoders" = some m.cls := hown
  have hl : lv_has ls 2 [(0, Value.ref rc), (1, Value.int wh)] := hl
  have hlt_hri := rOk_lt hri
  have hlt_hro := rOk_lt hro
  refine lv_iload_n hx hb d_RC_told_0 rfl (lv_at hl 1 rfl) ?_
  refine lv_if_lt (tgt := 10) hx hb d_RC_told_1 (by decide) (fun c_1 => ?_) (fun c_1 => ?_)
  · refine lv_bipush (v := (-2)) hx hb d_RC_told_10 (by decide) ?_
    exact my_iret (v := (-2)) hx hb hr (rfl) hlocks hQ hK hS (Nat.le_refl _) (Nat.le_refl _) () (trivial) (hP.sub [0, 1, 2, 3, 4, 5, 6] rfl) (hD.sub [0, 1, 2, 3, 4, 5, 6] (by decide +kernel) rfl) d_RC_told_12
  · refine lv_iload_n hx hb d_RC_told_4 rfl (lv_at hl 1 rfl) ?_
    refine lv_bipush (v := 7) hx hb d_RC_told_5 (by decide) ?_
    refine lv_icmp_le (tgt := 13) hx hb d_RC_told_7 (by decide) (fun c_2 => ?_) (fun c_2 => ?_)
    · refine lv_iload_n hx hb d_RC_told_13 rfl (lv_at hl 1 rfl) ?_
      by_cases c_3 : wh = 0
      · refine lv_tableIn (tgt := 56) hx hb d_RC_told_14 (by rw [c_3]; decide) (by rw [c_3]; decide) (by rw [c_3]; rfl) (by decide) ?_
        refine lv_aload_n hx hb d_RC_told_56 rfl (lv_at hl 0 rfl) ?_
        refine va_get (D := (dC, dI)) (ci := 6) (v := .int fit) (C := "RangeCoders") (T := T_RC) (N := 8) hx hb hg in_RC hown hK hP 0 rfl rfl 3 (by decide) (hg _ k261) (fun _ h9 => h9) rfl d_RC_told_57 ?_
        exact my_iret (v := fit) hx hb hr (rfl) hlocks hQ hK hS (Nat.le_refl _) (Nat.le_refl _) () (trivial) (hP.sub [0, 1, 2, 3, 4, 5, 6] rfl) (hD.sub [0, 1, 2, 3, 4, 5, 6] (by decide +kernel) rfl) d_RC_told_60
      by_cases c_4 : wh = 1
      · refine lv_tableIn (tgt := 61) hx hb d_RC_told_14 (by rw [c_4]; decide) (by rw [c_4]; decide) (by rw [c_4]; rfl) (by decide) ?_
        refine lv_aload_n hx hb d_RC_told_61 rfl (lv_at hl 0 rfl) ?_
        refine va_get (D := (dC, dI)) (ci := 6) (v := .int fen) (C := "RangeCoders") (T := T_RC) (N := 8) hx hb hg in_RC hown hK hP 0 rfl rfl 4 (by decide) (hg _ k262) (fun _ h9 => h9) rfl d_RC_told_62 ?_
        refine lv_if_eq (tgt := 72) hx hb d_RC_told_65 (by decide) (fun c_5 => ?_) (fun c_5 => ?_)
        · refine lv_iconst (v := 0) hx hb d_RC_told_72 (by decide) ?_
          exact my_iret (v := 0) hx hb hr (rfl) hlocks hQ hK hS (Nat.le_refl _) (Nat.le_refl _) () (trivial) (hP.sub [0, 1, 2, 3, 4, 5, 6] rfl) (hD.sub [0, 1, 2, 3, 4, 5, 6] (by decide +kernel) rfl) d_RC_told_73
        · refine lv_iconst (v := 1) hx hb d_RC_told_68 (by decide) ?_
          refine lv_goto (tgt := 73) hx hb d_RC_told_69 (by decide) ?_
          exact my_iret (v := 1) hx hb hr (rfl) hlocks hQ hK hS (Nat.le_refl _) (Nat.le_refl _) () (trivial) (hP.sub [0, 1, 2, 3, 4, 5, 6] rfl) (hD.sub [0, 1, 2, 3, 4, 5, 6] (by decide +kernel) rfl) d_RC_told_73
      by_cases c_6 : wh = 2
      · refine lv_tableIn (tgt := 74) hx hb d_RC_told_14 (by rw [c_6]; decide) (by rw [c_6]; decide) (by rw [c_6]; rfl) (by decide) ?_
        refine lv_aload_n hx hb d_RC_told_74 rfl (lv_at hl 0 rfl) ?_
        refine va_get (D := (dC, dI)) (ci := 6) (v := .ref co) (C := "RangeCoders") (T := T_RC) (N := 8) hx hb hg in_RC hown hK hP 0 rfl rfl 0 (by decide) (hg _ k258) (fun _ h9 => h9) rfl d_RC_told_75 ?_
        refine va_get (D := (dC, dI)) (ci := 1) (v := .ref ro) (C := "RangeCoders$Carries") (T := T_Carries) (N := 11) hx hb hg in_Carries hown hK hP 2 rfl rfl 8 (by decide) (hg _ k108) (fun _ h9 => h9) rfl d_RC_told_78 ?_
        refine va_get (D := (dC, dI)) (ci := 0) (v := .int ron) (C := "RangeCoders$Row") (T := T_Row) (N := 2) hx hb hg in_Row hown hK hP 5 rfl rfl 0 (by decide) (hg _ k58) (fun _ h9 => h9) rfl d_RC_told_81 ?_
        exact my_iret (v := ron) hx hb hr (rfl) hlocks hQ hK hS (Nat.le_refl _) (Nat.le_refl _) () (trivial) (hP.sub [0, 1, 2, 3, 4, 5, 6] rfl) (hD.sub [0, 1, 2, 3, 4, 5, 6] (by decide +kernel) rfl) d_RC_told_84
      by_cases c_7 : wh = 3
      · refine lv_tableIn (tgt := 85) hx hb d_RC_told_14 (by rw [c_7]; decide) (by rw [c_7]; decide) (by rw [c_7]; rfl) (by decide) ?_
        refine lv_aload_n hx hb d_RC_told_85 rfl (lv_at hl 0 rfl) ?_
        refine va_get (D := (dC, dI)) (ci := 6) (v := .ref co) (C := "RangeCoders") (T := T_RC) (N := 8) hx hb hg in_RC hown hK hP 0 rfl rfl 0 (by decide) (hg _ k258) (fun _ h9 => h9) rfl d_RC_told_86 ?_
        refine va_get (D := (dC, dI)) (ci := 1) (v := .ref ri) (C := "RangeCoders$Carries") (T := T_Carries) (N := 11) hx hb hg in_Carries hown hK hP 2 rfl rfl 7 (by decide) (hg _ k102) (fun _ h9 => h9) rfl d_RC_told_89 ?_
        refine va_get (D := (dC, dI)) (ci := 0) (v := .int rin) (C := "RangeCoders$Row") (T := T_Row) (N := 2) hx hb hg in_Row hown hK hP 3 rfl rfl 0 (by decide) (hg _ k58) (fun _ h9 => h9) rfl d_RC_told_92 ?_
        exact my_iret (v := rin) hx hb hr (rfl) hlocks hQ hK hS (Nat.le_refl _) (Nat.le_refl _) () (trivial) (hP.sub [0, 1, 2, 3, 4, 5, 6] rfl) (hD.sub [0, 1, 2, 3, 4, 5, 6] (by decide +kernel) rfl) d_RC_told_95
      by_cases c_8 : wh = 4
      · refine lv_tableIn (tgt := 96) hx hb d_RC_told_14 (by rw [c_8]; decide) (by rw [c_8]; decide) (by rw [c_8]; rfl) (by decide) ?_
        refine lv_aload_n hx hb d_RC_told_96 rfl (lv_at hl 0 rfl) ?_
        refine va_get (D := (dC, dI)) (ci := 6) (v := .int fir) (C := "RangeCoders") (T := T_RC) (N := 8) hx hb hg in_RC hown hK hP 0 rfl rfl 7 (by decide) (hg _ k265) (fun _ h9 => h9) rfl d_RC_told_97 ?_
        exact my_iret (v := fir) hx hb hr (rfl) hlocks hQ hK hS (Nat.le_refl _) (Nat.le_refl _) () (trivial) (hP.sub [0, 1, 2, 3, 4, 5, 6] rfl) (hD.sub [0, 1, 2, 3, 4, 5, 6] (by decide +kernel) rfl) d_RC_told_100
      by_cases c_9 : wh = 5
      · refine lv_tableIn (tgt := 101) hx hb d_RC_told_14 (by rw [c_9]; decide) (by rw [c_9]; decide) (by rw [c_9]; rfl) (by decide) ?_
        refine lv_aload_n hx hb d_RC_told_101 rfl (lv_at hl 0 rfl) ?_
        refine va_get (D := (dC, dI)) (ci := 6) (v := .int frd) (C := "RangeCoders") (T := T_RC) (N := 8) hx hb hg in_RC hown hK hP 0 rfl rfl 5 (by decide) (hg _ k263) (fun _ h9 => h9) rfl d_RC_told_102 ?_
        refine lv_if_eq (tgt := 118) hx hb d_RC_told_105 (by decide) (fun c_10 => ?_) (fun c_10 => ?_)
        · refine lv_iconst (v := 0) hx hb d_RC_told_118 (by decide) ?_
          exact my_iret (v := 0) hx hb hr (rfl) hlocks hQ hK hS (Nat.le_refl _) (Nat.le_refl _) () (trivial) (hP.sub [0, 1, 2, 3, 4, 5, 6] rfl) (hD.sub [0, 1, 2, 3, 4, 5, 6] (by decide +kernel) rfl) d_RC_told_119
        · refine lv_aload_n hx hb d_RC_told_108 rfl (lv_at hl 0 rfl) ?_
          refine va_get (D := (dC, dI)) (ci := 6) (v := .ref co) (C := "RangeCoders") (T := T_RC) (N := 8) hx hb hg in_RC hown hK hP 0 rfl rfl 0 (by decide) (hg _ k258) (fun _ h9 => h9) rfl d_RC_told_109 ?_
          refine my_ci (wr := [(rc, Sum.inr (6, [Value.ref co, Value.ref ma, Value.int (nI k), Value.int fit, Value.int fen, Value.int frd, Value.int fbd, Value.int fir])), (ma, Sum.inl (cM, 8, Sum.inr (Sum.inr (Sum.inr (Sum.inr mf))))), (ri, Sum.inr (0, [Value.int rin, Value.ref ria])), (ria, Sum.inl (cI, rik, Sum.inl rif)), (ro, Sum.inr (0, [Value.int ron, Value.ref roa])), (roa, Sum.inl (cI, rok, Sum.inl rof))]) (va_runU (As := []) (rest := []) ⟨hx, hb, hml, hown, hts⟩ (c_Carries_Coder_bytesAsked l dC dI cI cM cO H.size co xcache xpending xlow xrange xcode xreadLow xreadRange ri ro rw xasked) (va_cwU 0 hts (my_gU k880 k882 k884 k881 k3 k890) rfl rfl rfl rfl (by decide +kernel) ⟨by rw [hR]; exact Nat.le_of_ble_eq_true rfl, by rw [hR]; exact Nat.le_of_ble_eq_true rfl⟩) (my_preV hK hN (hP.sub [2] rfl) (hD.sub [2] (by decide +kernel) rfl) 0 rfl rfl) rfl rfl hl.1 rfl (lv_room (Nat.le_of_ble_eq_true rfl)) d_RC_told_112 ⟨by rw [hR]; exact Nat.le_of_ble_eq_true rfl, by rw [hR]; exact Nat.le_of_ble_eq_true rfl⟩) hP hD hS hA [2] [0, 1, 3, 4, 5, 6] rfl rfl (by decide +kernel) (by decide +kernel) (fun r_112 u9 H locs hw_112 hP hD hS => ?_)
          have hPD : my_PD (dC, dI) vwCl A [(rc, Sum.inr (6, [Value.ref co, Value.ref ma, Value.int (nI k), Value.int fit, Value.int fen, Value.int frd, Value.int fbd, Value.int fir])), (ma, Sum.inl (cM, 8, Sum.inr (Sum.inr (Sum.inr (Sum.inr mf))))), (ri, Sum.inr (0, [Value.int rin, Value.ref ria])), (ria, Sum.inl (cI, rik, Sum.inl rif)), (ro, Sum.inr (0, [Value.int ron, Value.ref roa])), (roa, Sum.inl (cI, rok, Sum.inl rof)), (co, Sum.inr (1, [Value.int xcache, Value.int xpending, Value.long xlow, Value.long xrange, Value.long xcode, Value.long xreadLow, Value.long xreadRange, Value.ref ri, Value.ref ro, Value.ref rw, Value.int xasked]))] H := ⟨hP, hD⟩
          have hP := hPD.1
          have hD := hPD.2
          refine lv_goto (tgt := 119) hx hb d_RC_told_115 (by decide) ?_
          exact my_iret (v := r_112) hx hb hr (rfl) hlocks hQ hK hS (Nat.le_refl _) (Nat.le_refl _) () (trivial) (hP.sub [0, 1, 6, 2, 3, 4, 5] rfl) (hD.sub [0, 1, 6, 2, 3, 4, 5] (by decide +kernel) rfl) d_RC_told_119
      by_cases c_11 : wh = 6
      · refine lv_tableIn (tgt := 120) hx hb d_RC_told_14 (by rw [c_11]; decide) (by rw [c_11]; decide) (by rw [c_11]; rfl) (by decide) ?_
        refine lv_aload_n hx hb d_RC_told_120 rfl (lv_at hl 0 rfl) ?_
        refine va_get (D := (dC, dI)) (ci := 6) (v := .int fbd) (C := "RangeCoders") (T := T_RC) (N := 8) hx hb hg in_RC hown hK hP 0 rfl rfl 6 (by decide) (hg _ k264) (fun _ h9 => h9) rfl d_RC_told_121 ?_
        refine lv_if_eq (tgt := 131) hx hb d_RC_told_124 (by decide) (fun c_12 => ?_) (fun c_12 => ?_)
        · refine lv_iconst (v := 0) hx hb d_RC_told_131 (by decide) ?_
          exact my_iret (v := 0) hx hb hr (rfl) hlocks hQ hK hS (Nat.le_refl _) (Nat.le_refl _) () (trivial) (hP.sub [0, 1, 2, 3, 4, 5, 6] rfl) (hD.sub [0, 1, 2, 3, 4, 5, 6] (by decide +kernel) rfl) d_RC_told_132
        · refine lv_iconst (v := 1) hx hb d_RC_told_127 (by decide) ?_
          refine lv_goto (tgt := 132) hx hb d_RC_told_128 (by decide) ?_
          exact my_iret (v := 1) hx hb hr (rfl) hlocks hQ hK hS (Nat.le_refl _) (Nat.le_refl _) () (trivial) (hP.sub [0, 1, 2, 3, 4, 5, 6] rfl) (hD.sub [0, 1, 2, 3, 4, 5, 6] (by decide +kernel) rfl) d_RC_told_132
      refine lv_tableOut (tgt := 133) hx hb d_RC_told_14 (by have ac_3 : wh.toInt ≠ 0 := fun z => c_3 (Int32.toInt_inj.mp z); have ac_4 : wh.toInt ≠ 1 := fun z => c_4 (Int32.toInt_inj.mp z); have ac_6 : wh.toInt ≠ 2 := fun z => c_6 (Int32.toInt_inj.mp z); have ac_7 : wh.toInt ≠ 3 := fun z => c_7 (Int32.toInt_inj.mp z); have ac_8 : wh.toInt ≠ 4 := fun z => c_8 (Int32.toInt_inj.mp z); have ac_9 : wh.toInt ≠ 5 := fun z => c_9 (Int32.toInt_inj.mp z); have ac_11 : wh.toInt ≠ 6 := fun z => c_11 (Int32.toInt_inj.mp z); omega) (by decide) ?_
      refine lv_aload_n hx hb d_RC_told_133 rfl (lv_at hl 0 rfl) ?_
      refine va_get (D := (dC, dI)) (ci := 6) (v := .int frd) (C := "RangeCoders") (T := T_RC) (N := 8) hx hb hg in_RC hown hK hP 0 rfl rfl 5 (by decide) (hg _ k263) (fun _ h9 => h9) rfl d_RC_told_134 ?_
      refine lv_if_eq (tgt := 144) hx hb d_RC_told_137 (by decide) (fun c_13 => ?_) (fun c_13 => ?_)
      · refine lv_iconst (v := 0) hx hb d_RC_told_144 (by decide) ?_
        exact my_iret (v := 0) hx hb hr (rfl) hlocks hQ hK hS (Nat.le_refl _) (Nat.le_refl _) () (trivial) (hP.sub [0, 1, 2, 3, 4, 5, 6] rfl) (hD.sub [0, 1, 2, 3, 4, 5, 6] (by decide +kernel) rfl) d_RC_told_145
      · refine lv_iconst (v := 1) hx hb d_RC_told_140 (by decide) ?_
        refine lv_goto (tgt := 145) hx hb d_RC_told_141 (by decide) ?_
        exact my_iret (v := 1) hx hb hr (rfl) hlocks hQ hK hS (Nat.le_refl _) (Nat.le_refl _) () (trivial) (hP.sub [0, 1, 2, 3, 4, 5, 6] rfl) (hD.sub [0, 1, 2, 3, 4, 5, 6] (by decide +kernel) rfl) d_RC_told_145
    · refine lv_bipush (v := (-2)) hx hb d_RC_told_10 (by decide) ?_
      exact my_iret (v := (-2)) hx hb hr (rfl) hlocks hQ hK hS (Nat.le_refl _) (Nat.le_refl _) () (trivial) (hP.sub [0, 1, 2, 3, 4, 5, 6] rfl) (hD.sub [0, 1, 2, 3, 4, 5, 6] (by decide +kernel) rfl) d_RC_told_12
set_option maxHeartbeats 2000000 in
set_option maxRecDepth 100000 in
theorem c_RC_state_Carries (l : Launch) (dC : Nat → ClassId) (dI : Nat → Nat → Nat) (cI cM cO : ClassId) (sz : Nat) (rc : Nat) (ma : Nat) (k : Nat) (fit : Int32) (fen : Int32) (frd : Int32) (fbd : Int32) (fir : Int32) (mf : Nat → Option Nat) (co : Nat) (xcache : Int32) (xpending : Int32) (xlow : Int64) (xrange : Int64) (xcode : Int64) (xreadLow : Int64) (xreadRange : Int64) (ri : Nat) (ro : Nat) (rw : Nat) (xasked : Int32) (wh : Int32) (hk8 : k ≤ 8) : MetL l y_RC_state (Cond.code y_RC_state prog_1_method_16_code 2 (some .long) :: gw) ({ frames := 1, cells := 0, slots := 0, locals := 21 } : Room) (dC, dI) vwCl (kT cI cM cO) [Value.ref rc, Value.int wh] [(rc, Sum.inr (6, [Value.ref co, Value.ref ma, Value.int (nI k), Value.int fit, Value.int fen, Value.int frd, Value.int fbd, Value.int fir])), (ma, Sum.inl (cM, 8, Sum.inr (Sum.inr (Sum.inr (Sum.inr mf))))), (co, Sum.inr (1, [Value.int xcache, Value.int xpending, Value.long xlow, Value.long xrange, Value.long xcode, Value.long xreadLow, Value.long xreadRange, Value.ref ri, Value.ref ro, Value.ref rw, Value.int xasked]))] sz (fun (r : Int64) (u : Unit) => True) (fun (u : Unit) => [(rc, Sum.inr (6, [Value.ref co, Value.ref ma, Value.int (nI k), Value.int fit, Value.int fen, Value.int frd, Value.int fbd, Value.int fir])), (ma, Sum.inl (cM, 8, Sum.inr (Sum.inr (Sum.inr (Sum.inr mf))))), (co, Sum.inr (1, [Value.int xcache, Value.int xpending, Value.long xlow, Value.long xrange, Value.long xcode, Value.long xreadLow, Value.long xreadRange, Value.ref ri, Value.ref ro, Value.ref rw, Value.int xasked]))]) 0 0 := by
  refine my_ofL (cc := prog_1_method_16_code) (n := 2) (ret := (some .long)) (by decide) rfl (Nat.le_of_ble_eq_true rfl) ?_
  intro p e s m args below meth c R Q A ls H locs hx hb hr hts hown hlocks hml hnm hR hQ hA hl hP hK hN hD hS
  have hg : ∀ w ∈ gw, w.before args s = true := fun w h => hts w (List.mem_cons_of_mem _ h)
  have hown : s.vm.findClass "RangeCoders" = some m.cls := hown
  have hl : lv_has ls 2 [(0, Value.ref rc), (1, Value.int wh)] := hl
  refine lv_iload_n hx hb d_RC_state_0 rfl (lv_at hl 1 rfl) ?_
  refine lv_if_lt (tgt := 9) hx hb d_RC_state_1 (by decide) (fun c_1 => ?_) (fun c_1 => ?_)
  · refine lv_ldc2 (v := (-2)) hx hb hown (hg _ k895) d_RC_state_9 ?_
    exact my_lret (v := (-2)) hx hb hr hlocks hQ hK hS (Nat.le_refl _) (Nat.le_refl _) () (trivial) (hP.sub [0, 1, 2] rfl) (hD.sub [0, 1, 2] (by decide +kernel) rfl) d_RC_state_12
  · refine lv_iload_n hx hb d_RC_state_4 rfl (lv_at hl 1 rfl) ?_
    refine lv_iconst (v := 5) hx hb d_RC_state_5 (by decide) ?_
    refine lv_icmp_le (tgt := 13) hx hb d_RC_state_6 (by decide) (fun c_2 => ?_) (fun c_2 => ?_)
    · refine lv_iload_n hx hb d_RC_state_13 rfl (lv_at hl 1 rfl) ?_
      refine lv_iconst (v := 1) hx hb d_RC_state_14 (by decide) ?_
      refine lv_icmp_le (tgt := 27) hx hb d_RC_state_15 (by decide) (fun c_3 => ?_) (fun c_3 => ?_)
      · refine lv_aload_n hx hb d_RC_state_27 rfl (lv_at hl 0 rfl) ?_
        refine va_get (D := (dC, dI)) (ci := 6) (v := .ref co) (C := "RangeCoders") (T := T_RC) (N := 8) hx hb hg in_RC hown hK hP 0 rfl rfl 0 (by decide) (hg _ k258) (fun _ h9 => h9) rfl d_RC_state_28 ?_
        refine lv_iload_n hx hb d_RC_state_31 rfl (lv_at hl 1 rfl) ?_
        refine my_cl (wr := [(rc, Sum.inr (6, [Value.ref co, Value.ref ma, Value.int (nI k), Value.int fit, Value.int fen, Value.int frd, Value.int fbd, Value.int fir])), (ma, Sum.inl (cM, 8, Sum.inr (Sum.inr (Sum.inr (Sum.inr mf)))))]) (va_runU (As := [Value.int wh]) (rest := []) ⟨hx, hb, hml, hown, hts⟩ (c_Carries_Ranged_register l dC dI cI cM cO H.size co xcache xpending xlow xrange xcode xreadLow xreadRange ri ro rw xasked wh) (va_cwA 1 hts (my_gU k896 k898 k902 k900 k4 k901) rfl rfl rfl (hN.1 _ j897 rfl) (by decide +kernel) ⟨by rw [hR]; exact Nat.le_of_ble_eq_true rfl, by rw [hR]; exact Nat.le_of_ble_eq_true rfl⟩) (my_preV hK hN (hP.sub [2] rfl) (hD.sub [2] (by decide +kernel) rfl) 0 rfl rfl) rfl rfl hl.1 rfl (lv_room (Nat.le_of_ble_eq_true rfl)) d_RC_state_32 ⟨by rw [hR]; exact Nat.le_of_ble_eq_true rfl, by rw [hR]; exact Nat.le_of_ble_eq_true rfl⟩) hP hD hS hA [2] [0, 1] rfl rfl (by decide +kernel) (by decide +kernel) (fun r_32 u9 H locs hw_32 hP hD hS => ?_)
        have hPD : my_PD (dC, dI) vwCl A [(rc, Sum.inr (6, [Value.ref co, Value.ref ma, Value.int (nI k), Value.int fit, Value.int fen, Value.int frd, Value.int fbd, Value.int fir])), (ma, Sum.inl (cM, 8, Sum.inr (Sum.inr (Sum.inr (Sum.inr mf))))), (co, Sum.inr (1, [Value.int xcache, Value.int xpending, Value.long xlow, Value.long xrange, Value.long xcode, Value.long xreadLow, Value.long xreadRange, Value.ref ri, Value.ref ro, Value.ref rw, Value.int xasked]))] H := ⟨hP, hD⟩
        have hP := hPD.1
        have hD := hPD.2
        exact my_lret (v := r_32) hx hb hr hlocks hQ hK hS (Nat.le_refl _) (Nat.le_refl _) () (trivial) (hP.sub [0, 1, 2] rfl) (hD.sub [0, 1, 2] (by decide +kernel) rfl) d_RC_state_35
      · refine lv_aload_n hx hb d_RC_state_18 rfl (lv_at hl 0 rfl) ?_
        refine va_get (D := (dC, dI)) (ci := 6) (v := .int frd) (C := "RangeCoders") (T := T_RC) (N := 8) hx hb hg in_RC hown hK hP 0 rfl rfl 5 (by decide) (hg _ k263) (fun _ h9 => h9) rfl d_RC_state_19 ?_
        refine lv_if_ne (tgt := 27) hx hb d_RC_state_22 (by decide) (fun c_4 => ?_) (fun c_4 => ?_)
        · refine lv_aload_n hx hb d_RC_state_27 rfl (lv_at hl 0 rfl) ?_
          refine va_get (D := (dC, dI)) (ci := 6) (v := .ref co) (C := "RangeCoders") (T := T_RC) (N := 8) hx hb hg in_RC hown hK hP 0 rfl rfl 0 (by decide) (hg _ k258) (fun _ h9 => h9) rfl d_RC_state_28 ?_
          refine lv_iload_n hx hb d_RC_state_31 rfl (lv_at hl 1 rfl) ?_
          refine my_cl (wr := [(rc, Sum.inr (6, [Value.ref co, Value.ref ma, Value.int (nI k), Value.int fit, Value.int fen, Value.int frd, Value.int fbd, Value.int fir])), (ma, Sum.inl (cM, 8, Sum.inr (Sum.inr (Sum.inr (Sum.inr mf)))))]) (va_runU (As := [Value.int wh]) (rest := []) ⟨hx, hb, hml, hown, hts⟩ (c_Carries_Ranged_register l dC dI cI cM cO H.size co xcache xpending xlow xrange xcode xreadLow xreadRange ri ro rw xasked wh) (va_cwA 1 hts (my_gU k896 k898 k902 k900 k4 k901) rfl rfl rfl (hN.1 _ j897 rfl) (by decide +kernel) ⟨by rw [hR]; exact Nat.le_of_ble_eq_true rfl, by rw [hR]; exact Nat.le_of_ble_eq_true rfl⟩) (my_preV hK hN (hP.sub [2] rfl) (hD.sub [2] (by decide +kernel) rfl) 0 rfl rfl) rfl rfl hl.1 rfl (lv_room (Nat.le_of_ble_eq_true rfl)) d_RC_state_32 ⟨by rw [hR]; exact Nat.le_of_ble_eq_true rfl, by rw [hR]; exact Nat.le_of_ble_eq_true rfl⟩) hP hD hS hA [2] [0, 1] rfl rfl (by decide +kernel) (by decide +kernel) (fun r_32 u9 H locs hw_32 hP hD hS => ?_)
          have hPD : my_PD (dC, dI) vwCl A [(rc, Sum.inr (6, [Value.ref co, Value.ref ma, Value.int (nI k), Value.int fit, Value.int fen, Value.int frd, Value.int fbd, Value.int fir])), (ma, Sum.inl (cM, 8, Sum.inr (Sum.inr (Sum.inr (Sum.inr mf))))), (co, Sum.inr (1, [Value.int xcache, Value.int xpending, Value.long xlow, Value.long xrange, Value.long xcode, Value.long xreadLow, Value.long xreadRange, Value.ref ri, Value.ref ro, Value.ref rw, Value.int xasked]))] H := ⟨hP, hD⟩
          have hP := hPD.1
          have hD := hPD.2
          exact my_lret (v := r_32) hx hb hr hlocks hQ hK hS (Nat.le_refl _) (Nat.le_refl _) () (trivial) (hP.sub [0, 1, 2] rfl) (hD.sub [0, 1, 2] (by decide +kernel) rfl) d_RC_state_35
        · refine lv_lconst (v := 0) hx hb d_RC_state_25 (by decide) ?_
          exact my_lret (v := 0) hx hb hr hlocks hQ hK hS (Nat.le_refl _) (Nat.le_refl _) () (trivial) (hP.sub [0, 1, 2] rfl) (hD.sub [0, 1, 2] (by decide +kernel) rfl) d_RC_state_26
    · refine lv_ldc2 (v := (-2)) hx hb hown (hg _ k895) d_RC_state_9 ?_
      exact my_lret (v := (-2)) hx hb hr hlocks hQ hK hS (Nat.le_refl _) (Nat.le_refl _) () (trivial) (hP.sub [0, 1, 2] rfl) (hD.sub [0, 1, 2] (by decide +kernel) rfl) d_RC_state_12
set_option maxHeartbeats 2000000 in
set_option maxRecDepth 100000 in
theorem c_RC_modelA_Carries (l : Launch) (dC : Nat → ClassId) (dI : Nat → Nat → Nat) (cI cM cO : ClassId) (sz : Nat) (rc : Nat) (ma : Nat) (k : Nat) (fit : Int32) (fen : Int32) (frd : Int32) (fbd : Int32) (fir : Int32) (mf : Nat → Option Nat) (co : Nat) (xcache : Int32) (xpending : Int32) (xlow : Int64) (xrange : Int64) (xcode : Int64) (xreadLow : Int64) (xreadRange : Int64) (ri : Nat) (ro : Nat) (rw : Nat) (xasked : Int32) (nn : Int32) (hrf : nn < 2 ∨ 64 < nn) : MetI l y_RC_model (Cond.code y_RC_model prog_1_method_2_code 3 (some .int) :: gw) ({ frames := 0, cells := 0, slots := 0, locals := 0 } : Room) (dC, dI) vwCl (kT cI cM cO) [Value.ref rc, Value.int nn] [(rc, Sum.inr (6, [Value.ref co, Value.ref ma, Value.int (nI k), Value.int fit, Value.int fen, Value.int frd, Value.int fbd, Value.int fir])), (ma, Sum.inl (cM, 8, Sum.inr (Sum.inr (Sum.inr (Sum.inr mf))))), (co, Sum.inr (1, [Value.int xcache, Value.int xpending, Value.long xlow, Value.long xrange, Value.long xcode, Value.long xreadLow, Value.long xreadRange, Value.ref ri, Value.ref ro, Value.ref rw, Value.int xasked]))] sz (fun (r : Int32) (u : Unit) => r = -2) (fun (u : Unit) => [(rc, Sum.inr (6, [Value.ref co, Value.ref ma, Value.int (nI k), Value.int fit, Value.int fen, Value.int frd, Value.int fbd, Value.int fir])), (ma, Sum.inl (cM, 8, Sum.inr (Sum.inr (Sum.inr (Sum.inr mf))))), (co, Sum.inr (1, [Value.int xcache, Value.int xpending, Value.long xlow, Value.long xrange, Value.long xcode, Value.long xreadLow, Value.long xreadRange, Value.ref ri, Value.ref ro, Value.ref rw, Value.int xasked]))]) 0 0 := by
  refine my_ofI (cc := prog_1_method_2_code) (n := 3) (ret := (some .int)) (by decide) rfl (Nat.le_of_ble_eq_true rfl) ?_
  intro p e s m args below meth c R Q A ls H locs hx hb hr hts hown hlocks hml hnm hR hQ hA hl hP hK hN hD hS
  have hg : ∀ w ∈ gw, w.before args s = true := fun w h => hts w (List.mem_cons_of_mem _ h)
  have hown : s.vm.findClass "RangeCoders" = some m.cls := hown
  have hl : lv_has ls 3 [(0, Value.ref rc), (1, Value.int nn)] := hl
  refine lv_iload_n hx hb d_RC_model_0 rfl (lv_at hl 1 rfl) ?_
  refine lv_iconst (v := 2) hx hb d_RC_model_1 (by decide) ?_
  refine lv_icmp_lt (tgt := 11) hx hb d_RC_model_2 (by decide) (fun c_1 => ?_) (fun c_1 => ?_)
  · refine lv_bipush (v := (-2)) hx hb d_RC_model_11 (by decide) ?_
    exact my_iret (v := (-2)) hx hb hr (rfl) hlocks hQ hK hS (Nat.le_refl _) (Nat.le_refl _) () (rfl) (hP.sub [0, 1, 2] rfl) (hD.sub [0, 1, 2] (by decide +kernel) rfl) d_RC_model_13
  · refine lv_iload_n hx hb d_RC_model_5 rfl (lv_at hl 1 rfl) ?_
    refine lv_bipush (v := 64) hx hb d_RC_model_6 (by decide) ?_
    refine lv_icmp_le (tgt := 14) hx hb d_RC_model_8 (by decide) (fun c_2 => ?_) (fun c_2 => ?_)
    · exact absurd hrf (fun h9 => h9.elim c_1 (fun h8 => absurd c_2 (Int32.not_le.mpr h8)))
    · refine lv_bipush (v := (-2)) hx hb d_RC_model_11 (by decide) ?_
      exact my_iret (v := (-2)) hx hb hr (rfl) hlocks hQ hK hS (Nat.le_refl _) (Nat.le_refl _) () (rfl) (hP.sub [0, 1, 2] rfl) (hD.sub [0, 1, 2] (by decide +kernel) rfl) d_RC_model_13
set_option maxHeartbeats 2000000 in
set_option maxRecDepth 100000 in
theorem c_RC_modelF_Carries (l : Launch) (dC : Nat → ClassId) (dI : Nat → Nat → Nat) (cI cM cO : ClassId) (sz : Nat) (rc : Nat) (ma : Nat) (k : Nat) (fit : Int32) (fen : Int32) (frd : Int32) (fbd : Int32) (fir : Int32) (mf : Nat → Option Nat) (co : Nat) (xcache : Int32) (xpending : Int32) (xlow : Int64) (xrange : Int64) (xcode : Int64) (xreadLow : Int64) (xreadRange : Int64) (ri : Nat) (ro : Nat) (rw : Nat) (xasked : Int32) (ns : Nat) (hns2 : 2 ≤ ns) (hns : ns ≤ 64) (hk : k = 8) : MetI l y_RC_model (Cond.code y_RC_model prog_1_method_2_code 3 (some .int) :: gw) ({ frames := 0, cells := 0, slots := 0, locals := 0 } : Room) (dC, dI) vwCl (kT cI cM cO) [Value.ref rc, Value.int (nI ns)] [(rc, Sum.inr (6, [Value.ref co, Value.ref ma, Value.int (nI k), Value.int fit, Value.int fen, Value.int frd, Value.int fbd, Value.int fir])), (ma, Sum.inl (cM, 8, Sum.inr (Sum.inr (Sum.inr (Sum.inr mf))))), (co, Sum.inr (1, [Value.int xcache, Value.int xpending, Value.long xlow, Value.long xrange, Value.long xcode, Value.long xreadLow, Value.long xreadRange, Value.ref ri, Value.ref ro, Value.ref rw, Value.int xasked]))] sz (fun (r : Int32) (u : Unit) => r = -4) (fun (u : Unit) => [(rc, Sum.inr (6, [Value.ref co, Value.ref ma, Value.int (nI k), Value.int fit, Value.int fen, Value.int frd, Value.int fbd, Value.int fir])), (ma, Sum.inl (cM, 8, Sum.inr (Sum.inr (Sum.inr (Sum.inr mf))))), (co, Sum.inr (1, [Value.int xcache, Value.int xpending, Value.long xlow, Value.long xrange, Value.long xcode, Value.long xreadLow, Value.long xreadRange, Value.ref ri, Value.ref ro, Value.ref rw, Value.int xasked]))]) 0 0 := by
  refine my_ofI (cc := prog_1_method_2_code) (n := 3) (ret := (some .int)) (by decide) rfl (Nat.le_of_ble_eq_true rfl) ?_
  intro p e s m args below meth c R Q A ls H locs hx hb hr hts hown hlocks hml hnm hR hQ hA hl hP hK hN hD hS
  have hg : ∀ w ∈ gw, w.before args s = true := fun w h => hts w (List.mem_cons_of_mem _ h)
  have hown : s.vm.findClass "RangeCoders" = some m.cls := hown
  have hl : lv_has ls 3 [(0, Value.ref rc), (1, Value.int (nI ns))] := hl
  refine lv_iload_n hx hb d_RC_model_0 rfl (lv_at hl 1 rfl) ?_
  refine lv_iconst (v := 2) hx hb d_RC_model_1 (by decide) ?_
  refine lv_icmp_lt (tgt := 11) hx hb d_RC_model_2 (by decide) (fun c_1 => ?_) (fun c_1 => ?_)
  · exact absurd c_1 (show ¬ nI ns < nI 2 from nI_nlt hns2 (by omega))
  · refine lv_iload_n hx hb d_RC_model_5 rfl (lv_at hl 1 rfl) ?_
    refine lv_bipush (v := 64) hx hb d_RC_model_6 (by decide) ?_
    refine lv_icmp_le (tgt := 14) hx hb d_RC_model_8 (by decide) (fun c_2 => ?_) (fun c_2 => ?_)
    · refine lv_aload_n hx hb d_RC_model_14 rfl (lv_at hl 0 rfl) ?_
      refine va_get (D := (dC, dI)) (ci := 6) (v := .int (nI k)) (C := "RangeCoders") (T := T_RC) (N := 8) hx hb hg in_RC hown hK hP 0 rfl rfl 2 (by decide) (hg _ k260) (fun _ h9 => h9) rfl d_RC_model_15 ?_
      refine lv_bipush (v := 8) hx hb d_RC_model_18 (by decide) ?_
      refine lv_icmp_lt (tgt := 26) hx hb d_RC_model_20 (by decide) (fun c_3 => ?_) (fun c_3 => ?_)
      · exact absurd c_3 (show ¬ nI k < nI 8 from nI_nlt (by omega) (by omega))
      · refine lv_bipush (v := (-4)) hx hb d_RC_model_23 (by decide) ?_
        exact my_iret (v := (-4)) hx hb hr (rfl) hlocks hQ hK hS (Nat.le_refl _) (Nat.le_refl _) () (rfl) (hP.sub [0, 1, 2] rfl) (hD.sub [0, 1, 2] (by decide +kernel) rfl) d_RC_model_25
    · exact absurd (show nI ns ≤ nI 64 from nI_le hns (by omega)) c_2
end
section
set_option maxHeartbeats 2000000 in
set_option maxRecDepth 100000 in
theorem c_RC_getA_NoCarries (l : Launch) (dC : Nat → ClassId) (dI : Nat → Nat → Nat) (cI cM cO : ClassId) (sz : Nat) (rc : Nat) (ma : Nat) (k : Nat) (fit : Int32) (fen : Int32) (frd : Int32) (fbd : Int32) (fir : Int32) (mf : Nat → Option Nat) (co : Nat) (xlow : Int64) (xrange : Int64) (xcode : Int64) (xreadLow : Int64) (xreadRange : Int64) (ri : Nat) (ro : Nat) (rw : Nat) (xasked : Int32) (mm : Int32) (hk8 : k ≤ 8) (hbad : mm < 0 ∨ nI k ≤ mm) : MetI l y_RC_get (Cond.code y_RC_get prog_1_method_13_code 3 (some .int) :: gw) ({ frames := 1, cells := 0, slots := 0, locals := 21 } : Room) (dC, dI) vwCl (kT cI cM cO) [Value.ref rc, Value.int mm] [(rc, Sum.inr (6, [Value.ref co, Value.ref ma, Value.int (nI k), Value.int fit, Value.int fen, Value.int frd, Value.int fbd, Value.int fir])), (ma, Sum.inl (cM, 8, Sum.inr (Sum.inr (Sum.inr (Sum.inr mf))))), (co, Sum.inr (2, [Value.long xlow, Value.long xrange, Value.long xcode, Value.long xreadLow, Value.long xreadRange, Value.ref ri, Value.ref ro, Value.ref rw, Value.int xasked]))] sz (fun (r : Int32) (u : Unit) => True) (fun (u : Unit) => [(rc, Sum.inr (6, [Value.ref co, Value.ref ma, Value.int (nI k), Value.int fit, Value.int fen, Value.int frd, Value.int fbd, Value.int fir])), (ma, Sum.inl (cM, 8, Sum.inr (Sum.inr (Sum.inr (Sum.inr mf))))), (co, Sum.inr (2, [Value.long xlow, Value.long xrange, Value.long xcode, Value.long xreadLow, Value.long xreadRange, Value.ref ri, Value.ref ro, Value.ref rw, Value.int xasked]))]) 0 0 := by
  refine my_ofI (cc := prog_1_method_13_code) (n := 3) (ret := (some .int)) (by decide) rfl (Nat.le_of_ble_eq_true rfl) ?_
  intro p e s m args below meth c R Q A ls H locs hx hb hr hts hown hlocks hml hnm hR hQ hA hl hP hK hN hD hS
  have hg : ∀ w ∈ gw, w.before args s = true := fun w h => hts w (List.mem_cons_of_mem _ h)
  have hown : s.vm.findClass "RangeCoders" = some m.cls := hown
  have hl : lv_has ls 3 [(0, Value.ref rc), (1, Value.int mm)] := hl
  refine lv_aload_n hx hb d_RC_get_0 rfl (lv_at hl 0 rfl) ?_
  refine lv_iload_n hx hb d_RC_get_1 rfl (lv_at hl 1 rfl) ?_
  refine my_cq (wr := [(co, Sum.inr (2, [Value.long xlow, Value.long xrange, Value.long xcode, Value.long xreadLow, Value.long xreadRange, Value.ref ri, Value.ref ro, Value.ref rw, Value.int xasked]))]) (va_runV (As := [Value.int mm]) (rest := []) ⟨hx, hb, hml, hown, hts⟩ (c_RC_modelAtA l dC dI cI cM cO H.size rc ma k fit fen frd fbd fir mf co mm (by first | assumption | omega)) (cwV 1 hts (my_gV k412 k414 ks3 k1 k415) rfl rfl rfl (by decide +kernel) ⟨by rw [hR]; exact Nat.le_of_ble_eq_true rfl, by rw [hR]; exact Nat.le_of_ble_eq_true rfl⟩) (my_preV hK hN (hP.sub [0, 1] rfl) (hD.sub [0, 1] (by decide +kernel) rfl) 0 rfl rfl) rfl rfl hl.1 rfl (lv_room (Nat.le_of_ble_eq_true rfl)) d_RC_get_2 ⟨by rw [hR]; exact Nat.le_of_ble_eq_true rfl, by rw [hR]; exact Nat.le_of_ble_eq_true rfl⟩) hP hD hS hA [0, 1] [2] rfl rfl (by decide +kernel) (by decide +kernel) (fun r_2 u9 H locs hw_2 hP hD hS => ?_)
  have hr_2 : r_2 = none := hw_2
  have hPD : my_PD (dC, dI) vwCl A [(co, Sum.inr (2, [Value.long xlow, Value.long xrange, Value.long xcode, Value.long xreadLow, Value.long xreadRange, Value.ref ri, Value.ref ro, Value.ref rw, Value.int xasked])), (rc, Sum.inr (6, [Value.ref co, Value.ref ma, Value.int (nI k), Value.int fit, Value.int fen, Value.int frd, Value.int fbd, Value.int fir])), (ma, Sum.inl (cM, 8, Sum.inr (Sum.inr (Sum.inr (Sum.inr mf)))))] H := ⟨hP, hD⟩
  have hP := hPD.1
  have hD := hPD.2
  subst hr_2
  refine W.eq (g2 := F0 m 5 ls [Value.null]) rfl ?_
  refine lv_astore_nN (lv' := [(2, Value.null), (0, Value.ref rc), (1, Value.int mm)]) hx hb d_RC_get_5 rfl hl (by decide) rfl (fun ls hl => ?_)
  refine lv_aload_nN hx hb d_RC_get_6 rfl (lv_at hl 0 rfl) ?_
  refine lv_ifnonnullN hx hb d_RC_get_7 ?_
  refine lv_iconst (v := (-1)) hx hb d_RC_get_10 (by decide) ?_
  exact my_iret (v := (-1)) hx hb hr (rfl) hlocks hQ hK hS (Nat.le_refl _) (Nat.le_refl _) () (trivial) (hP.sub [1, 2, 0] rfl) (hD.sub [1, 2, 0] (by decide +kernel) rfl) d_RC_get_11
set_option maxHeartbeats 2000000 in
set_option maxRecDepth 100000 in
theorem c_RC_getB_NoCarries (l : Launch) (dC : Nat → ClassId) (dI : Nat → Nat → Nat) (cI cM cO : ClassId) (sz : Nat) (rc : Nat) (ma : Nat) (k : Nat) (fit : Int32) (fen : Int32) (frd : Int32) (fbd : Int32) (fir : Int32) (mf : Nat → Option Nat) (co : Nat) (xlow : Int64) (xrange : Int64) (xcode : Int64) (xreadLow : Int64) (xreadRange : Int64) (ri : Nat) (ro : Nat) (rw : Nat) (xasked : Int32) (rin : Int32) (ria : Nat) (rik : Nat) (rif : Nat → Int32) (j : Nat) (mo : Nat) (o2 : Nat) (oo : Nat) (osg : Int32) (osm : Int32) (ofc : Int32) (oca : Nat) (opa : Nat) (ol : Nat) (ocf : Nat → Int32) (opl : Nat) (opf : Nat → Int32) (ka : Nat) (kl : Nat) (kf : Nat → Int32) (hk8 : k ≤ 8) (hri : rOk rin rik) (hj : j < k) (hmf : mf j = some mo) (hol : ol ≤ 64) (hopl : opl ≤ 512) (hol0 : 1 ≤ ol) (hkl : kl ≤ 64) : MetI l y_RC_get (Cond.code y_RC_get prog_1_method_13_code 3 (some .int) :: gw) ({ frames := 5, cells := 0, slots := 0, locals := 112 } : Room) (dC, dI) vwCl (kT cI cM cO) [Value.ref rc, Value.int (nI j)] [(rc, Sum.inr (6, [Value.ref co, Value.ref ma, Value.int (nI k), Value.int fit, Value.int fen, Value.int frd, Value.int fbd, Value.int fir])), (ma, Sum.inl (cM, 8, Sum.inr (Sum.inr (Sum.inr (Sum.inr mf))))), (co, Sum.inr (2, [Value.long xlow, Value.long xrange, Value.long xcode, Value.long xreadLow, Value.long xreadRange, Value.ref ri, Value.ref ro, Value.ref rw, Value.int xasked])), (ri, Sum.inr (0, [Value.int rin, Value.ref ria])), (ria, Sum.inl (cI, rik, Sum.inl rif)), (mo, Sum.inr (8, [Value.ref ka, Value.ref o2, Value.ref oo])), (ka, Sum.inl (cI, kl, Sum.inl kf)), (oo, Sum.inr (7, [Value.int osg, Value.int osm, Value.int ofc, Value.ref oca, Value.ref opa])), (oca, Sum.inl (cI, ol, Sum.inl ocf)), (opa, Sum.inl (cI, opl, Sum.inl opf))] sz (fun (r : Int32) (u : Int32 × Int32 × Int64 × Int64 × Int64 × Int32 × Int32 × (Nat → Int32)) => True) (fun (u : Int32 × Int32 × Int64 × Int64 × Int64 × Int32 × Int32 × (Nat → Int32)) => [(rc, Sum.inr (6, [Value.ref co, Value.ref ma, Value.int (nI k), Value.int fit, Value.int fen, Value.int frd, Value.int u.1, Value.int u.2.1])), (ma, Sum.inl (cM, 8, Sum.inr (Sum.inr (Sum.inr (Sum.inr mf))))), (co, Sum.inr (2, [Value.long xlow, Value.long xrange, Value.long u.2.2.1, Value.long u.2.2.2.1, Value.long u.2.2.2.2.1, Value.ref ri, Value.ref ro, Value.ref rw, Value.int u.2.2.2.2.2.1])), (ri, Sum.inr (0, [Value.int rin, Value.ref ria])), (ria, Sum.inl (cI, rik, Sum.inl rif)), (mo, Sum.inr (8, [Value.ref ka, Value.ref o2, Value.ref oo])), (ka, Sum.inl (cI, kl, Sum.inl kf)), (oo, Sum.inr (7, [Value.int osg, Value.int u.2.2.2.2.2.2.1, Value.int ofc, Value.ref oca, Value.ref opa])), (oca, Sum.inl (cI, ol, Sum.inl u.2.2.2.2.2.2.2)), (opa, Sum.inl (cI, opl, Sum.inl opf))]) 0 0 := by
  refine my_ofI (cc := prog_1_method_13_code) (n := 3) (ret := (some .int)) (by decide) rfl (Nat.le_of_ble_eq_true rfl) ?_
  intro p e s m args below meth c R Q A ls H locs hx hb hr hts hown hlocks hml hnm hR hQ hA hl hP hK hN hD hS
  have hg : ∀ w ∈ gw, w.before args s = true := fun w h => hts w (List.mem_cons_of_mem _ h)
  have hown : s.vm.findClass "RangeCoders" = some m.cls := hown
  have hl : lv_has ls 3 [(0, Value.ref rc), (1, Value.int (nI j))] := hl
  have hlt_hri := rOk_lt hri
  refine lv_aload_n hx hb d_RC_get_0 rfl (lv_at hl 0 rfl) ?_
  refine lv_iload_n hx hb d_RC_get_1 rfl (lv_at hl 1 rfl) ?_
  refine my_cq (wr := [(co, Sum.inr (2, [Value.long xlow, Value.long xrange, Value.long xcode, Value.long xreadLow, Value.long xreadRange, Value.ref ri, Value.ref ro, Value.ref rw, Value.int xasked])), (ri, Sum.inr (0, [Value.int rin, Value.ref ria])), (ria, Sum.inl (cI, rik, Sum.inl rif)), (mo, Sum.inr (8, [Value.ref ka, Value.ref o2, Value.ref oo])), (ka, Sum.inl (cI, kl, Sum.inl kf)), (oo, Sum.inr (7, [Value.int osg, Value.int osm, Value.int ofc, Value.ref oca, Value.ref opa])), (oca, Sum.inl (cI, ol, Sum.inl ocf)), (opa, Sum.inl (cI, opl, Sum.inl opf))]) (va_runV (As := [Value.int (nI j)]) (rest := []) ⟨hx, hb, hml, hown, hts⟩ (c_RC_modelAtB l dC dI cI cM cO H.size rc ma k fit fen frd fbd fir mf co j mo (by first | assumption | omega) (by first | assumption | omega) (by first | assumption | omega)) (cwV 1 hts (my_gV k412 k414 ks3 k1 k415) rfl rfl rfl (by decide +kernel) ⟨by rw [hR]; exact Nat.le_of_ble_eq_true rfl, by rw [hR]; exact Nat.le_of_ble_eq_true rfl⟩) (my_preV hK hN (hP.sub [0, 1] rfl) (hD.sub [0, 1] (by decide +kernel) rfl) 0 rfl rfl) rfl rfl hl.1 rfl (lv_room (Nat.le_of_ble_eq_true rfl)) d_RC_get_2 ⟨by rw [hR]; exact Nat.le_of_ble_eq_true rfl, by rw [hR]; exact Nat.le_of_ble_eq_true rfl⟩) hP hD hS hA [0, 1] [2, 3, 4, 5, 6, 7, 8, 9] rfl rfl (by decide +kernel) (by decide +kernel) (fun r_2 u9 H locs hw_2 hP hD hS => ?_)
  have hr_2 : r_2 = some mo := hw_2
  have hPD : my_PD (dC, dI) vwCl A [(co, Sum.inr (2, [Value.long xlow, Value.long xrange, Value.long xcode, Value.long xreadLow, Value.long xreadRange, Value.ref ri, Value.ref ro, Value.ref rw, Value.int xasked])), (ri, Sum.inr (0, [Value.int rin, Value.ref ria])), (ria, Sum.inl (cI, rik, Sum.inl rif)), (mo, Sum.inr (8, [Value.ref ka, Value.ref o2, Value.ref oo])), (ka, Sum.inl (cI, kl, Sum.inl kf)), (oo, Sum.inr (7, [Value.int osg, Value.int osm, Value.int ofc, Value.ref oca, Value.ref opa])), (oca, Sum.inl (cI, ol, Sum.inl ocf)), (opa, Sum.inl (cI, opl, Sum.inl opf)), (rc, Sum.inr (6, [Value.ref co, Value.ref ma, Value.int (nI k), Value.int fit, Value.int fen, Value.int frd, Value.int fbd, Value.int fir])), (ma, Sum.inl (cM, 8, Sum.inr (Sum.inr (Sum.inr (Sum.inr mf)))))] H := ⟨hP, hD⟩
  have hP := hPD.1
  have hD := hPD.2
  subst hr_2
  refine W.eq (g2 := F0 m 5 ls [Value.ref mo]) rfl ?_
  refine lv_astore_n (lv' := [(2, Value.ref mo), (0, Value.ref rc), (1, Value.int (nI j))]) hx hb d_RC_get_5 rfl hl (by decide) rfl (fun ls hl => ?_)
  refine lv_aload_n hx hb d_RC_get_6 rfl (lv_at hl 0 rfl) ?_
  refine lv_ifnonnull (tgt := 12) hx hb d_RC_get_7 (by decide) ?_
  refine lv_aload_n hx hb d_RC_get_12 rfl (lv_at hl 1 rfl) ?_
  refine va_get (D := (dC, dI)) (ci := 6) (v := .int frd) (C := "RangeCoders") (T := T_RC) (N := 8) hx hb hg in_RC hown hK hP 8 rfl rfl 5 (by decide) (hg _ k263) (fun _ h9 => h9) rfl d_RC_get_13 ?_
  refine lv_if_ne (tgt := 22) hx hb d_RC_get_16 (by decide) (fun c_1 => ?_) (fun c_1 => ?_)
  · refine lv_aload_n hx hb d_RC_get_22 rfl (lv_at hl 1 rfl) ?_
    refine va_get (D := (dC, dI)) (ci := 6) (v := .int fbd) (C := "RangeCoders") (T := T_RC) (N := 8) hx hb hg in_RC hown hK hP 8 rfl rfl 6 (by decide) (hg _ k264) (fun _ h9 => h9) rfl d_RC_get_23 ?_
    refine lv_if_eq (tgt := 34) hx hb d_RC_get_26 (by decide) (fun c_2 => ?_) (fun c_2 => ?_)
    · refine lv_aload_n hx hb d_RC_get_34 rfl (lv_at hl 1 rfl) ?_
      refine lv_aload_n hx hb d_RC_get_35 rfl (lv_at hl 1 rfl) ?_
      refine va_get (D := (dC, dI)) (ci := 6) (v := .ref co) (C := "RangeCoders") (T := T_RC) (N := 8) hx hb hg in_RC hown hK hP 8 rfl rfl 0 (by decide) (hg _ k258) (fun _ h9 => h9) rfl d_RC_get_36 ?_
      refine lv_aload_n hx hb d_RC_get_39 rfl (lv_at hl 0 rfl) ?_
      refine va_get (D := (dC, dI)) (ci := 8) (v := .ref oo) (C := "RangeCoders$Model") (T := T_Model) (N := 3) hx hb hg in_Model hown hK hP 3 rfl rfl 2 (by decide) (hg _ k345) (fun _ h9 => h9) rfl d_RC_get_40 ?_
      refine my_ci (wr := [(mo, Sum.inr (8, [Value.ref ka, Value.ref o2, Value.ref oo])), (ka, Sum.inl (cI, kl, Sum.inl kf)), (rc, Sum.inr (6, [Value.ref co, Value.ref ma, Value.int (nI k), Value.int fit, Value.int fen, Value.int frd, Value.int fbd, Value.int fir])), (ma, Sum.inl (cM, 8, Sum.inr (Sum.inr (Sum.inr (Sum.inr mf)))))]) (va_runU (As := [Value.ref oo]) (rest := [Value.ref rc]) ⟨hx, hb, hml, hown, hts⟩ (c_NoCarries_Ranged_nextSign l dC dI cI cM cO H.size co xlow xrange xcode xreadLow xreadRange ri ro rw xasked rin ria rik rif oo osg osm ofc oca opa ol ocf opl opf (by first | assumption | omega) (by first | assumption | omega) (by first | assumption | omega)) (va_cwA 1 hts (my_gU k775 k777 k829 k805 k4 k806) rfl rfl rfl (hN.1 _ j776 rfl) (by decide +kernel) ⟨by rw [hR]; exact Nat.le_of_ble_eq_true rfl, by rw [hR]; exact Nat.le_of_ble_eq_true rfl⟩) (my_preV hK hN (hP.sub [0, 1, 2, 5, 6, 7] rfl) (hD.sub [0, 1, 2, 5, 6, 7] (by decide +kernel) rfl) 0 rfl rfl) rfl rfl hl.1 rfl (lv_room (Nat.le_of_ble_eq_true rfl)) d_RC_get_43 ⟨by rw [hR]; exact Nat.le_of_ble_eq_true rfl, by rw [hR]; exact Nat.le_of_ble_eq_true rfl⟩) hP hD hS hA [0, 1, 2, 5, 6, 7] [3, 4, 8, 9] rfl rfl (by decide +kernel) (by decide +kernel) (fun r_43 u9 H locs hw_43 hP hD hS => ?_)
      obtain ⟨xcodeq_43, xreadLowq_43, xreadRangeq_43, xaskedq_43, osmq_43, ocfq_43⟩ := u9
      have hPD : my_PD (dC, dI) vwCl A [(mo, Sum.inr (8, [Value.ref ka, Value.ref o2, Value.ref oo])), (ka, Sum.inl (cI, kl, Sum.inl kf)), (rc, Sum.inr (6, [Value.ref co, Value.ref ma, Value.int (nI k), Value.int fit, Value.int fen, Value.int frd, Value.int fbd, Value.int fir])), (ma, Sum.inl (cM, 8, Sum.inr (Sum.inr (Sum.inr (Sum.inr mf))))), (co, Sum.inr (2, [Value.long xlow, Value.long xrange, Value.long xcodeq_43, Value.long xreadLowq_43, Value.long xreadRangeq_43, Value.ref ri, Value.ref ro, Value.ref rw, Value.int xaskedq_43])), (ri, Sum.inr (0, [Value.int rin, Value.ref ria])), (ria, Sum.inl (cI, rik, Sum.inl rif)), (oo, Sum.inr (7, [Value.int osg, Value.int osmq_43, Value.int ofc, Value.ref oca, Value.ref opa])), (oca, Sum.inl (cI, ol, Sum.inl ocfq_43)), (opa, Sum.inl (cI, opl, Sum.inl opf))] H := ⟨hP, hD⟩
      have hP := hPD.1
      have hD := hPD.2
      refine my_ci (wr := [(mo, Sum.inr (8, [Value.ref ka, Value.ref o2, Value.ref oo])), (ka, Sum.inl (cI, kl, Sum.inl kf)), (ma, Sum.inl (cM, 8, Sum.inr (Sum.inr (Sum.inr (Sum.inr mf))))), (co, Sum.inr (2, [Value.long xlow, Value.long xrange, Value.long xcodeq_43, Value.long xreadLowq_43, Value.long xreadRangeq_43, Value.ref ri, Value.ref ro, Value.ref rw, Value.int xaskedq_43])), (ri, Sum.inr (0, [Value.int rin, Value.ref ria])), (ria, Sum.inl (cI, rik, Sum.inl rif)), (oo, Sum.inr (7, [Value.int osg, Value.int osmq_43, Value.int ofc, Value.ref oca, Value.ref opa])), (oca, Sum.inl (cI, ol, Sum.inl ocfq_43)), (opa, Sum.inl (cI, opl, Sum.inl opf))]) (va_runV (As := [Value.int r_43]) (rest := []) ⟨hx, hb, hml, hown, hts⟩ (c_RC_itemOrBad l dC dI cI cM cO H.size rc ma k fit fen frd fbd fir mf co r_43) (cwV 1 hts (my_gV k854 k856 ks17 k1 k857) rfl rfl rfl (by decide +kernel) ⟨by rw [hR]; exact Nat.le_of_ble_eq_true rfl, by rw [hR]; exact Nat.le_of_ble_eq_true rfl⟩) (my_preV hK hN (hP.sub [2] rfl) (hD.sub [2] (by decide +kernel) rfl) 0 rfl rfl) rfl rfl hl.1 rfl (lv_room (Nat.le_of_ble_eq_true rfl)) d_RC_get_46 ⟨by rw [hR]; exact Nat.le_of_ble_eq_true rfl, by rw [hR]; exact Nat.le_of_ble_eq_true rfl⟩) hP hD hS hA [2] [0, 1, 3, 4, 5, 6, 7, 8, 9] rfl rfl (by decide +kernel) (by decide +kernel) (fun r_46 u9 H locs hw_46 hP hD hS => ?_)
      obtain ⟨fbdq_46, firq_46⟩ := u9
      have hPD : my_PD (dC, dI) vwCl A [(mo, Sum.inr (8, [Value.ref ka, Value.ref o2, Value.ref oo])), (ka, Sum.inl (cI, kl, Sum.inl kf)), (ma, Sum.inl (cM, 8, Sum.inr (Sum.inr (Sum.inr (Sum.inr mf))))), (co, Sum.inr (2, [Value.long xlow, Value.long xrange, Value.long xcodeq_43, Value.long xreadLowq_43, Value.long xreadRangeq_43, Value.ref ri, Value.ref ro, Value.ref rw, Value.int xaskedq_43])), (ri, Sum.inr (0, [Value.int rin, Value.ref ria])), (ria, Sum.inl (cI, rik, Sum.inl rif)), (oo, Sum.inr (7, [Value.int osg, Value.int osmq_43, Value.int ofc, Value.ref oca, Value.ref opa])), (oca, Sum.inl (cI, ol, Sum.inl ocfq_43)), (opa, Sum.inl (cI, opl, Sum.inl opf)), (rc, Sum.inr (6, [Value.ref co, Value.ref ma, Value.int (nI k), Value.int fit, Value.int fen, Value.int frd, Value.int fbdq_46, Value.int firq_46]))] H := ⟨hP, hD⟩
      have hP := hPD.1
      have hD := hPD.2
      exact my_iret (v := r_46) hx hb hr (rfl) hlocks hQ hK hS (Nat.le_refl _) (Nat.le_refl _) (fbdq_46, firq_46, xcodeq_43, xreadLowq_43, xreadRangeq_43, xaskedq_43, osmq_43, ocfq_43) (trivial) (hP.sub [9, 2, 3, 4, 5, 0, 1, 6, 7, 8] rfl) (hD.sub [9, 2, 3, 4, 5, 0, 1, 6, 7, 8] (by decide +kernel) rfl) d_RC_get_49
    · refine lv_bipush (v := (-5)) hx hb d_RC_get_29 (by decide) ?_
      refine lv_goto (tgt := 49) hx hb d_RC_get_31 (by decide) ?_
      exact my_iret (v := (-5)) hx hb hr (rfl) hlocks hQ hK hS (Nat.le_refl _) (Nat.le_refl _) (fbd, fir, xcode, xreadLow, xreadRange, xasked, osm, ocf) (trivial) (hP.sub [8, 9, 0, 1, 2, 3, 4, 5, 6, 7] rfl) (hD.sub [8, 9, 0, 1, 2, 3, 4, 5, 6, 7] (by decide +kernel) rfl) d_RC_get_49
  · refine lv_bipush (v := (-3)) hx hb d_RC_get_19 (by decide) ?_
    exact my_iret (v := (-3)) hx hb hr (rfl) hlocks hQ hK hS (Nat.le_refl _) (Nat.le_refl _) (fbd, fir, xcode, xreadLow, xreadRange, xasked, osm, ocf) (trivial) (hP.sub [8, 9, 0, 1, 2, 3, 4, 5, 6, 7] rfl) (hD.sub [8, 9, 0, 1, 2, 3, 4, 5, 6, 7] (by decide +kernel) rfl) d_RC_get_21
set_option maxHeartbeats 2000000 in
set_option maxRecDepth 100000 in
theorem c_RC_getBits_NoCarries (l : Launch) (dC : Nat → ClassId) (dI : Nat → Nat → Nat) (cI cM cO : ClassId) (sz : Nat) (rc : Nat) (ma : Nat) (k : Nat) (fit : Int32) (fen : Int32) (frd : Int32) (fbd : Int32) (fir : Int32) (mf : Nat → Option Nat) (co : Nat) (xlow : Int64) (xrange : Int64) (xcode : Int64) (xreadLow : Int64) (xreadRange : Int64) (ri : Nat) (ro : Nat) (rw : Nat) (xasked : Int32) (rin : Int32) (ria : Nat) (rik : Nat) (rif : Nat → Int32) (wd : Int32) (hk8 : k ≤ 8) (hri : rOk rin rik) : MetI l y_RC_getBits (Cond.code y_RC_getBits prog_1_method_14_code 2 (some .int) :: gw) ({ frames := 5, cells := 0, slots := 0, locals := 111 } : Room) (dC, dI) vwCl (kT cI cM cO) [Value.ref rc, Value.int wd] [(rc, Sum.inr (6, [Value.ref co, Value.ref ma, Value.int (nI k), Value.int fit, Value.int fen, Value.int frd, Value.int fbd, Value.int fir])), (ma, Sum.inl (cM, 8, Sum.inr (Sum.inr (Sum.inr (Sum.inr mf))))), (co, Sum.inr (2, [Value.long xlow, Value.long xrange, Value.long xcode, Value.long xreadLow, Value.long xreadRange, Value.ref ri, Value.ref ro, Value.ref rw, Value.int xasked])), (ri, Sum.inr (0, [Value.int rin, Value.ref ria])), (ria, Sum.inl (cI, rik, Sum.inl rif))] sz (fun (r : Int32) (u : Int32 × Int32 × Int64 × Int64 × Int64 × Int32) => True) (fun (u : Int32 × Int32 × Int64 × Int64 × Int64 × Int32) => [(rc, Sum.inr (6, [Value.ref co, Value.ref ma, Value.int (nI k), Value.int fit, Value.int fen, Value.int frd, Value.int u.1, Value.int u.2.1])), (ma, Sum.inl (cM, 8, Sum.inr (Sum.inr (Sum.inr (Sum.inr mf))))), (co, Sum.inr (2, [Value.long xlow, Value.long xrange, Value.long u.2.2.1, Value.long u.2.2.2.1, Value.long u.2.2.2.2.1, Value.ref ri, Value.ref ro, Value.ref rw, Value.int u.2.2.2.2.2])), (ri, Sum.inr (0, [Value.int rin, Value.ref ria])), (ria, Sum.inl (cI, rik, Sum.inl rif))]) 0 0 := by
  refine my_ofI (cc := prog_1_method_14_code) (n := 2) (ret := (some .int)) (by decide) rfl (Nat.le_of_ble_eq_true rfl) ?_
  intro p e s m args below meth c R Q A ls H locs hx hb hr hts hown hlocks hml hnm hR hQ hA hl hP hK hN hD hS
  have hg : ∀ w ∈ gw, w.before args s = true := fun w h => hts w (List.mem_cons_of_mem _ h)
  have hown : s.vm.findClass "RangeCoders" = some m.cls := hown
  have hl : lv_has ls 2 [(0, Value.ref rc), (1, Value.int wd)] := hl
  have hlt_hri := rOk_lt hri
  refine lv_aload_n hx hb d_RC_getBits_0 rfl (lv_at hl 0 rfl) ?_
  refine va_get (D := (dC, dI)) (ci := 6) (v := .ref co) (C := "RangeCoders") (T := T_RC) (N := 8) hx hb hg in_RC hown hK hP 0 rfl rfl 0 (by decide) (hg _ k258) (fun _ h9 => h9) rfl d_RC_getBits_1 ?_
  refine lv_iload_n hx hb d_RC_getBits_4 rfl (lv_at hl 1 rfl) ?_
  refine my_ci (wr := [(rc, Sum.inr (6, [Value.ref co, Value.ref ma, Value.int (nI k), Value.int fit, Value.int fen, Value.int frd, Value.int fbd, Value.int fir])), (ma, Sum.inl (cM, 8, Sum.inr (Sum.inr (Sum.inr (Sum.inr mf))))), (ri, Sum.inr (0, [Value.int rin, Value.ref ria])), (ria, Sum.inl (cI, rik, Sum.inl rif))]) (va_runU (As := [Value.int wd]) (rest := []) ⟨hx, hb, hml, hown, hts⟩ (c_NoCarries_Coder_hasWidth l dC dI cI cM cO H.size co xlow xrange xcode xreadLow xreadRange ri ro rw xasked wd) (va_cwU 1 hts (my_gU k543 k545 k548 k544 k3 k553) rfl rfl rfl rfl (by decide +kernel) ⟨by rw [hR]; exact Nat.le_of_ble_eq_true rfl, by rw [hR]; exact Nat.le_of_ble_eq_true rfl⟩) (my_preV hK hN (hP.sub [2] rfl) (hD.sub [2] (by decide +kernel) rfl) 0 rfl rfl) rfl rfl hl.1 rfl (lv_room (Nat.le_of_ble_eq_true rfl)) d_RC_getBits_5 ⟨by rw [hR]; exact Nat.le_of_ble_eq_true rfl, by rw [hR]; exact Nat.le_of_ble_eq_true rfl⟩) hP hD hS hA [2] [0, 1, 3, 4] rfl rfl (by decide +kernel) (by decide +kernel) (fun r_5 u9 H locs hw_5 hP hD hS => ?_)
  have hPD : my_PD (dC, dI) vwCl A [(rc, Sum.inr (6, [Value.ref co, Value.ref ma, Value.int (nI k), Value.int fit, Value.int fen, Value.int frd, Value.int fbd, Value.int fir])), (ma, Sum.inl (cM, 8, Sum.inr (Sum.inr (Sum.inr (Sum.inr mf))))), (ri, Sum.inr (0, [Value.int rin, Value.ref ria])), (ria, Sum.inl (cI, rik, Sum.inl rif)), (co, Sum.inr (2, [Value.long xlow, Value.long xrange, Value.long xcode, Value.long xreadLow, Value.long xreadRange, Value.ref ri, Value.ref ro, Value.ref rw, Value.int xasked]))] H := ⟨hP, hD⟩
  have hP := hPD.1
  have hD := hPD.2
  refine lv_if_ne (tgt := 14) hx hb d_RC_getBits_8 (by decide) (fun c_1 => ?_) (fun c_1 => ?_)
  · refine lv_aload_n hx hb d_RC_getBits_14 rfl (lv_at hl 0 rfl) ?_
    refine va_get (D := (dC, dI)) (ci := 6) (v := .int frd) (C := "RangeCoders") (T := T_RC) (N := 8) hx hb hg in_RC hown hK hP 0 rfl rfl 5 (by decide) (hg _ k263) (fun _ h9 => h9) rfl d_RC_getBits_15 ?_
    refine lv_if_ne (tgt := 24) hx hb d_RC_getBits_18 (by decide) (fun c_2 => ?_) (fun c_2 => ?_)
    · refine lv_aload_n hx hb d_RC_getBits_24 rfl (lv_at hl 0 rfl) ?_
      refine va_get (D := (dC, dI)) (ci := 6) (v := .int fbd) (C := "RangeCoders") (T := T_RC) (N := 8) hx hb hg in_RC hown hK hP 0 rfl rfl 6 (by decide) (hg _ k264) (fun _ h9 => h9) rfl d_RC_getBits_25 ?_
      refine lv_if_eq (tgt := 36) hx hb d_RC_getBits_28 (by decide) (fun c_3 => ?_) (fun c_3 => ?_)
      · refine lv_aload_n hx hb d_RC_getBits_36 rfl (lv_at hl 0 rfl) ?_
        refine lv_aload_n hx hb d_RC_getBits_37 rfl (lv_at hl 0 rfl) ?_
        refine va_get (D := (dC, dI)) (ci := 6) (v := .ref co) (C := "RangeCoders") (T := T_RC) (N := 8) hx hb hg in_RC hown hK hP 0 rfl rfl 0 (by decide) (hg _ k258) (fun _ h9 => h9) rfl d_RC_getBits_38 ?_
        refine lv_iload_n hx hb d_RC_getBits_41 rfl (lv_at hl 1 rfl) ?_
        refine my_ci (wr := [(rc, Sum.inr (6, [Value.ref co, Value.ref ma, Value.int (nI k), Value.int fit, Value.int fen, Value.int frd, Value.int fbd, Value.int fir])), (ma, Sum.inl (cM, 8, Sum.inr (Sum.inr (Sum.inr (Sum.inr mf)))))]) (va_runU (As := [Value.int wd]) (rest := [Value.ref rc]) ⟨hx, hb, hml, hown, hts⟩ (c_NoCarries_Ranged_nextValue l dC dI cI cM cO H.size co xlow xrange xcode xreadLow xreadRange ri ro rw xasked rin ria rik rif wd (by first | assumption | omega)) (va_cwA 1 hts (my_gU k862 k864 k871 k869 k4 k870) rfl rfl rfl (hN.1 _ j863 rfl) (by decide +kernel) ⟨by rw [hR]; exact Nat.le_of_ble_eq_true rfl, by rw [hR]; exact Nat.le_of_ble_eq_true rfl⟩) (my_preV hK hN (hP.sub [4, 2, 3] rfl) (hD.sub [4, 2, 3] (by decide +kernel) rfl) 0 rfl rfl) rfl rfl hl.1 rfl (lv_room (Nat.le_of_ble_eq_true rfl)) d_RC_getBits_42 ⟨by rw [hR]; exact Nat.le_of_ble_eq_true rfl, by rw [hR]; exact Nat.le_of_ble_eq_true rfl⟩) hP hD hS hA [4, 2, 3] [0, 1] rfl rfl (by decide +kernel) (by decide +kernel) (fun r_42 u9 H locs hw_42 hP hD hS => ?_)
        obtain ⟨xcodeq_42, xreadLowq_42, xreadRangeq_42, xaskedq_42⟩ := u9
        have hPD : my_PD (dC, dI) vwCl A [(rc, Sum.inr (6, [Value.ref co, Value.ref ma, Value.int (nI k), Value.int fit, Value.int fen, Value.int frd, Value.int fbd, Value.int fir])), (ma, Sum.inl (cM, 8, Sum.inr (Sum.inr (Sum.inr (Sum.inr mf))))), (co, Sum.inr (2, [Value.long xlow, Value.long xrange, Value.long xcodeq_42, Value.long xreadLowq_42, Value.long xreadRangeq_42, Value.ref ri, Value.ref ro, Value.ref rw, Value.int xaskedq_42])), (ri, Sum.inr (0, [Value.int rin, Value.ref ria])), (ria, Sum.inl (cI, rik, Sum.inl rif))] H := ⟨hP, hD⟩
        have hP := hPD.1
        have hD := hPD.2
        refine my_ci (wr := [(ma, Sum.inl (cM, 8, Sum.inr (Sum.inr (Sum.inr (Sum.inr mf))))), (co, Sum.inr (2, [Value.long xlow, Value.long xrange, Value.long xcodeq_42, Value.long xreadLowq_42, Value.long xreadRangeq_42, Value.ref ri, Value.ref ro, Value.ref rw, Value.int xaskedq_42])), (ri, Sum.inr (0, [Value.int rin, Value.ref ria])), (ria, Sum.inl (cI, rik, Sum.inl rif))]) (va_runV (As := [Value.int r_42]) (rest := []) ⟨hx, hb, hml, hown, hts⟩ (c_RC_itemOrBad l dC dI cI cM cO H.size rc ma k fit fen frd fbd fir mf co r_42) (cwV 1 hts (my_gV k854 k856 ks17 k1 k857) rfl rfl rfl (by decide +kernel) ⟨by rw [hR]; exact Nat.le_of_ble_eq_true rfl, by rw [hR]; exact Nat.le_of_ble_eq_true rfl⟩) (my_preV hK hN (hP.sub [0] rfl) (hD.sub [0] (by decide +kernel) rfl) 0 rfl rfl) rfl rfl hl.1 rfl (lv_room (Nat.le_of_ble_eq_true rfl)) d_RC_getBits_45 ⟨by rw [hR]; exact Nat.le_of_ble_eq_true rfl, by rw [hR]; exact Nat.le_of_ble_eq_true rfl⟩) hP hD hS hA [0] [1, 2, 3, 4] rfl rfl (by decide +kernel) (by decide +kernel) (fun r_45 u9 H locs hw_45 hP hD hS => ?_)
        obtain ⟨fbdq_45, firq_45⟩ := u9
        have hPD : my_PD (dC, dI) vwCl A [(ma, Sum.inl (cM, 8, Sum.inr (Sum.inr (Sum.inr (Sum.inr mf))))), (co, Sum.inr (2, [Value.long xlow, Value.long xrange, Value.long xcodeq_42, Value.long xreadLowq_42, Value.long xreadRangeq_42, Value.ref ri, Value.ref ro, Value.ref rw, Value.int xaskedq_42])), (ri, Sum.inr (0, [Value.int rin, Value.ref ria])), (ria, Sum.inl (cI, rik, Sum.inl rif)), (rc, Sum.inr (6, [Value.ref co, Value.ref ma, Value.int (nI k), Value.int fit, Value.int fen, Value.int frd, Value.int fbdq_45, Value.int firq_45]))] H := ⟨hP, hD⟩
        have hP := hPD.1
        have hD := hPD.2
        exact my_iret (v := r_45) hx hb hr (rfl) hlocks hQ hK hS (Nat.le_refl _) (Nat.le_refl _) (fbdq_45, firq_45, xcodeq_42, xreadLowq_42, xreadRangeq_42, xaskedq_42) (trivial) (hP.sub [4, 0, 1, 2, 3] rfl) (hD.sub [4, 0, 1, 2, 3] (by decide +kernel) rfl) d_RC_getBits_48
      · refine lv_bipush (v := (-5)) hx hb d_RC_getBits_31 (by decide) ?_
        refine lv_goto (tgt := 48) hx hb d_RC_getBits_33 (by decide) ?_
        exact my_iret (v := (-5)) hx hb hr (rfl) hlocks hQ hK hS (Nat.le_refl _) (Nat.le_refl _) (fbd, fir, xcode, xreadLow, xreadRange, xasked) (trivial) (hP.sub [0, 1, 4, 2, 3] rfl) (hD.sub [0, 1, 4, 2, 3] (by decide +kernel) rfl) d_RC_getBits_48
    · refine lv_bipush (v := (-3)) hx hb d_RC_getBits_21 (by decide) ?_
      exact my_iret (v := (-3)) hx hb hr (rfl) hlocks hQ hK hS (Nat.le_refl _) (Nat.le_refl _) (fbd, fir, xcode, xreadLow, xreadRange, xasked) (trivial) (hP.sub [0, 1, 4, 2, 3] rfl) (hD.sub [0, 1, 4, 2, 3] (by decide +kernel) rfl) d_RC_getBits_23
  · refine lv_bipush (v := (-2)) hx hb d_RC_getBits_11 (by decide) ?_
    exact my_iret (v := (-2)) hx hb hr (rfl) hlocks hQ hK hS (Nat.le_refl _) (Nat.le_refl _) (fbd, fir, xcode, xreadLow, xreadRange, xasked) (trivial) (hP.sub [0, 1, 4, 2, 3] rfl) (hD.sub [0, 1, 4, 2, 3] (by decide +kernel) rfl) d_RC_getBits_13
set_option maxHeartbeats 2000000 in
set_option maxRecDepth 100000 in
theorem c_RC_told_NoCarries (l : Launch) (dC : Nat → ClassId) (dI : Nat → Nat → Nat) (cI cM cO : ClassId) (sz : Nat) (rc : Nat) (ma : Nat) (k : Nat) (fit : Int32) (fen : Int32) (frd : Int32) (fbd : Int32) (fir : Int32) (mf : Nat → Option Nat) (co : Nat) (xlow : Int64) (xrange : Int64) (xcode : Int64) (xreadLow : Int64) (xreadRange : Int64) (ri : Nat) (ro : Nat) (rw : Nat) (xasked : Int32) (rin : Int32) (ria : Nat) (rik : Nat) (rif : Nat → Int32) (ron : Int32) (roa : Nat) (rok : Nat) (rof : Nat → Int32) (wh : Int32) (hk8 : k ≤ 8) (hri : rOk rin rik) (hro : rOk ron rok) : MetI l y_RC_told (Cond.code y_RC_told prog_1_method_15_code 2 (some .int) :: gw) ({ frames := 1, cells := 0, slots := 0, locals := 20 } : Room) (dC, dI) vwCl (kT cI cM cO) [Value.ref rc, Value.int wh] [(rc, Sum.inr (6, [Value.ref co, Value.ref ma, Value.int (nI k), Value.int fit, Value.int fen, Value.int frd, Value.int fbd, Value.int fir])), (ma, Sum.inl (cM, 8, Sum.inr (Sum.inr (Sum.inr (Sum.inr mf))))), (co, Sum.inr (2, [Value.long xlow, Value.long xrange, Value.long xcode, Value.long xreadLow, Value.long xreadRange, Value.ref ri, Value.ref ro, Value.ref rw, Value.int xasked])), (ri, Sum.inr (0, [Value.int rin, Value.ref ria])), (ria, Sum.inl (cI, rik, Sum.inl rif)), (ro, Sum.inr (0, [Value.int ron, Value.ref roa])), (roa, Sum.inl (cI, rok, Sum.inl rof))] sz (fun (r : Int32) (u : Unit) => True) (fun (u : Unit) => [(rc, Sum.inr (6, [Value.ref co, Value.ref ma, Value.int (nI k), Value.int fit, Value.int fen, Value.int frd, Value.int fbd, Value.int fir])), (ma, Sum.inl (cM, 8, Sum.inr (Sum.inr (Sum.inr (Sum.inr mf))))), (co, Sum.inr (2, [Value.long xlow, Value.long xrange, Value.long xcode, Value.long xreadLow, Value.long xreadRange, Value.ref ri, Value.ref ro, Value.ref rw, Value.int xasked])), (ri, Sum.inr (0, [Value.int rin, Value.ref ria])), (ria, Sum.inl (cI, rik, Sum.inl rif)), (ro, Sum.inr (0, [Value.int ron, Value.ref roa])), (roa, Sum.inl (cI, rok, Sum.inl rof))]) 0 0 := by
  refine my_ofI (cc := prog_1_method_15_code) (n := 2) (ret := (some .int)) (by decide) rfl (Nat.le_of_ble_eq_true rfl) ?_
  intro p e s m args below meth c R Q A ls H locs hx hb hr hts hown hlocks hml hnm hR hQ hA hl hP hK hN hD hS
  have hg : ∀ w ∈ gw, w.before args s = true := fun w h => hts w (List.mem_cons_of_mem _ h)
  have hown : s.vm.findClass "RangeCoders" = some m.cls := hown
  have hl : lv_has ls 2 [(0, Value.ref rc), (1, Value.int wh)] := hl
  have hlt_hri := rOk_lt hri
  have hlt_hro := rOk_lt hro
  refine lv_iload_n hx hb d_RC_told_0 rfl (lv_at hl 1 rfl) ?_
  refine lv_if_lt (tgt := 10) hx hb d_RC_told_1 (by decide) (fun c_1 => ?_) (fun c_1 => ?_)
  · refine lv_bipush (v := (-2)) hx hb d_RC_told_10 (by decide) ?_
    exact my_iret (v := (-2)) hx hb hr (rfl) hlocks hQ hK hS (Nat.le_refl _) (Nat.le_refl _) () (trivial) (hP.sub [0, 1, 2, 3, 4, 5, 6] rfl) (hD.sub [0, 1, 2, 3, 4, 5, 6] (by decide +kernel) rfl) d_RC_told_12
  · refine lv_iload_n hx hb d_RC_told_4 rfl (lv_at hl 1 rfl) ?_
    refine lv_bipush (v := 7) hx hb d_RC_told_5 (by decide) ?_
    refine lv_icmp_le (tgt := 13) hx hb d_RC_told_7 (by decide) (fun c_2 => ?_) (fun c_2 => ?_)
    · refine lv_iload_n hx hb d_RC_told_13 rfl (lv_at hl 1 rfl) ?_
      by_cases c_3 : wh = 0
      · refine lv_tableIn (tgt := 56) hx hb d_RC_told_14 (by rw [c_3]; decide) (by rw [c_3]; decide) (by rw [c_3]; rfl) (by decide) ?_
        refine lv_aload_n hx hb d_RC_told_56 rfl (lv_at hl 0 rfl) ?_
        refine va_get (D := (dC, dI)) (ci := 6) (v := .int fit) (C := "RangeCoders") (T := T_RC) (N := 8) hx hb hg in_RC hown hK hP 0 rfl rfl 3 (by decide) (hg _ k261) (fun _ h9 => h9) rfl d_RC_told_57 ?_
        exact my_iret (v := fit) hx hb hr (rfl) hlocks hQ hK hS (Nat.le_refl _) (Nat.le_refl _) () (trivial) (hP.sub [0, 1, 2, 3, 4, 5, 6] rfl) (hD.sub [0, 1, 2, 3, 4, 5, 6] (by decide +kernel) rfl) d_RC_told_60
      by_cases c_4 : wh = 1
      · refine lv_tableIn (tgt := 61) hx hb d_RC_told_14 (by rw [c_4]; decide) (by rw [c_4]; decide) (by rw [c_4]; rfl) (by decide) ?_
        refine lv_aload_n hx hb d_RC_told_61 rfl (lv_at hl 0 rfl) ?_
        refine va_get (D := (dC, dI)) (ci := 6) (v := .int fen) (C := "RangeCoders") (T := T_RC) (N := 8) hx hb hg in_RC hown hK hP 0 rfl rfl 4 (by decide) (hg _ k262) (fun _ h9 => h9) rfl d_RC_told_62 ?_
        refine lv_if_eq (tgt := 72) hx hb d_RC_told_65 (by decide) (fun c_5 => ?_) (fun c_5 => ?_)
        · refine lv_iconst (v := 0) hx hb d_RC_told_72 (by decide) ?_
          exact my_iret (v := 0) hx hb hr (rfl) hlocks hQ hK hS (Nat.le_refl _) (Nat.le_refl _) () (trivial) (hP.sub [0, 1, 2, 3, 4, 5, 6] rfl) (hD.sub [0, 1, 2, 3, 4, 5, 6] (by decide +kernel) rfl) d_RC_told_73
        · refine lv_iconst (v := 1) hx hb d_RC_told_68 (by decide) ?_
          refine lv_goto (tgt := 73) hx hb d_RC_told_69 (by decide) ?_
          exact my_iret (v := 1) hx hb hr (rfl) hlocks hQ hK hS (Nat.le_refl _) (Nat.le_refl _) () (trivial) (hP.sub [0, 1, 2, 3, 4, 5, 6] rfl) (hD.sub [0, 1, 2, 3, 4, 5, 6] (by decide +kernel) rfl) d_RC_told_73
      by_cases c_6 : wh = 2
      · refine lv_tableIn (tgt := 74) hx hb d_RC_told_14 (by rw [c_6]; decide) (by rw [c_6]; decide) (by rw [c_6]; rfl) (by decide) ?_
        refine lv_aload_n hx hb d_RC_told_74 rfl (lv_at hl 0 rfl) ?_
        refine va_get (D := (dC, dI)) (ci := 6) (v := .ref co) (C := "RangeCoders") (T := T_RC) (N := 8) hx hb hg in_RC hown hK hP 0 rfl rfl 0 (by decide) (hg _ k258) (fun _ h9 => h9) rfl d_RC_told_75 ?_
        refine va_get (D := (dC, dI)) (ci := 2) (v := .ref ro) (C := "RangeCoders$NoCarries") (T := T_NoCarries) (N := 9) hx hb hg in_NoCarries hown hK hP 2 rfl rfl 6 (by decide) (hg _ k108) (fun _ h9 => h9) rfl d_RC_told_78 ?_
        refine va_get (D := (dC, dI)) (ci := 0) (v := .int ron) (C := "RangeCoders$Row") (T := T_Row) (N := 2) hx hb hg in_Row hown hK hP 5 rfl rfl 0 (by decide) (hg _ k58) (fun _ h9 => h9) rfl d_RC_told_81 ?_
        exact my_iret (v := ron) hx hb hr (rfl) hlocks hQ hK hS (Nat.le_refl _) (Nat.le_refl _) () (trivial) (hP.sub [0, 1, 2, 3, 4, 5, 6] rfl) (hD.sub [0, 1, 2, 3, 4, 5, 6] (by decide +kernel) rfl) d_RC_told_84
      by_cases c_7 : wh = 3
      · refine lv_tableIn (tgt := 85) hx hb d_RC_told_14 (by rw [c_7]; decide) (by rw [c_7]; decide) (by rw [c_7]; rfl) (by decide) ?_
        refine lv_aload_n hx hb d_RC_told_85 rfl (lv_at hl 0 rfl) ?_
        refine va_get (D := (dC, dI)) (ci := 6) (v := .ref co) (C := "RangeCoders") (T := T_RC) (N := 8) hx hb hg in_RC hown hK hP 0 rfl rfl 0 (by decide) (hg _ k258) (fun _ h9 => h9) rfl d_RC_told_86 ?_
        refine va_get (D := (dC, dI)) (ci := 2) (v := .ref ri) (C := "RangeCoders$NoCarries") (T := T_NoCarries) (N := 9) hx hb hg in_NoCarries hown hK hP 2 rfl rfl 5 (by decide) (hg _ k102) (fun _ h9 => h9) rfl d_RC_told_89 ?_
        refine va_get (D := (dC, dI)) (ci := 0) (v := .int rin) (C := "RangeCoders$Row") (T := T_Row) (N := 2) hx hb hg in_Row hown hK hP 3 rfl rfl 0 (by decide) (hg _ k58) (fun _ h9 => h9) rfl d_RC_told_92 ?_
        exact my_iret (v := rin) hx hb hr (rfl) hlocks hQ hK hS (Nat.le_refl _) (Nat.le_refl _) () (trivial) (hP.sub [0, 1, 2, 3, 4, 5, 6] rfl) (hD.sub [0, 1, 2, 3, 4, 5, 6] (by decide +kernel) rfl) d_RC_told_95
      by_cases c_8 : wh = 4
      · refine lv_tableIn (tgt := 96) hx hb d_RC_told_14 (by rw [c_8]; decide) (by rw [c_8]; decide) (by rw [c_8]; rfl) (by decide) ?_
        refine lv_aload_n hx hb d_RC_told_96 rfl (lv_at hl 0 rfl) ?_
        refine va_get (D := (dC, dI)) (ci := 6) (v := .int fir) (C := "RangeCoders") (T := T_RC) (N := 8) hx hb hg in_RC hown hK hP 0 rfl rfl 7 (by decide) (hg _ k265) (fun _ h9 => h9) rfl d_RC_told_97 ?_
        exact my_iret (v := fir) hx hb hr (rfl) hlocks hQ hK hS (Nat.le_refl _) (Nat.le_refl _) () (trivial) (hP.sub [0, 1, 2, 3, 4, 5, 6] rfl) (hD.sub [0, 1, 2, 3, 4, 5, 6] (by decide +kernel) rfl) d_RC_told_100
      by_cases c_9 : wh = 5
      · refine lv_tableIn (tgt := 101) hx hb d_RC_told_14 (by rw [c_9]; decide) (by rw [c_9]; decide) (by rw [c_9]; rfl) (by decide) ?_
        refine lv_aload_n hx hb d_RC_told_101 rfl (lv_at hl 0 rfl) ?_
        refine va_get (D := (dC, dI)) (ci := 6) (v := .int frd) (C := "RangeCoders") (T := T_RC) (N := 8) hx hb hg in_RC hown hK hP 0 rfl rfl 5 (by decide) (hg _ k263) (fun _ h9 => h9) rfl d_RC_told_102 ?_
        refine lv_if_eq (tgt := 118) hx hb d_RC_told_105 (by decide) (fun c_10 => ?_) (fun c_10 => ?_)
        · refine lv_iconst (v := 0) hx hb d_RC_told_118 (by decide) ?_
          exact my_iret (v := 0) hx hb hr (rfl) hlocks hQ hK hS (Nat.le_refl _) (Nat.le_refl _) () (trivial) (hP.sub [0, 1, 2, 3, 4, 5, 6] rfl) (hD.sub [0, 1, 2, 3, 4, 5, 6] (by decide +kernel) rfl) d_RC_told_119
        · refine lv_aload_n hx hb d_RC_told_108 rfl (lv_at hl 0 rfl) ?_
          refine va_get (D := (dC, dI)) (ci := 6) (v := .ref co) (C := "RangeCoders") (T := T_RC) (N := 8) hx hb hg in_RC hown hK hP 0 rfl rfl 0 (by decide) (hg _ k258) (fun _ h9 => h9) rfl d_RC_told_109 ?_
          refine my_ci (wr := [(rc, Sum.inr (6, [Value.ref co, Value.ref ma, Value.int (nI k), Value.int fit, Value.int fen, Value.int frd, Value.int fbd, Value.int fir])), (ma, Sum.inl (cM, 8, Sum.inr (Sum.inr (Sum.inr (Sum.inr mf))))), (ri, Sum.inr (0, [Value.int rin, Value.ref ria])), (ria, Sum.inl (cI, rik, Sum.inl rif)), (ro, Sum.inr (0, [Value.int ron, Value.ref roa])), (roa, Sum.inl (cI, rok, Sum.inl rof))]) (va_runU (As := []) (rest := []) ⟨hx, hb, hml, hown, hts⟩ (c_NoCarries_Coder_bytesAsked l dC dI cI cM cO H.size co xlow xrange xcode xreadLow xreadRange ri ro rw xasked) (va_cwU 0 hts (my_gU k880 k882 k885 k881 k3 k890) rfl rfl rfl rfl (by decide +kernel) ⟨by rw [hR]; exact Nat.le_of_ble_eq_true rfl, by rw [hR]; exact Nat.le_of_ble_eq_true rfl⟩) (my_preV hK hN (hP.sub [2] rfl) (hD.sub [2] (by decide +kernel) rfl) 0 rfl rfl) rfl rfl hl.1 rfl (lv_room (Nat.le_of_ble_eq_true rfl)) d_RC_told_112 ⟨by rw [hR]; exact Nat.le_of_ble_eq_true rfl, by rw [hR]; exact Nat.le_of_ble_eq_true rfl⟩) hP hD hS hA [2] [0, 1, 3, 4, 5, 6] rfl rfl (by decide +kernel) (by decide +kernel) (fun r_112 u9 H locs hw_112 hP hD hS => ?_)
          have hPD : my_PD (dC, dI) vwCl A [(rc, Sum.inr (6, [Value.ref co, Value.ref ma, Value.int (nI k), Value.int fit, Value.int fen, Value.int frd, Value.int fbd, Value.int fir])), (ma, Sum.inl (cM, 8, Sum.inr (Sum.inr (Sum.inr (Sum.inr mf))))), (ri, Sum.inr (0, [Value.int rin, Value.ref ria])), (ria, Sum.inl (cI, rik, Sum.inl rif)), (ro, Sum.inr (0, [Value.int ron, Value.ref roa])), (roa, Sum.inl (cI, rok, Sum.inl rof)), (co, Sum.inr (2, [Value.long xlow, Value.long xrange, Value.long xcode, Value.long xreadLow, Value.long xreadRange, Value.ref ri, Value.ref ro, Value.ref rw, Value.int xasked]))] H := ⟨hP, hD⟩
          have hP := hPD.1
          have hD := hPD.2
          refine lv_goto (tgt := 119) hx hb d_RC_told_115 (by decide) ?_
          exact my_iret (v := r_112) hx hb hr (rfl) hlocks hQ hK hS (Nat.le_refl _) (Nat.le_refl _) () (trivial) (hP.sub [0, 1, 6, 2, 3, 4, 5] rfl) (hD.sub [0, 1, 6, 2, 3, 4, 5] (by decide +kernel) rfl) d_RC_told_119
      by_cases c_11 : wh = 6
      · refine lv_tableIn (tgt := 120) hx hb d_RC_told_14 (by rw [c_11]; decide) (by rw [c_11]; decide) (by rw [c_11]; rfl) (by decide) ?_
        refine lv_aload_n hx hb d_RC_told_120 rfl (lv_at hl 0 rfl) ?_
        refine va_get (D := (dC, dI)) (ci := 6) (v := .int fbd) (C := "RangeCoders") (T := T_RC) (N := 8) hx hb hg in_RC hown hK hP 0 rfl rfl 6 (by decide) (hg _ k264) (fun _ h9 => h9) rfl d_RC_told_121 ?_
        refine lv_if_eq (tgt := 131) hx hb d_RC_told_124 (by decide) (fun c_12 => ?_) (fun c_12 => ?_)
        · refine lv_iconst (v := 0) hx hb d_RC_told_131 (by decide) ?_
          exact my_iret (v := 0) hx hb hr (rfl) hlocks hQ hK hS (Nat.le_refl _) (Nat.le_refl _) () (trivial) (hP.sub [0, 1, 2, 3, 4, 5, 6] rfl) (hD.sub [0, 1, 2, 3, 4, 5, 6] (by decide +kernel) rfl) d_RC_told_132
        · refine lv_iconst (v := 1) hx hb d_RC_told_127 (by decide) ?_
          refine lv_goto (tgt := 132) hx hb d_RC_told_128 (by decide) ?_
          exact my_iret (v := 1) hx hb hr (rfl) hlocks hQ hK hS (Nat.le_refl _) (Nat.le_refl _) () (trivial) (hP.sub [0, 1, 2, 3, 4, 5, 6] rfl) (hD.sub [0, 1, 2, 3, 4, 5, 6] (by decide +kernel) rfl) d_RC_told_132
      refine lv_tableOut (tgt := 133) hx hb d_RC_told_14 (by have ac_3 : wh.toInt ≠ 0 := fun z => c_3 (Int32.toInt_inj.mp z); have ac_4 : wh.toInt ≠ 1 := fun z => c_4 (Int32.toInt_inj.mp z); have ac_6 : wh.toInt ≠ 2 := fun z => c_6 (Int32.toInt_inj.mp z); have ac_7 : wh.toInt ≠ 3 := fun z => c_7 (Int32.toInt_inj.mp z); have ac_8 : wh.toInt ≠ 4 := fun z => c_8 (Int32.toInt_inj.mp z); have ac_9 : wh.toInt ≠ 5 := fun z => c_9 (Int32.toInt_inj.mp z); have ac_11 : wh.toInt ≠ 6 := fun z => c_11 (Int32.toInt_inj.mp z); omega) (by decide) ?_
      refine lv_aload_n hx hb d_RC_told_133 rfl (lv_at hl 0 rfl) ?_
      refine va_get (D := (dC, dI)) (ci := 6) (v := .int frd) (C := "RangeCoders") (T := T_RC) (N := 8) hx hb hg in_RC hown hK hP 0 rfl rfl 5 (by decide) (hg _ k263) (fun _ h9 => h9) rfl d_RC_told_134 ?_
      refine lv_if_eq (tgt := 144) hx hb d_RC_told_137 (by decide) (fun c_13 => ?_) (fun c_13 => ?_)
      · refine lv_iconst (v := 0) hx hb d_RC_told_144 (by decide) ?_
        exact my_iret (v := 0) hx hb hr (rfl) hlocks hQ hK hS (Nat.le_refl _) (Nat.le_refl _) () (trivial) (hP.sub [0, 1, 2, 3, 4, 5, 6] rfl) (hD.sub [0, 1, 2, 3, 4, 5, 6] (by decide +kernel) rfl) d_RC_told_145
      · refine lv_iconst (v := 1) hx hb d_RC_told_140 (by decide) ?_
        refine lv_goto (tgt := 145) hx hb d_RC_told_141 (by decide) ?_
        exact my_iret (v := 1) hx hb hr (rfl) hlocks hQ hK hS (Nat.le_refl _) (Nat.le_refl _) () (trivial) (hP.sub [0, 1, 2, 3, 4, 5, 6] rfl) (hD.sub [0, 1, 2, 3, 4, 5, 6] (by decide +kernel) rfl) d_RC_told_145
    · refine lv_bipush (v := (-2)) hx hb d_RC_told_10 (by decide) ?_
      exact my_iret (v := (-2)) hx hb hr (rfl) hlocks hQ hK hS (Nat.le_refl _) (Nat.le_refl _) () (trivial) (hP.sub [0, 1, 2, 3, 4, 5, 6] rfl) (hD.sub [0, 1, 2, 3, 4, 5, 6] (by decide +kernel) rfl) d_RC_told_12
set_option maxHeartbeats 2000000 in
set_option maxRecDepth 100000 in
theorem c_RC_state_NoCarries (l : Launch) (dC : Nat → ClassId) (dI : Nat → Nat → Nat) (cI cM cO : ClassId) (sz : Nat) (rc : Nat) (ma : Nat) (k : Nat) (fit : Int32) (fen : Int32) (frd : Int32) (fbd : Int32) (fir : Int32) (mf : Nat → Option Nat) (co : Nat) (xlow : Int64) (xrange : Int64) (xcode : Int64) (xreadLow : Int64) (xreadRange : Int64) (ri : Nat) (ro : Nat) (rw : Nat) (xasked : Int32) (wh : Int32) (hk8 : k ≤ 8) : MetL l y_RC_state (Cond.code y_RC_state prog_1_method_16_code 2 (some .long) :: gw) ({ frames := 1, cells := 0, slots := 0, locals := 21 } : Room) (dC, dI) vwCl (kT cI cM cO) [Value.ref rc, Value.int wh] [(rc, Sum.inr (6, [Value.ref co, Value.ref ma, Value.int (nI k), Value.int fit, Value.int fen, Value.int frd, Value.int fbd, Value.int fir])), (ma, Sum.inl (cM, 8, Sum.inr (Sum.inr (Sum.inr (Sum.inr mf))))), (co, Sum.inr (2, [Value.long xlow, Value.long xrange, Value.long xcode, Value.long xreadLow, Value.long xreadRange, Value.ref ri, Value.ref ro, Value.ref rw, Value.int xasked]))] sz (fun (r : Int64) (u : Unit) => True) (fun (u : Unit) => [(rc, Sum.inr (6, [Value.ref co, Value.ref ma, Value.int (nI k), Value.int fit, Value.int fen, Value.int frd, Value.int fbd, Value.int fir])), (ma, Sum.inl (cM, 8, Sum.inr (Sum.inr (Sum.inr (Sum.inr mf))))), (co, Sum.inr (2, [Value.long xlow, Value.long xrange, Value.long xcode, Value.long xreadLow, Value.long xreadRange, Value.ref ri, Value.ref ro, Value.ref rw, Value.int xasked]))]) 0 0 := by
  refine my_ofL (cc := prog_1_method_16_code) (n := 2) (ret := (some .long)) (by decide) rfl (Nat.le_of_ble_eq_true rfl) ?_
  intro p e s m args below meth c R Q A ls H locs hx hb hr hts hown hlocks hml hnm hR hQ hA hl hP hK hN hD hS
  have hg : ∀ w ∈ gw, w.before args s = true := fun w h => hts w (List.mem_cons_of_mem _ h)
  have hown : s.vm.findClass "RangeCoders" = some m.cls := hown
  have hl : lv_has ls 2 [(0, Value.ref rc), (1, Value.int wh)] := hl
  refine lv_iload_n hx hb d_RC_state_0 rfl (lv_at hl 1 rfl) ?_
  refine lv_if_lt (tgt := 9) hx hb d_RC_state_1 (by decide) (fun c_1 => ?_) (fun c_1 => ?_)
  · refine lv_ldc2 (v := (-2)) hx hb hown (hg _ k895) d_RC_state_9 ?_
    exact my_lret (v := (-2)) hx hb hr hlocks hQ hK hS (Nat.le_refl _) (Nat.le_refl _) () (trivial) (hP.sub [0, 1, 2] rfl) (hD.sub [0, 1, 2] (by decide +kernel) rfl) d_RC_state_12
  · refine lv_iload_n hx hb d_RC_state_4 rfl (lv_at hl 1 rfl) ?_
    refine lv_iconst (v := 5) hx hb d_RC_state_5 (by decide) ?_
    refine lv_icmp_le (tgt := 13) hx hb d_RC_state_6 (by decide) (fun c_2 => ?_) (fun c_2 => ?_)
    · refine lv_iload_n hx hb d_RC_state_13 rfl (lv_at hl 1 rfl) ?_
      refine lv_iconst (v := 1) hx hb d_RC_state_14 (by decide) ?_
      refine lv_icmp_le (tgt := 27) hx hb d_RC_state_15 (by decide) (fun c_3 => ?_) (fun c_3 => ?_)
      · refine lv_aload_n hx hb d_RC_state_27 rfl (lv_at hl 0 rfl) ?_
        refine va_get (D := (dC, dI)) (ci := 6) (v := .ref co) (C := "RangeCoders") (T := T_RC) (N := 8) hx hb hg in_RC hown hK hP 0 rfl rfl 0 (by decide) (hg _ k258) (fun _ h9 => h9) rfl d_RC_state_28 ?_
        refine lv_iload_n hx hb d_RC_state_31 rfl (lv_at hl 1 rfl) ?_
        refine my_cl (wr := [(rc, Sum.inr (6, [Value.ref co, Value.ref ma, Value.int (nI k), Value.int fit, Value.int fen, Value.int frd, Value.int fbd, Value.int fir])), (ma, Sum.inl (cM, 8, Sum.inr (Sum.inr (Sum.inr (Sum.inr mf)))))]) (va_runU (As := [Value.int wh]) (rest := []) ⟨hx, hb, hml, hown, hts⟩ (c_NoCarries_Ranged_register l dC dI cI cM cO H.size co xlow xrange xcode xreadLow xreadRange ri ro rw xasked wh) (va_cwA 1 hts (my_gU k896 k898 k903 k900 k4 k901) rfl rfl rfl (hN.1 _ j897 rfl) (by decide +kernel) ⟨by rw [hR]; exact Nat.le_of_ble_eq_true rfl, by rw [hR]; exact Nat.le_of_ble_eq_true rfl⟩) (my_preV hK hN (hP.sub [2] rfl) (hD.sub [2] (by decide +kernel) rfl) 0 rfl rfl) rfl rfl hl.1 rfl (lv_room (Nat.le_of_ble_eq_true rfl)) d_RC_state_32 ⟨by rw [hR]; exact Nat.le_of_ble_eq_true rfl, by rw [hR]; exact Nat.le_of_ble_eq_true rfl⟩) hP hD hS hA [2] [0, 1] rfl rfl (by decide +kernel) (by decide +kernel) (fun r_32 u9 H locs hw_32 hP hD hS => ?_)
        have hPD : my_PD (dC, dI) vwCl A [(rc, Sum.inr (6, [Value.ref co, Value.ref ma, Value.int (nI k), Value.int fit, Value.int fen, Value.int frd, Value.int fbd, Value.int fir])), (ma, Sum.inl (cM, 8, Sum.inr (Sum.inr (Sum.inr (Sum.inr mf))))), (co, Sum.inr (2, [Value.long xlow, Value.long xrange, Value.long xcode, Value.long xreadLow, Value.long xreadRange, Value.ref ri, Value.ref ro, Value.ref rw, Value.int xasked]))] H := ⟨hP, hD⟩
        have hP := hPD.1
        have hD := hPD.2
        exact my_lret (v := r_32) hx hb hr hlocks hQ hK hS (Nat.le_refl _) (Nat.le_refl _) () (trivial) (hP.sub [0, 1, 2] rfl) (hD.sub [0, 1, 2] (by decide +kernel) rfl) d_RC_state_35
      · refine lv_aload_n hx hb d_RC_state_18 rfl (lv_at hl 0 rfl) ?_
        refine va_get (D := (dC, dI)) (ci := 6) (v := .int frd) (C := "RangeCoders") (T := T_RC) (N := 8) hx hb hg in_RC hown hK hP 0 rfl rfl 5 (by decide) (hg _ k263) (fun _ h9 => h9) rfl d_RC_state_19 ?_
        refine lv_if_ne (tgt := 27) hx hb d_RC_state_22 (by decide) (fun c_4 => ?_) (fun c_4 => ?_)
        · refine lv_aload_n hx hb d_RC_state_27 rfl (lv_at hl 0 rfl) ?_
          refine va_get (D := (dC, dI)) (ci := 6) (v := .ref co) (C := "RangeCoders") (T := T_RC) (N := 8) hx hb hg in_RC hown hK hP 0 rfl rfl 0 (by decide) (hg _ k258) (fun _ h9 => h9) rfl d_RC_state_28 ?_
          refine lv_iload_n hx hb d_RC_state_31 rfl (lv_at hl 1 rfl) ?_
          refine my_cl (wr := [(rc, Sum.inr (6, [Value.ref co, Value.ref ma, Value.int (nI k), Value.int fit, Value.int fen, Value.int frd, Value.int fbd, Value.int fir])), (ma, Sum.inl (cM, 8, Sum.inr (Sum.inr (Sum.inr (Sum.inr mf)))))]) (va_runU (As := [Value.int wh]) (rest := []) ⟨hx, hb, hml, hown, hts⟩ (c_NoCarries_Ranged_register l dC dI cI cM cO H.size co xlow xrange xcode xreadLow xreadRange ri ro rw xasked wh) (va_cwA 1 hts (my_gU k896 k898 k903 k900 k4 k901) rfl rfl rfl (hN.1 _ j897 rfl) (by decide +kernel) ⟨by rw [hR]; exact Nat.le_of_ble_eq_true rfl, by rw [hR]; exact Nat.le_of_ble_eq_true rfl⟩) (my_preV hK hN (hP.sub [2] rfl) (hD.sub [2] (by decide +kernel) rfl) 0 rfl rfl) rfl rfl hl.1 rfl (lv_room (Nat.le_of_ble_eq_true rfl)) d_RC_state_32 ⟨by rw [hR]; exact Nat.le_of_ble_eq_true rfl, by rw [hR]; exact Nat.le_of_ble_eq_true rfl⟩) hP hD hS hA [2] [0, 1] rfl rfl (by decide +kernel) (by decide +kernel) (fun r_32 u9 H locs hw_32 hP hD hS => ?_)
          have hPD : my_PD (dC, dI) vwCl A [(rc, Sum.inr (6, [Value.ref co, Value.ref ma, Value.int (nI k), Value.int fit, Value.int fen, Value.int frd, Value.int fbd, Value.int fir])), (ma, Sum.inl (cM, 8, Sum.inr (Sum.inr (Sum.inr (Sum.inr mf))))), (co, Sum.inr (2, [Value.long xlow, Value.long xrange, Value.long xcode, Value.long xreadLow, Value.long xreadRange, Value.ref ri, Value.ref ro, Value.ref rw, Value.int xasked]))] H := ⟨hP, hD⟩
          have hP := hPD.1
          have hD := hPD.2
          exact my_lret (v := r_32) hx hb hr hlocks hQ hK hS (Nat.le_refl _) (Nat.le_refl _) () (trivial) (hP.sub [0, 1, 2] rfl) (hD.sub [0, 1, 2] (by decide +kernel) rfl) d_RC_state_35
        · refine lv_lconst (v := 0) hx hb d_RC_state_25 (by decide) ?_
          exact my_lret (v := 0) hx hb hr hlocks hQ hK hS (Nat.le_refl _) (Nat.le_refl _) () (trivial) (hP.sub [0, 1, 2] rfl) (hD.sub [0, 1, 2] (by decide +kernel) rfl) d_RC_state_26
    · refine lv_ldc2 (v := (-2)) hx hb hown (hg _ k895) d_RC_state_9 ?_
      exact my_lret (v := (-2)) hx hb hr hlocks hQ hK hS (Nat.le_refl _) (Nat.le_refl _) () (trivial) (hP.sub [0, 1, 2] rfl) (hD.sub [0, 1, 2] (by decide +kernel) rfl) d_RC_state_12
set_option maxHeartbeats 2000000 in
set_option maxRecDepth 100000 in
theorem c_RC_modelA_NoCarries (l : Launch) (dC : Nat → ClassId) (dI : Nat → Nat → Nat) (cI cM cO : ClassId) (sz : Nat) (rc : Nat) (ma : Nat) (k : Nat) (fit : Int32) (fen : Int32) (frd : Int32) (fbd : Int32) (fir : Int32) (mf : Nat → Option Nat) (co : Nat) (xlow : Int64) (xrange : Int64) (xcode : Int64) (xreadLow : Int64) (xreadRange : Int64) (ri : Nat) (ro : Nat) (rw : Nat) (xasked : Int32) (nn : Int32) (hrf : nn < 2 ∨ 64 < nn) : MetI l y_RC_model (Cond.code y_RC_model prog_1_method_2_code 3 (some .int) :: gw) ({ frames := 0, cells := 0, slots := 0, locals := 0 } : Room) (dC, dI) vwCl (kT cI cM cO) [Value.ref rc, Value.int nn] [(rc, Sum.inr (6, [Value.ref co, Value.ref ma, Value.int (nI k), Value.int fit, Value.int fen, Value.int frd, Value.int fbd, Value.int fir])), (ma, Sum.inl (cM, 8, Sum.inr (Sum.inr (Sum.inr (Sum.inr mf))))), (co, Sum.inr (2, [Value.long xlow, Value.long xrange, Value.long xcode, Value.long xreadLow, Value.long xreadRange, Value.ref ri, Value.ref ro, Value.ref rw, Value.int xasked]))] sz (fun (r : Int32) (u : Unit) => r = -2) (fun (u : Unit) => [(rc, Sum.inr (6, [Value.ref co, Value.ref ma, Value.int (nI k), Value.int fit, Value.int fen, Value.int frd, Value.int fbd, Value.int fir])), (ma, Sum.inl (cM, 8, Sum.inr (Sum.inr (Sum.inr (Sum.inr mf))))), (co, Sum.inr (2, [Value.long xlow, Value.long xrange, Value.long xcode, Value.long xreadLow, Value.long xreadRange, Value.ref ri, Value.ref ro, Value.ref rw, Value.int xasked]))]) 0 0 := by
  refine my_ofI (cc := prog_1_method_2_code) (n := 3) (ret := (some .int)) (by decide) rfl (Nat.le_of_ble_eq_true rfl) ?_
  intro p e s m args below meth c R Q A ls H locs hx hb hr hts hown hlocks hml hnm hR hQ hA hl hP hK hN hD hS
  have hg : ∀ w ∈ gw, w.before args s = true := fun w h => hts w (List.mem_cons_of_mem _ h)
  have hown : s.vm.findClass "RangeCoders" = some m.cls := hown
  have hl : lv_has ls 3 [(0, Value.ref rc), (1, Value.int nn)] := hl
  refine lv_iload_n hx hb d_RC_model_0 rfl (lv_at hl 1 rfl) ?_
  refine lv_iconst (v := 2) hx hb d_RC_model_1 (by decide) ?_
  refine lv_icmp_lt (tgt := 11) hx hb d_RC_model_2 (by decide) (fun c_1 => ?_) (fun c_1 => ?_)
  · refine lv_bipush (v := (-2)) hx hb d_RC_model_11 (by decide) ?_
    exact my_iret (v := (-2)) hx hb hr (rfl) hlocks hQ hK hS (Nat.le_refl _) (Nat.le_refl _) () (rfl) (hP.sub [0, 1, 2] rfl) (hD.sub [0, 1, 2] (by decide +kernel) rfl) d_RC_model_13
  · refine lv_iload_n hx hb d_RC_model_5 rfl (lv_at hl 1 rfl) ?_
    refine lv_bipush (v := 64) hx hb d_RC_model_6 (by decide) ?_
    refine lv_icmp_le (tgt := 14) hx hb d_RC_model_8 (by decide) (fun c_2 => ?_) (fun c_2 => ?_)
    · exact absurd hrf (fun h9 => h9.elim c_1 (fun h8 => absurd c_2 (Int32.not_le.mpr h8)))
    · refine lv_bipush (v := (-2)) hx hb d_RC_model_11 (by decide) ?_
      exact my_iret (v := (-2)) hx hb hr (rfl) hlocks hQ hK hS (Nat.le_refl _) (Nat.le_refl _) () (rfl) (hP.sub [0, 1, 2] rfl) (hD.sub [0, 1, 2] (by decide +kernel) rfl) d_RC_model_13
set_option maxHeartbeats 2000000 in
set_option maxRecDepth 100000 in
theorem c_RC_modelF_NoCarries (l : Launch) (dC : Nat → ClassId) (dI : Nat → Nat → Nat) (cI cM cO : ClassId) (sz : Nat) (rc : Nat) (ma : Nat) (k : Nat) (fit : Int32) (fen : Int32) (frd : Int32) (fbd : Int32) (fir : Int32) (mf : Nat → Option Nat) (co : Nat) (xlow : Int64) (xrange : Int64) (xcode : Int64) (xreadLow : Int64) (xreadRange : Int64) (ri : Nat) (ro : Nat) (rw : Nat) (xasked : Int32) (ns : Nat) (hns2 : 2 ≤ ns) (hns : ns ≤ 64) (hk : k = 8) : MetI l y_RC_model (Cond.code y_RC_model prog_1_method_2_code 3 (some .int) :: gw) ({ frames := 0, cells := 0, slots := 0, locals := 0 } : Room) (dC, dI) vwCl (kT cI cM cO) [Value.ref rc, Value.int (nI ns)] [(rc, Sum.inr (6, [Value.ref co, Value.ref ma, Value.int (nI k), Value.int fit, Value.int fen, Value.int frd, Value.int fbd, Value.int fir])), (ma, Sum.inl (cM, 8, Sum.inr (Sum.inr (Sum.inr (Sum.inr mf))))), (co, Sum.inr (2, [Value.long xlow, Value.long xrange, Value.long xcode, Value.long xreadLow, Value.long xreadRange, Value.ref ri, Value.ref ro, Value.ref rw, Value.int xasked]))] sz (fun (r : Int32) (u : Unit) => r = -4) (fun (u : Unit) => [(rc, Sum.inr (6, [Value.ref co, Value.ref ma, Value.int (nI k), Value.int fit, Value.int fen, Value.int frd, Value.int fbd, Value.int fir])), (ma, Sum.inl (cM, 8, Sum.inr (Sum.inr (Sum.inr (Sum.inr mf))))), (co, Sum.inr (2, [Value.long xlow, Value.long xrange, Value.long xcode, Value.long xreadLow, Value.long xreadRange, Value.ref ri, Value.ref ro, Value.ref rw, Value.int xasked]))]) 0 0 := by
  refine my_ofI (cc := prog_1_method_2_code) (n := 3) (ret := (some .int)) (by decide) rfl (Nat.le_of_ble_eq_true rfl) ?_
  intro p e s m args below meth c R Q A ls H locs hx hb hr hts hown hlocks hml hnm hR hQ hA hl hP hK hN hD hS
  have hg : ∀ w ∈ gw, w.before args s = true := fun w h => hts w (List.mem_cons_of_mem _ h)
  have hown : s.vm.findClass "RangeCoders" = some m.cls := hown
  have hl : lv_has ls 3 [(0, Value.ref rc), (1, Value.int (nI ns))] := hl
  refine lv_iload_n hx hb d_RC_model_0 rfl (lv_at hl 1 rfl) ?_
  refine lv_iconst (v := 2) hx hb d_RC_model_1 (by decide) ?_
  refine lv_icmp_lt (tgt := 11) hx hb d_RC_model_2 (by decide) (fun c_1 => ?_) (fun c_1 => ?_)
  · exact absurd c_1 (show ¬ nI ns < nI 2 from nI_nlt hns2 (by omega))
  · refine lv_iload_n hx hb d_RC_model_5 rfl (lv_at hl 1 rfl) ?_
    refine lv_bipush (v := 64) hx hb d_RC_model_6 (by decide) ?_
    refine lv_icmp_le (tgt := 14) hx hb d_RC_model_8 (by decide) (fun c_2 => ?_) (fun c_2 => ?_)
    · refine lv_aload_n hx hb d_RC_model_14 rfl (lv_at hl 0 rfl) ?_
      refine va_get (D := (dC, dI)) (ci := 6) (v := .int (nI k)) (C := "RangeCoders") (T := T_RC) (N := 8) hx hb hg in_RC hown hK hP 0 rfl rfl 2 (by decide) (hg _ k260) (fun _ h9 => h9) rfl d_RC_model_15 ?_
      refine lv_bipush (v := 8) hx hb d_RC_model_18 (by decide) ?_
      refine lv_icmp_lt (tgt := 26) hx hb d_RC_model_20 (by decide) (fun c_3 => ?_) (fun c_3 => ?_)
      · exact absurd c_3 (show ¬ nI k < nI 8 from nI_nlt (by omega) (by omega))
      · refine lv_bipush (v := (-4)) hx hb d_RC_model_23 (by decide) ?_
        exact my_iret (v := (-4)) hx hb hr (rfl) hlocks hQ hK hS (Nat.le_refl _) (Nat.le_refl _) () (rfl) (hP.sub [0, 1, 2] rfl) (hD.sub [0, 1, 2] (by decide +kernel) rfl) d_RC_model_25
    · exact absurd (show nI ns ≤ nI 64 from nI_le hns (by omega)) c_2
end
section
set_option maxHeartbeats 2000000 in
set_option maxRecDepth 100000 in
theorem c_RC_getA_Stack (l : Launch) (dC : Nat → ClassId) (dI : Nat → Nat → Nat) (cI cM cO : ClassId) (sz : Nat) (rc : Nat) (ma : Nat) (k : Nat) (fit : Int32) (fen : Int32) (frd : Int32) (fbd : Int32) (fir : Int32) (mf : Nat → Option Nat) (co : Nat) (xx : Int64) (xreadX : Int64) (soa : Nat) (sna : Nat) (swa : Nat) (xkept : Int32) (ri : Nat) (ro : Nat) (rw : Nat) (xasked : Int32) (mm : Int32) (hk8 : k ≤ 8) (hbad : mm < 0 ∨ nI k ≤ mm) : MetI l y_RC_get (Cond.code y_RC_get prog_1_method_13_code 3 (some .int) :: gw) ({ frames := 1, cells := 0, slots := 0, locals := 21 } : Room) (dC, dI) vwCl (kT cI cM cO) [Value.ref rc, Value.int mm] [(rc, Sum.inr (6, [Value.ref co, Value.ref ma, Value.int (nI k), Value.int fit, Value.int fen, Value.int frd, Value.int fbd, Value.int fir])), (ma, Sum.inl (cM, 8, Sum.inr (Sum.inr (Sum.inr (Sum.inr mf))))), (co, Sum.inr (4, [Value.long xx, Value.long xreadX, Value.ref soa, Value.ref sna, Value.ref swa, Value.int xkept, Value.ref ri, Value.ref ro, Value.ref rw, Value.int xasked]))] sz (fun (r : Int32) (u : Unit) => True) (fun (u : Unit) => [(rc, Sum.inr (6, [Value.ref co, Value.ref ma, Value.int (nI k), Value.int fit, Value.int fen, Value.int frd, Value.int fbd, Value.int fir])), (ma, Sum.inl (cM, 8, Sum.inr (Sum.inr (Sum.inr (Sum.inr mf))))), (co, Sum.inr (4, [Value.long xx, Value.long xreadX, Value.ref soa, Value.ref sna, Value.ref swa, Value.int xkept, Value.ref ri, Value.ref ro, Value.ref rw, Value.int xasked]))]) 0 0 := by
  refine my_ofI (cc := prog_1_method_13_code) (n := 3) (ret := (some .int)) (by decide) rfl (Nat.le_of_ble_eq_true rfl) ?_
  intro p e s m args below meth c R Q A ls H locs hx hb hr hts hown hlocks hml hnm hR hQ hA hl hP hK hN hD hS
  have hg : ∀ w ∈ gw, w.before args s = true := fun w h => hts w (List.mem_cons_of_mem _ h)
  have hown : s.vm.findClass "RangeCoders" = some m.cls := hown
  have hl : lv_has ls 3 [(0, Value.ref rc), (1, Value.int mm)] := hl
  refine lv_aload_n hx hb d_RC_get_0 rfl (lv_at hl 0 rfl) ?_
  refine lv_iload_n hx hb d_RC_get_1 rfl (lv_at hl 1 rfl) ?_
  refine my_cq (wr := [(co, Sum.inr (4, [Value.long xx, Value.long xreadX, Value.ref soa, Value.ref sna, Value.ref swa, Value.int xkept, Value.ref ri, Value.ref ro, Value.ref rw, Value.int xasked]))]) (va_runV (As := [Value.int mm]) (rest := []) ⟨hx, hb, hml, hown, hts⟩ (c_RC_modelAtA l dC dI cI cM cO H.size rc ma k fit fen frd fbd fir mf co mm (by first | assumption | omega)) (cwV 1 hts (my_gV k412 k414 ks3 k1 k415) rfl rfl rfl (by decide +kernel) ⟨by rw [hR]; exact Nat.le_of_ble_eq_true rfl, by rw [hR]; exact Nat.le_of_ble_eq_true rfl⟩) (my_preV hK hN (hP.sub [0, 1] rfl) (hD.sub [0, 1] (by decide +kernel) rfl) 0 rfl rfl) rfl rfl hl.1 rfl (lv_room (Nat.le_of_ble_eq_true rfl)) d_RC_get_2 ⟨by rw [hR]; exact Nat.le_of_ble_eq_true rfl, by rw [hR]; exact Nat.le_of_ble_eq_true rfl⟩) hP hD hS hA [0, 1] [2] rfl rfl (by decide +kernel) (by decide +kernel) (fun r_2 u9 H locs hw_2 hP hD hS => ?_)
  have hr_2 : r_2 = none := hw_2
  have hPD : my_PD (dC, dI) vwCl A [(co, Sum.inr (4, [Value.long xx, Value.long xreadX, Value.ref soa, Value.ref sna, Value.ref swa, Value.int xkept, Value.ref ri, Value.ref ro, Value.ref rw, Value.int xasked])), (rc, Sum.inr (6, [Value.ref co, Value.ref ma, Value.int (nI k), Value.int fit, Value.int fen, Value.int frd, Value.int fbd, Value.int fir])), (ma, Sum.inl (cM, 8, Sum.inr (Sum.inr (Sum.inr (Sum.inr mf)))))] H := ⟨hP, hD⟩
  have hP := hPD.1
  have hD := hPD.2
  subst hr_2
  refine W.eq (g2 := F0 m 5 ls [Value.null]) rfl ?_
  refine lv_astore_nN (lv' := [(2, Value.null), (0, Value.ref rc), (1, Value.int mm)]) hx hb d_RC_get_5 rfl hl (by decide) rfl (fun ls hl => ?_)
  refine lv_aload_nN hx hb d_RC_get_6 rfl (lv_at hl 0 rfl) ?_
  refine lv_ifnonnullN hx hb d_RC_get_7 ?_
  refine lv_iconst (v := (-1)) hx hb d_RC_get_10 (by decide) ?_
  exact my_iret (v := (-1)) hx hb hr (rfl) hlocks hQ hK hS (Nat.le_refl _) (Nat.le_refl _) () (trivial) (hP.sub [1, 2, 0] rfl) (hD.sub [1, 2, 0] (by decide +kernel) rfl) d_RC_get_11
set_option maxHeartbeats 2000000 in
set_option maxRecDepth 100000 in
theorem c_RC_getB_Stack (l : Launch) (dC : Nat → ClassId) (dI : Nat → Nat → Nat) (cI cM cO : ClassId) (sz : Nat) (rc : Nat) (ma : Nat) (k : Nat) (fit : Int32) (fen : Int32) (frd : Int32) (fbd : Int32) (fir : Int32) (mf : Nat → Option Nat) (co : Nat) (xx : Int64) (xreadX : Int64) (soa : Nat) (sna : Nat) (swa : Nat) (xkept : Int32) (ri : Nat) (ro : Nat) (rw : Nat) (xasked : Int32) (rin : Int32) (ria : Nat) (rik : Nat) (rif : Nat → Int32) (j : Nat) (mo : Nat) (o2 : Nat) (oo : Nat) (osg : Int32) (osm : Int32) (ofc : Int32) (oca : Nat) (opa : Nat) (ol : Nat) (ocf : Nat → Int32) (opl : Nat) (opf : Nat → Int32) (ka : Nat) (kl : Nat) (kf : Nat → Int32) (hk8 : k ≤ 8) (hri : rOk rin rik) (hj : j < k) (hmf : mf j = some mo) (hol : ol ≤ 64) (hopl : opl ≤ 512) (hol0 : 1 ≤ ol) (hkl : kl ≤ 64) : MetI l y_RC_get (Cond.code y_RC_get prog_1_method_13_code 3 (some .int) :: gw) ({ frames := 5, cells := 0, slots := 0, locals := 109 } : Room) (dC, dI) vwCl (kT cI cM cO) [Value.ref rc, Value.int (nI j)] [(rc, Sum.inr (6, [Value.ref co, Value.ref ma, Value.int (nI k), Value.int fit, Value.int fen, Value.int frd, Value.int fbd, Value.int fir])), (ma, Sum.inl (cM, 8, Sum.inr (Sum.inr (Sum.inr (Sum.inr mf))))), (co, Sum.inr (4, [Value.long xx, Value.long xreadX, Value.ref soa, Value.ref sna, Value.ref swa, Value.int xkept, Value.ref ri, Value.ref ro, Value.ref rw, Value.int xasked])), (ri, Sum.inr (0, [Value.int rin, Value.ref ria])), (ria, Sum.inl (cI, rik, Sum.inl rif)), (mo, Sum.inr (8, [Value.ref ka, Value.ref o2, Value.ref oo])), (ka, Sum.inl (cI, kl, Sum.inl kf)), (oo, Sum.inr (7, [Value.int osg, Value.int osm, Value.int ofc, Value.ref oca, Value.ref opa])), (oca, Sum.inl (cI, ol, Sum.inl ocf)), (opa, Sum.inl (cI, opl, Sum.inl opf))] sz (fun (r : Int32) (u : Int32 × Int32 × Int64 × Int32) => True) (fun (u : Int32 × Int32 × Int64 × Int32) => [(rc, Sum.inr (6, [Value.ref co, Value.ref ma, Value.int (nI k), Value.int fit, Value.int fen, Value.int frd, Value.int u.1, Value.int u.2.1])), (ma, Sum.inl (cM, 8, Sum.inr (Sum.inr (Sum.inr (Sum.inr mf))))), (co, Sum.inr (4, [Value.long xx, Value.long u.2.2.1, Value.ref soa, Value.ref sna, Value.ref swa, Value.int xkept, Value.ref ri, Value.ref ro, Value.ref rw, Value.int u.2.2.2])), (ri, Sum.inr (0, [Value.int rin, Value.ref ria])), (ria, Sum.inl (cI, rik, Sum.inl rif)), (mo, Sum.inr (8, [Value.ref ka, Value.ref o2, Value.ref oo])), (ka, Sum.inl (cI, kl, Sum.inl kf)), (oo, Sum.inr (7, [Value.int osg, Value.int osm, Value.int ofc, Value.ref oca, Value.ref opa])), (oca, Sum.inl (cI, ol, Sum.inl ocf)), (opa, Sum.inl (cI, opl, Sum.inl opf))]) 0 0 := by
  refine my_ofI (cc := prog_1_method_13_code) (n := 3) (ret := (some .int)) (by decide) rfl (Nat.le_of_ble_eq_true rfl) ?_
  intro p e s m args below meth c R Q A ls H locs hx hb hr hts hown hlocks hml hnm hR hQ hA hl hP hK hN hD hS
  have hg : ∀ w ∈ gw, w.before args s = true := fun w h => hts w (List.mem_cons_of_mem _ h)
  have hown : s.vm.findClass "RangeCoders" = some m.cls := hown
  have hl : lv_has ls 3 [(0, Value.ref rc), (1, Value.int (nI j))] := hl
  have hlt_hri := rOk_lt hri
  refine lv_aload_n hx hb d_RC_get_0 rfl (lv_at hl 0 rfl) ?_
  refine lv_iload_n hx hb d_RC_get_1 rfl (lv_at hl 1 rfl) ?_
  refine my_cq (wr := [(co, Sum.inr (4, [Value.long xx, Value.long xreadX, Value.ref soa, Value.ref sna, Value.ref swa, Value.int xkept, Value.ref ri, Value.ref ro, Value.ref rw, Value.int xasked])), (ri, Sum.inr (0, [Value.int rin, Value.ref ria])), (ria, Sum.inl (cI, rik, Sum.inl rif)), (mo, Sum.inr (8, [Value.ref ka, Value.ref o2, Value.ref oo])), (ka, Sum.inl (cI, kl, Sum.inl kf)), (oo, Sum.inr (7, [Value.int osg, Value.int osm, Value.int ofc, Value.ref oca, Value.ref opa])), (oca, Sum.inl (cI, ol, Sum.inl ocf)), (opa, Sum.inl (cI, opl, Sum.inl opf))]) (va_runV (As := [Value.int (nI j)]) (rest := []) ⟨hx, hb, hml, hown, hts⟩ (c_RC_modelAtB l dC dI cI cM cO H.size rc ma k fit fen frd fbd fir mf co j mo (by first | assumption | omega) (by first | assumption | omega) (by first | assumption | omega)) (cwV 1 hts (my_gV k412 k414 ks3 k1 k415) rfl rfl rfl (by decide +kernel) ⟨by rw [hR]; exact Nat.le_of_ble_eq_true rfl, by rw [hR]; exact Nat.le_of_ble_eq_true rfl⟩) (my_preV hK hN (hP.sub [0, 1] rfl) (hD.sub [0, 1] (by decide +kernel) rfl) 0 rfl rfl) rfl rfl hl.1 rfl (lv_room (Nat.le_of_ble_eq_true rfl)) d_RC_get_2 ⟨by rw [hR]; exact Nat.le_of_ble_eq_true rfl, by rw [hR]; exact Nat.le_of_ble_eq_true rfl⟩) hP hD hS hA [0, 1] [2, 3, 4, 5, 6, 7, 8, 9] rfl rfl (by decide +kernel) (by decide +kernel) (fun r_2 u9 H locs hw_2 hP hD hS => ?_)
  have hr_2 : r_2 = some mo := hw_2
  have hPD : my_PD (dC, dI) vwCl A [(co, Sum.inr (4, [Value.long xx, Value.long xreadX, Value.ref soa, Value.ref sna, Value.ref swa, Value.int xkept, Value.ref ri, Value.ref ro, Value.ref rw, Value.int xasked])), (ri, Sum.inr (0, [Value.int rin, Value.ref ria])), (ria, Sum.inl (cI, rik, Sum.inl rif)), (mo, Sum.inr (8, [Value.ref ka, Value.ref o2, Value.ref oo])), (ka, Sum.inl (cI, kl, Sum.inl kf)), (oo, Sum.inr (7, [Value.int osg, Value.int osm, Value.int ofc, Value.ref oca, Value.ref opa])), (oca, Sum.inl (cI, ol, Sum.inl ocf)), (opa, Sum.inl (cI, opl, Sum.inl opf)), (rc, Sum.inr (6, [Value.ref co, Value.ref ma, Value.int (nI k), Value.int fit, Value.int fen, Value.int frd, Value.int fbd, Value.int fir])), (ma, Sum.inl (cM, 8, Sum.inr (Sum.inr (Sum.inr (Sum.inr mf)))))] H := ⟨hP, hD⟩
  have hP := hPD.1
  have hD := hPD.2
  subst hr_2
  refine W.eq (g2 := F0 m 5 ls [Value.ref mo]) rfl ?_
  refine lv_astore_n (lv' := [(2, Value.ref mo), (0, Value.ref rc), (1, Value.int (nI j))]) hx hb d_RC_get_5 rfl hl (by decide) rfl (fun ls hl => ?_)
  refine lv_aload_n hx hb d_RC_get_6 rfl (lv_at hl 0 rfl) ?_
  refine lv_ifnonnull (tgt := 12) hx hb d_RC_get_7 (by decide) ?_
  refine lv_aload_n hx hb d_RC_get_12 rfl (lv_at hl 1 rfl) ?_
  refine va_get (D := (dC, dI)) (ci := 6) (v := .int frd) (C := "RangeCoders") (T := T_RC) (N := 8) hx hb hg in_RC hown hK hP 8 rfl rfl 5 (by decide) (hg _ k263) (fun _ h9 => h9) rfl d_RC_get_13 ?_
  refine lv_if_ne (tgt := 22) hx hb d_RC_get_16 (by decide) (fun c_1 => ?_) (fun c_1 => ?_)
  · refine lv_aload_n hx hb d_RC_get_22 rfl (lv_at hl 1 rfl) ?_
    refine va_get (D := (dC, dI)) (ci := 6) (v := .int fbd) (C := "RangeCoders") (T := T_RC) (N := 8) hx hb hg in_RC hown hK hP 8 rfl rfl 6 (by decide) (hg _ k264) (fun _ h9 => h9) rfl d_RC_get_23 ?_
    refine lv_if_eq (tgt := 34) hx hb d_RC_get_26 (by decide) (fun c_2 => ?_) (fun c_2 => ?_)
    · refine lv_aload_n hx hb d_RC_get_34 rfl (lv_at hl 1 rfl) ?_
      refine lv_aload_n hx hb d_RC_get_35 rfl (lv_at hl 1 rfl) ?_
      refine va_get (D := (dC, dI)) (ci := 6) (v := .ref co) (C := "RangeCoders") (T := T_RC) (N := 8) hx hb hg in_RC hown hK hP 8 rfl rfl 0 (by decide) (hg _ k258) (fun _ h9 => h9) rfl d_RC_get_36 ?_
      refine lv_aload_n hx hb d_RC_get_39 rfl (lv_at hl 0 rfl) ?_
      refine va_get (D := (dC, dI)) (ci := 8) (v := .ref oo) (C := "RangeCoders$Model") (T := T_Model) (N := 3) hx hb hg in_Model hown hK hP 3 rfl rfl 2 (by decide) (hg _ k345) (fun _ h9 => h9) rfl d_RC_get_40 ?_
      refine my_ci (wr := [(mo, Sum.inr (8, [Value.ref ka, Value.ref o2, Value.ref oo])), (ka, Sum.inl (cI, kl, Sum.inl kf)), (rc, Sum.inr (6, [Value.ref co, Value.ref ma, Value.int (nI k), Value.int fit, Value.int fen, Value.int frd, Value.int fbd, Value.int fir])), (ma, Sum.inl (cM, 8, Sum.inr (Sum.inr (Sum.inr (Sum.inr mf)))))]) (va_runU (As := [Value.ref oo]) (rest := [Value.ref rc]) ⟨hx, hb, hml, hown, hts⟩ (c_Stack_Stack_nextSign l dC dI cI cM cO H.size co xx xreadX soa sna swa xkept ri ro rw xasked rin ria rik rif oo osg osm ofc oca opa ol ocf opl opf (by first | assumption | omega) (by first | assumption | omega) (by first | assumption | omega)) (va_cwA 1 hts (my_gU k775 k777 k830 k831 k10 k832) rfl rfl rfl (hN.1 _ j776 rfl) (by decide +kernel) ⟨by rw [hR]; exact Nat.le_of_ble_eq_true rfl, by rw [hR]; exact Nat.le_of_ble_eq_true rfl⟩) (my_preV hK hN (hP.sub [0, 1, 2, 5, 6, 7] rfl) (hD.sub [0, 1, 2, 5, 6, 7] (by decide +kernel) rfl) 0 rfl rfl) rfl rfl hl.1 rfl (lv_room (Nat.le_of_ble_eq_true rfl)) d_RC_get_43 ⟨by rw [hR]; exact Nat.le_of_ble_eq_true rfl, by rw [hR]; exact Nat.le_of_ble_eq_true rfl⟩) hP hD hS hA [0, 1, 2, 5, 6, 7] [3, 4, 8, 9] rfl rfl (by decide +kernel) (by decide +kernel) (fun r_43 u9 H locs hw_43 hP hD hS => ?_)
      obtain ⟨xreadXq_43, xaskedq_43⟩ := u9
      have hPD : my_PD (dC, dI) vwCl A [(mo, Sum.inr (8, [Value.ref ka, Value.ref o2, Value.ref oo])), (ka, Sum.inl (cI, kl, Sum.inl kf)), (rc, Sum.inr (6, [Value.ref co, Value.ref ma, Value.int (nI k), Value.int fit, Value.int fen, Value.int frd, Value.int fbd, Value.int fir])), (ma, Sum.inl (cM, 8, Sum.inr (Sum.inr (Sum.inr (Sum.inr mf))))), (co, Sum.inr (4, [Value.long xx, Value.long xreadXq_43, Value.ref soa, Value.ref sna, Value.ref swa, Value.int xkept, Value.ref ri, Value.ref ro, Value.ref rw, Value.int xaskedq_43])), (ri, Sum.inr (0, [Value.int rin, Value.ref ria])), (ria, Sum.inl (cI, rik, Sum.inl rif)), (oo, Sum.inr (7, [Value.int osg, Value.int osm, Value.int ofc, Value.ref oca, Value.ref opa])), (oca, Sum.inl (cI, ol, Sum.inl ocf)), (opa, Sum.inl (cI, opl, Sum.inl opf))] H := ⟨hP, hD⟩
      have hP := hPD.1
      have hD := hPD.2
      refine my_ci (wr := [(mo, Sum.inr (8, [Value.ref ka, Value.ref o2, Value.ref oo])), (ka, Sum.inl (cI, kl, Sum.inl kf)), (ma, Sum.inl (cM, 8, Sum.inr (Sum.inr (Sum.inr (Sum.inr mf))))), (co, Sum.inr (4, [Value.long xx, Value.long xreadXq_43, Value.ref soa, Value.ref sna, Value.ref swa, Value.int xkept, Value.ref ri, Value.ref ro, Value.ref rw, Value.int xaskedq_43])), (ri, Sum.inr (0, [Value.int rin, Value.ref ria])), (ria, Sum.inl (cI, rik, Sum.inl rif)), (oo, Sum.inr (7, [Value.int osg, Value.int osm, Value.int ofc, Value.ref oca, Value.ref opa])), (oca, Sum.inl (cI, ol, Sum.inl ocf)), (opa, Sum.inl (cI, opl, Sum.inl opf))]) (va_runV (As := [Value.int r_43]) (rest := []) ⟨hx, hb, hml, hown, hts⟩ (c_RC_itemOrBad l dC dI cI cM cO H.size rc ma k fit fen frd fbd fir mf co r_43) (cwV 1 hts (my_gV k854 k856 ks17 k1 k857) rfl rfl rfl (by decide +kernel) ⟨by rw [hR]; exact Nat.le_of_ble_eq_true rfl, by rw [hR]; exact Nat.le_of_ble_eq_true rfl⟩) (my_preV hK hN (hP.sub [2] rfl) (hD.sub [2] (by decide +kernel) rfl) 0 rfl rfl) rfl rfl hl.1 rfl (lv_room (Nat.le_of_ble_eq_true rfl)) d_RC_get_46 ⟨by rw [hR]; exact Nat.le_of_ble_eq_true rfl, by rw [hR]; exact Nat.le_of_ble_eq_true rfl⟩) hP hD hS hA [2] [0, 1, 3, 4, 5, 6, 7, 8, 9] rfl rfl (by decide +kernel) (by decide +kernel) (fun r_46 u9 H locs hw_46 hP hD hS => ?_)
      obtain ⟨fbdq_46, firq_46⟩ := u9
      have hPD : my_PD (dC, dI) vwCl A [(mo, Sum.inr (8, [Value.ref ka, Value.ref o2, Value.ref oo])), (ka, Sum.inl (cI, kl, Sum.inl kf)), (ma, Sum.inl (cM, 8, Sum.inr (Sum.inr (Sum.inr (Sum.inr mf))))), (co, Sum.inr (4, [Value.long xx, Value.long xreadXq_43, Value.ref soa, Value.ref sna, Value.ref swa, Value.int xkept, Value.ref ri, Value.ref ro, Value.ref rw, Value.int xaskedq_43])), (ri, Sum.inr (0, [Value.int rin, Value.ref ria])), (ria, Sum.inl (cI, rik, Sum.inl rif)), (oo, Sum.inr (7, [Value.int osg, Value.int osm, Value.int ofc, Value.ref oca, Value.ref opa])), (oca, Sum.inl (cI, ol, Sum.inl ocf)), (opa, Sum.inl (cI, opl, Sum.inl opf)), (rc, Sum.inr (6, [Value.ref co, Value.ref ma, Value.int (nI k), Value.int fit, Value.int fen, Value.int frd, Value.int fbdq_46, Value.int firq_46]))] H := ⟨hP, hD⟩
      have hP := hPD.1
      have hD := hPD.2
      exact my_iret (v := r_46) hx hb hr (rfl) hlocks hQ hK hS (Nat.le_refl _) (Nat.le_refl _) (fbdq_46, firq_46, xreadXq_43, xaskedq_43) (trivial) (hP.sub [9, 2, 3, 4, 5, 0, 1, 6, 7, 8] rfl) (hD.sub [9, 2, 3, 4, 5, 0, 1, 6, 7, 8] (by decide +kernel) rfl) d_RC_get_49
    · refine lv_bipush (v := (-5)) hx hb d_RC_get_29 (by decide) ?_
      refine lv_goto (tgt := 49) hx hb d_RC_get_31 (by decide) ?_
      exact my_iret (v := (-5)) hx hb hr (rfl) hlocks hQ hK hS (Nat.le_refl _) (Nat.le_refl _) (fbd, fir, xreadX, xasked) (trivial) (hP.sub [8, 9, 0, 1, 2, 3, 4, 5, 6, 7] rfl) (hD.sub [8, 9, 0, 1, 2, 3, 4, 5, 6, 7] (by decide +kernel) rfl) d_RC_get_49
  · refine lv_bipush (v := (-3)) hx hb d_RC_get_19 (by decide) ?_
    exact my_iret (v := (-3)) hx hb hr (rfl) hlocks hQ hK hS (Nat.le_refl _) (Nat.le_refl _) (fbd, fir, xreadX, xasked) (trivial) (hP.sub [8, 9, 0, 1, 2, 3, 4, 5, 6, 7] rfl) (hD.sub [8, 9, 0, 1, 2, 3, 4, 5, 6, 7] (by decide +kernel) rfl) d_RC_get_21
set_option maxHeartbeats 2000000 in
set_option maxRecDepth 100000 in
theorem c_RC_getBits_Stack (l : Launch) (dC : Nat → ClassId) (dI : Nat → Nat → Nat) (cI cM cO : ClassId) (sz : Nat) (rc : Nat) (ma : Nat) (k : Nat) (fit : Int32) (fen : Int32) (frd : Int32) (fbd : Int32) (fir : Int32) (mf : Nat → Option Nat) (co : Nat) (xx : Int64) (xreadX : Int64) (soa : Nat) (sna : Nat) (swa : Nat) (xkept : Int32) (ri : Nat) (ro : Nat) (rw : Nat) (xasked : Int32) (rin : Int32) (ria : Nat) (rik : Nat) (rif : Nat → Int32) (wd : Int32) (hk8 : k ≤ 8) (hri : rOk rin rik) : MetI l y_RC_getBits (Cond.code y_RC_getBits prog_1_method_14_code 2 (some .int) :: gw) ({ frames := 5, cells := 0, slots := 0, locals := 109 } : Room) (dC, dI) vwCl (kT cI cM cO) [Value.ref rc, Value.int wd] [(rc, Sum.inr (6, [Value.ref co, Value.ref ma, Value.int (nI k), Value.int fit, Value.int fen, Value.int frd, Value.int fbd, Value.int fir])), (ma, Sum.inl (cM, 8, Sum.inr (Sum.inr (Sum.inr (Sum.inr mf))))), (co, Sum.inr (4, [Value.long xx, Value.long xreadX, Value.ref soa, Value.ref sna, Value.ref swa, Value.int xkept, Value.ref ri, Value.ref ro, Value.ref rw, Value.int xasked])), (ri, Sum.inr (0, [Value.int rin, Value.ref ria])), (ria, Sum.inl (cI, rik, Sum.inl rif))] sz (fun (r : Int32) (u : Int32 × Int32 × Int64 × Int32) => True) (fun (u : Int32 × Int32 × Int64 × Int32) => [(rc, Sum.inr (6, [Value.ref co, Value.ref ma, Value.int (nI k), Value.int fit, Value.int fen, Value.int frd, Value.int u.1, Value.int u.2.1])), (ma, Sum.inl (cM, 8, Sum.inr (Sum.inr (Sum.inr (Sum.inr mf))))), (co, Sum.inr (4, [Value.long xx, Value.long u.2.2.1, Value.ref soa, Value.ref sna, Value.ref swa, Value.int xkept, Value.ref ri, Value.ref ro, Value.ref rw, Value.int u.2.2.2])), (ri, Sum.inr (0, [Value.int rin, Value.ref ria])), (ria, Sum.inl (cI, rik, Sum.inl rif))]) 0 0 := by
  refine my_ofI (cc := prog_1_method_14_code) (n := 2) (ret := (some .int)) (by decide) rfl (Nat.le_of_ble_eq_true rfl) ?_
  intro p e s m args below meth c R Q A ls H locs hx hb hr hts hown hlocks hml hnm hR hQ hA hl hP hK hN hD hS
  have hg : ∀ w ∈ gw, w.before args s = true := fun w h => hts w (List.mem_cons_of_mem _ h)
  have hown : s.vm.findClass "RangeCoders" = some m.cls := hown
  have hl : lv_has ls 2 [(0, Value.ref rc), (1, Value.int wd)] := hl
  have hlt_hri := rOk_lt hri
  refine lv_aload_n hx hb d_RC_getBits_0 rfl (lv_at hl 0 rfl) ?_
  refine va_get (D := (dC, dI)) (ci := 6) (v := .ref co) (C := "RangeCoders") (T := T_RC) (N := 8) hx hb hg in_RC hown hK hP 0 rfl rfl 0 (by decide) (hg _ k258) (fun _ h9 => h9) rfl d_RC_getBits_1 ?_
  refine lv_iload_n hx hb d_RC_getBits_4 rfl (lv_at hl 1 rfl) ?_
  refine my_ci (wr := [(rc, Sum.inr (6, [Value.ref co, Value.ref ma, Value.int (nI k), Value.int fit, Value.int fen, Value.int frd, Value.int fbd, Value.int fir])), (ma, Sum.inl (cM, 8, Sum.inr (Sum.inr (Sum.inr (Sum.inr mf))))), (ri, Sum.inr (0, [Value.int rin, Value.ref ria])), (ria, Sum.inl (cI, rik, Sum.inl rif))]) (va_runU (As := [Value.int wd]) (rest := []) ⟨hx, hb, hml, hown, hts⟩ (c_Stack_Coder_hasWidth l dC dI cI cM cO H.size co xx xreadX soa sna swa xkept ri ro rw xasked wd) (va_cwU 1 hts (my_gU k543 k545 k549 k544 k3 k553) rfl rfl rfl rfl (by decide +kernel) ⟨by rw [hR]; exact Nat.le_of_ble_eq_true rfl, by rw [hR]; exact Nat.le_of_ble_eq_true rfl⟩) (my_preV hK hN (hP.sub [2] rfl) (hD.sub [2] (by decide +kernel) rfl) 0 rfl rfl) rfl rfl hl.1 rfl (lv_room (Nat.le_of_ble_eq_true rfl)) d_RC_getBits_5 ⟨by rw [hR]; exact Nat.le_of_ble_eq_true rfl, by rw [hR]; exact Nat.le_of_ble_eq_true rfl⟩) hP hD hS hA [2] [0, 1, 3, 4] rfl rfl (by decide +kernel) (by decide +kernel) (fun r_5 u9 H locs hw_5 hP hD hS => ?_)
  have hPD : my_PD (dC, dI) vwCl A [(rc, Sum.inr (6, [Value.ref co, Value.ref ma, Value.int (nI k), Value.int fit, Value.int fen, Value.int frd, Value.int fbd, Value.int fir])), (ma, Sum.inl (cM, 8, Sum.inr (Sum.inr (Sum.inr (Sum.inr mf))))), (ri, Sum.inr (0, [Value.int rin, Value.ref ria])), (ria, Sum.inl (cI, rik, Sum.inl rif)), (co, Sum.inr (4, [Value.long xx, Value.long xreadX, Value.ref soa, Value.ref sna, Value.ref swa, Value.int xkept, Value.ref ri, Value.ref ro, Value.ref rw, Value.int xasked]))] H := ⟨hP, hD⟩
  have hP := hPD.1
  have hD := hPD.2
  refine lv_if_ne (tgt := 14) hx hb d_RC_getBits_8 (by decide) (fun c_1 => ?_) (fun c_1 => ?_)
  · refine lv_aload_n hx hb d_RC_getBits_14 rfl (lv_at hl 0 rfl) ?_
    refine va_get (D := (dC, dI)) (ci := 6) (v := .int frd) (C := "RangeCoders") (T := T_RC) (N := 8) hx hb hg in_RC hown hK hP 0 rfl rfl 5 (by decide) (hg _ k263) (fun _ h9 => h9) rfl d_RC_getBits_15 ?_
    refine lv_if_ne (tgt := 24) hx hb d_RC_getBits_18 (by decide) (fun c_2 => ?_) (fun c_2 => ?_)
    · refine lv_aload_n hx hb d_RC_getBits_24 rfl (lv_at hl 0 rfl) ?_
      refine va_get (D := (dC, dI)) (ci := 6) (v := .int fbd) (C := "RangeCoders") (T := T_RC) (N := 8) hx hb hg in_RC hown hK hP 0 rfl rfl 6 (by decide) (hg _ k264) (fun _ h9 => h9) rfl d_RC_getBits_25 ?_
      refine lv_if_eq (tgt := 36) hx hb d_RC_getBits_28 (by decide) (fun c_3 => ?_) (fun c_3 => ?_)
      · refine lv_aload_n hx hb d_RC_getBits_36 rfl (lv_at hl 0 rfl) ?_
        refine lv_aload_n hx hb d_RC_getBits_37 rfl (lv_at hl 0 rfl) ?_
        refine va_get (D := (dC, dI)) (ci := 6) (v := .ref co) (C := "RangeCoders") (T := T_RC) (N := 8) hx hb hg in_RC hown hK hP 0 rfl rfl 0 (by decide) (hg _ k258) (fun _ h9 => h9) rfl d_RC_getBits_38 ?_
        refine lv_iload_n hx hb d_RC_getBits_41 rfl (lv_at hl 1 rfl) ?_
        refine my_ci (wr := [(rc, Sum.inr (6, [Value.ref co, Value.ref ma, Value.int (nI k), Value.int fit, Value.int fen, Value.int frd, Value.int fbd, Value.int fir])), (ma, Sum.inl (cM, 8, Sum.inr (Sum.inr (Sum.inr (Sum.inr mf)))))]) (va_runU (As := [Value.int wd]) (rest := [Value.ref rc]) ⟨hx, hb, hml, hown, hts⟩ (c_Stack_Stack_nextValue l dC dI cI cM cO H.size co xx xreadX soa sna swa xkept ri ro rw xasked rin ria rik rif wd (by first | assumption | omega)) (va_cwA 1 hts (my_gU k862 k864 k872 k873 k10 k874) rfl rfl rfl (hN.1 _ j863 rfl) (by decide +kernel) ⟨by rw [hR]; exact Nat.le_of_ble_eq_true rfl, by rw [hR]; exact Nat.le_of_ble_eq_true rfl⟩) (my_preV hK hN (hP.sub [4, 2, 3] rfl) (hD.sub [4, 2, 3] (by decide +kernel) rfl) 0 rfl rfl) rfl rfl hl.1 rfl (lv_room (Nat.le_of_ble_eq_true rfl)) d_RC_getBits_42 ⟨by rw [hR]; exact Nat.le_of_ble_eq_true rfl, by rw [hR]; exact Nat.le_of_ble_eq_true rfl⟩) hP hD hS hA [4, 2, 3] [0, 1] rfl rfl (by decide +kernel) (by decide +kernel) (fun r_42 u9 H locs hw_42 hP hD hS => ?_)
        obtain ⟨xreadXq_42, xaskedq_42⟩ := u9
        have hPD : my_PD (dC, dI) vwCl A [(rc, Sum.inr (6, [Value.ref co, Value.ref ma, Value.int (nI k), Value.int fit, Value.int fen, Value.int frd, Value.int fbd, Value.int fir])), (ma, Sum.inl (cM, 8, Sum.inr (Sum.inr (Sum.inr (Sum.inr mf))))), (co, Sum.inr (4, [Value.long xx, Value.long xreadXq_42, Value.ref soa, Value.ref sna, Value.ref swa, Value.int xkept, Value.ref ri, Value.ref ro, Value.ref rw, Value.int xaskedq_42])), (ri, Sum.inr (0, [Value.int rin, Value.ref ria])), (ria, Sum.inl (cI, rik, Sum.inl rif))] H := ⟨hP, hD⟩
        have hP := hPD.1
        have hD := hPD.2
        refine my_ci (wr := [(ma, Sum.inl (cM, 8, Sum.inr (Sum.inr (Sum.inr (Sum.inr mf))))), (co, Sum.inr (4, [Value.long xx, Value.long xreadXq_42, Value.ref soa, Value.ref sna, Value.ref swa, Value.int xkept, Value.ref ri, Value.ref ro, Value.ref rw, Value.int xaskedq_42])), (ri, Sum.inr (0, [Value.int rin, Value.ref ria])), (ria, Sum.inl (cI, rik, Sum.inl rif))]) (va_runV (As := [Value.int r_42]) (rest := []) ⟨hx, hb, hml, hown, hts⟩ (c_RC_itemOrBad l dC dI cI cM cO H.size rc ma k fit fen frd fbd fir mf co r_42) (cwV 1 hts (my_gV k854 k856 ks17 k1 k857) rfl rfl rfl (by decide +kernel) ⟨by rw [hR]; exact Nat.le_of_ble_eq_true rfl, by rw [hR]; exact Nat.le_of_ble_eq_true rfl⟩) (my_preV hK hN (hP.sub [0] rfl) (hD.sub [0] (by decide +kernel) rfl) 0 rfl rfl) rfl rfl hl.1 rfl (lv_room (Nat.le_of_ble_eq_true rfl)) d_RC_getBits_45 ⟨by rw [hR]; exact Nat.le_of_ble_eq_true rfl, by rw [hR]; exact Nat.le_of_ble_eq_true rfl⟩) hP hD hS hA [0] [1, 2, 3, 4] rfl rfl (by decide +kernel) (by decide +kernel) (fun r_45 u9 H locs hw_45 hP hD hS => ?_)
        obtain ⟨fbdq_45, firq_45⟩ := u9
        have hPD : my_PD (dC, dI) vwCl A [(ma, Sum.inl (cM, 8, Sum.inr (Sum.inr (Sum.inr (Sum.inr mf))))), (co, Sum.inr (4, [Value.long xx, Value.long xreadXq_42, Value.ref soa, Value.ref sna, Value.ref swa, Value.int xkept, Value.ref ri, Value.ref ro, Value.ref rw, Value.int xaskedq_42])), (ri, Sum.inr (0, [Value.int rin, Value.ref ria])), (ria, Sum.inl (cI, rik, Sum.inl rif)), (rc, Sum.inr (6, [Value.ref co, Value.ref ma, Value.int (nI k), Value.int fit, Value.int fen, Value.int frd, Value.int fbdq_45, Value.int firq_45]))] H := ⟨hP, hD⟩
        have hP := hPD.1
        have hD := hPD.2
        exact my_iret (v := r_45) hx hb hr (rfl) hlocks hQ hK hS (Nat.le_refl _) (Nat.le_refl _) (fbdq_45, firq_45, xreadXq_42, xaskedq_42) (trivial) (hP.sub [4, 0, 1, 2, 3] rfl) (hD.sub [4, 0, 1, 2, 3] (by decide +kernel) rfl) d_RC_getBits_48
      · refine lv_bipush (v := (-5)) hx hb d_RC_getBits_31 (by decide) ?_
        refine lv_goto (tgt := 48) hx hb d_RC_getBits_33 (by decide) ?_
        exact my_iret (v := (-5)) hx hb hr (rfl) hlocks hQ hK hS (Nat.le_refl _) (Nat.le_refl _) (fbd, fir, xreadX, xasked) (trivial) (hP.sub [0, 1, 4, 2, 3] rfl) (hD.sub [0, 1, 4, 2, 3] (by decide +kernel) rfl) d_RC_getBits_48
    · refine lv_bipush (v := (-3)) hx hb d_RC_getBits_21 (by decide) ?_
      exact my_iret (v := (-3)) hx hb hr (rfl) hlocks hQ hK hS (Nat.le_refl _) (Nat.le_refl _) (fbd, fir, xreadX, xasked) (trivial) (hP.sub [0, 1, 4, 2, 3] rfl) (hD.sub [0, 1, 4, 2, 3] (by decide +kernel) rfl) d_RC_getBits_23
  · refine lv_bipush (v := (-2)) hx hb d_RC_getBits_11 (by decide) ?_
    exact my_iret (v := (-2)) hx hb hr (rfl) hlocks hQ hK hS (Nat.le_refl _) (Nat.le_refl _) (fbd, fir, xreadX, xasked) (trivial) (hP.sub [0, 1, 4, 2, 3] rfl) (hD.sub [0, 1, 4, 2, 3] (by decide +kernel) rfl) d_RC_getBits_13
set_option maxHeartbeats 2000000 in
set_option maxRecDepth 100000 in
theorem c_RC_told_Stack (l : Launch) (dC : Nat → ClassId) (dI : Nat → Nat → Nat) (cI cM cO : ClassId) (sz : Nat) (rc : Nat) (ma : Nat) (k : Nat) (fit : Int32) (fen : Int32) (frd : Int32) (fbd : Int32) (fir : Int32) (mf : Nat → Option Nat) (co : Nat) (xx : Int64) (xreadX : Int64) (soa : Nat) (sna : Nat) (swa : Nat) (xkept : Int32) (ri : Nat) (ro : Nat) (rw : Nat) (xasked : Int32) (rin : Int32) (ria : Nat) (rik : Nat) (rif : Nat → Int32) (ron : Int32) (roa : Nat) (rok : Nat) (rof : Nat → Int32) (wh : Int32) (hk8 : k ≤ 8) (hri : rOk rin rik) (hro : rOk ron rok) : MetI l y_RC_told (Cond.code y_RC_told prog_1_method_15_code 2 (some .int) :: gw) ({ frames := 1, cells := 0, slots := 0, locals := 20 } : Room) (dC, dI) vwCl (kT cI cM cO) [Value.ref rc, Value.int wh] [(rc, Sum.inr (6, [Value.ref co, Value.ref ma, Value.int (nI k), Value.int fit, Value.int fen, Value.int frd, Value.int fbd, Value.int fir])), (ma, Sum.inl (cM, 8, Sum.inr (Sum.inr (Sum.inr (Sum.inr mf))))), (co, Sum.inr (4, [Value.long xx, Value.long xreadX, Value.ref soa, Value.ref sna, Value.ref swa, Value.int xkept, Value.ref ri, Value.ref ro, Value.ref rw, Value.int xasked])), (ri, Sum.inr (0, [Value.int rin, Value.ref ria])), (ria, Sum.inl (cI, rik, Sum.inl rif)), (ro, Sum.inr (0, [Value.int ron, Value.ref roa])), (roa, Sum.inl (cI, rok, Sum.inl rof))] sz (fun (r : Int32) (u : Unit) => True) (fun (u : Unit) => [(rc, Sum.inr (6, [Value.ref co, Value.ref ma, Value.int (nI k), Value.int fit, Value.int fen, Value.int frd, Value.int fbd, Value.int fir])), (ma, Sum.inl (cM, 8, Sum.inr (Sum.inr (Sum.inr (Sum.inr mf))))), (co, Sum.inr (4, [Value.long xx, Value.long xreadX, Value.ref soa, Value.ref sna, Value.ref swa, Value.int xkept, Value.ref ri, Value.ref ro, Value.ref rw, Value.int xasked])), (ri, Sum.inr (0, [Value.int rin, Value.ref ria])), (ria, Sum.inl (cI, rik, Sum.inl rif)), (ro, Sum.inr (0, [Value.int ron, Value.ref roa])), (roa, Sum.inl (cI, rok, Sum.inl rof))]) 0 0 := by
  refine my_ofI (cc := prog_1_method_15_code) (n := 2) (ret := (some .int)) (by decide) rfl (Nat.le_of_ble_eq_true rfl) ?_
  intro p e s m args below meth c R Q A ls H locs hx hb hr hts hown hlocks hml hnm hR hQ hA hl hP hK hN hD hS
  have hg : ∀ w ∈ gw, w.before args s = true := fun w h => hts w (List.mem_cons_of_mem _ h)
  have hown : s.vm.findClass "RangeCoders" = some m.cls := hown
  have hl : lv_has ls 2 [(0, Value.ref rc), (1, Value.int wh)] := hl
  have hlt_hri := rOk_lt hri
  have hlt_hro := rOk_lt hro
  refine lv_iload_n hx hb d_RC_told_0 rfl (lv_at hl 1 rfl) ?_
  refine lv_if_lt (tgt := 10) hx hb d_RC_told_1 (by decide) (fun c_1 => ?_) (fun c_1 => ?_)
  · refine lv_bipush (v := (-2)) hx hb d_RC_told_10 (by decide) ?_
    exact my_iret (v := (-2)) hx hb hr (rfl) hlocks hQ hK hS (Nat.le_refl _) (Nat.le_refl _) () (trivial) (hP.sub [0, 1, 2, 3, 4, 5, 6] rfl) (hD.sub [0, 1, 2, 3, 4, 5, 6] (by decide +kernel) rfl) d_RC_told_12
  · refine lv_iload_n hx hb d_RC_told_4 rfl (lv_at hl 1 rfl) ?_
    refine lv_bipush (v := 7) hx hb d_RC_told_5 (by decide) ?_
    refine lv_icmp_le (tgt := 13) hx hb d_RC_told_7 (by decide) (fun c_2 => ?_) (fun c_2 => ?_)
    · refine lv_iload_n hx hb d_RC_told_13 rfl (lv_at hl 1 rfl) ?_
      by_cases c_3 : wh = 0
      · refine lv_tableIn (tgt := 56) hx hb d_RC_told_14 (by rw [c_3]; decide) (by rw [c_3]; decide) (by rw [c_3]; rfl) (by decide) ?_
        refine lv_aload_n hx hb d_RC_told_56 rfl (lv_at hl 0 rfl) ?_
        refine va_get (D := (dC, dI)) (ci := 6) (v := .int fit) (C := "RangeCoders") (T := T_RC) (N := 8) hx hb hg in_RC hown hK hP 0 rfl rfl 3 (by decide) (hg _ k261) (fun _ h9 => h9) rfl d_RC_told_57 ?_
        exact my_iret (v := fit) hx hb hr (rfl) hlocks hQ hK hS (Nat.le_refl _) (Nat.le_refl _) () (trivial) (hP.sub [0, 1, 2, 3, 4, 5, 6] rfl) (hD.sub [0, 1, 2, 3, 4, 5, 6] (by decide +kernel) rfl) d_RC_told_60
      by_cases c_4 : wh = 1
      · refine lv_tableIn (tgt := 61) hx hb d_RC_told_14 (by rw [c_4]; decide) (by rw [c_4]; decide) (by rw [c_4]; rfl) (by decide) ?_
        refine lv_aload_n hx hb d_RC_told_61 rfl (lv_at hl 0 rfl) ?_
        refine va_get (D := (dC, dI)) (ci := 6) (v := .int fen) (C := "RangeCoders") (T := T_RC) (N := 8) hx hb hg in_RC hown hK hP 0 rfl rfl 4 (by decide) (hg _ k262) (fun _ h9 => h9) rfl d_RC_told_62 ?_
        refine lv_if_eq (tgt := 72) hx hb d_RC_told_65 (by decide) (fun c_5 => ?_) (fun c_5 => ?_)
        · refine lv_iconst (v := 0) hx hb d_RC_told_72 (by decide) ?_
          exact my_iret (v := 0) hx hb hr (rfl) hlocks hQ hK hS (Nat.le_refl _) (Nat.le_refl _) () (trivial) (hP.sub [0, 1, 2, 3, 4, 5, 6] rfl) (hD.sub [0, 1, 2, 3, 4, 5, 6] (by decide +kernel) rfl) d_RC_told_73
        · refine lv_iconst (v := 1) hx hb d_RC_told_68 (by decide) ?_
          refine lv_goto (tgt := 73) hx hb d_RC_told_69 (by decide) ?_
          exact my_iret (v := 1) hx hb hr (rfl) hlocks hQ hK hS (Nat.le_refl _) (Nat.le_refl _) () (trivial) (hP.sub [0, 1, 2, 3, 4, 5, 6] rfl) (hD.sub [0, 1, 2, 3, 4, 5, 6] (by decide +kernel) rfl) d_RC_told_73
      by_cases c_6 : wh = 2
      · refine lv_tableIn (tgt := 74) hx hb d_RC_told_14 (by rw [c_6]; decide) (by rw [c_6]; decide) (by rw [c_6]; rfl) (by decide) ?_
        refine lv_aload_n hx hb d_RC_told_74 rfl (lv_at hl 0 rfl) ?_
        refine va_get (D := (dC, dI)) (ci := 6) (v := .ref co) (C := "RangeCoders") (T := T_RC) (N := 8) hx hb hg in_RC hown hK hP 0 rfl rfl 0 (by decide) (hg _ k258) (fun _ h9 => h9) rfl d_RC_told_75 ?_
        refine va_get (D := (dC, dI)) (ci := 4) (v := .ref ro) (C := "RangeCoders$Stack") (T := T_Stack) (N := 10) hx hb hg in_Stack hown hK hP 2 rfl rfl 7 (by decide) (hg _ k108) (fun _ h9 => h9) rfl d_RC_told_78 ?_
        refine va_get (D := (dC, dI)) (ci := 0) (v := .int ron) (C := "RangeCoders$Row") (T := T_Row) (N := 2) hx hb hg in_Row hown hK hP 5 rfl rfl 0 (by decide) (hg _ k58) (fun _ h9 => h9) rfl d_RC_told_81 ?_
        exact my_iret (v := ron) hx hb hr (rfl) hlocks hQ hK hS (Nat.le_refl _) (Nat.le_refl _) () (trivial) (hP.sub [0, 1, 2, 3, 4, 5, 6] rfl) (hD.sub [0, 1, 2, 3, 4, 5, 6] (by decide +kernel) rfl) d_RC_told_84
      by_cases c_7 : wh = 3
      · refine lv_tableIn (tgt := 85) hx hb d_RC_told_14 (by rw [c_7]; decide) (by rw [c_7]; decide) (by rw [c_7]; rfl) (by decide) ?_
        refine lv_aload_n hx hb d_RC_told_85 rfl (lv_at hl 0 rfl) ?_
        refine va_get (D := (dC, dI)) (ci := 6) (v := .ref co) (C := "RangeCoders") (T := T_RC) (N := 8) hx hb hg in_RC hown hK hP 0 rfl rfl 0 (by decide) (hg _ k258) (fun _ h9 => h9) rfl d_RC_told_86 ?_
        refine va_get (D := (dC, dI)) (ci := 4) (v := .ref ri) (C := "RangeCoders$Stack") (T := T_Stack) (N := 10) hx hb hg in_Stack hown hK hP 2 rfl rfl 6 (by decide) (hg _ k102) (fun _ h9 => h9) rfl d_RC_told_89 ?_
        refine va_get (D := (dC, dI)) (ci := 0) (v := .int rin) (C := "RangeCoders$Row") (T := T_Row) (N := 2) hx hb hg in_Row hown hK hP 3 rfl rfl 0 (by decide) (hg _ k58) (fun _ h9 => h9) rfl d_RC_told_92 ?_
        exact my_iret (v := rin) hx hb hr (rfl) hlocks hQ hK hS (Nat.le_refl _) (Nat.le_refl _) () (trivial) (hP.sub [0, 1, 2, 3, 4, 5, 6] rfl) (hD.sub [0, 1, 2, 3, 4, 5, 6] (by decide +kernel) rfl) d_RC_told_95
      by_cases c_8 : wh = 4
      · refine lv_tableIn (tgt := 96) hx hb d_RC_told_14 (by rw [c_8]; decide) (by rw [c_8]; decide) (by rw [c_8]; rfl) (by decide) ?_
        refine lv_aload_n hx hb d_RC_told_96 rfl (lv_at hl 0 rfl) ?_
        refine va_get (D := (dC, dI)) (ci := 6) (v := .int fir) (C := "RangeCoders") (T := T_RC) (N := 8) hx hb hg in_RC hown hK hP 0 rfl rfl 7 (by decide) (hg _ k265) (fun _ h9 => h9) rfl d_RC_told_97 ?_
        exact my_iret (v := fir) hx hb hr (rfl) hlocks hQ hK hS (Nat.le_refl _) (Nat.le_refl _) () (trivial) (hP.sub [0, 1, 2, 3, 4, 5, 6] rfl) (hD.sub [0, 1, 2, 3, 4, 5, 6] (by decide +kernel) rfl) d_RC_told_100
      by_cases c_9 : wh = 5
      · refine lv_tableIn (tgt := 101) hx hb d_RC_told_14 (by rw [c_9]; decide) (by rw [c_9]; decide) (by rw [c_9]; rfl) (by decide) ?_
        refine lv_aload_n hx hb d_RC_told_101 rfl (lv_at hl 0 rfl) ?_
        refine va_get (D := (dC, dI)) (ci := 6) (v := .int frd) (C := "RangeCoders") (T := T_RC) (N := 8) hx hb hg in_RC hown hK hP 0 rfl rfl 5 (by decide) (hg _ k263) (fun _ h9 => h9) rfl d_RC_told_102 ?_
        refine lv_if_eq (tgt := 118) hx hb d_RC_told_105 (by decide) (fun c_10 => ?_) (fun c_10 => ?_)
        · refine lv_iconst (v := 0) hx hb d_RC_told_118 (by decide) ?_
          exact my_iret (v := 0) hx hb hr (rfl) hlocks hQ hK hS (Nat.le_refl _) (Nat.le_refl _) () (trivial) (hP.sub [0, 1, 2, 3, 4, 5, 6] rfl) (hD.sub [0, 1, 2, 3, 4, 5, 6] (by decide +kernel) rfl) d_RC_told_119
        · refine lv_aload_n hx hb d_RC_told_108 rfl (lv_at hl 0 rfl) ?_
          refine va_get (D := (dC, dI)) (ci := 6) (v := .ref co) (C := "RangeCoders") (T := T_RC) (N := 8) hx hb hg in_RC hown hK hP 0 rfl rfl 0 (by decide) (hg _ k258) (fun _ h9 => h9) rfl d_RC_told_109 ?_
          refine my_ci (wr := [(rc, Sum.inr (6, [Value.ref co, Value.ref ma, Value.int (nI k), Value.int fit, Value.int fen, Value.int frd, Value.int fbd, Value.int fir])), (ma, Sum.inl (cM, 8, Sum.inr (Sum.inr (Sum.inr (Sum.inr mf))))), (ri, Sum.inr (0, [Value.int rin, Value.ref ria])), (ria, Sum.inl (cI, rik, Sum.inl rif)), (ro, Sum.inr (0, [Value.int ron, Value.ref roa])), (roa, Sum.inl (cI, rok, Sum.inl rof))]) (va_runU (As := []) (rest := []) ⟨hx, hb, hml, hown, hts⟩ (c_Stack_Coder_bytesAsked l dC dI cI cM cO H.size co xx xreadX soa sna swa xkept ri ro rw xasked) (va_cwU 0 hts (my_gU k880 k882 k886 k881 k3 k890) rfl rfl rfl rfl (by decide +kernel) ⟨by rw [hR]; exact Nat.le_of_ble_eq_true rfl, by rw [hR]; exact Nat.le_of_ble_eq_true rfl⟩) (my_preV hK hN (hP.sub [2] rfl) (hD.sub [2] (by decide +kernel) rfl) 0 rfl rfl) rfl rfl hl.1 rfl (lv_room (Nat.le_of_ble_eq_true rfl)) d_RC_told_112 ⟨by rw [hR]; exact Nat.le_of_ble_eq_true rfl, by rw [hR]; exact Nat.le_of_ble_eq_true rfl⟩) hP hD hS hA [2] [0, 1, 3, 4, 5, 6] rfl rfl (by decide +kernel) (by decide +kernel) (fun r_112 u9 H locs hw_112 hP hD hS => ?_)
          have hPD : my_PD (dC, dI) vwCl A [(rc, Sum.inr (6, [Value.ref co, Value.ref ma, Value.int (nI k), Value.int fit, Value.int fen, Value.int frd, Value.int fbd, Value.int fir])), (ma, Sum.inl (cM, 8, Sum.inr (Sum.inr (Sum.inr (Sum.inr mf))))), (ri, Sum.inr (0, [Value.int rin, Value.ref ria])), (ria, Sum.inl (cI, rik, Sum.inl rif)), (ro, Sum.inr (0, [Value.int ron, Value.ref roa])), (roa, Sum.inl (cI, rok, Sum.inl rof)), (co, Sum.inr (4, [Value.long xx, Value.long xreadX, Value.ref soa, Value.ref sna, Value.ref swa, Value.int xkept, Value.ref ri, Value.ref ro, Value.ref rw, Value.int xasked]))] H := ⟨hP, hD⟩
          have hP := hPD.1
          have hD := hPD.2
          refine lv_goto (tgt := 119) hx hb d_RC_told_115 (by decide) ?_
          exact my_iret (v := r_112) hx hb hr (rfl) hlocks hQ hK hS (Nat.le_refl _) (Nat.le_refl _) () (trivial) (hP.sub [0, 1, 6, 2, 3, 4, 5] rfl) (hD.sub [0, 1, 6, 2, 3, 4, 5] (by decide +kernel) rfl) d_RC_told_119
      by_cases c_11 : wh = 6
      · refine lv_tableIn (tgt := 120) hx hb d_RC_told_14 (by rw [c_11]; decide) (by rw [c_11]; decide) (by rw [c_11]; rfl) (by decide) ?_
        refine lv_aload_n hx hb d_RC_told_120 rfl (lv_at hl 0 rfl) ?_
        refine va_get (D := (dC, dI)) (ci := 6) (v := .int fbd) (C := "RangeCoders") (T := T_RC) (N := 8) hx hb hg in_RC hown hK hP 0 rfl rfl 6 (by decide) (hg _ k264) (fun _ h9 => h9) rfl d_RC_told_121 ?_
        refine lv_if_eq (tgt := 131) hx hb d_RC_told_124 (by decide) (fun c_12 => ?_) (fun c_12 => ?_)
        · refine lv_iconst (v := 0) hx hb d_RC_told_131 (by decide) ?_
          exact my_iret (v := 0) hx hb hr (rfl) hlocks hQ hK hS (Nat.le_refl _) (Nat.le_refl _) () (trivial) (hP.sub [0, 1, 2, 3, 4, 5, 6] rfl) (hD.sub [0, 1, 2, 3, 4, 5, 6] (by decide +kernel) rfl) d_RC_told_132
        · refine lv_iconst (v := 1) hx hb d_RC_told_127 (by decide) ?_
          refine lv_goto (tgt := 132) hx hb d_RC_told_128 (by decide) ?_
          exact my_iret (v := 1) hx hb hr (rfl) hlocks hQ hK hS (Nat.le_refl _) (Nat.le_refl _) () (trivial) (hP.sub [0, 1, 2, 3, 4, 5, 6] rfl) (hD.sub [0, 1, 2, 3, 4, 5, 6] (by decide +kernel) rfl) d_RC_told_132
      refine lv_tableOut (tgt := 133) hx hb d_RC_told_14 (by have ac_3 : wh.toInt ≠ 0 := fun z => c_3 (Int32.toInt_inj.mp z); have ac_4 : wh.toInt ≠ 1 := fun z => c_4 (Int32.toInt_inj.mp z); have ac_6 : wh.toInt ≠ 2 := fun z => c_6 (Int32.toInt_inj.mp z); have ac_7 : wh.toInt ≠ 3 := fun z => c_7 (Int32.toInt_inj.mp z); have ac_8 : wh.toInt ≠ 4 := fun z => c_8 (Int32.toInt_inj.mp z); have ac_9 : wh.toInt ≠ 5 := fun z => c_9 (Int32.toInt_inj.mp z); have ac_11 : wh.toInt ≠ 6 := fun z => c_11 (Int32.toInt_inj.mp z); omega) (by decide) ?_
      refine lv_aload_n hx hb d_RC_told_133 rfl (lv_at hl 0 rfl) ?_
      refine va_get (D := (dC, dI)) (ci := 6) (v := .int frd) (C := "RangeCoders") (T := T_RC) (N := 8) hx hb hg in_RC hown hK hP 0 rfl rfl 5 (by decide) (hg _ k263) (fun _ h9 => h9) rfl d_RC_told_134 ?_
      refine lv_if_eq (tgt := 144) hx hb d_RC_told_137 (by decide) (fun c_13 => ?_) (fun c_13 => ?_)
      · refine lv_iconst (v := 0) hx hb d_RC_told_144 (by decide) ?_
        exact my_iret (v := 0) hx hb hr (rfl) hlocks hQ hK hS (Nat.le_refl _) (Nat.le_refl _) () (trivial) (hP.sub [0, 1, 2, 3, 4, 5, 6] rfl) (hD.sub [0, 1, 2, 3, 4, 5, 6] (by decide +kernel) rfl) d_RC_told_145
      · refine lv_iconst (v := 1) hx hb d_RC_told_140 (by decide) ?_
        refine lv_goto (tgt := 145) hx hb d_RC_told_141 (by decide) ?_
        exact my_iret (v := 1) hx hb hr (rfl) hlocks hQ hK hS (Nat.le_refl _) (Nat.le_refl _) () (trivial) (hP.sub [0, 1, 2, 3, 4, 5, 6] rfl) (hD.sub [0, 1, 2, 3, 4, 5, 6] (by decide +kernel) rfl) d_RC_told_145
    · refine lv_bipush (v := (-2)) hx hb d_RC_told_10 (by decide) ?_
      exact my_iret (v := (-2)) hx hb hr (rfl) hlocks hQ hK hS (Nat.le_refl _) (Nat.le_refl _) () (trivial) (hP.sub [0, 1, 2, 3, 4, 5, 6] rfl) (hD.sub [0, 1, 2, 3, 4, 5, 6] (by decide +kernel) rfl) d_RC_told_12
set_option maxHeartbeats 2000000 in
set_option maxRecDepth 100000 in
theorem c_RC_state_Stack (l : Launch) (dC : Nat → ClassId) (dI : Nat → Nat → Nat) (cI cM cO : ClassId) (sz : Nat) (rc : Nat) (ma : Nat) (k : Nat) (fit : Int32) (fen : Int32) (frd : Int32) (fbd : Int32) (fir : Int32) (mf : Nat → Option Nat) (co : Nat) (xx : Int64) (xreadX : Int64) (soa : Nat) (sna : Nat) (swa : Nat) (xkept : Int32) (ri : Nat) (ro : Nat) (rw : Nat) (xasked : Int32) (wh : Int32) (hk8 : k ≤ 8) : MetL l y_RC_state (Cond.code y_RC_state prog_1_method_16_code 2 (some .long) :: gw) ({ frames := 1, cells := 0, slots := 0, locals := 21 } : Room) (dC, dI) vwCl (kT cI cM cO) [Value.ref rc, Value.int wh] [(rc, Sum.inr (6, [Value.ref co, Value.ref ma, Value.int (nI k), Value.int fit, Value.int fen, Value.int frd, Value.int fbd, Value.int fir])), (ma, Sum.inl (cM, 8, Sum.inr (Sum.inr (Sum.inr (Sum.inr mf))))), (co, Sum.inr (4, [Value.long xx, Value.long xreadX, Value.ref soa, Value.ref sna, Value.ref swa, Value.int xkept, Value.ref ri, Value.ref ro, Value.ref rw, Value.int xasked]))] sz (fun (r : Int64) (u : Unit) => True) (fun (u : Unit) => [(rc, Sum.inr (6, [Value.ref co, Value.ref ma, Value.int (nI k), Value.int fit, Value.int fen, Value.int frd, Value.int fbd, Value.int fir])), (ma, Sum.inl (cM, 8, Sum.inr (Sum.inr (Sum.inr (Sum.inr mf))))), (co, Sum.inr (4, [Value.long xx, Value.long xreadX, Value.ref soa, Value.ref sna, Value.ref swa, Value.int xkept, Value.ref ri, Value.ref ro, Value.ref rw, Value.int xasked]))]) 0 0 := by
  refine my_ofL (cc := prog_1_method_16_code) (n := 2) (ret := (some .long)) (by decide) rfl (Nat.le_of_ble_eq_true rfl) ?_
  intro p e s m args below meth c R Q A ls H locs hx hb hr hts hown hlocks hml hnm hR hQ hA hl hP hK hN hD hS
  have hg : ∀ w ∈ gw, w.before args s = true := fun w h => hts w (List.mem_cons_of_mem _ h)
  have hown : s.vm.findClass "RangeCoders" = some m.cls := hown
  have hl : lv_has ls 2 [(0, Value.ref rc), (1, Value.int wh)] := hl
  refine lv_iload_n hx hb d_RC_state_0 rfl (lv_at hl 1 rfl) ?_
  refine lv_if_lt (tgt := 9) hx hb d_RC_state_1 (by decide) (fun c_1 => ?_) (fun c_1 => ?_)
  · refine lv_ldc2 (v := (-2)) hx hb hown (hg _ k895) d_RC_state_9 ?_
    exact my_lret (v := (-2)) hx hb hr hlocks hQ hK hS (Nat.le_refl _) (Nat.le_refl _) () (trivial) (hP.sub [0, 1, 2] rfl) (hD.sub [0, 1, 2] (by decide +kernel) rfl) d_RC_state_12
  · refine lv_iload_n hx hb d_RC_state_4 rfl (lv_at hl 1 rfl) ?_
    refine lv_iconst (v := 5) hx hb d_RC_state_5 (by decide) ?_
    refine lv_icmp_le (tgt := 13) hx hb d_RC_state_6 (by decide) (fun c_2 => ?_) (fun c_2 => ?_)
    · refine lv_iload_n hx hb d_RC_state_13 rfl (lv_at hl 1 rfl) ?_
      refine lv_iconst (v := 1) hx hb d_RC_state_14 (by decide) ?_
      refine lv_icmp_le (tgt := 27) hx hb d_RC_state_15 (by decide) (fun c_3 => ?_) (fun c_3 => ?_)
      · refine lv_aload_n hx hb d_RC_state_27 rfl (lv_at hl 0 rfl) ?_
        refine va_get (D := (dC, dI)) (ci := 6) (v := .ref co) (C := "RangeCoders") (T := T_RC) (N := 8) hx hb hg in_RC hown hK hP 0 rfl rfl 0 (by decide) (hg _ k258) (fun _ h9 => h9) rfl d_RC_state_28 ?_
        refine lv_iload_n hx hb d_RC_state_31 rfl (lv_at hl 1 rfl) ?_
        refine my_cl (wr := [(rc, Sum.inr (6, [Value.ref co, Value.ref ma, Value.int (nI k), Value.int fit, Value.int fen, Value.int frd, Value.int fbd, Value.int fir])), (ma, Sum.inl (cM, 8, Sum.inr (Sum.inr (Sum.inr (Sum.inr mf)))))]) (va_runU (As := [Value.int wh]) (rest := []) ⟨hx, hb, hml, hown, hts⟩ (c_Stack_Stacked_register l dC dI cI cM cO H.size co xx xreadX soa sna swa xkept ri ro rw xasked wh) (va_cwA 1 hts (my_gU k896 k898 k904 k905 k9 k906) rfl rfl rfl (hN.1 _ j897 rfl) (by decide +kernel) ⟨by rw [hR]; exact Nat.le_of_ble_eq_true rfl, by rw [hR]; exact Nat.le_of_ble_eq_true rfl⟩) (my_preV hK hN (hP.sub [2] rfl) (hD.sub [2] (by decide +kernel) rfl) 0 rfl rfl) rfl rfl hl.1 rfl (lv_room (Nat.le_of_ble_eq_true rfl)) d_RC_state_32 ⟨by rw [hR]; exact Nat.le_of_ble_eq_true rfl, by rw [hR]; exact Nat.le_of_ble_eq_true rfl⟩) hP hD hS hA [2] [0, 1] rfl rfl (by decide +kernel) (by decide +kernel) (fun r_32 u9 H locs hw_32 hP hD hS => ?_)
        have hPD : my_PD (dC, dI) vwCl A [(rc, Sum.inr (6, [Value.ref co, Value.ref ma, Value.int (nI k), Value.int fit, Value.int fen, Value.int frd, Value.int fbd, Value.int fir])), (ma, Sum.inl (cM, 8, Sum.inr (Sum.inr (Sum.inr (Sum.inr mf))))), (co, Sum.inr (4, [Value.long xx, Value.long xreadX, Value.ref soa, Value.ref sna, Value.ref swa, Value.int xkept, Value.ref ri, Value.ref ro, Value.ref rw, Value.int xasked]))] H := ⟨hP, hD⟩
        have hP := hPD.1
        have hD := hPD.2
        exact my_lret (v := r_32) hx hb hr hlocks hQ hK hS (Nat.le_refl _) (Nat.le_refl _) () (trivial) (hP.sub [0, 1, 2] rfl) (hD.sub [0, 1, 2] (by decide +kernel) rfl) d_RC_state_35
      · refine lv_aload_n hx hb d_RC_state_18 rfl (lv_at hl 0 rfl) ?_
        refine va_get (D := (dC, dI)) (ci := 6) (v := .int frd) (C := "RangeCoders") (T := T_RC) (N := 8) hx hb hg in_RC hown hK hP 0 rfl rfl 5 (by decide) (hg _ k263) (fun _ h9 => h9) rfl d_RC_state_19 ?_
        refine lv_if_ne (tgt := 27) hx hb d_RC_state_22 (by decide) (fun c_4 => ?_) (fun c_4 => ?_)
        · refine lv_aload_n hx hb d_RC_state_27 rfl (lv_at hl 0 rfl) ?_
          refine va_get (D := (dC, dI)) (ci := 6) (v := .ref co) (C := "RangeCoders") (T := T_RC) (N := 8) hx hb hg in_RC hown hK hP 0 rfl rfl 0 (by decide) (hg _ k258) (fun _ h9 => h9) rfl d_RC_state_28 ?_
          refine lv_iload_n hx hb d_RC_state_31 rfl (lv_at hl 1 rfl) ?_
          refine my_cl (wr := [(rc, Sum.inr (6, [Value.ref co, Value.ref ma, Value.int (nI k), Value.int fit, Value.int fen, Value.int frd, Value.int fbd, Value.int fir])), (ma, Sum.inl (cM, 8, Sum.inr (Sum.inr (Sum.inr (Sum.inr mf)))))]) (va_runU (As := [Value.int wh]) (rest := []) ⟨hx, hb, hml, hown, hts⟩ (c_Stack_Stacked_register l dC dI cI cM cO H.size co xx xreadX soa sna swa xkept ri ro rw xasked wh) (va_cwA 1 hts (my_gU k896 k898 k904 k905 k9 k906) rfl rfl rfl (hN.1 _ j897 rfl) (by decide +kernel) ⟨by rw [hR]; exact Nat.le_of_ble_eq_true rfl, by rw [hR]; exact Nat.le_of_ble_eq_true rfl⟩) (my_preV hK hN (hP.sub [2] rfl) (hD.sub [2] (by decide +kernel) rfl) 0 rfl rfl) rfl rfl hl.1 rfl (lv_room (Nat.le_of_ble_eq_true rfl)) d_RC_state_32 ⟨by rw [hR]; exact Nat.le_of_ble_eq_true rfl, by rw [hR]; exact Nat.le_of_ble_eq_true rfl⟩) hP hD hS hA [2] [0, 1] rfl rfl (by decide +kernel) (by decide +kernel) (fun r_32 u9 H locs hw_32 hP hD hS => ?_)
          have hPD : my_PD (dC, dI) vwCl A [(rc, Sum.inr (6, [Value.ref co, Value.ref ma, Value.int (nI k), Value.int fit, Value.int fen, Value.int frd, Value.int fbd, Value.int fir])), (ma, Sum.inl (cM, 8, Sum.inr (Sum.inr (Sum.inr (Sum.inr mf))))), (co, Sum.inr (4, [Value.long xx, Value.long xreadX, Value.ref soa, Value.ref sna, Value.ref swa, Value.int xkept, Value.ref ri, Value.ref ro, Value.ref rw, Value.int xasked]))] H := ⟨hP, hD⟩
          have hP := hPD.1
          have hD := hPD.2
          exact my_lret (v := r_32) hx hb hr hlocks hQ hK hS (Nat.le_refl _) (Nat.le_refl _) () (trivial) (hP.sub [0, 1, 2] rfl) (hD.sub [0, 1, 2] (by decide +kernel) rfl) d_RC_state_35
        · refine lv_lconst (v := 0) hx hb d_RC_state_25 (by decide) ?_
          exact my_lret (v := 0) hx hb hr hlocks hQ hK hS (Nat.le_refl _) (Nat.le_refl _) () (trivial) (hP.sub [0, 1, 2] rfl) (hD.sub [0, 1, 2] (by decide +kernel) rfl) d_RC_state_26
    · refine lv_ldc2 (v := (-2)) hx hb hown (hg _ k895) d_RC_state_9 ?_
      exact my_lret (v := (-2)) hx hb hr hlocks hQ hK hS (Nat.le_refl _) (Nat.le_refl _) () (trivial) (hP.sub [0, 1, 2] rfl) (hD.sub [0, 1, 2] (by decide +kernel) rfl) d_RC_state_12
set_option maxHeartbeats 2000000 in
set_option maxRecDepth 100000 in
theorem c_RC_modelA_Stack (l : Launch) (dC : Nat → ClassId) (dI : Nat → Nat → Nat) (cI cM cO : ClassId) (sz : Nat) (rc : Nat) (ma : Nat) (k : Nat) (fit : Int32) (fen : Int32) (frd : Int32) (fbd : Int32) (fir : Int32) (mf : Nat → Option Nat) (co : Nat) (xx : Int64) (xreadX : Int64) (soa : Nat) (sna : Nat) (swa : Nat) (xkept : Int32) (ri : Nat) (ro : Nat) (rw : Nat) (xasked : Int32) (nn : Int32) (hrf : nn < 2 ∨ 64 < nn) : MetI l y_RC_model (Cond.code y_RC_model prog_1_method_2_code 3 (some .int) :: gw) ({ frames := 0, cells := 0, slots := 0, locals := 0 } : Room) (dC, dI) vwCl (kT cI cM cO) [Value.ref rc, Value.int nn] [(rc, Sum.inr (6, [Value.ref co, Value.ref ma, Value.int (nI k), Value.int fit, Value.int fen, Value.int frd, Value.int fbd, Value.int fir])), (ma, Sum.inl (cM, 8, Sum.inr (Sum.inr (Sum.inr (Sum.inr mf))))), (co, Sum.inr (4, [Value.long xx, Value.long xreadX, Value.ref soa, Value.ref sna, Value.ref swa, Value.int xkept, Value.ref ri, Value.ref ro, Value.ref rw, Value.int xasked]))] sz (fun (r : Int32) (u : Unit) => r = -2) (fun (u : Unit) => [(rc, Sum.inr (6, [Value.ref co, Value.ref ma, Value.int (nI k), Value.int fit, Value.int fen, Value.int frd, Value.int fbd, Value.int fir])), (ma, Sum.inl (cM, 8, Sum.inr (Sum.inr (Sum.inr (Sum.inr mf))))), (co, Sum.inr (4, [Value.long xx, Value.long xreadX, Value.ref soa, Value.ref sna, Value.ref swa, Value.int xkept, Value.ref ri, Value.ref ro, Value.ref rw, Value.int xasked]))]) 0 0 := by
  refine my_ofI (cc := prog_1_method_2_code) (n := 3) (ret := (some .int)) (by decide) rfl (Nat.le_of_ble_eq_true rfl) ?_
  intro p e s m args below meth c R Q A ls H locs hx hb hr hts hown hlocks hml hnm hR hQ hA hl hP hK hN hD hS
  have hg : ∀ w ∈ gw, w.before args s = true := fun w h => hts w (List.mem_cons_of_mem _ h)
  have hown : s.vm.findClass "RangeCoders" = some m.cls := hown
  have hl : lv_has ls 3 [(0, Value.ref rc), (1, Value.int nn)] := hl
  refine lv_iload_n hx hb d_RC_model_0 rfl (lv_at hl 1 rfl) ?_
  refine lv_iconst (v := 2) hx hb d_RC_model_1 (by decide) ?_
  refine lv_icmp_lt (tgt := 11) hx hb d_RC_model_2 (by decide) (fun c_1 => ?_) (fun c_1 => ?_)
  · refine lv_bipush (v := (-2)) hx hb d_RC_model_11 (by decide) ?_
    exact my_iret (v := (-2)) hx hb hr (rfl) hlocks hQ hK hS (Nat.le_refl _) (Nat.le_refl _) () (rfl) (hP.sub [0, 1, 2] rfl) (hD.sub [0, 1, 2] (by decide +kernel) rfl) d_RC_model_13
  · refine lv_iload_n hx hb d_RC_model_5 rfl (lv_at hl 1 rfl) ?_
    refine lv_bipush (v := 64) hx hb d_RC_model_6 (by decide) ?_
    refine lv_icmp_le (tgt := 14) hx hb d_RC_model_8 (by decide) (fun c_2 => ?_) (fun c_2 => ?_)
    · exact absurd hrf (fun h9 => h9.elim c_1 (fun h8 => absurd c_2 (Int32.not_le.mpr h8)))
    · refine lv_bipush (v := (-2)) hx hb d_RC_model_11 (by decide) ?_
      exact my_iret (v := (-2)) hx hb hr (rfl) hlocks hQ hK hS (Nat.le_refl _) (Nat.le_refl _) () (rfl) (hP.sub [0, 1, 2] rfl) (hD.sub [0, 1, 2] (by decide +kernel) rfl) d_RC_model_13
set_option maxHeartbeats 2000000 in
set_option maxRecDepth 100000 in
theorem c_RC_modelF_Stack (l : Launch) (dC : Nat → ClassId) (dI : Nat → Nat → Nat) (cI cM cO : ClassId) (sz : Nat) (rc : Nat) (ma : Nat) (k : Nat) (fit : Int32) (fen : Int32) (frd : Int32) (fbd : Int32) (fir : Int32) (mf : Nat → Option Nat) (co : Nat) (xx : Int64) (xreadX : Int64) (soa : Nat) (sna : Nat) (swa : Nat) (xkept : Int32) (ri : Nat) (ro : Nat) (rw : Nat) (xasked : Int32) (ns : Nat) (hns2 : 2 ≤ ns) (hns : ns ≤ 64) (hk : k = 8) : MetI l y_RC_model (Cond.code y_RC_model prog_1_method_2_code 3 (some .int) :: gw) ({ frames := 0, cells := 0, slots := 0, locals := 0 } : Room) (dC, dI) vwCl (kT cI cM cO) [Value.ref rc, Value.int (nI ns)] [(rc, Sum.inr (6, [Value.ref co, Value.ref ma, Value.int (nI k), Value.int fit, Value.int fen, Value.int frd, Value.int fbd, Value.int fir])), (ma, Sum.inl (cM, 8, Sum.inr (Sum.inr (Sum.inr (Sum.inr mf))))), (co, Sum.inr (4, [Value.long xx, Value.long xreadX, Value.ref soa, Value.ref sna, Value.ref swa, Value.int xkept, Value.ref ri, Value.ref ro, Value.ref rw, Value.int xasked]))] sz (fun (r : Int32) (u : Unit) => r = -4) (fun (u : Unit) => [(rc, Sum.inr (6, [Value.ref co, Value.ref ma, Value.int (nI k), Value.int fit, Value.int fen, Value.int frd, Value.int fbd, Value.int fir])), (ma, Sum.inl (cM, 8, Sum.inr (Sum.inr (Sum.inr (Sum.inr mf))))), (co, Sum.inr (4, [Value.long xx, Value.long xreadX, Value.ref soa, Value.ref sna, Value.ref swa, Value.int xkept, Value.ref ri, Value.ref ro, Value.ref rw, Value.int xasked]))]) 0 0 := by
  refine my_ofI (cc := prog_1_method_2_code) (n := 3) (ret := (some .int)) (by decide) rfl (Nat.le_of_ble_eq_true rfl) ?_
  intro p e s m args below meth c R Q A ls H locs hx hb hr hts hown hlocks hml hnm hR hQ hA hl hP hK hN hD hS
  have hg : ∀ w ∈ gw, w.before args s = true := fun w h => hts w (List.mem_cons_of_mem _ h)
  have hown : s.vm.findClass "RangeCoders" = some m.cls := hown
  have hl : lv_has ls 3 [(0, Value.ref rc), (1, Value.int (nI ns))] := hl
  refine lv_iload_n hx hb d_RC_model_0 rfl (lv_at hl 1 rfl) ?_
  refine lv_iconst (v := 2) hx hb d_RC_model_1 (by decide) ?_
  refine lv_icmp_lt (tgt := 11) hx hb d_RC_model_2 (by decide) (fun c_1 => ?_) (fun c_1 => ?_)
  · exact absurd c_1 (show ¬ nI ns < nI 2 from nI_nlt hns2 (by omega))
  · refine lv_iload_n hx hb d_RC_model_5 rfl (lv_at hl 1 rfl) ?_
    refine lv_bipush (v := 64) hx hb d_RC_model_6 (by decide) ?_
    refine lv_icmp_le (tgt := 14) hx hb d_RC_model_8 (by decide) (fun c_2 => ?_) (fun c_2 => ?_)
    · refine lv_aload_n hx hb d_RC_model_14 rfl (lv_at hl 0 rfl) ?_
      refine va_get (D := (dC, dI)) (ci := 6) (v := .int (nI k)) (C := "RangeCoders") (T := T_RC) (N := 8) hx hb hg in_RC hown hK hP 0 rfl rfl 2 (by decide) (hg _ k260) (fun _ h9 => h9) rfl d_RC_model_15 ?_
      refine lv_bipush (v := 8) hx hb d_RC_model_18 (by decide) ?_
      refine lv_icmp_lt (tgt := 26) hx hb d_RC_model_20 (by decide) (fun c_3 => ?_) (fun c_3 => ?_)
      · exact absurd c_3 (show ¬ nI k < nI 8 from nI_nlt (by omega) (by omega))
      · refine lv_bipush (v := (-4)) hx hb d_RC_model_23 (by decide) ?_
        exact my_iret (v := (-4)) hx hb hr (rfl) hlocks hQ hK hS (Nat.le_refl _) (Nat.le_refl _) () (rfl) (hP.sub [0, 1, 2] rfl) (hD.sub [0, 1, 2] (by decide +kernel) rfl) d_RC_model_25
    · exact absurd (show nI ns ≤ nI 64 from nI_le hns (by omega)) c_2
end
