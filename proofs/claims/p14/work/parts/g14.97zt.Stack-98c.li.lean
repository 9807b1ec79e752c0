section
set_option maxHeartbeats 2000000 in
set_option maxRecDepth 100000 in
theorem f_RC_getL_Stack (l : Launch) (dC : Nat → ClassId) (dI : Nat → Nat → Nat) (cI cM cO : ClassId) (sz : Nat) (rc : Nat) (ma : Nat) (k : Nat) (fit : Int32) (fen : Int32) (frd : Int32) (fir : Int32) (mf : Nat → Option Nat) (j : Nat) (mo : Nat) (co : Nat) (ka : Nat) (o1 : Nat) (xx : Int64) (soa : Nat) (sna : Nat) (swa : Nat) (xkept : Int32) (ri : Nat) (ro : Nat) (rw : Nat) (ria : Nat) (rik : Nat) (rif : Nat → Int32) (is : List Nat) (X : Nat) (q : Nat) (oo : Nat) (osg : Int32) (ofc : Int32) (oca : Nat) (opa : Nat) (n : Nat) (ocf : Nat → Int32) (opl : Nat) (opf : Nat → Int32) (F : Nat → Nat) (osm : Int32) (s9 : Nat) (hk8 : k ≤ 8) (hj : j < k) (hmf : mf j = some mo) (hrd : ¬ frd = 0) (hri : rOk (nI is.length) rik) (hGri : gIs rif is) (hLri : is.length ≤ 6000) (hoct : oct is) (hn : n ≤ 64) (hpl : opl ≤ 512) (hf : tbI ocf n F) (hfc0 : ofc = 0) (hsum : ns F n = 0 ∨ ns F n = 4096) (hX : X < 4294967296) (hq : q < 900000000) (hG : (gs3 is n F X q).1 = some s9) (hsv9 : s9 < 2147483648) : MetI l y_RC_get (Cond.code y_RC_get prog_1_method_13_code 3 (some .int) :: gw) ({ frames := 5, cells := 0, slots := 0, locals := 109 } : Room) (dC, dI) vwCl (kT cI cM cO) [Value.ref rc, Value.int (nI j)] [(rc, Sum.inr (6, [Value.ref co, Value.ref ma, Value.int (nI k), Value.int fit, Value.int fen, Value.int frd, Value.int 0, Value.int fir])), (ma, Sum.inl (cM, 8, Sum.inr (Sum.inr (Sum.inr (Sum.inr mf))))), (mo, Sum.inr (8, [Value.ref ka, Value.ref o1, Value.ref oo])), (co, Sum.inr (4, [Value.long xx, Value.long (lN X), Value.ref soa, Value.ref sna, Value.ref swa, Value.int xkept, Value.ref ri, Value.ref ro, Value.ref rw, Value.int (nI q)])), (ri, Sum.inr (0, [Value.int (nI is.length), Value.ref ria])), (ria, Sum.inl (cI, rik, Sum.inl rif)), (oo, Sum.inr (7, [Value.int osg, Value.int osm, Value.int ofc, Value.ref oca, Value.ref opa])), (oca, Sum.inl (cI, n, Sum.inl ocf)), (opa, Sum.inl (cI, opl, Sum.inl opf))] sz (fun (r : Int32) (u : Unit) => r = nI s9) (fun (u : Unit) => [(rc, Sum.inr (6, [Value.ref co, Value.ref ma, Value.int (nI k), Value.int fit, Value.int fen, Value.int frd, Value.int 0, Value.int (fir + 1)])), (ma, Sum.inl (cM, 8, Sum.inr (Sum.inr (Sum.inr (Sum.inr mf))))), (mo, Sum.inr (8, [Value.ref ka, Value.ref o1, Value.ref oo])), (co, Sum.inr (4, [Value.long xx, Value.long (lN (gs3 is n F X q).2.1), Value.ref soa, Value.ref sna, Value.ref swa, Value.int xkept, Value.ref ri, Value.ref ro, Value.ref rw, Value.int (nI (gs3 is n F X q).2.2)])), (ri, Sum.inr (0, [Value.int (nI is.length), Value.ref ria])), (ria, Sum.inl (cI, rik, Sum.inl rif)), (oo, Sum.inr (7, [Value.int osg, Value.int osm, Value.int ofc, Value.ref oca, Value.ref opa])), (oca, Sum.inl (cI, n, Sum.inl ocf)), (opa, Sum.inl (cI, opl, Sum.inl opf))]) 0 0 := by
  refine my_ofI (cc := prog_1_method_13_code) (n := 3) (ret := (some .int)) (by decide) rfl (Nat.le_of_ble_eq_true rfl) ?_
  intro p e s m args below meth c R Q A ls H locs hx hb hr hts hown hlocks hml hnm hR hQ hA hl hP hK hN hD hS
  have hg : ∀ w ∈ gw, w.before args s = true := fun w h => hts w (List.mem_cons_of_mem _ h)
  have hown : s.vm.findClass "RangeCoders" = some m.cls := hown
  have hl : lv_has ls 3 [(0, Value.ref rc), (1, Value.int (nI j))] := hl
  refine lv_aload_n hx hb d_RC_get_0 rfl (lv_at hl 0 rfl) ?_
  refine lv_iload_n hx hb d_RC_get_1 rfl (lv_at hl 1 rfl) ?_
  refine my_cq (wr := [(mo, Sum.inr (8, [Value.ref ka, Value.ref o1, Value.ref oo])), (co, Sum.inr (4, [Value.long xx, Value.long (lN X), Value.ref soa, Value.ref sna, Value.ref swa, Value.int xkept, Value.ref ri, Value.ref ro, Value.ref rw, Value.int (nI q)])), (ri, Sum.inr (0, [Value.int (nI is.length), Value.ref ria])), (ria, Sum.inl (cI, rik, Sum.inl rif)), (oo, Sum.inr (7, [Value.int osg, Value.int osm, Value.int ofc, Value.ref oca, Value.ref opa])), (oca, Sum.inl (cI, n, Sum.inl ocf)), (opa, Sum.inl (cI, opl, Sum.inl opf))]) (va_runV (As := [Value.int (nI j)]) (rest := []) ⟨hx, hb, hml, hown, hts⟩ (c_RC_modelAtB l dC dI cI cM cO H.size rc ma k fit fen frd 0 fir mf co j mo (by first | assumption | omega) (by first | assumption | omega) (by first | assumption | omega)) (cwV 1 hts (my_gV k412 k414 ks3 k1 k415) rfl rfl rfl cu_RC_modelAt_1 ⟨by rw [hR]; exact Nat.le_of_ble_eq_true rfl, by rw [hR]; exact Nat.le_of_ble_eq_true rfl⟩) (my_preV hK hN (hP.sub [0, 1] rfl) (hD.sub [0, 1] (by decide +kernel) rfl) 0 rfl rfl) rfl rfl hl.1 rfl (lv_room (Nat.le_of_ble_eq_true rfl)) d_RC_get_2 ⟨by rw [hR]; exact Nat.le_of_ble_eq_true rfl, by rw [hR]; exact Nat.le_of_ble_eq_true rfl⟩) hP hD hS hA [0, 1] [2, 3, 4, 5, 6, 7, 8] rfl rfl (by decide +kernel) (by decide +kernel) (fun r_2 u9 H locs hw_2 hP hD hS => ?_)
  have hr_2 : r_2 = some mo := hw_2
  have hPD : my_PD (dC, dI) vwCl A [(mo, Sum.inr (8, [Value.ref ka, Value.ref o1, Value.ref oo])), (co, Sum.inr (4, [Value.long xx, Value.long (lN X), Value.ref soa, Value.ref sna, Value.ref swa, Value.int xkept, Value.ref ri, Value.ref ro, Value.ref rw, Value.int (nI q)])), (ri, Sum.inr (0, [Value.int (nI is.length), Value.ref ria])), (ria, Sum.inl (cI, rik, Sum.inl rif)), (oo, Sum.inr (7, [Value.int osg, Value.int osm, Value.int ofc, Value.ref oca, Value.ref opa])), (oca, Sum.inl (cI, n, Sum.inl ocf)), (opa, Sum.inl (cI, opl, Sum.inl opf)), (rc, Sum.inr (6, [Value.ref co, Value.ref ma, Value.int (nI k), Value.int fit, Value.int fen, Value.int frd, Value.int 0, Value.int fir])), (ma, Sum.inl (cM, 8, Sum.inr (Sum.inr (Sum.inr (Sum.inr mf)))))] H := ⟨hP, hD⟩
  have hP := hPD.1
  have hD := hPD.2
  subst hr_2
  refine W.eq (g2 := F0 m 5 ls [Value.ref mo]) rfl ?_
  refine lv_astore_n (lv' := [(2, Value.ref mo), (0, Value.ref rc), (1, Value.int (nI j))]) hx hb d_RC_get_5 rfl hl (by decide) rfl (fun ls hl => ?_)
  refine lv_aload_n hx hb d_RC_get_6 rfl (lv_at hl 0 rfl) ?_
  refine lv_ifnonnull (tgt := 12) hx hb d_RC_get_7 (by decide) ?_
  refine lv_aload_n hx hb d_RC_get_12 rfl (lv_at hl 1 rfl) ?_
  refine va_get (D := (dC, dI)) (ci := 6) (v := .int frd) (C := "RangeCoders") (T := T_RC) (N := 8) hx hb hg in_RC hown hK hP 7 rfl rfl 5 (by decide) (hg _ k263) (fun _ h9 => h9) rfl d_RC_get_13 ?_
  refine lv_if_ne (tgt := 22) hx hb d_RC_get_16 (by decide) (fun c_1 => ?_) (fun c_1 => ?_)
  · refine lv_aload_n hx hb d_RC_get_22 rfl (lv_at hl 1 rfl) ?_
    refine va_get (D := (dC, dI)) (ci := 6) (v := .int 0) (C := "RangeCoders") (T := T_RC) (N := 8) hx hb hg in_RC hown hK hP 7 rfl rfl 6 (by decide) (hg _ k264) (fun _ h9 => h9) rfl d_RC_get_23 ?_
    refine lv_if_eq (tgt := 34) hx hb d_RC_get_26 (by decide) (fun c_2 => ?_) (fun c_2 => ?_)
    · refine lv_aload_n hx hb d_RC_get_34 rfl (lv_at hl 1 rfl) ?_
      refine lv_aload_n hx hb d_RC_get_35 rfl (lv_at hl 1 rfl) ?_
      refine va_get (D := (dC, dI)) (ci := 6) (v := .ref co) (C := "RangeCoders") (T := T_RC) (N := 8) hx hb hg in_RC hown hK hP 7 rfl rfl 0 (by decide) (hg _ k258) (fun _ h9 => h9) rfl d_RC_get_36 ?_
      refine lv_aload_n hx hb d_RC_get_39 rfl (lv_at hl 0 rfl) ?_
      refine va_get (D := (dC, dI)) (ci := 8) (v := .ref oo) (C := "RangeCoders$Model") (T := T_Model) (N := 3) hx hb hg in_Model hown hK hP 0 rfl rfl 2 (by decide) (hg _ k345) (fun _ h9 => h9) rfl d_RC_get_40 ?_
      refine my_ci (wr := [(mo, Sum.inr (8, [Value.ref ka, Value.ref o1, Value.ref oo])), (rc, Sum.inr (6, [Value.ref co, Value.ref ma, Value.int (nI k), Value.int fit, Value.int fen, Value.int frd, Value.int 0, Value.int fir])), (ma, Sum.inl (cM, 8, Sum.inr (Sum.inr (Sum.inr (Sum.inr mf)))))]) (va_runU (As := [Value.ref oo]) (rest := [Value.ref rc]) ⟨hx, hb, hml, hown, hts⟩ (f_Stack_nextSign l dC dI cI cM cO H.size co xx soa sna swa xkept ri ro rw ria rik rif is X q oo osg ofc oca opa n ocf opl opf F osm (by first | assumption | omega) (by first | assumption | omega) (by first | assumption | omega) (by first | assumption | omega) (by first | assumption | omega) (by first | assumption | omega) (by first | assumption | omega) (by first | assumption | omega) (by first | assumption | omega) (by first | assumption | omega) (by first | assumption | omega)) (va_cwA 1 hts (my_gU k775 k777 k830 k831 k10 k832) rfl rfl rfl (hN.1 _ j776 rfl) (by decide +kernel) ⟨by rw [hR]; exact Nat.le_of_ble_eq_true rfl, by rw [hR]; exact Nat.le_of_ble_eq_true rfl⟩) (my_preV hK hN (hP.sub [1, 2, 3, 4, 5, 6] rfl) (hD.sub [1, 2, 3, 4, 5, 6] (by decide +kernel) rfl) 0 rfl rfl) rfl rfl hl.1 rfl (lv_room (Nat.le_of_ble_eq_true rfl)) d_RC_get_43 ⟨by rw [hR]; exact Nat.le_of_ble_eq_true rfl, by rw [hR]; exact Nat.le_of_ble_eq_true rfl⟩) hP hD hS hA [1, 2, 3, 4, 5, 6] [0, 7, 8] rfl rfl (by decide +kernel) (by decide +kernel) (fun r_43 u9 H locs hw_43 hP hD hS => ?_)
      have hr_43 : r_43 = oI (gs3 is n F X q).1 := hw_43
      have hPD : my_PD (dC, dI) vwCl A [(mo, Sum.inr (8, [Value.ref ka, Value.ref o1, Value.ref oo])), (rc, Sum.inr (6, [Value.ref co, Value.ref ma, Value.int (nI k), Value.int fit, Value.int fen, Value.int frd, Value.int 0, Value.int fir])), (ma, Sum.inl (cM, 8, Sum.inr (Sum.inr (Sum.inr (Sum.inr mf))))), (co, Sum.inr (4, [Value.long xx, Value.long (lN (gs3 is n F X q).2.1), Value.ref soa, Value.ref sna, Value.ref swa, Value.int xkept, Value.ref ri, Value.ref ro, Value.ref rw, Value.int (nI (gs3 is n F X q).2.2)])), (ri, Sum.inr (0, [Value.int (nI is.length), Value.ref ria])), (ria, Sum.inl (cI, rik, Sum.inl rif)), (oo, Sum.inr (7, [Value.int osg, Value.int osm, Value.int ofc, Value.ref oca, Value.ref opa])), (oca, Sum.inl (cI, n, Sum.inl ocf)), (opa, Sum.inl (cI, opl, Sum.inl opf))] H := ⟨hP, hD⟩
      have hP := hPD.1
      have hD := hPD.2
      have z9 : r_43 = nI s9 := by rw [hr_43, hG]; rfl
      subst z9
      refine my_ci (wr := [(mo, Sum.inr (8, [Value.ref ka, Value.ref o1, Value.ref oo])), (ma, Sum.inl (cM, 8, Sum.inr (Sum.inr (Sum.inr (Sum.inr mf))))), (co, Sum.inr (4, [Value.long xx, Value.long (lN (gs3 is n F X q).2.1), Value.ref soa, Value.ref sna, Value.ref swa, Value.int xkept, Value.ref ri, Value.ref ro, Value.ref rw, Value.int (nI (gs3 is n F X q).2.2)])), (ri, Sum.inr (0, [Value.int (nI is.length), Value.ref ria])), (ria, Sum.inl (cI, rik, Sum.inl rif)), (oo, Sum.inr (7, [Value.int osg, Value.int osm, Value.int ofc, Value.ref oca, Value.ref opa])), (oca, Sum.inl (cI, n, Sum.inl ocf)), (opa, Sum.inl (cI, opl, Sum.inl opf))]) (va_runV (As := [Value.int (nI s9)]) (rest := []) ⟨hx, hb, hml, hown, hts⟩ (f_RC_itemOk l dC dI cI cM cO H.size rc ma k fit fen frd 0 fir mf co s9 (by first | assumption | omega)) (cwV 1 hts (my_gV k854 k856 ks17 k1 k857) rfl rfl rfl cu_RC_itemOrBad_1 ⟨by rw [hR]; exact Nat.le_of_ble_eq_true rfl, by rw [hR]; exact Nat.le_of_ble_eq_true rfl⟩) (my_preV hK hN (hP.sub [1] rfl) (hD.sub [1] (by decide +kernel) rfl) 0 rfl rfl) rfl rfl hl.1 rfl (lv_room (Nat.le_of_ble_eq_true rfl)) d_RC_get_46 ⟨by rw [hR]; exact Nat.le_of_ble_eq_true rfl, by rw [hR]; exact Nat.le_of_ble_eq_true rfl⟩) hP hD hS hA [1] [0, 2, 3, 4, 5, 6, 7, 8] rfl rfl (by decide +kernel) (by decide +kernel) (fun r_46 u9 H locs hw_46 hP hD hS => ?_)
      have hr_46 : r_46 = nI s9 := hw_46
      have hPD : my_PD (dC, dI) vwCl A [(mo, Sum.inr (8, [Value.ref ka, Value.ref o1, Value.ref oo])), (ma, Sum.inl (cM, 8, Sum.inr (Sum.inr (Sum.inr (Sum.inr mf))))), (co, Sum.inr (4, [Value.long xx, Value.long (lN (gs3 is n F X q).2.1), Value.ref soa, Value.ref sna, Value.ref swa, Value.int xkept, Value.ref ri, Value.ref ro, Value.ref rw, Value.int (nI (gs3 is n F X q).2.2)])), (ri, Sum.inr (0, [Value.int (nI is.length), Value.ref ria])), (ria, Sum.inl (cI, rik, Sum.inl rif)), (oo, Sum.inr (7, [Value.int osg, Value.int osm, Value.int ofc, Value.ref oca, Value.ref opa])), (oca, Sum.inl (cI, n, Sum.inl ocf)), (opa, Sum.inl (cI, opl, Sum.inl opf)), (rc, Sum.inr (6, [Value.ref co, Value.ref ma, Value.int (nI k), Value.int fit, Value.int fen, Value.int frd, Value.int 0, Value.int (fir + 1)]))] H := ⟨hP, hD⟩
      have hP := hPD.1
      have hD := hPD.2
      exact my_iret (v := r_46) hx hb hr (rfl) hlocks hQ hK hS (Nat.le_refl _) (Nat.le_refl _) () (hr_46) (hP.sub [8, 1, 0, 2, 3, 4, 5, 6, 7] rfl) (hD.sub [8, 1, 0, 2, 3, 4, 5, 6, 7] (by decide +kernel) rfl) d_RC_get_49
    · exact absurd (by decide) c_2
  · exact absurd c_1 hrd
set_option maxHeartbeats 2000000 in
set_option maxRecDepth 100000 in
theorem f_RC_getX_Stack (l : Launch) (dC : Nat → ClassId) (dI : Nat → Nat → Nat) (cI cM cO : ClassId) (sz : Nat) (rc : Nat) (ma : Nat) (k : Nat) (fit : Int32) (fen : Int32) (frd : Int32) (fir : Int32) (mf : Nat → Option Nat) (j : Nat) (mo : Nat) (co : Nat) (ka : Nat) (o1 : Nat) (xx : Int64) (soa : Nat) (sna : Nat) (swa : Nat) (xkept : Int32) (ri : Nat) (ro : Nat) (rw : Nat) (ria : Nat) (rik : Nat) (rif : Nat → Int32) (is : List Nat) (X : Nat) (q : Nat) (oo : Nat) (osg : Int32) (ofc : Int32) (oca : Nat) (opa : Nat) (n : Nat) (ocf : Nat → Int32) (opl : Nat) (opf : Nat → Int32) (F : Nat → Nat) (osm : Int32) (hk8 : k ≤ 8) (hj : j < k) (hmf : mf j = some mo) (hrd : ¬ frd = 0) (hri : rOk (nI is.length) rik) (hGri : gIs rif is) (hLri : is.length ≤ 6000) (hoct : oct is) (hn : n ≤ 64) (hpl : opl ≤ 512) (hf : tbI ocf n F) (hfc0 : ofc = 0) (hsum : ns F n = 0 ∨ ns F n = 4096) (hX : X < 4294967296) (hq : q < 900000000) (hG : (gs3 is n F X q).1 = none) : MetI l y_RC_get (Cond.code y_RC_get prog_1_method_13_code 3 (some .int) :: gw) ({ frames := 5, cells := 0, slots := 0, locals := 109 } : Room) (dC, dI) vwCl (kT cI cM cO) [Value.ref rc, Value.int (nI j)] [(rc, Sum.inr (6, [Value.ref co, Value.ref ma, Value.int (nI k), Value.int fit, Value.int fen, Value.int frd, Value.int 0, Value.int fir])), (ma, Sum.inl (cM, 8, Sum.inr (Sum.inr (Sum.inr (Sum.inr mf))))), (mo, Sum.inr (8, [Value.ref ka, Value.ref o1, Value.ref oo])), (co, Sum.inr (4, [Value.long xx, Value.long (lN X), Value.ref soa, Value.ref sna, Value.ref swa, Value.int xkept, Value.ref ri, Value.ref ro, Value.ref rw, Value.int (nI q)])), (ri, Sum.inr (0, [Value.int (nI is.length), Value.ref ria])), (ria, Sum.inl (cI, rik, Sum.inl rif)), (oo, Sum.inr (7, [Value.int osg, Value.int osm, Value.int ofc, Value.ref oca, Value.ref opa])), (oca, Sum.inl (cI, n, Sum.inl ocf)), (opa, Sum.inl (cI, opl, Sum.inl opf))] sz (fun (r : Int32) (u : Unit) => r = -5) (fun (u : Unit) => [(rc, Sum.inr (6, [Value.ref co, Value.ref ma, Value.int (nI k), Value.int fit, Value.int fen, Value.int frd, Value.int 1, Value.int fir])), (ma, Sum.inl (cM, 8, Sum.inr (Sum.inr (Sum.inr (Sum.inr mf))))), (mo, Sum.inr (8, [Value.ref ka, Value.ref o1, Value.ref oo])), (co, Sum.inr (4, [Value.long xx, Value.long (lN (gs3 is n F X q).2.1), Value.ref soa, Value.ref sna, Value.ref swa, Value.int xkept, Value.ref ri, Value.ref ro, Value.ref rw, Value.int (nI (gs3 is n F X q).2.2)])), (ri, Sum.inr (0, [Value.int (nI is.length), Value.ref ria])), (ria, Sum.inl (cI, rik, Sum.inl rif)), (oo, Sum.inr (7, [Value.int osg, Value.int osm, Value.int ofc, Value.ref oca, Value.ref opa])), (oca, Sum.inl (cI, n, Sum.inl ocf)), (opa, Sum.inl (cI, opl, Sum.inl opf))]) 0 0 := by
  refine my_ofI (cc := prog_1_method_13_code) (n := 3) (ret := (some .int)) (by decide) rfl (Nat.le_of_ble_eq_true rfl) ?_
  intro p e s m args below meth c R Q A ls H locs hx hb hr hts hown hlocks hml hnm hR hQ hA hl hP hK hN hD hS
  have hg : ∀ w ∈ gw, w.before args s = true := fun w h => hts w (List.mem_cons_of_mem _ h)
  have hown : s.vm.findClass "RangeCoders" = some m.cls := hown
  have hl : lv_has ls 3 [(0, Value.ref rc), (1, Value.int (nI j))] := hl
  refine lv_aload_n hx hb d_RC_get_0 rfl (lv_at hl 0 rfl) ?_
  refine lv_iload_n hx hb d_RC_get_1 rfl (lv_at hl 1 rfl) ?_
  refine my_cq (wr := [(mo, Sum.inr (8, [Value.ref ka, Value.ref o1, Value.ref oo])), (co, Sum.inr (4, [Value.long xx, Value.long (lN X), Value.ref soa, Value.ref sna, Value.ref swa, Value.int xkept, Value.ref ri, Value.ref ro, Value.ref rw, Value.int (nI q)])), (ri, Sum.inr (0, [Value.int (nI is.length), Value.ref ria])), (ria, Sum.inl (cI, rik, Sum.inl rif)), (oo, Sum.inr (7, [Value.int osg, Value.int osm, Value.int ofc, Value.ref oca, Value.ref opa])), (oca, Sum.inl (cI, n, Sum.inl ocf)), (opa, Sum.inl (cI, opl, Sum.inl opf))]) (va_runV (As := [Value.int (nI j)]) (rest := []) ⟨hx, hb, hml, hown, hts⟩ (c_RC_modelAtB l dC dI cI cM cO H.size rc ma k fit fen frd 0 fir mf co j mo (by first | assumption | omega) (by first | assumption | omega) (by first | assumption | omega)) (cwV 1 hts (my_gV k412 k414 ks3 k1 k415) rfl rfl rfl cu_RC_modelAt_1 ⟨by rw [hR]; exact Nat.le_of_ble_eq_true rfl, by rw [hR]; exact Nat.le_of_ble_eq_true rfl⟩) (my_preV hK hN (hP.sub [0, 1] rfl) (hD.sub [0, 1] (by decide +kernel) rfl) 0 rfl rfl) rfl rfl hl.1 rfl (lv_room (Nat.le_of_ble_eq_true rfl)) d_RC_get_2 ⟨by rw [hR]; exact Nat.le_of_ble_eq_true rfl, by rw [hR]; exact Nat.le_of_ble_eq_true rfl⟩) hP hD hS hA [0, 1] [2, 3, 4, 5, 6, 7, 8] rfl rfl (by decide +kernel) (by decide +kernel) (fun r_2 u9 H locs hw_2 hP hD hS => ?_)
  have hr_2 : r_2 = some mo := hw_2
  have hPD : my_PD (dC, dI) vwCl A [(mo, Sum.inr (8, [Value.ref ka, Value.ref o1, Value.ref oo])), (co, Sum.inr (4, [Value.long xx, Value.long (lN X), Value.ref soa, Value.ref sna, Value.ref swa, Value.int xkept, Value.ref ri, Value.ref ro, Value.ref rw, Value.int (nI q)])), (ri, Sum.inr (0, [Value.int (nI is.length), Value.ref ria])), (ria, Sum.inl (cI, rik, Sum.inl rif)), (oo, Sum.inr (7, [Value.int osg, Value.int osm, Value.int ofc, Value.ref oca, Value.ref opa])), (oca, Sum.inl (cI, n, Sum.inl ocf)), (opa, Sum.inl (cI, opl, Sum.inl opf)), (rc, Sum.inr (6, [Value.ref co, Value.ref ma, Value.int (nI k), Value.int fit, Value.int fen, Value.int frd, Value.int 0, Value.int fir])), (ma, Sum.inl (cM, 8, Sum.inr (Sum.inr (Sum.inr (Sum.inr mf)))))] H := ⟨hP, hD⟩
  have hP := hPD.1
  have hD := hPD.2
  subst hr_2
  refine W.eq (g2 := F0 m 5 ls [Value.ref mo]) rfl ?_
  refine lv_astore_n (lv' := [(2, Value.ref mo), (0, Value.ref rc), (1, Value.int (nI j))]) hx hb d_RC_get_5 rfl hl (by decide) rfl (fun ls hl => ?_)
  refine lv_aload_n hx hb d_RC_get_6 rfl (lv_at hl 0 rfl) ?_
  refine lv_ifnonnull (tgt := 12) hx hb d_RC_get_7 (by decide) ?_
  refine lv_aload_n hx hb d_RC_get_12 rfl (lv_at hl 1 rfl) ?_
  refine va_get (D := (dC, dI)) (ci := 6) (v := .int frd) (C := "RangeCoders") (T := T_RC) (N := 8) hx hb hg in_RC hown hK hP 7 rfl rfl 5 (by decide) (hg _ k263) (fun _ h9 => h9) rfl d_RC_get_13 ?_
  refine lv_if_ne (tgt := 22) hx hb d_RC_get_16 (by decide) (fun c_1 => ?_) (fun c_1 => ?_)
  · refine lv_aload_n hx hb d_RC_get_22 rfl (lv_at hl 1 rfl) ?_
    refine va_get (D := (dC, dI)) (ci := 6) (v := .int 0) (C := "RangeCoders") (T := T_RC) (N := 8) hx hb hg in_RC hown hK hP 7 rfl rfl 6 (by decide) (hg _ k264) (fun _ h9 => h9) rfl d_RC_get_23 ?_
    refine lv_if_eq (tgt := 34) hx hb d_RC_get_26 (by decide) (fun c_2 => ?_) (fun c_2 => ?_)
    · refine lv_aload_n hx hb d_RC_get_34 rfl (lv_at hl 1 rfl) ?_
      refine lv_aload_n hx hb d_RC_get_35 rfl (lv_at hl 1 rfl) ?_
      refine va_get (D := (dC, dI)) (ci := 6) (v := .ref co) (C := "RangeCoders") (T := T_RC) (N := 8) hx hb hg in_RC hown hK hP 7 rfl rfl 0 (by decide) (hg _ k258) (fun _ h9 => h9) rfl d_RC_get_36 ?_
      refine lv_aload_n hx hb d_RC_get_39 rfl (lv_at hl 0 rfl) ?_
      refine va_get (D := (dC, dI)) (ci := 8) (v := .ref oo) (C := "RangeCoders$Model") (T := T_Model) (N := 3) hx hb hg in_Model hown hK hP 0 rfl rfl 2 (by decide) (hg _ k345) (fun _ h9 => h9) rfl d_RC_get_40 ?_
      refine my_ci (wr := [(mo, Sum.inr (8, [Value.ref ka, Value.ref o1, Value.ref oo])), (rc, Sum.inr (6, [Value.ref co, Value.ref ma, Value.int (nI k), Value.int fit, Value.int fen, Value.int frd, Value.int 0, Value.int fir])), (ma, Sum.inl (cM, 8, Sum.inr (Sum.inr (Sum.inr (Sum.inr mf)))))]) (va_runU (As := [Value.ref oo]) (rest := [Value.ref rc]) ⟨hx, hb, hml, hown, hts⟩ (f_Stack_nextSign l dC dI cI cM cO H.size co xx soa sna swa xkept ri ro rw ria rik rif is X q oo osg ofc oca opa n ocf opl opf F osm (by first | assumption | omega) (by first | assumption | omega) (by first | assumption | omega) (by first | assumption | omega) (by first | assumption | omega) (by first | assumption | omega) (by first | assumption | omega) (by first | assumption | omega) (by first | assumption | omega) (by first | assumption | omega) (by first | assumption | omega)) (va_cwA 1 hts (my_gU k775 k777 k830 k831 k10 k832) rfl rfl rfl (hN.1 _ j776 rfl) (by decide +kernel) ⟨by rw [hR]; exact Nat.le_of_ble_eq_true rfl, by rw [hR]; exact Nat.le_of_ble_eq_true rfl⟩) (my_preV hK hN (hP.sub [1, 2, 3, 4, 5, 6] rfl) (hD.sub [1, 2, 3, 4, 5, 6] (by decide +kernel) rfl) 0 rfl rfl) rfl rfl hl.1 rfl (lv_room (Nat.le_of_ble_eq_true rfl)) d_RC_get_43 ⟨by rw [hR]; exact Nat.le_of_ble_eq_true rfl, by rw [hR]; exact Nat.le_of_ble_eq_true rfl⟩) hP hD hS hA [1, 2, 3, 4, 5, 6] [0, 7, 8] rfl rfl (by decide +kernel) (by decide +kernel) (fun r_43 u9 H locs hw_43 hP hD hS => ?_)
      have hr_43 : r_43 = oI (gs3 is n F X q).1 := hw_43
      have hPD : my_PD (dC, dI) vwCl A [(mo, Sum.inr (8, [Value.ref ka, Value.ref o1, Value.ref oo])), (rc, Sum.inr (6, [Value.ref co, Value.ref ma, Value.int (nI k), Value.int fit, Value.int fen, Value.int frd, Value.int 0, Value.int fir])), (ma, Sum.inl (cM, 8, Sum.inr (Sum.inr (Sum.inr (Sum.inr mf))))), (co, Sum.inr (4, [Value.long xx, Value.long (lN (gs3 is n F X q).2.1), Value.ref soa, Value.ref sna, Value.ref swa, Value.int xkept, Value.ref ri, Value.ref ro, Value.ref rw, Value.int (nI (gs3 is n F X q).2.2)])), (ri, Sum.inr (0, [Value.int (nI is.length), Value.ref ria])), (ria, Sum.inl (cI, rik, Sum.inl rif)), (oo, Sum.inr (7, [Value.int osg, Value.int osm, Value.int ofc, Value.ref oca, Value.ref opa])), (oca, Sum.inl (cI, n, Sum.inl ocf)), (opa, Sum.inl (cI, opl, Sum.inl opf))] H := ⟨hP, hD⟩
      have hP := hPD.1
      have hD := hPD.2
      have z9 : r_43 = (-1) := by rw [hr_43, hG]; rfl
      subst z9
      refine my_ci (wr := [(mo, Sum.inr (8, [Value.ref ka, Value.ref o1, Value.ref oo])), (ma, Sum.inl (cM, 8, Sum.inr (Sum.inr (Sum.inr (Sum.inr mf))))), (co, Sum.inr (4, [Value.long xx, Value.long (lN (gs3 is n F X q).2.1), Value.ref soa, Value.ref sna, Value.ref swa, Value.int xkept, Value.ref ri, Value.ref ro, Value.ref rw, Value.int (nI (gs3 is n F X q).2.2)])), (ri, Sum.inr (0, [Value.int (nI is.length), Value.ref ria])), (ria, Sum.inl (cI, rik, Sum.inl rif)), (oo, Sum.inr (7, [Value.int osg, Value.int osm, Value.int ofc, Value.ref oca, Value.ref opa])), (oca, Sum.inl (cI, n, Sum.inl ocf)), (opa, Sum.inl (cI, opl, Sum.inl opf))]) (va_runV (As := [Value.int (-1)]) (rest := []) ⟨hx, hb, hml, hown, hts⟩ (f_RC_itemBad l dC dI cI cM cO H.size rc ma k fit fen frd 0 fir mf co) (cwV 1 hts (my_gV k854 k856 ks17 k1 k857) rfl rfl rfl cu_RC_itemOrBad_1 ⟨by rw [hR]; exact Nat.le_of_ble_eq_true rfl, by rw [hR]; exact Nat.le_of_ble_eq_true rfl⟩) (my_preV hK hN (hP.sub [1] rfl) (hD.sub [1] (by decide +kernel) rfl) 0 rfl rfl) rfl rfl hl.1 rfl (lv_room (Nat.le_of_ble_eq_true rfl)) d_RC_get_46 ⟨by rw [hR]; exact Nat.le_of_ble_eq_true rfl, by rw [hR]; exact Nat.le_of_ble_eq_true rfl⟩) hP hD hS hA [1] [0, 2, 3, 4, 5, 6, 7, 8] rfl rfl (by decide +kernel) (by decide +kernel) (fun r_46 u9 H locs hw_46 hP hD hS => ?_)
      have hr_46 : r_46 = -5 := hw_46
      have hPD : my_PD (dC, dI) vwCl A [(mo, Sum.inr (8, [Value.ref ka, Value.ref o1, Value.ref oo])), (ma, Sum.inl (cM, 8, Sum.inr (Sum.inr (Sum.inr (Sum.inr mf))))), (co, Sum.inr (4, [Value.long xx, Value.long (lN (gs3 is n F X q).2.1), Value.ref soa, Value.ref sna, Value.ref swa, Value.int xkept, Value.ref ri, Value.ref ro, Value.ref rw, Value.int (nI (gs3 is n F X q).2.2)])), (ri, Sum.inr (0, [Value.int (nI is.length), Value.ref ria])), (ria, Sum.inl (cI, rik, Sum.inl rif)), (oo, Sum.inr (7, [Value.int osg, Value.int osm, Value.int ofc, Value.ref oca, Value.ref opa])), (oca, Sum.inl (cI, n, Sum.inl ocf)), (opa, Sum.inl (cI, opl, Sum.inl opf)), (rc, Sum.inr (6, [Value.ref co, Value.ref ma, Value.int (nI k), Value.int fit, Value.int fen, Value.int frd, Value.int 1, Value.int fir]))] H := ⟨hP, hD⟩
      have hP := hPD.1
      have hD := hPD.2
      exact my_iret (v := r_46) hx hb hr (rfl) hlocks hQ hK hS (Nat.le_refl _) (Nat.le_refl _) () (hr_46) (hP.sub [8, 1, 0, 2, 3, 4, 5, 6, 7] rfl) (hD.sub [8, 1, 0, 2, 3, 4, 5, 6, 7] (by decide +kernel) rfl) d_RC_get_49
    · exact absurd (by decide) c_2
  · exact absurd c_1 hrd
set_option maxHeartbeats 2000000 in
set_option maxRecDepth 100000 in
theorem f_RC_gbW_Stack (l : Launch) (dC : Nat → ClassId) (dI : Nat → Nat → Nat) (cI cM cO : ClassId) (sz : Nat) (rc : Nat) (ma : Nat) (k : Nat) (fit : Int32) (fen : Int32) (frd : Int32) (fbd : Int32) (fir : Int32) (mf : Nat → Option Nat) (co : Nat) (xx : Int64) (xreadX : Int64) (soa : Nat) (sna : Nat) (swa : Nat) (xkept : Int32) (ri : Nat) (ro : Nat) (rw : Nat) (xasked : Int32) (wd : Int32) (hbad : ¬ (1 ≤ wd ∧ wd ≤ nI 12)) : MetI l y_RC_getBits (Cond.code y_RC_getBits prog_1_method_14_code 2 (some .int) :: gw) ({ frames := 1, cells := 0, slots := 0, locals := 21 } : Room) (dC, dI) vwCl (kT cI cM cO) [Value.ref rc, Value.int wd] [(rc, Sum.inr (6, [Value.ref co, Value.ref ma, Value.int (nI k), Value.int fit, Value.int fen, Value.int frd, Value.int fbd, Value.int fir])), (co, Sum.inr (4, [Value.long xx, Value.long xreadX, Value.ref soa, Value.ref sna, Value.ref swa, Value.int xkept, Value.ref ri, Value.ref ro, Value.ref rw, Value.int xasked]))] sz (fun (r : Int32) (u : Unit) => r = -2) (fun (u : Unit) => [(rc, Sum.inr (6, [Value.ref co, Value.ref ma, Value.int (nI k), Value.int fit, Value.int fen, Value.int frd, Value.int fbd, Value.int fir])), (co, Sum.inr (4, [Value.long xx, Value.long xreadX, Value.ref soa, Value.ref sna, Value.ref swa, Value.int xkept, Value.ref ri, Value.ref ro, Value.ref rw, Value.int xasked]))]) 0 0 := by
  refine my_ofI (cc := prog_1_method_14_code) (n := 2) (ret := (some .int)) (by decide) rfl (Nat.le_of_ble_eq_true rfl) ?_
  intro p e s m args below meth c R Q A ls H locs hx hb hr hts hown hlocks hml hnm hR hQ hA hl hP hK hN hD hS
  have hg : ∀ w ∈ gw, w.before args s = true := fun w h => hts w (List.mem_cons_of_mem _ h)
  have hown : s.vm.findClass "RangeCoders" = some m.cls := hown
  have hl : lv_has ls 2 [(0, Value.ref rc), (1, Value.int wd)] := hl
  refine lv_aload_n hx hb d_RC_getBits_0 rfl (lv_at hl 0 rfl) ?_
  refine va_get (D := (dC, dI)) (ci := 6) (v := .ref co) (C := "RangeCoders") (T := T_RC) (N := 8) hx hb hg in_RC hown hK hP 0 rfl rfl 0 (by decide) (hg _ k258) (fun _ h9 => h9) rfl d_RC_getBits_1 ?_
  refine lv_iload_n hx hb d_RC_getBits_4 rfl (lv_at hl 1 rfl) ?_
  refine my_ci (wr := [(rc, Sum.inr (6, [Value.ref co, Value.ref ma, Value.int (nI k), Value.int fit, Value.int fen, Value.int frd, Value.int fbd, Value.int fir]))]) (va_runU (As := [Value.int wd]) (rest := []) ⟨hx, hb, hml, hown, hts⟩ (f_Stack_hasWidth l dC dI cI cM cO H.size co xx xreadX soa sna swa xkept ri ro rw xasked wd) (va_cwU 1 hts (my_gU k543 k545 k549 k544 k3 k553) rfl rfl rfl rfl (by decide +kernel) ⟨by rw [hR]; exact Nat.le_of_ble_eq_true rfl, by rw [hR]; exact Nat.le_of_ble_eq_true rfl⟩) (my_preV hK hN (hP.sub [1] rfl) (hD.sub [1] (by decide +kernel) rfl) 0 rfl rfl) rfl rfl hl.1 rfl (lv_room (Nat.le_of_ble_eq_true rfl)) d_RC_getBits_5 ⟨by rw [hR]; exact Nat.le_of_ble_eq_true rfl, by rw [hR]; exact Nat.le_of_ble_eq_true rfl⟩) hP hD hS hA [1] [0] rfl rfl (by decide +kernel) (by decide +kernel) (fun r_5 u9 H locs hw_5 hP hD hS => ?_)
  have hr_5 : r_5 = if 1 ≤ wd ∧ wd ≤ nI 12 then 1 else 0 := hw_5
  have hPD : my_PD (dC, dI) vwCl A [(rc, Sum.inr (6, [Value.ref co, Value.ref ma, Value.int (nI k), Value.int fit, Value.int fen, Value.int frd, Value.int fbd, Value.int fir])), (co, Sum.inr (4, [Value.long xx, Value.long xreadX, Value.ref soa, Value.ref sna, Value.ref swa, Value.int xkept, Value.ref ri, Value.ref ro, Value.ref rw, Value.int xasked]))] H := ⟨hP, hD⟩
  have hP := hPD.1
  have hD := hPD.2
  refine lv_if_ne (tgt := 14) hx hb d_RC_getBits_8 (by decide) (fun c_1 => ?_) (fun c_1 => ?_)
  · exact absurd (one_ne hr_5 c_1) hbad
  · refine lv_bipush (v := (-2)) hx hb d_RC_getBits_11 (by decide) ?_
    exact my_iret (v := (-2)) hx hb hr (rfl) hlocks hQ hK hS (Nat.le_refl _) (Nat.le_refl _) () (rfl) (hP.sub [0, 1] rfl) (hD.sub [0, 1] (by decide +kernel) rfl) d_RC_getBits_13
set_option maxHeartbeats 2000000 in
set_option maxRecDepth 100000 in
theorem f_RC_gbN_Stack (l : Launch) (dC : Nat → ClassId) (dI : Nat → Nat → Nat) (cI cM cO : ClassId) (sz : Nat) (rc : Nat) (ma : Nat) (k : Nat) (fit : Int32) (fen : Int32) (frd : Int32) (fbd : Int32) (fir : Int32) (mf : Nat → Option Nat) (co : Nat) (xx : Int64) (xreadX : Int64) (soa : Nat) (sna : Nat) (swa : Nat) (xkept : Int32) (ri : Nat) (ro : Nat) (rw : Nat) (xasked : Int32) (b : Nat) (hb1 : 1 ≤ b) (hb2 : b ≤ 12) (hrd : frd = 0) : MetI l y_RC_getBits (Cond.code y_RC_getBits prog_1_method_14_code 2 (some .int) :: gw) ({ frames := 1, cells := 0, slots := 0, locals := 21 } : Room) (dC, dI) vwCl (kT cI cM cO) [Value.ref rc, Value.int (nI b)] [(rc, Sum.inr (6, [Value.ref co, Value.ref ma, Value.int (nI k), Value.int fit, Value.int fen, Value.int frd, Value.int fbd, Value.int fir])), (co, Sum.inr (4, [Value.long xx, Value.long xreadX, Value.ref soa, Value.ref sna, Value.ref swa, Value.int xkept, Value.ref ri, Value.ref ro, Value.ref rw, Value.int xasked]))] sz (fun (r : Int32) (u : Unit) => r = -3) (fun (u : Unit) => [(rc, Sum.inr (6, [Value.ref co, Value.ref ma, Value.int (nI k), Value.int fit, Value.int fen, Value.int frd, Value.int fbd, Value.int fir])), (co, Sum.inr (4, [Value.long xx, Value.long xreadX, Value.ref soa, Value.ref sna, Value.ref swa, Value.int xkept, Value.ref ri, Value.ref ro, Value.ref rw, Value.int xasked]))]) 0 0 := by
  refine my_ofI (cc := prog_1_method_14_code) (n := 2) (ret := (some .int)) (by decide) rfl (Nat.le_of_ble_eq_true rfl) ?_
  intro p e s m args below meth c R Q A ls H locs hx hb hr hts hown hlocks hml hnm hR hQ hA hl hP hK hN hD hS
  have hg : ∀ w ∈ gw, w.before args s = true := fun w h => hts w (List.mem_cons_of_mem _ h)
  have hown : s.vm.findClass "RangeCoders" = some m.cls := hown
  have hl : lv_has ls 2 [(0, Value.ref rc), (1, Value.int (nI b))] := hl
  refine lv_aload_n hx hb d_RC_getBits_0 rfl (lv_at hl 0 rfl) ?_
  refine va_get (D := (dC, dI)) (ci := 6) (v := .ref co) (C := "RangeCoders") (T := T_RC) (N := 8) hx hb hg in_RC hown hK hP 0 rfl rfl 0 (by decide) (hg _ k258) (fun _ h9 => h9) rfl d_RC_getBits_1 ?_
  refine lv_iload_n hx hb d_RC_getBits_4 rfl (lv_at hl 1 rfl) ?_
  refine my_ci (wr := [(rc, Sum.inr (6, [Value.ref co, Value.ref ma, Value.int (nI k), Value.int fit, Value.int fen, Value.int frd, Value.int fbd, Value.int fir]))]) (va_runU (As := [Value.int (nI b)]) (rest := []) ⟨hx, hb, hml, hown, hts⟩ (f_Stack_hasWidth l dC dI cI cM cO H.size co xx xreadX soa sna swa xkept ri ro rw xasked (nI b)) (va_cwU 1 hts (my_gU k543 k545 k549 k544 k3 k553) rfl rfl rfl rfl (by decide +kernel) ⟨by rw [hR]; exact Nat.le_of_ble_eq_true rfl, by rw [hR]; exact Nat.le_of_ble_eq_true rfl⟩) (my_preV hK hN (hP.sub [1] rfl) (hD.sub [1] (by decide +kernel) rfl) 0 rfl rfl) rfl rfl hl.1 rfl (lv_room (Nat.le_of_ble_eq_true rfl)) d_RC_getBits_5 ⟨by rw [hR]; exact Nat.le_of_ble_eq_true rfl, by rw [hR]; exact Nat.le_of_ble_eq_true rfl⟩) hP hD hS hA [1] [0] rfl rfl (by decide +kernel) (by decide +kernel) (fun r_5 u9 H locs hw_5 hP hD hS => ?_)
  have hr_5 : r_5 = if 1 ≤ (nI b) ∧ (nI b) ≤ nI 12 then 1 else 0 := hw_5
  have hPD : my_PD (dC, dI) vwCl A [(rc, Sum.inr (6, [Value.ref co, Value.ref ma, Value.int (nI k), Value.int fit, Value.int fen, Value.int frd, Value.int fbd, Value.int fir])), (co, Sum.inr (4, [Value.long xx, Value.long xreadX, Value.ref soa, Value.ref sna, Value.ref swa, Value.int xkept, Value.ref ri, Value.ref ro, Value.ref rw, Value.int xasked]))] H := ⟨hP, hD⟩
  have hP := hPD.1
  have hD := hPD.2
  refine lv_if_ne (tgt := 14) hx hb d_RC_getBits_8 (by decide) (fun c_1 => ?_) (fun c_1 => ?_)
  · refine lv_aload_n hx hb d_RC_getBits_14 rfl (lv_at hl 0 rfl) ?_
    refine va_get (D := (dC, dI)) (ci := 6) (v := .int frd) (C := "RangeCoders") (T := T_RC) (N := 8) hx hb hg in_RC hown hK hP 0 rfl rfl 5 (by decide) (hg _ k263) (fun _ h9 => h9) rfl d_RC_getBits_15 ?_
    refine lv_if_ne (tgt := 24) hx hb d_RC_getBits_18 (by decide) (fun c_2 => ?_) (fun c_2 => ?_)
    · exact absurd hrd c_2
    · refine lv_bipush (v := (-3)) hx hb d_RC_getBits_21 (by decide) ?_
      exact my_iret (v := (-3)) hx hb hr (rfl) hlocks hQ hK hS (Nat.le_refl _) (Nat.le_refl _) () (rfl) (hP.sub [0, 1] rfl) (hD.sub [0, 1] (by decide +kernel) rfl) d_RC_getBits_23
  · exact absurd (show 1 ≤ nI b ∧ nI b ≤ nI 12 from ⟨nI_le (a := 1) hb1 (by omega), nI_le hb2 (by decide)⟩) (one_eq hr_5 c_1)
set_option maxHeartbeats 2000000 in
set_option maxRecDepth 100000 in
theorem f_RC_gbB_Stack (l : Launch) (dC : Nat → ClassId) (dI : Nat → Nat → Nat) (cI cM cO : ClassId) (sz : Nat) (rc : Nat) (ma : Nat) (k : Nat) (fit : Int32) (fen : Int32) (frd : Int32) (fbd : Int32) (fir : Int32) (mf : Nat → Option Nat) (co : Nat) (xx : Int64) (xreadX : Int64) (soa : Nat) (sna : Nat) (swa : Nat) (xkept : Int32) (ri : Nat) (ro : Nat) (rw : Nat) (xasked : Int32) (b : Nat) (hb1 : 1 ≤ b) (hb2 : b ≤ 12) (hrd : ¬ frd = 0) (hbd : ¬ fbd = 0) : MetI l y_RC_getBits (Cond.code y_RC_getBits prog_1_method_14_code 2 (some .int) :: gw) ({ frames := 1, cells := 0, slots := 0, locals := 21 } : Room) (dC, dI) vwCl (kT cI cM cO) [Value.ref rc, Value.int (nI b)] [(rc, Sum.inr (6, [Value.ref co, Value.ref ma, Value.int (nI k), Value.int fit, Value.int fen, Value.int frd, Value.int fbd, Value.int fir])), (co, Sum.inr (4, [Value.long xx, Value.long xreadX, Value.ref soa, Value.ref sna, Value.ref swa, Value.int xkept, Value.ref ri, Value.ref ro, Value.ref rw, Value.int xasked]))] sz (fun (r : Int32) (u : Unit) => r = -5) (fun (u : Unit) => [(rc, Sum.inr (6, [Value.ref co, Value.ref ma, Value.int (nI k), Value.int fit, Value.int fen, Value.int frd, Value.int fbd, Value.int fir])), (co, Sum.inr (4, [Value.long xx, Value.long xreadX, Value.ref soa, Value.ref sna, Value.ref swa, Value.int xkept, Value.ref ri, Value.ref ro, Value.ref rw, Value.int xasked]))]) 0 0 := by
  refine my_ofI (cc := prog_1_method_14_code) (n := 2) (ret := (some .int)) (by decide) rfl (Nat.le_of_ble_eq_true rfl) ?_
  intro p e s m args below meth c R Q A ls H locs hx hb hr hts hown hlocks hml hnm hR hQ hA hl hP hK hN hD hS
  have hg : ∀ w ∈ gw, w.before args s = true := fun w h => hts w (List.mem_cons_of_mem _ h)
  have hown : s.vm.findClass "RangeCoders" = some m.cls := hown
  have hl : lv_has ls 2 [(0, Value.ref rc), (1, Value.int (nI b))] := hl
  refine lv_aload_n hx hb d_RC_getBits_0 rfl (lv_at hl 0 rfl) ?_
  refine va_get (D := (dC, dI)) (ci := 6) (v := .ref co) (C := "RangeCoders") (T := T_RC) (N := 8) hx hb hg in_RC hown hK hP 0 rfl rfl 0 (by decide) (hg _ k258) (fun _ h9 => h9) rfl d_RC_getBits_1 ?_
  refine lv_iload_n hx hb d_RC_getBits_4 rfl (lv_at hl 1 rfl) ?_
  refine my_ci (wr := [(rc, Sum.inr (6, [Value.ref co, Value.ref ma, Value.int (nI k), Value.int fit, Value.int fen, Value.int frd, Value.int fbd, Value.int fir]))]) (va_runU (As := [Value.int (nI b)]) (rest := []) ⟨hx, hb, hml, hown, hts⟩ (f_Stack_hasWidth l dC dI cI cM cO H.size co xx xreadX soa sna swa xkept ri ro rw xasked (nI b)) (va_cwU 1 hts (my_gU k543 k545 k549 k544 k3 k553) rfl rfl rfl rfl (by decide +kernel) ⟨by rw [hR]; exact Nat.le_of_ble_eq_true rfl, by rw [hR]; exact Nat.le_of_ble_eq_true rfl⟩) (my_preV hK hN (hP.sub [1] rfl) (hD.sub [1] (by decide +kernel) rfl) 0 rfl rfl) rfl rfl hl.1 rfl (lv_room (Nat.le_of_ble_eq_true rfl)) d_RC_getBits_5 ⟨by rw [hR]; exact Nat.le_of_ble_eq_true rfl, by rw [hR]; exact Nat.le_of_ble_eq_true rfl⟩) hP hD hS hA [1] [0] rfl rfl (by decide +kernel) (by decide +kernel) (fun r_5 u9 H locs hw_5 hP hD hS => ?_)
  have hr_5 : r_5 = if 1 ≤ (nI b) ∧ (nI b) ≤ nI 12 then 1 else 0 := hw_5
  have hPD : my_PD (dC, dI) vwCl A [(rc, Sum.inr (6, [Value.ref co, Value.ref ma, Value.int (nI k), Value.int fit, Value.int fen, Value.int frd, Value.int fbd, Value.int fir])), (co, Sum.inr (4, [Value.long xx, Value.long xreadX, Value.ref soa, Value.ref sna, Value.ref swa, Value.int xkept, Value.ref ri, Value.ref ro, Value.ref rw, Value.int xasked]))] H := ⟨hP, hD⟩
  have hP := hPD.1
  have hD := hPD.2
  refine lv_if_ne (tgt := 14) hx hb d_RC_getBits_8 (by decide) (fun c_1 => ?_) (fun c_1 => ?_)
  · refine lv_aload_n hx hb d_RC_getBits_14 rfl (lv_at hl 0 rfl) ?_
    refine va_get (D := (dC, dI)) (ci := 6) (v := .int frd) (C := "RangeCoders") (T := T_RC) (N := 8) hx hb hg in_RC hown hK hP 0 rfl rfl 5 (by decide) (hg _ k263) (fun _ h9 => h9) rfl d_RC_getBits_15 ?_
    refine lv_if_ne (tgt := 24) hx hb d_RC_getBits_18 (by decide) (fun c_2 => ?_) (fun c_2 => ?_)
    · refine lv_aload_n hx hb d_RC_getBits_24 rfl (lv_at hl 0 rfl) ?_
      refine va_get (D := (dC, dI)) (ci := 6) (v := .int fbd) (C := "RangeCoders") (T := T_RC) (N := 8) hx hb hg in_RC hown hK hP 0 rfl rfl 6 (by decide) (hg _ k264) (fun _ h9 => h9) rfl d_RC_getBits_25 ?_
      refine lv_if_eq (tgt := 36) hx hb d_RC_getBits_28 (by decide) (fun c_3 => ?_) (fun c_3 => ?_)
      · exact absurd c_3 hbd
      · refine lv_bipush (v := (-5)) hx hb d_RC_getBits_31 (by decide) ?_
        refine lv_goto (tgt := 48) hx hb d_RC_getBits_33 (by decide) ?_
        exact my_iret (v := (-5)) hx hb hr (rfl) hlocks hQ hK hS (Nat.le_refl _) (Nat.le_refl _) () (rfl) (hP.sub [0, 1] rfl) (hD.sub [0, 1] (by decide +kernel) rfl) d_RC_getBits_48
    · exact absurd c_2 hrd
  · exact absurd (show 1 ≤ nI b ∧ nI b ≤ nI 12 from ⟨nI_le (a := 1) hb1 (by omega), nI_le hb2 (by decide)⟩) (one_eq hr_5 c_1)
set_option maxHeartbeats 2000000 in
set_option maxRecDepth 100000 in
theorem f_RC_gbL_Stack (l : Launch) (dC : Nat → ClassId) (dI : Nat → Nat → Nat) (cI cM cO : ClassId) (sz : Nat) (rc : Nat) (ma : Nat) (k : Nat) (fit : Int32) (fen : Int32) (frd : Int32) (fir : Int32) (mf : Nat → Option Nat) (co : Nat) (xx : Int64) (soa : Nat) (sna : Nat) (swa : Nat) (xkept : Int32) (ri : Nat) (ro : Nat) (rw : Nat) (ria : Nat) (rik : Nat) (rif : Nat → Int32) (is : List Nat) (X : Nat) (q : Nat) (b : Nat) (hb1 : 1 ≤ b) (hb2 : b ≤ 12) (hrd : ¬ frd = 0) (hri : rOk (nI is.length) rik) (hGri : gIs rif is) (hLri : is.length ≤ 6000) (hoct : oct is) (hX : X < 4294967296) (hq : q < 900000000) (hsv9 : X % 4096 / (4096 / 2 ^ b) < 2147483648) : MetI l y_RC_getBits (Cond.code y_RC_getBits prog_1_method_14_code 2 (some .int) :: gw) ({ frames := 5, cells := 0, slots := 0, locals := 109 } : Room) (dC, dI) vwCl (kT cI cM cO) [Value.ref rc, Value.int (nI b)] [(rc, Sum.inr (6, [Value.ref co, Value.ref ma, Value.int (nI k), Value.int fit, Value.int fen, Value.int frd, Value.int 0, Value.int fir])), (co, Sum.inr (4, [Value.long xx, Value.long (lN X), Value.ref soa, Value.ref sna, Value.ref swa, Value.int xkept, Value.ref ri, Value.ref ro, Value.ref rw, Value.int (nI q)])), (ri, Sum.inr (0, [Value.int (nI is.length), Value.ref ria])), (ria, Sum.inl (cI, rik, Sum.inl rif))] sz (fun (r : Int32) (u : Unit) => r = nI (X % 4096 / (4096 / 2 ^ b))) (fun (u : Unit) => [(rc, Sum.inr (6, [Value.ref co, Value.ref ma, Value.int (nI k), Value.int fit, Value.int fen, Value.int frd, Value.int 0, Value.int (fir + 1)])), (co, Sum.inr (4, [Value.long xx, Value.long (lN (rfS is (X / 4096 * (4096 / 2 ^ b) + X % 4096 % (4096 / 2 ^ b), q)).1), Value.ref soa, Value.ref sna, Value.ref swa, Value.int xkept, Value.ref ri, Value.ref ro, Value.ref rw, Value.int (nI (rfS is (X / 4096 * (4096 / 2 ^ b) + X % 4096 % (4096 / 2 ^ b), q)).2)])), (ri, Sum.inr (0, [Value.int (nI is.length), Value.ref ria])), (ria, Sum.inl (cI, rik, Sum.inl rif))]) 0 0 := by
  refine my_ofI (cc := prog_1_method_14_code) (n := 2) (ret := (some .int)) (by decide) rfl (Nat.le_of_ble_eq_true rfl) ?_
  intro p e s m args below meth c R Q A ls H locs hx hb hr hts hown hlocks hml hnm hR hQ hA hl hP hK hN hD hS
  have hg : ∀ w ∈ gw, w.before args s = true := fun w h => hts w (List.mem_cons_of_mem _ h)
  have hown : s.vm.findClass "RangeCoders" = some m.cls := hown
  have hl : lv_has ls 2 [(0, Value.ref rc), (1, Value.int (nI b))] := hl
  refine lv_aload_n hx hb d_RC_getBits_0 rfl (lv_at hl 0 rfl) ?_
  refine va_get (D := (dC, dI)) (ci := 6) (v := .ref co) (C := "RangeCoders") (T := T_RC) (N := 8) hx hb hg in_RC hown hK hP 0 rfl rfl 0 (by decide) (hg _ k258) (fun _ h9 => h9) rfl d_RC_getBits_1 ?_
  refine lv_iload_n hx hb d_RC_getBits_4 rfl (lv_at hl 1 rfl) ?_
  refine my_ci (wr := [(rc, Sum.inr (6, [Value.ref co, Value.ref ma, Value.int (nI k), Value.int fit, Value.int fen, Value.int frd, Value.int 0, Value.int fir])), (ri, Sum.inr (0, [Value.int (nI is.length), Value.ref ria])), (ria, Sum.inl (cI, rik, Sum.inl rif))]) (va_runU (As := [Value.int (nI b)]) (rest := []) ⟨hx, hb, hml, hown, hts⟩ (f_Stack_hasWidth l dC dI cI cM cO H.size co xx (lN X) soa sna swa xkept ri ro rw (nI q) (nI b)) (va_cwU 1 hts (my_gU k543 k545 k549 k544 k3 k553) rfl rfl rfl rfl (by decide +kernel) ⟨by rw [hR]; exact Nat.le_of_ble_eq_true rfl, by rw [hR]; exact Nat.le_of_ble_eq_true rfl⟩) (my_preV hK hN (hP.sub [1] rfl) (hD.sub [1] (by decide +kernel) rfl) 0 rfl rfl) rfl rfl hl.1 rfl (lv_room (Nat.le_of_ble_eq_true rfl)) d_RC_getBits_5 ⟨by rw [hR]; exact Nat.le_of_ble_eq_true rfl, by rw [hR]; exact Nat.le_of_ble_eq_true rfl⟩) hP hD hS hA [1] [0, 2, 3] rfl rfl (by decide +kernel) (by decide +kernel) (fun r_5 u9 H locs hw_5 hP hD hS => ?_)
  have hr_5 : r_5 = if 1 ≤ (nI b) ∧ (nI b) ≤ nI 12 then 1 else 0 := hw_5
  have hPD : my_PD (dC, dI) vwCl A [(rc, Sum.inr (6, [Value.ref co, Value.ref ma, Value.int (nI k), Value.int fit, Value.int fen, Value.int frd, Value.int 0, Value.int fir])), (ri, Sum.inr (0, [Value.int (nI is.length), Value.ref ria])), (ria, Sum.inl (cI, rik, Sum.inl rif)), (co, Sum.inr (4, [Value.long xx, Value.long (lN X), Value.ref soa, Value.ref sna, Value.ref swa, Value.int xkept, Value.ref ri, Value.ref ro, Value.ref rw, Value.int (nI q)]))] H := ⟨hP, hD⟩
  have hP := hPD.1
  have hD := hPD.2
  refine lv_if_ne (tgt := 14) hx hb d_RC_getBits_8 (by decide) (fun c_1 => ?_) (fun c_1 => ?_)
  · refine lv_aload_n hx hb d_RC_getBits_14 rfl (lv_at hl 0 rfl) ?_
    refine va_get (D := (dC, dI)) (ci := 6) (v := .int frd) (C := "RangeCoders") (T := T_RC) (N := 8) hx hb hg in_RC hown hK hP 0 rfl rfl 5 (by decide) (hg _ k263) (fun _ h9 => h9) rfl d_RC_getBits_15 ?_
    refine lv_if_ne (tgt := 24) hx hb d_RC_getBits_18 (by decide) (fun c_2 => ?_) (fun c_2 => ?_)
    · refine lv_aload_n hx hb d_RC_getBits_24 rfl (lv_at hl 0 rfl) ?_
      refine va_get (D := (dC, dI)) (ci := 6) (v := .int 0) (C := "RangeCoders") (T := T_RC) (N := 8) hx hb hg in_RC hown hK hP 0 rfl rfl 6 (by decide) (hg _ k264) (fun _ h9 => h9) rfl d_RC_getBits_25 ?_
      refine lv_if_eq (tgt := 36) hx hb d_RC_getBits_28 (by decide) (fun c_3 => ?_) (fun c_3 => ?_)
      · refine lv_aload_n hx hb d_RC_getBits_36 rfl (lv_at hl 0 rfl) ?_
        refine lv_aload_n hx hb d_RC_getBits_37 rfl (lv_at hl 0 rfl) ?_
        refine va_get (D := (dC, dI)) (ci := 6) (v := .ref co) (C := "RangeCoders") (T := T_RC) (N := 8) hx hb hg in_RC hown hK hP 0 rfl rfl 0 (by decide) (hg _ k258) (fun _ h9 => h9) rfl d_RC_getBits_38 ?_
        refine lv_iload_n hx hb d_RC_getBits_41 rfl (lv_at hl 1 rfl) ?_
        refine my_ci (wr := [(rc, Sum.inr (6, [Value.ref co, Value.ref ma, Value.int (nI k), Value.int fit, Value.int fen, Value.int frd, Value.int 0, Value.int fir]))]) (va_runU (As := [Value.int (nI b)]) (rest := [Value.ref rc]) ⟨hx, hb, hml, hown, hts⟩ (f_Stack_nextValue l dC dI cI cM cO H.size co xx soa sna swa xkept ri ro rw ria rik rif is X q b (by first | assumption | omega) (by first | assumption | omega) (by first | assumption | omega) (by first | assumption | omega) (hb1) (by omega) (by first | assumption | omega) (by first | assumption | omega)) (va_cwA 1 hts (my_gU k862 k864 k872 k873 k10 k874) rfl rfl rfl (hN.1 _ j863 rfl) (by decide +kernel) ⟨by rw [hR]; exact Nat.le_of_ble_eq_true rfl, by rw [hR]; exact Nat.le_of_ble_eq_true rfl⟩) (my_preV hK hN (hP.sub [3, 1, 2] rfl) (hD.sub [3, 1, 2] (by decide +kernel) rfl) 0 rfl rfl) rfl rfl hl.1 rfl (lv_room (Nat.le_of_ble_eq_true rfl)) d_RC_getBits_42 ⟨by rw [hR]; exact Nat.le_of_ble_eq_true rfl, by rw [hR]; exact Nat.le_of_ble_eq_true rfl⟩) hP hD hS hA [3, 1, 2] [0] rfl rfl (by decide +kernel) (by decide +kernel) (fun r_42 u9 H locs hw_42 hP hD hS => ?_)
        have hr_42 : r_42 = nI (X % 4096 / (4096 / 2 ^ b)) := hw_42
        have hPD : my_PD (dC, dI) vwCl A [(rc, Sum.inr (6, [Value.ref co, Value.ref ma, Value.int (nI k), Value.int fit, Value.int fen, Value.int frd, Value.int 0, Value.int fir])), (co, Sum.inr (4, [Value.long xx, Value.long (lN (rfS is (X / 4096 * (4096 / 2 ^ b) + X % 4096 % (4096 / 2 ^ b), q)).1), Value.ref soa, Value.ref sna, Value.ref swa, Value.int xkept, Value.ref ri, Value.ref ro, Value.ref rw, Value.int (nI (rfS is (X / 4096 * (4096 / 2 ^ b) + X % 4096 % (4096 / 2 ^ b), q)).2)])), (ri, Sum.inr (0, [Value.int (nI is.length), Value.ref ria])), (ria, Sum.inl (cI, rik, Sum.inl rif))] H := ⟨hP, hD⟩
        have hP := hPD.1
        have hD := hPD.2
        have z9 : r_42 = nI (X % 4096 / (4096 / 2 ^ b)) := hr_42
        subst z9
        refine my_ci (wr := [(co, Sum.inr (4, [Value.long xx, Value.long (lN (rfS is (X / 4096 * (4096 / 2 ^ b) + X % 4096 % (4096 / 2 ^ b), q)).1), Value.ref soa, Value.ref sna, Value.ref swa, Value.int xkept, Value.ref ri, Value.ref ro, Value.ref rw, Value.int (nI (rfS is (X / 4096 * (4096 / 2 ^ b) + X % 4096 % (4096 / 2 ^ b), q)).2)])), (ri, Sum.inr (0, [Value.int (nI is.length), Value.ref ria])), (ria, Sum.inl (cI, rik, Sum.inl rif))]) (va_runV (As := [Value.int (nI (X % 4096 / (4096 / 2 ^ b)))]) (rest := []) ⟨hx, hb, hml, hown, hts⟩ (f_RC_itemOk l dC dI cI cM cO H.size rc ma k fit fen frd 0 fir mf co (X % 4096 / (4096 / 2 ^ b)) (by first | assumption | omega)) (cwV 1 hts (my_gV k854 k856 ks17 k1 k857) rfl rfl rfl cu_RC_itemOrBad_1 ⟨by rw [hR]; exact Nat.le_of_ble_eq_true rfl, by rw [hR]; exact Nat.le_of_ble_eq_true rfl⟩) (my_preV hK hN (hP.sub [0] rfl) (hD.sub [0] (by decide +kernel) rfl) 0 rfl rfl) rfl rfl hl.1 rfl (lv_room (Nat.le_of_ble_eq_true rfl)) d_RC_getBits_45 ⟨by rw [hR]; exact Nat.le_of_ble_eq_true rfl, by rw [hR]; exact Nat.le_of_ble_eq_true rfl⟩) hP hD hS hA [0] [1, 2, 3] rfl rfl (by decide +kernel) (by decide +kernel) (fun r_45 u9 H locs hw_45 hP hD hS => ?_)
        have hr_45 : r_45 = nI (X % 4096 / (4096 / 2 ^ b)) := hw_45
        have hPD : my_PD (dC, dI) vwCl A [(co, Sum.inr (4, [Value.long xx, Value.long (lN (rfS is (X / 4096 * (4096 / 2 ^ b) + X % 4096 % (4096 / 2 ^ b), q)).1), Value.ref soa, Value.ref sna, Value.ref swa, Value.int xkept, Value.ref ri, Value.ref ro, Value.ref rw, Value.int (nI (rfS is (X / 4096 * (4096 / 2 ^ b) + X % 4096 % (4096 / 2 ^ b), q)).2)])), (ri, Sum.inr (0, [Value.int (nI is.length), Value.ref ria])), (ria, Sum.inl (cI, rik, Sum.inl rif)), (rc, Sum.inr (6, [Value.ref co, Value.ref ma, Value.int (nI k), Value.int fit, Value.int fen, Value.int frd, Value.int 0, Value.int (fir + 1)]))] H := ⟨hP, hD⟩
        have hP := hPD.1
        have hD := hPD.2
        exact my_iret (v := r_45) hx hb hr (rfl) hlocks hQ hK hS (Nat.le_refl _) (Nat.le_refl _) () (hr_45) (hP.sub [3, 0, 1, 2] rfl) (hD.sub [3, 0, 1, 2] (by decide +kernel) rfl) d_RC_getBits_48
      · exact absurd (by decide) c_3
    · exact absurd c_2 hrd
  · exact absurd (show 1 ≤ nI b ∧ nI b ≤ nI 12 from ⟨nI_le (a := 1) hb1 (by omega), nI_le hb2 (by decide)⟩) (one_eq hr_5 c_1)
end
section
set_option maxHeartbeats 2000000 in
set_option maxRecDepth 100000 in
theorem f_RC_getL_Table (l : Launch) (dC : Nat → ClassId) (dI : Nat → Nat → Nat) (cI cM cO : ClassId) (sz : Nat) (rc : Nat) (ma : Nat) (k : Nat) (fit : Int32) (fen : Int32) (frd : Int32) (fir : Int32) (mf : Nat → Option Nat) (j : Nat) (mo : Nat) (co : Nat) (ka : Nat) (o1 : Nat) (xx : Int64) (soa : Nat) (sna : Nat) (swa : Nat) (xkept : Int32) (ri : Nat) (ro : Nat) (rw : Nat) (ria : Nat) (rik : Nat) (rif : Nat → Int32) (is : List Nat) (X : Nat) (t : Nat) (oo : Nat) (osg : Int32) (ofc : Int32) (oca : Nat) (opa : Nat) (n : Nat) (ocf : Nat → Int32) (opf : Nat → Int32) (F : Nat → Nat) (s9 : Nat) (hk8 : k ≤ 8) (hj : j < k) (hmf : mf j = some mo) (hrd : ¬ frd = 0) (hri : rOk (nI is.length) rik) (hGri : gIs rif is) (hLri : is.length ≤ 6000) (hoct : oct is) (hn : n ≤ 64) (hf : tbI ocf n F) (hfc0 : ofc = 0) (hsum : ns F n = 512) (hop : tbI opf 512 (plc F n)) (hX0 : 512 ≤ X) (hX1 : X < 1024) (ht : t < 900000000) (hG : (gt4 is n F X t).1 = some s9) (hsv9 : s9 < 2147483648) : MetI l y_RC_get (Cond.code y_RC_get prog_1_method_13_code 3 (some .int) :: gw) ({ frames := 4, cells := 0, slots := 0, locals := 88 } : Room) (dC, dI) vwCl (kT cI cM cO) [Value.ref rc, Value.int (nI j)] [(rc, Sum.inr (6, [Value.ref co, Value.ref ma, Value.int (nI k), Value.int fit, Value.int fen, Value.int frd, Value.int 0, Value.int fir])), (ma, Sum.inl (cM, 8, Sum.inr (Sum.inr (Sum.inr (Sum.inr mf))))), (mo, Sum.inr (8, [Value.ref ka, Value.ref o1, Value.ref oo])), (co, Sum.inr (5, [Value.long xx, Value.long (lN X), Value.ref soa, Value.ref sna, Value.ref swa, Value.int xkept, Value.ref ri, Value.ref ro, Value.ref rw, Value.int (nI t)])), (ri, Sum.inr (0, [Value.int (nI is.length), Value.ref ria])), (ria, Sum.inl (cI, rik, Sum.inl rif)), (oo, Sum.inr (7, [Value.int osg, Value.int (nI (ns F n)), Value.int ofc, Value.ref oca, Value.ref opa])), (oca, Sum.inl (cI, n, Sum.inl ocf)), (opa, Sum.inl (cI, 512, Sum.inl opf))] sz (fun (r : Int32) (u : Unit) => r = nI s9) (fun (u : Unit) => [(rc, Sum.inr (6, [Value.ref co, Value.ref ma, Value.int (nI k), Value.int fit, Value.int fen, Value.int frd, Value.int 0, Value.int (fir + 1)])), (ma, Sum.inl (cM, 8, Sum.inr (Sum.inr (Sum.inr (Sum.inr mf))))), (mo, Sum.inr (8, [Value.ref ka, Value.ref o1, Value.ref oo])), (co, Sum.inr (5, [Value.long xx, Value.long (lN (gt4 is n F X t).2.1), Value.ref soa, Value.ref sna, Value.ref swa, Value.int xkept, Value.ref ri, Value.ref ro, Value.ref rw, Value.int (nI (gt4 is n F X t).2.2)])), (ri, Sum.inr (0, [Value.int (nI is.length), Value.ref ria])), (ria, Sum.inl (cI, rik, Sum.inl rif)), (oo, Sum.inr (7, [Value.int osg, Value.int (nI (ns F n)), Value.int ofc, Value.ref oca, Value.ref opa])), (oca, Sum.inl (cI, n, Sum.inl ocf)), (opa, Sum.inl (cI, 512, Sum.inl opf))]) 0 0 := by
  refine my_ofI (cc := prog_1_method_13_code) (n := 3) (ret := (some .int)) (by decide) rfl (Nat.le_of_ble_eq_true rfl) ?_
  intro p e s m args below meth c R Q A ls H locs hx hb hr hts hown hlocks hml hnm hR hQ hA hl hP hK hN hD hS
  have hg : ∀ w ∈ gw, w.before args s = true := fun w h => hts w (List.mem_cons_of_mem _ h)
  have hown : s.vm.findClass "RangeCoders" = some m.cls := hown
  have hl : lv_has ls 3 [(0, Value.ref rc), (1, Value.int (nI j))] := hl
  refine lv_aload_n hx hb d_RC_get_0 rfl (lv_at hl 0 rfl) ?_
  refine lv_iload_n hx hb d_RC_get_1 rfl (lv_at hl 1 rfl) ?_
  refine my_cq (wr := [(mo, Sum.inr (8, [Value.ref ka, Value.ref o1, Value.ref oo])), (co, Sum.inr (5, [Value.long xx, Value.long (lN X), Value.ref soa, Value.ref sna, Value.ref swa, Value.int xkept, Value.ref ri, Value.ref ro, Value.ref rw, Value.int (nI t)])), (ri, Sum.inr (0, [Value.int (nI is.length), Value.ref ria])), (ria, Sum.inl (cI, rik, Sum.inl rif)), (oo, Sum.inr (7, [Value.int osg, Value.int (nI (ns F n)), Value.int ofc, Value.ref oca, Value.ref opa])), (oca, Sum.inl (cI, n, Sum.inl ocf)), (opa, Sum.inl (cI, 512, Sum.inl opf))]) (va_runV (As := [Value.int (nI j)]) (rest := []) ⟨hx, hb, hml, hown, hts⟩ (c_RC_modelAtB l dC dI cI cM cO H.size rc ma k fit fen frd 0 fir mf co j mo (by first | assumption | omega) (by first | assumption | omega) (by first | assumption | omega)) (cwV 1 hts (my_gV k412 k414 ks3 k1 k415) rfl rfl rfl cu_RC_modelAt_1 ⟨by rw [hR]; exact Nat.le_of_ble_eq_true rfl, by rw [hR]; exact Nat.le_of_ble_eq_true rfl⟩) (my_preV hK hN (hP.sub [0, 1] rfl) (hD.sub [0, 1] (by decide +kernel) rfl) 0 rfl rfl) rfl rfl hl.1 rfl (lv_room (Nat.le_of_ble_eq_true rfl)) d_RC_get_2 ⟨by rw [hR]; exact Nat.le_of_ble_eq_true rfl, by rw [hR]; exact Nat.le_of_ble_eq_true rfl⟩) hP hD hS hA [0, 1] [2, 3, 4, 5, 6, 7, 8] rfl rfl (by decide +kernel) (by decide +kernel) (fun r_2 u9 H locs hw_2 hP hD hS => ?_)
  have hr_2 : r_2 = some mo := hw_2
  have hPD : my_PD (dC, dI) vwCl A [(mo, Sum.inr (8, [Value.ref ka, Value.ref o1, Value.ref oo])), (co, Sum.inr (5, [Value.long xx, Value.long (lN X), Value.ref soa, Value.ref sna, Value.ref swa, Value.int xkept, Value.ref ri, Value.ref ro, Value.ref rw, Value.int (nI t)])), (ri, Sum.inr (0, [Value.int (nI is.length), Value.ref ria])), (ria, Sum.inl (cI, rik, Sum.inl rif)), (oo, Sum.inr (7, [Value.int osg, Value.int (nI (ns F n)), Value.int ofc, Value.ref oca, Value.ref opa])), (oca, Sum.inl (cI, n, Sum.inl ocf)), (opa, Sum.inl (cI, 512, Sum.inl opf)), (rc, Sum.inr (6, [Value.ref co, Value.ref ma, Value.int (nI k), Value.int fit, Value.int fen, Value.int frd, Value.int 0, Value.int fir])), (ma, Sum.inl (cM, 8, Sum.inr (Sum.inr (Sum.inr (Sum.inr mf)))))] H := ⟨hP, hD⟩
  have hP := hPD.1
  have hD := hPD.2
  subst hr_2
  refine W.eq (g2 := F0 m 5 ls [Value.ref mo]) rfl ?_
  refine lv_astore_n (lv' := [(2, Value.ref mo), (0, Value.ref rc), (1, Value.int (nI j))]) hx hb d_RC_get_5 rfl hl (by decide) rfl (fun ls hl => ?_)
  refine lv_aload_n hx hb d_RC_get_6 rfl (lv_at hl 0 rfl) ?_
  refine lv_ifnonnull (tgt := 12) hx hb d_RC_get_7 (by decide) ?_
  refine lv_aload_n hx hb d_RC_get_12 rfl (lv_at hl 1 rfl) ?_
  refine va_get (D := (dC, dI)) (ci := 6) (v := .int frd) (C := "RangeCoders") (T := T_RC) (N := 8) hx hb hg in_RC hown hK hP 7 rfl rfl 5 (by decide) (hg _ k263) (fun _ h9 => h9) rfl d_RC_get_13 ?_
  refine lv_if_ne (tgt := 22) hx hb d_RC_get_16 (by decide) (fun c_1 => ?_) (fun c_1 => ?_)
  · refine lv_aload_n hx hb d_RC_get_22 rfl (lv_at hl 1 rfl) ?_
    refine va_get (D := (dC, dI)) (ci := 6) (v := .int 0) (C := "RangeCoders") (T := T_RC) (N := 8) hx hb hg in_RC hown hK hP 7 rfl rfl 6 (by decide) (hg _ k264) (fun _ h9 => h9) rfl d_RC_get_23 ?_
    refine lv_if_eq (tgt := 34) hx hb d_RC_get_26 (by decide) (fun c_2 => ?_) (fun c_2 => ?_)
    · refine lv_aload_n hx hb d_RC_get_34 rfl (lv_at hl 1 rfl) ?_
      refine lv_aload_n hx hb d_RC_get_35 rfl (lv_at hl 1 rfl) ?_
      refine va_get (D := (dC, dI)) (ci := 6) (v := .ref co) (C := "RangeCoders") (T := T_RC) (N := 8) hx hb hg in_RC hown hK hP 7 rfl rfl 0 (by decide) (hg _ k258) (fun _ h9 => h9) rfl d_RC_get_36 ?_
      refine lv_aload_n hx hb d_RC_get_39 rfl (lv_at hl 0 rfl) ?_
      refine va_get (D := (dC, dI)) (ci := 8) (v := .ref oo) (C := "RangeCoders$Model") (T := T_Model) (N := 3) hx hb hg in_Model hown hK hP 0 rfl rfl 2 (by decide) (hg _ k345) (fun _ h9 => h9) rfl d_RC_get_40 ?_
      refine my_ci (wr := [(mo, Sum.inr (8, [Value.ref ka, Value.ref o1, Value.ref oo])), (rc, Sum.inr (6, [Value.ref co, Value.ref ma, Value.int (nI k), Value.int fit, Value.int fen, Value.int frd, Value.int 0, Value.int fir])), (ma, Sum.inl (cM, 8, Sum.inr (Sum.inr (Sum.inr (Sum.inr mf)))))]) (va_runU (As := [Value.ref oo]) (rest := [Value.ref rc]) ⟨hx, hb, hml, hown, hts⟩ (f_Table_nextSign l dC dI cI cM cO H.size co xx soa sna swa xkept ri ro rw ria rik rif is X t oo osg ofc oca opa n ocf opf F (by first | assumption | omega) (by first | assumption | omega) (by first | assumption | omega) (by first | assumption | omega) (by first | assumption | omega) (by first | assumption | omega) (by first | assumption | omega) (by first | assumption | omega) (by first | assumption | omega) (by first | assumption | omega) (by first | assumption | omega) (by first | assumption | omega)) (va_cwA 1 hts (my_gU k775 k777 k842 k843 k11 k844) rfl rfl rfl (hN.1 _ j776 rfl) (by decide +kernel) ⟨by rw [hR]; exact Nat.le_of_ble_eq_true rfl, by rw [hR]; exact Nat.le_of_ble_eq_true rfl⟩) (my_preV hK hN (hP.sub [1, 2, 3, 4, 5, 6] rfl) (hD.sub [1, 2, 3, 4, 5, 6] (by decide +kernel) rfl) 0 rfl rfl) rfl rfl hl.1 rfl (lv_room (Nat.le_of_ble_eq_true rfl)) d_RC_get_43 ⟨by rw [hR]; exact Nat.le_of_ble_eq_true rfl, by rw [hR]; exact Nat.le_of_ble_eq_true rfl⟩) hP hD hS hA [1, 2, 3, 4, 5, 6] [0, 7, 8] rfl rfl (by decide +kernel) (by decide +kernel) (fun r_43 u9 H locs hw_43 hP hD hS => ?_)
      have hr_43 : r_43 = oI (gt4 is n F X t).1 := hw_43
      have hPD : my_PD (dC, dI) vwCl A [(mo, Sum.inr (8, [Value.ref ka, Value.ref o1, Value.ref oo])), (rc, Sum.inr (6, [Value.ref co, Value.ref ma, Value.int (nI k), Value.int fit, Value.int fen, Value.int frd, Value.int 0, Value.int fir])), (ma, Sum.inl (cM, 8, Sum.inr (Sum.inr (Sum.inr (Sum.inr mf))))), (co, Sum.inr (5, [Value.long xx, Value.long (lN (gt4 is n F X t).2.1), Value.ref soa, Value.ref sna, Value.ref swa, Value.int xkept, Value.ref ri, Value.ref ro, Value.ref rw, Value.int (nI (gt4 is n F X t).2.2)])), (ri, Sum.inr (0, [Value.int (nI is.length), Value.ref ria])), (ria, Sum.inl (cI, rik, Sum.inl rif)), (oo, Sum.inr (7, [Value.int osg, Value.int (nI (ns F n)), Value.int ofc, Value.ref oca, Value.ref opa])), (oca, Sum.inl (cI, n, Sum.inl ocf)), (opa, Sum.inl (cI, 512, Sum.inl opf))] H := ⟨hP, hD⟩
      have hP := hPD.1
      have hD := hPD.2
      have z9 : r_43 = nI s9 := by rw [hr_43, hG]; rfl
      subst z9
      refine my_ci (wr := [(mo, Sum.inr (8, [Value.ref ka, Value.ref o1, Value.ref oo])), (ma, Sum.inl (cM, 8, Sum.inr (Sum.inr (Sum.inr (Sum.inr mf))))), (co, Sum.inr (5, [Value.long xx, Value.long (lN (gt4 is n F X t).2.1), Value.ref soa, Value.ref sna, Value.ref swa, Value.int xkept, Value.ref ri, Value.ref ro, Value.ref rw, Value.int (nI (gt4 is n F X t).2.2)])), (ri, Sum.inr (0, [Value.int (nI is.length), Value.ref ria])), (ria, Sum.inl (cI, rik, Sum.inl rif)), (oo, Sum.inr (7, [Value.int osg, Value.int (nI (ns F n)), Value.int ofc, Value.ref oca, Value.ref opa])), (oca, Sum.inl (cI, n, Sum.inl ocf)), (opa, Sum.inl (cI, 512, Sum.inl opf))]) (va_runV (As := [Value.int (nI s9)]) (rest := []) ⟨hx, hb, hml, hown, hts⟩ (f_RC_itemOk l dC dI cI cM cO H.size rc ma k fit fen frd 0 fir mf co s9 (by first | assumption | omega)) (cwV 1 hts (my_gV k854 k856 ks17 k1 k857) rfl rfl rfl cu_RC_itemOrBad_1 ⟨by rw [hR]; exact Nat.le_of_ble_eq_true rfl, by rw [hR]; exact Nat.le_of_ble_eq_true rfl⟩) (my_preV hK hN (hP.sub [1] rfl) (hD.sub [1] (by decide +kernel) rfl) 0 rfl rfl) rfl rfl hl.1 rfl (lv_room (Nat.le_of_ble_eq_true rfl)) d_RC_get_46 ⟨by rw [hR]; exact Nat.le_of_ble_eq_true rfl, by rw [hR]; exact Nat.le_of_ble_eq_true rfl⟩) hP hD hS hA [1] [0, 2, 3, 4, 5, 6, 7, 8] rfl rfl (by decide +kernel) (by decide +kernel) (fun r_46 u9 H locs hw_46 hP hD hS => ?_)
      have hr_46 : r_46 = nI s9 := hw_46
      have hPD : my_PD (dC, dI) vwCl A [(mo, Sum.inr (8, [Value.ref ka, Value.ref o1, Value.ref oo])), (ma, Sum.inl (cM, 8, Sum.inr (Sum.inr (Sum.inr (Sum.inr mf))))), (co, Sum.inr (5, [Value.long xx, Value.long (lN (gt4 is n F X t).2.1), Value.ref soa, Value.ref sna, Value.ref swa, Value.int xkept, Value.ref ri, Value.ref ro, Value.ref rw, Value.int (nI (gt4 is n F X t).2.2)])), (ri, Sum.inr (0, [Value.int (nI is.length), Value.ref ria])), (ria, Sum.inl (cI, rik, Sum.inl rif)), (oo, Sum.inr (7, [Value.int osg, Value.int (nI (ns F n)), Value.int ofc, Value.ref oca, Value.ref opa])), (oca, Sum.inl (cI, n, Sum.inl ocf)), (opa, Sum.inl (cI, 512, Sum.inl opf)), (rc, Sum.inr (6, [Value.ref co, Value.ref ma, Value.int (nI k), Value.int fit, Value.int fen, Value.int frd, Value.int 0, Value.int (fir + 1)]))] H := ⟨hP, hD⟩
      have hP := hPD.1
      have hD := hPD.2
      exact my_iret (v := r_46) hx hb hr (rfl) hlocks hQ hK hS (Nat.le_refl _) (Nat.le_refl _) () (hr_46) (hP.sub [8, 1, 0, 2, 3, 4, 5, 6, 7] rfl) (hD.sub [8, 1, 0, 2, 3, 4, 5, 6, 7] (by decide +kernel) rfl) d_RC_get_49
    · exact absurd (by decide) c_2
  · exact absurd c_1 hrd
set_option maxHeartbeats 2000000 in
set_option maxRecDepth 100000 in
theorem f_RC_getX_Table (l : Launch) (dC : Nat → ClassId) (dI : Nat → Nat → Nat) (cI cM cO : ClassId) (sz : Nat) (rc : Nat) (ma : Nat) (k : Nat) (fit : Int32) (fen : Int32) (frd : Int32) (fir : Int32) (mf : Nat → Option Nat) (j : Nat) (mo : Nat) (co : Nat) (ka : Nat) (o1 : Nat) (xx : Int64) (xreadX : Int64) (soa : Nat) (sna : Nat) (swa : Nat) (xkept : Int32) (ri : Nat) (ro : Nat) (rw : Nat) (xasked : Int32) (oo : Nat) (osg : Int32) (ofc : Int32) (oca : Nat) (opa : Nat) (n : Nat) (ocf : Nat → Int32) (opl : Nat) (opf : Nat → Int32) (osm : Int32) (hk8 : k ≤ 8) (hj : j < k) (hmf : mf j = some mo) (hrd : ¬ frd = 0) (hz : osm = 0) : MetI l y_RC_get (Cond.code y_RC_get prog_1_method_13_code 3 (some .int) :: gw) ({ frames := 1, cells := 0, slots := 0, locals := 24 } : Room) (dC, dI) vwCl (kT cI cM cO) [Value.ref rc, Value.int (nI j)] [(rc, Sum.inr (6, [Value.ref co, Value.ref ma, Value.int (nI k), Value.int fit, Value.int fen, Value.int frd, Value.int 0, Value.int fir])), (ma, Sum.inl (cM, 8, Sum.inr (Sum.inr (Sum.inr (Sum.inr mf))))), (mo, Sum.inr (8, [Value.ref ka, Value.ref o1, Value.ref oo])), (co, Sum.inr (5, [Value.long xx, Value.long xreadX, Value.ref soa, Value.ref sna, Value.ref swa, Value.int xkept, Value.ref ri, Value.ref ro, Value.ref rw, Value.int xasked])), (oo, Sum.inr (7, [Value.int osg, Value.int osm, Value.int ofc, Value.ref oca, Value.ref opa])), (oca, Sum.inl (cI, n, Sum.inl ocf)), (opa, Sum.inl (cI, opl, Sum.inl opf))] sz (fun (r : Int32) (u : Unit) => r = -5) (fun (u : Unit) => [(rc, Sum.inr (6, [Value.ref co, Value.ref ma, Value.int (nI k), Value.int fit, Value.int fen, Value.int frd, Value.int 1, Value.int fir])), (ma, Sum.inl (cM, 8, Sum.inr (Sum.inr (Sum.inr (Sum.inr mf))))), (mo, Sum.inr (8, [Value.ref ka, Value.ref o1, Value.ref oo])), (co, Sum.inr (5, [Value.long xx, Value.long xreadX, Value.ref soa, Value.ref sna, Value.ref swa, Value.int xkept, Value.ref ri, Value.ref ro, Value.ref rw, Value.int xasked])), (oo, Sum.inr (7, [Value.int osg, Value.int osm, Value.int ofc, Value.ref oca, Value.ref opa])), (oca, Sum.inl (cI, n, Sum.inl ocf)), (opa, Sum.inl (cI, opl, Sum.inl opf))]) 0 0 := by
  refine my_ofI (cc := prog_1_method_13_code) (n := 3) (ret := (some .int)) (by decide) rfl (Nat.le_of_ble_eq_true rfl) ?_
  intro p e s m args below meth c R Q A ls H locs hx hb hr hts hown hlocks hml hnm hR hQ hA hl hP hK hN hD hS
  have hg : ∀ w ∈ gw, w.before args s = true := fun w h => hts w (List.mem_cons_of_mem _ h)
  have hown : s.vm.findClass "RangeCoders" = some m.cls := hown
  have hl : lv_has ls 3 [(0, Value.ref rc), (1, Value.int (nI j))] := hl
  refine lv_aload_n hx hb d_RC_get_0 rfl (lv_at hl 0 rfl) ?_
  refine lv_iload_n hx hb d_RC_get_1 rfl (lv_at hl 1 rfl) ?_
  refine my_cq (wr := [(mo, Sum.inr (8, [Value.ref ka, Value.ref o1, Value.ref oo])), (co, Sum.inr (5, [Value.long xx, Value.long xreadX, Value.ref soa, Value.ref sna, Value.ref swa, Value.int xkept, Value.ref ri, Value.ref ro, Value.ref rw, Value.int xasked])), (oo, Sum.inr (7, [Value.int osg, Value.int osm, Value.int ofc, Value.ref oca, Value.ref opa])), (oca, Sum.inl (cI, n, Sum.inl ocf)), (opa, Sum.inl (cI, opl, Sum.inl opf))]) (va_runV (As := [Value.int (nI j)]) (rest := []) ⟨hx, hb, hml, hown, hts⟩ (c_RC_modelAtB l dC dI cI cM cO H.size rc ma k fit fen frd 0 fir mf co j mo (by first | assumption | omega) (by first | assumption | omega) (by first | assumption | omega)) (cwV 1 hts (my_gV k412 k414 ks3 k1 k415) rfl rfl rfl cu_RC_modelAt_1 ⟨by rw [hR]; exact Nat.le_of_ble_eq_true rfl, by rw [hR]; exact Nat.le_of_ble_eq_true rfl⟩) (my_preV hK hN (hP.sub [0, 1] rfl) (hD.sub [0, 1] (by decide +kernel) rfl) 0 rfl rfl) rfl rfl hl.1 rfl (lv_room (Nat.le_of_ble_eq_true rfl)) d_RC_get_2 ⟨by rw [hR]; exact Nat.le_of_ble_eq_true rfl, by rw [hR]; exact Nat.le_of_ble_eq_true rfl⟩) hP hD hS hA [0, 1] [2, 3, 4, 5, 6] rfl rfl (by decide +kernel) (by decide +kernel) (fun r_2 u9 H locs hw_2 hP hD hS => ?_)
  have hr_2 : r_2 = some mo := hw_2
  have hPD : my_PD (dC, dI) vwCl A [(mo, Sum.inr (8, [Value.ref ka, Value.ref o1, Value.ref oo])), (co, Sum.inr (5, [Value.long xx, Value.long xreadX, Value.ref soa, Value.ref sna, Value.ref swa, Value.int xkept, Value.ref ri, Value.ref ro, Value.ref rw, Value.int xasked])), (oo, Sum.inr (7, [Value.int osg, Value.int osm, Value.int ofc, Value.ref oca, Value.ref opa])), (oca, Sum.inl (cI, n, Sum.inl ocf)), (opa, Sum.inl (cI, opl, Sum.inl opf)), (rc, Sum.inr (6, [Value.ref co, Value.ref ma, Value.int (nI k), Value.int fit, Value.int fen, Value.int frd, Value.int 0, Value.int fir])), (ma, Sum.inl (cM, 8, Sum.inr (Sum.inr (Sum.inr (Sum.inr mf)))))] H := ⟨hP, hD⟩
  have hP := hPD.1
  have hD := hPD.2
  subst hr_2
  refine W.eq (g2 := F0 m 5 ls [Value.ref mo]) rfl ?_
  refine lv_astore_n (lv' := [(2, Value.ref mo), (0, Value.ref rc), (1, Value.int (nI j))]) hx hb d_RC_get_5 rfl hl (by decide) rfl (fun ls hl => ?_)
  refine lv_aload_n hx hb d_RC_get_6 rfl (lv_at hl 0 rfl) ?_
  refine lv_ifnonnull (tgt := 12) hx hb d_RC_get_7 (by decide) ?_
  refine lv_aload_n hx hb d_RC_get_12 rfl (lv_at hl 1 rfl) ?_
  refine va_get (D := (dC, dI)) (ci := 6) (v := .int frd) (C := "RangeCoders") (T := T_RC) (N := 8) hx hb hg in_RC hown hK hP 5 rfl rfl 5 (by decide) (hg _ k263) (fun _ h9 => h9) rfl d_RC_get_13 ?_
  refine lv_if_ne (tgt := 22) hx hb d_RC_get_16 (by decide) (fun c_1 => ?_) (fun c_1 => ?_)
  · refine lv_aload_n hx hb d_RC_get_22 rfl (lv_at hl 1 rfl) ?_
    refine va_get (D := (dC, dI)) (ci := 6) (v := .int 0) (C := "RangeCoders") (T := T_RC) (N := 8) hx hb hg in_RC hown hK hP 5 rfl rfl 6 (by decide) (hg _ k264) (fun _ h9 => h9) rfl d_RC_get_23 ?_
    refine lv_if_eq (tgt := 34) hx hb d_RC_get_26 (by decide) (fun c_2 => ?_) (fun c_2 => ?_)
    · refine lv_aload_n hx hb d_RC_get_34 rfl (lv_at hl 1 rfl) ?_
      refine lv_aload_n hx hb d_RC_get_35 rfl (lv_at hl 1 rfl) ?_
      refine va_get (D := (dC, dI)) (ci := 6) (v := .ref co) (C := "RangeCoders") (T := T_RC) (N := 8) hx hb hg in_RC hown hK hP 5 rfl rfl 0 (by decide) (hg _ k258) (fun _ h9 => h9) rfl d_RC_get_36 ?_
      refine lv_aload_n hx hb d_RC_get_39 rfl (lv_at hl 0 rfl) ?_
      refine va_get (D := (dC, dI)) (ci := 8) (v := .ref oo) (C := "RangeCoders$Model") (T := T_Model) (N := 3) hx hb hg in_Model hown hK hP 0 rfl rfl 2 (by decide) (hg _ k345) (fun _ h9 => h9) rfl d_RC_get_40 ?_
      refine my_ci (wr := [(mo, Sum.inr (8, [Value.ref ka, Value.ref o1, Value.ref oo])), (rc, Sum.inr (6, [Value.ref co, Value.ref ma, Value.int (nI k), Value.int fit, Value.int fen, Value.int frd, Value.int 0, Value.int fir])), (ma, Sum.inl (cM, 8, Sum.inr (Sum.inr (Sum.inr (Sum.inr mf)))))]) (va_runU (As := [Value.ref oo]) (rest := [Value.ref rc]) ⟨hx, hb, hml, hown, hts⟩ (f_Table_nextSign0 l dC dI cI cM cO H.size co xx xreadX soa sna swa xkept ri ro rw xasked oo osg ofc oca opa n ocf opl opf osm (by first | assumption | omega)) (va_cwA 1 hts (my_gU k775 k777 k842 k843 k11 k844) rfl rfl rfl (hN.1 _ j776 rfl) (by decide +kernel) ⟨by rw [hR]; exact Nat.le_of_ble_eq_true rfl, by rw [hR]; exact Nat.le_of_ble_eq_true rfl⟩) (my_preV hK hN (hP.sub [1, 2, 3, 4] rfl) (hD.sub [1, 2, 3, 4] (by decide +kernel) rfl) 0 rfl rfl) rfl rfl hl.1 rfl (lv_room (Nat.le_of_ble_eq_true rfl)) d_RC_get_43 ⟨by rw [hR]; exact Nat.le_of_ble_eq_true rfl, by rw [hR]; exact Nat.le_of_ble_eq_true rfl⟩) hP hD hS hA [1, 2, 3, 4] [0, 5, 6] rfl rfl (by decide +kernel) (by decide +kernel) (fun r_43 u9 H locs hw_43 hP hD hS => ?_)
      have hr_43 : r_43 = -1 := hw_43
      have hPD : my_PD (dC, dI) vwCl A [(mo, Sum.inr (8, [Value.ref ka, Value.ref o1, Value.ref oo])), (rc, Sum.inr (6, [Value.ref co, Value.ref ma, Value.int (nI k), Value.int fit, Value.int fen, Value.int frd, Value.int 0, Value.int fir])), (ma, Sum.inl (cM, 8, Sum.inr (Sum.inr (Sum.inr (Sum.inr mf))))), (co, Sum.inr (5, [Value.long xx, Value.long xreadX, Value.ref soa, Value.ref sna, Value.ref swa, Value.int xkept, Value.ref ri, Value.ref ro, Value.ref rw, Value.int xasked])), (oo, Sum.inr (7, [Value.int osg, Value.int osm, Value.int ofc, Value.ref oca, Value.ref opa])), (oca, Sum.inl (cI, n, Sum.inl ocf)), (opa, Sum.inl (cI, opl, Sum.inl opf))] H := ⟨hP, hD⟩
      have hP := hPD.1
      have hD := hPD.2
      have z9 : r_43 = (-1) := hr_43
      subst z9
      refine my_ci (wr := [(mo, Sum.inr (8, [Value.ref ka, Value.ref o1, Value.ref oo])), (ma, Sum.inl (cM, 8, Sum.inr (Sum.inr (Sum.inr (Sum.inr mf))))), (co, Sum.inr (5, [Value.long xx, Value.long xreadX, Value.ref soa, Value.ref sna, Value.ref swa, Value.int xkept, Value.ref ri, Value.ref ro, Value.ref rw, Value.int xasked])), (oo, Sum.inr (7, [Value.int osg, Value.int osm, Value.int ofc, Value.ref oca, Value.ref opa])), (oca, Sum.inl (cI, n, Sum.inl ocf)), (opa, Sum.inl (cI, opl, Sum.inl opf))]) (va_runV (As := [Value.int (-1)]) (rest := []) ⟨hx, hb, hml, hown, hts⟩ (f_RC_itemBad l dC dI cI cM cO H.size rc ma k fit fen frd 0 fir mf co) (cwV 1 hts (my_gV k854 k856 ks17 k1 k857) rfl rfl rfl cu_RC_itemOrBad_1 ⟨by rw [hR]; exact Nat.le_of_ble_eq_true rfl, by rw [hR]; exact Nat.le_of_ble_eq_true rfl⟩) (my_preV hK hN (hP.sub [1] rfl) (hD.sub [1] (by decide +kernel) rfl) 0 rfl rfl) rfl rfl hl.1 rfl (lv_room (Nat.le_of_ble_eq_true rfl)) d_RC_get_46 ⟨by rw [hR]; exact Nat.le_of_ble_eq_true rfl, by rw [hR]; exact Nat.le_of_ble_eq_true rfl⟩) hP hD hS hA [1] [0, 2, 3, 4, 5, 6] rfl rfl (by decide +kernel) (by decide +kernel) (fun r_46 u9 H locs hw_46 hP hD hS => ?_)
      have hr_46 : r_46 = -5 := hw_46
      have hPD : my_PD (dC, dI) vwCl A [(mo, Sum.inr (8, [Value.ref ka, Value.ref o1, Value.ref oo])), (ma, Sum.inl (cM, 8, Sum.inr (Sum.inr (Sum.inr (Sum.inr mf))))), (co, Sum.inr (5, [Value.long xx, Value.long xreadX, Value.ref soa, Value.ref sna, Value.ref swa, Value.int xkept, Value.ref ri, Value.ref ro, Value.ref rw, Value.int xasked])), (oo, Sum.inr (7, [Value.int osg, Value.int osm, Value.int ofc, Value.ref oca, Value.ref opa])), (oca, Sum.inl (cI, n, Sum.inl ocf)), (opa, Sum.inl (cI, opl, Sum.inl opf)), (rc, Sum.inr (6, [Value.ref co, Value.ref ma, Value.int (nI k), Value.int fit, Value.int fen, Value.int frd, Value.int 1, Value.int fir]))] H := ⟨hP, hD⟩
      have hP := hPD.1
      have hD := hPD.2
      exact my_iret (v := r_46) hx hb hr (rfl) hlocks hQ hK hS (Nat.le_refl _) (Nat.le_refl _) () (hr_46) (hP.sub [6, 1, 0, 2, 3, 4, 5] rfl) (hD.sub [6, 1, 0, 2, 3, 4, 5] (by decide +kernel) rfl) d_RC_get_49
    · exact absurd (by decide) c_2
  · exact absurd c_1 hrd
set_option maxHeartbeats 2000000 in
set_option maxRecDepth 100000 in
theorem f_RC_gbW_Table (l : Launch) (dC : Nat → ClassId) (dI : Nat → Nat → Nat) (cI cM cO : ClassId) (sz : Nat) (rc : Nat) (ma : Nat) (k : Nat) (fit : Int32) (fen : Int32) (frd : Int32) (fbd : Int32) (fir : Int32) (mf : Nat → Option Nat) (co : Nat) (xx : Int64) (xreadX : Int64) (soa : Nat) (sna : Nat) (swa : Nat) (xkept : Int32) (ri : Nat) (ro : Nat) (rw : Nat) (xasked : Int32) (wd : Int32) (hbad : ¬ (1 ≤ wd ∧ wd ≤ nI 9)) : MetI l y_RC_getBits (Cond.code y_RC_getBits prog_1_method_14_code 2 (some .int) :: gw) ({ frames := 1, cells := 0, slots := 0, locals := 21 } : Room) (dC, dI) vwCl (kT cI cM cO) [Value.ref rc, Value.int wd] [(rc, Sum.inr (6, [Value.ref co, Value.ref ma, Value.int (nI k), Value.int fit, Value.int fen, Value.int frd, Value.int fbd, Value.int fir])), (co, Sum.inr (5, [Value.long xx, Value.long xreadX, Value.ref soa, Value.ref sna, Value.ref swa, Value.int xkept, Value.ref ri, Value.ref ro, Value.ref rw, Value.int xasked]))] sz (fun (r : Int32) (u : Unit) => r = -2) (fun (u : Unit) => [(rc, Sum.inr (6, [Value.ref co, Value.ref ma, Value.int (nI k), Value.int fit, Value.int fen, Value.int frd, Value.int fbd, Value.int fir])), (co, Sum.inr (5, [Value.long xx, Value.long xreadX, Value.ref soa, Value.ref sna, Value.ref swa, Value.int xkept, Value.ref ri, Value.ref ro, Value.ref rw, Value.int xasked]))]) 0 0 := by
  refine my_ofI (cc := prog_1_method_14_code) (n := 2) (ret := (some .int)) (by decide) rfl (Nat.le_of_ble_eq_true rfl) ?_
  intro p e s m args below meth c R Q A ls H locs hx hb hr hts hown hlocks hml hnm hR hQ hA hl hP hK hN hD hS
  have hg : ∀ w ∈ gw, w.before args s = true := fun w h => hts w (List.mem_cons_of_mem _ h)
  have hown : s.vm.findClass "RangeCoders" = some m.cls := hown
  have hl : lv_has ls 2 [(0, Value.ref rc), (1, Value.int wd)] := hl
  refine lv_aload_n hx hb d_RC_getBits_0 rfl (lv_at hl 0 rfl) ?_
  refine va_get (D := (dC, dI)) (ci := 6) (v := .ref co) (C := "RangeCoders") (T := T_RC) (N := 8) hx hb hg in_RC hown hK hP 0 rfl rfl 0 (by decide) (hg _ k258) (fun _ h9 => h9) rfl d_RC_getBits_1 ?_
  refine lv_iload_n hx hb d_RC_getBits_4 rfl (lv_at hl 1 rfl) ?_
  refine my_ci (wr := [(rc, Sum.inr (6, [Value.ref co, Value.ref ma, Value.int (nI k), Value.int fit, Value.int fen, Value.int frd, Value.int fbd, Value.int fir]))]) (va_runU (As := [Value.int wd]) (rest := []) ⟨hx, hb, hml, hown, hts⟩ (f_Table_hasWidth l dC dI cI cM cO H.size co xx xreadX soa sna swa xkept ri ro rw xasked wd) (va_cwO 1 hts (my_gO k543 k545 k544 k550 k551 k11 k552) rfl rfl rfl (List.mem_cons_of_mem _ k553) (by decide +kernel) ⟨by rw [hR]; exact Nat.le_of_ble_eq_true rfl, by rw [hR]; exact Nat.le_of_ble_eq_true rfl⟩) (my_preV hK hN (hP.sub [1] rfl) (hD.sub [1] (by decide +kernel) rfl) 0 rfl rfl) rfl rfl hl.1 rfl (lv_room (Nat.le_of_ble_eq_true rfl)) d_RC_getBits_5 ⟨by rw [hR]; exact Nat.le_of_ble_eq_true rfl, by rw [hR]; exact Nat.le_of_ble_eq_true rfl⟩) hP hD hS hA [1] [0] rfl rfl (by decide +kernel) (by decide +kernel) (fun r_5 u9 H locs hw_5 hP hD hS => ?_)
  have hr_5 : r_5 = if 1 ≤ wd ∧ wd ≤ nI 9 then 1 else 0 := hw_5
  have hPD : my_PD (dC, dI) vwCl A [(rc, Sum.inr (6, [Value.ref co, Value.ref ma, Value.int (nI k), Value.int fit, Value.int fen, Value.int frd, Value.int fbd, Value.int fir])), (co, Sum.inr (5, [Value.long xx, Value.long xreadX, Value.ref soa, Value.ref sna, Value.ref swa, Value.int xkept, Value.ref ri, Value.ref ro, Value.ref rw, Value.int xasked]))] H := ⟨hP, hD⟩
  have hP := hPD.1
  have hD := hPD.2
  refine lv_if_ne (tgt := 14) hx hb d_RC_getBits_8 (by decide) (fun c_1 => ?_) (fun c_1 => ?_)
  · exact absurd (one_ne hr_5 c_1) hbad
  · refine lv_bipush (v := (-2)) hx hb d_RC_getBits_11 (by decide) ?_
    exact my_iret (v := (-2)) hx hb hr (rfl) hlocks hQ hK hS (Nat.le_refl _) (Nat.le_refl _) () (rfl) (hP.sub [0, 1] rfl) (hD.sub [0, 1] (by decide +kernel) rfl) d_RC_getBits_13
set_option maxHeartbeats 2000000 in
set_option maxRecDepth 100000 in
theorem f_RC_gbN_Table (l : Launch) (dC : Nat → ClassId) (dI : Nat → Nat → Nat) (cI cM cO : ClassId) (sz : Nat) (rc : Nat) (ma : Nat) (k : Nat) (fit : Int32) (fen : Int32) (frd : Int32) (fbd : Int32) (fir : Int32) (mf : Nat → Option Nat) (co : Nat) (xx : Int64) (xreadX : Int64) (soa : Nat) (sna : Nat) (swa : Nat) (xkept : Int32) (ri : Nat) (ro : Nat) (rw : Nat) (xasked : Int32) (b : Nat) (hb1 : 1 ≤ b) (hb2 : b ≤ 9) (hrd : frd = 0) : MetI l y_RC_getBits (Cond.code y_RC_getBits prog_1_method_14_code 2 (some .int) :: gw) ({ frames := 1, cells := 0, slots := 0, locals := 21 } : Room) (dC, dI) vwCl (kT cI cM cO) [Value.ref rc, Value.int (nI b)] [(rc, Sum.inr (6, [Value.ref co, Value.ref ma, Value.int (nI k), Value.int fit, Value.int fen, Value.int frd, Value.int fbd, Value.int fir])), (co, Sum.inr (5, [Value.long xx, Value.long xreadX, Value.ref soa, Value.ref sna, Value.ref swa, Value.int xkept, Value.ref ri, Value.ref ro, Value.ref rw, Value.int xasked]))] sz (fun (r : Int32) (u : Unit) => r = -3) (fun (u : Unit) => [(rc, Sum.inr (6, [Value.ref co, Value.ref ma, Value.int (nI k), Value.int fit, Value.int fen, Value.int frd, Value.int fbd, Value.int fir])), (co, Sum.inr (5, [Value.long xx, Value.long xreadX, Value.ref soa, Value.ref sna, Value.ref swa, Value.int xkept, Value.ref ri, Value.ref ro, Value.ref rw, Value.int xasked]))]) 0 0 := by
  refine my_ofI (cc := prog_1_method_14_code) (n := 2) (ret := (some .int)) (by decide) rfl (Nat.le_of_ble_eq_true rfl) ?_
  intro p e s m args below meth c R Q A ls H locs hx hb hr hts hown hlocks hml hnm hR hQ hA hl hP hK hN hD hS
  have hg : ∀ w ∈ gw, w.before args s = true := fun w h => hts w (List.mem_cons_of_mem _ h)
  have hown : s.vm.findClass "RangeCoders" = some m.cls := hown
  have hl : lv_has ls 2 [(0, Value.ref rc), (1, Value.int (nI b))] := hl
  refine lv_aload_n hx hb d_RC_getBits_0 rfl (lv_at hl 0 rfl) ?_
  refine va_get (D := (dC, dI)) (ci := 6) (v := .ref co) (C := "RangeCoders") (T := T_RC) (N := 8) hx hb hg in_RC hown hK hP 0 rfl rfl 0 (by decide) (hg _ k258) (fun _ h9 => h9) rfl d_RC_getBits_1 ?_
  refine lv_iload_n hx hb d_RC_getBits_4 rfl (lv_at hl 1 rfl) ?_
  refine my_ci (wr := [(rc, Sum.inr (6, [Value.ref co, Value.ref ma, Value.int (nI k), Value.int fit, Value.int fen, Value.int frd, Value.int fbd, Value.int fir]))]) (va_runU (As := [Value.int (nI b)]) (rest := []) ⟨hx, hb, hml, hown, hts⟩ (f_Table_hasWidth l dC dI cI cM cO H.size co xx xreadX soa sna swa xkept ri ro rw xasked (nI b)) (va_cwO 1 hts (my_gO k543 k545 k544 k550 k551 k11 k552) rfl rfl rfl (List.mem_cons_of_mem _ k553) (by decide +kernel) ⟨by rw [hR]; exact Nat.le_of_ble_eq_true rfl, by rw [hR]; exact Nat.le_of_ble_eq_true rfl⟩) (my_preV hK hN (hP.sub [1] rfl) (hD.sub [1] (by decide +kernel) rfl) 0 rfl rfl) rfl rfl hl.1 rfl (lv_room (Nat.le_of_ble_eq_true rfl)) d_RC_getBits_5 ⟨by rw [hR]; exact Nat.le_of_ble_eq_true rfl, by rw [hR]; exact Nat.le_of_ble_eq_true rfl⟩) hP hD hS hA [1] [0] rfl rfl (by decide +kernel) (by decide +kernel) (fun r_5 u9 H locs hw_5 hP hD hS => ?_)
  have hr_5 : r_5 = if 1 ≤ (nI b) ∧ (nI b) ≤ nI 9 then 1 else 0 := hw_5
  have hPD : my_PD (dC, dI) vwCl A [(rc, Sum.inr (6, [Value.ref co, Value.ref ma, Value.int (nI k), Value.int fit, Value.int fen, Value.int frd, Value.int fbd, Value.int fir])), (co, Sum.inr (5, [Value.long xx, Value.long xreadX, Value.ref soa, Value.ref sna, Value.ref swa, Value.int xkept, Value.ref ri, Value.ref ro, Value.ref rw, Value.int xasked]))] H := ⟨hP, hD⟩
  have hP := hPD.1
  have hD := hPD.2
  refine lv_if_ne (tgt := 14) hx hb d_RC_getBits_8 (by decide) (fun c_1 => ?_) (fun c_1 => ?_)
  · refine lv_aload_n hx hb d_RC_getBits_14 rfl (lv_at hl 0 rfl) ?_
    refine va_get (D := (dC, dI)) (ci := 6) (v := .int frd) (C := "RangeCoders") (T := T_RC) (N := 8) hx hb hg in_RC hown hK hP 0 rfl rfl 5 (by decide) (hg _ k263) (fun _ h9 => h9) rfl d_RC_getBits_15 ?_
    refine lv_if_ne (tgt := 24) hx hb d_RC_getBits_18 (by decide) (fun c_2 => ?_) (fun c_2 => ?_)
    · exact absurd hrd c_2
    · refine lv_bipush (v := (-3)) hx hb d_RC_getBits_21 (by decide) ?_
      exact my_iret (v := (-3)) hx hb hr (rfl) hlocks hQ hK hS (Nat.le_refl _) (Nat.le_refl _) () (rfl) (hP.sub [0, 1] rfl) (hD.sub [0, 1] (by decide +kernel) rfl) d_RC_getBits_23
  · exact absurd (show 1 ≤ nI b ∧ nI b ≤ nI 9 from ⟨nI_le (a := 1) hb1 (by omega), nI_le hb2 (by decide)⟩) (one_eq hr_5 c_1)
set_option maxHeartbeats 2000000 in
set_option maxRecDepth 100000 in
theorem f_RC_gbB_Table (l : Launch) (dC : Nat → ClassId) (dI : Nat → Nat → Nat) (cI cM cO : ClassId) (sz : Nat) (rc : Nat) (ma : Nat) (k : Nat) (fit : Int32) (fen : Int32) (frd : Int32) (fbd : Int32) (fir : Int32) (mf : Nat → Option Nat) (co : Nat) (xx : Int64) (xreadX : Int64) (soa : Nat) (sna : Nat) (swa : Nat) (xkept : Int32) (ri : Nat) (ro : Nat) (rw : Nat) (xasked : Int32) (b : Nat) (hb1 : 1 ≤ b) (hb2 : b ≤ 9) (hrd : ¬ frd = 0) (hbd : ¬ fbd = 0) : MetI l y_RC_getBits (Cond.code y_RC_getBits prog_1_method_14_code 2 (some .int) :: gw) ({ frames := 1, cells := 0, slots := 0, locals := 21 } : Room) (dC, dI) vwCl (kT cI cM cO) [Value.ref rc, Value.int (nI b)] [(rc, Sum.inr (6, [Value.ref co, Value.ref ma, Value.int (nI k), Value.int fit, Value.int fen, Value.int frd, Value.int fbd, Value.int fir])), (co, Sum.inr (5, [Value.long xx, Value.long xreadX, Value.ref soa, Value.ref sna, Value.ref swa, Value.int xkept, Value.ref ri, Value.ref ro, Value.ref rw, Value.int xasked]))] sz (fun (r : Int32) (u : Unit) => r = -5) (fun (u : Unit) => [(rc, Sum.inr (6, [Value.ref co, Value.ref ma, Value.int (nI k), Value.int fit, Value.int fen, Value.int frd, Value.int fbd, Value.int fir])), (co, Sum.inr (5, [Value.long xx, Value.long xreadX, Value.ref soa, Value.ref sna, Value.ref swa, Value.int xkept, Value.ref ri, Value.ref ro, Value.ref rw, Value.int xasked]))]) 0 0 := by
  refine my_ofI (cc := prog_1_method_14_code) (n := 2) (ret := (some .int)) (by decide) rfl (Nat.le_of_ble_eq_true rfl) ?_
  intro p e s m args below meth c R Q A ls H locs hx hb hr hts hown hlocks hml hnm hR hQ hA hl hP hK hN hD hS
  have hg : ∀ w ∈ gw, w.before args s = true := fun w h => hts w (List.mem_cons_of_mem _ h)
  have hown : s.vm.findClass "RangeCoders" = some m.cls := hown
  have hl : lv_has ls 2 [(0, Value.ref rc), (1, Value.int (nI b))] := hl
  refine lv_aload_n hx hb d_RC_getBits_0 rfl (lv_at hl 0 rfl) ?_
  refine va_get (D := (dC, dI)) (ci := 6) (v := .ref co) (C := "RangeCoders") (T := T_RC) (N := 8) hx hb hg in_RC hown hK hP 0 rfl rfl 0 (by decide) (hg _ k258) (fun _ h9 => h9) rfl d_RC_getBits_1 ?_
  refine lv_iload_n hx hb d_RC_getBits_4 rfl (lv_at hl 1 rfl) ?_
  refine my_ci (wr := [(rc, Sum.inr (6, [Value.ref co, Value.ref ma, Value.int (nI k), Value.int fit, Value.int fen, Value.int frd, Value.int fbd, Value.int fir]))]) (va_runU (As := [Value.int (nI b)]) (rest := []) ⟨hx, hb, hml, hown, hts⟩ (f_Table_hasWidth l dC dI cI cM cO H.size co xx xreadX soa sna swa xkept ri ro rw xasked (nI b)) (va_cwO 1 hts (my_gO k543 k545 k544 k550 k551 k11 k552) rfl rfl rfl (List.mem_cons_of_mem _ k553) (by decide +kernel) ⟨by rw [hR]; exact Nat.le_of_ble_eq_true rfl, by rw [hR]; exact Nat.le_of_ble_eq_true rfl⟩) (my_preV hK hN (hP.sub [1] rfl) (hD.sub [1] (by decide +kernel) rfl) 0 rfl rfl) rfl rfl hl.1 rfl (lv_room (Nat.le_of_ble_eq_true rfl)) d_RC_getBits_5 ⟨by rw [hR]; exact Nat.le_of_ble_eq_true rfl, by rw [hR]; exact Nat.le_of_ble_eq_true rfl⟩) hP hD hS hA [1] [0] rfl rfl (by decide +kernel) (by decide +kernel) (fun r_5 u9 H locs hw_5 hP hD hS => ?_)
  have hr_5 : r_5 = if 1 ≤ (nI b) ∧ (nI b) ≤ nI 9 then 1 else 0 := hw_5
  have hPD : my_PD (dC, dI) vwCl A [(rc, Sum.inr (6, [Value.ref co, Value.ref ma, Value.int (nI k), Value.int fit, Value.int fen, Value.int frd, Value.int fbd, Value.int fir])), (co, Sum.inr (5, [Value.long xx, Value.long xreadX, Value.ref soa, Value.ref sna, Value.ref swa, Value.int xkept, Value.ref ri, Value.ref ro, Value.ref rw, Value.int xasked]))] H := ⟨hP, hD⟩
  have hP := hPD.1
  have hD := hPD.2
  refine lv_if_ne (tgt := 14) hx hb d_RC_getBits_8 (by decide) (fun c_1 => ?_) (fun c_1 => ?_)
  · refine lv_aload_n hx hb d_RC_getBits_14 rfl (lv_at hl 0 rfl) ?_
    refine va_get (D := (dC, dI)) (ci := 6) (v := .int frd) (C := "RangeCoders") (T := T_RC) (N := 8) hx hb hg in_RC hown hK hP 0 rfl rfl 5 (by decide) (hg _ k263) (fun _ h9 => h9) rfl d_RC_getBits_15 ?_
    refine lv_if_ne (tgt := 24) hx hb d_RC_getBits_18 (by decide) (fun c_2 => ?_) (fun c_2 => ?_)
    · refine lv_aload_n hx hb d_RC_getBits_24 rfl (lv_at hl 0 rfl) ?_
      refine va_get (D := (dC, dI)) (ci := 6) (v := .int fbd) (C := "RangeCoders") (T := T_RC) (N := 8) hx hb hg in_RC hown hK hP 0 rfl rfl 6 (by decide) (hg _ k264) (fun _ h9 => h9) rfl d_RC_getBits_25 ?_
      refine lv_if_eq (tgt := 36) hx hb d_RC_getBits_28 (by decide) (fun c_3 => ?_) (fun c_3 => ?_)
      · exact absurd c_3 hbd
      · refine lv_bipush (v := (-5)) hx hb d_RC_getBits_31 (by decide) ?_
        refine lv_goto (tgt := 48) hx hb d_RC_getBits_33 (by decide) ?_
        exact my_iret (v := (-5)) hx hb hr (rfl) hlocks hQ hK hS (Nat.le_refl _) (Nat.le_refl _) () (rfl) (hP.sub [0, 1] rfl) (hD.sub [0, 1] (by decide +kernel) rfl) d_RC_getBits_48
    · exact absurd c_2 hrd
  · exact absurd (show 1 ≤ nI b ∧ nI b ≤ nI 9 from ⟨nI_le (a := 1) hb1 (by omega), nI_le hb2 (by decide)⟩) (one_eq hr_5 c_1)
set_option maxHeartbeats 2000000 in
set_option maxRecDepth 100000 in
theorem f_RC_gbL_Table (l : Launch) (dC : Nat → ClassId) (dI : Nat → Nat → Nat) (cI cM cO : ClassId) (sz : Nat) (rc : Nat) (ma : Nat) (k : Nat) (fit : Int32) (fen : Int32) (frd : Int32) (fir : Int32) (mf : Nat → Option Nat) (co : Nat) (xx : Int64) (xreadX : Int64) (soa : Nat) (sna : Nat) (swa : Nat) (xkept : Int32) (ri : Nat) (ro : Nat) (rw : Nat) (ria : Nat) (rik : Nat) (rif : Nat → Int32) (is : List Nat) (t : Nat) (b : Nat) (hb1 : 1 ≤ b) (hb2 : b ≤ 9) (hrd : ¬ frd = 0) (hri : rOk (nI is.length) rik) (hGri : gIs rif is) (hLri : is.length ≤ 6000) (hoct : oct is) (ht : t < 900000000) (hsv9 : bbN is t b < 2147483648) : MetI l y_RC_getBits (Cond.code y_RC_getBits prog_1_method_14_code 2 (some .int) :: gw) ({ frames := 4, cells := 0, slots := 0, locals := 87 } : Room) (dC, dI) vwCl (kT cI cM cO) [Value.ref rc, Value.int (nI b)] [(rc, Sum.inr (6, [Value.ref co, Value.ref ma, Value.int (nI k), Value.int fit, Value.int fen, Value.int frd, Value.int 0, Value.int fir])), (co, Sum.inr (5, [Value.long xx, Value.long xreadX, Value.ref soa, Value.ref sna, Value.ref swa, Value.int xkept, Value.ref ri, Value.ref ro, Value.ref rw, Value.int (nI t)])), (ri, Sum.inr (0, [Value.int (nI is.length), Value.ref ria])), (ria, Sum.inl (cI, rik, Sum.inl rif))] sz (fun (r : Int32) (u : Unit) => r = nI (bbN is t b)) (fun (u : Unit) => [(rc, Sum.inr (6, [Value.ref co, Value.ref ma, Value.int (nI k), Value.int fit, Value.int fen, Value.int frd, Value.int 0, Value.int (fir + 1)])), (co, Sum.inr (5, [Value.long xx, Value.long xreadX, Value.ref soa, Value.ref sna, Value.ref swa, Value.int xkept, Value.ref ri, Value.ref ro, Value.ref rw, Value.int (nI (t + b))])), (ri, Sum.inr (0, [Value.int (nI is.length), Value.ref ria])), (ria, Sum.inl (cI, rik, Sum.inl rif))]) 0 0 := by
  refine my_ofI (cc := prog_1_method_14_code) (n := 2) (ret := (some .int)) (by decide) rfl (Nat.le_of_ble_eq_true rfl) ?_
  intro p e s m args below meth c R Q A ls H locs hx hb hr hts hown hlocks hml hnm hR hQ hA hl hP hK hN hD hS
  have hg : ∀ w ∈ gw, w.before args s = true := fun w h => hts w (List.mem_cons_of_mem _ h)
  have hown : s.vm.findClass "RangeCoders" = some m.cls := hown
  have hl : lv_has ls 2 [(0, Value.ref rc), (1, Value.int (nI b))] := hl
  refine lv_aload_n hx hb d_RC_getBits_0 rfl (lv_at hl 0 rfl) ?_
  refine va_get (D := (dC, dI)) (ci := 6) (v := .ref co) (C := "RangeCoders") (T := T_RC) (N := 8) hx hb hg in_RC hown hK hP 0 rfl rfl 0 (by decide) (hg _ k258) (fun _ h9 => h9) rfl d_RC_getBits_1 ?_
  refine lv_iload_n hx hb d_RC_getBits_4 rfl (lv_at hl 1 rfl) ?_
  refine my_ci (wr := [(rc, Sum.inr (6, [Value.ref co, Value.ref ma, Value.int (nI k), Value.int fit, Value.int fen, Value.int frd, Value.int 0, Value.int fir])), (ri, Sum.inr (0, [Value.int (nI is.length), Value.ref ria])), (ria, Sum.inl (cI, rik, Sum.inl rif))]) (va_runU (As := [Value.int (nI b)]) (rest := []) ⟨hx, hb, hml, hown, hts⟩ (f_Table_hasWidth l dC dI cI cM cO H.size co xx xreadX soa sna swa xkept ri ro rw (nI t) (nI b)) (va_cwO 1 hts (my_gO k543 k545 k544 k550 k551 k11 k552) rfl rfl rfl (List.mem_cons_of_mem _ k553) (by decide +kernel) ⟨by rw [hR]; exact Nat.le_of_ble_eq_true rfl, by rw [hR]; exact Nat.le_of_ble_eq_true rfl⟩) (my_preV hK hN (hP.sub [1] rfl) (hD.sub [1] (by decide +kernel) rfl) 0 rfl rfl) rfl rfl hl.1 rfl (lv_room (Nat.le_of_ble_eq_true rfl)) d_RC_getBits_5 ⟨by rw [hR]; exact Nat.le_of_ble_eq_true rfl, by rw [hR]; exact Nat.le_of_ble_eq_true rfl⟩) hP hD hS hA [1] [0, 2, 3] rfl rfl (by decide +kernel) (by decide +kernel) (fun r_5 u9 H locs hw_5 hP hD hS => ?_)
  have hr_5 : r_5 = if 1 ≤ (nI b) ∧ (nI b) ≤ nI 9 then 1 else 0 := hw_5
  have hPD : my_PD (dC, dI) vwCl A [(rc, Sum.inr (6, [Value.ref co, Value.ref ma, Value.int (nI k), Value.int fit, Value.int fen, Value.int frd, Value.int 0, Value.int fir])), (ri, Sum.inr (0, [Value.int (nI is.length), Value.ref ria])), (ria, Sum.inl (cI, rik, Sum.inl rif)), (co, Sum.inr (5, [Value.long xx, Value.long xreadX, Value.ref soa, Value.ref sna, Value.ref swa, Value.int xkept, Value.ref ri, Value.ref ro, Value.ref rw, Value.int (nI t)]))] H := ⟨hP, hD⟩
  have hP := hPD.1
  have hD := hPD.2
  refine lv_if_ne (tgt := 14) hx hb d_RC_getBits_8 (by decide) (fun c_1 => ?_) (fun c_1 => ?_)
  · refine lv_aload_n hx hb d_RC_getBits_14 rfl (lv_at hl 0 rfl) ?_
    refine va_get (D := (dC, dI)) (ci := 6) (v := .int frd) (C := "RangeCoders") (T := T_RC) (N := 8) hx hb hg in_RC hown hK hP 0 rfl rfl 5 (by decide) (hg _ k263) (fun _ h9 => h9) rfl d_RC_getBits_15 ?_
    refine lv_if_ne (tgt := 24) hx hb d_RC_getBits_18 (by decide) (fun c_2 => ?_) (fun c_2 => ?_)
    · refine lv_aload_n hx hb d_RC_getBits_24 rfl (lv_at hl 0 rfl) ?_
      refine va_get (D := (dC, dI)) (ci := 6) (v := .int 0) (C := "RangeCoders") (T := T_RC) (N := 8) hx hb hg in_RC hown hK hP 0 rfl rfl 6 (by decide) (hg _ k264) (fun _ h9 => h9) rfl d_RC_getBits_25 ?_
      refine lv_if_eq (tgt := 36) hx hb d_RC_getBits_28 (by decide) (fun c_3 => ?_) (fun c_3 => ?_)
      · refine lv_aload_n hx hb d_RC_getBits_36 rfl (lv_at hl 0 rfl) ?_
        refine lv_aload_n hx hb d_RC_getBits_37 rfl (lv_at hl 0 rfl) ?_
        refine va_get (D := (dC, dI)) (ci := 6) (v := .ref co) (C := "RangeCoders") (T := T_RC) (N := 8) hx hb hg in_RC hown hK hP 0 rfl rfl 0 (by decide) (hg _ k258) (fun _ h9 => h9) rfl d_RC_getBits_38 ?_
        refine lv_iload_n hx hb d_RC_getBits_41 rfl (lv_at hl 1 rfl) ?_
        refine my_ci (wr := [(rc, Sum.inr (6, [Value.ref co, Value.ref ma, Value.int (nI k), Value.int fit, Value.int fen, Value.int frd, Value.int 0, Value.int fir]))]) (va_runU (As := [Value.int (nI b)]) (rest := [Value.ref rc]) ⟨hx, hb, hml, hown, hts⟩ (f_Table_nextValue l dC dI cI cM cO H.size co xx xreadX soa sna swa xkept ri ro rw ria rik rif is t b (by first | assumption | omega) (by first | assumption | omega) (by first | assumption | omega) (by first | assumption | omega) (by first | assumption | omega) (by omega)) (va_cwA 1 hts (my_gU k862 k864 k875 k764 k11 k766) rfl rfl rfl (hN.1 _ j863 rfl) (by decide +kernel) ⟨by rw [hR]; exact Nat.le_of_ble_eq_true rfl, by rw [hR]; exact Nat.le_of_ble_eq_true rfl⟩) (my_preV hK hN (hP.sub [3, 1, 2] rfl) (hD.sub [3, 1, 2] (by decide +kernel) rfl) 0 rfl rfl) rfl rfl hl.1 rfl (lv_room (Nat.le_of_ble_eq_true rfl)) d_RC_getBits_42 ⟨by rw [hR]; exact Nat.le_of_ble_eq_true rfl, by rw [hR]; exact Nat.le_of_ble_eq_true rfl⟩) hP hD hS hA [3, 1, 2] [0] rfl rfl (by decide +kernel) (by decide +kernel) (fun r_42 u9 H locs hw_42 hP hD hS => ?_)
        have hr_42 : r_42 = nI (bbN is t b) := hw_42
        have hPD : my_PD (dC, dI) vwCl A [(rc, Sum.inr (6, [Value.ref co, Value.ref ma, Value.int (nI k), Value.int fit, Value.int fen, Value.int frd, Value.int 0, Value.int fir])), (co, Sum.inr (5, [Value.long xx, Value.long xreadX, Value.ref soa, Value.ref sna, Value.ref swa, Value.int xkept, Value.ref ri, Value.ref ro, Value.ref rw, Value.int (nI (t + b))])), (ri, Sum.inr (0, [Value.int (nI is.length), Value.ref ria])), (ria, Sum.inl (cI, rik, Sum.inl rif))] H := ⟨hP, hD⟩
        have hP := hPD.1
        have hD := hPD.2
        have z9 : r_42 = nI (bbN is t b) := hr_42
        subst z9
        refine my_ci (wr := [(co, Sum.inr (5, [Value.long xx, Value.long xreadX, Value.ref soa, Value.ref sna, Value.ref swa, Value.int xkept, Value.ref ri, Value.ref ro, Value.ref rw, Value.int (nI (t + b))])), (ri, Sum.inr (0, [Value.int (nI is.length), Value.ref ria])), (ria, Sum.inl (cI, rik, Sum.inl rif))]) (va_runV (As := [Value.int (nI (bbN is t b))]) (rest := []) ⟨hx, hb, hml, hown, hts⟩ (f_RC_itemOk l dC dI cI cM cO H.size rc ma k fit fen frd 0 fir mf co (bbN is t b) (by first | assumption | omega)) (cwV 1 hts (my_gV k854 k856 ks17 k1 k857) rfl rfl rfl cu_RC_itemOrBad_1 ⟨by rw [hR]; exact Nat.le_of_ble_eq_true rfl, by rw [hR]; exact Nat.le_of_ble_eq_true rfl⟩) (my_preV hK hN (hP.sub [0] rfl) (hD.sub [0] (by decide +kernel) rfl) 0 rfl rfl) rfl rfl hl.1 rfl (lv_room (Nat.le_of_ble_eq_true rfl)) d_RC_getBits_45 ⟨by rw [hR]; exact Nat.le_of_ble_eq_true rfl, by rw [hR]; exact Nat.le_of_ble_eq_true rfl⟩) hP hD hS hA [0] [1, 2, 3] rfl rfl (by decide +kernel) (by decide +kernel) (fun r_45 u9 H locs hw_45 hP hD hS => ?_)
        have hr_45 : r_45 = nI (bbN is t b) := hw_45
        have hPD : my_PD (dC, dI) vwCl A [(co, Sum.inr (5, [Value.long xx, Value.long xreadX, Value.ref soa, Value.ref sna, Value.ref swa, Value.int xkept, Value.ref ri, Value.ref ro, Value.ref rw, Value.int (nI (t + b))])), (ri, Sum.inr (0, [Value.int (nI is.length), Value.ref ria])), (ria, Sum.inl (cI, rik, Sum.inl rif)), (rc, Sum.inr (6, [Value.ref co, Value.ref ma, Value.int (nI k), Value.int fit, Value.int fen, Value.int frd, Value.int 0, Value.int (fir + 1)]))] H := ⟨hP, hD⟩
        have hP := hPD.1
        have hD := hPD.2
        exact my_iret (v := r_45) hx hb hr (rfl) hlocks hQ hK hS (Nat.le_refl _) (Nat.le_refl _) () (hr_45) (hP.sub [3, 0, 1, 2] rfl) (hD.sub [3, 0, 1, 2] (by decide +kernel) rfl) d_RC_getBits_48
      · exact absurd (by decide) c_3
    · exact absurd c_2 hrd
  · exact absurd (show 1 ≤ nI b ∧ nI b ≤ nI 9 from ⟨nI_le (a := 1) hb1 (by omega), nI_le hb2 (by decide)⟩) (one_eq hr_5 c_1)
end
section
def mOkr_Carries (x : MB) : Prop := 2 ≤ mK x ∧ mK x ≤ 64 ∧ osh_Carries (mK x) (mH x) ∧ tbI (mF x) (mK x) (Cx x) ∧ bd (Cx x) (mK x) 4095
def nwr_Carries (x y : MB) : Prop := mK y = mK x ∧ mF y = mF x ∧ mS y = mS x ∧ osh_Carries (mK x) (mH y) ∧ oth_Carries (mK x) (les (mK x) (Cx x)) (mH y)
def mOkr_NoCarries (x : MB) : Prop := 2 ≤ mK x ∧ mK x ≤ 64 ∧ osh_NoCarries (mK x) (mH x) ∧ tbI (mF x) (mK x) (Cx x) ∧ bd (Cx x) (mK x) 4095
def nwr_NoCarries (x y : MB) : Prop := mK y = mK x ∧ mF y = mF x ∧ mS y = mS x ∧ osh_NoCarries (mK x) (mH y) ∧ oth_NoCarries (mK x) (les (mK x) (Cx x)) (mH y)
def mOkr_Bits (x : MB) : Prop := 2 ≤ mK x ∧ mK x ≤ 64 ∧ osh_Bits (mK x) (mH x) ∧ tbI (mF x) (mK x) (Cx x) ∧ bd (Cx x) (mK x) 4095
def nwr_Bits (x y : MB) : Prop := mK y = mK x ∧ mF y = mF x ∧ mS y = mS x ∧ osh_Bits (mK x) (mH y) ∧ oth_Bits (mK x) (fun _ => 1024) (mH y)
def mOkr_Stack (x : MB) : Prop := 2 ≤ mK x ∧ mK x ≤ 64 ∧ osh_Stack (mK x) (mH x) ∧ tbI (mF x) (mK x) (Cx x) ∧ bd (Cx x) (mK x) 4095
def nwr_Stack (x y : MB) : Prop := mK y = mK x ∧ mF y = mF x ∧ mS y = mS x ∧ osh_Stack (mK x) (mH y) ∧ oth_Stack (mK x) (sc (mK x) 4096 (Cx x)) (mH y)
def mOkr_Table (x : MB) : Prop := 2 ≤ mK x ∧ mK x ≤ 64 ∧ osh_Table (mK x) (mH x) ∧ tbI (mF x) (mK x) (Cx x) ∧ bd (Cx x) (mK x) 4095
def nwr_Table (x y : MB) : Prop := mK y = mK x ∧ mF y = mF x ∧ mS y = mS x ∧ osh_Table (mK x) (mH y) ∧ oth_Table (mK x) (sc (mK x) 512 (Cx x)) (mH y)
set_option maxHeartbeats 2000000 in
set_option maxRecDepth 100000 in
theorem f_RC_readF_Carries (l : Launch) (dC : Nat → ClassId) (dI : Nat → Nat → Nat) (cI cM cO : ClassId) (sz : Nat) (rc : Nat) (ma : Nat) (fit : Int32) (fen : Int32) (frd : Int32) (fbd : Int32) (fir : Int32) (mf : Nat → Option Nat) (co : Nat) (xcache : Int32) (xpending : Int32) (xlow : Int64) (xrange : Int64) (xcode : Int64) (xreadLow : Int64) (xreadRange : Int64) (ri : Nat) (ro : Nat) (rw : Nat) (xasked : Int32) (ria : Nat) (rik : Nat) (rif : Nat → Int32) (ms : List MB) (is : List Nat) (hk8 : ms.length ≤ 8) (hri : rOk (nI is.length) rik) (hmf : mfOk mf ms) (hmk : ∀ x ∈ ms, mbOk x) (hGri : gIs rif is) (hLri : is.length ≤ 6000) (hoct : oct is) (hms : ∀ x ∈ ms, mOkr_Carries x) : MetI l y_RC_read (Cond.code y_RC_read prog_1_method_12_code 5 (some .int) :: gw) ({ frames := 5, cells := 0, slots := 0, locals := 106 } : Room) (dC, dI) vwCl (kT cI cM cO) [Value.ref rc] ([(rc, Sum.inr (6, [Value.ref co, Value.ref ma, Value.int (nI ms.length), Value.int fit, Value.int fen, Value.int frd, Value.int fbd, Value.int fir])), (ma, Sum.inl (cM, 8, Sum.inr (Sum.inr (Sum.inr (Sum.inr mf))))), (co, Sum.inr (1, [Value.int xcache, Value.int xpending, Value.long xlow, Value.long xrange, Value.long xcode, Value.long xreadLow, Value.long xreadRange, Value.ref ri, Value.ref ro, Value.ref rw, Value.int xasked])), (ri, Sum.inr (0, [Value.int (nI is.length), Value.ref ria])), (ria, Sum.inl (cI, rik, Sum.inl rif))] ++ mbsC cI ms) sz (fun (r : Int32) (u : List MB) => u.map mbA = ms.map mbA ∧ (∀ x ∈ u, mbOk x) ∧ (∀ (i9 : Nat) (x9 y9 : MB), ms[i9]? = some x9 → u[i9]? = some y9 → nwr_Carries x9 y9) ∧ ms.length = u.length ∧ r = nI is.length) (fun (u : List MB) => ([(rc, Sum.inr (6, [Value.ref co, Value.ref ma, Value.int (nI ms.length), Value.int fit, Value.int fen, Value.int 1, Value.int 0, Value.int 0])), (ma, Sum.inl (cM, 8, Sum.inr (Sum.inr (Sum.inr (Sum.inr mf))))), (co, Sum.inr (1, [Value.int xcache, Value.int xpending, Value.long xlow, Value.long xrange, Value.long (lN (frN is 0 4)), Value.long (lN 0), Value.long (lN 4294967295), Value.ref ri, Value.ref ro, Value.ref rw, Value.int (nI 4)])), (ri, Sum.inr (0, [Value.int (nI is.length), Value.ref ria])), (ria, Sum.inl (cI, rik, Sum.inl rif))] ++ mbsC cI u)) 0 0 := by
  refine my_ofI (cc := prog_1_method_12_code) (n := 5) (ret := (some .int)) (by decide) rfl (Nat.le_of_ble_eq_true rfl) ?_
  intro p e s m args below meth c R Q A ls H locs hx hb hr hts hown hlocks hml hnm hR hQ hA hl hP hK hN hD hS
  have hg : ∀ w ∈ gw, w.before args s = true := fun w h => hts w (List.mem_cons_of_mem _ h)
  have hown : s.vm.findClass "RangeCoders" = some m.cls := hown
  have hl : lv_has ls 5 [(0, Value.ref rc)] := hl
  have hlt_hri := rOk_lt hri
  refine lv_aload_n hx hb d_RC_read_0 rfl (lv_at hl 0 rfl) ?_
  refine va_get (D := (dC, dI)) (ci := 6) (v := .ref ma) (C := "RangeCoders") (T := T_RC) (N := 8) hx hb hg in_RC hown hK hP 0 rfl rfl 1 (by decide) (hg _ k259) (fun _ h9 => h9) rfl d_RC_read_1 ?_
  refine lv_astore_n (lv' := [(1, Value.ref ma), (0, Value.ref rc)]) hx hb d_RC_read_4 rfl hl (by decide) rfl (fun ls hl => ?_)
  refine lv_aload_n hx hb d_RC_read_5 rfl (lv_at hl 0 rfl) ?_
  refine va_alen hx hb hK hP 1 1 rfl rfl (v := nI 8) rfl d_RC_read_6 ?_
  refine lv_istore_n (lv' := [(2, Value.int (nI 8)), (1, Value.ref ma), (0, Value.ref rc)]) hx hb d_RC_read_7 rfl hl (by decide) rfl (fun ls hl => ?_)
  refine lv_iconst (v := 0) hx hb d_RC_read_8 (by decide) ?_
  refine lv_istore_n (lv' := [(3, Value.int 0), (2, Value.int (nI 8)), (1, Value.ref ma), (0, Value.ref rc)]) hx hb d_RC_read_9 rfl hl (by decide) rfl (fun ls hl => ?_)
  have J_10 : ∀ (n9_10 : Nat) (i9 : Int32) (ii : Nat) (ms9 : List MB) (hn9_10 : 8 - ii = n9_10) (hi9 : i9 = nI ii) (hii : ii ≤ 8) (hma : ms9.map mbA = ms.map mbA) (hmo : ∀ x ∈ ms9, mbOk x) (hbg : bgI nwr_Carries ms ms9 ii) (hlm : ms.length = ms9.length) (H : Heap) (locs : List Loc) (ls : Array Slot), va_P (dC, dI) vwCl ([(rc, Sum.inr (6, [Value.ref co, Value.ref ma, Value.int (nI ms.length), Value.int fit, Value.int fen, Value.int frd, Value.int fbd, Value.int fir])), (ma, Sum.inl (cM, 8, Sum.inr (Sum.inr (Sum.inr (Sum.inr mf))))), (co, Sum.inr (1, [Value.int xcache, Value.int xpending, Value.long xlow, Value.long xrange, Value.long xcode, Value.long xreadLow, Value.long xreadRange, Value.ref ri, Value.ref ro, Value.ref rw, Value.int xasked])), (ri, Sum.inr (0, [Value.int (nI is.length), Value.ref ria])), (ria, Sum.inl (cI, rik, Sum.inl rif))] ++ mbsC cI ms9) H → va_D A ([(rc, Sum.inr (6, [Value.ref co, Value.ref ma, Value.int (nI ms.length), Value.int fit, Value.int fen, Value.int frd, Value.int fbd, Value.int fir])), (ma, Sum.inl (cM, 8, Sum.inr (Sum.inr (Sum.inr (Sum.inr mf))))), (co, Sum.inr (1, [Value.int xcache, Value.int xpending, Value.long xlow, Value.long xrange, Value.long xcode, Value.long xreadLow, Value.long xreadRange, Value.ref ri, Value.ref ro, Value.ref rw, Value.int xasked])), (ri, Sum.inr (0, [Value.int (nI is.length), Value.ref ria])), (ria, Sum.inl (cI, rik, Sum.inl rif))] ++ mbsC cI ms9) → va_S A s.heap H locs → lv_has ls 5 [(3, Value.int i9), (2, Value.int (nI 8)), (1, Value.ref ma), (0, Value.ref rc)] → W p l e R s m args below meth c H locs 0 0 Q (F0 m 10 ls []) := by
    intro n9_10
    induction n9_10 using Nat.strongRecOn with
    | ind n9_10 ih9_10 =>
      intro i9 ii ms9 hn9_10 hi9 hii hma hmo hbg hlm H locs ls hP hD hS hl
      refine lv_iload_n hx hb d_RC_read_10 rfl (lv_at hl 0 rfl) ?_
      refine lv_iload_n hx hb d_RC_read_11 rfl (lv_at hl 1 rfl) ?_
      refine lv_icmp_ge (tgt := 48) hx hb d_RC_read_12 (by decide) (fun c_1 => ?_) (fun c_1 => ?_)
      · refine lv_aload_n hx hb d_RC_read_48 rfl (lv_at hl 3 rfl) ?_
        refine lv_iconst (v := 1) hx hb d_RC_read_49 (by decide) ?_
        refine va_put (D := (dC, dI)) (ci := 6) (v := .int 1) (ty := .boolean) (C := "RangeCoders") (T := T_RC) (N := 8) hx hb hg in_RC t_RC o_RC n_RC hown hK hP hD hS 0 rfl rfl 5 (by decide) (hg _ k263) (fun _ h9 => h9) rfl (o_RC 5 (by decide)) rfl rfl (Nat.le_of_ble_eq_true rfl) d_RC_read_50 (fun H locs hP hD hS => ?_)
        have hPD : my_PD (dC, dI) vwCl A ([(rc, Sum.inr (6, [Value.ref co, Value.ref ma, Value.int (nI ms.length), Value.int fit, Value.int fen, Value.int 1, Value.int fbd, Value.int fir])), (ma, Sum.inl (cM, 8, Sum.inr (Sum.inr (Sum.inr (Sum.inr mf))))), (co, Sum.inr (1, [Value.int xcache, Value.int xpending, Value.long xlow, Value.long xrange, Value.long xcode, Value.long xreadLow, Value.long xreadRange, Value.ref ri, Value.ref ro, Value.ref rw, Value.int xasked])), (ri, Sum.inr (0, [Value.int (nI is.length), Value.ref ria])), (ria, Sum.inl (cI, rik, Sum.inl rif))] ++ mbsC cI ms9) H := ⟨hP, hD⟩
        have hP := hPD.1
        have hD := hPD.2
        refine lv_aload_n hx hb d_RC_read_53 rfl (lv_at hl 3 rfl) ?_
        refine lv_iconst (v := 0) hx hb d_RC_read_54 (by decide) ?_
        refine va_put (D := (dC, dI)) (ci := 6) (v := .int 0) (ty := .int) (C := "RangeCoders") (T := T_RC) (N := 8) hx hb hg in_RC t_RC o_RC n_RC hown hK hP hD hS 0 rfl rfl 7 (by decide) (hg _ k265) (fun _ h9 => h9) rfl (o_RC 7 (by decide)) rfl rfl (Nat.le_of_ble_eq_true rfl) d_RC_read_55 (fun H locs hP hD hS => ?_)
        have hPD : my_PD (dC, dI) vwCl A ([(rc, Sum.inr (6, [Value.ref co, Value.ref ma, Value.int (nI ms.length), Value.int fit, Value.int fen, Value.int 1, Value.int fbd, Value.int 0])), (ma, Sum.inl (cM, 8, Sum.inr (Sum.inr (Sum.inr (Sum.inr mf))))), (co, Sum.inr (1, [Value.int xcache, Value.int xpending, Value.long xlow, Value.long xrange, Value.long xcode, Value.long xreadLow, Value.long xreadRange, Value.ref ri, Value.ref ro, Value.ref rw, Value.int xasked])), (ri, Sum.inr (0, [Value.int (nI is.length), Value.ref ria])), (ria, Sum.inl (cI, rik, Sum.inl rif))] ++ mbsC cI ms9) H := ⟨hP, hD⟩
        have hP := hPD.1
        have hD := hPD.2
        refine lv_aload_n hx hb d_RC_read_58 rfl (lv_at hl 3 rfl) ?_
        refine lv_aload_n hx hb d_RC_read_59 rfl (lv_at hl 3 rfl) ?_
        refine va_get (D := (dC, dI)) (ci := 6) (v := .ref co) (C := "RangeCoders") (T := T_RC) (N := 8) hx hb hg in_RC hown hK hP 0 rfl rfl 0 (by decide) (hg _ k258) (fun _ h9 => h9) rfl d_RC_read_60 ?_
        refine my_cit (wr := [(rc, Sum.inr (6, [Value.ref co, Value.ref ma, Value.int (nI ms.length), Value.int fit, Value.int fen, Value.int 1, Value.int fbd, Value.int 0])), (ma, Sum.inl (cM, 8, Sum.inr (Sum.inr (Sum.inr (Sum.inr mf)))))]) (va_runU (As := []) (rest := [Value.ref rc]) ⟨hx, hb, hml, hown, hts⟩ (f_Carries_openReading l dC dI cI cM cO H.size co xcache xpending xlow xrange xcode xreadLow xreadRange ri ro rw xasked ria rik rif is (hri) (hGri) (hLri) (hoct)) (va_cwA 0 hts (my_gU k727 k729 k752 k731 k4 k732) rfl rfl rfl (hN.1 _ j728 rfl) (by decide +kernel) ⟨by rw [hR]; exact Nat.le_of_ble_eq_true rfl, by rw [hR]; exact Nat.le_of_ble_eq_true rfl⟩) (my_preV hK hN (my_subU hP [2, 3, 4] rfl) (my_dubT hD [2, 3, 4] (by decide +kernel) rfl) 0 rfl rfl) rfl rfl hl.1 rfl (lv_room (Nat.le_of_ble_eq_true rfl)) d_RC_read_63 ⟨by rw [hR]; exact Nat.le_of_ble_eq_true rfl, by rw [hR]; exact Nat.le_of_ble_eq_true rfl⟩) hP hD hS hA [2, 3, 4] [0, 1] rfl rfl (by decide +kernel) (by decide +kernel) (fun r_63 u9 H locs hw_63 hP hD hS => ?_)
        have hr_63 : r_63 = 1 := hw_63
        have hPD : my_PD (dC, dI) vwCl A ([(rc, Sum.inr (6, [Value.ref co, Value.ref ma, Value.int (nI ms.length), Value.int fit, Value.int fen, Value.int 1, Value.int fbd, Value.int 0])), (ma, Sum.inl (cM, 8, Sum.inr (Sum.inr (Sum.inr (Sum.inr mf))))), (co, Sum.inr (1, [Value.int xcache, Value.int xpending, Value.long xlow, Value.long xrange, Value.long (lN (frN is 0 4)), Value.long (lN 0), Value.long (lN 4294967295), Value.ref ri, Value.ref ro, Value.ref rw, Value.int (nI 4)])), (ri, Sum.inr (0, [Value.int (nI is.length), Value.ref ria])), (ria, Sum.inl (cI, rik, Sum.inl rif))] ++ mbsC cI ms9) H := ⟨hP, hD⟩
        have hP := hPD.1
        have hD := hPD.2
        refine lv_if_ne (tgt := 73) hx hb d_RC_read_66 (by decide) (fun c_2 => ?_) (fun c_2 => ?_)
        · refine lv_iconst (v := 0) hx hb d_RC_read_73 (by decide) ?_
          refine va_put (D := (dC, dI)) (ci := 6) (v := .int 0) (ty := .boolean) (C := "RangeCoders") (T := T_RC) (N := 8) hx hb hg in_RC t_RC o_RC n_RC hown hK hP hD hS 0 rfl rfl 6 (by decide) (hg _ k264) (fun _ h9 => h9) rfl (o_RC 6 (by decide)) rfl rfl (Nat.le_of_ble_eq_true rfl) d_RC_read_74 (fun H locs hP hD hS => ?_)
          have hPD : my_PD (dC, dI) vwCl A ([(rc, Sum.inr (6, [Value.ref co, Value.ref ma, Value.int (nI ms.length), Value.int fit, Value.int fen, Value.int 1, Value.int 0, Value.int 0])), (ma, Sum.inl (cM, 8, Sum.inr (Sum.inr (Sum.inr (Sum.inr mf))))), (co, Sum.inr (1, [Value.int xcache, Value.int xpending, Value.long xlow, Value.long xrange, Value.long (lN (frN is 0 4)), Value.long (lN 0), Value.long (lN 4294967295), Value.ref ri, Value.ref ro, Value.ref rw, Value.int (nI 4)])), (ri, Sum.inr (0, [Value.int (nI is.length), Value.ref ria])), (ria, Sum.inl (cI, rik, Sum.inl rif))] ++ mbsC cI ms9) H := ⟨hP, hD⟩
          have hP := hPD.1
          have hD := hPD.2
          refine lv_aload_n hx hb d_RC_read_77 rfl (lv_at hl 3 rfl) ?_
          refine va_get (D := (dC, dI)) (ci := 6) (v := .ref co) (C := "RangeCoders") (T := T_RC) (N := 8) hx hb hg in_RC hown hK hP 0 rfl rfl 0 (by decide) (hg _ k258) (fun _ h9 => h9) rfl d_RC_read_78 ?_
          refine va_get (D := (dC, dI)) (ci := 1) (v := .ref ri) (C := "RangeCoders$Carries") (T := T_Carries) (N := 11) hx hb hg in_Carries hown hK hP 2 rfl rfl 7 (by decide) (hg _ k102) (fun _ h9 => h9) rfl d_RC_read_81 ?_
          refine va_get (D := (dC, dI)) (ci := 0) (v := .int (nI is.length)) (C := "RangeCoders$Row") (T := T_Row) (N := 2) hx hb hg in_Row hown hK hP 3 rfl rfl 0 (by decide) (hg _ k58) (fun _ h9 => h9) rfl d_RC_read_84 ?_
          exact my_iret (v := nI is.length) hx hb hr (rfl) hlocks hQ hK hS (Nat.le_refl _) (Nat.le_refl _) (ms9) (⟨hma, hmo, bg_e (by rw [show (8 : Nat) = ii by have := nI_ge' (n := 8) (j := ii) (by omega) (by decide) (by rw [← hi9]; assumption); omega]; exact hbg) hk8, hlm, rfl⟩) (hP.part [0, 1, 2, 3, 4] rfl) (hD.part [0, 1, 2, 3, 4] (by decide +kernel) rfl) d_RC_read_87
        · exact absurd (hr_63.symm.trans c_2) (by decide)
      · refine lv_aload_n hx hb d_RC_read_15 rfl (lv_at hl 2 rfl) ?_
        refine lv_iload_n hx hb d_RC_read_16 rfl (lv_at hl 0 rfl) ?_
        have hi8 : ii < 8 := by
          rcases Nat.lt_or_ge ii 8 with z | z
          · exact z
          · exact absurd (by rw [hi9]; exact nI_le (a := 8) z (by omega)) c_1
        refine va_aldq hx hb hK hP 1 1 rfl rfl (by rw [hi9]; exact vp_in_nI hi8 (by decide)) d_RC_read_17 ?_
        rcases hq_a_3 : mf i9.toNatClampNeg with _ | a_3
        · refine W.eq (g2 := F0 m 18 ls [Value.null]) rfl ?_
          have hmf9 := mf_keep hmf hma
          have hnil : ms.length ≤ ii := by
            rcases Nat.lt_or_ge ii ms9.length with z | z
            · obtain ⟨a9, x9, b9, e9, hla⟩ := mb_at z
              subst e9
              rw [hi9, nI_clamp (by omega), ← hla, mf_some hmf9 (by omega)] at hq_a_3; cases hq_a_3
            · rw [hlm]; exact z
          refine lv_astoreN (lv' := [(4, Value.null), (3, Value.int i9), (2, Value.int (nI 8)), (1, Value.ref ma), (0, Value.ref rc)]) hx hb d_RC_read_18 hl (by decide) rfl (fun ls hl => ?_)
          refine lv_aloadN hx hb d_RC_read_20 (lv_at hl 0 rfl) ?_
          refine lv_ifnullN (tgt := 42) hx hb d_RC_read_22 (by decide) ?_
          obtain ⟨v_4, ev_4⟩ : ∃ y : Int32, y = i9 + (1) := ⟨_, rfl⟩
          refine lv_iinc (v := v_4) (lv' := [(3, Value.int v_4), (4, Value.null), (2, Value.int (nI 8)), (1, Value.ref ma), (0, Value.ref rc)]) hx hb d_RC_read_42 hl (k := 1) rfl (by rw [ev_4]; rfl) (by decide) rfl (fun ls hl => ?_)
          refine lv_goto (tgt := 10) hx hb d_RC_read_45 (by decide) ?_
          exact ih9_10 _ (by first | omega | (omega)) v_4 (ii + 1) ms9 rfl (by rw [ev_4, hi9]; exact nI_1 _) (by omega) (by assumption) (by assumption) (bg_no hbg (by rw [← hlm]; exact hnil)) (hlm) H locs ls (hP.part [0, 1, 2, 3, 4] rfl) (hD.part [0, 1, 2, 3, 4] (by decide +kernel) rfl) hS (lv_sub hl [0, 2, 3, 4] rfl)
        · refine W.eq (g2 := F0 m 18 ls [Value.ref a_3]) rfl ?_
          have hmf9 := mf_keep hmf hma
          have hil : ii < ms9.length := by
            rcases Nat.lt_or_ge ii ms9.length with z | z
            · exact z
            · rw [hi9, nI_clamp (by omega), mf_none hmf9 hi8 z] at hq_a_3; cases hq_a_3
          obtain ⟨a9, x9, b9, e9, hla⟩ := mb_at hil
          subst e9
          obtain ⟨mo9, ka9, kl9, kf9, ⟨oo9, osg9, osm9, ofc9, oca9, opa9, ol9, ocf9, opl9, opf9⟩, ⟨pp9, psg9, psm9, pfc9, pca9, ppa9, pl9, pcf9, ppl9, ppf9⟩⟩ := x9
          have hax : a_3 = mo9 := by
            rw [hi9, nI_clamp (by omega), ← hla, mf_some hmf9 (by omega)] at hq_a_3
            exact (Option.some.inj hq_a_3).symm
          subst hax
          obtain ⟨hk64, ⟨ho1, ho2, ho3⟩, ⟨hp1, hp2, hp3⟩⟩ := ok_mid hmo
          have hP := pm_P hP (mb_out cI [(rc, Sum.inr (6, [Value.ref co, Value.ref ma, Value.int (nI ms.length), Value.int fit, Value.int fen, Value.int frd, Value.int fbd, Value.int fir])), (ma, Sum.inl (cM, 8, Sum.inr (Sum.inr (Sum.inr (Sum.inr mf))))), (co, Sum.inr (1, [Value.int xcache, Value.int xpending, Value.long xlow, Value.long xrange, Value.long xcode, Value.long xreadLow, Value.long xreadRange, Value.ref ri, Value.ref ro, Value.ref rw, Value.int xasked])), (ri, Sum.inr (0, [Value.int (nI is.length), Value.ref ria])), (ria, Sum.inl (cI, rik, Sum.inl rif))] a9 b9 (a_3, ka9, kl9, kf9, (oo9, osg9, osm9, ofc9, oca9, opa9, ol9, ocf9, opl9, opf9), (pp9, psg9, psm9, pfc9, pca9, ppa9, pl9, pcf9, ppl9, ppf9)))
          have hD := pm_D hD (mb_out cI [(rc, Sum.inr (6, [Value.ref co, Value.ref ma, Value.int (nI ms.length), Value.int fit, Value.int fen, Value.int frd, Value.int fbd, Value.int fir])), (ma, Sum.inl (cM, 8, Sum.inr (Sum.inr (Sum.inr (Sum.inr mf))))), (co, Sum.inr (1, [Value.int xcache, Value.int xpending, Value.long xlow, Value.long xrange, Value.long xcode, Value.long xreadLow, Value.long xreadRange, Value.ref ri, Value.ref ro, Value.ref rw, Value.int xasked])), (ri, Sum.inr (0, [Value.int (nI is.length), Value.ref ria])), (ria, Sum.inl (cI, rik, Sum.inl rif))] a9 b9 (a_3, ka9, kl9, kf9, (oo9, osg9, osm9, ofc9, oca9, opa9, ol9, ocf9, opl9, opf9), (pp9, psg9, psm9, pfc9, pca9, ppa9, pl9, pcf9, ppl9, ppf9)))
          have hPD : my_PD (dC, dI) vwCl A ([(rc, Sum.inr (6, [Value.ref co, Value.ref ma, Value.int (nI ms.length), Value.int fit, Value.int fen, Value.int frd, Value.int fbd, Value.int fir])), (ma, Sum.inl (cM, 8, Sum.inr (Sum.inr (Sum.inr (Sum.inr mf))))), (co, Sum.inr (1, [Value.int xcache, Value.int xpending, Value.long xlow, Value.long xrange, Value.long xcode, Value.long xreadLow, Value.long xreadRange, Value.ref ri, Value.ref ro, Value.ref rw, Value.int xasked])), (ri, Sum.inr (0, [Value.int (nI is.length), Value.ref ria])), (ria, Sum.inl (cI, rik, Sum.inl rif)), (a_3, Sum.inr (8, [Value.ref ka9, Value.ref oo9, Value.ref pp9])), (ka9, Sum.inl (cI, kl9, Sum.inl kf9)), (oo9, Sum.inr (7, [Value.int osg9, Value.int osm9, Value.int ofc9, Value.ref oca9, Value.ref opa9])), (oca9, Sum.inl (cI, ol9, Sum.inl ocf9)), (opa9, Sum.inl (cI, opl9, Sum.inl opf9)), (pp9, Sum.inr (7, [Value.int psg9, Value.int psm9, Value.int pfc9, Value.ref pca9, Value.ref ppa9])), (pca9, Sum.inl (cI, pl9, Sum.inl pcf9)), (ppa9, Sum.inl (cI, ppl9, Sum.inl ppf9))] ++ (mbsC cI a9 ++ mbsC cI b9)) H := ⟨hP, hD⟩
          have hP := hPD.1
          have hD := hPD.2
          rw [← hla] at hbg
          obtain ⟨hx1, hx2, ⟨hx3, hx4, hx5, hx6⟩, hx7, hx8⟩ := hms ((a_3, ka9, kl9, kf9, (oo9, osg9, osm9, ofc9, oca9, opa9, ol9, ocf9, opl9, opf9), (pp9, psg9, psm9, pfc9, pca9, ppa9, pl9, pcf9, ppl9, ppf9)) : MB) (List.mem_of_getElem? (bg_x hbg hlm))
          have hx3 : psg9 = nI kl9 := hx3
          skip
          subst hx3
          have hx4 : pfc9 = 0 := hx4
          skip
          subst hx4
          have hx5 : pl9 = kl9 := hx5
          have hx5 := hx5.symm
          subst hx5
          have hx6 : ppl9 = 0 := hx6
          skip
          subst hx6
          have hPD : my_PD (dC, dI) vwCl A ([(rc, Sum.inr (6, [Value.ref co, Value.ref ma, Value.int (nI ms.length), Value.int fit, Value.int fen, Value.int frd, Value.int fbd, Value.int fir])), (ma, Sum.inl (cM, 8, Sum.inr (Sum.inr (Sum.inr (Sum.inr mf))))), (co, Sum.inr (1, [Value.int xcache, Value.int xpending, Value.long xlow, Value.long xrange, Value.long xcode, Value.long xreadLow, Value.long xreadRange, Value.ref ri, Value.ref ro, Value.ref rw, Value.int xasked])), (ri, Sum.inr (0, [Value.int (nI is.length), Value.ref ria])), (ria, Sum.inl (cI, rik, Sum.inl rif)), (a_3, Sum.inr (8, [Value.ref ka9, Value.ref oo9, Value.ref pp9])), (ka9, Sum.inl (cI, kl9, Sum.inl kf9)), (oo9, Sum.inr (7, [Value.int osg9, Value.int osm9, Value.int ofc9, Value.ref oca9, Value.ref opa9])), (oca9, Sum.inl (cI, ol9, Sum.inl ocf9)), (opa9, Sum.inl (cI, opl9, Sum.inl opf9)), (pp9, Sum.inr (7, [Value.int (nI kl9), Value.int psm9, Value.int 0, Value.ref pca9, Value.ref ppa9])), (pca9, Sum.inl (cI, kl9, Sum.inl pcf9)), (ppa9, Sum.inl (cI, 0, Sum.inl ppf9))] ++ (mbsC cI a9 ++ mbsC cI b9)) H := ⟨hP, hD⟩
          have hP := hPD.1
          have hD := hPD.2
          refine lv_astore (lv' := [(4, Value.ref a_3), (3, Value.int i9), (2, Value.int (nI 8)), (1, Value.ref ma), (0, Value.ref rc)]) hx hb d_RC_read_18 hl (by decide) rfl (fun ls hl => ?_)
          refine lv_aload hx hb d_RC_read_20 (lv_at hl 0 rfl) ?_
          refine lv_ifnull hx hb d_RC_read_22 ?_
          refine lv_aload_n hx hb d_RC_read_25 rfl (lv_at hl 4 rfl) ?_
          refine va_get (D := (dC, dI)) (ci := 6) (v := .ref co) (C := "RangeCoders") (T := T_RC) (N := 8) hx hb hg in_RC hown hK hP 0 rfl rfl 0 (by decide) (hg _ k258) (fun _ h9 => h9) rfl d_RC_read_26 ?_
          refine lv_aload hx hb d_RC_read_29 (lv_at hl 0 rfl) ?_
          refine va_get (D := (dC, dI)) (ci := 8) (v := .ref pp9) (C := "RangeCoders$Model") (T := T_Model) (N := 3) hx hb hg in_Model hown hK hP 5 rfl rfl 2 (by decide) (hg _ k345) (fun _ h9 => h9) rfl d_RC_read_31 ?_
          refine lv_aload hx hb d_RC_read_34 (lv_at hl 0 rfl) ?_
          refine va_get (D := (dC, dI)) (ci := 8) (v := .ref ka9) (C := "RangeCoders$Model") (T := T_Model) (N := 3) hx hb hg in_Model hown hK hP 5 rfl rfl 0 (by decide) (hg _ k341) (fun _ h9 => h9) rfl d_RC_read_36 ?_
          refine my_cvt (wr := [(rc, Sum.inr (6, [Value.ref co, Value.ref ma, Value.int (nI ms.length), Value.int fit, Value.int fen, Value.int frd, Value.int fbd, Value.int fir])), (ma, Sum.inl (cM, 8, Sum.inr (Sum.inr (Sum.inr (Sum.inr mf))))), (ri, Sum.inr (0, [Value.int (nI is.length), Value.ref ria])), (ria, Sum.inl (cI, rik, Sum.inl rif)), (a_3, Sum.inr (8, [Value.ref ka9, Value.ref oo9, Value.ref pp9])), (oo9, Sum.inr (7, [Value.int osg9, Value.int osm9, Value.int ofc9, Value.ref oca9, Value.ref opa9])), (oca9, Sum.inl (cI, ol9, Sum.inl ocf9)), (opa9, Sum.inl (cI, opl9, Sum.inl opf9))]) (va_runU (As := [Value.ref pp9, Value.ref ka9]) (rest := []) ⟨hx, hb, hml, hown, hts⟩ (f_Carries_prepare l dC dI cI cM cO H.size co xcache xpending xlow xrange xcode xreadLow xreadRange ri ro rw xasked pp9 (nI kl9) 0 pca9 ppa9 kl9 pcf9 0 ppf9 psm9 ka9 kf9 (Cx ((a_3, ka9, kl9, kf9, (oo9, osg9, osm9, ofc9, oca9, opa9, ol9, ocf9, opl9, opf9), (pp9, nI kl9, psm9, 0, pca9, ppa9, kl9, pcf9, 0, ppf9)) : MB)) (hx2) (by decide) (hx7) (hx8)) (va_cwA 2 hts (my_gU k353 k355 k364 k365 k4 k366) rfl rfl rfl (hN.1 _ j354 rfl) (by decide +kernel) ⟨by rw [hR]; exact Nat.le_of_ble_eq_true rfl, by rw [hR]; exact Nat.le_of_ble_eq_true rfl⟩) (my_preV hK hN (my_subU hP [2, 10, 11, 12, 6] rfl) (my_dubT hD [2, 10, 11, 12, 6] (by decide +kernel) rfl) 0 rfl rfl) rfl rfl hl.1 rfl (lv_room (Nat.le_of_ble_eq_true rfl)) d_RC_read_39 ⟨by rw [hR]; exact Nat.le_of_ble_eq_true rfl, by rw [hR]; exact Nat.le_of_ble_eq_true rfl⟩) hP hD hS hA [2, 10, 11, 12, 6] [0, 1, 3, 4, 5, 7, 8, 9] rfl rfl (by decide +kernel) (by decide +kernel) (fun u9 H locs hw_39 hP hD hS => ?_)
          obtain ⟨ocfq_39, rfl⟩ : ∃ z, z = u9 := ⟨_, rfl⟩
          have hf_39 : tbI ocfq_39 kl9 (les kl9 (Cx ((a_3, ka9, kl9, kf9, (oo9, osg9, osm9, ofc9, oca9, opa9, ol9, ocf9, opl9, opf9), (pp9, nI kl9, psm9, 0, pca9, ppa9, kl9, pcf9, 0, ppf9)) : MB))) := hw_39
          have hPD : my_PD (dC, dI) vwCl A ([(rc, Sum.inr (6, [Value.ref co, Value.ref ma, Value.int (nI ms.length), Value.int fit, Value.int fen, Value.int frd, Value.int fbd, Value.int fir])), (ma, Sum.inl (cM, 8, Sum.inr (Sum.inr (Sum.inr (Sum.inr mf))))), (ri, Sum.inr (0, [Value.int (nI is.length), Value.ref ria])), (ria, Sum.inl (cI, rik, Sum.inl rif)), (a_3, Sum.inr (8, [Value.ref ka9, Value.ref oo9, Value.ref pp9])), (oo9, Sum.inr (7, [Value.int osg9, Value.int osm9, Value.int ofc9, Value.ref oca9, Value.ref opa9])), (oca9, Sum.inl (cI, ol9, Sum.inl ocf9)), (opa9, Sum.inl (cI, opl9, Sum.inl opf9)), (co, Sum.inr (1, [Value.int xcache, Value.int xpending, Value.long xlow, Value.long xrange, Value.long xcode, Value.long xreadLow, Value.long xreadRange, Value.ref ri, Value.ref ro, Value.ref rw, Value.int xasked])), (pp9, Sum.inr (7, [Value.int (nI kl9), Value.int (nI (ns (les kl9 (Cx ((a_3, ka9, kl9, kf9, (oo9, osg9, osm9, ofc9, oca9, opa9, ol9, ocf9, opl9, opf9), (pp9, nI kl9, psm9, 0, pca9, ppa9, kl9, pcf9, 0, ppf9)) : MB))) kl9)), Value.int 0, Value.ref pca9, Value.ref ppa9])), (pca9, Sum.inl (cI, kl9, Sum.inl ocfq_39)), (ppa9, Sum.inl (cI, 0, Sum.inl ppf9)), (ka9, Sum.inl (cI, kl9, Sum.inl kf9))] ++ (mbsC cI a9 ++ mbsC cI b9)) H := ⟨hP, hD⟩
          have hP := hPD.1
          have hD := hPD.2
          have hP := pm_P (hP.part [0, 1, 8, 2, 3, 4, 12, 5, 6, 7, 9, 10, 11] rfl : va_P (dC, dI) vwCl ([(rc, Sum.inr (6, [Value.ref co, Value.ref ma, Value.int (nI ms.length), Value.int fit, Value.int fen, Value.int frd, Value.int fbd, Value.int fir])), (ma, Sum.inl (cM, 8, Sum.inr (Sum.inr (Sum.inr (Sum.inr mf))))), (co, Sum.inr (1, [Value.int xcache, Value.int xpending, Value.long xlow, Value.long xrange, Value.long xcode, Value.long xreadLow, Value.long xreadRange, Value.ref ri, Value.ref ro, Value.ref rw, Value.int xasked])), (ri, Sum.inr (0, [Value.int (nI is.length), Value.ref ria])), (ria, Sum.inl (cI, rik, Sum.inl rif)), (a_3, Sum.inr (8, [Value.ref ka9, Value.ref oo9, Value.ref pp9])), (ka9, Sum.inl (cI, kl9, Sum.inl kf9)), (oo9, Sum.inr (7, [Value.int osg9, Value.int osm9, Value.int ofc9, Value.ref oca9, Value.ref opa9])), (oca9, Sum.inl (cI, ol9, Sum.inl ocf9)), (opa9, Sum.inl (cI, opl9, Sum.inl opf9)), (pp9, Sum.inr (7, [Value.int (nI kl9), Value.int (nI (ns (les kl9 (Cx ((a_3, ka9, kl9, kf9, (oo9, osg9, osm9, ofc9, oca9, opa9, ol9, ocf9, opl9, opf9), (pp9, nI kl9, psm9, 0, pca9, ppa9, kl9, pcf9, 0, ppf9)) : MB))) kl9)), Value.int 0, Value.ref pca9, Value.ref ppa9])), (pca9, Sum.inl (cI, kl9, Sum.inl ocfq_39)), (ppa9, Sum.inl (cI, 0, Sum.inl ppf9))] ++ (mbsC cI a9 ++ mbsC cI b9)) H) (mb_out cI [(rc, Sum.inr (6, [Value.ref co, Value.ref ma, Value.int (nI ms.length), Value.int fit, Value.int fen, Value.int frd, Value.int fbd, Value.int fir])), (ma, Sum.inl (cM, 8, Sum.inr (Sum.inr (Sum.inr (Sum.inr mf))))), (co, Sum.inr (1, [Value.int xcache, Value.int xpending, Value.long xlow, Value.long xrange, Value.long xcode, Value.long xreadLow, Value.long xreadRange, Value.ref ri, Value.ref ro, Value.ref rw, Value.int xasked])), (ri, Sum.inr (0, [Value.int (nI is.length), Value.ref ria])), (ria, Sum.inl (cI, rik, Sum.inl rif))] a9 b9 ((a_3, ka9, kl9, kf9, (oo9, osg9, osm9, ofc9, oca9, opa9, ol9, ocf9, opl9, opf9), (pp9, (nI kl9), (nI (ns (les kl9 (Cx ((a_3, ka9, kl9, kf9, (oo9, osg9, osm9, ofc9, oca9, opa9, ol9, ocf9, opl9, opf9), (pp9, nI kl9, psm9, 0, pca9, ppa9, kl9, pcf9, 0, ppf9)) : MB))) kl9)), 0, pca9, ppa9, kl9, ocfq_39, 0, ppf9)) : MB)).symm
          have hD := pm_D (hD.part [0, 1, 8, 2, 3, 4, 12, 5, 6, 7, 9, 10, 11] (by decide +kernel) rfl : va_D A ([(rc, Sum.inr (6, [Value.ref co, Value.ref ma, Value.int (nI ms.length), Value.int fit, Value.int fen, Value.int frd, Value.int fbd, Value.int fir])), (ma, Sum.inl (cM, 8, Sum.inr (Sum.inr (Sum.inr (Sum.inr mf))))), (co, Sum.inr (1, [Value.int xcache, Value.int xpending, Value.long xlow, Value.long xrange, Value.long xcode, Value.long xreadLow, Value.long xreadRange, Value.ref ri, Value.ref ro, Value.ref rw, Value.int xasked])), (ri, Sum.inr (0, [Value.int (nI is.length), Value.ref ria])), (ria, Sum.inl (cI, rik, Sum.inl rif)), (a_3, Sum.inr (8, [Value.ref ka9, Value.ref oo9, Value.ref pp9])), (ka9, Sum.inl (cI, kl9, Sum.inl kf9)), (oo9, Sum.inr (7, [Value.int osg9, Value.int osm9, Value.int ofc9, Value.ref oca9, Value.ref opa9])), (oca9, Sum.inl (cI, ol9, Sum.inl ocf9)), (opa9, Sum.inl (cI, opl9, Sum.inl opf9)), (pp9, Sum.inr (7, [Value.int (nI kl9), Value.int (nI (ns (les kl9 (Cx ((a_3, ka9, kl9, kf9, (oo9, osg9, osm9, ofc9, oca9, opa9, ol9, ocf9, opl9, opf9), (pp9, nI kl9, psm9, 0, pca9, ppa9, kl9, pcf9, 0, ppf9)) : MB))) kl9)), Value.int 0, Value.ref pca9, Value.ref ppa9])), (pca9, Sum.inl (cI, kl9, Sum.inl ocfq_39)), (ppa9, Sum.inl (cI, 0, Sum.inl ppf9))] ++ (mbsC cI a9 ++ mbsC cI b9))) (mb_out cI [(rc, Sum.inr (6, [Value.ref co, Value.ref ma, Value.int (nI ms.length), Value.int fit, Value.int fen, Value.int frd, Value.int fbd, Value.int fir])), (ma, Sum.inl (cM, 8, Sum.inr (Sum.inr (Sum.inr (Sum.inr mf))))), (co, Sum.inr (1, [Value.int xcache, Value.int xpending, Value.long xlow, Value.long xrange, Value.long xcode, Value.long xreadLow, Value.long xreadRange, Value.ref ri, Value.ref ro, Value.ref rw, Value.int xasked])), (ri, Sum.inr (0, [Value.int (nI is.length), Value.ref ria])), (ria, Sum.inl (cI, rik, Sum.inl rif))] a9 b9 ((a_3, ka9, kl9, kf9, (oo9, osg9, osm9, ofc9, oca9, opa9, ol9, ocf9, opl9, opf9), (pp9, (nI kl9), (nI (ns (les kl9 (Cx ((a_3, ka9, kl9, kf9, (oo9, osg9, osm9, ofc9, oca9, opa9, ol9, ocf9, opl9, opf9), (pp9, nI kl9, psm9, 0, pca9, ppa9, kl9, pcf9, 0, ppf9)) : MB))) kl9)), 0, pca9, ppa9, kl9, ocfq_39, 0, ppf9)) : MB)).symm
          have hma2 : (a9 ++ ((a_3, ka9, kl9, kf9, (oo9, osg9, osm9, ofc9, oca9, opa9, ol9, ocf9, opl9, opf9), (pp9, (nI kl9), (nI (ns (les kl9 (Cx ((a_3, ka9, kl9, kf9, (oo9, osg9, osm9, ofc9, oca9, opa9, ol9, ocf9, opl9, opf9), (pp9, nI kl9, psm9, 0, pca9, ppa9, kl9, pcf9, 0, ppf9)) : MB))) kl9)), 0, pca9, ppa9, kl9, ocfq_39, 0, ppf9)) : MB) :: b9).map mbA = ms.map mbA := by refine (mb_set (f := mbA) ?_).trans hma; rfl
          have hmo2 : ∀ x ∈ a9 ++ ((a_3, ka9, kl9, kf9, (oo9, osg9, osm9, ofc9, oca9, opa9, ol9, ocf9, opl9, opf9), (pp9, (nI kl9), (nI (ns (les kl9 (Cx ((a_3, ka9, kl9, kf9, (oo9, osg9, osm9, ofc9, oca9, opa9, ol9, ocf9, opl9, opf9), (pp9, nI kl9, psm9, 0, pca9, ppa9, kl9, pcf9, 0, ppf9)) : MB))) kl9)), 0, pca9, ppa9, kl9, ocfq_39, 0, ppf9)) : MB) :: b9, mbOk x := ok_set hmo ⟨hk64, ⟨ho1, ho2, ho3⟩, ⟨hp1, hp2, hp3⟩⟩
          have hPD : my_PD (dC, dI) vwCl A ([(rc, Sum.inr (6, [Value.ref co, Value.ref ma, Value.int (nI ms.length), Value.int fit, Value.int fen, Value.int frd, Value.int fbd, Value.int fir])), (ma, Sum.inl (cM, 8, Sum.inr (Sum.inr (Sum.inr (Sum.inr mf))))), (co, Sum.inr (1, [Value.int xcache, Value.int xpending, Value.long xlow, Value.long xrange, Value.long xcode, Value.long xreadLow, Value.long xreadRange, Value.ref ri, Value.ref ro, Value.ref rw, Value.int xasked])), (ri, Sum.inr (0, [Value.int (nI is.length), Value.ref ria])), (ria, Sum.inl (cI, rik, Sum.inl rif))] ++ mbsC cI (a9 ++ ((a_3, ka9, kl9, kf9, (oo9, osg9, osm9, ofc9, oca9, opa9, ol9, ocf9, opl9, opf9), (pp9, (nI kl9), (nI (ns (les kl9 (Cx ((a_3, ka9, kl9, kf9, (oo9, osg9, osm9, ofc9, oca9, opa9, ol9, ocf9, opl9, opf9), (pp9, nI kl9, psm9, 0, pca9, ppa9, kl9, pcf9, 0, ppf9)) : MB))) kl9)), 0, pca9, ppa9, kl9, ocfq_39, 0, ppf9)) : MB) :: b9)) H := ⟨hP, hD⟩
          have hP := hPD.1
          have hD := hPD.2
          have hbg2 : bgI nwr_Carries ms (a9 ++ ((a_3, ka9, kl9, kf9, (oo9, osg9, osm9, ofc9, oca9, opa9, ol9, ocf9, opl9, opf9), (pp9, (nI kl9), (nI (ns (les kl9 (Cx ((a_3, ka9, kl9, kf9, (oo9, osg9, osm9, ofc9, oca9, opa9, ol9, ocf9, opl9, opf9), (pp9, nI kl9, psm9, 0, pca9, ppa9, kl9, pcf9, 0, ppf9)) : MB))) kl9)), 0, pca9, ppa9, kl9, ocfq_39, 0, ppf9)) : MB) :: b9) (a9.length + 1) := bg_st hbg hlm ⟨rfl, rfl, rfl, ⟨rfl, rfl, rfl, rfl⟩, ⟨hf_39, rfl⟩⟩
          rw [hla] at hbg2
          have hlm2 : ms.length = (a9 ++ ((a_3, ka9, kl9, kf9, (oo9, osg9, osm9, ofc9, oca9, opa9, ol9, ocf9, opl9, opf9), (pp9, (nI kl9), (nI (ns (les kl9 (Cx ((a_3, ka9, kl9, kf9, (oo9, osg9, osm9, ofc9, oca9, opa9, ol9, ocf9, opl9, opf9), (pp9, nI kl9, psm9, 0, pca9, ppa9, kl9, pcf9, 0, ppf9)) : MB))) kl9)), 0, pca9, ppa9, kl9, ocfq_39, 0, ppf9)) : MB) :: b9).length := by rw [hlm, List.length_append, List.length_append]; rfl
          obtain ⟨v_5, ev_5⟩ : ∃ y : Int32, y = i9 + (1) := ⟨_, rfl⟩
          refine lv_iinc (v := v_5) (lv' := [(3, Value.int v_5), (4, Value.ref a_3), (2, Value.int (nI 8)), (1, Value.ref ma), (0, Value.ref rc)]) hx hb d_RC_read_42 hl (k := 1) rfl (by rw [ev_5]; rfl) (by decide) rfl (fun ls hl => ?_)
          refine lv_goto (tgt := 10) hx hb d_RC_read_45 (by decide) ?_
          exact ih9_10 _ (by first | omega | (omega)) v_5 (ii + 1) (a9 ++ ((a_3, ka9, kl9, kf9, (oo9, osg9, osm9, ofc9, oca9, opa9, ol9, ocf9, opl9, opf9), (pp9, (nI kl9), (nI (ns (les kl9 (Cx ((a_3, ka9, kl9, kf9, (oo9, osg9, osm9, ofc9, oca9, opa9, ol9, ocf9, opl9, opf9), (pp9, nI kl9, psm9, 0, pca9, ppa9, kl9, pcf9, 0, ppf9)) : MB))) kl9)), 0, pca9, ppa9, kl9, ocfq_39, 0, ppf9)) : MB) :: b9) rfl (by rw [ev_5, hi9]; exact nI_1 _) (by omega) (hma2) (hmo2) (hbg2) (hlm2) H locs ls (hP.part [0, 1, 2, 3, 4] rfl) (hD.part [0, 1, 2, 3, 4] (by decide +kernel) rfl) hS (lv_sub hl [0, 2, 3, 4] rfl)
  exact J_10 _ (0 : Int32) (0 : Nat) ms rfl (rfl) (by omega) (rfl) (hmk) (bg_0 ms) (rfl) H locs ls (hP.part [0, 1, 2, 3, 4] rfl) (hD.part [0, 1, 2, 3, 4] (by decide +kernel) rfl) hS (lv_sub hl [0, 1, 2, 3] rfl)
set_option maxHeartbeats 2000000 in
set_option maxRecDepth 100000 in
theorem f_RC_readF_NoCarries (l : Launch) (dC : Nat → ClassId) (dI : Nat → Nat → Nat) (cI cM cO : ClassId) (sz : Nat) (rc : Nat) (ma : Nat) (fit : Int32) (fen : Int32) (frd : Int32) (fbd : Int32) (fir : Int32) (mf : Nat → Option Nat) (co : Nat) (xlow : Int64) (xrange : Int64) (xcode : Int64) (xreadLow : Int64) (xreadRange : Int64) (ri : Nat) (ro : Nat) (rw : Nat) (xasked : Int32) (ria : Nat) (rik : Nat) (rif : Nat → Int32) (ms : List MB) (is : List Nat) (hk8 : ms.length ≤ 8) (hri : rOk (nI is.length) rik) (hmf : mfOk mf ms) (hmk : ∀ x ∈ ms, mbOk x) (hGri : gIs rif is) (hLri : is.length ≤ 6000) (hoct : oct is) (hms : ∀ x ∈ ms, mOkr_NoCarries x) : MetI l y_RC_read (Cond.code y_RC_read prog_1_method_12_code 5 (some .int) :: gw) ({ frames := 5, cells := 0, slots := 0, locals := 106 } : Room) (dC, dI) vwCl (kT cI cM cO) [Value.ref rc] ([(rc, Sum.inr (6, [Value.ref co, Value.ref ma, Value.int (nI ms.length), Value.int fit, Value.int fen, Value.int frd, Value.int fbd, Value.int fir])), (ma, Sum.inl (cM, 8, Sum.inr (Sum.inr (Sum.inr (Sum.inr mf))))), (co, Sum.inr (2, [Value.long xlow, Value.long xrange, Value.long xcode, Value.long xreadLow, Value.long xreadRange, Value.ref ri, Value.ref ro, Value.ref rw, Value.int xasked])), (ri, Sum.inr (0, [Value.int (nI is.length), Value.ref ria])), (ria, Sum.inl (cI, rik, Sum.inl rif))] ++ mbsC cI ms) sz (fun (r : Int32) (u : List MB) => u.map mbA = ms.map mbA ∧ (∀ x ∈ u, mbOk x) ∧ (∀ (i9 : Nat) (x9 y9 : MB), ms[i9]? = some x9 → u[i9]? = some y9 → nwr_NoCarries x9 y9) ∧ ms.length = u.length ∧ r = nI is.length) (fun (u : List MB) => ([(rc, Sum.inr (6, [Value.ref co, Value.ref ma, Value.int (nI ms.length), Value.int fit, Value.int fen, Value.int 1, Value.int 0, Value.int 0])), (ma, Sum.inl (cM, 8, Sum.inr (Sum.inr (Sum.inr (Sum.inr mf))))), (co, Sum.inr (2, [Value.long xlow, Value.long xrange, Value.long (lN (frN is 0 4)), Value.long (lN 0), Value.long (lN 4294967295), Value.ref ri, Value.ref ro, Value.ref rw, Value.int (nI 4)])), (ri, Sum.inr (0, [Value.int (nI is.length), Value.ref ria])), (ria, Sum.inl (cI, rik, Sum.inl rif))] ++ mbsC cI u)) 0 0 := by
  refine my_ofI (cc := prog_1_method_12_code) (n := 5) (ret := (some .int)) (by decide) rfl (Nat.le_of_ble_eq_true rfl) ?_
  intro p e s m args below meth c R Q A ls H locs hx hb hr hts hown hlocks hml hnm hR hQ hA hl hP hK hN hD hS
  have hg : ∀ w ∈ gw, w.before args s = true := fun w h => hts w (List.mem_cons_of_mem _ h)
  have hown : s.vm.findClass "RangeCoders" = some m.cls := hown
  have hl : lv_has ls 5 [(0, Value.ref rc)] := hl
  have hlt_hri := rOk_lt hri
  refine lv_aload_n hx hb d_RC_read_0 rfl (lv_at hl 0 rfl) ?_
  refine va_get (D := (dC, dI)) (ci := 6) (v := .ref ma) (C := "RangeCoders") (T := T_RC) (N := 8) hx hb hg in_RC hown hK hP 0 rfl rfl 1 (by decide) (hg _ k259) (fun _ h9 => h9) rfl d_RC_read_1 ?_
  refine lv_astore_n (lv' := [(1, Value.ref ma), (0, Value.ref rc)]) hx hb d_RC_read_4 rfl hl (by decide) rfl (fun ls hl => ?_)
  refine lv_aload_n hx hb d_RC_read_5 rfl (lv_at hl 0 rfl) ?_
  refine va_alen hx hb hK hP 1 1 rfl rfl (v := nI 8) rfl d_RC_read_6 ?_
  refine lv_istore_n (lv' := [(2, Value.int (nI 8)), (1, Value.ref ma), (0, Value.ref rc)]) hx hb d_RC_read_7 rfl hl (by decide) rfl (fun ls hl => ?_)
  refine lv_iconst (v := 0) hx hb d_RC_read_8 (by decide) ?_
  refine lv_istore_n (lv' := [(3, Value.int 0), (2, Value.int (nI 8)), (1, Value.ref ma), (0, Value.ref rc)]) hx hb d_RC_read_9 rfl hl (by decide) rfl (fun ls hl => ?_)
  have J_10 : ∀ (n9_10 : Nat) (i9 : Int32) (ii : Nat) (ms9 : List MB) (hn9_10 : 8 - ii = n9_10) (hi9 : i9 = nI ii) (hii : ii ≤ 8) (hma : ms9.map mbA = ms.map mbA) (hmo : ∀ x ∈ ms9, mbOk x) (hbg : bgI nwr_NoCarries ms ms9 ii) (hlm : ms.length = ms9.length) (H : Heap) (locs : List Loc) (ls : Array Slot), va_P (dC, dI) vwCl ([(rc, Sum.inr (6, [Value.ref co, Value.ref ma, Value.int (nI ms.length), Value.int fit, Value.int fen, Value.int frd, Value.int fbd, Value.int fir])), (ma, Sum.inl (cM, 8, Sum.inr (Sum.inr (Sum.inr (Sum.inr mf))))), (co, Sum.inr (2, [Value.long xlow, Value.long xrange, Value.long xcode, Value.long xreadLow, Value.long xreadRange, Value.ref ri, Value.ref ro, Value.ref rw, Value.int xasked])), (ri, Sum.inr (0, [Value.int (nI is.length), Value.ref ria])), (ria, Sum.inl (cI, rik, Sum.inl rif))] ++ mbsC cI ms9) H → va_D A ([(rc, Sum.inr (6, [Value.ref co, Value.ref ma, Value.int (nI ms.length), Value.int fit, Value.int fen, Value.int frd, Value.int fbd, Value.int fir])), (ma, Sum.inl (cM, 8, Sum.inr (Sum.inr (Sum.inr (Sum.inr mf))))), (co, Sum.inr (2, [Value.long xlow, Value.long xrange, Value.long xcode, Value.long xreadLow, Value.long xreadRange, Value.ref ri, Value.ref ro, Value.ref rw, Value.int xasked])), (ri, Sum.inr (0, [Value.int (nI is.length), Value.ref ria])), (ria, Sum.inl (cI, rik, Sum.inl rif))] ++ mbsC cI ms9) → va_S A s.heap H locs → lv_has ls 5 [(3, Value.int i9), (2, Value.int (nI 8)), (1, Value.ref ma), (0, Value.ref rc)] → W p l e R s m args below meth c H locs 0 0 Q (F0 m 10 ls []) := by
    intro n9_10
    induction n9_10 using Nat.strongRecOn with
    | ind n9_10 ih9_10 =>
      intro i9 ii ms9 hn9_10 hi9 hii hma hmo hbg hlm H locs ls hP hD hS hl
      refine lv_iload_n hx hb d_RC_read_10 rfl (lv_at hl 0 rfl) ?_
      refine lv_iload_n hx hb d_RC_read_11 rfl (lv_at hl 1 rfl) ?_
      refine lv_icmp_ge (tgt := 48) hx hb d_RC_read_12 (by decide) (fun c_1 => ?_) (fun c_1 => ?_)
      · refine lv_aload_n hx hb d_RC_read_48 rfl (lv_at hl 3 rfl) ?_
        refine lv_iconst (v := 1) hx hb d_RC_read_49 (by decide) ?_
        refine va_put (D := (dC, dI)) (ci := 6) (v := .int 1) (ty := .boolean) (C := "RangeCoders") (T := T_RC) (N := 8) hx hb hg in_RC t_RC o_RC n_RC hown hK hP hD hS 0 rfl rfl 5 (by decide) (hg _ k263) (fun _ h9 => h9) rfl (o_RC 5 (by decide)) rfl rfl (Nat.le_of_ble_eq_true rfl) d_RC_read_50 (fun H locs hP hD hS => ?_)
        have hPD : my_PD (dC, dI) vwCl A ([(rc, Sum.inr (6, [Value.ref co, Value.ref ma, Value.int (nI ms.length), Value.int fit, Value.int fen, Value.int 1, Value.int fbd, Value.int fir])), (ma, Sum.inl (cM, 8, Sum.inr (Sum.inr (Sum.inr (Sum.inr mf))))), (co, Sum.inr (2, [Value.long xlow, Value.long xrange, Value.long xcode, Value.long xreadLow, Value.long xreadRange, Value.ref ri, Value.ref ro, Value.ref rw, Value.int xasked])), (ri, Sum.inr (0, [Value.int (nI is.length), Value.ref ria])), (ria, Sum.inl (cI, rik, Sum.inl rif))] ++ mbsC cI ms9) H := ⟨hP, hD⟩
        have hP := hPD.1
        have hD := hPD.2
        refine lv_aload_n hx hb d_RC_read_53 rfl (lv_at hl 3 rfl) ?_
        refine lv_iconst (v := 0) hx hb d_RC_read_54 (by decide) ?_
        refine va_put (D := (dC, dI)) (ci := 6) (v := .int 0) (ty := .int) (C := "RangeCoders") (T := T_RC) (N := 8) hx hb hg in_RC t_RC o_RC n_RC hown hK hP hD hS 0 rfl rfl 7 (by decide) (hg _ k265) (fun _ h9 => h9) rfl (o_RC 7 (by decide)) rfl rfl (Nat.le_of_ble_eq_true rfl) d_RC_read_55 (fun H locs hP hD hS => ?_)
        have hPD : my_PD (dC, dI) vwCl A ([(rc, Sum.inr (6, [Value.ref co, Value.ref ma, Value.int (nI ms.length), Value.int fit, Value.int fen, Value.int 1, Value.int fbd, Value.int 0])), (ma, Sum.inl (cM, 8, Sum.inr (Sum.inr (Sum.inr (Sum.inr mf))))), (co, Sum.inr (2, [Value.long xlow, Value.long xrange, Value.long xcode, Value.long xreadLow, Value.long xreadRange, Value.ref ri, Value.ref ro, Value.ref rw, Value.int xasked])), (ri, Sum.inr (0, [Value.int (nI is.length), Value.ref ria])), (ria, Sum.inl (cI, rik, Sum.inl rif))] ++ mbsC cI ms9) H := ⟨hP, hD⟩
        have hP := hPD.1
        have hD := hPD.2
        refine lv_aload_n hx hb d_RC_read_58 rfl (lv_at hl 3 rfl) ?_
        refine lv_aload_n hx hb d_RC_read_59 rfl (lv_at hl 3 rfl) ?_
        refine va_get (D := (dC, dI)) (ci := 6) (v := .ref co) (C := "RangeCoders") (T := T_RC) (N := 8) hx hb hg in_RC hown hK hP 0 rfl rfl 0 (by decide) (hg _ k258) (fun _ h9 => h9) rfl d_RC_read_60 ?_
        refine my_cit (wr := [(rc, Sum.inr (6, [Value.ref co, Value.ref ma, Value.int (nI ms.length), Value.int fit, Value.int fen, Value.int 1, Value.int fbd, Value.int 0])), (ma, Sum.inl (cM, 8, Sum.inr (Sum.inr (Sum.inr (Sum.inr mf)))))]) (va_runU (As := []) (rest := [Value.ref rc]) ⟨hx, hb, hml, hown, hts⟩ (f_NoCarries_openReading l dC dI cI cM cO H.size co xlow xrange xcode xreadLow xreadRange ri ro rw xasked ria rik rif is (hri) (hGri) (hLri) (hoct)) (va_cwA 0 hts (my_gU k727 k729 k753 k731 k4 k732) rfl rfl rfl (hN.1 _ j728 rfl) (by decide +kernel) ⟨by rw [hR]; exact Nat.le_of_ble_eq_true rfl, by rw [hR]; exact Nat.le_of_ble_eq_true rfl⟩) (my_preV hK hN (my_subU hP [2, 3, 4] rfl) (my_dubT hD [2, 3, 4] (by decide +kernel) rfl) 0 rfl rfl) rfl rfl hl.1 rfl (lv_room (Nat.le_of_ble_eq_true rfl)) d_RC_read_63 ⟨by rw [hR]; exact Nat.le_of_ble_eq_true rfl, by rw [hR]; exact Nat.le_of_ble_eq_true rfl⟩) hP hD hS hA [2, 3, 4] [0, 1] rfl rfl (by decide +kernel) (by decide +kernel) (fun r_63 u9 H locs hw_63 hP hD hS => ?_)
        have hr_63 : r_63 = 1 := hw_63
        have hPD : my_PD (dC, dI) vwCl A ([(rc, Sum.inr (6, [Value.ref co, Value.ref ma, Value.int (nI ms.length), Value.int fit, Value.int fen, Value.int 1, Value.int fbd, Value.int 0])), (ma, Sum.inl (cM, 8, Sum.inr (Sum.inr (Sum.inr (Sum.inr mf))))), (co, Sum.inr (2, [Value.long xlow, Value.long xrange, Value.long (lN (frN is 0 4)), Value.long (lN 0), Value.long (lN 4294967295), Value.ref ri, Value.ref ro, Value.ref rw, Value.int (nI 4)])), (ri, Sum.inr (0, [Value.int (nI is.length), Value.ref ria])), (ria, Sum.inl (cI, rik, Sum.inl rif))] ++ mbsC cI ms9) H := ⟨hP, hD⟩
        have hP := hPD.1
        have hD := hPD.2
        refine lv_if_ne (tgt := 73) hx hb d_RC_read_66 (by decide) (fun c_2 => ?_) (fun c_2 => ?_)
        · refine lv_iconst (v := 0) hx hb d_RC_read_73 (by decide) ?_
          refine va_put (D := (dC, dI)) (ci := 6) (v := .int 0) (ty := .boolean) (C := "RangeCoders") (T := T_RC) (N := 8) hx hb hg in_RC t_RC o_RC n_RC hown hK hP hD hS 0 rfl rfl 6 (by decide) (hg _ k264) (fun _ h9 => h9) rfl (o_RC 6 (by decide)) rfl rfl (Nat.le_of_ble_eq_true rfl) d_RC_read_74 (fun H locs hP hD hS => ?_)
          have hPD : my_PD (dC, dI) vwCl A ([(rc, Sum.inr (6, [Value.ref co, Value.ref ma, Value.int (nI ms.length), Value.int fit, Value.int fen, Value.int 1, Value.int 0, Value.int 0])), (ma, Sum.inl (cM, 8, Sum.inr (Sum.inr (Sum.inr (Sum.inr mf))))), (co, Sum.inr (2, [Value.long xlow, Value.long xrange, Value.long (lN (frN is 0 4)), Value.long (lN 0), Value.long (lN 4294967295), Value.ref ri, Value.ref ro, Value.ref rw, Value.int (nI 4)])), (ri, Sum.inr (0, [Value.int (nI is.length), Value.ref ria])), (ria, Sum.inl (cI, rik, Sum.inl rif))] ++ mbsC cI ms9) H := ⟨hP, hD⟩
          have hP := hPD.1
          have hD := hPD.2
          refine lv_aload_n hx hb d_RC_read_77 rfl (lv_at hl 3 rfl) ?_
          refine va_get (D := (dC, dI)) (ci := 6) (v := .ref co) (C := "RangeCoders") (T := T_RC) (N := 8) hx hb hg in_RC hown hK hP 0 rfl rfl 0 (by decide) (hg _ k258) (fun _ h9 => h9) rfl d_RC_read_78 ?_
          refine va_get (D := (dC, dI)) (ci := 2) (v := .ref ri) (C := "RangeCoders$NoCarries") (T := T_NoCarries) (N := 9) hx hb hg in_NoCarries hown hK hP 2 rfl rfl 5 (by decide) (hg _ k102) (fun _ h9 => h9) rfl d_RC_read_81 ?_
          refine va_get (D := (dC, dI)) (ci := 0) (v := .int (nI is.length)) (C := "RangeCoders$Row") (T := T_Row) (N := 2) hx hb hg in_Row hown hK hP 3 rfl rfl 0 (by decide) (hg _ k58) (fun _ h9 => h9) rfl d_RC_read_84 ?_
          exact my_iret (v := nI is.length) hx hb hr (rfl) hlocks hQ hK hS (Nat.le_refl _) (Nat.le_refl _) (ms9) (⟨hma, hmo, bg_e (by rw [show (8 : Nat) = ii by have := nI_ge' (n := 8) (j := ii) (by omega) (by decide) (by rw [← hi9]; assumption); omega]; exact hbg) hk8, hlm, rfl⟩) (hP.part [0, 1, 2, 3, 4] rfl) (hD.part [0, 1, 2, 3, 4] (by decide +kernel) rfl) d_RC_read_87
        · exact absurd (hr_63.symm.trans c_2) (by decide)
      · refine lv_aload_n hx hb d_RC_read_15 rfl (lv_at hl 2 rfl) ?_
        refine lv_iload_n hx hb d_RC_read_16 rfl (lv_at hl 0 rfl) ?_
        have hi8 : ii < 8 := by
          rcases Nat.lt_or_ge ii 8 with z | z
          · exact z
          · exact absurd (by rw [hi9]; exact nI_le (a := 8) z (by omega)) c_1
        refine va_aldq hx hb hK hP 1 1 rfl rfl (by rw [hi9]; exact vp_in_nI hi8 (by decide)) d_RC_read_17 ?_
        rcases hq_a_3 : mf i9.toNatClampNeg with _ | a_3
        · refine W.eq (g2 := F0 m 18 ls [Value.null]) rfl ?_
          have hmf9 := mf_keep hmf hma
          have hnil : ms.length ≤ ii := by
            rcases Nat.lt_or_ge ii ms9.length with z | z
            · obtain ⟨a9, x9, b9, e9, hla⟩ := mb_at z
              subst e9
              rw [hi9, nI_clamp (by omega), ← hla, mf_some hmf9 (by omega)] at hq_a_3; cases hq_a_3
            · rw [hlm]; exact z
          refine lv_astoreN (lv' := [(4, Value.null), (3, Value.int i9), (2, Value.int (nI 8)), (1, Value.ref ma), (0, Value.ref rc)]) hx hb d_RC_read_18 hl (by decide) rfl (fun ls hl => ?_)
          refine lv_aloadN hx hb d_RC_read_20 (lv_at hl 0 rfl) ?_
          refine lv_ifnullN (tgt := 42) hx hb d_RC_read_22 (by decide) ?_
          obtain ⟨v_4, ev_4⟩ : ∃ y : Int32, y = i9 + (1) := ⟨_, rfl⟩
          refine lv_iinc (v := v_4) (lv' := [(3, Value.int v_4), (4, Value.null), (2, Value.int (nI 8)), (1, Value.ref ma), (0, Value.ref rc)]) hx hb d_RC_read_42 hl (k := 1) rfl (by rw [ev_4]; rfl) (by decide) rfl (fun ls hl => ?_)
          refine lv_goto (tgt := 10) hx hb d_RC_read_45 (by decide) ?_
          exact ih9_10 _ (by first | omega | (omega)) v_4 (ii + 1) ms9 rfl (by rw [ev_4, hi9]; exact nI_1 _) (by omega) (by assumption) (by assumption) (bg_no hbg (by rw [← hlm]; exact hnil)) (hlm) H locs ls (hP.part [0, 1, 2, 3, 4] rfl) (hD.part [0, 1, 2, 3, 4] (by decide +kernel) rfl) hS (lv_sub hl [0, 2, 3, 4] rfl)
        · refine W.eq (g2 := F0 m 18 ls [Value.ref a_3]) rfl ?_
          have hmf9 := mf_keep hmf hma
          have hil : ii < ms9.length := by
            rcases Nat.lt_or_ge ii ms9.length with z | z
            · exact z
            · rw [hi9, nI_clamp (by omega), mf_none hmf9 hi8 z] at hq_a_3; cases hq_a_3
          obtain ⟨a9, x9, b9, e9, hla⟩ := mb_at hil
          subst e9
          obtain ⟨mo9, ka9, kl9, kf9, ⟨oo9, osg9, osm9, ofc9, oca9, opa9, ol9, ocf9, opl9, opf9⟩, ⟨pp9, psg9, psm9, pfc9, pca9, ppa9, pl9, pcf9, ppl9, ppf9⟩⟩ := x9
          have hax : a_3 = mo9 := by
            rw [hi9, nI_clamp (by omega), ← hla, mf_some hmf9 (by omega)] at hq_a_3
            exact (Option.some.inj hq_a_3).symm
          subst hax
          obtain ⟨hk64, ⟨ho1, ho2, ho3⟩, ⟨hp1, hp2, hp3⟩⟩ := ok_mid hmo
          have hP := pm_P hP (mb_out cI [(rc, Sum.inr (6, [Value.ref co, Value.ref ma, Value.int (nI ms.length), Value.int fit, Value.int fen, Value.int frd, Value.int fbd, Value.int fir])), (ma, Sum.inl (cM, 8, Sum.inr (Sum.inr (Sum.inr (Sum.inr mf))))), (co, Sum.inr (2, [Value.long xlow, Value.long xrange, Value.long xcode, Value.long xreadLow, Value.long xreadRange, Value.ref ri, Value.ref ro, Value.ref rw, Value.int xasked])), (ri, Sum.inr (0, [Value.int (nI is.length), Value.ref ria])), (ria, Sum.inl (cI, rik, Sum.inl rif))] a9 b9 (a_3, ka9, kl9, kf9, (oo9, osg9, osm9, ofc9, oca9, opa9, ol9, ocf9, opl9, opf9), (pp9, psg9, psm9, pfc9, pca9, ppa9, pl9, pcf9, ppl9, ppf9)))
          have hD := pm_D hD (mb_out cI [(rc, Sum.inr (6, [Value.ref co, Value.ref ma, Value.int (nI ms.length), Value.int fit, Value.int fen, Value.int frd, Value.int fbd, Value.int fir])), (ma, Sum.inl (cM, 8, Sum.inr (Sum.inr (Sum.inr (Sum.inr mf))))), (co, Sum.inr (2, [Value.long xlow, Value.long xrange, Value.long xcode, Value.long xreadLow, Value.long xreadRange, Value.ref ri, Value.ref ro, Value.ref rw, Value.int xasked])), (ri, Sum.inr (0, [Value.int (nI is.length), Value.ref ria])), (ria, Sum.inl (cI, rik, Sum.inl rif))] a9 b9 (a_3, ka9, kl9, kf9, (oo9, osg9, osm9, ofc9, oca9, opa9, ol9, ocf9, opl9, opf9), (pp9, psg9, psm9, pfc9, pca9, ppa9, pl9, pcf9, ppl9, ppf9)))
          have hPD : my_PD (dC, dI) vwCl A ([(rc, Sum.inr (6, [Value.ref co, Value.ref ma, Value.int (nI ms.length), Value.int fit, Value.int fen, Value.int frd, Value.int fbd, Value.int fir])), (ma, Sum.inl (cM, 8, Sum.inr (Sum.inr (Sum.inr (Sum.inr mf))))), (co, Sum.inr (2, [Value.long xlow, Value.long xrange, Value.long xcode, Value.long xreadLow, Value.long xreadRange, Value.ref ri, Value.ref ro, Value.ref rw, Value.int xasked])), (ri, Sum.inr (0, [Value.int (nI is.length), Value.ref ria])), (ria, Sum.inl (cI, rik, Sum.inl rif)), (a_3, Sum.inr (8, [Value.ref ka9, Value.ref oo9, Value.ref pp9])), (ka9, Sum.inl (cI, kl9, Sum.inl kf9)), (oo9, Sum.inr (7, [Value.int osg9, Value.int osm9, Value.int ofc9, Value.ref oca9, Value.ref opa9])), (oca9, Sum.inl (cI, ol9, Sum.inl ocf9)), (opa9, Sum.inl (cI, opl9, Sum.inl opf9)), (pp9, Sum.inr (7, [Value.int psg9, Value.int psm9, Value.int pfc9, Value.ref pca9, Value.ref ppa9])), (pca9, Sum.inl (cI, pl9, Sum.inl pcf9)), (ppa9, Sum.inl (cI, ppl9, Sum.inl ppf9))] ++ (mbsC cI a9 ++ mbsC cI b9)) H := ⟨hP, hD⟩
          have hP := hPD.1
          have hD := hPD.2
          rw [← hla] at hbg
          obtain ⟨hx1, hx2, ⟨hx3, hx4, hx5, hx6⟩, hx7, hx8⟩ := hms ((a_3, ka9, kl9, kf9, (oo9, osg9, osm9, ofc9, oca9, opa9, ol9, ocf9, opl9, opf9), (pp9, psg9, psm9, pfc9, pca9, ppa9, pl9, pcf9, ppl9, ppf9)) : MB) (List.mem_of_getElem? (bg_x hbg hlm))
          have hx3 : psg9 = nI kl9 := hx3
          skip
          subst hx3
          have hx4 : pfc9 = 0 := hx4
          skip
          subst hx4
          have hx5 : pl9 = kl9 := hx5
          have hx5 := hx5.symm
          subst hx5
          have hx6 : ppl9 = 0 := hx6
          skip
          subst hx6
          have hPD : my_PD (dC, dI) vwCl A ([(rc, Sum.inr (6, [Value.ref co, Value.ref ma, Value.int (nI ms.length), Value.int fit, Value.int fen, Value.int frd, Value.int fbd, Value.int fir])), (ma, Sum.inl (cM, 8, Sum.inr (Sum.inr (Sum.inr (Sum.inr mf))))), (co, Sum.inr (2, [Value.long xlow, Value.long xrange, Value.long xcode, Value.long xreadLow, Value.long xreadRange, Value.ref ri, Value.ref ro, Value.ref rw, Value.int xasked])), (ri, Sum.inr (0, [Value.int (nI is.length), Value.ref ria])), (ria, Sum.inl (cI, rik, Sum.inl rif)), (a_3, Sum.inr (8, [Value.ref ka9, Value.ref oo9, Value.ref pp9])), (ka9, Sum.inl (cI, kl9, Sum.inl kf9)), (oo9, Sum.inr (7, [Value.int osg9, Value.int osm9, Value.int ofc9, Value.ref oca9, Value.ref opa9])), (oca9, Sum.inl (cI, ol9, Sum.inl ocf9)), (opa9, Sum.inl (cI, opl9, Sum.inl opf9)), (pp9, Sum.inr (7, [Value.int (nI kl9), Value.int psm9, Value.int 0, Value.ref pca9, Value.ref ppa9])), (pca9, Sum.inl (cI, kl9, Sum.inl pcf9)), (ppa9, Sum.inl (cI, 0, Sum.inl ppf9))] ++ (mbsC cI a9 ++ mbsC cI b9)) H := ⟨hP, hD⟩
          have hP := hPD.1
          have hD := hPD.2
          refine lv_astore (lv' := [(4, Value.ref a_3), (3, Value.int i9), (2, Value.int (nI 8)), (1, Value.ref ma), (0, Value.ref rc)]) hx hb d_RC_read_18 hl (by decide) rfl (fun ls hl => ?_)
          refine lv_aload hx hb d_RC_read_20 (lv_at hl 0 rfl) ?_
          refine lv_ifnull hx hb d_RC_read_22 ?_
          refine lv_aload_n hx hb d_RC_read_25 rfl (lv_at hl 4 rfl) ?_
          refine va_get (D := (dC, dI)) (ci := 6) (v := .ref co) (C := "RangeCoders") (T := T_RC) (N := 8) hx hb hg in_RC hown hK hP 0 rfl rfl 0 (by decide) (hg _ k258) (fun _ h9 => h9) rfl d_RC_read_26 ?_
          refine lv_aload hx hb d_RC_read_29 (lv_at hl 0 rfl) ?_
          refine va_get (D := (dC, dI)) (ci := 8) (v := .ref pp9) (C := "RangeCoders$Model") (T := T_Model) (N := 3) hx hb hg in_Model hown hK hP 5 rfl rfl 2 (by decide) (hg _ k345) (fun _ h9 => h9) rfl d_RC_read_31 ?_
          refine lv_aload hx hb d_RC_read_34 (lv_at hl 0 rfl) ?_
          refine va_get (D := (dC, dI)) (ci := 8) (v := .ref ka9) (C := "RangeCoders$Model") (T := T_Model) (N := 3) hx hb hg in_Model hown hK hP 5 rfl rfl 0 (by decide) (hg _ k341) (fun _ h9 => h9) rfl d_RC_read_36 ?_
          refine my_cvt (wr := [(rc, Sum.inr (6, [Value.ref co, Value.ref ma, Value.int (nI ms.length), Value.int fit, Value.int fen, Value.int frd, Value.int fbd, Value.int fir])), (ma, Sum.inl (cM, 8, Sum.inr (Sum.inr (Sum.inr (Sum.inr mf))))), (ri, Sum.inr (0, [Value.int (nI is.length), Value.ref ria])), (ria, Sum.inl (cI, rik, Sum.inl rif)), (a_3, Sum.inr (8, [Value.ref ka9, Value.ref oo9, Value.ref pp9])), (oo9, Sum.inr (7, [Value.int osg9, Value.int osm9, Value.int ofc9, Value.ref oca9, Value.ref opa9])), (oca9, Sum.inl (cI, ol9, Sum.inl ocf9)), (opa9, Sum.inl (cI, opl9, Sum.inl opf9))]) (va_runU (As := [Value.ref pp9, Value.ref ka9]) (rest := []) ⟨hx, hb, hml, hown, hts⟩ (f_NoCarries_prepare l dC dI cI cM cO H.size co xlow xrange xcode xreadLow xreadRange ri ro rw xasked pp9 (nI kl9) 0 pca9 ppa9 kl9 pcf9 0 ppf9 psm9 ka9 kf9 (Cx ((a_3, ka9, kl9, kf9, (oo9, osg9, osm9, ofc9, oca9, opa9, ol9, ocf9, opl9, opf9), (pp9, nI kl9, psm9, 0, pca9, ppa9, kl9, pcf9, 0, ppf9)) : MB)) (hx2) (by decide) (hx7) (hx8)) (va_cwA 2 hts (my_gU k353 k355 k379 k365 k4 k366) rfl rfl rfl (hN.1 _ j354 rfl) (by decide +kernel) ⟨by rw [hR]; exact Nat.le_of_ble_eq_true rfl, by rw [hR]; exact Nat.le_of_ble_eq_true rfl⟩) (my_preV hK hN (my_subU hP [2, 10, 11, 12, 6] rfl) (my_dubT hD [2, 10, 11, 12, 6] (by decide +kernel) rfl) 0 rfl rfl) rfl rfl hl.1 rfl (lv_room (Nat.le_of_ble_eq_true rfl)) d_RC_read_39 ⟨by rw [hR]; exact Nat.le_of_ble_eq_true rfl, by rw [hR]; exact Nat.le_of_ble_eq_true rfl⟩) hP hD hS hA [2, 10, 11, 12, 6] [0, 1, 3, 4, 5, 7, 8, 9] rfl rfl (by decide +kernel) (by decide +kernel) (fun u9 H locs hw_39 hP hD hS => ?_)
          obtain ⟨ocfq_39, rfl⟩ : ∃ z, z = u9 := ⟨_, rfl⟩
          have hf_39 : tbI ocfq_39 kl9 (les kl9 (Cx ((a_3, ka9, kl9, kf9, (oo9, osg9, osm9, ofc9, oca9, opa9, ol9, ocf9, opl9, opf9), (pp9, nI kl9, psm9, 0, pca9, ppa9, kl9, pcf9, 0, ppf9)) : MB))) := hw_39
          have hPD : my_PD (dC, dI) vwCl A ([(rc, Sum.inr (6, [Value.ref co, Value.ref ma, Value.int (nI ms.length), Value.int fit, Value.int fen, Value.int frd, Value.int fbd, Value.int fir])), (ma, Sum.inl (cM, 8, Sum.inr (Sum.inr (Sum.inr (Sum.inr mf))))), (ri, Sum.inr (0, [Value.int (nI is.length), Value.ref ria])), (ria, Sum.inl (cI, rik, Sum.inl rif)), (a_3, Sum.inr (8, [Value.ref ka9, Value.ref oo9, Value.ref pp9])), (oo9, Sum.inr (7, [Value.int osg9, Value.int osm9, Value.int ofc9, Value.ref oca9, Value.ref opa9])), (oca9, Sum.inl (cI, ol9, Sum.inl ocf9)), (opa9, Sum.inl (cI, opl9, Sum.inl opf9)), (co, Sum.inr (2, [Value.long xlow, Value.long xrange, Value.long xcode, Value.long xreadLow, Value.long xreadRange, Value.ref ri, Value.ref ro, Value.ref rw, Value.int xasked])), (pp9, Sum.inr (7, [Value.int (nI kl9), Value.int (nI (ns (les kl9 (Cx ((a_3, ka9, kl9, kf9, (oo9, osg9, osm9, ofc9, oca9, opa9, ol9, ocf9, opl9, opf9), (pp9, nI kl9, psm9, 0, pca9, ppa9, kl9, pcf9, 0, ppf9)) : MB))) kl9)), Value.int 0, Value.ref pca9, Value.ref ppa9])), (pca9, Sum.inl (cI, kl9, Sum.inl ocfq_39)), (ppa9, Sum.inl (cI, 0, Sum.inl ppf9)), (ka9, Sum.inl (cI, kl9, Sum.inl kf9))] ++ (mbsC cI a9 ++ mbsC cI b9)) H := ⟨hP, hD⟩
          have hP := hPD.1
          have hD := hPD.2
          have hP := pm_P (hP.part [0, 1, 8, 2, 3, 4, 12, 5, 6, 7, 9, 10, 11] rfl : va_P (dC, dI) vwCl ([(rc, Sum.inr (6, [Value.ref co, Value.ref ma, Value.int (nI ms.length), Value.int fit, Value.int fen, Value.int frd, Value.int fbd, Value.int fir])), (ma, Sum.inl (cM, 8, Sum.inr (Sum.inr (Sum.inr (Sum.inr mf))))), (co, Sum.inr (2, [Value.long xlow, Value.long xrange, Value.long xcode, Value.long xreadLow, Value.long xreadRange, Value.ref ri, Value.ref ro, Value.ref rw, Value.int xasked])), (ri, Sum.inr (0, [Value.int (nI is.length), Value.ref ria])), (ria, Sum.inl (cI, rik, Sum.inl rif)), (a_3, Sum.inr (8, [Value.ref ka9, Value.ref oo9, Value.ref pp9])), (ka9, Sum.inl (cI, kl9, Sum.inl kf9)), (oo9, Sum.inr (7, [Value.int osg9, Value.int osm9, Value.int ofc9, Value.ref oca9, Value.ref opa9])), (oca9, Sum.inl (cI, ol9, Sum.inl ocf9)), (opa9, Sum.inl (cI, opl9, Sum.inl opf9)), (pp9, Sum.inr (7, [Value.int (nI kl9), Value.int (nI (ns (les kl9 (Cx ((a_3, ka9, kl9, kf9, (oo9, osg9, osm9, ofc9, oca9, opa9, ol9, ocf9, opl9, opf9), (pp9, nI kl9, psm9, 0, pca9, ppa9, kl9, pcf9, 0, ppf9)) : MB))) kl9)), Value.int 0, Value.ref pca9, Value.ref ppa9])), (pca9, Sum.inl (cI, kl9, Sum.inl ocfq_39)), (ppa9, Sum.inl (cI, 0, Sum.inl ppf9))] ++ (mbsC cI a9 ++ mbsC cI b9)) H) (mb_out cI [(rc, Sum.inr (6, [Value.ref co, Value.ref ma, Value.int (nI ms.length), Value.int fit, Value.int fen, Value.int frd, Value.int fbd, Value.int fir])), (ma, Sum.inl (cM, 8, Sum.inr (Sum.inr (Sum.inr (Sum.inr mf))))), (co, Sum.inr (2, [Value.long xlow, Value.long xrange, Value.long xcode, Value.long xreadLow, Value.long xreadRange, Value.ref ri, Value.ref ro, Value.ref rw, Value.int xasked])), (ri, Sum.inr (0, [Value.int (nI is.length), Value.ref ria])), (ria, Sum.inl (cI, rik, Sum.inl rif))] a9 b9 ((a_3, ka9, kl9, kf9, (oo9, osg9, osm9, ofc9, oca9, opa9, ol9, ocf9, opl9, opf9), (pp9, (nI kl9), (nI (ns (les kl9 (Cx ((a_3, ka9, kl9, kf9, (oo9, osg9, osm9, ofc9, oca9, opa9, ol9, ocf9, opl9, opf9), (pp9, nI kl9, psm9, 0, pca9, ppa9, kl9, pcf9, 0, ppf9)) : MB))) kl9)), 0, pca9, ppa9, kl9, ocfq_39, 0, ppf9)) : MB)).symm
          have hD := pm_D (hD.part [0, 1, 8, 2, 3, 4, 12, 5, 6, 7, 9, 10, 11] (by decide +kernel) rfl : va_D A ([(rc, Sum.inr (6, [Value.ref co, Value.ref ma, Value.int (nI ms.length), Value.int fit, Value.int fen, Value.int frd, Value.int fbd, Value.int fir])), (ma, Sum.inl (cM, 8, Sum.inr (Sum.inr (Sum.inr (Sum.inr mf))))), (co, Sum.inr (2, [Value.long xlow, Value.long xrange, Value.long xcode, Value.long xreadLow, Value.long xreadRange, Value.ref ri, Value.ref ro, Value.ref rw, Value.int xasked])), (ri, Sum.inr (0, [Value.int (nI is.length), Value.ref ria])), (ria, Sum.inl (cI, rik, Sum.inl rif)), (a_3, Sum.inr (8, [Value.ref ka9, Value.ref oo9, Value.ref pp9])), (ka9, Sum.inl (cI, kl9, Sum.inl kf9)), (oo9, Sum.inr (7, [Value.int osg9, Value.int osm9, Value.int ofc9, Value.ref oca9, Value.ref opa9])), (oca9, Sum.inl (cI, ol9, Sum.inl ocf9)), (opa9, Sum.inl (cI, opl9, Sum.inl opf9)), (pp9, Sum.inr (7, [Value.int (nI kl9), Value.int (nI (ns (les kl9 (Cx ((a_3, ka9, kl9, kf9, (oo9, osg9, osm9, ofc9, oca9, opa9, ol9, ocf9, opl9, opf9), (pp9, nI kl9, psm9, 0, pca9, ppa9, kl9, pcf9, 0, ppf9)) : MB))) kl9)), Value.int 0, Value.ref pca9, Value.ref ppa9])), (pca9, Sum.inl (cI, kl9, Sum.inl ocfq_39)), (ppa9, Sum.inl (cI, 0, Sum.inl ppf9))] ++ (mbsC cI a9 ++ mbsC cI b9))) (mb_out cI [(rc, Sum.inr (6, [Value.ref co, Value.ref ma, Value.int (nI ms.length), Value.int fit, Value.int fen, Value.int frd, Value.int fbd, Value.int fir])), (ma, Sum.inl (cM, 8, Sum.inr (Sum.inr (Sum.inr (Sum.inr mf))))), (co, Sum.inr (2, [Value.long xlow, Value.long xrange, Value.long xcode, Value.long xreadLow, Value.long xreadRange, Value.ref ri, Value.ref ro, Value.ref rw, Value.int xasked])), (ri, Sum.inr (0, [Value.int (nI is.length), Value.ref ria])), (ria, Sum.inl (cI, rik, Sum.inl rif))] a9 b9 ((a_3, ka9, kl9, kf9, (oo9, osg9, osm9, ofc9, oca9, opa9, ol9, ocf9, opl9, opf9), (pp9, (nI kl9), (nI (ns (les kl9 (Cx ((a_3, ka9, kl9, kf9, (oo9, osg9, osm9, ofc9, oca9, opa9, ol9, ocf9, opl9, opf9), (pp9, nI kl9, psm9, 0, pca9, ppa9, kl9, pcf9, 0, ppf9)) : MB))) kl9)), 0, pca9, ppa9, kl9, ocfq_39, 0, ppf9)) : MB)).symm
          have hma2 : (a9 ++ ((a_3, ka9, kl9, kf9, (oo9, osg9, osm9, ofc9, oca9, opa9, ol9, ocf9, opl9, opf9), (pp9, (nI kl9), (nI (ns (les kl9 (Cx ((a_3, ka9, kl9, kf9, (oo9, osg9, osm9, ofc9, oca9, opa9, ol9, ocf9, opl9, opf9), (pp9, nI kl9, psm9, 0, pca9, ppa9, kl9, pcf9, 0, ppf9)) : MB))) kl9)), 0, pca9, ppa9, kl9, ocfq_39, 0, ppf9)) : MB) :: b9).map mbA = ms.map mbA := by refine (mb_set (f := mbA) ?_).trans hma; rfl
          have hmo2 : ∀ x ∈ a9 ++ ((a_3, ka9, kl9, kf9, (oo9, osg9, osm9, ofc9, oca9, opa9, ol9, ocf9, opl9, opf9), (pp9, (nI kl9), (nI (ns (les kl9 (Cx ((a_3, ka9, kl9, kf9, (oo9, osg9, osm9, ofc9, oca9, opa9, ol9, ocf9, opl9, opf9), (pp9, nI kl9, psm9, 0, pca9, ppa9, kl9, pcf9, 0, ppf9)) : MB))) kl9)), 0, pca9, ppa9, kl9, ocfq_39, 0, ppf9)) : MB) :: b9, mbOk x := ok_set hmo ⟨hk64, ⟨ho1, ho2, ho3⟩, ⟨hp1, hp2, hp3⟩⟩
          have hPD : my_PD (dC, dI) vwCl A ([(rc, Sum.inr (6, [Value.ref co, Value.ref ma, Value.int (nI ms.length), Value.int fit, Value.int fen, Value.int frd, Value.int fbd, Value.int fir])), (ma, Sum.inl (cM, 8, Sum.inr (Sum.inr (Sum.inr (Sum.inr mf))))), (co, Sum.inr (2, [Value.long xlow, Value.long xrange, Value.long xcode, Value.long xreadLow, Value.long xreadRange, Value.ref ri, Value.ref ro, Value.ref rw, Value.int xasked])), (ri, Sum.inr (0, [Value.int (nI is.length), Value.ref ria])), (ria, Sum.inl (cI, rik, Sum.inl rif))] ++ mbsC cI (a9 ++ ((a_3, ka9, kl9, kf9, (oo9, osg9, osm9, ofc9, oca9, opa9, ol9, ocf9, opl9, opf9), (pp9, (nI kl9), (nI (ns (les kl9 (Cx ((a_3, ka9, kl9, kf9, (oo9, osg9, osm9, ofc9, oca9, opa9, ol9, ocf9, opl9, opf9), (pp9, nI kl9, psm9, 0, pca9, ppa9, kl9, pcf9, 0, ppf9)) : MB))) kl9)), 0, pca9, ppa9, kl9, ocfq_39, 0, ppf9)) : MB) :: b9)) H := ⟨hP, hD⟩
          have hP := hPD.1
          have hD := hPD.2
          have hbg2 : bgI nwr_NoCarries ms (a9 ++ ((a_3, ka9, kl9, kf9, (oo9, osg9, osm9, ofc9, oca9, opa9, ol9, ocf9, opl9, opf9), (pp9, (nI kl9), (nI (ns (les kl9 (Cx ((a_3, ka9, kl9, kf9, (oo9, osg9, osm9, ofc9, oca9, opa9, ol9, ocf9, opl9, opf9), (pp9, nI kl9, psm9, 0, pca9, ppa9, kl9, pcf9, 0, ppf9)) : MB))) kl9)), 0, pca9, ppa9, kl9, ocfq_39, 0, ppf9)) : MB) :: b9) (a9.length + 1) := bg_st hbg hlm ⟨rfl, rfl, rfl, ⟨rfl, rfl, rfl, rfl⟩, ⟨hf_39, rfl⟩⟩
          rw [hla] at hbg2
          have hlm2 : ms.length = (a9 ++ ((a_3, ka9, kl9, kf9, (oo9, osg9, osm9, ofc9, oca9, opa9, ol9, ocf9, opl9, opf9), (pp9, (nI kl9), (nI (ns (les kl9 (Cx ((a_3, ka9, kl9, kf9, (oo9, osg9, osm9, ofc9, oca9, opa9, ol9, ocf9, opl9, opf9), (pp9, nI kl9, psm9, 0, pca9, ppa9, kl9, pcf9, 0, ppf9)) : MB))) kl9)), 0, pca9, ppa9, kl9, ocfq_39, 0, ppf9)) : MB) :: b9).length := by rw [hlm, List.length_append, List.length_append]; rfl
          obtain ⟨v_5, ev_5⟩ : ∃ y : Int32, y = i9 + (1) := ⟨_, rfl⟩
          refine lv_iinc (v := v_5) (lv' := [(3, Value.int v_5), (4, Value.ref a_3), (2, Value.int (nI 8)), (1, Value.ref ma), (0, Value.ref rc)]) hx hb d_RC_read_42 hl (k := 1) rfl (by rw [ev_5]; rfl) (by decide) rfl (fun ls hl => ?_)
          refine lv_goto (tgt := 10) hx hb d_RC_read_45 (by decide) ?_
          exact ih9_10 _ (by first | omega | (omega)) v_5 (ii + 1) (a9 ++ ((a_3, ka9, kl9, kf9, (oo9, osg9, osm9, ofc9, oca9, opa9, ol9, ocf9, opl9, opf9), (pp9, (nI kl9), (nI (ns (les kl9 (Cx ((a_3, ka9, kl9, kf9, (oo9, osg9, osm9, ofc9, oca9, opa9, ol9, ocf9, opl9, opf9), (pp9, nI kl9, psm9, 0, pca9, ppa9, kl9, pcf9, 0, ppf9)) : MB))) kl9)), 0, pca9, ppa9, kl9, ocfq_39, 0, ppf9)) : MB) :: b9) rfl (by rw [ev_5, hi9]; exact nI_1 _) (by omega) (hma2) (hmo2) (hbg2) (hlm2) H locs ls (hP.part [0, 1, 2, 3, 4] rfl) (hD.part [0, 1, 2, 3, 4] (by decide +kernel) rfl) hS (lv_sub hl [0, 2, 3, 4] rfl)
  exact J_10 _ (0 : Int32) (0 : Nat) ms rfl (rfl) (by omega) (rfl) (hmk) (bg_0 ms) (rfl) H locs ls (hP.part [0, 1, 2, 3, 4] rfl) (hD.part [0, 1, 2, 3, 4] (by decide +kernel) rfl) hS (lv_sub hl [0, 1, 2, 3] rfl)
set_option maxHeartbeats 2000000 in
set_option maxRecDepth 100000 in
theorem f_RC_readF_Bits (l : Launch) (dC : Nat → ClassId) (dI : Nat → Nat → Nat) (cI cM cO : ClassId) (sz : Nat) (rc : Nat) (ma : Nat) (fit : Int32) (fen : Int32) (frd : Int32) (fbd : Int32) (fir : Int32) (mf : Nat → Option Nat) (co : Nat) (xshift : Int32) (xkeptCode : Int64) (xkeptRange : Int64) (xkeptAsked : Int32) (xcache : Int32) (xpending : Int32) (xlow : Int64) (xrange : Int64) (xcode : Int64) (xreadLow : Int64) (xreadRange : Int64) (ri : Nat) (ro : Nat) (rw : Nat) (xasked : Int32) (ria : Nat) (rik : Nat) (rif : Nat → Int32) (ms : List MB) (is : List Nat) (hk8 : ms.length ≤ 8) (hri : rOk (nI is.length) rik) (hmf : mfOk mf ms) (hmk : ∀ x ∈ ms, mbOk x) (hGri : gIs rif is) (hLri : is.length ≤ 6000) (hoct : oct is) (hms : ∀ x ∈ ms, mOkr_Bits x) : MetI l y_RC_read (Cond.code y_RC_read prog_1_method_12_code 5 (some .int) :: gw) ({ frames := 5, cells := 0, slots := 0, locals := 106 } : Room) (dC, dI) vwCl (kT cI cM cO) [Value.ref rc] ([(rc, Sum.inr (6, [Value.ref co, Value.ref ma, Value.int (nI ms.length), Value.int fit, Value.int fen, Value.int frd, Value.int fbd, Value.int fir])), (ma, Sum.inl (cM, 8, Sum.inr (Sum.inr (Sum.inr (Sum.inr mf))))), (co, Sum.inr (3, [Value.int xshift, Value.long xkeptCode, Value.long xkeptRange, Value.int xkeptAsked, Value.int xcache, Value.int xpending, Value.long xlow, Value.long xrange, Value.long xcode, Value.long xreadLow, Value.long xreadRange, Value.ref ri, Value.ref ro, Value.ref rw, Value.int xasked])), (ri, Sum.inr (0, [Value.int (nI is.length), Value.ref ria])), (ria, Sum.inl (cI, rik, Sum.inl rif))] ++ mbsC cI ms) sz (fun (r : Int32) (u : List MB) => u.map mbA = ms.map mbA ∧ (∀ x ∈ u, mbOk x) ∧ (∀ (i9 : Nat) (x9 y9 : MB), ms[i9]? = some x9 → u[i9]? = some y9 → nwr_Bits x9 y9) ∧ ms.length = u.length ∧ r = nI is.length) (fun (u : List MB) => ([(rc, Sum.inr (6, [Value.ref co, Value.ref ma, Value.int (nI ms.length), Value.int fit, Value.int fen, Value.int 1, Value.int 0, Value.int 0])), (ma, Sum.inl (cM, 8, Sum.inr (Sum.inr (Sum.inr (Sum.inr mf))))), (co, Sum.inr (3, [Value.int xshift, Value.long xkeptCode, Value.long xkeptRange, Value.int xkeptAsked, Value.int xcache, Value.int xpending, Value.long xlow, Value.long xrange, Value.long (lN (frN is 0 4)), Value.long (lN 0), Value.long (lN 4294967295), Value.ref ri, Value.ref ro, Value.ref rw, Value.int (nI 4)])), (ri, Sum.inr (0, [Value.int (nI is.length), Value.ref ria])), (ria, Sum.inl (cI, rik, Sum.inl rif))] ++ mbsC cI u)) 0 0 := by
  refine my_ofI (cc := prog_1_method_12_code) (n := 5) (ret := (some .int)) (by decide) rfl (Nat.le_of_ble_eq_true rfl) ?_
  intro p e s m args below meth c R Q A ls H locs hx hb hr hts hown hlocks hml hnm hR hQ hA hl hP hK hN hD hS
  have hg : ∀ w ∈ gw, w.before args s = true := fun w h => hts w (List.mem_cons_of_mem _ h)
  have hown : s.vm.findClass "RangeCoders" = some m.cls := hown
  have hl : lv_has ls 5 [(0, Value.ref rc)] := hl
  have hlt_hri := rOk_lt hri
  refine lv_aload_n hx hb d_RC_read_0 rfl (lv_at hl 0 rfl) ?_
  refine va_get (D := (dC, dI)) (ci := 6) (v := .ref ma) (C := "RangeCoders") (T := T_RC) (N := 8) hx hb hg in_RC hown hK hP 0 rfl rfl 1 (by decide) (hg _ k259) (fun _ h9 => h9) rfl d_RC_read_1 ?_
  refine lv_astore_n (lv' := [(1, Value.ref ma), (0, Value.ref rc)]) hx hb d_RC_read_4 rfl hl (by decide) rfl (fun ls hl => ?_)
  refine lv_aload_n hx hb d_RC_read_5 rfl (lv_at hl 0 rfl) ?_
  refine va_alen hx hb hK hP 1 1 rfl rfl (v := nI 8) rfl d_RC_read_6 ?_
  refine lv_istore_n (lv' := [(2, Value.int (nI 8)), (1, Value.ref ma), (0, Value.ref rc)]) hx hb d_RC_read_7 rfl hl (by decide) rfl (fun ls hl => ?_)
  refine lv_iconst (v := 0) hx hb d_RC_read_8 (by decide) ?_
  refine lv_istore_n (lv' := [(3, Value.int 0), (2, Value.int (nI 8)), (1, Value.ref ma), (0, Value.ref rc)]) hx hb d_RC_read_9 rfl hl (by decide) rfl (fun ls hl => ?_)
  have J_10 : ∀ (n9_10 : Nat) (i9 : Int32) (ii : Nat) (ms9 : List MB) (hn9_10 : 8 - ii = n9_10) (hi9 : i9 = nI ii) (hii : ii ≤ 8) (hma : ms9.map mbA = ms.map mbA) (hmo : ∀ x ∈ ms9, mbOk x) (hbg : bgI nwr_Bits ms ms9 ii) (hlm : ms.length = ms9.length) (H : Heap) (locs : List Loc) (ls : Array Slot), va_P (dC, dI) vwCl ([(rc, Sum.inr (6, [Value.ref co, Value.ref ma, Value.int (nI ms.length), Value.int fit, Value.int fen, Value.int frd, Value.int fbd, Value.int fir])), (ma, Sum.inl (cM, 8, Sum.inr (Sum.inr (Sum.inr (Sum.inr mf))))), (co, Sum.inr (3, [Value.int xshift, Value.long xkeptCode, Value.long xkeptRange, Value.int xkeptAsked, Value.int xcache, Value.int xpending, Value.long xlow, Value.long xrange, Value.long xcode, Value.long xreadLow, Value.long xreadRange, Value.ref ri, Value.ref ro, Value.ref rw, Value.int xasked])), (ri, Sum.inr (0, [Value.int (nI is.length), Value.ref ria])), (ria, Sum.inl (cI, rik, Sum.inl rif))] ++ mbsC cI ms9) H → va_D A ([(rc, Sum.inr (6, [Value.ref co, Value.ref ma, Value.int (nI ms.length), Value.int fit, Value.int fen, Value.int frd, Value.int fbd, Value.int fir])), (ma, Sum.inl (cM, 8, Sum.inr (Sum.inr (Sum.inr (Sum.inr mf))))), (co, Sum.inr (3, [Value.int xshift, Value.long xkeptCode, Value.long xkeptRange, Value.int xkeptAsked, Value.int xcache, Value.int xpending, Value.long xlow, Value.long xrange, Value.long xcode, Value.long xreadLow, Value.long xreadRange, Value.ref ri, Value.ref ro, Value.ref rw, Value.int xasked])), (ri, Sum.inr (0, [Value.int (nI is.length), Value.ref ria])), (ria, Sum.inl (cI, rik, Sum.inl rif))] ++ mbsC cI ms9) → va_S A s.heap H locs → lv_has ls 5 [(3, Value.int i9), (2, Value.int (nI 8)), (1, Value.ref ma), (0, Value.ref rc)] → W p l e R s m args below meth c H locs 0 0 Q (F0 m 10 ls []) := by
    intro n9_10
    induction n9_10 using Nat.strongRecOn with
    | ind n9_10 ih9_10 =>
      intro i9 ii ms9 hn9_10 hi9 hii hma hmo hbg hlm H locs ls hP hD hS hl
      refine lv_iload_n hx hb d_RC_read_10 rfl (lv_at hl 0 rfl) ?_
      refine lv_iload_n hx hb d_RC_read_11 rfl (lv_at hl 1 rfl) ?_
      refine lv_icmp_ge (tgt := 48) hx hb d_RC_read_12 (by decide) (fun c_1 => ?_) (fun c_1 => ?_)
      · refine lv_aload_n hx hb d_RC_read_48 rfl (lv_at hl 3 rfl) ?_
        refine lv_iconst (v := 1) hx hb d_RC_read_49 (by decide) ?_
        refine va_put (D := (dC, dI)) (ci := 6) (v := .int 1) (ty := .boolean) (C := "RangeCoders") (T := T_RC) (N := 8) hx hb hg in_RC t_RC o_RC n_RC hown hK hP hD hS 0 rfl rfl 5 (by decide) (hg _ k263) (fun _ h9 => h9) rfl (o_RC 5 (by decide)) rfl rfl (Nat.le_of_ble_eq_true rfl) d_RC_read_50 (fun H locs hP hD hS => ?_)
        have hPD : my_PD (dC, dI) vwCl A ([(rc, Sum.inr (6, [Value.ref co, Value.ref ma, Value.int (nI ms.length), Value.int fit, Value.int fen, Value.int 1, Value.int fbd, Value.int fir])), (ma, Sum.inl (cM, 8, Sum.inr (Sum.inr (Sum.inr (Sum.inr mf))))), (co, Sum.inr (3, [Value.int xshift, Value.long xkeptCode, Value.long xkeptRange, Value.int xkeptAsked, Value.int xcache, Value.int xpending, Value.long xlow, Value.long xrange, Value.long xcode, Value.long xreadLow, Value.long xreadRange, Value.ref ri, Value.ref ro, Value.ref rw, Value.int xasked])), (ri, Sum.inr (0, [Value.int (nI is.length), Value.ref ria])), (ria, Sum.inl (cI, rik, Sum.inl rif))] ++ mbsC cI ms9) H := ⟨hP, hD⟩
        have hP := hPD.1
        have hD := hPD.2
        refine lv_aload_n hx hb d_RC_read_53 rfl (lv_at hl 3 rfl) ?_
        refine lv_iconst (v := 0) hx hb d_RC_read_54 (by decide) ?_
        refine va_put (D := (dC, dI)) (ci := 6) (v := .int 0) (ty := .int) (C := "RangeCoders") (T := T_RC) (N := 8) hx hb hg in_RC t_RC o_RC n_RC hown hK hP hD hS 0 rfl rfl 7 (by decide) (hg _ k265) (fun _ h9 => h9) rfl (o_RC 7 (by decide)) rfl rfl (Nat.le_of_ble_eq_true rfl) d_RC_read_55 (fun H locs hP hD hS => ?_)
        have hPD : my_PD (dC, dI) vwCl A ([(rc, Sum.inr (6, [Value.ref co, Value.ref ma, Value.int (nI ms.length), Value.int fit, Value.int fen, Value.int 1, Value.int fbd, Value.int 0])), (ma, Sum.inl (cM, 8, Sum.inr (Sum.inr (Sum.inr (Sum.inr mf))))), (co, Sum.inr (3, [Value.int xshift, Value.long xkeptCode, Value.long xkeptRange, Value.int xkeptAsked, Value.int xcache, Value.int xpending, Value.long xlow, Value.long xrange, Value.long xcode, Value.long xreadLow, Value.long xreadRange, Value.ref ri, Value.ref ro, Value.ref rw, Value.int xasked])), (ri, Sum.inr (0, [Value.int (nI is.length), Value.ref ria])), (ria, Sum.inl (cI, rik, Sum.inl rif))] ++ mbsC cI ms9) H := ⟨hP, hD⟩
        have hP := hPD.1
        have hD := hPD.2
        refine lv_aload_n hx hb d_RC_read_58 rfl (lv_at hl 3 rfl) ?_
        refine lv_aload_n hx hb d_RC_read_59 rfl (lv_at hl 3 rfl) ?_
        refine va_get (D := (dC, dI)) (ci := 6) (v := .ref co) (C := "RangeCoders") (T := T_RC) (N := 8) hx hb hg in_RC hown hK hP 0 rfl rfl 0 (by decide) (hg _ k258) (fun _ h9 => h9) rfl d_RC_read_60 ?_
        refine my_cit (wr := [(rc, Sum.inr (6, [Value.ref co, Value.ref ma, Value.int (nI ms.length), Value.int fit, Value.int fen, Value.int 1, Value.int fbd, Value.int 0])), (ma, Sum.inl (cM, 8, Sum.inr (Sum.inr (Sum.inr (Sum.inr mf)))))]) (va_runU (As := []) (rest := [Value.ref rc]) ⟨hx, hb, hml, hown, hts⟩ (f_Bits_openReading l dC dI cI cM cO H.size co xshift xkeptCode xkeptRange xkeptAsked xcache xpending xlow xrange xcode xreadLow xreadRange ri ro rw xasked ria rik rif is (hri) (hGri) (hLri) (hoct)) (va_cwA 0 hts (my_gU k727 k729 k730 k731 k4 k732) rfl rfl rfl (hN.1 _ j728 rfl) (by decide +kernel) ⟨by rw [hR]; exact Nat.le_of_ble_eq_true rfl, by rw [hR]; exact Nat.le_of_ble_eq_true rfl⟩) (my_preV hK hN (my_subU hP [2, 3, 4] rfl) (my_dubT hD [2, 3, 4] (by decide +kernel) rfl) 0 rfl rfl) rfl rfl hl.1 rfl (lv_room (Nat.le_of_ble_eq_true rfl)) d_RC_read_63 ⟨by rw [hR]; exact Nat.le_of_ble_eq_true rfl, by rw [hR]; exact Nat.le_of_ble_eq_true rfl⟩) hP hD hS hA [2, 3, 4] [0, 1] rfl rfl (by decide +kernel) (by decide +kernel) (fun r_63 u9 H locs hw_63 hP hD hS => ?_)
        have hr_63 : r_63 = 1 := hw_63
        have hPD : my_PD (dC, dI) vwCl A ([(rc, Sum.inr (6, [Value.ref co, Value.ref ma, Value.int (nI ms.length), Value.int fit, Value.int fen, Value.int 1, Value.int fbd, Value.int 0])), (ma, Sum.inl (cM, 8, Sum.inr (Sum.inr (Sum.inr (Sum.inr mf))))), (co, Sum.inr (3, [Value.int xshift, Value.long xkeptCode, Value.long xkeptRange, Value.int xkeptAsked, Value.int xcache, Value.int xpending, Value.long xlow, Value.long xrange, Value.long (lN (frN is 0 4)), Value.long (lN 0), Value.long (lN 4294967295), Value.ref ri, Value.ref ro, Value.ref rw, Value.int (nI 4)])), (ri, Sum.inr (0, [Value.int (nI is.length), Value.ref ria])), (ria, Sum.inl (cI, rik, Sum.inl rif))] ++ mbsC cI ms9) H := ⟨hP, hD⟩
        have hP := hPD.1
        have hD := hPD.2
        refine lv_if_ne (tgt := 73) hx hb d_RC_read_66 (by decide) (fun c_2 => ?_) (fun c_2 => ?_)
        · refine lv_iconst (v := 0) hx hb d_RC_read_73 (by decide) ?_
          refine va_put (D := (dC, dI)) (ci := 6) (v := .int 0) (ty := .boolean) (C := "RangeCoders") (T := T_RC) (N := 8) hx hb hg in_RC t_RC o_RC n_RC hown hK hP hD hS 0 rfl rfl 6 (by decide) (hg _ k264) (fun _ h9 => h9) rfl (o_RC 6 (by decide)) rfl rfl (Nat.le_of_ble_eq_true rfl) d_RC_read_74 (fun H locs hP hD hS => ?_)
          have hPD : my_PD (dC, dI) vwCl A ([(rc, Sum.inr (6, [Value.ref co, Value.ref ma, Value.int (nI ms.length), Value.int fit, Value.int fen, Value.int 1, Value.int 0, Value.int 0])), (ma, Sum.inl (cM, 8, Sum.inr (Sum.inr (Sum.inr (Sum.inr mf))))), (co, Sum.inr (3, [Value.int xshift, Value.long xkeptCode, Value.long xkeptRange, Value.int xkeptAsked, Value.int xcache, Value.int xpending, Value.long xlow, Value.long xrange, Value.long (lN (frN is 0 4)), Value.long (lN 0), Value.long (lN 4294967295), Value.ref ri, Value.ref ro, Value.ref rw, Value.int (nI 4)])), (ri, Sum.inr (0, [Value.int (nI is.length), Value.ref ria])), (ria, Sum.inl (cI, rik, Sum.inl rif))] ++ mbsC cI ms9) H := ⟨hP, hD⟩
          have hP := hPD.1
          have hD := hPD.2
          refine lv_aload_n hx hb d_RC_read_77 rfl (lv_at hl 3 rfl) ?_
          refine va_get (D := (dC, dI)) (ci := 6) (v := .ref co) (C := "RangeCoders") (T := T_RC) (N := 8) hx hb hg in_RC hown hK hP 0 rfl rfl 0 (by decide) (hg _ k258) (fun _ h9 => h9) rfl d_RC_read_78 ?_
          refine va_get (D := (dC, dI)) (ci := 3) (v := .ref ri) (C := "RangeCoders$Bits") (T := T_Bits) (N := 15) hx hb hg in_Bits hown hK hP 2 rfl rfl 11 (by decide) (hg _ k102) (fun _ h9 => h9) rfl d_RC_read_81 ?_
          refine va_get (D := (dC, dI)) (ci := 0) (v := .int (nI is.length)) (C := "RangeCoders$Row") (T := T_Row) (N := 2) hx hb hg in_Row hown hK hP 3 rfl rfl 0 (by decide) (hg _ k58) (fun _ h9 => h9) rfl d_RC_read_84 ?_
          exact my_iret (v := nI is.length) hx hb hr (rfl) hlocks hQ hK hS (Nat.le_refl _) (Nat.le_refl _) (ms9) (⟨hma, hmo, bg_e (by rw [show (8 : Nat) = ii by have := nI_ge' (n := 8) (j := ii) (by omega) (by decide) (by rw [← hi9]; assumption); omega]; exact hbg) hk8, hlm, rfl⟩) (hP.part [0, 1, 2, 3, 4] rfl) (hD.part [0, 1, 2, 3, 4] (by decide +kernel) rfl) d_RC_read_87
        · exact absurd (hr_63.symm.trans c_2) (by decide)
      · refine lv_aload_n hx hb d_RC_read_15 rfl (lv_at hl 2 rfl) ?_
        refine lv_iload_n hx hb d_RC_read_16 rfl (lv_at hl 0 rfl) ?_
        have hi8 : ii < 8 := by
          rcases Nat.lt_or_ge ii 8 with z | z
          · exact z
          · exact absurd (by rw [hi9]; exact nI_le (a := 8) z (by omega)) c_1
        refine va_aldq hx hb hK hP 1 1 rfl rfl (by rw [hi9]; exact vp_in_nI hi8 (by decide)) d_RC_read_17 ?_
        rcases hq_a_3 : mf i9.toNatClampNeg with _ | a_3
        · refine W.eq (g2 := F0 m 18 ls [Value.null]) rfl ?_
          have hmf9 := mf_keep hmf hma
          have hnil : ms.length ≤ ii := by
            rcases Nat.lt_or_ge ii ms9.length with z | z
            · obtain ⟨a9, x9, b9, e9, hla⟩ := mb_at z
              subst e9
              rw [hi9, nI_clamp (by omega), ← hla, mf_some hmf9 (by omega)] at hq_a_3; cases hq_a_3
            · rw [hlm]; exact z
          refine lv_astoreN (lv' := [(4, Value.null), (3, Value.int i9), (2, Value.int (nI 8)), (1, Value.ref ma), (0, Value.ref rc)]) hx hb d_RC_read_18 hl (by decide) rfl (fun ls hl => ?_)
          refine lv_aloadN hx hb d_RC_read_20 (lv_at hl 0 rfl) ?_
          refine lv_ifnullN (tgt := 42) hx hb d_RC_read_22 (by decide) ?_
          obtain ⟨v_4, ev_4⟩ : ∃ y : Int32, y = i9 + (1) := ⟨_, rfl⟩
          refine lv_iinc (v := v_4) (lv' := [(3, Value.int v_4), (4, Value.null), (2, Value.int (nI 8)), (1, Value.ref ma), (0, Value.ref rc)]) hx hb d_RC_read_42 hl (k := 1) rfl (by rw [ev_4]; rfl) (by decide) rfl (fun ls hl => ?_)
          refine lv_goto (tgt := 10) hx hb d_RC_read_45 (by decide) ?_
          exact ih9_10 _ (by first | omega | (omega)) v_4 (ii + 1) ms9 rfl (by rw [ev_4, hi9]; exact nI_1 _) (by omega) (by assumption) (by assumption) (bg_no hbg (by rw [← hlm]; exact hnil)) (hlm) H locs ls (hP.part [0, 1, 2, 3, 4] rfl) (hD.part [0, 1, 2, 3, 4] (by decide +kernel) rfl) hS (lv_sub hl [0, 2, 3, 4] rfl)
        · refine W.eq (g2 := F0 m 18 ls [Value.ref a_3]) rfl ?_
          have hmf9 := mf_keep hmf hma
          have hil : ii < ms9.length := by
            rcases Nat.lt_or_ge ii ms9.length with z | z
            · exact z
            · rw [hi9, nI_clamp (by omega), mf_none hmf9 hi8 z] at hq_a_3; cases hq_a_3
          obtain ⟨a9, x9, b9, e9, hla⟩ := mb_at hil
          subst e9
          obtain ⟨mo9, ka9, kl9, kf9, ⟨oo9, osg9, osm9, ofc9, oca9, opa9, ol9, ocf9, opl9, opf9⟩, ⟨pp9, psg9, psm9, pfc9, pca9, ppa9, pl9, pcf9, ppl9, ppf9⟩⟩ := x9
          have hax : a_3 = mo9 := by
            rw [hi9, nI_clamp (by omega), ← hla, mf_some hmf9 (by omega)] at hq_a_3
            exact (Option.some.inj hq_a_3).symm
          subst hax
          obtain ⟨hk64, ⟨ho1, ho2, ho3⟩, ⟨hp1, hp2, hp3⟩⟩ := ok_mid hmo
          have hP := pm_P hP (mb_out cI [(rc, Sum.inr (6, [Value.ref co, Value.ref ma, Value.int (nI ms.length), Value.int fit, Value.int fen, Value.int frd, Value.int fbd, Value.int fir])), (ma, Sum.inl (cM, 8, Sum.inr (Sum.inr (Sum.inr (Sum.inr mf))))), (co, Sum.inr (3, [Value.int xshift, Value.long xkeptCode, Value.long xkeptRange, Value.int xkeptAsked, Value.int xcache, Value.int xpending, Value.long xlow, Value.long xrange, Value.long xcode, Value.long xreadLow, Value.long xreadRange, Value.ref ri, Value.ref ro, Value.ref rw, Value.int xasked])), (ri, Sum.inr (0, [Value.int (nI is.length), Value.ref ria])), (ria, Sum.inl (cI, rik, Sum.inl rif))] a9 b9 (a_3, ka9, kl9, kf9, (oo9, osg9, osm9, ofc9, oca9, opa9, ol9, ocf9, opl9, opf9), (pp9, psg9, psm9, pfc9, pca9, ppa9, pl9, pcf9, ppl9, ppf9)))
          have hD := pm_D hD (mb_out cI [(rc, Sum.inr (6, [Value.ref co, Value.ref ma, Value.int (nI ms.length), Value.int fit, Value.int fen, Value.int frd, Value.int fbd, Value.int fir])), (ma, Sum.inl (cM, 8, Sum.inr (Sum.inr (Sum.inr (Sum.inr mf))))), (co, Sum.inr (3, [Value.int xshift, Value.long xkeptCode, Value.long xkeptRange, Value.int xkeptAsked, Value.int xcache, Value.int xpending, Value.long xlow, Value.long xrange, Value.long xcode, Value.long xreadLow, Value.long xreadRange, Value.ref ri, Value.ref ro, Value.ref rw, Value.int xasked])), (ri, Sum.inr (0, [Value.int (nI is.length), Value.ref ria])), (ria, Sum.inl (cI, rik, Sum.inl rif))] a9 b9 (a_3, ka9, kl9, kf9, (oo9, osg9, osm9, ofc9, oca9, opa9, ol9, ocf9, opl9, opf9), (pp9, psg9, psm9, pfc9, pca9, ppa9, pl9, pcf9, ppl9, ppf9)))
          have hPD : my_PD (dC, dI) vwCl A ([(rc, Sum.inr (6, [Value.ref co, Value.ref ma, Value.int (nI ms.length), Value.int fit, Value.int fen, Value.int frd, Value.int fbd, Value.int fir])), (ma, Sum.inl (cM, 8, Sum.inr (Sum.inr (Sum.inr (Sum.inr mf))))), (co, Sum.inr (3, [Value.int xshift, Value.long xkeptCode, Value.long xkeptRange, Value.int xkeptAsked, Value.int xcache, Value.int xpending, Value.long xlow, Value.long xrange, Value.long xcode, Value.long xreadLow, Value.long xreadRange, Value.ref ri, Value.ref ro, Value.ref rw, Value.int xasked])), (ri, Sum.inr (0, [Value.int (nI is.length), Value.ref ria])), (ria, Sum.inl (cI, rik, Sum.inl rif)), (a_3, Sum.inr (8, [Value.ref ka9, Value.ref oo9, Value.ref pp9])), (ka9, Sum.inl (cI, kl9, Sum.inl kf9)), (oo9, Sum.inr (7, [Value.int osg9, Value.int osm9, Value.int ofc9, Value.ref oca9, Value.ref opa9])), (oca9, Sum.inl (cI, ol9, Sum.inl ocf9)), (opa9, Sum.inl (cI, opl9, Sum.inl opf9)), (pp9, Sum.inr (7, [Value.int psg9, Value.int psm9, Value.int pfc9, Value.ref pca9, Value.ref ppa9])), (pca9, Sum.inl (cI, pl9, Sum.inl pcf9)), (ppa9, Sum.inl (cI, ppl9, Sum.inl ppf9))] ++ (mbsC cI a9 ++ mbsC cI b9)) H := ⟨hP, hD⟩
          have hP := hPD.1
          have hD := hPD.2
          rw [← hla] at hbg
          obtain ⟨hx1, hx2, ⟨hx3, hx4, hx5, hx6⟩, hx7, hx8⟩ := hms ((a_3, ka9, kl9, kf9, (oo9, osg9, osm9, ofc9, oca9, opa9, ol9, ocf9, opl9, opf9), (pp9, psg9, psm9, pfc9, pca9, ppa9, pl9, pcf9, ppl9, ppf9)) : MB) (List.mem_of_getElem? (bg_x hbg hlm))
          have hx3 : psg9 = nI kl9 := hx3
          skip
          subst hx3
          have hx4 : pfc9 = 1 := hx4
          skip
          subst hx4
          have hx5 : pl9 = (2 ^ lev kl9) := hx5
          skip
          subst hx5
          have hx6 : ppl9 = 0 := hx6
          skip
          subst hx6
          have hPD : my_PD (dC, dI) vwCl A ([(rc, Sum.inr (6, [Value.ref co, Value.ref ma, Value.int (nI ms.length), Value.int fit, Value.int fen, Value.int frd, Value.int fbd, Value.int fir])), (ma, Sum.inl (cM, 8, Sum.inr (Sum.inr (Sum.inr (Sum.inr mf))))), (co, Sum.inr (3, [Value.int xshift, Value.long xkeptCode, Value.long xkeptRange, Value.int xkeptAsked, Value.int xcache, Value.int xpending, Value.long xlow, Value.long xrange, Value.long xcode, Value.long xreadLow, Value.long xreadRange, Value.ref ri, Value.ref ro, Value.ref rw, Value.int xasked])), (ri, Sum.inr (0, [Value.int (nI is.length), Value.ref ria])), (ria, Sum.inl (cI, rik, Sum.inl rif)), (a_3, Sum.inr (8, [Value.ref ka9, Value.ref oo9, Value.ref pp9])), (ka9, Sum.inl (cI, kl9, Sum.inl kf9)), (oo9, Sum.inr (7, [Value.int osg9, Value.int osm9, Value.int ofc9, Value.ref oca9, Value.ref opa9])), (oca9, Sum.inl (cI, ol9, Sum.inl ocf9)), (opa9, Sum.inl (cI, opl9, Sum.inl opf9)), (pp9, Sum.inr (7, [Value.int (nI kl9), Value.int psm9, Value.int 1, Value.ref pca9, Value.ref ppa9])), (pca9, Sum.inl (cI, (2 ^ lev kl9), Sum.inl pcf9)), (ppa9, Sum.inl (cI, 0, Sum.inl ppf9))] ++ (mbsC cI a9 ++ mbsC cI b9)) H := ⟨hP, hD⟩
          have hP := hPD.1
          have hD := hPD.2
          refine lv_astore (lv' := [(4, Value.ref a_3), (3, Value.int i9), (2, Value.int (nI 8)), (1, Value.ref ma), (0, Value.ref rc)]) hx hb d_RC_read_18 hl (by decide) rfl (fun ls hl => ?_)
          refine lv_aload hx hb d_RC_read_20 (lv_at hl 0 rfl) ?_
          refine lv_ifnull hx hb d_RC_read_22 ?_
          refine lv_aload_n hx hb d_RC_read_25 rfl (lv_at hl 4 rfl) ?_
          refine va_get (D := (dC, dI)) (ci := 6) (v := .ref co) (C := "RangeCoders") (T := T_RC) (N := 8) hx hb hg in_RC hown hK hP 0 rfl rfl 0 (by decide) (hg _ k258) (fun _ h9 => h9) rfl d_RC_read_26 ?_
          refine lv_aload hx hb d_RC_read_29 (lv_at hl 0 rfl) ?_
          refine va_get (D := (dC, dI)) (ci := 8) (v := .ref pp9) (C := "RangeCoders$Model") (T := T_Model) (N := 3) hx hb hg in_Model hown hK hP 5 rfl rfl 2 (by decide) (hg _ k345) (fun _ h9 => h9) rfl d_RC_read_31 ?_
          refine lv_aload hx hb d_RC_read_34 (lv_at hl 0 rfl) ?_
          refine va_get (D := (dC, dI)) (ci := 8) (v := .ref ka9) (C := "RangeCoders$Model") (T := T_Model) (N := 3) hx hb hg in_Model hown hK hP 5 rfl rfl 0 (by decide) (hg _ k341) (fun _ h9 => h9) rfl d_RC_read_36 ?_
          refine my_cvt (wr := [(rc, Sum.inr (6, [Value.ref co, Value.ref ma, Value.int (nI ms.length), Value.int fit, Value.int fen, Value.int frd, Value.int fbd, Value.int fir])), (ma, Sum.inl (cM, 8, Sum.inr (Sum.inr (Sum.inr (Sum.inr mf))))), (ri, Sum.inr (0, [Value.int (nI is.length), Value.ref ria])), (ria, Sum.inl (cI, rik, Sum.inl rif)), (a_3, Sum.inr (8, [Value.ref ka9, Value.ref oo9, Value.ref pp9])), (oo9, Sum.inr (7, [Value.int osg9, Value.int osm9, Value.int ofc9, Value.ref oca9, Value.ref opa9])), (oca9, Sum.inl (cI, ol9, Sum.inl ocf9)), (opa9, Sum.inl (cI, opl9, Sum.inl opf9))]) (va_runU (As := [Value.ref pp9, Value.ref ka9]) (rest := []) ⟨hx, hb, hml, hown, hts⟩ (f_Bits_prepare l dC dI cI cM cO H.size co xshift xkeptCode xkeptRange xkeptAsked xcache xpending xlow xrange xcode xreadLow xreadRange ri ro rw xasked pp9 (nI kl9) 1 pca9 ppa9 (2 ^ lev kl9) pcf9 0 ppf9 psm9 ka9 kl9 kf9 (lev_63 kl9) (by decide)) (va_cwA 2 hts (my_gU k353 k355 k356 k357 k8 k358) rfl rfl rfl (hN.1 _ j354 rfl) (by decide +kernel) ⟨by rw [hR]; exact Nat.le_of_ble_eq_true rfl, by rw [hR]; exact Nat.le_of_ble_eq_true rfl⟩) (my_preV hK hN (my_subU hP [2, 10, 11, 12, 6] rfl) (my_dubT hD [2, 10, 11, 12, 6] (by decide +kernel) rfl) 0 rfl rfl) rfl rfl hl.1 rfl (lv_room (Nat.le_of_ble_eq_true rfl)) d_RC_read_39 ⟨by rw [hR]; exact Nat.le_of_ble_eq_true rfl, by rw [hR]; exact Nat.le_of_ble_eq_true rfl⟩) hP hD hS hA [2, 10, 11, 12, 6] [0, 1, 3, 4, 5, 7, 8, 9] rfl rfl (by decide +kernel) (by decide +kernel) (fun u9 H locs hw_39 hP hD hS => ?_)
          obtain ⟨ocfq_39, rfl⟩ : ∃ z, z = u9 := ⟨_, rfl⟩
          have hf_39 : tbI ocfq_39 (2 ^ lev kl9) (fun _ => 1024) := hw_39
          have hPD : my_PD (dC, dI) vwCl A ([(rc, Sum.inr (6, [Value.ref co, Value.ref ma, Value.int (nI ms.length), Value.int fit, Value.int fen, Value.int frd, Value.int fbd, Value.int fir])), (ma, Sum.inl (cM, 8, Sum.inr (Sum.inr (Sum.inr (Sum.inr mf))))), (ri, Sum.inr (0, [Value.int (nI is.length), Value.ref ria])), (ria, Sum.inl (cI, rik, Sum.inl rif)), (a_3, Sum.inr (8, [Value.ref ka9, Value.ref oo9, Value.ref pp9])), (oo9, Sum.inr (7, [Value.int osg9, Value.int osm9, Value.int ofc9, Value.ref oca9, Value.ref opa9])), (oca9, Sum.inl (cI, ol9, Sum.inl ocf9)), (opa9, Sum.inl (cI, opl9, Sum.inl opf9)), (co, Sum.inr (3, [Value.int xshift, Value.long xkeptCode, Value.long xkeptRange, Value.int xkeptAsked, Value.int xcache, Value.int xpending, Value.long xlow, Value.long xrange, Value.long xcode, Value.long xreadLow, Value.long xreadRange, Value.ref ri, Value.ref ro, Value.ref rw, Value.int xasked])), (pp9, Sum.inr (7, [Value.int (nI kl9), Value.int (nI (1024 * (2 ^ lev kl9))), Value.int 1, Value.ref pca9, Value.ref ppa9])), (pca9, Sum.inl (cI, (2 ^ lev kl9), Sum.inl ocfq_39)), (ppa9, Sum.inl (cI, 0, Sum.inl ppf9)), (ka9, Sum.inl (cI, kl9, Sum.inl kf9))] ++ (mbsC cI a9 ++ mbsC cI b9)) H := ⟨hP, hD⟩
          have hP := hPD.1
          have hD := hPD.2
          have hP := pm_P (hP.part [0, 1, 8, 2, 3, 4, 12, 5, 6, 7, 9, 10, 11] rfl : va_P (dC, dI) vwCl ([(rc, Sum.inr (6, [Value.ref co, Value.ref ma, Value.int (nI ms.length), Value.int fit, Value.int fen, Value.int frd, Value.int fbd, Value.int fir])), (ma, Sum.inl (cM, 8, Sum.inr (Sum.inr (Sum.inr (Sum.inr mf))))), (co, Sum.inr (3, [Value.int xshift, Value.long xkeptCode, Value.long xkeptRange, Value.int xkeptAsked, Value.int xcache, Value.int xpending, Value.long xlow, Value.long xrange, Value.long xcode, Value.long xreadLow, Value.long xreadRange, Value.ref ri, Value.ref ro, Value.ref rw, Value.int xasked])), (ri, Sum.inr (0, [Value.int (nI is.length), Value.ref ria])), (ria, Sum.inl (cI, rik, Sum.inl rif)), (a_3, Sum.inr (8, [Value.ref ka9, Value.ref oo9, Value.ref pp9])), (ka9, Sum.inl (cI, kl9, Sum.inl kf9)), (oo9, Sum.inr (7, [Value.int osg9, Value.int osm9, Value.int ofc9, Value.ref oca9, Value.ref opa9])), (oca9, Sum.inl (cI, ol9, Sum.inl ocf9)), (opa9, Sum.inl (cI, opl9, Sum.inl opf9)), (pp9, Sum.inr (7, [Value.int (nI kl9), Value.int (nI (1024 * (2 ^ lev kl9))), Value.int 1, Value.ref pca9, Value.ref ppa9])), (pca9, Sum.inl (cI, (2 ^ lev kl9), Sum.inl ocfq_39)), (ppa9, Sum.inl (cI, 0, Sum.inl ppf9))] ++ (mbsC cI a9 ++ mbsC cI b9)) H) (mb_out cI [(rc, Sum.inr (6, [Value.ref co, Value.ref ma, Value.int (nI ms.length), Value.int fit, Value.int fen, Value.int frd, Value.int fbd, Value.int fir])), (ma, Sum.inl (cM, 8, Sum.inr (Sum.inr (Sum.inr (Sum.inr mf))))), (co, Sum.inr (3, [Value.int xshift, Value.long xkeptCode, Value.long xkeptRange, Value.int xkeptAsked, Value.int xcache, Value.int xpending, Value.long xlow, Value.long xrange, Value.long xcode, Value.long xreadLow, Value.long xreadRange, Value.ref ri, Value.ref ro, Value.ref rw, Value.int xasked])), (ri, Sum.inr (0, [Value.int (nI is.length), Value.ref ria])), (ria, Sum.inl (cI, rik, Sum.inl rif))] a9 b9 ((a_3, ka9, kl9, kf9, (oo9, osg9, osm9, ofc9, oca9, opa9, ol9, ocf9, opl9, opf9), (pp9, (nI kl9), (nI (1024 * (2 ^ lev kl9))), 1, pca9, ppa9, (2 ^ lev kl9), ocfq_39, 0, ppf9)) : MB)).symm
          have hD := pm_D (hD.part [0, 1, 8, 2, 3, 4, 12, 5, 6, 7, 9, 10, 11] (by decide +kernel) rfl : va_D A ([(rc, Sum.inr (6, [Value.ref co, Value.ref ma, Value.int (nI ms.length), Value.int fit, Value.int fen, Value.int frd, Value.int fbd, Value.int fir])), (ma, Sum.inl (cM, 8, Sum.inr (Sum.inr (Sum.inr (Sum.inr mf))))), (co, Sum.inr (3, [Value.int xshift, Value.long xkeptCode, Value.long xkeptRange, Value.int xkeptAsked, Value.int xcache, Value.int xpending, Value.long xlow, Value.long xrange, Value.long xcode, Value.long xreadLow, Value.long xreadRange, Value.ref ri, Value.ref ro, Value.ref rw, Value.int xasked])), (ri, Sum.inr (0, [Value.int (nI is.length), Value.ref ria])), (ria, Sum.inl (cI, rik, Sum.inl rif)), (a_3, Sum.inr (8, [Value.ref ka9, Value.ref oo9, Value.ref pp9])), (ka9, Sum.inl (cI, kl9, Sum.inl kf9)), (oo9, Sum.inr (7, [Value.int osg9, Value.int osm9, Value.int ofc9, Value.ref oca9, Value.ref opa9])), (oca9, Sum.inl (cI, ol9, Sum.inl ocf9)), (opa9, Sum.inl (cI, opl9, Sum.inl opf9)), (pp9, Sum.inr (7, [Value.int (nI kl9), Value.int (nI (1024 * (2 ^ lev kl9))), Value.int 1, Value.ref pca9, Value.ref ppa9])), (pca9, Sum.inl (cI, (2 ^ lev kl9), Sum.inl ocfq_39)), (ppa9, Sum.inl (cI, 0, Sum.inl ppf9))] ++ (mbsC cI a9 ++ mbsC cI b9))) (mb_out cI [(rc, Sum.inr (6, [Value.ref co, Value.ref ma, Value.int (nI ms.length), Value.int fit, Value.int fen, Value.int frd, Value.int fbd, Value.int fir])), (ma, Sum.inl (cM, 8, Sum.inr (Sum.inr (Sum.inr (Sum.inr mf))))), (co, Sum.inr (3, [Value.int xshift, Value.long xkeptCode, Value.long xkeptRange, Value.int xkeptAsked, Value.int xcache, Value.int xpending, Value.long xlow, Value.long xrange, Value.long xcode, Value.long xreadLow, Value.long xreadRange, Value.ref ri, Value.ref ro, Value.ref rw, Value.int xasked])), (ri, Sum.inr (0, [Value.int (nI is.length), Value.ref ria])), (ria, Sum.inl (cI, rik, Sum.inl rif))] a9 b9 ((a_3, ka9, kl9, kf9, (oo9, osg9, osm9, ofc9, oca9, opa9, ol9, ocf9, opl9, opf9), (pp9, (nI kl9), (nI (1024 * (2 ^ lev kl9))), 1, pca9, ppa9, (2 ^ lev kl9), ocfq_39, 0, ppf9)) : MB)).symm
          have hma2 : (a9 ++ ((a_3, ka9, kl9, kf9, (oo9, osg9, osm9, ofc9, oca9, opa9, ol9, ocf9, opl9, opf9), (pp9, (nI kl9), (nI (1024 * (2 ^ lev kl9))), 1, pca9, ppa9, (2 ^ lev kl9), ocfq_39, 0, ppf9)) : MB) :: b9).map mbA = ms.map mbA := by refine (mb_set (f := mbA) ?_).trans hma; rfl
          have hmo2 : ∀ x ∈ a9 ++ ((a_3, ka9, kl9, kf9, (oo9, osg9, osm9, ofc9, oca9, opa9, ol9, ocf9, opl9, opf9), (pp9, (nI kl9), (nI (1024 * (2 ^ lev kl9))), 1, pca9, ppa9, (2 ^ lev kl9), ocfq_39, 0, ppf9)) : MB) :: b9, mbOk x := ok_set hmo ⟨hk64, ⟨ho1, ho2, ho3⟩, ⟨hp1, hp2, hp3⟩⟩
          have hPD : my_PD (dC, dI) vwCl A ([(rc, Sum.inr (6, [Value.ref co, Value.ref ma, Value.int (nI ms.length), Value.int fit, Value.int fen, Value.int frd, Value.int fbd, Value.int fir])), (ma, Sum.inl (cM, 8, Sum.inr (Sum.inr (Sum.inr (Sum.inr mf))))), (co, Sum.inr (3, [Value.int xshift, Value.long xkeptCode, Value.long xkeptRange, Value.int xkeptAsked, Value.int xcache, Value.int xpending, Value.long xlow, Value.long xrange, Value.long xcode, Value.long xreadLow, Value.long xreadRange, Value.ref ri, Value.ref ro, Value.ref rw, Value.int xasked])), (ri, Sum.inr (0, [Value.int (nI is.length), Value.ref ria])), (ria, Sum.inl (cI, rik, Sum.inl rif))] ++ mbsC cI (a9 ++ ((a_3, ka9, kl9, kf9, (oo9, osg9, osm9, ofc9, oca9, opa9, ol9, ocf9, opl9, opf9), (pp9, (nI kl9), (nI (1024 * (2 ^ lev kl9))), 1, pca9, ppa9, (2 ^ lev kl9), ocfq_39, 0, ppf9)) : MB) :: b9)) H := ⟨hP, hD⟩
          have hP := hPD.1
          have hD := hPD.2
          have hbg2 : bgI nwr_Bits ms (a9 ++ ((a_3, ka9, kl9, kf9, (oo9, osg9, osm9, ofc9, oca9, opa9, ol9, ocf9, opl9, opf9), (pp9, (nI kl9), (nI (1024 * (2 ^ lev kl9))), 1, pca9, ppa9, (2 ^ lev kl9), ocfq_39, 0, ppf9)) : MB) :: b9) (a9.length + 1) := bg_st hbg hlm ⟨rfl, rfl, rfl, ⟨rfl, rfl, rfl, rfl⟩, hf_39⟩
          rw [hla] at hbg2
          have hlm2 : ms.length = (a9 ++ ((a_3, ka9, kl9, kf9, (oo9, osg9, osm9, ofc9, oca9, opa9, ol9, ocf9, opl9, opf9), (pp9, (nI kl9), (nI (1024 * (2 ^ lev kl9))), 1, pca9, ppa9, (2 ^ lev kl9), ocfq_39, 0, ppf9)) : MB) :: b9).length := by rw [hlm, List.length_append, List.length_append]; rfl
          obtain ⟨v_5, ev_5⟩ : ∃ y : Int32, y = i9 + (1) := ⟨_, rfl⟩
          refine lv_iinc (v := v_5) (lv' := [(3, Value.int v_5), (4, Value.ref a_3), (2, Value.int (nI 8)), (1, Value.ref ma), (0, Value.ref rc)]) hx hb d_RC_read_42 hl (k := 1) rfl (by rw [ev_5]; rfl) (by decide) rfl (fun ls hl => ?_)
          refine lv_goto (tgt := 10) hx hb d_RC_read_45 (by decide) ?_
          exact ih9_10 _ (by first | omega | (omega)) v_5 (ii + 1) (a9 ++ ((a_3, ka9, kl9, kf9, (oo9, osg9, osm9, ofc9, oca9, opa9, ol9, ocf9, opl9, opf9), (pp9, (nI kl9), (nI (1024 * (2 ^ lev kl9))), 1, pca9, ppa9, (2 ^ lev kl9), ocfq_39, 0, ppf9)) : MB) :: b9) rfl (by rw [ev_5, hi9]; exact nI_1 _) (by omega) (hma2) (hmo2) (hbg2) (hlm2) H locs ls (hP.part [0, 1, 2, 3, 4] rfl) (hD.part [0, 1, 2, 3, 4] (by decide +kernel) rfl) hS (lv_sub hl [0, 2, 3, 4] rfl)
  exact J_10 _ (0 : Int32) (0 : Nat) ms rfl (rfl) (by omega) (rfl) (hmk) (bg_0 ms) (rfl) H locs ls (hP.part [0, 1, 2, 3, 4] rfl) (hD.part [0, 1, 2, 3, 4] (by decide +kernel) rfl) hS (lv_sub hl [0, 1, 2, 3] rfl)
set_option maxHeartbeats 2000000 in
set_option maxRecDepth 100000 in
theorem f_RC_readF_Stack (l : Launch) (dC : Nat → ClassId) (dI : Nat → Nat → Nat) (cI cM cO : ClassId) (sz : Nat) (rc : Nat) (ma : Nat) (fit : Int32) (fen : Int32) (frd : Int32) (fbd : Int32) (fir : Int32) (mf : Nat → Option Nat) (co : Nat) (xx : Int64) (xreadX : Int64) (soa : Nat) (sna : Nat) (swa : Nat) (xkept : Int32) (ri : Nat) (ro : Nat) (rw : Nat) (xasked : Int32) (ria : Nat) (rik : Nat) (rif : Nat → Int32) (ms : List MB) (is : List Nat) (hk8 : ms.length ≤ 8) (hri : rOk (nI is.length) rik) (hmf : mfOk mf ms) (hmk : ∀ x ∈ ms, mbOk x) (hGri : gIs rif is) (hLri : is.length ≤ 6000) (hoct : oct is) (hms : ∀ x ∈ ms, mOkr_Stack x) : MetI l y_RC_read (Cond.code y_RC_read prog_1_method_12_code 5 (some .int) :: gw) ({ frames := 5, cells := 0, slots := 0, locals := 106 } : Room) (dC, dI) vwCl (kT cI cM cO) [Value.ref rc] ([(rc, Sum.inr (6, [Value.ref co, Value.ref ma, Value.int (nI ms.length), Value.int fit, Value.int fen, Value.int frd, Value.int fbd, Value.int fir])), (ma, Sum.inl (cM, 8, Sum.inr (Sum.inr (Sum.inr (Sum.inr mf))))), (co, Sum.inr (4, [Value.long xx, Value.long xreadX, Value.ref soa, Value.ref sna, Value.ref swa, Value.int xkept, Value.ref ri, Value.ref ro, Value.ref rw, Value.int xasked])), (ri, Sum.inr (0, [Value.int (nI is.length), Value.ref ria])), (ria, Sum.inl (cI, rik, Sum.inl rif))] ++ mbsC cI ms) sz (fun (r : Int32) (u : List MB × Int32) => u.1.map mbA = ms.map mbA ∧ (∀ x ∈ u.1, mbOk x) ∧ (∀ (i9 : Nat) (x9 y9 : MB), ms[i9]? = some x9 → u.1[i9]? = some y9 → nwr_Stack x9 y9) ∧ ms.length = u.1.length ∧ r = nI is.length ∧ (u.2 = if frN is 0 4 < 8388608 then 1 else 0)) (fun (u : List MB × Int32) => ([(rc, Sum.inr (6, [Value.ref co, Value.ref ma, Value.int (nI ms.length), Value.int fit, Value.int fen, Value.int 1, Value.int u.2, Value.int 0])), (ma, Sum.inl (cM, 8, Sum.inr (Sum.inr (Sum.inr (Sum.inr mf))))), (co, Sum.inr (4, [Value.long xx, Value.long (lN (frN is 0 4)), Value.ref soa, Value.ref sna, Value.ref swa, Value.int xkept, Value.ref ri, Value.ref ro, Value.ref rw, Value.int (nI 4)])), (ri, Sum.inr (0, [Value.int (nI is.length), Value.ref ria])), (ria, Sum.inl (cI, rik, Sum.inl rif))] ++ mbsC cI u.1)) 0 0 := by
  refine my_ofI (cc := prog_1_method_12_code) (n := 5) (ret := (some .int)) (by decide) rfl (Nat.le_of_ble_eq_true rfl) ?_
  intro p e s m args below meth c R Q A ls H locs hx hb hr hts hown hlocks hml hnm hR hQ hA hl hP hK hN hD hS
  have hg : ∀ w ∈ gw, w.before args s = true := fun w h => hts w (List.mem_cons_of_mem _ h)
  have hown : s.vm.findClass "RangeCoders" = some m.cls := hown
  have hl : lv_has ls 5 [(0, Value.ref rc)] := hl
  have hlt_hri := rOk_lt hri
  refine lv_aload_n hx hb d_RC_read_0 rfl (lv_at hl 0 rfl) ?_
  refine va_get (D := (dC, dI)) (ci := 6) (v := .ref ma) (C := "RangeCoders") (T := T_RC) (N := 8) hx hb hg in_RC hown hK hP 0 rfl rfl 1 (by decide) (hg _ k259) (fun _ h9 => h9) rfl d_RC_read_1 ?_
  refine lv_astore_n (lv' := [(1, Value.ref ma), (0, Value.ref rc)]) hx hb d_RC_read_4 rfl hl (by decide) rfl (fun ls hl => ?_)
  refine lv_aload_n hx hb d_RC_read_5 rfl (lv_at hl 0 rfl) ?_
  refine va_alen hx hb hK hP 1 1 rfl rfl (v := nI 8) rfl d_RC_read_6 ?_
  refine lv_istore_n (lv' := [(2, Value.int (nI 8)), (1, Value.ref ma), (0, Value.ref rc)]) hx hb d_RC_read_7 rfl hl (by decide) rfl (fun ls hl => ?_)
  refine lv_iconst (v := 0) hx hb d_RC_read_8 (by decide) ?_
  refine lv_istore_n (lv' := [(3, Value.int 0), (2, Value.int (nI 8)), (1, Value.ref ma), (0, Value.ref rc)]) hx hb d_RC_read_9 rfl hl (by decide) rfl (fun ls hl => ?_)
  have J_10 : ∀ (n9_10 : Nat) (i9 : Int32) (ii : Nat) (ms9 : List MB) (hn9_10 : 8 - ii = n9_10) (hi9 : i9 = nI ii) (hii : ii ≤ 8) (hma : ms9.map mbA = ms.map mbA) (hmo : ∀ x ∈ ms9, mbOk x) (hbg : bgI nwr_Stack ms ms9 ii) (hlm : ms.length = ms9.length) (H : Heap) (locs : List Loc) (ls : Array Slot), va_P (dC, dI) vwCl ([(rc, Sum.inr (6, [Value.ref co, Value.ref ma, Value.int (nI ms.length), Value.int fit, Value.int fen, Value.int frd, Value.int fbd, Value.int fir])), (ma, Sum.inl (cM, 8, Sum.inr (Sum.inr (Sum.inr (Sum.inr mf))))), (co, Sum.inr (4, [Value.long xx, Value.long xreadX, Value.ref soa, Value.ref sna, Value.ref swa, Value.int xkept, Value.ref ri, Value.ref ro, Value.ref rw, Value.int xasked])), (ri, Sum.inr (0, [Value.int (nI is.length), Value.ref ria])), (ria, Sum.inl (cI, rik, Sum.inl rif))] ++ mbsC cI ms9) H → va_D A ([(rc, Sum.inr (6, [Value.ref co, Value.ref ma, Value.int (nI ms.length), Value.int fit, Value.int fen, Value.int frd, Value.int fbd, Value.int fir])), (ma, Sum.inl (cM, 8, Sum.inr (Sum.inr (Sum.inr (Sum.inr mf))))), (co, Sum.inr (4, [Value.long xx, Value.long xreadX, Value.ref soa, Value.ref sna, Value.ref swa, Value.int xkept, Value.ref ri, Value.ref ro, Value.ref rw, Value.int xasked])), (ri, Sum.inr (0, [Value.int (nI is.length), Value.ref ria])), (ria, Sum.inl (cI, rik, Sum.inl rif))] ++ mbsC cI ms9) → va_S A s.heap H locs → lv_has ls 5 [(3, Value.int i9), (2, Value.int (nI 8)), (1, Value.ref ma), (0, Value.ref rc)] → W p l e R s m args below meth c H locs 0 0 Q (F0 m 10 ls []) := by
    intro n9_10
    induction n9_10 using Nat.strongRecOn with
    | ind n9_10 ih9_10 =>
      intro i9 ii ms9 hn9_10 hi9 hii hma hmo hbg hlm H locs ls hP hD hS hl
      refine lv_iload_n hx hb d_RC_read_10 rfl (lv_at hl 0 rfl) ?_
      refine lv_iload_n hx hb d_RC_read_11 rfl (lv_at hl 1 rfl) ?_
      refine lv_icmp_ge (tgt := 48) hx hb d_RC_read_12 (by decide) (fun c_1 => ?_) (fun c_1 => ?_)
      · refine lv_aload_n hx hb d_RC_read_48 rfl (lv_at hl 3 rfl) ?_
        refine lv_iconst (v := 1) hx hb d_RC_read_49 (by decide) ?_
        refine va_put (D := (dC, dI)) (ci := 6) (v := .int 1) (ty := .boolean) (C := "RangeCoders") (T := T_RC) (N := 8) hx hb hg in_RC t_RC o_RC n_RC hown hK hP hD hS 0 rfl rfl 5 (by decide) (hg _ k263) (fun _ h9 => h9) rfl (o_RC 5 (by decide)) rfl rfl (Nat.le_of_ble_eq_true rfl) d_RC_read_50 (fun H locs hP hD hS => ?_)
        have hPD : my_PD (dC, dI) vwCl A ([(rc, Sum.inr (6, [Value.ref co, Value.ref ma, Value.int (nI ms.length), Value.int fit, Value.int fen, Value.int 1, Value.int fbd, Value.int fir])), (ma, Sum.inl (cM, 8, Sum.inr (Sum.inr (Sum.inr (Sum.inr mf))))), (co, Sum.inr (4, [Value.long xx, Value.long xreadX, Value.ref soa, Value.ref sna, Value.ref swa, Value.int xkept, Value.ref ri, Value.ref ro, Value.ref rw, Value.int xasked])), (ri, Sum.inr (0, [Value.int (nI is.length), Value.ref ria])), (ria, Sum.inl (cI, rik, Sum.inl rif))] ++ mbsC cI ms9) H := ⟨hP, hD⟩
        have hP := hPD.1
        have hD := hPD.2
        refine lv_aload_n hx hb d_RC_read_53 rfl (lv_at hl 3 rfl) ?_
        refine lv_iconst (v := 0) hx hb d_RC_read_54 (by decide) ?_
        refine va_put (D := (dC, dI)) (ci := 6) (v := .int 0) (ty := .int) (C := "RangeCoders") (T := T_RC) (N := 8) hx hb hg in_RC t_RC o_RC n_RC hown hK hP hD hS 0 rfl rfl 7 (by decide) (hg _ k265) (fun _ h9 => h9) rfl (o_RC 7 (by decide)) rfl rfl (Nat.le_of_ble_eq_true rfl) d_RC_read_55 (fun H locs hP hD hS => ?_)
        have hPD : my_PD (dC, dI) vwCl A ([(rc, Sum.inr (6, [Value.ref co, Value.ref ma, Value.int (nI ms.length), Value.int fit, Value.int fen, Value.int 1, Value.int fbd, Value.int 0])), (ma, Sum.inl (cM, 8, Sum.inr (Sum.inr (Sum.inr (Sum.inr mf))))), (co, Sum.inr (4, [Value.long xx, Value.long xreadX, Value.ref soa, Value.ref sna, Value.ref swa, Value.int xkept, Value.ref ri, Value.ref ro, Value.ref rw, Value.int xasked])), (ri, Sum.inr (0, [Value.int (nI is.length), Value.ref ria])), (ria, Sum.inl (cI, rik, Sum.inl rif))] ++ mbsC cI ms9) H := ⟨hP, hD⟩
        have hP := hPD.1
        have hD := hPD.2
        refine lv_aload_n hx hb d_RC_read_58 rfl (lv_at hl 3 rfl) ?_
        refine lv_aload_n hx hb d_RC_read_59 rfl (lv_at hl 3 rfl) ?_
        refine va_get (D := (dC, dI)) (ci := 6) (v := .ref co) (C := "RangeCoders") (T := T_RC) (N := 8) hx hb hg in_RC hown hK hP 0 rfl rfl 0 (by decide) (hg _ k258) (fun _ h9 => h9) rfl d_RC_read_60 ?_
        refine my_cit (wr := [(rc, Sum.inr (6, [Value.ref co, Value.ref ma, Value.int (nI ms.length), Value.int fit, Value.int fen, Value.int 1, Value.int fbd, Value.int 0])), (ma, Sum.inl (cM, 8, Sum.inr (Sum.inr (Sum.inr (Sum.inr mf)))))]) (va_runU (As := []) (rest := [Value.ref rc]) ⟨hx, hb, hml, hown, hts⟩ (f_Stack_openReading l dC dI cI cM cO H.size co xx xreadX soa sna swa xkept ri ro rw xasked ria rik rif is (hri) (hGri) (hLri) (hoct)) (va_cwA 0 hts (my_gU k727 k729 k754 k755 k10 k756) rfl rfl rfl (hN.1 _ j728 rfl) (by decide +kernel) ⟨by rw [hR]; exact Nat.le_of_ble_eq_true rfl, by rw [hR]; exact Nat.le_of_ble_eq_true rfl⟩) (my_preV hK hN (my_subU hP [2, 3, 4] rfl) (my_dubT hD [2, 3, 4] (by decide +kernel) rfl) 0 rfl rfl) rfl rfl hl.1 rfl (lv_room (Nat.le_of_ble_eq_true rfl)) d_RC_read_63 ⟨by rw [hR]; exact Nat.le_of_ble_eq_true rfl, by rw [hR]; exact Nat.le_of_ble_eq_true rfl⟩) hP hD hS hA [2, 3, 4] [0, 1] rfl rfl (by decide +kernel) (by decide +kernel) (fun r_63 u9 H locs hw_63 hP hD hS => ?_)
        have hr_63 : r_63 = if frN is 0 4 < 8388608 then 0 else 1 := hw_63
        have hPD : my_PD (dC, dI) vwCl A ([(rc, Sum.inr (6, [Value.ref co, Value.ref ma, Value.int (nI ms.length), Value.int fit, Value.int fen, Value.int 1, Value.int fbd, Value.int 0])), (ma, Sum.inl (cM, 8, Sum.inr (Sum.inr (Sum.inr (Sum.inr mf))))), (co, Sum.inr (4, [Value.long xx, Value.long (lN (frN is 0 4)), Value.ref soa, Value.ref sna, Value.ref swa, Value.int xkept, Value.ref ri, Value.ref ro, Value.ref rw, Value.int (nI 4)])), (ri, Sum.inr (0, [Value.int (nI is.length), Value.ref ria])), (ria, Sum.inl (cI, rik, Sum.inl rif))] ++ mbsC cI ms9) H := ⟨hP, hD⟩
        have hP := hPD.1
        have hD := hPD.2
        refine lv_if_ne (tgt := 73) hx hb d_RC_read_66 (by decide) (fun c_2 => ?_) (fun c_2 => ?_)
        · refine lv_iconst (v := 0) hx hb d_RC_read_73 (by decide) ?_
          refine va_put (D := (dC, dI)) (ci := 6) (v := .int 0) (ty := .boolean) (C := "RangeCoders") (T := T_RC) (N := 8) hx hb hg in_RC t_RC o_RC n_RC hown hK hP hD hS 0 rfl rfl 6 (by decide) (hg _ k264) (fun _ h9 => h9) rfl (o_RC 6 (by decide)) rfl rfl (Nat.le_of_ble_eq_true rfl) d_RC_read_74 (fun H locs hP hD hS => ?_)
          have hPD : my_PD (dC, dI) vwCl A ([(rc, Sum.inr (6, [Value.ref co, Value.ref ma, Value.int (nI ms.length), Value.int fit, Value.int fen, Value.int 1, Value.int 0, Value.int 0])), (ma, Sum.inl (cM, 8, Sum.inr (Sum.inr (Sum.inr (Sum.inr mf))))), (co, Sum.inr (4, [Value.long xx, Value.long (lN (frN is 0 4)), Value.ref soa, Value.ref sna, Value.ref swa, Value.int xkept, Value.ref ri, Value.ref ro, Value.ref rw, Value.int (nI 4)])), (ri, Sum.inr (0, [Value.int (nI is.length), Value.ref ria])), (ria, Sum.inl (cI, rik, Sum.inl rif))] ++ mbsC cI ms9) H := ⟨hP, hD⟩
          have hP := hPD.1
          have hD := hPD.2
          refine lv_aload_n hx hb d_RC_read_77 rfl (lv_at hl 3 rfl) ?_
          refine va_get (D := (dC, dI)) (ci := 6) (v := .ref co) (C := "RangeCoders") (T := T_RC) (N := 8) hx hb hg in_RC hown hK hP 0 rfl rfl 0 (by decide) (hg _ k258) (fun _ h9 => h9) rfl d_RC_read_78 ?_
          refine va_get (D := (dC, dI)) (ci := 4) (v := .ref ri) (C := "RangeCoders$Stack") (T := T_Stack) (N := 10) hx hb hg in_Stack hown hK hP 2 rfl rfl 6 (by decide) (hg _ k102) (fun _ h9 => h9) rfl d_RC_read_81 ?_
          refine va_get (D := (dC, dI)) (ci := 0) (v := .int (nI is.length)) (C := "RangeCoders$Row") (T := T_Row) (N := 2) hx hb hg in_Row hown hK hP 3 rfl rfl 0 (by decide) (hg _ k58) (fun _ h9 => h9) rfl d_RC_read_84 ?_
          exact my_iret (v := nI is.length) hx hb hr (rfl) hlocks hQ hK hS (Nat.le_refl _) (Nat.le_refl _) (ms9, (0 : Int32)) (⟨hma, hmo, bg_e (by rw [show (8 : Nat) = ii by have := nI_ge' (n := 8) (j := ii) (by omega) (by decide) (by rw [← hi9]; assumption); omega]; exact hbg) hk8, hlm, rfl, r3_b0 (by rw [← hr_63]; exact c_2)⟩) (hP.part [0, 1, 2, 3, 4] rfl) (hD.part [0, 1, 2, 3, 4] (by decide +kernel) rfl) d_RC_read_87
        · refine lv_iconst (v := 1) hx hb d_RC_read_69 (by decide) ?_
          refine lv_goto (tgt := 74) hx hb d_RC_read_70 (by decide) ?_
          refine va_put (D := (dC, dI)) (ci := 6) (v := .int 1) (ty := .boolean) (C := "RangeCoders") (T := T_RC) (N := 8) hx hb hg in_RC t_RC o_RC n_RC hown hK hP hD hS 0 rfl rfl 6 (by decide) (hg _ k264) (fun _ h9 => h9) rfl (o_RC 6 (by decide)) rfl rfl (Nat.le_of_ble_eq_true rfl) d_RC_read_74 (fun H locs hP hD hS => ?_)
          have hPD : my_PD (dC, dI) vwCl A ([(rc, Sum.inr (6, [Value.ref co, Value.ref ma, Value.int (nI ms.length), Value.int fit, Value.int fen, Value.int 1, Value.int 1, Value.int 0])), (ma, Sum.inl (cM, 8, Sum.inr (Sum.inr (Sum.inr (Sum.inr mf))))), (co, Sum.inr (4, [Value.long xx, Value.long (lN (frN is 0 4)), Value.ref soa, Value.ref sna, Value.ref swa, Value.int xkept, Value.ref ri, Value.ref ro, Value.ref rw, Value.int (nI 4)])), (ri, Sum.inr (0, [Value.int (nI is.length), Value.ref ria])), (ria, Sum.inl (cI, rik, Sum.inl rif))] ++ mbsC cI ms9) H := ⟨hP, hD⟩
          have hP := hPD.1
          have hD := hPD.2
          refine lv_aload_n hx hb d_RC_read_77 rfl (lv_at hl 3 rfl) ?_
          refine va_get (D := (dC, dI)) (ci := 6) (v := .ref co) (C := "RangeCoders") (T := T_RC) (N := 8) hx hb hg in_RC hown hK hP 0 rfl rfl 0 (by decide) (hg _ k258) (fun _ h9 => h9) rfl d_RC_read_78 ?_
          refine va_get (D := (dC, dI)) (ci := 4) (v := .ref ri) (C := "RangeCoders$Stack") (T := T_Stack) (N := 10) hx hb hg in_Stack hown hK hP 2 rfl rfl 6 (by decide) (hg _ k102) (fun _ h9 => h9) rfl d_RC_read_81 ?_
          refine va_get (D := (dC, dI)) (ci := 0) (v := .int (nI is.length)) (C := "RangeCoders$Row") (T := T_Row) (N := 2) hx hb hg in_Row hown hK hP 3 rfl rfl 0 (by decide) (hg _ k58) (fun _ h9 => h9) rfl d_RC_read_84 ?_
          exact my_iret (v := nI is.length) hx hb hr (rfl) hlocks hQ hK hS (Nat.le_refl _) (Nat.le_refl _) (ms9, (1 : Int32)) (⟨hma, hmo, bg_e (by rw [show (8 : Nat) = ii by have := nI_ge' (n := 8) (j := ii) (by omega) (by decide) (by rw [← hi9]; assumption); omega]; exact hbg) hk8, hlm, rfl, r3_b1 (by rw [← hr_63]; exact c_2)⟩) (hP.part [0, 1, 2, 3, 4] rfl) (hD.part [0, 1, 2, 3, 4] (by decide +kernel) rfl) d_RC_read_87
      · refine lv_aload_n hx hb d_RC_read_15 rfl (lv_at hl 2 rfl) ?_
        refine lv_iload_n hx hb d_RC_read_16 rfl (lv_at hl 0 rfl) ?_
        have hi8 : ii < 8 := by
          rcases Nat.lt_or_ge ii 8 with z | z
          · exact z
          · exact absurd (by rw [hi9]; exact nI_le (a := 8) z (by omega)) c_1
        refine va_aldq hx hb hK hP 1 1 rfl rfl (by rw [hi9]; exact vp_in_nI hi8 (by decide)) d_RC_read_17 ?_
        rcases hq_a_3 : mf i9.toNatClampNeg with _ | a_3
        · refine W.eq (g2 := F0 m 18 ls [Value.null]) rfl ?_
          have hmf9 := mf_keep hmf hma
          have hnil : ms.length ≤ ii := by
            rcases Nat.lt_or_ge ii ms9.length with z | z
            · obtain ⟨a9, x9, b9, e9, hla⟩ := mb_at z
              subst e9
              rw [hi9, nI_clamp (by omega), ← hla, mf_some hmf9 (by omega)] at hq_a_3; cases hq_a_3
            · rw [hlm]; exact z
          refine lv_astoreN (lv' := [(4, Value.null), (3, Value.int i9), (2, Value.int (nI 8)), (1, Value.ref ma), (0, Value.ref rc)]) hx hb d_RC_read_18 hl (by decide) rfl (fun ls hl => ?_)
          refine lv_aloadN hx hb d_RC_read_20 (lv_at hl 0 rfl) ?_
          refine lv_ifnullN (tgt := 42) hx hb d_RC_read_22 (by decide) ?_
          obtain ⟨v_4, ev_4⟩ : ∃ y : Int32, y = i9 + (1) := ⟨_, rfl⟩
          refine lv_iinc (v := v_4) (lv' := [(3, Value.int v_4), (4, Value.null), (2, Value.int (nI 8)), (1, Value.ref ma), (0, Value.ref rc)]) hx hb d_RC_read_42 hl (k := 1) rfl (by rw [ev_4]; rfl) (by decide) rfl (fun ls hl => ?_)
          refine lv_goto (tgt := 10) hx hb d_RC_read_45 (by decide) ?_
          exact ih9_10 _ (by first | omega | (omega)) v_4 (ii + 1) ms9 rfl (by rw [ev_4, hi9]; exact nI_1 _) (by omega) (by assumption) (by assumption) (bg_no hbg (by rw [← hlm]; exact hnil)) (hlm) H locs ls (hP.part [0, 1, 2, 3, 4] rfl) (hD.part [0, 1, 2, 3, 4] (by decide +kernel) rfl) hS (lv_sub hl [0, 2, 3, 4] rfl)
        · refine W.eq (g2 := F0 m 18 ls [Value.ref a_3]) rfl ?_
          have hmf9 := mf_keep hmf hma
          have hil : ii < ms9.length := by
            rcases Nat.lt_or_ge ii ms9.length with z | z
            · exact z
            · rw [hi9, nI_clamp (by omega), mf_none hmf9 hi8 z] at hq_a_3; cases hq_a_3
          obtain ⟨a9, x9, b9, e9, hla⟩ := mb_at hil
          subst e9
          obtain ⟨mo9, ka9, kl9, kf9, ⟨oo9, osg9, osm9, ofc9, oca9, opa9, ol9, ocf9, opl9, opf9⟩, ⟨pp9, psg9, psm9, pfc9, pca9, ppa9, pl9, pcf9, ppl9, ppf9⟩⟩ := x9
          have hax : a_3 = mo9 := by
            rw [hi9, nI_clamp (by omega), ← hla, mf_some hmf9 (by omega)] at hq_a_3
            exact (Option.some.inj hq_a_3).symm
          subst hax
          obtain ⟨hk64, ⟨ho1, ho2, ho3⟩, ⟨hp1, hp2, hp3⟩⟩ := ok_mid hmo
          have hP := pm_P hP (mb_out cI [(rc, Sum.inr (6, [Value.ref co, Value.ref ma, Value.int (nI ms.length), Value.int fit, Value.int fen, Value.int frd, Value.int fbd, Value.int fir])), (ma, Sum.inl (cM, 8, Sum.inr (Sum.inr (Sum.inr (Sum.inr mf))))), (co, Sum.inr (4, [Value.long xx, Value.long xreadX, Value.ref soa, Value.ref sna, Value.ref swa, Value.int xkept, Value.ref ri, Value.ref ro, Value.ref rw, Value.int xasked])), (ri, Sum.inr (0, [Value.int (nI is.length), Value.ref ria])), (ria, Sum.inl (cI, rik, Sum.inl rif))] a9 b9 (a_3, ka9, kl9, kf9, (oo9, osg9, osm9, ofc9, oca9, opa9, ol9, ocf9, opl9, opf9), (pp9, psg9, psm9, pfc9, pca9, ppa9, pl9, pcf9, ppl9, ppf9)))
          have hD := pm_D hD (mb_out cI [(rc, Sum.inr (6, [Value.ref co, Value.ref ma, Value.int (nI ms.length), Value.int fit, Value.int fen, Value.int frd, Value.int fbd, Value.int fir])), (ma, Sum.inl (cM, 8, Sum.inr (Sum.inr (Sum.inr (Sum.inr mf))))), (co, Sum.inr (4, [Value.long xx, Value.long xreadX, Value.ref soa, Value.ref sna, Value.ref swa, Value.int xkept, Value.ref ri, Value.ref ro, Value.ref rw, Value.int xasked])), (ri, Sum.inr (0, [Value.int (nI is.length), Value.ref ria])), (ria, Sum.inl (cI, rik, Sum.inl rif))] a9 b9 (a_3, ka9, kl9, kf9, (oo9, osg9, osm9, ofc9, oca9, opa9, ol9, ocf9, opl9, opf9), (pp9, psg9, psm9, pfc9, pca9, ppa9, pl9, pcf9, ppl9, ppf9)))
          have hPD : my_PD (dC, dI) vwCl A ([(rc, Sum.inr (6, [Value.ref co, Value.ref ma, Value.int (nI ms.length), Value.int fit, Value.int fen, Value.int frd, Value.int fbd, Value.int fir])), (ma, Sum.inl (cM, 8, Sum.inr (Sum.inr (Sum.inr (Sum.inr mf))))), (co, Sum.inr (4, [Value.long xx, Value.long xreadX, Value.ref soa, Value.ref sna, Value.ref swa, Value.int xkept, Value.ref ri, Value.ref ro, Value.ref rw, Value.int xasked])), (ri, Sum.inr (0, [Value.int (nI is.length), Value.ref ria])), (ria, Sum.inl (cI, rik, Sum.inl rif)), (a_3, Sum.inr (8, [Value.ref ka9, Value.ref oo9, Value.ref pp9])), (ka9, Sum.inl (cI, kl9, Sum.inl kf9)), (oo9, Sum.inr (7, [Value.int osg9, Value.int osm9, Value.int ofc9, Value.ref oca9, Value.ref opa9])), (oca9, Sum.inl (cI, ol9, Sum.inl ocf9)), (opa9, Sum.inl (cI, opl9, Sum.inl opf9)), (pp9, Sum.inr (7, [Value.int psg9, Value.int psm9, Value.int pfc9, Value.ref pca9, Value.ref ppa9])), (pca9, Sum.inl (cI, pl9, Sum.inl pcf9)), (ppa9, Sum.inl (cI, ppl9, Sum.inl ppf9))] ++ (mbsC cI a9 ++ mbsC cI b9)) H := ⟨hP, hD⟩
          have hP := hPD.1
          have hD := hPD.2
          rw [← hla] at hbg
          obtain ⟨hx1, hx2, ⟨hx3, hx4, hx5, hx6⟩, hx7, hx8⟩ := hms ((a_3, ka9, kl9, kf9, (oo9, osg9, osm9, ofc9, oca9, opa9, ol9, ocf9, opl9, opf9), (pp9, psg9, psm9, pfc9, pca9, ppa9, pl9, pcf9, ppl9, ppf9)) : MB) (List.mem_of_getElem? (bg_x hbg hlm))
          have hx3 : psg9 = nI kl9 := hx3
          skip
          subst hx3
          have hx4 : pfc9 = 0 := hx4
          skip
          subst hx4
          have hx5 : pl9 = kl9 := hx5
          have hx5 := hx5.symm
          subst hx5
          have hx6 : ppl9 = 0 := hx6
          skip
          subst hx6
          have hPD : my_PD (dC, dI) vwCl A ([(rc, Sum.inr (6, [Value.ref co, Value.ref ma, Value.int (nI ms.length), Value.int fit, Value.int fen, Value.int frd, Value.int fbd, Value.int fir])), (ma, Sum.inl (cM, 8, Sum.inr (Sum.inr (Sum.inr (Sum.inr mf))))), (co, Sum.inr (4, [Value.long xx, Value.long xreadX, Value.ref soa, Value.ref sna, Value.ref swa, Value.int xkept, Value.ref ri, Value.ref ro, Value.ref rw, Value.int xasked])), (ri, Sum.inr (0, [Value.int (nI is.length), Value.ref ria])), (ria, Sum.inl (cI, rik, Sum.inl rif)), (a_3, Sum.inr (8, [Value.ref ka9, Value.ref oo9, Value.ref pp9])), (ka9, Sum.inl (cI, kl9, Sum.inl kf9)), (oo9, Sum.inr (7, [Value.int osg9, Value.int osm9, Value.int ofc9, Value.ref oca9, Value.ref opa9])), (oca9, Sum.inl (cI, ol9, Sum.inl ocf9)), (opa9, Sum.inl (cI, opl9, Sum.inl opf9)), (pp9, Sum.inr (7, [Value.int (nI kl9), Value.int psm9, Value.int 0, Value.ref pca9, Value.ref ppa9])), (pca9, Sum.inl (cI, kl9, Sum.inl pcf9)), (ppa9, Sum.inl (cI, 0, Sum.inl ppf9))] ++ (mbsC cI a9 ++ mbsC cI b9)) H := ⟨hP, hD⟩
          have hP := hPD.1
          have hD := hPD.2
          refine lv_astore (lv' := [(4, Value.ref a_3), (3, Value.int i9), (2, Value.int (nI 8)), (1, Value.ref ma), (0, Value.ref rc)]) hx hb d_RC_read_18 hl (by decide) rfl (fun ls hl => ?_)
          refine lv_aload hx hb d_RC_read_20 (lv_at hl 0 rfl) ?_
          refine lv_ifnull hx hb d_RC_read_22 ?_
          refine lv_aload_n hx hb d_RC_read_25 rfl (lv_at hl 4 rfl) ?_
          refine va_get (D := (dC, dI)) (ci := 6) (v := .ref co) (C := "RangeCoders") (T := T_RC) (N := 8) hx hb hg in_RC hown hK hP 0 rfl rfl 0 (by decide) (hg _ k258) (fun _ h9 => h9) rfl d_RC_read_26 ?_
          refine lv_aload hx hb d_RC_read_29 (lv_at hl 0 rfl) ?_
          refine va_get (D := (dC, dI)) (ci := 8) (v := .ref pp9) (C := "RangeCoders$Model") (T := T_Model) (N := 3) hx hb hg in_Model hown hK hP 5 rfl rfl 2 (by decide) (hg _ k345) (fun _ h9 => h9) rfl d_RC_read_31 ?_
          refine lv_aload hx hb d_RC_read_34 (lv_at hl 0 rfl) ?_
          refine va_get (D := (dC, dI)) (ci := 8) (v := .ref ka9) (C := "RangeCoders$Model") (T := T_Model) (N := 3) hx hb hg in_Model hown hK hP 5 rfl rfl 0 (by decide) (hg _ k341) (fun _ h9 => h9) rfl d_RC_read_36 ?_
          refine my_cvt (wr := [(rc, Sum.inr (6, [Value.ref co, Value.ref ma, Value.int (nI ms.length), Value.int fit, Value.int fen, Value.int frd, Value.int fbd, Value.int fir])), (ma, Sum.inl (cM, 8, Sum.inr (Sum.inr (Sum.inr (Sum.inr mf))))), (ri, Sum.inr (0, [Value.int (nI is.length), Value.ref ria])), (ria, Sum.inl (cI, rik, Sum.inl rif)), (a_3, Sum.inr (8, [Value.ref ka9, Value.ref oo9, Value.ref pp9])), (oo9, Sum.inr (7, [Value.int osg9, Value.int osm9, Value.int ofc9, Value.ref oca9, Value.ref opa9])), (oca9, Sum.inl (cI, ol9, Sum.inl ocf9)), (opa9, Sum.inl (cI, opl9, Sum.inl opf9))]) (va_runU (As := [Value.ref pp9, Value.ref ka9]) (rest := []) ⟨hx, hb, hml, hown, hts⟩ (f_Stack_prepare l dC dI cI cM cO H.size co xx xreadX soa sna swa xkept ri ro rw xasked pp9 (nI kl9) 0 pca9 ppa9 kl9 pcf9 0 ppf9 psm9 ka9 kf9 (Cx ((a_3, ka9, kl9, kf9, (oo9, osg9, osm9, ofc9, oca9, opa9, ol9, ocf9, opl9, opf9), (pp9, nI kl9, psm9, 0, pca9, ppa9, kl9, pcf9, 0, ppf9)) : MB)) (hx2) (by decide) (hx7) (hx8) (Nat.le_of_succ_le hx1) (rfl)) (va_cwA 2 hts (my_gU k353 k355 k380 k381 k10 k382) rfl rfl rfl (hN.1 _ j354 rfl) (by decide +kernel) ⟨by rw [hR]; exact Nat.le_of_ble_eq_true rfl, by rw [hR]; exact Nat.le_of_ble_eq_true rfl⟩) (my_preV hK hN (my_subU hP [2, 10, 11, 12, 6] rfl) (my_dubT hD [2, 10, 11, 12, 6] (by decide +kernel) rfl) 0 rfl rfl) rfl rfl hl.1 rfl (lv_room (Nat.le_of_ble_eq_true rfl)) d_RC_read_39 ⟨by rw [hR]; exact Nat.le_of_ble_eq_true rfl, by rw [hR]; exact Nat.le_of_ble_eq_true rfl⟩) hP hD hS hA [2, 10, 11, 12, 6] [0, 1, 3, 4, 5, 7, 8, 9] rfl rfl (by decide +kernel) (by decide +kernel) (fun u9 H locs hw_39 hP hD hS => ?_)
          obtain ⟨ocfq_39, rfl⟩ : ∃ z, z = u9 := ⟨_, rfl⟩
          have hf_39 : tbI ocfq_39 kl9 (sc kl9 4096 (Cx ((a_3, ka9, kl9, kf9, (oo9, osg9, osm9, ofc9, oca9, opa9, ol9, ocf9, opl9, opf9), (pp9, nI kl9, psm9, 0, pca9, ppa9, kl9, pcf9, 0, ppf9)) : MB))) := hw_39
          have hPD : my_PD (dC, dI) vwCl A ([(rc, Sum.inr (6, [Value.ref co, Value.ref ma, Value.int (nI ms.length), Value.int fit, Value.int fen, Value.int frd, Value.int fbd, Value.int fir])), (ma, Sum.inl (cM, 8, Sum.inr (Sum.inr (Sum.inr (Sum.inr mf))))), (ri, Sum.inr (0, [Value.int (nI is.length), Value.ref ria])), (ria, Sum.inl (cI, rik, Sum.inl rif)), (a_3, Sum.inr (8, [Value.ref ka9, Value.ref oo9, Value.ref pp9])), (oo9, Sum.inr (7, [Value.int osg9, Value.int osm9, Value.int ofc9, Value.ref oca9, Value.ref opa9])), (oca9, Sum.inl (cI, ol9, Sum.inl ocf9)), (opa9, Sum.inl (cI, opl9, Sum.inl opf9)), (co, Sum.inr (4, [Value.long xx, Value.long xreadX, Value.ref soa, Value.ref sna, Value.ref swa, Value.int xkept, Value.ref ri, Value.ref ro, Value.ref rw, Value.int xasked])), (pp9, Sum.inr (7, [Value.int (nI kl9), Value.int (nI (ns (sc kl9 4096 (Cx ((a_3, ka9, kl9, kf9, (oo9, osg9, osm9, ofc9, oca9, opa9, ol9, ocf9, opl9, opf9), (pp9, nI kl9, psm9, 0, pca9, ppa9, kl9, pcf9, 0, ppf9)) : MB))) kl9)), Value.int 0, Value.ref pca9, Value.ref ppa9])), (pca9, Sum.inl (cI, kl9, Sum.inl ocfq_39)), (ppa9, Sum.inl (cI, 0, Sum.inl ppf9)), (ka9, Sum.inl (cI, kl9, Sum.inl kf9))] ++ (mbsC cI a9 ++ mbsC cI b9)) H := ⟨hP, hD⟩
          have hP := hPD.1
          have hD := hPD.2
          have hP := pm_P (hP.part [0, 1, 8, 2, 3, 4, 12, 5, 6, 7, 9, 10, 11] rfl : va_P (dC, dI) vwCl ([(rc, Sum.inr (6, [Value.ref co, Value.ref ma, Value.int (nI ms.length), Value.int fit, Value.int fen, Value.int frd, Value.int fbd, Value.int fir])), (ma, Sum.inl (cM, 8, Sum.inr (Sum.inr (Sum.inr (Sum.inr mf))))), (co, Sum.inr (4, [Value.long xx, Value.long xreadX, Value.ref soa, Value.ref sna, Value.ref swa, Value.int xkept, Value.ref ri, Value.ref ro, Value.ref rw, Value.int xasked])), (ri, Sum.inr (0, [Value.int (nI is.length), Value.ref ria])), (ria, Sum.inl (cI, rik, Sum.inl rif)), (a_3, Sum.inr (8, [Value.ref ka9, Value.ref oo9, Value.ref pp9])), (ka9, Sum.inl (cI, kl9, Sum.inl kf9)), (oo9, Sum.inr (7, [Value.int osg9, Value.int osm9, Value.int ofc9, Value.ref oca9, Value.ref opa9])), (oca9, Sum.inl (cI, ol9, Sum.inl ocf9)), (opa9, Sum.inl (cI, opl9, Sum.inl opf9)), (pp9, Sum.inr (7, [Value.int (nI kl9), Value.int (nI (ns (sc kl9 4096 (Cx ((a_3, ka9, kl9, kf9, (oo9, osg9, osm9, ofc9, oca9, opa9, ol9, ocf9, opl9, opf9), (pp9, nI kl9, psm9, 0, pca9, ppa9, kl9, pcf9, 0, ppf9)) : MB))) kl9)), Value.int 0, Value.ref pca9, Value.ref ppa9])), (pca9, Sum.inl (cI, kl9, Sum.inl ocfq_39)), (ppa9, Sum.inl (cI, 0, Sum.inl ppf9))] ++ (mbsC cI a9 ++ mbsC cI b9)) H) (mb_out cI [(rc, Sum.inr (6, [Value.ref co, Value.ref ma, Value.int (nI ms.length), Value.int fit, Value.int fen, Value.int frd, Value.int fbd, Value.int fir])), (ma, Sum.inl (cM, 8, Sum.inr (Sum.inr (Sum.inr (Sum.inr mf))))), (co, Sum.inr (4, [Value.long xx, Value.long xreadX, Value.ref soa, Value.ref sna, Value.ref swa, Value.int xkept, Value.ref ri, Value.ref ro, Value.ref rw, Value.int xasked])), (ri, Sum.inr (0, [Value.int (nI is.length), Value.ref ria])), (ria, Sum.inl (cI, rik, Sum.inl rif))] a9 b9 ((a_3, ka9, kl9, kf9, (oo9, osg9, osm9, ofc9, oca9, opa9, ol9, ocf9, opl9, opf9), (pp9, (nI kl9), (nI (ns (sc kl9 4096 (Cx ((a_3, ka9, kl9, kf9, (oo9, osg9, osm9, ofc9, oca9, opa9, ol9, ocf9, opl9, opf9), (pp9, nI kl9, psm9, 0, pca9, ppa9, kl9, pcf9, 0, ppf9)) : MB))) kl9)), 0, pca9, ppa9, kl9, ocfq_39, 0, ppf9)) : MB)).symm
          have hD := pm_D (hD.part [0, 1, 8, 2, 3, 4, 12, 5, 6, 7, 9, 10, 11] (by decide +kernel) rfl : va_D A ([(rc, Sum.inr (6, [Value.ref co, Value.ref ma, Value.int (nI ms.length), Value.int fit, Value.int fen, Value.int frd, Value.int fbd, Value.int fir])), (ma, Sum.inl (cM, 8, Sum.inr (Sum.inr (Sum.inr (Sum.inr mf))))), (co, Sum.inr (4, [Value.long xx, Value.long xreadX, Value.ref soa, Value.ref sna, Value.ref swa, Value.int xkept, Value.ref ri, Value.ref ro, Value.ref rw, Value.int xasked])), (ri, Sum.inr (0, [Value.int (nI is.length), Value.ref ria])), (ria, Sum.inl (cI, rik, Sum.inl rif)), (a_3, Sum.inr (8, [Value.ref ka9, Value.ref oo9, Value.ref pp9])), (ka9, Sum.inl (cI, kl9, Sum.inl kf9)), (oo9, Sum.inr (7, [Value.int osg9, Value.int osm9, Value.int ofc9, Value.ref oca9, Value.ref opa9])), (oca9, Sum.inl (cI, ol9, Sum.inl ocf9)), (opa9, Sum.inl (cI, opl9, Sum.inl opf9)), (pp9, Sum.inr (7, [Value.int (nI kl9), Value.int (nI (ns (sc kl9 4096 (Cx ((a_3, ka9, kl9, kf9, (oo9, osg9, osm9, ofc9, oca9, opa9, ol9, ocf9, opl9, opf9), (pp9, nI kl9, psm9, 0, pca9, ppa9, kl9, pcf9, 0, ppf9)) : MB))) kl9)), Value.int 0, Value.ref pca9, Value.ref ppa9])), (pca9, Sum.inl (cI, kl9, Sum.inl ocfq_39)), (ppa9, Sum.inl (cI, 0, Sum.inl ppf9))] ++ (mbsC cI a9 ++ mbsC cI b9))) (mb_out cI [(rc, Sum.inr (6, [Value.ref co, Value.ref ma, Value.int (nI ms.length), Value.int fit, Value.int fen, Value.int frd, Value.int fbd, Value.int fir])), (ma, Sum.inl (cM, 8, Sum.inr (Sum.inr (Sum.inr (Sum.inr mf))))), (co, Sum.inr (4, [Value.long xx, Value.long xreadX, Value.ref soa, Value.ref sna, Value.ref swa, Value.int xkept, Value.ref ri, Value.ref ro, Value.ref rw, Value.int xasked])), (ri, Sum.inr (0, [Value.int (nI is.length), Value.ref ria])), (ria, Sum.inl (cI, rik, Sum.inl rif))] a9 b9 ((a_3, ka9, kl9, kf9, (oo9, osg9, osm9, ofc9, oca9, opa9, ol9, ocf9, opl9, opf9), (pp9, (nI kl9), (nI (ns (sc kl9 4096 (Cx ((a_3, ka9, kl9, kf9, (oo9, osg9, osm9, ofc9, oca9, opa9, ol9, ocf9, opl9, opf9), (pp9, nI kl9, psm9, 0, pca9, ppa9, kl9, pcf9, 0, ppf9)) : MB))) kl9)), 0, pca9, ppa9, kl9, ocfq_39, 0, ppf9)) : MB)).symm
          have hma2 : (a9 ++ ((a_3, ka9, kl9, kf9, (oo9, osg9, osm9, ofc9, oca9, opa9, ol9, ocf9, opl9, opf9), (pp9, (nI kl9), (nI (ns (sc kl9 4096 (Cx ((a_3, ka9, kl9, kf9, (oo9, osg9, osm9, ofc9, oca9, opa9, ol9, ocf9, opl9, opf9), (pp9, nI kl9, psm9, 0, pca9, ppa9, kl9, pcf9, 0, ppf9)) : MB))) kl9)), 0, pca9, ppa9, kl9, ocfq_39, 0, ppf9)) : MB) :: b9).map mbA = ms.map mbA := by refine (mb_set (f := mbA) ?_).trans hma; rfl
          have hmo2 : ∀ x ∈ a9 ++ ((a_3, ka9, kl9, kf9, (oo9, osg9, osm9, ofc9, oca9, opa9, ol9, ocf9, opl9, opf9), (pp9, (nI kl9), (nI (ns (sc kl9 4096 (Cx ((a_3, ka9, kl9, kf9, (oo9, osg9, osm9, ofc9, oca9, opa9, ol9, ocf9, opl9, opf9), (pp9, nI kl9, psm9, 0, pca9, ppa9, kl9, pcf9, 0, ppf9)) : MB))) kl9)), 0, pca9, ppa9, kl9, ocfq_39, 0, ppf9)) : MB) :: b9, mbOk x := ok_set hmo ⟨hk64, ⟨ho1, ho2, ho3⟩, ⟨hp1, hp2, hp3⟩⟩
          have hPD : my_PD (dC, dI) vwCl A ([(rc, Sum.inr (6, [Value.ref co, Value.ref ma, Value.int (nI ms.length), Value.int fit, Value.int fen, Value.int frd, Value.int fbd, Value.int fir])), (ma, Sum.inl (cM, 8, Sum.inr (Sum.inr (Sum.inr (Sum.inr mf))))), (co, Sum.inr (4, [Value.long xx, Value.long xreadX, Value.ref soa, Value.ref sna, Value.ref swa, Value.int xkept, Value.ref ri, Value.ref ro, Value.ref rw, Value.int xasked])), (ri, Sum.inr (0, [Value.int (nI is.length), Value.ref ria])), (ria, Sum.inl (cI, rik, Sum.inl rif))] ++ mbsC cI (a9 ++ ((a_3, ka9, kl9, kf9, (oo9, osg9, osm9, ofc9, oca9, opa9, ol9, ocf9, opl9, opf9), (pp9, (nI kl9), (nI (ns (sc kl9 4096 (Cx ((a_3, ka9, kl9, kf9, (oo9, osg9, osm9, ofc9, oca9, opa9, ol9, ocf9, opl9, opf9), (pp9, nI kl9, psm9, 0, pca9, ppa9, kl9, pcf9, 0, ppf9)) : MB))) kl9)), 0, pca9, ppa9, kl9, ocfq_39, 0, ppf9)) : MB) :: b9)) H := ⟨hP, hD⟩
          have hP := hPD.1
          have hD := hPD.2
          have hbg2 : bgI nwr_Stack ms (a9 ++ ((a_3, ka9, kl9, kf9, (oo9, osg9, osm9, ofc9, oca9, opa9, ol9, ocf9, opl9, opf9), (pp9, (nI kl9), (nI (ns (sc kl9 4096 (Cx ((a_3, ka9, kl9, kf9, (oo9, osg9, osm9, ofc9, oca9, opa9, ol9, ocf9, opl9, opf9), (pp9, nI kl9, psm9, 0, pca9, ppa9, kl9, pcf9, 0, ppf9)) : MB))) kl9)), 0, pca9, ppa9, kl9, ocfq_39, 0, ppf9)) : MB) :: b9) (a9.length + 1) := bg_st hbg hlm ⟨rfl, rfl, rfl, ⟨rfl, rfl, rfl, rfl⟩, ⟨hf_39, rfl⟩⟩
          rw [hla] at hbg2
          have hlm2 : ms.length = (a9 ++ ((a_3, ka9, kl9, kf9, (oo9, osg9, osm9, ofc9, oca9, opa9, ol9, ocf9, opl9, opf9), (pp9, (nI kl9), (nI (ns (sc kl9 4096 (Cx ((a_3, ka9, kl9, kf9, (oo9, osg9, osm9, ofc9, oca9, opa9, ol9, ocf9, opl9, opf9), (pp9, nI kl9, psm9, 0, pca9, ppa9, kl9, pcf9, 0, ppf9)) : MB))) kl9)), 0, pca9, ppa9, kl9, ocfq_39, 0, ppf9)) : MB) :: b9).length := by rw [hlm, List.length_append, List.length_append]; rfl
          obtain ⟨v_5, ev_5⟩ : ∃ y : Int32, y = i9 + (1) := ⟨_, rfl⟩
          refine lv_iinc (v := v_5) (lv' := [(3, Value.int v_5), (4, Value.ref a_3), (2, Value.int (nI 8)), (1, Value.ref ma), (0, Value.ref rc)]) hx hb d_RC_read_42 hl (k := 1) rfl (by rw [ev_5]; rfl) (by decide) rfl (fun ls hl => ?_)
          refine lv_goto (tgt := 10) hx hb d_RC_read_45 (by decide) ?_
          exact ih9_10 _ (by first | omega | (omega)) v_5 (ii + 1) (a9 ++ ((a_3, ka9, kl9, kf9, (oo9, osg9, osm9, ofc9, oca9, opa9, ol9, ocf9, opl9, opf9), (pp9, (nI kl9), (nI (ns (sc kl9 4096 (Cx ((a_3, ka9, kl9, kf9, (oo9, osg9, osm9, ofc9, oca9, opa9, ol9, ocf9, opl9, opf9), (pp9, nI kl9, psm9, 0, pca9, ppa9, kl9, pcf9, 0, ppf9)) : MB))) kl9)), 0, pca9, ppa9, kl9, ocfq_39, 0, ppf9)) : MB) :: b9) rfl (by rw [ev_5, hi9]; exact nI_1 _) (by omega) (hma2) (hmo2) (hbg2) (hlm2) H locs ls (hP.part [0, 1, 2, 3, 4] rfl) (hD.part [0, 1, 2, 3, 4] (by decide +kernel) rfl) hS (lv_sub hl [0, 2, 3, 4] rfl)
  exact J_10 _ (0 : Int32) (0 : Nat) ms rfl (rfl) (by omega) (rfl) (hmk) (bg_0 ms) (rfl) H locs ls (hP.part [0, 1, 2, 3, 4] rfl) (hD.part [0, 1, 2, 3, 4] (by decide +kernel) rfl) hS (lv_sub hl [0, 1, 2, 3] rfl)
set_option maxHeartbeats 2000000 in
set_option maxRecDepth 100000 in
theorem f_RC_readF_Table (l : Launch) (dC : Nat → ClassId) (dI : Nat → Nat → Nat) (cI cM cO : ClassId) (sz : Nat) (rc : Nat) (ma : Nat) (fit : Int32) (fen : Int32) (frd : Int32) (fbd : Int32) (fir : Int32) (mf : Nat → Option Nat) (co : Nat) (xx : Int64) (xreadX : Int64) (soa : Nat) (sna : Nat) (swa : Nat) (xkept : Int32) (ri : Nat) (ro : Nat) (rw : Nat) (xasked : Int32) (ria : Nat) (rik : Nat) (rif : Nat → Int32) (ms : List MB) (is : List Nat) (hk8 : ms.length ≤ 8) (hri : rOk (nI is.length) rik) (hmf : mfOk mf ms) (hmk : ∀ x ∈ ms, mbOk x) (hGri : gIs rif is) (hLri : is.length ≤ 6000) (hoct : oct is) (hms : ∀ x ∈ ms, mOkr_Table x) : MetI l y_RC_read (Cond.code y_RC_read prog_1_method_12_code 5 (some .int) :: gw) ({ frames := 5, cells := 0, slots := 0, locals := 107 } : Room) (dC, dI) vwCl (kT cI cM cO) [Value.ref rc] ([(rc, Sum.inr (6, [Value.ref co, Value.ref ma, Value.int (nI ms.length), Value.int fit, Value.int fen, Value.int frd, Value.int fbd, Value.int fir])), (ma, Sum.inl (cM, 8, Sum.inr (Sum.inr (Sum.inr (Sum.inr mf))))), (co, Sum.inr (5, [Value.long xx, Value.long xreadX, Value.ref soa, Value.ref sna, Value.ref swa, Value.int xkept, Value.ref ri, Value.ref ro, Value.ref rw, Value.int xasked])), (ri, Sum.inr (0, [Value.int (nI is.length), Value.ref ria])), (ria, Sum.inl (cI, rik, Sum.inl rif))] ++ mbsC cI ms) sz (fun (r : Int32) (u : List MB) => u.map mbA = ms.map mbA ∧ (∀ x ∈ u, mbOk x) ∧ (∀ (i9 : Nat) (x9 y9 : MB), ms[i9]? = some x9 → u[i9]? = some y9 → nwr_Table x9 y9) ∧ ms.length = u.length ∧ r = nI is.length) (fun (u : List MB) => ([(rc, Sum.inr (6, [Value.ref co, Value.ref ma, Value.int (nI ms.length), Value.int fit, Value.int fen, Value.int 1, Value.int 0, Value.int 0])), (ma, Sum.inl (cM, 8, Sum.inr (Sum.inr (Sum.inr (Sum.inr mf))))), (co, Sum.inr (5, [Value.long xx, Value.long (lN (512 + bbN is 0 9)), Value.ref soa, Value.ref sna, Value.ref swa, Value.int xkept, Value.ref ri, Value.ref ro, Value.ref rw, Value.int (nI 9)])), (ri, Sum.inr (0, [Value.int (nI is.length), Value.ref ria])), (ria, Sum.inl (cI, rik, Sum.inl rif))] ++ mbsC cI u)) 0 0 := by
  refine my_ofI (cc := prog_1_method_12_code) (n := 5) (ret := (some .int)) (by decide) rfl (Nat.le_of_ble_eq_true rfl) ?_
  intro p e s m args below meth c R Q A ls H locs hx hb hr hts hown hlocks hml hnm hR hQ hA hl hP hK hN hD hS
  have hg : ∀ w ∈ gw, w.before args s = true := fun w h => hts w (List.mem_cons_of_mem _ h)
  have hown : s.vm.findClass "RangeCoders" = some m.cls := hown
  have hl : lv_has ls 5 [(0, Value.ref rc)] := hl
  have hlt_hri := rOk_lt hri
  refine lv_aload_n hx hb d_RC_read_0 rfl (lv_at hl 0 rfl) ?_
  refine va_get (D := (dC, dI)) (ci := 6) (v := .ref ma) (C := "RangeCoders") (T := T_RC) (N := 8) hx hb hg in_RC hown hK hP 0 rfl rfl 1 (by decide) (hg _ k259) (fun _ h9 => h9) rfl d_RC_read_1 ?_
  refine lv_astore_n (lv' := [(1, Value.ref ma), (0, Value.ref rc)]) hx hb d_RC_read_4 rfl hl (by decide) rfl (fun ls hl => ?_)
  refine lv_aload_n hx hb d_RC_read_5 rfl (lv_at hl 0 rfl) ?_
  refine va_alen hx hb hK hP 1 1 rfl rfl (v := nI 8) rfl d_RC_read_6 ?_
  refine lv_istore_n (lv' := [(2, Value.int (nI 8)), (1, Value.ref ma), (0, Value.ref rc)]) hx hb d_RC_read_7 rfl hl (by decide) rfl (fun ls hl => ?_)
  refine lv_iconst (v := 0) hx hb d_RC_read_8 (by decide) ?_
  refine lv_istore_n (lv' := [(3, Value.int 0), (2, Value.int (nI 8)), (1, Value.ref ma), (0, Value.ref rc)]) hx hb d_RC_read_9 rfl hl (by decide) rfl (fun ls hl => ?_)
  have J_10 : ∀ (n9_10 : Nat) (i9 : Int32) (ii : Nat) (ms9 : List MB) (hn9_10 : 8 - ii = n9_10) (hi9 : i9 = nI ii) (hii : ii ≤ 8) (hma : ms9.map mbA = ms.map mbA) (hmo : ∀ x ∈ ms9, mbOk x) (hbg : bgI nwr_Table ms ms9 ii) (hlm : ms.length = ms9.length) (H : Heap) (locs : List Loc) (ls : Array Slot), va_P (dC, dI) vwCl ([(rc, Sum.inr (6, [Value.ref co, Value.ref ma, Value.int (nI ms.length), Value.int fit, Value.int fen, Value.int frd, Value.int fbd, Value.int fir])), (ma, Sum.inl (cM, 8, Sum.inr (Sum.inr (Sum.inr (Sum.inr mf))))), (co, Sum.inr (5, [Value.long xx, Value.long xreadX, Value.ref soa, Value.ref sna, Value.ref swa, Value.int xkept, Value.ref ri, Value.ref ro, Value.ref rw, Value.int xasked])), (ri, Sum.inr (0, [Value.int (nI is.length), Value.ref ria])), (ria, Sum.inl (cI, rik, Sum.inl rif))] ++ mbsC cI ms9) H → va_D A ([(rc, Sum.inr (6, [Value.ref co, Value.ref ma, Value.int (nI ms.length), Value.int fit, Value.int fen, Value.int frd, Value.int fbd, Value.int fir])), (ma, Sum.inl (cM, 8, Sum.inr (Sum.inr (Sum.inr (Sum.inr mf))))), (co, Sum.inr (5, [Value.long xx, Value.long xreadX, Value.ref soa, Value.ref sna, Value.ref swa, Value.int xkept, Value.ref ri, Value.ref ro, Value.ref rw, Value.int xasked])), (ri, Sum.inr (0, [Value.int (nI is.length), Value.ref ria])), (ria, Sum.inl (cI, rik, Sum.inl rif))] ++ mbsC cI ms9) → va_S A s.heap H locs → lv_has ls 5 [(3, Value.int i9), (2, Value.int (nI 8)), (1, Value.ref ma), (0, Value.ref rc)] → W p l e R s m args below meth c H locs 0 0 Q (F0 m 10 ls []) := by
    intro n9_10
    induction n9_10 using Nat.strongRecOn with
    | ind n9_10 ih9_10 =>
      intro i9 ii ms9 hn9_10 hi9 hii hma hmo hbg hlm H locs ls hP hD hS hl
      refine lv_iload_n hx hb d_RC_read_10 rfl (lv_at hl 0 rfl) ?_
      refine lv_iload_n hx hb d_RC_read_11 rfl (lv_at hl 1 rfl) ?_
      refine lv_icmp_ge (tgt := 48) hx hb d_RC_read_12 (by decide) (fun c_1 => ?_) (fun c_1 => ?_)
      · refine lv_aload_n hx hb d_RC_read_48 rfl (lv_at hl 3 rfl) ?_
        refine lv_iconst (v := 1) hx hb d_RC_read_49 (by decide) ?_
        refine va_put (D := (dC, dI)) (ci := 6) (v := .int 1) (ty := .boolean) (C := "RangeCoders") (T := T_RC) (N := 8) hx hb hg in_RC t_RC o_RC n_RC hown hK hP hD hS 0 rfl rfl 5 (by decide) (hg _ k263) (fun _ h9 => h9) rfl (o_RC 5 (by decide)) rfl rfl (Nat.le_of_ble_eq_true rfl) d_RC_read_50 (fun H locs hP hD hS => ?_)
        have hPD : my_PD (dC, dI) vwCl A ([(rc, Sum.inr (6, [Value.ref co, Value.ref ma, Value.int (nI ms.length), Value.int fit, Value.int fen, Value.int 1, Value.int fbd, Value.int fir])), (ma, Sum.inl (cM, 8, Sum.inr (Sum.inr (Sum.inr (Sum.inr mf))))), (co, Sum.inr (5, [Value.long xx, Value.long xreadX, Value.ref soa, Value.ref sna, Value.ref swa, Value.int xkept, Value.ref ri, Value.ref ro, Value.ref rw, Value.int xasked])), (ri, Sum.inr (0, [Value.int (nI is.length), Value.ref ria])), (ria, Sum.inl (cI, rik, Sum.inl rif))] ++ mbsC cI ms9) H := ⟨hP, hD⟩
        have hP := hPD.1
        have hD := hPD.2
        refine lv_aload_n hx hb d_RC_read_53 rfl (lv_at hl 3 rfl) ?_
        refine lv_iconst (v := 0) hx hb d_RC_read_54 (by decide) ?_
        refine va_put (D := (dC, dI)) (ci := 6) (v := .int 0) (ty := .int) (C := "RangeCoders") (T := T_RC) (N := 8) hx hb hg in_RC t_RC o_RC n_RC hown hK hP hD hS 0 rfl rfl 7 (by decide) (hg _ k265) (fun _ h9 => h9) rfl (o_RC 7 (by decide)) rfl rfl (Nat.le_of_ble_eq_true rfl) d_RC_read_55 (fun H locs hP hD hS => ?_)
        have hPD : my_PD (dC, dI) vwCl A ([(rc, Sum.inr (6, [Value.ref co, Value.ref ma, Value.int (nI ms.length), Value.int fit, Value.int fen, Value.int 1, Value.int fbd, Value.int 0])), (ma, Sum.inl (cM, 8, Sum.inr (Sum.inr (Sum.inr (Sum.inr mf))))), (co, Sum.inr (5, [Value.long xx, Value.long xreadX, Value.ref soa, Value.ref sna, Value.ref swa, Value.int xkept, Value.ref ri, Value.ref ro, Value.ref rw, Value.int xasked])), (ri, Sum.inr (0, [Value.int (nI is.length), Value.ref ria])), (ria, Sum.inl (cI, rik, Sum.inl rif))] ++ mbsC cI ms9) H := ⟨hP, hD⟩
        have hP := hPD.1
        have hD := hPD.2
        refine lv_aload_n hx hb d_RC_read_58 rfl (lv_at hl 3 rfl) ?_
        refine lv_aload_n hx hb d_RC_read_59 rfl (lv_at hl 3 rfl) ?_
        refine va_get (D := (dC, dI)) (ci := 6) (v := .ref co) (C := "RangeCoders") (T := T_RC) (N := 8) hx hb hg in_RC hown hK hP 0 rfl rfl 0 (by decide) (hg _ k258) (fun _ h9 => h9) rfl d_RC_read_60 ?_
        refine my_cit (wr := [(rc, Sum.inr (6, [Value.ref co, Value.ref ma, Value.int (nI ms.length), Value.int fit, Value.int fen, Value.int 1, Value.int fbd, Value.int 0])), (ma, Sum.inl (cM, 8, Sum.inr (Sum.inr (Sum.inr (Sum.inr mf)))))]) (va_runU (As := []) (rest := [Value.ref rc]) ⟨hx, hb, hml, hown, hts⟩ (f_Table_openReading l dC dI cI cM cO H.size co xx xreadX soa sna swa xkept ri ro rw xasked ria rik rif is (hri) (hGri) (hLri) (hoct)) (va_cwA 0 hts (my_gU k727 k729 k760 k761 k11 k762) rfl rfl rfl (hN.1 _ j728 rfl) (by decide +kernel) ⟨by rw [hR]; exact Nat.le_of_ble_eq_true rfl, by rw [hR]; exact Nat.le_of_ble_eq_true rfl⟩) (my_preV hK hN (my_subU hP [2, 3, 4] rfl) (my_dubT hD [2, 3, 4] (by decide +kernel) rfl) 0 rfl rfl) rfl rfl hl.1 rfl (lv_room (Nat.le_of_ble_eq_true rfl)) d_RC_read_63 ⟨by rw [hR]; exact Nat.le_of_ble_eq_true rfl, by rw [hR]; exact Nat.le_of_ble_eq_true rfl⟩) hP hD hS hA [2, 3, 4] [0, 1] rfl rfl (by decide +kernel) (by decide +kernel) (fun r_63 u9 H locs hw_63 hP hD hS => ?_)
        have hr_63 : r_63 = 1 := hw_63
        have hPD : my_PD (dC, dI) vwCl A ([(rc, Sum.inr (6, [Value.ref co, Value.ref ma, Value.int (nI ms.length), Value.int fit, Value.int fen, Value.int 1, Value.int fbd, Value.int 0])), (ma, Sum.inl (cM, 8, Sum.inr (Sum.inr (Sum.inr (Sum.inr mf))))), (co, Sum.inr (5, [Value.long xx, Value.long (lN (512 + bbN is 0 9)), Value.ref soa, Value.ref sna, Value.ref swa, Value.int xkept, Value.ref ri, Value.ref ro, Value.ref rw, Value.int (nI 9)])), (ri, Sum.inr (0, [Value.int (nI is.length), Value.ref ria])), (ria, Sum.inl (cI, rik, Sum.inl rif))] ++ mbsC cI ms9) H := ⟨hP, hD⟩
        have hP := hPD.1
        have hD := hPD.2
        refine lv_if_ne (tgt := 73) hx hb d_RC_read_66 (by decide) (fun c_2 => ?_) (fun c_2 => ?_)
        · refine lv_iconst (v := 0) hx hb d_RC_read_73 (by decide) ?_
          refine va_put (D := (dC, dI)) (ci := 6) (v := .int 0) (ty := .boolean) (C := "RangeCoders") (T := T_RC) (N := 8) hx hb hg in_RC t_RC o_RC n_RC hown hK hP hD hS 0 rfl rfl 6 (by decide) (hg _ k264) (fun _ h9 => h9) rfl (o_RC 6 (by decide)) rfl rfl (Nat.le_of_ble_eq_true rfl) d_RC_read_74 (fun H locs hP hD hS => ?_)
          have hPD : my_PD (dC, dI) vwCl A ([(rc, Sum.inr (6, [Value.ref co, Value.ref ma, Value.int (nI ms.length), Value.int fit, Value.int fen, Value.int 1, Value.int 0, Value.int 0])), (ma, Sum.inl (cM, 8, Sum.inr (Sum.inr (Sum.inr (Sum.inr mf))))), (co, Sum.inr (5, [Value.long xx, Value.long (lN (512 + bbN is 0 9)), Value.ref soa, Value.ref sna, Value.ref swa, Value.int xkept, Value.ref ri, Value.ref ro, Value.ref rw, Value.int (nI 9)])), (ri, Sum.inr (0, [Value.int (nI is.length), Value.ref ria])), (ria, Sum.inl (cI, rik, Sum.inl rif))] ++ mbsC cI ms9) H := ⟨hP, hD⟩
          have hP := hPD.1
          have hD := hPD.2
          refine lv_aload_n hx hb d_RC_read_77 rfl (lv_at hl 3 rfl) ?_
          refine va_get (D := (dC, dI)) (ci := 6) (v := .ref co) (C := "RangeCoders") (T := T_RC) (N := 8) hx hb hg in_RC hown hK hP 0 rfl rfl 0 (by decide) (hg _ k258) (fun _ h9 => h9) rfl d_RC_read_78 ?_
          refine va_get (D := (dC, dI)) (ci := 5) (v := .ref ri) (C := "RangeCoders$Table") (T := T_Table) (N := 10) hx hb hg in_Table hown hK hP 2 rfl rfl 6 (by decide) (hg _ k102) (fun _ h9 => h9) rfl d_RC_read_81 ?_
          refine va_get (D := (dC, dI)) (ci := 0) (v := .int (nI is.length)) (C := "RangeCoders$Row") (T := T_Row) (N := 2) hx hb hg in_Row hown hK hP 3 rfl rfl 0 (by decide) (hg _ k58) (fun _ h9 => h9) rfl d_RC_read_84 ?_
          exact my_iret (v := nI is.length) hx hb hr (rfl) hlocks hQ hK hS (Nat.le_refl _) (Nat.le_refl _) (ms9) (⟨hma, hmo, bg_e (by rw [show (8 : Nat) = ii by have := nI_ge' (n := 8) (j := ii) (by omega) (by decide) (by rw [← hi9]; assumption); omega]; exact hbg) hk8, hlm, rfl⟩) (hP.part [0, 1, 2, 3, 4] rfl) (hD.part [0, 1, 2, 3, 4] (by decide +kernel) rfl) d_RC_read_87
        · exact absurd (hr_63.symm.trans c_2) (by decide)
      · refine lv_aload_n hx hb d_RC_read_15 rfl (lv_at hl 2 rfl) ?_
        refine lv_iload_n hx hb d_RC_read_16 rfl (lv_at hl 0 rfl) ?_
        have hi8 : ii < 8 := by
          rcases Nat.lt_or_ge ii 8 with z | z
          · exact z
          · exact absurd (by rw [hi9]; exact nI_le (a := 8) z (by omega)) c_1
        refine va_aldq hx hb hK hP 1 1 rfl rfl (by rw [hi9]; exact vp_in_nI hi8 (by decide)) d_RC_read_17 ?_
        rcases hq_a_3 : mf i9.toNatClampNeg with _ | a_3
        · refine W.eq (g2 := F0 m 18 ls [Value.null]) rfl ?_
          have hmf9 := mf_keep hmf hma
          have hnil : ms.length ≤ ii := by
            rcases Nat.lt_or_ge ii ms9.length with z | z
            · obtain ⟨a9, x9, b9, e9, hla⟩ := mb_at z
              subst e9
              rw [hi9, nI_clamp (by omega), ← hla, mf_some hmf9 (by omega)] at hq_a_3; cases hq_a_3
            · rw [hlm]; exact z
          refine lv_astoreN (lv' := [(4, Value.null), (3, Value.int i9), (2, Value.int (nI 8)), (1, Value.ref ma), (0, Value.ref rc)]) hx hb d_RC_read_18 hl (by decide) rfl (fun ls hl => ?_)
          refine lv_aloadN hx hb d_RC_read_20 (lv_at hl 0 rfl) ?_
          refine lv_ifnullN (tgt := 42) hx hb d_RC_read_22 (by decide) ?_
          obtain ⟨v_4, ev_4⟩ : ∃ y : Int32, y = i9 + (1) := ⟨_, rfl⟩
          refine lv_iinc (v := v_4) (lv' := [(3, Value.int v_4), (4, Value.null), (2, Value.int (nI 8)), (1, Value.ref ma), (0, Value.ref rc)]) hx hb d_RC_read_42 hl (k := 1) rfl (by rw [ev_4]; rfl) (by decide) rfl (fun ls hl => ?_)
          refine lv_goto (tgt := 10) hx hb d_RC_read_45 (by decide) ?_
          exact ih9_10 _ (by first | omega | (omega)) v_4 (ii + 1) ms9 rfl (by rw [ev_4, hi9]; exact nI_1 _) (by omega) (by assumption) (by assumption) (bg_no hbg (by rw [← hlm]; exact hnil)) (hlm) H locs ls (hP.part [0, 1, 2, 3, 4] rfl) (hD.part [0, 1, 2, 3, 4] (by decide +kernel) rfl) hS (lv_sub hl [0, 2, 3, 4] rfl)
        · refine W.eq (g2 := F0 m 18 ls [Value.ref a_3]) rfl ?_
          have hmf9 := mf_keep hmf hma
          have hil : ii < ms9.length := by
            rcases Nat.lt_or_ge ii ms9.length with z | z
            · exact z
            · rw [hi9, nI_clamp (by omega), mf_none hmf9 hi8 z] at hq_a_3; cases hq_a_3
          obtain ⟨a9, x9, b9, e9, hla⟩ := mb_at hil
          subst e9
          obtain ⟨mo9, ka9, kl9, kf9, ⟨oo9, osg9, osm9, ofc9, oca9, opa9, ol9, ocf9, opl9, opf9⟩, ⟨pp9, psg9, psm9, pfc9, pca9, ppa9, pl9, pcf9, ppl9, ppf9⟩⟩ := x9
          have hax : a_3 = mo9 := by
            rw [hi9, nI_clamp (by omega), ← hla, mf_some hmf9 (by omega)] at hq_a_3
            exact (Option.some.inj hq_a_3).symm
          subst hax
          obtain ⟨hk64, ⟨ho1, ho2, ho3⟩, ⟨hp1, hp2, hp3⟩⟩ := ok_mid hmo
          have hP := pm_P hP (mb_out cI [(rc, Sum.inr (6, [Value.ref co, Value.ref ma, Value.int (nI ms.length), Value.int fit, Value.int fen, Value.int frd, Value.int fbd, Value.int fir])), (ma, Sum.inl (cM, 8, Sum.inr (Sum.inr (Sum.inr (Sum.inr mf))))), (co, Sum.inr (5, [Value.long xx, Value.long xreadX, Value.ref soa, Value.ref sna, Value.ref swa, Value.int xkept, Value.ref ri, Value.ref ro, Value.ref rw, Value.int xasked])), (ri, Sum.inr (0, [Value.int (nI is.length), Value.ref ria])), (ria, Sum.inl (cI, rik, Sum.inl rif))] a9 b9 (a_3, ka9, kl9, kf9, (oo9, osg9, osm9, ofc9, oca9, opa9, ol9, ocf9, opl9, opf9), (pp9, psg9, psm9, pfc9, pca9, ppa9, pl9, pcf9, ppl9, ppf9)))
          have hD := pm_D hD (mb_out cI [(rc, Sum.inr (6, [Value.ref co, Value.ref ma, Value.int (nI ms.length), Value.int fit, Value.int fen, Value.int frd, Value.int fbd, Value.int fir])), (ma, Sum.inl (cM, 8, Sum.inr (Sum.inr (Sum.inr (Sum.inr mf))))), (co, Sum.inr (5, [Value.long xx, Value.long xreadX, Value.ref soa, Value.ref sna, Value.ref swa, Value.int xkept, Value.ref ri, Value.ref ro, Value.ref rw, Value.int xasked])), (ri, Sum.inr (0, [Value.int (nI is.length), Value.ref ria])), (ria, Sum.inl (cI, rik, Sum.inl rif))] a9 b9 (a_3, ka9, kl9, kf9, (oo9, osg9, osm9, ofc9, oca9, opa9, ol9, ocf9, opl9, opf9), (pp9, psg9, psm9, pfc9, pca9, ppa9, pl9, pcf9, ppl9, ppf9)))
          have hPD : my_PD (dC, dI) vwCl A ([(rc, Sum.inr (6, [Value.ref co, Value.ref ma, Value.int (nI ms.length), Value.int fit, Value.int fen, Value.int frd, Value.int fbd, Value.int fir])), (ma, Sum.inl (cM, 8, Sum.inr (Sum.inr (Sum.inr (Sum.inr mf))))), (co, Sum.inr (5, [Value.long xx, Value.long xreadX, Value.ref soa, Value.ref sna, Value.ref swa, Value.int xkept, Value.ref ri, Value.ref ro, Value.ref rw, Value.int xasked])), (ri, Sum.inr (0, [Value.int (nI is.length), Value.ref ria])), (ria, Sum.inl (cI, rik, Sum.inl rif)), (a_3, Sum.inr (8, [Value.ref ka9, Value.ref oo9, Value.ref pp9])), (ka9, Sum.inl (cI, kl9, Sum.inl kf9)), (oo9, Sum.inr (7, [Value.int osg9, Value.int osm9, Value.int ofc9, Value.ref oca9, Value.ref opa9])), (oca9, Sum.inl (cI, ol9, Sum.inl ocf9)), (opa9, Sum.inl (cI, opl9, Sum.inl opf9)), (pp9, Sum.inr (7, [Value.int psg9, Value.int psm9, Value.int pfc9, Value.ref pca9, Value.ref ppa9])), (pca9, Sum.inl (cI, pl9, Sum.inl pcf9)), (ppa9, Sum.inl (cI, ppl9, Sum.inl ppf9))] ++ (mbsC cI a9 ++ mbsC cI b9)) H := ⟨hP, hD⟩
          have hP := hPD.1
          have hD := hPD.2
          rw [← hla] at hbg
          obtain ⟨hx1, hx2, ⟨hx3, hx4, hx5, hx6⟩, hx7, hx8⟩ := hms ((a_3, ka9, kl9, kf9, (oo9, osg9, osm9, ofc9, oca9, opa9, ol9, ocf9, opl9, opf9), (pp9, psg9, psm9, pfc9, pca9, ppa9, pl9, pcf9, ppl9, ppf9)) : MB) (List.mem_of_getElem? (bg_x hbg hlm))
          have hx3 : psg9 = nI kl9 := hx3
          skip
          subst hx3
          have hx4 : pfc9 = 0 := hx4
          skip
          subst hx4
          have hx5 : pl9 = kl9 := hx5
          have hx5 := hx5.symm
          subst hx5
          have hx6 : ppl9 = 512 := hx6
          skip
          subst hx6
          have hPD : my_PD (dC, dI) vwCl A ([(rc, Sum.inr (6, [Value.ref co, Value.ref ma, Value.int (nI ms.length), Value.int fit, Value.int fen, Value.int frd, Value.int fbd, Value.int fir])), (ma, Sum.inl (cM, 8, Sum.inr (Sum.inr (Sum.inr (Sum.inr mf))))), (co, Sum.inr (5, [Value.long xx, Value.long xreadX, Value.ref soa, Value.ref sna, Value.ref swa, Value.int xkept, Value.ref ri, Value.ref ro, Value.ref rw, Value.int xasked])), (ri, Sum.inr (0, [Value.int (nI is.length), Value.ref ria])), (ria, Sum.inl (cI, rik, Sum.inl rif)), (a_3, Sum.inr (8, [Value.ref ka9, Value.ref oo9, Value.ref pp9])), (ka9, Sum.inl (cI, kl9, Sum.inl kf9)), (oo9, Sum.inr (7, [Value.int osg9, Value.int osm9, Value.int ofc9, Value.ref oca9, Value.ref opa9])), (oca9, Sum.inl (cI, ol9, Sum.inl ocf9)), (opa9, Sum.inl (cI, opl9, Sum.inl opf9)), (pp9, Sum.inr (7, [Value.int (nI kl9), Value.int psm9, Value.int 0, Value.ref pca9, Value.ref ppa9])), (pca9, Sum.inl (cI, kl9, Sum.inl pcf9)), (ppa9, Sum.inl (cI, 512, Sum.inl ppf9))] ++ (mbsC cI a9 ++ mbsC cI b9)) H := ⟨hP, hD⟩
          have hP := hPD.1
          have hD := hPD.2
          refine lv_astore (lv' := [(4, Value.ref a_3), (3, Value.int i9), (2, Value.int (nI 8)), (1, Value.ref ma), (0, Value.ref rc)]) hx hb d_RC_read_18 hl (by decide) rfl (fun ls hl => ?_)
          refine lv_aload hx hb d_RC_read_20 (lv_at hl 0 rfl) ?_
          refine lv_ifnull hx hb d_RC_read_22 ?_
          refine lv_aload_n hx hb d_RC_read_25 rfl (lv_at hl 4 rfl) ?_
          refine va_get (D := (dC, dI)) (ci := 6) (v := .ref co) (C := "RangeCoders") (T := T_RC) (N := 8) hx hb hg in_RC hown hK hP 0 rfl rfl 0 (by decide) (hg _ k258) (fun _ h9 => h9) rfl d_RC_read_26 ?_
          refine lv_aload hx hb d_RC_read_29 (lv_at hl 0 rfl) ?_
          refine va_get (D := (dC, dI)) (ci := 8) (v := .ref pp9) (C := "RangeCoders$Model") (T := T_Model) (N := 3) hx hb hg in_Model hown hK hP 5 rfl rfl 2 (by decide) (hg _ k345) (fun _ h9 => h9) rfl d_RC_read_31 ?_
          refine lv_aload hx hb d_RC_read_34 (lv_at hl 0 rfl) ?_
          refine va_get (D := (dC, dI)) (ci := 8) (v := .ref ka9) (C := "RangeCoders$Model") (T := T_Model) (N := 3) hx hb hg in_Model hown hK hP 5 rfl rfl 0 (by decide) (hg _ k341) (fun _ h9 => h9) rfl d_RC_read_36 ?_
          refine my_cvt (wr := [(rc, Sum.inr (6, [Value.ref co, Value.ref ma, Value.int (nI ms.length), Value.int fit, Value.int fen, Value.int frd, Value.int fbd, Value.int fir])), (ma, Sum.inl (cM, 8, Sum.inr (Sum.inr (Sum.inr (Sum.inr mf))))), (ri, Sum.inr (0, [Value.int (nI is.length), Value.ref ria])), (ria, Sum.inl (cI, rik, Sum.inl rif)), (a_3, Sum.inr (8, [Value.ref ka9, Value.ref oo9, Value.ref pp9])), (oo9, Sum.inr (7, [Value.int osg9, Value.int osm9, Value.int ofc9, Value.ref oca9, Value.ref opa9])), (oca9, Sum.inl (cI, ol9, Sum.inl ocf9)), (opa9, Sum.inl (cI, opl9, Sum.inl opf9))]) (va_runU (As := [Value.ref pp9, Value.ref ka9]) (rest := []) ⟨hx, hb, hml, hown, hts⟩ (f_Table_prepare l dC dI cI cM cO H.size co xx xreadX soa sna swa xkept ri ro rw xasked pp9 (nI kl9) 0 pca9 ppa9 kl9 pcf9 ppf9 psm9 ka9 kf9 (Cx ((a_3, ka9, kl9, kf9, (oo9, osg9, osm9, ofc9, oca9, opa9, ol9, ocf9, opl9, opf9), (pp9, nI kl9, psm9, 0, pca9, ppa9, kl9, pcf9, 512, ppf9)) : MB)) (hx2) (hx7) (hx8) (Nat.le_of_succ_le hx1) (rfl)) (va_cwA 2 hts (my_gU k353 k355 k400 k401 k11 k402) rfl rfl rfl (hN.1 _ j354 rfl) (by decide +kernel) ⟨by rw [hR]; exact Nat.le_of_ble_eq_true rfl, by rw [hR]; exact Nat.le_of_ble_eq_true rfl⟩) (my_preV hK hN (my_subU hP [2, 10, 11, 12, 6] rfl) (my_dubT hD [2, 10, 11, 12, 6] (by decide +kernel) rfl) 0 rfl rfl) rfl rfl hl.1 rfl (lv_room (Nat.le_of_ble_eq_true rfl)) d_RC_read_39 ⟨by rw [hR]; exact Nat.le_of_ble_eq_true rfl, by rw [hR]; exact Nat.le_of_ble_eq_true rfl⟩) hP hD hS hA [2, 10, 11, 12, 6] [0, 1, 3, 4, 5, 7, 8, 9] rfl rfl (by decide +kernel) (by decide +kernel) (fun u9 H locs hw_39 hP hD hS => ?_)
          obtain ⟨ocfq_39, opfq_39⟩ := u9
          obtain ⟨hf_39, hl_39⟩ : tbI ocfq_39 kl9 (sc kl9 512 (Cx ((a_3, ka9, kl9, kf9, (oo9, osg9, osm9, ofc9, oca9, opa9, ol9, ocf9, opl9, opf9), (pp9, nI kl9, psm9, 0, pca9, ppa9, kl9, pcf9, 512, ppf9)) : MB))) ∧ layt opfq_39 (sc kl9 512 (Cx ((a_3, ka9, kl9, kf9, (oo9, osg9, osm9, ofc9, oca9, opa9, ol9, ocf9, opl9, opf9), (pp9, nI kl9, psm9, 0, pca9, ppa9, kl9, pcf9, 512, ppf9)) : MB))) kl9 (ns (sc kl9 512 (Cx ((a_3, ka9, kl9, kf9, (oo9, osg9, osm9, ofc9, oca9, opa9, ol9, ocf9, opl9, opf9), (pp9, nI kl9, psm9, 0, pca9, ppa9, kl9, pcf9, 512, ppf9)) : MB))) kl9) := hw_39
          have hPD : my_PD (dC, dI) vwCl A ([(rc, Sum.inr (6, [Value.ref co, Value.ref ma, Value.int (nI ms.length), Value.int fit, Value.int fen, Value.int frd, Value.int fbd, Value.int fir])), (ma, Sum.inl (cM, 8, Sum.inr (Sum.inr (Sum.inr (Sum.inr mf))))), (ri, Sum.inr (0, [Value.int (nI is.length), Value.ref ria])), (ria, Sum.inl (cI, rik, Sum.inl rif)), (a_3, Sum.inr (8, [Value.ref ka9, Value.ref oo9, Value.ref pp9])), (oo9, Sum.inr (7, [Value.int osg9, Value.int osm9, Value.int ofc9, Value.ref oca9, Value.ref opa9])), (oca9, Sum.inl (cI, ol9, Sum.inl ocf9)), (opa9, Sum.inl (cI, opl9, Sum.inl opf9)), (co, Sum.inr (5, [Value.long xx, Value.long xreadX, Value.ref soa, Value.ref sna, Value.ref swa, Value.int xkept, Value.ref ri, Value.ref ro, Value.ref rw, Value.int xasked])), (pp9, Sum.inr (7, [Value.int (nI kl9), Value.int (nI (ns (sc kl9 512 (Cx ((a_3, ka9, kl9, kf9, (oo9, osg9, osm9, ofc9, oca9, opa9, ol9, ocf9, opl9, opf9), (pp9, nI kl9, psm9, 0, pca9, ppa9, kl9, pcf9, 512, ppf9)) : MB))) kl9)), Value.int 0, Value.ref pca9, Value.ref ppa9])), (pca9, Sum.inl (cI, kl9, Sum.inl ocfq_39)), (ppa9, Sum.inl (cI, 512, Sum.inl opfq_39)), (ka9, Sum.inl (cI, kl9, Sum.inl kf9))] ++ (mbsC cI a9 ++ mbsC cI b9)) H := ⟨hP, hD⟩
          have hP := hPD.1
          have hD := hPD.2
          have hP := pm_P (hP.part [0, 1, 8, 2, 3, 4, 12, 5, 6, 7, 9, 10, 11] rfl : va_P (dC, dI) vwCl ([(rc, Sum.inr (6, [Value.ref co, Value.ref ma, Value.int (nI ms.length), Value.int fit, Value.int fen, Value.int frd, Value.int fbd, Value.int fir])), (ma, Sum.inl (cM, 8, Sum.inr (Sum.inr (Sum.inr (Sum.inr mf))))), (co, Sum.inr (5, [Value.long xx, Value.long xreadX, Value.ref soa, Value.ref sna, Value.ref swa, Value.int xkept, Value.ref ri, Value.ref ro, Value.ref rw, Value.int xasked])), (ri, Sum.inr (0, [Value.int (nI is.length), Value.ref ria])), (ria, Sum.inl (cI, rik, Sum.inl rif)), (a_3, Sum.inr (8, [Value.ref ka9, Value.ref oo9, Value.ref pp9])), (ka9, Sum.inl (cI, kl9, Sum.inl kf9)), (oo9, Sum.inr (7, [Value.int osg9, Value.int osm9, Value.int ofc9, Value.ref oca9, Value.ref opa9])), (oca9, Sum.inl (cI, ol9, Sum.inl ocf9)), (opa9, Sum.inl (cI, opl9, Sum.inl opf9)), (pp9, Sum.inr (7, [Value.int (nI kl9), Value.int (nI (ns (sc kl9 512 (Cx ((a_3, ka9, kl9, kf9, (oo9, osg9, osm9, ofc9, oca9, opa9, ol9, ocf9, opl9, opf9), (pp9, nI kl9, psm9, 0, pca9, ppa9, kl9, pcf9, 512, ppf9)) : MB))) kl9)), Value.int 0, Value.ref pca9, Value.ref ppa9])), (pca9, Sum.inl (cI, kl9, Sum.inl ocfq_39)), (ppa9, Sum.inl (cI, 512, Sum.inl opfq_39))] ++ (mbsC cI a9 ++ mbsC cI b9)) H) (mb_out cI [(rc, Sum.inr (6, [Value.ref co, Value.ref ma, Value.int (nI ms.length), Value.int fit, Value.int fen, Value.int frd, Value.int fbd, Value.int fir])), (ma, Sum.inl (cM, 8, Sum.inr (Sum.inr (Sum.inr (Sum.inr mf))))), (co, Sum.inr (5, [Value.long xx, Value.long xreadX, Value.ref soa, Value.ref sna, Value.ref swa, Value.int xkept, Value.ref ri, Value.ref ro, Value.ref rw, Value.int xasked])), (ri, Sum.inr (0, [Value.int (nI is.length), Value.ref ria])), (ria, Sum.inl (cI, rik, Sum.inl rif))] a9 b9 ((a_3, ka9, kl9, kf9, (oo9, osg9, osm9, ofc9, oca9, opa9, ol9, ocf9, opl9, opf9), (pp9, (nI kl9), (nI (ns (sc kl9 512 (Cx ((a_3, ka9, kl9, kf9, (oo9, osg9, osm9, ofc9, oca9, opa9, ol9, ocf9, opl9, opf9), (pp9, nI kl9, psm9, 0, pca9, ppa9, kl9, pcf9, 512, ppf9)) : MB))) kl9)), 0, pca9, ppa9, kl9, ocfq_39, 512, opfq_39)) : MB)).symm
          have hD := pm_D (hD.part [0, 1, 8, 2, 3, 4, 12, 5, 6, 7, 9, 10, 11] (by decide +kernel) rfl : va_D A ([(rc, Sum.inr (6, [Value.ref co, Value.ref ma, Value.int (nI ms.length), Value.int fit, Value.int fen, Value.int frd, Value.int fbd, Value.int fir])), (ma, Sum.inl (cM, 8, Sum.inr (Sum.inr (Sum.inr (Sum.inr mf))))), (co, Sum.inr (5, [Value.long xx, Value.long xreadX, Value.ref soa, Value.ref sna, Value.ref swa, Value.int xkept, Value.ref ri, Value.ref ro, Value.ref rw, Value.int xasked])), (ri, Sum.inr (0, [Value.int (nI is.length), Value.ref ria])), (ria, Sum.inl (cI, rik, Sum.inl rif)), (a_3, Sum.inr (8, [Value.ref ka9, Value.ref oo9, Value.ref pp9])), (ka9, Sum.inl (cI, kl9, Sum.inl kf9)), (oo9, Sum.inr (7, [Value.int osg9, Value.int osm9, Value.int ofc9, Value.ref oca9, Value.ref opa9])), (oca9, Sum.inl (cI, ol9, Sum.inl ocf9)), (opa9, Sum.inl (cI, opl9, Sum.inl opf9)), (pp9, Sum.inr (7, [Value.int (nI kl9), Value.int (nI (ns (sc kl9 512 (Cx ((a_3, ka9, kl9, kf9, (oo9, osg9, osm9, ofc9, oca9, opa9, ol9, ocf9, opl9, opf9), (pp9, nI kl9, psm9, 0, pca9, ppa9, kl9, pcf9, 512, ppf9)) : MB))) kl9)), Value.int 0, Value.ref pca9, Value.ref ppa9])), (pca9, Sum.inl (cI, kl9, Sum.inl ocfq_39)), (ppa9, Sum.inl (cI, 512, Sum.inl opfq_39))] ++ (mbsC cI a9 ++ mbsC cI b9))) (mb_out cI [(rc, Sum.inr (6, [Value.ref co, Value.ref ma, Value.int (nI ms.length), Value.int fit, Value.int fen, Value.int frd, Value.int fbd, Value.int fir])), (ma, Sum.inl (cM, 8, Sum.inr (Sum.inr (Sum.inr (Sum.inr mf))))), (co, Sum.inr (5, [Value.long xx, Value.long xreadX, Value.ref soa, Value.ref sna, Value.ref swa, Value.int xkept, Value.ref ri, Value.ref ro, Value.ref rw, Value.int xasked])), (ri, Sum.inr (0, [Value.int (nI is.length), Value.ref ria])), (ria, Sum.inl (cI, rik, Sum.inl rif))] a9 b9 ((a_3, ka9, kl9, kf9, (oo9, osg9, osm9, ofc9, oca9, opa9, ol9, ocf9, opl9, opf9), (pp9, (nI kl9), (nI (ns (sc kl9 512 (Cx ((a_3, ka9, kl9, kf9, (oo9, osg9, osm9, ofc9, oca9, opa9, ol9, ocf9, opl9, opf9), (pp9, nI kl9, psm9, 0, pca9, ppa9, kl9, pcf9, 512, ppf9)) : MB))) kl9)), 0, pca9, ppa9, kl9, ocfq_39, 512, opfq_39)) : MB)).symm
          have hma2 : (a9 ++ ((a_3, ka9, kl9, kf9, (oo9, osg9, osm9, ofc9, oca9, opa9, ol9, ocf9, opl9, opf9), (pp9, (nI kl9), (nI (ns (sc kl9 512 (Cx ((a_3, ka9, kl9, kf9, (oo9, osg9, osm9, ofc9, oca9, opa9, ol9, ocf9, opl9, opf9), (pp9, nI kl9, psm9, 0, pca9, ppa9, kl9, pcf9, 512, ppf9)) : MB))) kl9)), 0, pca9, ppa9, kl9, ocfq_39, 512, opfq_39)) : MB) :: b9).map mbA = ms.map mbA := by refine (mb_set (f := mbA) ?_).trans hma; rfl
          have hmo2 : ∀ x ∈ a9 ++ ((a_3, ka9, kl9, kf9, (oo9, osg9, osm9, ofc9, oca9, opa9, ol9, ocf9, opl9, opf9), (pp9, (nI kl9), (nI (ns (sc kl9 512 (Cx ((a_3, ka9, kl9, kf9, (oo9, osg9, osm9, ofc9, oca9, opa9, ol9, ocf9, opl9, opf9), (pp9, nI kl9, psm9, 0, pca9, ppa9, kl9, pcf9, 512, ppf9)) : MB))) kl9)), 0, pca9, ppa9, kl9, ocfq_39, 512, opfq_39)) : MB) :: b9, mbOk x := ok_set hmo ⟨hk64, ⟨ho1, ho2, ho3⟩, ⟨hp1, hp2, hp3⟩⟩
          have hPD : my_PD (dC, dI) vwCl A ([(rc, Sum.inr (6, [Value.ref co, Value.ref ma, Value.int (nI ms.length), Value.int fit, Value.int fen, Value.int frd, Value.int fbd, Value.int fir])), (ma, Sum.inl (cM, 8, Sum.inr (Sum.inr (Sum.inr (Sum.inr mf))))), (co, Sum.inr (5, [Value.long xx, Value.long xreadX, Value.ref soa, Value.ref sna, Value.ref swa, Value.int xkept, Value.ref ri, Value.ref ro, Value.ref rw, Value.int xasked])), (ri, Sum.inr (0, [Value.int (nI is.length), Value.ref ria])), (ria, Sum.inl (cI, rik, Sum.inl rif))] ++ mbsC cI (a9 ++ ((a_3, ka9, kl9, kf9, (oo9, osg9, osm9, ofc9, oca9, opa9, ol9, ocf9, opl9, opf9), (pp9, (nI kl9), (nI (ns (sc kl9 512 (Cx ((a_3, ka9, kl9, kf9, (oo9, osg9, osm9, ofc9, oca9, opa9, ol9, ocf9, opl9, opf9), (pp9, nI kl9, psm9, 0, pca9, ppa9, kl9, pcf9, 512, ppf9)) : MB))) kl9)), 0, pca9, ppa9, kl9, ocfq_39, 512, opfq_39)) : MB) :: b9)) H := ⟨hP, hD⟩
          have hP := hPD.1
          have hD := hPD.2
          have hbg2 : bgI nwr_Table ms (a9 ++ ((a_3, ka9, kl9, kf9, (oo9, osg9, osm9, ofc9, oca9, opa9, ol9, ocf9, opl9, opf9), (pp9, (nI kl9), (nI (ns (sc kl9 512 (Cx ((a_3, ka9, kl9, kf9, (oo9, osg9, osm9, ofc9, oca9, opa9, ol9, ocf9, opl9, opf9), (pp9, nI kl9, psm9, 0, pca9, ppa9, kl9, pcf9, 512, ppf9)) : MB))) kl9)), 0, pca9, ppa9, kl9, ocfq_39, 512, opfq_39)) : MB) :: b9) (a9.length + 1) := bg_st hbg hlm ⟨rfl, rfl, rfl, ⟨rfl, rfl, rfl, rfl⟩, ⟨hf_39, rfl, hl_39⟩⟩
          rw [hla] at hbg2
          have hlm2 : ms.length = (a9 ++ ((a_3, ka9, kl9, kf9, (oo9, osg9, osm9, ofc9, oca9, opa9, ol9, ocf9, opl9, opf9), (pp9, (nI kl9), (nI (ns (sc kl9 512 (Cx ((a_3, ka9, kl9, kf9, (oo9, osg9, osm9, ofc9, oca9, opa9, ol9, ocf9, opl9, opf9), (pp9, nI kl9, psm9, 0, pca9, ppa9, kl9, pcf9, 512, ppf9)) : MB))) kl9)), 0, pca9, ppa9, kl9, ocfq_39, 512, opfq_39)) : MB) :: b9).length := by rw [hlm, List.length_append, List.length_append]; rfl
          obtain ⟨v_5, ev_5⟩ : ∃ y : Int32, y = i9 + (1) := ⟨_, rfl⟩
          refine lv_iinc (v := v_5) (lv' := [(3, Value.int v_5), (4, Value.ref a_3), (2, Value.int (nI 8)), (1, Value.ref ma), (0, Value.ref rc)]) hx hb d_RC_read_42 hl (k := 1) rfl (by rw [ev_5]; rfl) (by decide) rfl (fun ls hl => ?_)
          refine lv_goto (tgt := 10) hx hb d_RC_read_45 (by decide) ?_
          exact ih9_10 _ (by first | omega | (omega)) v_5 (ii + 1) (a9 ++ ((a_3, ka9, kl9, kf9, (oo9, osg9, osm9, ofc9, oca9, opa9, ol9, ocf9, opl9, opf9), (pp9, (nI kl9), (nI (ns (sc kl9 512 (Cx ((a_3, ka9, kl9, kf9, (oo9, osg9, osm9, ofc9, oca9, opa9, ol9, ocf9, opl9, opf9), (pp9, nI kl9, psm9, 0, pca9, ppa9, kl9, pcf9, 512, ppf9)) : MB))) kl9)), 0, pca9, ppa9, kl9, ocfq_39, 512, opfq_39)) : MB) :: b9) rfl (by rw [ev_5, hi9]; exact nI_1 _) (by omega) (hma2) (hmo2) (hbg2) (hlm2) H locs ls (hP.part [0, 1, 2, 3, 4] rfl) (hD.part [0, 1, 2, 3, 4] (by decide +kernel) rfl) hS (lv_sub hl [0, 2, 3, 4] rfl)
  exact J_10 _ (0 : Int32) (0 : Nat) ms rfl (rfl) (by omega) (rfl) (hmk) (bg_0 ms) (rfl) H locs ls (hP.part [0, 1, 2, 3, 4] rfl) (hD.part [0, 1, 2, 3, 4] (by decide +kernel) rfl) hS (lv_sub hl [0, 1, 2, 3] rfl)
end
section
theorem d_Law_law_0 : decode code 0 = .ok (.new 7, 3) := by decide +kernel
theorem d_Law_law_3 : decode code 3 = .ok (.dup, 1) := by decide +kernel
theorem d_Law_law_4 : decode code 4 = .ok (.aload_n 0, 1) := by decide +kernel
theorem d_Law_law_5 : decode code 5 = .ok (.iconst 0, 1) := by decide +kernel
theorem d_Law_law_6 : decode code 6 = .ok (.invokestatic 9, 3) := by decide +kernel
theorem d_Law_law_9 : decode code 9 = .ok (.aload_n 0, 1) := by decide +kernel
theorem d_Law_law_10 : decode code 10 = .ok (.iconst 1, 1) := by decide +kernel
theorem d_Law_law_11 : decode code 11 = .ok (.invokestatic 9, 3) := by decide +kernel
theorem d_Law_law_14 : decode code 14 = .ok (.invokespecial 15, 3) := by decide +kernel
theorem d_Law_law_17 : decode code 17 = .ok (.astore_n 1, 1) := by decide +kernel
theorem d_Law_law_18 : decode code 18 = .ok (.new 18, 3) := by decide +kernel
theorem d_Law_law_21 : decode code 21 = .ok (.dup, 1) := by decide +kernel
theorem d_Law_law_22 : decode code 22 = .ok (.aload_n 0, 1) := by decide +kernel
theorem d_Law_law_23 : decode code 23 = .ok (.iconst 0, 1) := by decide +kernel
theorem d_Law_law_24 : decode code 24 = .ok (.invokestatic 9, 3) := by decide +kernel
theorem d_Law_law_27 : decode code 27 = .ok (.aload_n 0, 1) := by decide +kernel
theorem d_Law_law_28 : decode code 28 = .ok (.iconst 1, 1) := by decide +kernel
theorem d_Law_law_29 : decode code 29 = .ok (.invokestatic 9, 3) := by decide +kernel
theorem d_Law_law_32 : decode code 32 = .ok (.invokespecial 20, 3) := by decide +kernel
theorem d_Law_law_35 : decode code 35 = .ok (.astore_n 2, 1) := by decide +kernel
theorem d_Law_law_36 : decode code 36 = .ok (.iconst 2, 1) := by decide +kernel
theorem d_Law_law_37 : decode code 37 = .ok (.istore_n 3, 1) := by decide +kernel
theorem d_Law_law_38 : decode code 38 = .ok (.iload_n 3, 1) := by decide +kernel
theorem d_Law_law_39 : decode code 39 = .ok (.aload_n 0, 1) := by decide +kernel
theorem d_Law_law_40 : decode code 40 = .ok (.arraylength, 1) := by decide +kernel
theorem d_Law_law_41 : decode code 41 = .ok (.iconst 4, 1) := by decide +kernel
theorem d_Law_law_42 : decode code 42 = .ok (.isub, 1) := by decide +kernel
theorem d_Law_law_43 : decode code 43 = .ok (.if_icmp .gt 493, 3) := by decide +kernel
theorem d_Law_law_46 : decode code 46 = .ok (.aload_n 0, 1) := by decide +kernel
theorem d_Law_law_47 : decode code 47 = .ok (.iload_n 3, 1) := by decide +kernel
theorem d_Law_law_48 : decode code 48 = .ok (.iaload, 1) := by decide +kernel
theorem d_Law_law_49 : decode code 49 = .ok (.bipush 15, 2) := by decide +kernel
theorem d_Law_law_51 : decode code 51 = .ok (.iand, 1) := by decide +kernel
theorem d_Law_law_52 : decode code 52 = .ok (.tableswitch 478 0 15 #[80, 103, 146, 179, 212, 225, 238, 261, 284, 307, 340, 353, 376, 399, 422, 445], 80) := by decide +kernel
theorem d_Law_law_132 : decode code 132 = .ok (.aload_n 1, 1) := by decide +kernel
theorem d_Law_law_133 : decode code 133 = .ok (.aload_n 0, 1) := by decide +kernel
theorem d_Law_law_134 : decode code 134 = .ok (.iload_n 3, 1) := by decide +kernel
theorem d_Law_law_135 : decode code 135 = .ok (.iconst 1, 1) := by decide +kernel
theorem d_Law_law_136 : decode code 136 = .ok (.iadd, 1) := by decide +kernel
theorem d_Law_law_137 : decode code 137 = .ok (.iaload, 1) := by decide +kernel
theorem d_Law_law_138 : decode code 138 = .ok (.invokevirtual 21, 3) := by decide +kernel
theorem d_Law_law_141 : decode code 141 = .ok (.pop, 1) := by decide +kernel
theorem d_Law_law_142 : decode code 142 = .ok (.aload_n 2, 1) := by decide +kernel
theorem d_Law_law_143 : decode code 143 = .ok (.aload_n 0, 1) := by decide +kernel
theorem d_Law_law_144 : decode code 144 = .ok (.iload_n 3, 1) := by decide +kernel
theorem d_Law_law_145 : decode code 145 = .ok (.iconst 1, 1) := by decide +kernel
theorem d_Law_law_146 : decode code 146 = .ok (.iadd, 1) := by decide +kernel
theorem d_Law_law_147 : decode code 147 = .ok (.iaload, 1) := by decide +kernel
theorem d_Law_law_148 : decode code 148 = .ok (.invokevirtual 25, 3) := by decide +kernel
theorem d_Law_law_151 : decode code 151 = .ok (.pop, 1) := by decide +kernel
theorem d_Law_law_152 : decode code 152 = .ok (.goto 378, 3) := by decide +kernel
theorem d_Law_law_155 : decode code 155 = .ok (.aload_n 1, 1) := by decide +kernel
theorem d_Law_law_156 : decode code 156 = .ok (.aload_n 0, 1) := by decide +kernel
theorem d_Law_law_157 : decode code 157 = .ok (.iload_n 3, 1) := by decide +kernel
theorem d_Law_law_158 : decode code 158 = .ok (.iconst 1, 1) := by decide +kernel
theorem d_Law_law_159 : decode code 159 = .ok (.iadd, 1) := by decide +kernel
theorem d_Law_law_160 : decode code 160 = .ok (.iaload, 1) := by decide +kernel
theorem d_Law_law_161 : decode code 161 = .ok (.aload_n 0, 1) := by decide +kernel
theorem d_Law_law_162 : decode code 162 = .ok (.iload_n 3, 1) := by decide +kernel
theorem d_Law_law_163 : decode code 163 = .ok (.iconst 2, 1) := by decide +kernel
theorem d_Law_law_164 : decode code 164 = .ok (.iadd, 1) := by decide +kernel
theorem d_Law_law_165 : decode code 165 = .ok (.iaload, 1) := by decide +kernel
theorem d_Law_law_166 : decode code 166 = .ok (.aload_n 0, 1) := by decide +kernel
theorem d_Law_law_167 : decode code 167 = .ok (.iload_n 3, 1) := by decide +kernel
theorem d_Law_law_168 : decode code 168 = .ok (.iconst 3, 1) := by decide +kernel
theorem d_Law_law_169 : decode code 169 = .ok (.iadd, 1) := by decide +kernel
theorem d_Law_law_170 : decode code 170 = .ok (.iaload, 1) := by decide +kernel
theorem d_Law_law_171 : decode code 171 = .ok (.invokevirtual 26, 3) := by decide +kernel
theorem d_Law_law_174 : decode code 174 = .ok (.pop, 1) := by decide +kernel
theorem d_Law_law_175 : decode code 175 = .ok (.aload_n 2, 1) := by decide +kernel
theorem d_Law_law_176 : decode code 176 = .ok (.aload_n 0, 1) := by decide +kernel
theorem d_Law_law_177 : decode code 177 = .ok (.iload_n 3, 1) := by decide +kernel
theorem d_Law_law_178 : decode code 178 = .ok (.iconst 1, 1) := by decide +kernel
theorem d_Law_law_179 : decode code 179 = .ok (.iadd, 1) := by decide +kernel
theorem d_Law_law_180 : decode code 180 = .ok (.iaload, 1) := by decide +kernel
theorem d_Law_law_181 : decode code 181 = .ok (.aload_n 0, 1) := by decide +kernel
theorem d_Law_law_182 : decode code 182 = .ok (.iload_n 3, 1) := by decide +kernel
theorem d_Law_law_183 : decode code 183 = .ok (.iconst 2, 1) := by decide +kernel
theorem d_Law_law_184 : decode code 184 = .ok (.iadd, 1) := by decide +kernel
theorem d_Law_law_185 : decode code 185 = .ok (.iaload, 1) := by decide +kernel
theorem d_Law_law_186 : decode code 186 = .ok (.aload_n 0, 1) := by decide +kernel
theorem d_Law_law_187 : decode code 187 = .ok (.iload_n 3, 1) := by decide +kernel
theorem d_Law_law_188 : decode code 188 = .ok (.iconst 3, 1) := by decide +kernel
theorem d_Law_law_189 : decode code 189 = .ok (.iadd, 1) := by decide +kernel
theorem d_Law_law_190 : decode code 190 = .ok (.iaload, 1) := by decide +kernel
theorem d_Law_law_191 : decode code 191 = .ok (.invokevirtual 30, 3) := by decide +kernel
theorem d_Law_law_194 : decode code 194 = .ok (.pop, 1) := by decide +kernel
theorem d_Law_law_195 : decode code 195 = .ok (.goto 335, 3) := by decide +kernel
theorem d_Law_law_198 : decode code 198 = .ok (.aload_n 1, 1) := by decide +kernel
theorem d_Law_law_199 : decode code 199 = .ok (.aload_n 0, 1) := by decide +kernel
theorem d_Law_law_200 : decode code 200 = .ok (.iload_n 3, 1) := by decide +kernel
theorem d_Law_law_201 : decode code 201 = .ok (.iconst 1, 1) := by decide +kernel
theorem d_Law_law_202 : decode code 202 = .ok (.iadd, 1) := by decide +kernel
theorem d_Law_law_203 : decode code 203 = .ok (.iaload, 1) := by decide +kernel
theorem d_Law_law_204 : decode code 204 = .ok (.aload_n 0, 1) := by decide +kernel
theorem d_Law_law_205 : decode code 205 = .ok (.iload_n 3, 1) := by decide +kernel
theorem d_Law_law_206 : decode code 206 = .ok (.iconst 2, 1) := by decide +kernel
theorem d_Law_law_207 : decode code 207 = .ok (.iadd, 1) := by decide +kernel
theorem d_Law_law_208 : decode code 208 = .ok (.iaload, 1) := by decide +kernel
theorem d_Law_law_209 : decode code 209 = .ok (.invokevirtual 31, 3) := by decide +kernel
theorem d_Law_law_212 : decode code 212 = .ok (.pop, 1) := by decide +kernel
theorem d_Law_law_213 : decode code 213 = .ok (.aload_n 2, 1) := by decide +kernel
theorem d_Law_law_214 : decode code 214 = .ok (.aload_n 0, 1) := by decide +kernel
theorem d_Law_law_215 : decode code 215 = .ok (.iload_n 3, 1) := by decide +kernel
theorem d_Law_law_216 : decode code 216 = .ok (.iconst 1, 1) := by decide +kernel
theorem d_Law_law_217 : decode code 217 = .ok (.iadd, 1) := by decide +kernel
theorem d_Law_law_218 : decode code 218 = .ok (.iaload, 1) := by decide +kernel
theorem d_Law_law_219 : decode code 219 = .ok (.aload_n 0, 1) := by decide +kernel
theorem d_Law_law_220 : decode code 220 = .ok (.iload_n 3, 1) := by decide +kernel
theorem d_Law_law_221 : decode code 221 = .ok (.iconst 2, 1) := by decide +kernel
theorem d_Law_law_222 : decode code 222 = .ok (.iadd, 1) := by decide +kernel
theorem d_Law_law_223 : decode code 223 = .ok (.iaload, 1) := by decide +kernel
theorem d_Law_law_224 : decode code 224 = .ok (.invokevirtual 35, 3) := by decide +kernel
theorem d_Law_law_227 : decode code 227 = .ok (.pop, 1) := by decide +kernel
theorem d_Law_law_228 : decode code 228 = .ok (.goto 302, 3) := by decide +kernel
theorem d_Law_law_231 : decode code 231 = .ok (.aload_n 1, 1) := by decide +kernel
theorem d_Law_law_232 : decode code 232 = .ok (.aload_n 0, 1) := by decide +kernel
theorem d_Law_law_233 : decode code 233 = .ok (.iload_n 3, 1) := by decide +kernel
theorem d_Law_law_234 : decode code 234 = .ok (.iconst 1, 1) := by decide +kernel
theorem d_Law_law_235 : decode code 235 = .ok (.iadd, 1) := by decide +kernel
theorem d_Law_law_236 : decode code 236 = .ok (.iaload, 1) := by decide +kernel
theorem d_Law_law_237 : decode code 237 = .ok (.aload_n 0, 1) := by decide +kernel
theorem d_Law_law_238 : decode code 238 = .ok (.iload_n 3, 1) := by decide +kernel
theorem d_Law_law_239 : decode code 239 = .ok (.iconst 2, 1) := by decide +kernel
theorem d_Law_law_240 : decode code 240 = .ok (.iadd, 1) := by decide +kernel
theorem d_Law_law_241 : decode code 241 = .ok (.iaload, 1) := by decide +kernel
theorem d_Law_law_242 : decode code 242 = .ok (.invokevirtual 36, 3) := by decide +kernel
theorem d_Law_law_245 : decode code 245 = .ok (.pop, 1) := by decide +kernel
theorem d_Law_law_246 : decode code 246 = .ok (.aload_n 2, 1) := by decide +kernel
theorem d_Law_law_247 : decode code 247 = .ok (.aload_n 0, 1) := by decide +kernel
theorem d_Law_law_248 : decode code 248 = .ok (.iload_n 3, 1) := by decide +kernel
theorem d_Law_law_249 : decode code 249 = .ok (.iconst 1, 1) := by decide +kernel
theorem d_Law_law_250 : decode code 250 = .ok (.iadd, 1) := by decide +kernel
theorem d_Law_law_251 : decode code 251 = .ok (.iaload, 1) := by decide +kernel
theorem d_Law_law_252 : decode code 252 = .ok (.aload_n 0, 1) := by decide +kernel
theorem d_Law_law_253 : decode code 253 = .ok (.iload_n 3, 1) := by decide +kernel
theorem d_Law_law_254 : decode code 254 = .ok (.iconst 2, 1) := by decide +kernel
theorem d_Law_law_255 : decode code 255 = .ok (.iadd, 1) := by decide +kernel
theorem d_Law_law_256 : decode code 256 = .ok (.iaload, 1) := by decide +kernel
theorem d_Law_law_257 : decode code 257 = .ok (.invokevirtual 39, 3) := by decide +kernel
theorem d_Law_law_260 : decode code 260 = .ok (.pop, 1) := by decide +kernel
theorem d_Law_law_261 : decode code 261 = .ok (.goto 269, 3) := by decide +kernel
theorem d_Law_law_264 : decode code 264 = .ok (.aload_n 1, 1) := by decide +kernel
theorem d_Law_law_265 : decode code 265 = .ok (.invokevirtual 40, 3) := by decide +kernel
theorem d_Law_law_268 : decode code 268 = .ok (.pop, 1) := by decide +kernel
theorem d_Law_law_269 : decode code 269 = .ok (.aload_n 2, 1) := by decide +kernel
theorem d_Law_law_270 : decode code 270 = .ok (.invokevirtual 44, 3) := by decide +kernel
theorem d_Law_law_273 : decode code 273 = .ok (.pop, 1) := by decide +kernel
theorem d_Law_law_274 : decode code 274 = .ok (.goto 256, 3) := by decide +kernel
theorem d_Law_law_277 : decode code 277 = .ok (.aload_n 1, 1) := by decide +kernel
theorem d_Law_law_278 : decode code 278 = .ok (.invokevirtual 45, 3) := by decide +kernel
theorem d_Law_law_281 : decode code 281 = .ok (.pop, 1) := by decide +kernel
theorem d_Law_law_282 : decode code 282 = .ok (.aload_n 2, 1) := by decide +kernel
theorem d_Law_law_283 : decode code 283 = .ok (.invokevirtual 48, 3) := by decide +kernel
theorem d_Law_law_286 : decode code 286 = .ok (.pop, 1) := by decide +kernel
theorem d_Law_law_287 : decode code 287 = .ok (.goto 243, 3) := by decide +kernel
theorem d_Law_law_290 : decode code 290 = .ok (.aload_n 1, 1) := by decide +kernel
theorem d_Law_law_291 : decode code 291 = .ok (.aload_n 0, 1) := by decide +kernel
theorem d_Law_law_292 : decode code 292 = .ok (.iload_n 3, 1) := by decide +kernel
theorem d_Law_law_293 : decode code 293 = .ok (.iconst 1, 1) := by decide +kernel
theorem d_Law_law_294 : decode code 294 = .ok (.iadd, 1) := by decide +kernel
theorem d_Law_law_295 : decode code 295 = .ok (.iaload, 1) := by decide +kernel
theorem d_Law_law_296 : decode code 296 = .ok (.invokevirtual 49, 3) := by decide +kernel
theorem d_Law_law_299 : decode code 299 = .ok (.pop, 1) := by decide +kernel
theorem d_Law_law_300 : decode code 300 = .ok (.aload_n 2, 1) := by decide +kernel
theorem d_Law_law_301 : decode code 301 = .ok (.aload_n 0, 1) := by decide +kernel
theorem d_Law_law_302 : decode code 302 = .ok (.iload_n 3, 1) := by decide +kernel
theorem d_Law_law_303 : decode code 303 = .ok (.iconst 1, 1) := by decide +kernel
theorem d_Law_law_304 : decode code 304 = .ok (.iadd, 1) := by decide +kernel
theorem d_Law_law_305 : decode code 305 = .ok (.iaload, 1) := by decide +kernel
theorem d_Law_law_306 : decode code 306 = .ok (.invokevirtual 52, 3) := by decide +kernel
theorem d_Law_law_309 : decode code 309 = .ok (.pop, 1) := by decide +kernel
theorem d_Law_law_310 : decode code 310 = .ok (.goto 220, 3) := by decide +kernel
theorem d_Law_law_313 : decode code 313 = .ok (.aload_n 1, 1) := by decide +kernel
theorem d_Law_law_314 : decode code 314 = .ok (.aload_n 0, 1) := by decide +kernel
theorem d_Law_law_315 : decode code 315 = .ok (.iload_n 3, 1) := by decide +kernel
theorem d_Law_law_316 : decode code 316 = .ok (.iconst 1, 1) := by decide +kernel
theorem d_Law_law_317 : decode code 317 = .ok (.iadd, 1) := by decide +kernel
theorem d_Law_law_318 : decode code 318 = .ok (.iaload, 1) := by decide +kernel
theorem d_Law_law_319 : decode code 319 = .ok (.invokevirtual 53, 3) := by decide +kernel
theorem d_Law_law_322 : decode code 322 = .ok (.pop, 1) := by decide +kernel
theorem d_Law_law_323 : decode code 323 = .ok (.aload_n 2, 1) := by decide +kernel
theorem d_Law_law_324 : decode code 324 = .ok (.aload_n 0, 1) := by decide +kernel
theorem d_Law_law_325 : decode code 325 = .ok (.iload_n 3, 1) := by decide +kernel
theorem d_Law_law_326 : decode code 326 = .ok (.iconst 1, 1) := by decide +kernel
theorem d_Law_law_327 : decode code 327 = .ok (.iadd, 1) := by decide +kernel
theorem d_Law_law_328 : decode code 328 = .ok (.iaload, 1) := by decide +kernel
theorem d_Law_law_329 : decode code 329 = .ok (.invokevirtual 56, 3) := by decide +kernel
theorem d_Law_law_332 : decode code 332 = .ok (.pop, 1) := by decide +kernel
theorem d_Law_law_333 : decode code 333 = .ok (.goto 197, 3) := by decide +kernel
theorem d_Law_law_336 : decode code 336 = .ok (.aload_n 1, 1) := by decide +kernel
theorem d_Law_law_337 : decode code 337 = .ok (.aload_n 0, 1) := by decide +kernel
theorem d_Law_law_338 : decode code 338 = .ok (.iload_n 3, 1) := by decide +kernel
theorem d_Law_law_339 : decode code 339 = .ok (.iconst 1, 1) := by decide +kernel
theorem d_Law_law_340 : decode code 340 = .ok (.iadd, 1) := by decide +kernel
theorem d_Law_law_341 : decode code 341 = .ok (.iaload, 1) := by decide +kernel
theorem d_Law_law_342 : decode code 342 = .ok (.invokevirtual 57, 3) := by decide +kernel
theorem d_Law_law_345 : decode code 345 = .ok (.pop, 1) := by decide +kernel
theorem d_Law_law_346 : decode code 346 = .ok (.aload_n 2, 1) := by decide +kernel
theorem d_Law_law_347 : decode code 347 = .ok (.aload_n 0, 1) := by decide +kernel
theorem d_Law_law_348 : decode code 348 = .ok (.iload_n 3, 1) := by decide +kernel
theorem d_Law_law_349 : decode code 349 = .ok (.iconst 1, 1) := by decide +kernel
theorem d_Law_law_350 : decode code 350 = .ok (.iadd, 1) := by decide +kernel
theorem d_Law_law_351 : decode code 351 = .ok (.iaload, 1) := by decide +kernel
theorem d_Law_law_352 : decode code 352 = .ok (.invokevirtual 60, 3) := by decide +kernel
theorem d_Law_law_355 : decode code 355 = .ok (.pop, 1) := by decide +kernel
theorem d_Law_law_356 : decode code 356 = .ok (.goto 174, 3) := by decide +kernel
theorem d_Law_law_359 : decode code 359 = .ok (.aload_n 1, 1) := by decide +kernel
theorem d_Law_law_360 : decode code 360 = .ok (.aload_n 0, 1) := by decide +kernel
theorem d_Law_law_361 : decode code 361 = .ok (.iload_n 3, 1) := by decide +kernel
theorem d_Law_law_362 : decode code 362 = .ok (.iconst 1, 1) := by decide +kernel
theorem d_Law_law_363 : decode code 363 = .ok (.iadd, 1) := by decide +kernel
theorem d_Law_law_364 : decode code 364 = .ok (.iaload, 1) := by decide +kernel
theorem d_Law_law_365 : decode code 365 = .ok (.aload_n 0, 1) := by decide +kernel
theorem d_Law_law_366 : decode code 366 = .ok (.iload_n 3, 1) := by decide +kernel
theorem d_Law_law_367 : decode code 367 = .ok (.iconst 2, 1) := by decide +kernel
theorem d_Law_law_368 : decode code 368 = .ok (.iadd, 1) := by decide +kernel
theorem d_Law_law_369 : decode code 369 = .ok (.iaload, 1) := by decide +kernel
theorem d_Law_law_370 : decode code 370 = .ok (.invokevirtual 61, 3) := by decide +kernel
theorem d_Law_law_373 : decode code 373 = .ok (.pop, 1) := by decide +kernel
theorem d_Law_law_374 : decode code 374 = .ok (.aload_n 2, 1) := by decide +kernel
theorem d_Law_law_375 : decode code 375 = .ok (.aload_n 0, 1) := by decide +kernel
theorem d_Law_law_376 : decode code 376 = .ok (.iload_n 3, 1) := by decide +kernel
theorem d_Law_law_377 : decode code 377 = .ok (.iconst 1, 1) := by decide +kernel
theorem d_Law_law_378 : decode code 378 = .ok (.iadd, 1) := by decide +kernel
theorem d_Law_law_379 : decode code 379 = .ok (.iaload, 1) := by decide +kernel
theorem d_Law_law_380 : decode code 380 = .ok (.aload_n 0, 1) := by decide +kernel
theorem d_Law_law_381 : decode code 381 = .ok (.iload_n 3, 1) := by decide +kernel
theorem d_Law_law_382 : decode code 382 = .ok (.iconst 2, 1) := by decide +kernel
theorem d_Law_law_383 : decode code 383 = .ok (.iadd, 1) := by decide +kernel
theorem d_Law_law_384 : decode code 384 = .ok (.iaload, 1) := by decide +kernel
theorem d_Law_law_385 : decode code 385 = .ok (.invokevirtual 64, 3) := by decide +kernel
theorem d_Law_law_388 : decode code 388 = .ok (.pop, 1) := by decide +kernel
theorem d_Law_law_389 : decode code 389 = .ok (.goto 141, 3) := by decide +kernel
theorem d_Law_law_392 : decode code 392 = .ok (.aload_n 1, 1) := by decide +kernel
theorem d_Law_law_393 : decode code 393 = .ok (.invokevirtual 65, 3) := by decide +kernel
theorem d_Law_law_396 : decode code 396 = .ok (.pop, 1) := by decide +kernel
theorem d_Law_law_397 : decode code 397 = .ok (.aload_n 2, 1) := by decide +kernel
theorem d_Law_law_398 : decode code 398 = .ok (.invokevirtual 68, 3) := by decide +kernel
theorem d_Law_law_401 : decode code 401 = .ok (.pop, 1) := by decide +kernel
theorem d_Law_law_402 : decode code 402 = .ok (.goto 128, 3) := by decide +kernel
theorem d_Law_law_405 : decode code 405 = .ok (.aload_n 1, 1) := by decide +kernel
theorem d_Law_law_406 : decode code 406 = .ok (.aload_n 0, 1) := by decide +kernel
theorem d_Law_law_407 : decode code 407 = .ok (.iload_n 3, 1) := by decide +kernel
theorem d_Law_law_408 : decode code 408 = .ok (.iconst 1, 1) := by decide +kernel
theorem d_Law_law_409 : decode code 409 = .ok (.iadd, 1) := by decide +kernel
theorem d_Law_law_410 : decode code 410 = .ok (.iaload, 1) := by decide +kernel
theorem d_Law_law_411 : decode code 411 = .ok (.invokevirtual 69, 3) := by decide +kernel
theorem d_Law_law_414 : decode code 414 = .ok (.pop, 1) := by decide +kernel
theorem d_Law_law_415 : decode code 415 = .ok (.aload_n 2, 1) := by decide +kernel
theorem d_Law_law_416 : decode code 416 = .ok (.aload_n 0, 1) := by decide +kernel
theorem d_Law_law_417 : decode code 417 = .ok (.iload_n 3, 1) := by decide +kernel
theorem d_Law_law_418 : decode code 418 = .ok (.iconst 1, 1) := by decide +kernel
theorem d_Law_law_419 : decode code 419 = .ok (.iadd, 1) := by decide +kernel
theorem d_Law_law_420 : decode code 420 = .ok (.iaload, 1) := by decide +kernel
theorem d_Law_law_421 : decode code 421 = .ok (.invokevirtual 72, 3) := by decide +kernel
theorem d_Law_law_424 : decode code 424 = .ok (.pop, 1) := by decide +kernel
theorem d_Law_law_425 : decode code 425 = .ok (.goto 105, 3) := by decide +kernel
theorem d_Law_law_428 : decode code 428 = .ok (.aload_n 1, 1) := by decide +kernel
theorem d_Law_law_429 : decode code 429 = .ok (.aload_n 0, 1) := by decide +kernel
theorem d_Law_law_430 : decode code 430 = .ok (.iload_n 3, 1) := by decide +kernel
theorem d_Law_law_431 : decode code 431 = .ok (.iconst 1, 1) := by decide +kernel
theorem d_Law_law_432 : decode code 432 = .ok (.iadd, 1) := by decide +kernel
theorem d_Law_law_433 : decode code 433 = .ok (.iaload, 1) := by decide +kernel
theorem d_Law_law_434 : decode code 434 = .ok (.invokevirtual 73, 3) := by decide +kernel
theorem d_Law_law_437 : decode code 437 = .ok (.aload_n 2, 1) := by decide +kernel
theorem d_Law_law_438 : decode code 438 = .ok (.aload_n 0, 1) := by decide +kernel
theorem d_Law_law_439 : decode code 439 = .ok (.iload_n 3, 1) := by decide +kernel
theorem d_Law_law_440 : decode code 440 = .ok (.iconst 1, 1) := by decide +kernel
theorem d_Law_law_441 : decode code 441 = .ok (.iadd, 1) := by decide +kernel
theorem d_Law_law_442 : decode code 442 = .ok (.iaload, 1) := by decide +kernel
theorem d_Law_law_443 : decode code 443 = .ok (.invokevirtual 76, 3) := by decide +kernel
theorem d_Law_law_446 : decode code 446 = .ok (.if_icmp .eq 84, 3) := by decide +kernel
theorem d_Law_law_451 : decode code 451 = .ok (.aload_n 1, 1) := by decide +kernel
theorem d_Law_law_452 : decode code 452 = .ok (.aload_n 0, 1) := by decide +kernel
theorem d_Law_law_453 : decode code 453 = .ok (.iload_n 3, 1) := by decide +kernel
theorem d_Law_law_454 : decode code 454 = .ok (.iconst 1, 1) := by decide +kernel
theorem d_Law_law_455 : decode code 455 = .ok (.iadd, 1) := by decide +kernel
theorem d_Law_law_456 : decode code 456 = .ok (.iaload, 1) := by decide +kernel
theorem d_Law_law_457 : decode code 457 = .ok (.invokevirtual 77, 3) := by decide +kernel
theorem d_Law_law_460 : decode code 460 = .ok (.pop, 1) := by decide +kernel
theorem d_Law_law_461 : decode code 461 = .ok (.aload_n 2, 1) := by decide +kernel
theorem d_Law_law_462 : decode code 462 = .ok (.aload_n 0, 1) := by decide +kernel
theorem d_Law_law_463 : decode code 463 = .ok (.iload_n 3, 1) := by decide +kernel
theorem d_Law_law_464 : decode code 464 = .ok (.iconst 1, 1) := by decide +kernel
theorem d_Law_law_465 : decode code 465 = .ok (.iadd, 1) := by decide +kernel
theorem d_Law_law_466 : decode code 466 = .ok (.iaload, 1) := by decide +kernel
theorem d_Law_law_467 : decode code 467 = .ok (.invokevirtual 80, 3) := by decide +kernel
theorem d_Law_law_470 : decode code 470 = .ok (.pop, 1) := by decide +kernel
theorem d_Law_law_471 : decode code 471 = .ok (.goto 59, 3) := by decide +kernel
theorem d_Law_law_474 : decode code 474 = .ok (.aload_n 1, 1) := by decide +kernel
theorem d_Law_law_475 : decode code 475 = .ok (.aload_n 0, 1) := by decide +kernel
theorem d_Law_law_476 : decode code 476 = .ok (.iload_n 3, 1) := by decide +kernel
theorem d_Law_law_477 : decode code 477 = .ok (.iconst 1, 1) := by decide +kernel
theorem d_Law_law_478 : decode code 478 = .ok (.iadd, 1) := by decide +kernel
theorem d_Law_law_479 : decode code 479 = .ok (.iaload, 1) := by decide +kernel
theorem d_Law_law_480 : decode code 480 = .ok (.invokevirtual 81, 3) := by decide +kernel
theorem d_Law_law_483 : decode code 483 = .ok (.pop2, 1) := by decide +kernel
theorem d_Law_law_484 : decode code 484 = .ok (.aload_n 2, 1) := by decide +kernel
theorem d_Law_law_485 : decode code 485 = .ok (.aload_n 0, 1) := by decide +kernel
theorem d_Law_law_486 : decode code 486 = .ok (.iload_n 3, 1) := by decide +kernel
theorem d_Law_law_487 : decode code 487 = .ok (.iconst 1, 1) := by decide +kernel
theorem d_Law_law_488 : decode code 488 = .ok (.iadd, 1) := by decide +kernel
theorem d_Law_law_489 : decode code 489 = .ok (.iaload, 1) := by decide +kernel
theorem d_Law_law_490 : decode code 490 = .ok (.invokevirtual 85, 3) := by decide +kernel
theorem d_Law_law_493 : decode code 493 = .ok (.pop2, 1) := by decide +kernel
theorem d_Law_law_494 : decode code 494 = .ok (.goto 36, 3) := by decide +kernel
theorem d_Law_law_497 : decode code 497 = .ok (.aload_n 1, 1) := by decide +kernel
theorem d_Law_law_498 : decode code 498 = .ok (.aload_n 0, 1) := by decide +kernel
theorem d_Law_law_499 : decode code 499 = .ok (.iload_n 3, 1) := by decide +kernel
theorem d_Law_law_500 : decode code 500 = .ok (.iconst 1, 1) := by decide +kernel
theorem d_Law_law_501 : decode code 501 = .ok (.iadd, 1) := by decide +kernel
theorem d_Law_law_502 : decode code 502 = .ok (.iaload, 1) := by decide +kernel
theorem d_Law_law_503 : decode code 503 = .ok (.aload_n 0, 1) := by decide +kernel
theorem d_Law_law_504 : decode code 504 = .ok (.iload_n 3, 1) := by decide +kernel
theorem d_Law_law_505 : decode code 505 = .ok (.iconst 2, 1) := by decide +kernel
theorem d_Law_law_506 : decode code 506 = .ok (.iadd, 1) := by decide +kernel
theorem d_Law_law_507 : decode code 507 = .ok (.iaload, 1) := by decide +kernel
theorem d_Law_law_508 : decode code 508 = .ok (.invokevirtual 86, 3) := by decide +kernel
theorem d_Law_law_511 : decode code 511 = .ok (.pop, 1) := by decide +kernel
theorem d_Law_law_512 : decode code 512 = .ok (.aload_n 2, 1) := by decide +kernel
theorem d_Law_law_513 : decode code 513 = .ok (.aload_n 0, 1) := by decide +kernel
theorem d_Law_law_514 : decode code 514 = .ok (.iload_n 3, 1) := by decide +kernel
theorem d_Law_law_515 : decode code 515 = .ok (.iconst 1, 1) := by decide +kernel
theorem d_Law_law_516 : decode code 516 = .ok (.iadd, 1) := by decide +kernel
theorem d_Law_law_517 : decode code 517 = .ok (.iaload, 1) := by decide +kernel
theorem d_Law_law_518 : decode code 518 = .ok (.aload_n 0, 1) := by decide +kernel
theorem d_Law_law_519 : decode code 519 = .ok (.iload_n 3, 1) := by decide +kernel
theorem d_Law_law_520 : decode code 520 = .ok (.iconst 2, 1) := by decide +kernel
theorem d_Law_law_521 : decode code 521 = .ok (.iadd, 1) := by decide +kernel
theorem d_Law_law_522 : decode code 522 = .ok (.iaload, 1) := by decide +kernel
theorem d_Law_law_523 : decode code 523 = .ok (.invokevirtual 89, 3) := by decide +kernel
theorem d_Law_law_526 : decode code 526 = .ok (.pop, 1) := by decide +kernel
theorem d_Law_law_527 : decode code 527 = .ok (.goto 3, 3) := by decide +kernel
theorem d_Law_law_530 : decode code 530 = .ok (.iinc 3 4, 3) := by decide +kernel
theorem d_Law_law_533 : decode code 533 = .ok (.goto (-495), 3) := by decide +kernel
theorem d_Law_law_536 : decode code 536 = .ok (.iconst 1, 1) := by decide +kernel
theorem d_Law_law_537 : decode code 537 = .ok (.ireturn, 1) := by decide +kernel
end
section
/-! THE LAW: what both objects are between two calls -/
theorem mo_cs (z : Int32) : (z < 2 ∨ 64 < z) ∨ ∃ ns, 2 ≤ ns ∧ ns ≤ 64 ∧ z = nI ns := by
  by_cases h1 : z < 2
  · exact Or.inl (Or.inl h1)
  · by_cases h2 : 64 < z
    · exact Or.inl (Or.inr h2)
    · right
      obtain ⟨n, a, b, e⟩ := in_of2 (a := 2) (b := 64) (p := z) (by decide) (by decide) ⟨Int32.not_lt.mp h1, Int32.not_lt.mp h2⟩
      exact ⟨n, a, b, e⟩
theorem md_cs (z : Int32) {k : Nat} (hk : k ≤ 8) : (z < 0 ∨ nI k ≤ z) ∨ ∃ j, j < k ∧ z = nI j := by
  by_cases h1 : z < 0
  · exact Or.inl (Or.inl h1)
  · by_cases h2 : nI k ≤ z
    · exact Or.inl (Or.inr h2)
    · right
      rw [Int32.lt_iff_toInt_lt] at h1
      rw [Int32.le_iff_toInt_le, nI_toInt (by omega)] at h2
      have e0 : (0 : Int32).toInt = 0 := rfl
      refine ⟨z.toInt.toNat, by omega, ?_⟩
      apply Int32.toInt_inj.mp
      rw [nI_toInt (by omega)]
      omega
theorem mb_push (cI : ClassId) (X : va_W) (ms : List MB) (x : MB) : ((X ++ mbC cI x) ++ mbsC cI ms).Perm (X ++ mbsC cI (ms ++ [x])) := by
  have h := mb_out cI X ms [] x
  have e : mbsC cI ([] : List MB) = [] := rfl
  rw [e, List.append_nil] at h
  exact h
theorem mf_push {mf : Nat → Option Nat} {ms : List MB} {x : MB} (h : mfOk mf ms) (h8 : ms.length < 8) : mfOk (va_up mf ms.length (some x.1)) (ms ++ [x]) := by
  intro i hi
  by_cases e : i = ms.length
  · subst e
    rw [va_up_self, mb_get (a := ms) (b := []) (x := x)]
    rfl
  · rw [va_up_ne _ _ e, h i hi]
    rcases Nat.lt_or_ge i ms.length with q | q
    · rw [List.getElem?_append_left q]
    · rw [List.getElem?_eq_none (by omega), List.getElem?_eq_none (by rw [List.length_append, List.length_singleton]; omega)]
theorem ok_push {ms : List MB} {x : MB} (h : ∀ y ∈ ms, mbOk y) (hx : mbOk x) : ∀ y ∈ ms ++ [x], mbOk y := by
  intro y hy
  rcases List.mem_append.mp hy with q | q
  · exact h y q
  · rw [List.mem_singleton.mp q]; exact hx
theorem pm_ca {α : Type} (a b c : List α) : (a ++ (b ++ c)).Perm (b ++ (a ++ c)) := by
  rw [← List.append_assoc, ← List.append_assoc]
  exact List.Perm.append_right _ List.perm_append_comm
theorem pm_5 {α : Type} (P Hd O1 O2 Q : List α) : (P ++ ((Hd ++ (O1 ++ O2)) ++ Q)).Perm (O1 ++ (Hd ++ (O2 ++ (P ++ Q)))) := by
  rw [List.append_assoc Hd, List.append_assoc O1]
  refine (pm_ca P Hd _).trans ?_
  refine ((pm_ca P O1 _).append_left Hd).trans ?_
  refine (pm_ca Hd O1 _).trans ?_
  exact (((pm_ca P O2 Q).append_left Hd).append_left O1)
def mbH (cI : ClassId) (x : MB) : va_W := [(x.1, Sum.inr (8, [Value.ref x.2.1, Value.ref x.2.2.2.2.1.1, Value.ref x.2.2.2.2.2.1])), (x.2.1, Sum.inl (cI, x.2.2.1, Sum.inl x.2.2.2.1))]
theorem mb_outE {cI : ClassId} {ms a b : List MB} {x : MB} (X : va_W) (e : ms = a ++ x :: b) : ((X ++ mbC cI x) ++ (mbsC cI a ++ mbsC cI b)).Perm (X ++ mbsC cI ms) := by
  subst e; exact mb_out cI X a b x
theorem mf_someE {mf : Nat → Option Nat} {ms a b : List MB} {x : MB} {j : Nat} (h : mfOk mf ms) (e : ms = a ++ x :: b) (hl : a.length = j) (h8 : j < 8) : mf j = some x.1 := by
  subst e; subst hl; exact mf_some h h8
theorem mb_setE {ms a b : List MB} {x y : MB} (e : ms = a ++ x :: b) (h : mbA y = mbA x) : (a ++ y :: b).map mbA = ms.map mbA := by
  subst e; exact mb_set h
theorem ok_setE {ms a b : List MB} {x y : MB} (h : ∀ z ∈ ms, mbOk z) (e : ms = a ++ x :: b) (hy : mbOk y) : ∀ z ∈ a ++ y :: b, mbOk z := by
  subst e; exact ok_set h hy
theorem MI3_new {M bm km ns : Nat} {N : Nat → Nat} {fItems fGoes : Int32} {vIM vIW vNow f2 : Nat → Int32} (h : MI3 M bm km N fItems fGoes vIM vIW vNow) (hN : ∀ i, i < km → N i ≤ 64) (ho : sgO f2 vNow (64 * km) 64) : MI3 M bm (km + 1) (upN N km ns) fItems fGoes vIM vIW f2 := by
  obtain ⟨its, h1, h2, h3, h4, h5⟩ := h
  refine ⟨its, h1, h2, h3, h4, fun i hlt => ?_⟩
  rcases h5 i hlt with q | ⟨q1, q2, q3, q4, q5, q6⟩
  · exact Or.inl q
  · generalize hit : itA its i = it at q1 q2 q3 q4 q5 q6 ⊢
    have hn := hN _ q2
    have hne : it.2.1 ≠ km := by omega
    have hF : ∀ k, k < N it.2.1 → Fvw f2 it.2.1 k = Fvw vNow it.2.1 k := fun k hk => by
      unfold Fvw
      rw [ho _ (by omega)]
    rw [show upN N km ns = upN N km ns from rfl]
    refine Or.inr ⟨q1, by omega, by rw [upN_n _ hne]; exact q3, ?_, ?_, ?_⟩
    · rw [hF _ q3]; exact q4
    · rw [upN_n _ hne, ns_cg hF]; exact q5
    · rw [upN_n _ hne]
      intro k hk
      rw [ho _ (by omega), q6 k hk, hF k hk]
/-! the law's own helper -/
def cellV (L : Nat) (xs : Nat → Int32) (k : Int32) : Int32 := if nI L ≤ k then 0 else xs k.toNatClampNeg
theorem d_cell_0 : decode method_2_code 0 = .ok (.iload_n 1, 1) := by decide +kernel
theorem d_cell_1 : decode method_2_code 1 = .ok (.aload_n 0, 1) := by decide +kernel
theorem d_cell_2 : decode method_2_code 2 = .ok (.arraylength, 1) := by decide +kernel
theorem d_cell_3 : decode method_2_code 3 = .ok (.if_icmp .ge 9, 3) := by decide +kernel
theorem d_cell_6 : decode method_2_code 6 = .ok (.aload_n 0, 1) := by decide +kernel
theorem d_cell_7 : decode method_2_code 7 = .ok (.iload_n 1, 1) := by decide +kernel
theorem d_cell_8 : decode method_2_code 8 = .ok (.iaload, 1) := by decide +kernel
theorem d_cell_9 : decode method_2_code 9 = .ok (.goto 4, 3) := by decide +kernel
theorem d_cell_12 : decode method_2_code 12 = .ok (.iconst 0, 1) := by decide +kernel
theorem d_cell_13 : decode method_2_code 13 = .ok (.ireturn, 1) := by decide +kernel
def cellP (b L : Nat) (xs : Nat → Int32) (k : Int32) (sz : Nat) (U : State) : Prop := U.heap.size = sz ∧ va_X b L xs U U.heap ∧ L < 2 ^ 31 ∧ ¬ k < 0
theorem c_cell (l : Launch) (b L : Nat) (xs : Nat → Int32) (k : Int32) (sz : Nat) : Met l y_Law_cell (Cond.code y_Law_cell method_2_code 2 (some .int) :: gw) ({ frames := 0, cells := 0, slots := 0, locals := 0 } : Room) (va_Pc [Value.ref b, Value.int k] (cellP b L xs k sz)) (va_Qi (S := Unit) (fun r _ => r = cellV L xs k) (fun _ _ => True) (fun q => sz ≤ q)) 0 0 (fun q => sz ≤ q) := by
  refine Met.ofW (cc := method_2_code) (maxL := 2) (ret := some .int) (by decide) rfl ?_
  intro p e s m args below meth c s₁ B hml hv
  obtain ⟨ha, hsz, hX, hL, hk⟩ := hv
  subst hsz
  have hx := B.exec
  have hb := B.bytes
  have hr := B.returns
  have hlocks := B.notSynchronized
  have hbl : b < s.heap.size := by
    obtain ⟨scr, h1, -⟩ := hX
    exact (Array.getElem?_eq_some_iff.mp h1).1
  have hbA : ¬ (fun q : Nat => s.heap.size ≤ q) b := Nat.not_le.mpr hbl
  have hS : va_S (fun q : Nat => s.heap.size ≤ q) s.heap s.heap [] := va_S.rf
  have hl := lv_entry ([Value.ref b, Value.int k]) (n := 2) (Nat.le_of_ble_eq_true rfl)
  refine W.eq (g2 := F0 m 0 ((lg_sl [Value.ref b, Value.int k] ++ List.replicate (2 - (lg_sl [Value.ref b, Value.int k]).length) Slot.unset).toArray) []) (by rw [ha]; exact lg_entry_eq m [Value.ref b, Value.int k] 2) ?_
  generalize (lg_sl ([Value.ref b, Value.int k] : List Value) ++ List.replicate (2 - (lg_sl ([Value.ref b, Value.int k] : List Value)).length) Slot.unset).toArray = ls at hl ⊢
  have hl : lv_has ls 2 [(0, Value.ref b), (1, Value.int k)] := hl
  refine lv_iload_n hx hb d_cell_0 rfl (lv_at hl 1 rfl) ?_
  refine lv_aload_n hx hb d_cell_1 rfl (lv_at hl 0 rfl) ?_
  refine va_slen hx hb hX hbl hbA hS d_cell_2 ?_
  refine lv_icmp_ge (tgt := 12) hx hb d_cell_3 (by decide) (fun c1 => ?_) (fun c1 => ?_)
  · refine lv_iconst (v := 0) hx hb d_cell_12 (by decide) ?_
    exact W.zret (v := 0) hx hb hr rfl (fun t ht hW => ⟨⟨0, (), rfl, show (0 : Int32) = cellV L xs k from by unfold cellV; rw [if_pos (show nI L ≤ k from c1)], trivial⟩, hS.F ht⟩) (fun q hq => absurd hq List.not_mem_nil) d_cell_13 hlocks
  · refine lv_aload_n hx hb d_cell_6 rfl (lv_at hl 0 rfl) ?_
    refine lv_iload_n hx hb d_cell_7 rfl (lv_at hl 1 rfl) ?_
    refine va_sld hx hb hX hbl hbA hS (I_in' hL hk c1) d_cell_8 ?_
    refine lv_goto (tgt := 13) hx hb d_cell_9 (by decide) ?_
    exact W.zret (v := xs k.toNatClampNeg) hx hb hr rfl (fun t ht hW => ⟨⟨_, (), rfl, show xs k.toNatClampNeg = cellV L xs k from by unfold cellV; rw [if_neg (show ¬ nI L ≤ k from c1)], trivial⟩, hS.F ht⟩) (fun q hq => absurd hq List.not_mem_nil) d_cell_13 hlocks
theorem cell_pre {b L : Nat} {xs : Nat → Int32} {k : Int32} {s : State} {H : Heap} (hX : va_X b L xs s H) (hL : L < 2 ^ 31) (hk : ¬ k < 0) : FrameBlind (va_Pc [Value.ref b, Value.int k] (cellP b L xs k H.size)) ∧ ∀ U : State, U.heap = H → s.WarmedH U.vm → va_Pc [Value.ref b, Value.int k] (cellP b L xs k H.size) ([Value.ref b, Value.int k] : List Value).toArray U :=
  ⟨fun a U g mk q => ⟨q.1, q.2.1, va_X.moved (u := U) (U := U.calling g mk a) (Vm.Alike.refl U.vm) q.2.2.1, q.2.2.2⟩, fun U hU hW => ⟨rfl, by rw [hU], by rw [hU]; exact va_X.moved hW.alike hX, hL, hk⟩⟩
theorem cell_call {p : Program} {l : Launch} {e : Env} {R : Room} {s : State} {m : MethodId} {args : Array Value} {below : List Frame} {meth : Method} {c : Code} {H : Heap} {locs : List Loc} {cells slots : Nat} {Q : State → Prop} {pc : Nat} {ls : Array Slot} {rest : List Value} {D : va_G} {cl : List vw_C} {ws : va_W} {A : Nat → Prop} {b L : Nat} {xs : Nat → Int32}
    (hx : p.tables.exec = Jvm.exec) (hb : c.code = code) (hml : c.maxLocals = 4) (hown : s.vm.findClass "RangeCodersLaw" = some m.cls) (hg : ∀ w ∈ gw, w.before args s = true) (hR : R = room_1) (hX : va_X b L xs s s.heap) (hbl : b < s.heap.size) (hbA : ¬ A b) (hL : L < 2 ^ 31) (hP : va_P D cl ws H) (hS : va_S A s.heap H locs) (hA : ∀ q : Nat, s.heap.size ≤ q → A q) {k : Int32} (hk : ¬ k < 0) (hrest : 2 * (F0 m pc ls (.int k :: .ref b :: rest)).monitorRoom + (rest.map fun v => v.category).sum ≤ 8) (hls : ls.size = 4) (hc : cells ≤ 600000) (hs : slots ≤ 7302250) (hdg : decode code pc = .ok (.invokestatic 9, 3))
    (kk : ∀ (H1 : Heap) (locs1 : List Loc), va_P D cl ws H1 → va_S A s.heap H1 locs1 → W p l e R s m args below meth c H1 locs1 cells slots Q (F0 m (pc + 3) ls (.int (cellV L xs k) :: rest))) : W p l e R s m args below meth c H locs cells slots Q (F0 m pc ls (.int k :: .ref b :: rest)) := by
  have hts : ∀ w ∈ (Cond.code y_M_in prog_14_method_3_code 3 (some .boolean) :: gw), w.before args s = true := List.forall_mem_cons.mpr ⟨hg _ k1064, hg⟩
  have hXH : va_X b L xs s H := hX.kept (hS.2.1 b hbl hbA)
  refine va_calli (A1 := fun q => H.size ≤ q) (free := fun q => H.size ≤ q) (S := Unit) (post := fun r _ => r = cellV L xs k) (B := fun _ _ => True) (va_runS (As := [Value.ref b, Value.int k]) (rest := rest) ⟨hx, hb, hml, hown, hts⟩ (c_cell l b L xs k H.size) (cwS 2 hts (my_gS k914 k915 k0 k916) rfl rfl rfl (by decide +kernel) ⟨by rw [hR]; exact Nat.le_of_ble_eq_true rfl, by rw [hR]; exact Nat.le_of_ble_eq_true rfl⟩) (cell_pre hXH hL hk) rfl rfl hls rfl hrest hdg ⟨by rw [hR]; exact hc, by rw [hR]; exact hs⟩) hS (fun q h1 h2 => absurd h1 (Nat.not_lt.mpr h2)) (fun q h => hA q (Nat.le_trans hS.1 h)) (fun r u t H1 locs1 ht hvm hw hB hz1 hk1 hS1 => ?_)
  subst hw
  exact kk H1 locs1 (fun k2 q hq => (hP k2 q hq).kept (hk1 q.1 (hP k2 q hq).lt (Nat.not_le.mpr (hP k2 q hq).lt))) hS1
end
section
/-! THE CLAIM OUT OF ONE WALK OF THE LAW'S BODY. Your part is whole_start (and what it stands on); all else here is the same for every law, but numbers. -/
def R_law : String := "RangeCodersLaw"
def lw_P (b : Addr) (xs : List Int32) (args : Array Value) (s : State) : Prop := args = #[Value.ref b] ∧ s.IntsAt b xs ∧ xs.length ≤ 2050 ∧ (Jvm.Cond.and given_1 narrow_1).before args s = true
def lw_Q (_ : Array Value) (s : State) (o : Outcome) (t : State) : Prop := o = .returned (some (.int 1)) ∧ Framed s o t [] 600000 7302250
def lw_Z (below : List Frame) (a : Array Value) (s : State) : State → Prop := fun t => ∃ o, t.status = .running ∧ Ended t below o ∧ lw_Q a s o t
/-- the law's own end, with 1 on the stack, nothing written that was there before, its room as the claim has it -/
theorem lw_ret {p : Program} {l : Launch} {e : Env} {s : State} {m : MethodId} {below : List Frame} {meth : Method} {c : Code} {b : Nat} (hx : p.tables.exec = Jvm.exec) (hb : c.code = code) (hr : meth.sig.returnType = ret) (hlocks : meth.locks = false) {pc : Nat} {H : Heap} {ls : Array Slot} (hdg : decode code pc = .ok (.ireturn, 1)) : W p l e room_1 s m #[Value.ref b] below meth c H [] 600000 7302250 (lw_Z below #[Value.ref b] s) (F0 m pc ls [Value.int 1]) := by
  intro T hT X
  obtain ⟨fs, hret, hrun, hended, hW, hframe⟩ := X.leave (v := some (.int 1)) (hlocks := hlocks) (fun h => by rw [hr] at h; cases h)
  have hmeth' : T.vm.method? m = some meth := X.method'
  refine ⟨T.setFrames fs, ?_, .returned (some (.int 1)), hrun, hended, rfl, ⟨_, rfl⟩, hW, hframe⟩
  jvm_step X.here [X.here.top, hx, hb, hdg, hmeth', hr, ret, narrow_b1]
  (try refine ⟨rfl, ?_⟩); (try refine ⟨rfl, ?_⟩)
  first | (intro acts; rw [hret _ acts rfl rfl rfl]) | rw [hret _ _ rfl rfl rfl]
  exact Steps.refl _
/-- what holds at the law's entry: the machine, the code, the tables' words (any of lw_tbl by 'hts w (by decide +kernel)'), the script of L ints xs at the cell b, what the Statement gives of the start (any of its parts by flat_of_before) -/
def lw_At (p : Program) (s : State) (m : MethodId) (meth : Method) (c : Code) (b L : Nat) (xs : Nat → Int32) : Prop :=
  p.tables.exec = Jvm.exec ∧ c.code = code ∧ meth.sig.returnType = ret ∧ c.maxLocals = 4 ∧ s.vm.findClass R_law = some m.cls ∧ (∀ w ∈ lw_tbl, w.before #[Value.ref b] s = true) ∧ va_X b L xs s s.heap ∧ b < s.heap.size ∧ meth.locks = false ∧ (Jvm.Cond.and given_1 narrow_1).before #[Value.ref b] s = true
theorem loop_le {L i : Nat} (hL : L ≤ 2050) (hi : i ≤ 2060) (h : ¬ Int32.ofNat L - 4 < nI i) : i + 4 ≤ L := by
  have e1 : (Int32.ofNat L).toInt = (L : Int) := nI_toInt (n := L) (by omega)
  have e4 : (4 : Int32).toInt = 4 := rfl
  rw [Int32.lt_iff_toInt_lt, Int32.toInt_sub, e1, e4, nI_toInt (by omega)] at h
  rw [Int.bmod_eq_of_le (by omega) (by omega)] at h
  omega
theorem sw_cs {v : Int32} (h : ¬ (v.toInt < 0 ∨ 15 < v.toInt)) : ∃ j, j < 16 ∧ v = nI j := ⟨v.toInt.toNat, by omega, Int32.toInt_inj.mp (by rw [nI_toInt (by omega)]; omega)⟩
theorem law_end {p : Program} {l : Launch} {e : Env} {s : State} {m : MethodId} {below : List Frame} {meth : Method} {c : Code} {b : Nat} {A : Nat → Prop} {H : Heap} {locs : List Loc} {dd : Nat} {ls : Array Slot} (hA : ∀ q : Nat, A q → s.heap.size ≤ q) (hx : p.tables.exec = Jvm.exec) (hb : c.code = code) (hr : meth.sig.returnType = ret) (hlocks : meth.locks = false) (hS : va_S A s.heap H locs) (hdd : dd ≤ 300000) : W p l e room_1 s m #[Value.ref b] below meth c H locs dd dd (lw_Z below #[Value.ref b] s) (F0 m 536 ls []) := by
  refine va_forget (fun q hq => hA _ (hS.2.2 q hq)) ?_
  refine lv_iconst (v := 1) hx hb d_Law_law_536 (by decide) ?_
  refine W.widen (k := 600000) (n := 7302250) (by omega) (by omega) ?_
  exact lw_ret hx hb hr hlocks d_Law_law_537
end
section
/-! HOW MANY BYTES a message can have: RANGE's size in bits pays for them -/
theorem lg_mono {a b : Nat} (h0 : 0 < a) (h : a ≤ b) : a.log2 ≤ b.log2 := (Nat.le_log2 (by omega)).mpr (Nat.le_trans (Nat.log2_self_le (by omega)) h)
theorem lg_256 {a : Nat} (h0 : 0 < a) : a.log2 + 8 ≤ (a * 256).log2 := by
  refine (Nat.le_log2 (by omega)).mpr ?_
  rw [Nat.pow_add]
  exact Nat.mul_le_mul_right 256 (Nat.log2_self_le (by omega))
theorem lg_div {R a : Nat} (h : 2 ^ a ≤ R) : R.log2 ≤ a + (R / 2 ^ a).log2 := by
  have hp := Nat.two_pow_pos a
  have ha : a ≤ R.log2 := (Nat.le_log2 (by omega)).mpr h
  have h1 : 2 ^ (R.log2 - a) ≤ R / 2 ^ a := by
    rw [Nat.le_div_iff_mul_le hp, ← Nat.pow_add, Nat.sub_add_cancel ha]
    exact Nat.log2_self_le (by omega)
  have h2 : R.log2 - a ≤ (R / 2 ^ a).log2 := (Nat.le_log2 (by have := Nat.two_pow_pos (R.log2 - a); omega)).mpr h1
  omega
theorem lg_31 {R : Nat} (h : R < 4294967296) (h0 : 0 < R) : R.log2 ≤ 31 := by
  rcases Nat.lt_or_ge 31 R.log2 with q | q
  · have := (Nat.le_log2 (n := R) (k := 32) (by omega)).mp q
    omega
  · exact q
/-- c bits have been paid -/
def lgI (c : Nat) (e : ES) : Prop := 8 * eN e + 23 ≤ c + (eR e).log2
theorem lg_wdN : ∀ (k : Nat) (e : ES) (c : Nat), 0 < eR e → lgI c e → lgI c (wdN k e)
  | 0, e, c, _, h => h
  | k + 1, e, c, h0, h => by
    by_cases hr : eR e < 16777216
    · rw [wdN_s (show 0 < k + 1 from Nat.succ_pos k) hr, Nat.add_sub_cancel]
      refine lg_wdN k _ c (by show 0 < eR e * 256; omega) ?_
      have a := eN_sh (eR e * 256, e.2)
      have b := lg_256 h0
      have d : eN (eR e * 256, e.2) = eN e := rfl
      unfold lgI at h ⊢
      show 8 * eN (shS (eR e * 256, e.2)) + 23 ≤ c + (eR e * 256).log2
      omega
    · rw [wdN_e hr]; exact h
theorem lg_wd {e : ES} {c : Nat} (h0 : 0 < eR e) (h : lgI c e) : lgI c (wdS e) := lg_wdN 8 e c h0 h
/-- RANGE becomes smaller, by d bits at most -/
theorem lg_lo {R L R2 L2 Pn c d : Nat} {ca : Option Nat} {bs : List Nat} (h : lgI c (R, L, ca, Pn, bs)) (hd : R.log2 ≤ d + R2.log2) : lgI (c + d) (R2, L2, ca, Pn, bs) := by
  unfold lgI at h ⊢
  show 8 * (bs.length + Pn + 1) + 23 ≤ c + d + R2.log2
  have : 8 * (bs.length + Pn + 1) + 23 ≤ c + R.log2 := h
  omega
theorem lg_nr {R L t cc f Pn c : Nat} {ca : Option Nat} {bs : List Nat} (h : lgI c (R, L, ca, Pn, bs)) (hR : 8192 ≤ R) (ht : 0 < t) (ht2 : t ≤ 8192) (hf : 0 < f) : lgI (c + 13) (wdS (R / t * f, L + R / t * cc, ca, Pn, bs)) := by
  have h1 : R / 8192 ≤ R / t := Nat.div_le_div_left ht2 ht
  have h2 : 0 < R / 8192 := Nat.div_pos hR (by decide)
  have h3 : R / t * 1 ≤ R / t * f := Nat.mul_le_mul_left _ hf
  refine lg_wd (by show 0 < R / t * f; omega) (lg_lo h ?_)
  have h4 := lg_div (R := R) (a := 13) hR
  have h5 := lg_mono (a := R / 2 ^ 13) (b := R / t * f) h2 (show R / 8192 ≤ R / t * f by omega)
  omega
theorem lg_bt {p b R L Pn c : Nat} {ca : Option Nat} {bs : List Nat} (h : lgI c (R, L, ca, Pn, bs)) (hR : 16777216 ≤ R) (hp1 : 1 ≤ p) (hp2 : p ≤ 2047) : lgI (c + 11) (wdS (btS p b R L ca Pn bs)) := by
  have h2 : 0 < R / 2048 := Nat.div_pos (by omega) (by decide)
  have h3 : R / 2048 * 1 ≤ R / 2048 * p := Nat.mul_le_mul_left _ hp1
  have h4 : R / 2048 * p ≤ R / 2048 * 2047 := Nat.mul_le_mul_left _ hp2
  have h5 := lg_div (R := R) (a := 11) (by omega)
  unfold btS
  split
  · refine lg_wd (by show 0 < R / 2048 * p; omega) (lg_lo h ?_)
    have := lg_mono (a := R / 2 ^ 11) (b := R / 2048 * p) h2 (show R / 2048 ≤ R / 2048 * p by omega)
    omega
  · refine lg_wd (by show 0 < R - R / 2048 * p; omega) (lg_lo h ?_)
    have := lg_mono (a := R / 2 ^ 11) (b := R - R / 2048 * p) h2 (show R / 2048 ≤ R - R / 2048 * p by omega)
    omega
theorem lg_vb (v : Nat) : ∀ (b : Nat) (e : ES) (c : Nat), eInv e → lgI c e → lgI (c + b) (vbN v b e)
  | 0, e, c, _, h => h
  | b + 1, e, c, hi, h => by
    obtain ⟨r, l, ca, p, bs⟩ := e
    have h1 : 16777216 ≤ r := hi.1
    have h2 := lg_div (R := r) (a := 1) (by omega)
    have z := lg_vb v b (wdS (r / 2, (if v / 2 ^ b % 2 = 1 then l + r / 2 else l), ca, p, bs)) (c + 1) (vb_inv hi (v / 2 ^ b % 2 = 1)).1 (lg_wd (by show 0 < r / 2; omega) (lg_lo h h2))
    rw [show c + (b + 1) = c + 1 + b by omega]
    exact z
theorem lg_sp (sh t : Nat) (hs : 1 ≤ sh) : ∀ (k nd : Nat) (e : ES) (C : Nat → Nat) (c : Nat), k ≤ 6 → nd < 2 ^ (7 - k) → eInv e → (∀ j, j < 64 → 1 ≤ C j ∧ C j ≤ 2047) → lgI c e → lgI (c + 11 * k) (spN sh t k nd e C).1
  | 0, nd, e, C, c, _, _, _, _, h => h
  | k + 1, nd, e, C, c, hk, hnd, hi, hC, h => by
    have hn : nd < 64 := Nat.lt_of_lt_of_le hnd (Nat.le_trans (Nat.pow_le_pow_right (by decide) (show 7 - (k + 1) ≤ 6 by omega)) (by decide))
    obtain ⟨r, l, ca, p, bs⟩ := e
    have hb2 := Nat.mod_lt (t / 2 ^ k) (show 0 < 2 by decide)
    have z := lg_sp sh t hs k (2 * nd + t / 2 ^ k % 2) (wdS (btS (C nd) (t / 2 ^ k % 2) r l ca p bs)) (upN C nd (mvC sh (t / 2 ^ k % 2) (C nd))) (c + 11) (by omega)
      (by have e7 : 7 - k = (7 - (k + 1)) + 1 := by omega
          rw [e7, Nat.pow_succ]; omega) (bt_inv (e := (r, l, ca, p, bs)) hi (hC nd hn).1 (hC nd hn).2).1 (ch_up hs hC) (lg_bt h hi.1 (hC nd hn).1 (hC nd hn).2)
    rw [show c + 11 * (k + 1) = c + 11 + 11 * k by omega]
    exact z
theorem shK_N : ∀ (k : Nat) (e : ES), eN (shK k e) ≤ eN e + k
  | 0, e => Nat.le_refl _
  | k + 1, e => by
    have a := shK_N k (shS e)
    have b := eN_sh e
    show eN (shK k (shS e)) ≤ _
    omega
theorem shK_oct : ∀ (k : Nat) (e : ES), oct (eB e) → oct (eB (shK k e))
  | 0, e, h => h
  | k + 1, e, h => shK_oct k (shS e) (oct_shB h)
theorem tpK_oct : ∀ (k : Nat) (e : Nat × List Nat), oct e.2 → oct (tpK k e).2
  | 0, e, h => h
  | k + 1, e, h => tpK_oct k _ (oct_app h (oct_one (Nat.mod_lt _ (by decide))))
theorem tpK_len : ∀ (k : Nat) (e : Nat × List Nat), (tpK k e).2.length = e.2.length + k
  | 0, e => rfl
  | k + 1, e => by
    have a := tpK_len k (mvL e.1, e.2 ++ [e.1 / 16777216 % 256])
    rw [show ((mvL e.1, e.2 ++ [e.1 / 16777216 % 256]) : Nat × List Nat).2.length = e.2.length + 1 from by rw [List.length_append, List.length_singleton]] at a
    show (tpK k _).2.length = _
    omega
theorem lg_len {R L Pn c : Nat} {ca : Option Nat} {bs : List Nat} (h : lgI c (R, L, ca, Pn, bs)) (hc : c ≤ 43200) (h0 : 0 < R) (hR : R < 4294967296) : (eB (shK 5 (R, L, ca, Pn, bs))).length ≤ 6000 := by
  have a : 8 * eN (R, L, ca, Pn, bs) + 23 ≤ c + R.log2 := h
  have b := lg_31 hR h0
  have d := shK_N 5 (R, L, ca, Pn, bs)
  have e : (eB (shK 5 (R, L, ca, Pn, bs))).length + eP (shK 5 (R, L, ca, Pn, bs)) + 1 = eN (shK 5 (R, L, ca, Pn, bs)) := rfl
  omega
/-! THE TIE of class and reference: bytes -/
/-- the message of forms 0 and 2 -/
def MT0 (fit : Int32) (xlow xrange : Int64) (xcache xpending rwn : Int32) (rwf : Nat → Int32) (fLow fRange : Int64) (fCache fPend fGoes : Int32) (vGoing : Nat → Int32) : Prop := ∃ (ki Rg L : Nat) (ca : Option Nat) (Pn : Nat) (bs : List Nat), ki ≤ 600 ∧ fit = nI ki ∧ xlow = lN L ∧ xrange = lN Rg ∧ xcache = caI ca ∧ xpending = nI Pn ∧ rwn = nI bs.length ∧ fLow = lN L ∧ fRange = lN Rg ∧ fCache = caI ca ∧ fPend = nI Pn ∧ fGoes = nI bs.length ∧ gIs rwf bs ∧ gIs vGoing bs ∧ eInv (Rg, L, ca, Pn, bs) ∧ oct bs ∧ bs.length + Pn ≤ 12 * ki ∧ lgI (72 * ki) (Rg, L, ca, Pn, bs)
theorem MT0_of {e : ES} {ki c : Nat} {f v2 : Nat → Int32} (hk : ki < 600) (he : eInv e) (ho : oct (eB e)) (hf : gIs f (eB e)) (hg : gIs v2 (eB e)) (hl : eN e ≤ 12 * ki + 13) (hc : lgI c e) (hc2 : c ≤ 72 * ki + 72) : MT0 (nI (ki + 1)) (lN (eL e)) (lN (eR e)) (caI (eC e)) (nI (eP e)) (nI (eB e).length) f (lN (eL e)) (lN (eR e)) (caI (eC e)) (nI (eP e)) (nI (eB e).length) v2 := by
  obtain ⟨r, l, ca, p, bs⟩ := e
  have h2 : bs.length + p + 1 ≤ 12 * ki + 13 := hl
  refine ⟨ki + 1, r, l, ca, p, bs, by omega, rfl, rfl, rfl, rfl, rfl, rfl, rfl, rfl, rfl, rfl, rfl, hf, hg, he, ho, by omega, ?_⟩
  unfold lgI at hc ⊢
  omega
theorem MT0_0 (f vGoing : Nat → Int32) : MT0 0 0 4294967295 (-1) 0 0 f 0 4294967295 (-1) 0 0 vGoing := ⟨0, 4294967295, 0, none, 0, [], by decide, rfl, rfl, rfl, rfl, rfl, rfl, rfl, rfl, rfl, rfl, rfl, fun i h => absurd h (Nat.not_lt_zero i), fun i h => absurd h (Nat.not_lt_zero i), ⟨by decide, by decide, by decide, fun _ h => by cases h⟩, oct_iff.mpr (fun _ z => absurd z List.not_mem_nil), by decide, by unfold lgI; decide⟩
/-- the message of form 1 -/
def MT1 (fit : Int32) (xlow xrange : Int64) (rwn : Int32) (rwf : Nat → Int32) (fLow fRange : Int64) (fGoes : Int32) (vGoing : Nat → Int32) : Prop := ∃ (ki Rg L : Nat) (bs : List Nat), ki ≤ 600 ∧ fit = nI ki ∧ xlow = lN L ∧ xrange = lN Rg ∧ rwn = nI bs.length ∧ fLow = lN L ∧ fRange = lN Rg ∧ fGoes = nI bs.length ∧ gIs rwf bs ∧ gIs vGoing bs ∧ pOk Rg L ∧ 65536 ≤ Rg ∧ oct bs ∧ bs.length ≤ 4 * ki
theorem MT1_of {e : PS} {ki : Nat} {f v2 : Nat → Int32} (hk : ki < 600) (hp : pOk e.1 e.2.1) (h6 : 65536 ≤ e.1) (ho : oct e.2.2) (hf : gIs f e.2.2) (hg : gIs v2 e.2.2) (hl : e.2.2.length ≤ 4 * ki + 4) : MT1 (nI (ki + 1)) (lN e.2.1) (lN e.1) (nI e.2.2.length) f (lN e.2.1) (lN e.1) (nI e.2.2.length) v2 := ⟨ki + 1, e.1, e.2.1, e.2.2, by omega, rfl, rfl, rfl, rfl, rfl, rfl, rfl, hf, hg, hp, h6, ho, by omega⟩
theorem MT1_0 (f vGoing : Nat → Int32) : MT1 0 0 4294967295 0 f 0 4294967295 0 vGoing := ⟨0, 4294967295, 0, [], by decide, rfl, rfl, rfl, rfl, rfl, rfl, rfl, fun i h => absurd h (Nat.not_lt_zero i), fun i h => absurd h (Nat.not_lt_zero i), ⟨by decide, by decide, by decide, fun h => absurd h (by decide)⟩, by decide, oct_iff.mpr (fun _ z => absurd z List.not_mem_nil), by decide⟩
/-- items as the class keeps them -/
def kI (ms : List MB) (sof : Nat → Option Nat) (snf swf : Nat → Int32) (i : Nat) (it : It) : Prop := (it.1 = 0 ∧ sof i = none ∧ snf i = nI it.2.2 ∧ swf i = nI it.2.1) ∨ (¬ it.1 = 0 ∧ snf i = nI it.2.2 ∧ ∃ x, ms[it.2.1]? = some x ∧ sof i = some (mS x).1)
/-- the message of forms 3 and 4 -/
def MT3 (M bm : Nat) (ms : List MB) (N : Nat → Nat) (fit xkept : Int32) (sof : Nat → Option Nat) (snf swf : Nat → Int32) (fGoes : Int32) (vIM vIW vNow : Nat → Int32) : Prop := ∃ its : List It, its.length ≤ 600 ∧ fit = nI its.length ∧ xkept = nI its.length ∧ fGoes = 0 ∧ itIs vIM vIW its ∧ (∀ i, i < its.length → itOk M bm ms.length N vNow (itA its i)) ∧ ∀ i, i < its.length → kI ms sof snf swf i (itA its i)
theorem MT3_0 (M bm : Nat) (ms : List MB) (N : Nat → Nat) (sof : Nat → Option Nat) (snf swf vIM vIW vNow : Nat → Int32) : MT3 M bm ms N 0 0 sof snf swf 0 vIM vIW vNow := ⟨[], by decide, rfl, rfl, rfl, fun i h => absurd h (Nat.not_lt_zero i), fun i h => absurd h (Nat.not_lt_zero i), fun i h => absurd h (Nat.not_lt_zero i)⟩
theorem kI_up {ms : List MB} {sof : Nat → Option Nat} {snf swf : Nat → Int32} {i k : Nat} {it : It} {a : Option Nat} {b c : Int32} (h : kI ms sof snf swf i it) (hik : i ≠ k) : kI ms (va_up sof k a) (upd snf k b) (upd swf k c) i it := by
  unfold kI at h ⊢
  rw [va_up_ne _ _ hik, pk_un hik, pk_un hik]
  exact h
theorem MT3_add {M bm : Nat} {ms : List MB} {N : Nat → Nat} {its : List It} {it : It} {sof : Nat → Option Nat} {snf swf vIM vIW vNow : Nat → Int32} {a : Option Nat} {b c p1 p2 : Int32} (hl : its.length < 600) (hi : itIs vIM vIW its) (hok : ∀ i, i < its.length → itOk M bm ms.length N vNow (itA its i)) (hkI : ∀ i, i < its.length → kI ms sof snf swf i (itA its i)) (e1 : p1 = itM it) (e2 : p2 = itW it) (ho : itOk M bm ms.length N vNow it) (hk : kI ms (va_up sof its.length a) (upd snf its.length b) (upd swf its.length c) its.length it) :
    MT3 M bm ms N (nI (its.length + 1)) (nI (its.length + 1)) (va_up sof its.length a) (upd snf its.length b) (upd swf its.length c) 0 (upd vIM its.length p1) (upd vIW its.length p2) vNow := by
  obtain ⟨its2, h1, h2, h3, h4, h5⟩ := MI3_add hl hi hok rfl rfl e1 e2 ho
  refine ⟨its ++ [it], by rw [List.length_append, List.length_singleton]; omega, by rw [List.length_append]; rfl, by rw [List.length_append]; rfl, rfl, ?_, ?_, ?_⟩
  · intro i hi9
    rw [List.length_append, List.length_singleton] at hi9
    by_cases e : i = its.length
    · subst e; rw [itA_e, pk_us, pk_us]; exact ⟨e1, e2⟩
    · rw [itA_l (by omega), pk_un e, pk_un e]; exact hi i (by omega)
  · intro i hi9
    rw [List.length_append, List.length_singleton] at hi9
    by_cases e : i = its.length
    · subst e; rw [itA_e]; exact ho
    · rw [itA_l (by omega)]; exact hok i (by omega)
  · intro i hi9
    rw [List.length_append, List.length_singleton] at hi9
    by_cases e : i = its.length
    · subst e; rw [itA_e]; exact hk
    · rw [itA_l (by omega)]; exact kI_up (hkI i (by omega)) e
/-- of all models -/
theorem mt_set {P P2 : Nat → MB → Prop} {a b : List MB} {x y : MB} (h : ∀ (i : Nat) (u : MB), (a ++ x :: b)[i]? = some u → P i u) (hk : ∀ i u, i ≠ a.length → P i u → P2 i u) (hy : P2 a.length y) : ∀ (i : Nat) (u : MB), (a ++ y :: b)[i]? = some u → P2 i u := by
  intro i u hu
  by_cases e : i = a.length
  · subst e
    rw [mb_get] at hu
    cases hu
    exact hy
  · refine hk i u e (h i u ?_)
    rcases Nat.lt_or_ge i a.length with q | q
    · rw [List.getElem?_append_left q] at hu ⊢; exact hu
    · rw [List.getElem?_append_right q] at hu ⊢
      obtain ⟨d, hd⟩ : ∃ d, i - a.length = d + 1 := ⟨i - a.length - 1, by omega⟩
      rw [hd, List.getElem?_cons_succ] at hu ⊢
      exact hu
theorem mt_push {P P2 : Nat → MB → Prop} {ms : List MB} {y : MB} (h : ∀ (i : Nat) (u : MB), ms[i]? = some u → P i u) (hk : ∀ i u, i < ms.length → P i u → P2 i u) (hy : P2 ms.length y) : ∀ (i : Nat) (u : MB), (ms ++ [y])[i]? = some u → P2 i u := by
  intro i u hu
  rcases Nat.lt_or_ge i ms.length with q | q
  · rw [List.getElem?_append_left q] at hu
    exact hk i u q (h i u hu)
  · have hl := (List.getElem?_eq_some_iff.mp hu).1
    rw [List.length_append, List.length_singleton] at hl
    have e : i = ms.length := by omega
    subst e
    rw [List.getElem?_append_right (Nat.le_refl _), Nat.sub_self] at hu
    cases hu
    exact hy
theorem mA_get {ms ms2 : List MB} {k : Nat} {x : MB} (e : ms2.map mbA = ms.map mbA) (h : ms[k]? = some x) : ∃ y, ms2[k]? = some y ∧ mbA y = mbA x := by
  have h1 : (ms.map mbA)[k]? = some (mbA x) := by rw [List.getElem?_map, h]; rfl
  rw [← e, List.getElem?_map] at h1
  cases hy : ms2[k]? with
  | none => rw [hy] at h1; cases h1
  | some y => rw [hy] at h1; exact ⟨y, rfl, Option.some.inj h1⟩
theorem kI_ms {ms ms2 : List MB} {sof : Nat → Option Nat} {snf swf : Nat → Int32} {i : Nat} {it : It} (e : ms2.map mbA = ms.map mbA) (h : kI ms sof snf swf i it) : kI ms2 sof snf swf i it := by
  rcases h with q | ⟨q1, q2, x, q3, q4⟩
  · exact Or.inl q
  · obtain ⟨y, h1, h2⟩ := mA_get e q3
    refine Or.inr ⟨q1, q2, y, h1, ?_⟩
    rw [q4]
    exact congrArg some (congrArg Prod.snd h2).symm
theorem MT3_ms {M bm : Nat} {ms ms2 : List MB} {N : Nat → Nat} {fit xkept fGoes : Int32} {sof : Nat → Option Nat} {snf swf vIM vIW vNow : Nat → Int32} (e : ms2.map mbA = ms.map mbA) (h : MT3 M bm ms N fit xkept sof snf swf fGoes vIM vIW vNow) : MT3 M bm ms2 N fit xkept sof snf swf fGoes vIM vIW vNow := by
  obtain ⟨its, h1, h2, h3, h4, h5, h6, h7⟩ := h
  have hl : ms2.length = ms.length := by have := congrArg List.length e; rwa [List.length_map, List.length_map] at this
  exact ⟨its, h1, h2, h3, h4, h5, fun i hi => by rw [hl]; exact h6 i hi, fun i hi => kI_ms e (h7 i hi)⟩
theorem MT3_any {M bm : Nat} {ms ms2 : List MB} {N N2 : Nat → Nat} {fit xkept fGoes : Int32} {sof : Nat → Option Nat} {snf swf vIM vIW vNow vNow2 : Nat → Int32} (h : MT3 M bm ms N fit xkept sof snf swf fGoes vIM vIW vNow) (hi : ¬ 0 < fit) : MT3 M bm ms2 N2 fit xkept sof snf swf fGoes vIM vIW vNow2 := by
  obtain ⟨its, h1, h2, h3, h4, h5, h6, h7⟩ := h
  have e : its.length = 0 := by
    rcases Nat.eq_zero_or_pos its.length with z | z
    · exact z
    · exact absurd (show 0 < fit by rw [h2]; exact nI_pos0 z (by omega)) hi
  exact ⟨its, h1, h2, h3, h4, h5, fun i hlt => absurd hlt (by omega), fun i hlt => absurd hlt (by omega)⟩
theorem MT3_new {M bm ns : Nat} {ms : List MB} {y : MB} {N : Nat → Nat} {fit xkept fGoes : Int32} {sof : Nat → Option Nat} {snf swf vIM vIW vNow f2 : Nat → Int32} (h : MT3 M bm ms N fit xkept sof snf swf fGoes vIM vIW vNow) (hN : ∀ i, i < ms.length → N i ≤ 64) (ho : sgO f2 vNow (64 * ms.length) 64) : MT3 M bm (ms ++ [y]) (upN N ms.length ns) fit xkept sof snf swf fGoes vIM vIW f2 := by
  obtain ⟨its, h1, h2, h3, h4, h5, h6, h7⟩ := h
  refine ⟨its, h1, h2, h3, h4, h5, fun i hlt => ?_, fun i hlt => ?_⟩
  · obtain ⟨its2, -, -, -, -, -⟩ := MI3_new (ns := ns) (f2 := f2) (⟨its, h1, h2, h4, h5, h6⟩ : MI3 M bm ms.length N fit fGoes vIM vIW vNow) hN ho
    rw [List.length_append, List.length_singleton]
    rcases h6 i hlt with q | ⟨q1, q2, q3, q4, q5, q6⟩
    · exact Or.inl q
    · generalize hit : itA its i = it at q1 q2 q3 q4 q5 q6 ⊢
      have hn := hN _ q2
      have hne : it.2.1 ≠ ms.length := by omega
      have hF : ∀ k, k < N it.2.1 → Fvw f2 it.2.1 k = Fvw vNow it.2.1 k := fun k hk => by
        unfold Fvw
        rw [ho _ (by omega)]
      refine Or.inr ⟨q1, by omega, by rw [upN_n _ hne]; exact q3, ?_, ?_, ?_⟩
      · rw [hF _ q3]; exact q4
      · rw [upN_n _ hne, ns_cg hF]; exact q5
      · rw [upN_n _ hne]
        intro k hk
        rw [ho _ (by omega), q6 k hk, hF k hk]
  · rcases h7 i hlt with q | ⟨q1, q2, x, q3, q4⟩
    · exact Or.inl q
    · refine Or.inr ⟨q1, q2, x, ?_, q4⟩
      rw [List.getElem?_append_left (List.getElem?_eq_some_iff.mp q3).1]
      exact q3
/-- what the class's items are, for its end -/
theorem kp_of {cI : ClassId} {ob : OB → Nat → (Nat → Nat) → Prop} {M bm : Nat} {ms : List MB} {N : Nat → Nat} {vNow : Nat → Int32} {sof : Nat → Option Nat} {snf swf : Nat → Int32} {its : List It} (hok : ∀ i, i < its.length → itOk M bm ms.length N vNow (itA its i)) (hkI : ∀ i, i < its.length → kI ms sof snf swf i (itA its i)) (hob : ∀ (j : Nat) (x : MB), ms[j]? = some x → ns (Fvw vNow j) (N j) = M → sgI vNow (64 * j) (N j) (Fvw vNow j) → ob (mS x) (N j) (Fvw vNow j)) : kpt cI ob M bm N (Fvw vNow) sof snf swf (mbsC cI ms) its := by
  intro i hi
  rcases hkI i hi with ⟨q1, q2, q3, q4⟩ | ⟨q1, q2, x, q3, q4⟩
  · refine Or.inl ⟨q1, q2, q3, q4, ?_⟩
    rcases hok i hi with z | z
    · exact z.2
    · exact absurd q1 z.1
  · right
    rcases hok i hi with z | z
    · exact absurd z.1 q1
    · obtain ⟨z1, z2, z3, z4, z5, z6⟩ := z
      obtain ⟨p, q, e2⟩ := List.append_of_mem (List.mem_of_getElem? q3)
      refine ⟨q1, q2, z3, z4, z5, mS x, mbH cI x ++ (obC cI (mH x) ++ (mbsC cI p ++ mbsC cI q)), q4, hob _ x q3 z5 z6, ?_⟩
      rw [e2, mb_eq]
      exact pm_5 (mbsC cI p) (mbH cI x) (obC cI (mS x)) (obC cI (mH x)) (mbsC cI q)
theorem ct_set {kf vC : Nat → Int32} {n j t k : Nat} {x : Int32} (h : ∀ k, k < n → kf k = vC (64 * j + k)) (hk : k < n) : upd kf t x k = upd vC (64 * j + t) x (64 * j + k) := by
  by_cases e : k = t
  · subst e; rw [pk_us, pk_us]
  · rw [pk_un e, pk_un (by omega)]; exact h k hk
theorem ct_out {vC : Nat → Int32} {n j t : Nat} {x : Int32} (ht : t < n) (hn : n ≤ 64) : sgO (upd vC (64 * j + t) x) vC (64 * j) 64 := fun i hi => pk_un (by omega)
theorem sg_csN (z : Int32) {n : Nat} (hn : n < 2 ^ 30) : (z < 0 ∨ nI n ≤ z) ∨ ∃ t, t < n ∧ z = nI t := by
  by_cases h1 : z < 0
  · exact Or.inl (Or.inl h1)
  · by_cases h2 : nI n ≤ z
    · exact Or.inl (Or.inr h2)
    · right
      obtain ⟨t, ht, rfl⟩ := nI_of h1
      exact ⟨t, nI_lt' ht h2, rfl⟩
theorem tk_cs (z : Int32) {n : Nat} (hn : n ≤ 6000) : (z < 0 ∨ nI n < z - 2) ∨ ∃ ll, ¬ z < 0 ∧ z - 2 ≤ nI n ∧ ll ≤ n ∧ (z = 1 → ll = n) ∧ (¬ z = 1 → (if (0 : Int32) < z - 2 then z - 2 else 0) = nI ll) := by
  by_cases h1 : z < 0
  · exact Or.inl (Or.inl h1)
  · by_cases h2 : nI n < z - 2
    · exact Or.inl (Or.inr h2)
    · right
      have h3 := Int32.not_lt.mp h2
      by_cases h4 : z = 1
      · exact ⟨n, h1, h3, Nat.le_refl _, fun _ => rfl, fun q => absurd h4 q⟩
      · by_cases h5 : (0 : Int32) < z - 2
        · obtain ⟨t, ht, e⟩ := nI_of (x := z - 2) (fun q => absurd h5 (Int32.not_lt.mpr (Int32.le_of_lt q)))
          refine ⟨t, h1, h3, ?_, fun q => absurd q h4, fun _ => by rw [if_pos h5, e]⟩
          rw [e] at h3
          exact (nI_cmp ht (by omega)).mp h3
        · exact ⟨0, h1, h3, Nat.zero_le _, fun q => absurd q h4, fun _ => by rw [if_neg h5]; rfl⟩
section SPL
variable {is : List Nat} {vIn v2 : Nat → Int32} {p1 p2 r : Int32}
theorem sp_A (hno : ¬ isN is.length p1) (h : (¬ isN is.length p1 ∧ r = -1 ∧ v2 = vIn) ∨ (isN is.length p1 ∧ ¬ (0 ≤ p2 ∧ p2 ≤ 255) ∧ r = -2 ∧ v2 = vIn) ∨ (isN is.length p1 ∧ ∃ t, t < 256 ∧ p2 = nI t ∧ r = nI (byA is p1.toNatClampNeg ^^^ t) ∧ gIs v2 (is.set p1.toNatClampNeg (byA is p1.toNatClampNeg ^^^ t)))) : r = -1 ∧ v2 = vIn := by
  rcases h with q | q | q
  · exact q.2
  · exact absurd q.1 hno
  · exact absurd q.1 hno
theorem sp_V {i7 : Nat} (hl : is.length < 2 ^ 30) (hi : i7 < is.length) (hv : p2 < 0 ∨ nI 255 < p2) (h : (¬ isN is.length (nI i7) ∧ r = -1 ∧ v2 = vIn) ∨ (isN is.length (nI i7) ∧ ¬ (0 ≤ p2 ∧ p2 ≤ 255) ∧ r = -2 ∧ v2 = vIn) ∨ (isN is.length (nI i7) ∧ ∃ t, t < 256 ∧ p2 = nI t ∧ r = nI (byA is (nI i7).toNatClampNeg ^^^ t) ∧ gIs v2 (is.set (nI i7).toNatClampNeg (byA is (nI i7).toNatClampNeg ^^^ t)))) : r = -2 ∧ v2 = vIn := by
  have hy : isN is.length (nI i7) := (isN_iff hl).mpr ⟨i7, hi, rfl⟩
  rcases h with q | q | ⟨-, t, ht, e, -⟩
  · exact absurd hy q.1
  · exact q.2.2
  · exfalso
    rcases hv with z | z
    · rw [e] at z; exact absurd z (nI_pos (by omega))
    · rw [e] at z; exact absurd (nI_le (b := 255) (by omega) (by decide)) (Int32.not_le.mpr z)
theorem sp_L {i7 t7 : Nat} (hl : is.length < 2 ^ 30) (hi : i7 < is.length) (ht7 : t7 ≤ 255) (h : (¬ isN is.length (nI i7) ∧ r = -1 ∧ v2 = vIn) ∨ (isN is.length (nI i7) ∧ ¬ (0 ≤ nI t7 ∧ nI t7 ≤ 255) ∧ r = -2 ∧ v2 = vIn) ∨ (isN is.length (nI i7) ∧ ∃ t, t < 256 ∧ nI t7 = nI t ∧ r = nI (byA is (nI i7).toNatClampNeg ^^^ t) ∧ gIs v2 (is.set (nI i7).toNatClampNeg (byA is (nI i7).toNatClampNeg ^^^ t)))) : r = nI (is.getD i7 0 ^^^ t7) ∧ gIs v2 (is.set i7 (is.getD i7 0 ^^^ t7)) := by
  have hy : isN is.length (nI i7) := (isN_iff hl).mpr ⟨i7, hi, rfl⟩
  rcases h with q | q | ⟨-, t, ht, e, h1, h2⟩
  · exact absurd hy q.1
  · exact absurd ⟨nI_pos' (by omega), nI_le (b := 255) ht7 (by decide)⟩ q.2.1
  · have e2 : t7 = t := nI_inj (by omega) (by omega) e
    subst e2
    rw [nI_clamp (by omega)] at h1 h2
    exact ⟨h1, h2⟩
end SPL
theorem ns_cg2 {F G : Nat → Nat} {n : Nat} (h : ∀ k, k < n → F k = G k) : ∀ j, j ≤ n → ns F j = ns G j := fun j hj => ns_cg (fun k hk => h k (by omega))
theorem fs_cg {F G : Nat → Nat} {n u : Nat} (h : ∀ k, k < n → F k = G k) : ∀ k s, s + k ≤ n → fs F u k s = fs G u k s
  | 0, s, _ => rfl
  | k + 1, s, hs => by
    rw [fs, fs, ns_cg2 h (s + 1) (by omega), fs_cg h k (s + 1) (by omega)]
theorem plc_cg {F G : Nat → Nat} {n : Nat} (h : ∀ k, k < n → F k = G k) (p : Nat) : plc F n p = plc G n p := fs_cg h n 0 (by omega)
theorem Fv_cg {f : Nat → Int32} {j n : Nat} {F : Nat → Nat} (h1 : sgI f (64 * j) n F) (hb : ns F n < 2 ^ 31) : ∀ k, k < n → F k = Fvw f j k := fun k hk => (Fv_eq h1 hb k hk).symm
theorem e4_ok {km : Nat} {N : Nat → Nat} {vNow : Nat → Int32} {its : List It} (hok : ∀ i, i < its.length → itOk 512 9 km N vNow (itA its i)) : ∀ (k : Nat) (r : Nat × List Nat), k ≤ its.length → 512 ≤ r.1 → r.1 < 1024 → bt2 r.2 → (e4N (Fvw vNow) N its k r).2.length ≤ r.2.length + 9 * k ∧ bt2 (e4N (Fvw vNow) N its k r).2 := by
  intro k
  induction k with
  | zero => intro r _ _ _ hb; exact ⟨by show r.2.length ≤ _; omega, hb⟩
  | succ k ih =>
    intro r hk h1 h2 hb
    obtain ⟨V, ws⟩ := r
    rw [e4N]
    have hs : 512 ≤ (e4I (Fvw vNow) N (itA its k) (V, ws)).1 ∧ (e4I (Fvw vNow) N (itA its k) (V, ws)).1 < 1024 ∧ (e4I (Fvw vNow) N (itA its k) (V, ws)).2.length ≤ ws.length + 9 ∧ bt2 (e4I (Fvw vNow) N (itA its k) (V, ws)).2 := by
      unfold e4I
      rcases hok k (by omega) with ⟨q1, q2, q3, q4⟩ | ⟨q1, q2, q3, q4, q5, q6⟩
      · rw [if_pos q1]
        exact ⟨h1, h2, by show (ws ++ bvL _ _).length ≤ _; rw [List.length_append, bvL_len]; omega, bt2_app hb (bt2_bv _ _)⟩
      · rw [if_neg q1]
        exact t4I_ok q5 q3 q4 h1 h2 hb
    have z := ih _ (by omega) hs.1 hs.2.1 hs.2.2.2
    refine ⟨?_, z.2⟩
    have a := z.1
    have b := hs.2.2.1
    show _ ≤ ws.length + 9 * (k + 1)
    omega
theorem e4W_len {km : Nat} {N : Nat → Nat} {vNow : Nat → Int32} {its : List It} (hok : ∀ i, i < its.length → itOk 512 9 km N vNow (itA its i)) : (e4W (Fvw vNow) N its).length ≤ 9 * its.length + 9 := by
  have z := (e4_ok hok its.length (512, []) (Nat.le_refl _) (by decide) (by decide) (fun x h => absurd h List.not_mem_nil)).1
  unfold e4W
  rw [List.length_append, bvL_len]
  have : ((512, []) : Nat × List Nat).2.length = 0 := rfl
  omega
theorem e4W_bt {km : Nat} {N : Nat → Nat} {vNow : Nat → Int32} {its : List It} (hok : ∀ i, i < its.length → itOk 512 9 km N vNow (itA its i)) : bt2 (e4W (Fvw vNow) N its) := bt2_app (e4_ok hok its.length (512, []) (Nat.le_refl _) (by decide) (by decide) (fun x h => absurd h List.not_mem_nil)).2 (bt2_bv _ _)
theorem pkB_oct {ws : List Nat} (h : bt2 ws) : ∀ k, oct (pkB ws k)
  | 0 => oct_nil
  | k + 1 => oct_app (pkB_oct h k) (oct_one (Nat.lt_of_lt_of_le (byW_lt h _ 8) (by decide)))
theorem les_cg {n : Nat} : ∀ (r : Nat) {F G : Nat → Nat}, (∀ k, k < n → F k = G k) → ∀ k, k < n → lesN n r F k = lesN n r G k
  | 0, F, G, h, k, hk => h k hk
  | r + 1, F, G, h, k, hk => by
    rw [lesN, lesN, ns_cg h]
    split
    · exact h k hk
    · exact les_cg r (fun q hq => by unfold hv; rw [h q hq]) k hk
theorem gr_cg {F G : Nat → Nat} {n : Nat} (h : ∀ k, k < n → F k = G k) : ∀ j, j ≤ n → gr F j = gr G j
  | 0, _ => rfl
  | j + 1, hj => by
    have e := gr_cg h j (by omega)
    have hl : gr G j < n := by
      rcases Nat.eq_zero_or_pos j with z | z
      · subst z; show 0 < n; omega
      · have := gr_lt G z; omega
    rw [gr, gr, e, h _ hl, h j (by omega)]
theorem up_cg {F G : Nat → Nat} {n a b v w : Nat} (h : ∀ k, k < n → F k = G k) (ha : a = b) (hv : v = w) : ∀ k, k < n → upN F a v k = upN G b w k := by
  subst ha; subst hv
  intro k hk
  by_cases e : k = a
  · subst e; rw [upN_s, upN_s]
  · rw [upN_n _ e, upN_n _ e]; exact h k hk
theorem dec_cg {n : Nat} (hn : 0 < n) : ∀ (e : Nat) {F G : Nat → Nat}, (∀ k, k < n → F k = G k) → ∀ k, k < n → dec n e F k = dec n e G k
  | 0, F, G, h, k, hk => h k hk
  | e + 1, F, G, h, k, hk => by
    have g := gr_cg h n (Nat.le_refl _)
    rw [dec, dec]
    exact dec_cg hn e (up_cg h g (by rw [g, h _ (gr_lt G hn)])) k hk
theorem sc_cg {n M : Nat} (hn : 0 < n) {F G : Nat → Nat} (h : ∀ k, k < n → F k = G k) : ∀ k, k < n → sc n M F k = sc n M G k := by
  intro k hk
  have hs : ns F n = ns G n := ns_cg h
  have hG : ∀ k, k < n → scG n M F k = scG n M G k := fun k hk => by unfold scG; rw [h k hk, hs]
  have hS : ns (scG n M F) n = ns (scG n M G) n := ns_cg hG
  unfold sc
  rw [hs]
  split
  · exact h k hk
  · rw [hS]
    have hd := dec_cg hn (ns (scG n M G) n - M) hG
    generalize dec n (ns (scG n M G) n - M) (scG n M F) = A at hd ⊢
    generalize dec n (ns (scG n M G) n - M) (scG n M G) = B at hd ⊢
    have g := gr_cg hd n (Nat.le_refl _)
    have s2 : ns A n = ns B n := ns_cg hd
    unfold scE
    exact up_cg hd g (by rw [g, hd _ (gr_lt B hn), s2]) k hk
theorem pf_cg {fm n : Nat} {F G : Nat → Nat} (hn : 0 < n) (h : ∀ k, k < n → F k = G k) : ∀ k, k < pfN fm n → pf fm n F k = pf fm n G k := by
  intro k hk
  unfold pf
  unfold pfN at hk
  split
  · rfl
  · rename_i h2
    rw [if_neg h2] at hk
    split
    · exact les_cg 32 h k hk
    · exact sc_cg hn h k hk
theorem mt_setJ {P P2 : Nat → MB → Prop} {a b : List MB} {x y : MB} {j : Nat} (hla : a.length = j) (h : ∀ (i : Nat) (u : MB), (a ++ x :: b)[i]? = some u → P i u) (hk : ∀ i u, i ≠ j → P i u → P2 i u) (hy : P2 j y) : ∀ (i : Nat) (u : MB), (a ++ y :: b)[i]? = some u → P2 i u := by
  subst hla
  exact mt_set h hk hy
/-! THE TIE of the readings -/
def RT0 (cn : Nat) (a : Int32) (c l r : Int64) (a2 : Int32) (c2 r2 : Int64) : Prop := ∃ RR CD q : Nat, c = lN CD ∧ l = lN 0 ∧ r = lN RR ∧ a = nI q ∧ c2 = lN CD ∧ r2 = lN RR ∧ a2 = nI q ∧ RR < 4294967296 ∧ CD < 4294967296 ∧ q ≤ 40 * cn + 4
def RT1 (cn : Nat) (a : Int32) (c l r : Int64) (a2 : Int32) (c2 l2 r2 : Int64) : Prop := ∃ RR RL CD q : Nat, c = lN CD ∧ l = lN RL ∧ r = lN RR ∧ a = nI q ∧ c2 = lN CD ∧ l2 = lN RL ∧ r2 = lN RR ∧ a2 = nI q ∧ pOk RR RL ∧ CD < 4294967296 ∧ q ≤ 40 * cn + 4
def RT2 (cn : Nat) (a : Int32) (c r : Int64) (a2 : Int32) (c2 r2 : Int64) : Prop := ∃ RR CD q : Nat, c = lN CD ∧ r = lN RR ∧ a = nI q ∧ c2 = lN CD ∧ r2 = lN RR ∧ a2 = nI q ∧ rInv (RR, CD, q) ∧ q ≤ 40 * cn + 4
def RT3 (cn : Nat) (a : Int32) (x : Int64) (a2 : Int32) (x2 : Int64) : Prop := ∃ X q : Nat, x = lN X ∧ a = nI q ∧ x2 = lN X ∧ a2 = nI q ∧ 8388608 ≤ X ∧ X < 4294967296 ∧ q ≤ 40 * cn + 4
def RT4 (cn : Nat) (a : Int32) (x : Int64) (a2 b2 : Int32) (x2 : Int64) : Prop := ∃ X t : Nat, x = lN X ∧ a = nI t ∧ x2 = lN X ∧ b2 = nI t ∧ a2 = nI ((t + 7) / 8) ∧ 512 ≤ X ∧ X < 1024 ∧ t ≤ 40 * cn + 9
theorem RT0_up {cn : Nat} {a a2 : Int32} {c l r c2 r2 : Int64} (h : RT0 cn a c l r a2 c2 r2) : RT0 (cn + 1) a c l r a2 c2 r2 := by
  obtain ⟨x1, x2, x3, e1, e2, e3, e4, e5, e6, e7, h1, h2, h3⟩ := h
  exact ⟨x1, x2, x3, e1, e2, e3, e4, e5, e6, e7, h1, h2, by omega⟩
theorem RT1_up {cn : Nat} {a a2 : Int32} {c l r c2 l2 r2 : Int64} (h : RT1 cn a c l r a2 c2 l2 r2) : RT1 (cn + 1) a c l r a2 c2 l2 r2 := by
  obtain ⟨x1, x2, x3, x4, e1, e2, e3, e4, e5, e6, e7, e8, h1, h2, h3⟩ := h
  exact ⟨x1, x2, x3, x4, e1, e2, e3, e4, e5, e6, e7, e8, h1, h2, by omega⟩
theorem RT2_up {cn : Nat} {a a2 : Int32} {c r c2 r2 : Int64} (h : RT2 cn a c r a2 c2 r2) : RT2 (cn + 1) a c r a2 c2 r2 := by
  obtain ⟨x1, x2, x3, e1, e2, e3, e4, e5, e6, h1, h2⟩ := h
  exact ⟨x1, x2, x3, e1, e2, e3, e4, e5, e6, h1, by omega⟩
theorem RT3_up {cn : Nat} {a a2 : Int32} {x x2 : Int64} (h : RT3 cn a x a2 x2) : RT3 (cn + 1) a x a2 x2 := by
  obtain ⟨x1, x3, e1, e2, e3, e4, h1, h2, h3⟩ := h
  exact ⟨x1, x3, e1, e2, e3, e4, h1, h2, by omega⟩
theorem RT4_up {cn : Nat} {a a2 b2 : Int32} {x x2 : Int64} (h : RT4 cn a x a2 b2 x2) : RT4 (cn + 1) a x a2 b2 x2 := by
  obtain ⟨x1, x3, e1, e2, e3, e4, e5, h1, h2, h3⟩ := h
  exact ⟨x1, x3, e1, e2, e3, e4, e5, h1, h2, by omega⟩
theorem pfA_TB {fm km : Nat} {N : Nat → Nat} {vMany vC f : Nat → Int32} (hfm : fm ≤ 4) (hMD : MD km N vMany vC) (h : pfA fm km N vC f) : TB fm km N f := fun mm hm => ⟨_, tab_pf hfm (MD_N hMD mm hm) (by have := (hMD.2 mm hm).2.1; omega) (MD_C hMD hm).2 (h mm hm)⟩
theorem r3_nl {n : Nat} (h : (if n < 8388608 then (1 : Int32) else 0) = 0) : 8388608 ≤ n := by
  rcases Nat.lt_or_ge n 8388608 with z | z
  · rw [if_pos z] at h; exact absurd h (by decide)
  · exact z
theorem gr0_lt {is : List Nat} {n s : Nat} {F : Nat → Nat} {r : RS} (h : (gr0 is n F r).1 = some s) : s < n := by
  unfold gr0 at h
  cases hw : wnt (ns F n) r.1 r.2.1 with
  | none => simp only [hw] at h; cases h
  | some w =>
    simp only [hw] at h
    cases h
    exact (sgA_spec (wnt_lt hw)).1
theorem gr1_lt {is : List Nat} {n s : Nat} {F : Nat → Nat} {r : RP} (h : (gr1 is n F r).1 = some s) : s < n := by
  unfold gr1 at h
  cases hw : wnt (ns F n) r.1 ((r.2.2.1 + 4294967296 - r.2.1) % 4294967296) with
  | none => simp only [hw] at h; cases h
  | some w =>
    simp only [hw] at h
    cases h
    exact (sgA_spec (wnt_lt hw)).1
theorem gnS_lt {is : List Nat} {sh n s : Nat} {D : Nat → Nat} {r : RS} (h : (gnS is sh n r D).1 = some s) : s < n := by
  unfold gnS at h
  split at h
  · simp only at h
    split at h
    · cases h; assumption
    · cases h
  · cases h
theorem gs3_lt {is : List Nat} {n X q s : Nat} {F : Nat → Nat} (hs : ns F n = 0 ∨ ns F n = 4096) (h : (gs3 is n F X q).1 = some s) : s < n := by
  unfold gs3 at h
  split at h
  · cases h
  · cases h
    exact (sgA_spec (by omega)).1
theorem gt4_512 {is : List Nat} {n X t s : Nat} {F : Nat → Nat} (hs : ns F n = 0 ∨ ns F n = 512) (h : (gt4 is n F X t).1 = some s) : ns F n = 512 := by
  unfold gt4 at h
  split at h
  · cases h
  · omega
theorem gt4_lt {is : List Nat} {n X t s : Nat} {F : Nat → Nat} (hs : ns F n = 0 ∨ ns F n = 512) (h : (gt4 is n F X t).1 = some s) : s < n := by
  have h5 := gt4_512 hs h
  unfold gt4 at h
  split at h
  · cases h
  · cases h
    exact plc_lt h5
theorem gt4_0 {is : List Nat} {n X t : Nat} {F : Nat → Nat} (h : (gt4 is n F X t).1 = none) : ns F n = 0 := by
  unfold gt4 at h
  split at h
  · assumption
  · cases h
theorem gv0_lt {is : List Nat} {b s : Nat} {r : RS} (hb : b ≤ 12) (h : (gv0 is b r).1 = some s) : s < 4096 := by
  have hp : 2 ^ b ≤ 2 ^ 12 := Nat.pow_le_pow_right (by decide) hb
  unfold gv0 at h
  cases hw : wnt (2 ^ b) r.1 r.2.1 with
  | none => simp only [hw] at h; cases h
  | some w =>
    simp only [hw] at h
    cases h
    have := wnt_lt hw
    omega
theorem gv1_lt {is : List Nat} {b s : Nat} {r : RP} (hb : b ≤ 12) (h : (gv1 is b r).1 = some s) : s < 4096 := by
  have hp : 2 ^ b ≤ 2 ^ 12 := Nat.pow_le_pow_right (by decide) hb
  unfold gv1 at h
  cases hw : wnt (2 ^ b) r.1 ((r.2.2.1 + 4294967296 - r.2.1) % 4294967296) with
  | none => simp only [hw] at h; cases h
  | some w =>
    simp only [hw] at h
    cases h
    have := wnt_lt hw
    omega
theorem pbN_lt {is : List Nat} : ∀ (k v : Nat) (r : RS) (s : Nat), (pbN is k v r).1 = some s → s < (v + 1) * 2 ^ k
  | 0, v, r, s, h => by
    have e : v = s := Option.some.inj h
    rw [e, Nat.pow_zero]
    omega
  | k + 1, v, r, s, h => by
    rw [pbN] at h
    split at h
    · have q := pbN_lt k _ _ s h
      have hb := rbt_lt (r.1 / 2) r.2.1
      have hm : (2 * v + rbt (r.1 / 2) r.2.1 + 1) * 2 ^ k ≤ (2 * (v + 1)) * 2 ^ k := Nat.mul_le_mul_right _ (by omega)
      rw [Nat.pow_succ]
      have e : (v + 1) * (2 ^ k * 2) = (2 * (v + 1)) * 2 ^ k := by rw [Nat.mul_comm (2 ^ k) 2, ← Nat.mul_assoc, Nat.mul_comm (v + 1) 2]
      omega
    · cases h
theorem pbS_lt {is : List Nat} {b s : Nat} {r : RS} (hb : b ≤ 12) (h : (pbS is b r).1 = some s) : s < 4096 := by
  have hp : 2 ^ b ≤ 2 ^ 12 := Nat.pow_le_pow_right (by decide) hb
  unfold pbS at h
  split at h
  · have q := pbN_lt b 0 r s h
    omega
  · cases h
theorem gv3_c (is : List Nat) (b X q : Nat) : rfS is (X / 4096 * (4096 / 2 ^ b) + X % 4096 % (4096 / 2 ^ b), q) = gv3 is b X q := by
  unfold gv3
  have e : X % 4096 % (4096 / 2 ^ b) = X % 4096 - 4096 / 2 ^ b * (X % 4096 / (4096 / 2 ^ b)) := by
    have := Nat.div_add_mod (X % 4096) (4096 / 2 ^ b)
    omega
  have hle : 4096 / 2 ^ b * (X % 4096 / (4096 / 2 ^ b)) ≤ X % 4096 := Nat.mul_div_le _ _
  rw [e, Nat.add_sub_assoc hle]
end
section
def mT_Carries (n : Nat) (vC vN vT : Nat → Int32) (P : Prop) (j : Nat) (x : MB) : Prop := 2 ≤ n ∧ n ≤ 64 ∧ ∃ (mo ka : Nat) (kf : Nat → Int32) (oo : Nat) (oca opa : Nat) (ocf opf : Nat → Int32) (F : Nat → Nat) (po : Nat) (psm : Int32) (pca ppa : Nat) (pcf ppf : Nat → Int32), x = (mo, ka, n, kf, (oo, nI n, nI (ns F n), 0, oca, opa, n, ocf, 0, opf), (po, nI n, psm, 0, pca, ppa, n, pcf, 0, ppf)) ∧ (∀ k, k < n → kf k = vC (64 * j + k)) ∧ tabI 0 n vN j F ∧ tbI ocf n F ∧ (P → ∃ G : Nat → Nat, psm = nI (ns G n) ∧ tabI 0 n vT j G ∧ tbI pcf n G)
theorem mT_keep_Carries {n a j : Nat} {vC vC2 vN vN2 vT vT2 : Nat → Int32} {P P2 : Prop} {x : MB} (h : mT_Carries n vC vN vT P j x) (hC : sgO vC2 vC (64 * a) 64) (hN : sgO vN2 vN (64 * a) 64) (hT : sgO vT2 vT (64 * a) 64) (hP : P2 → P) (ha : a ≠ j) : mT_Carries n vC2 vN2 vT2 P2 j x := by
  obtain ⟨h1, h2, mo, ka, kf, oo, oca, opa, ocf, opf, F, po, psm, pca, ppa, pcf, ppf, e, q1, q2, q3, q9⟩ := h
  refine ⟨h1, h2, mo, ka, kf, oo, oca, opa, ocf, opf, F, po, psm, pca, ppa, pcf, ppf, e, fun k hk => by rw [q1 k hk, hC _ (by omega)], tab_keep hN ha h2 q2, q3, fun z => ?_⟩
  obtain ⟨G, g0, g1, g2⟩ := q9 (hP z)
  exact ⟨G, g0, tab_keep hT ha h2 g1, g2⟩
theorem mT_P_Carries {n j : Nat} {vC vN vT : Nat → Int32} {P P2 : Prop} {x : MB} (hP : P2 → P) (h : mT_Carries n vC vN vT P j x) : mT_Carries n vC vN vT P2 j x := by
  obtain ⟨h1, h2, mo, ka, kf, oo, oca, opa, ocf, opf, F, po, psm, pca, ppa, pcf, ppf, e, q1, q2, q3, q9⟩ := h
  exact ⟨h1, h2, mo, ka, kf, oo, oca, opa, ocf, opf, F, po, psm, pca, ppa, pcf, ppf, e, q1, q2, q3, fun z => q9 (hP z)⟩
theorem mT_TB_Carries {ms : List MB} {N : Nat → Nat} {vC vN vT : Nat → Int32} {P : Prop} (h : ∀ (j : Nat) (x : MB), ms[j]? = some x → mT_Carries (N j) vC vN vT P j x) : TB 0 ms.length N vN := fun j hj => by
  obtain ⟨h1, h2, mo, ka, kf, oo, oca, opa, ocf, opf, F, po, psm, pca, ppa, pcf, ppf, e, q1, q2, -⟩ := h j _ (List.getElem?_eq_getElem hj)
  exact ⟨F, q2⟩
theorem pk_Carries {ms : List MB} {N : Nat → Nat} {vC vN vT : Nat → Int32} {P : Prop} {mf : Nat → Option Nat} {j : Nat} (h : ∀ (j : Nat) (x : MB), ms[j]? = some x → mT_Carries (N j) vC vN vT P j x) (hmo : ∀ x ∈ ms, mbOk x) (hmf : mfOk mf ms) (hj : j < ms.length) (h8 : ms.length ≤ 8) : ∃ (a b : List MB) (mo ka : Nat) (kf : Nat → Int32) (oo : Nat) (oca opa : Nat) (ocf opf : Nat → Int32) (F : Nat → Nat) (po : Nat) (psm : Int32) (pca ppa : Nat) (pcf ppf : Nat → Int32), ms = a ++ (mo, ka, N j, kf, (oo, nI (N j), nI (ns F (N j)), 0, oca, opa, (N j), ocf, 0, opf), (po, nI (N j), psm, 0, pca, ppa, (N j), pcf, 0, ppf)) :: b ∧ a.length = j ∧ mf j = some mo ∧ obOk (po, nI (N j), psm, 0, pca, ppa, (N j), pcf, 0, ppf) ∧ 2 ≤ N j ∧ N j ≤ 64 ∧ (∀ k, k < (N j) → kf k = vC (64 * j + k)) ∧ tabI 0 (N j) vN j F ∧ tbI ocf (N j) F ∧ (P → ∃ G : Nat → Nat, psm = nI (ns G (N j)) ∧ tabI 0 (N j) vT j G ∧ tbI pcf (N j) G) := by
  obtain ⟨a, x, b, e, hl⟩ := mb_at hj
  obtain ⟨h1, h2, mo, ka, kf, oo, oca, opa, ocf, opf, F, po, psm, pca, ppa, pcf, ppf, ex, q⟩ := h j x (by rw [e, ← hl]; exact mb_get)
  have hx := (hmo x (by rw [e]; exact List.mem_append_right _ List.mem_cons_self)).2.2
  have hm : mf j = some x.1 := mf_someE hmf e hl (by omega)
  subst ex
  exact ⟨a, b, mo, ka, kf, oo, oca, opa, ocf, opf, F, po, psm, pca, ppa, pcf, ppf, e, hl, hm, hx, h1, h2, q⟩
def mT_NoCarries (n : Nat) (vC vN vT : Nat → Int32) (P : Prop) (j : Nat) (x : MB) : Prop := 2 ≤ n ∧ n ≤ 64 ∧ ∃ (mo ka : Nat) (kf : Nat → Int32) (oo : Nat) (oca opa : Nat) (ocf opf : Nat → Int32) (F : Nat → Nat) (po : Nat) (psm : Int32) (pca ppa : Nat) (pcf ppf : Nat → Int32), x = (mo, ka, n, kf, (oo, nI n, nI (ns F n), 0, oca, opa, n, ocf, 0, opf), (po, nI n, psm, 0, pca, ppa, n, pcf, 0, ppf)) ∧ (∀ k, k < n → kf k = vC (64 * j + k)) ∧ tabI 1 n vN j F ∧ tbI ocf n F ∧ (P → ∃ G : Nat → Nat, psm = nI (ns G n) ∧ tabI 1 n vT j G ∧ tbI pcf n G)
theorem mT_keep_NoCarries {n a j : Nat} {vC vC2 vN vN2 vT vT2 : Nat → Int32} {P P2 : Prop} {x : MB} (h : mT_NoCarries n vC vN vT P j x) (hC : sgO vC2 vC (64 * a) 64) (hN : sgO vN2 vN (64 * a) 64) (hT : sgO vT2 vT (64 * a) 64) (hP : P2 → P) (ha : a ≠ j) : mT_NoCarries n vC2 vN2 vT2 P2 j x := by
  obtain ⟨h1, h2, mo, ka, kf, oo, oca, opa, ocf, opf, F, po, psm, pca, ppa, pcf, ppf, e, q1, q2, q3, q9⟩ := h
  refine ⟨h1, h2, mo, ka, kf, oo, oca, opa, ocf, opf, F, po, psm, pca, ppa, pcf, ppf, e, fun k hk => by rw [q1 k hk, hC _ (by omega)], tab_keep hN ha h2 q2, q3, fun z => ?_⟩
  obtain ⟨G, g0, g1, g2⟩ := q9 (hP z)
  exact ⟨G, g0, tab_keep hT ha h2 g1, g2⟩
theorem mT_P_NoCarries {n j : Nat} {vC vN vT : Nat → Int32} {P P2 : Prop} {x : MB} (hP : P2 → P) (h : mT_NoCarries n vC vN vT P j x) : mT_NoCarries n vC vN vT P2 j x := by
  obtain ⟨h1, h2, mo, ka, kf, oo, oca, opa, ocf, opf, F, po, psm, pca, ppa, pcf, ppf, e, q1, q2, q3, q9⟩ := h
  exact ⟨h1, h2, mo, ka, kf, oo, oca, opa, ocf, opf, F, po, psm, pca, ppa, pcf, ppf, e, q1, q2, q3, fun z => q9 (hP z)⟩
theorem mT_TB_NoCarries {ms : List MB} {N : Nat → Nat} {vC vN vT : Nat → Int32} {P : Prop} (h : ∀ (j : Nat) (x : MB), ms[j]? = some x → mT_NoCarries (N j) vC vN vT P j x) : TB 1 ms.length N vN := fun j hj => by
  obtain ⟨h1, h2, mo, ka, kf, oo, oca, opa, ocf, opf, F, po, psm, pca, ppa, pcf, ppf, e, q1, q2, -⟩ := h j _ (List.getElem?_eq_getElem hj)
  exact ⟨F, q2⟩
theorem pk_NoCarries {ms : List MB} {N : Nat → Nat} {vC vN vT : Nat → Int32} {P : Prop} {mf : Nat → Option Nat} {j : Nat} (h : ∀ (j : Nat) (x : MB), ms[j]? = some x → mT_NoCarries (N j) vC vN vT P j x) (hmo : ∀ x ∈ ms, mbOk x) (hmf : mfOk mf ms) (hj : j < ms.length) (h8 : ms.length ≤ 8) : ∃ (a b : List MB) (mo ka : Nat) (kf : Nat → Int32) (oo : Nat) (oca opa : Nat) (ocf opf : Nat → Int32) (F : Nat → Nat) (po : Nat) (psm : Int32) (pca ppa : Nat) (pcf ppf : Nat → Int32), ms = a ++ (mo, ka, N j, kf, (oo, nI (N j), nI (ns F (N j)), 0, oca, opa, (N j), ocf, 0, opf), (po, nI (N j), psm, 0, pca, ppa, (N j), pcf, 0, ppf)) :: b ∧ a.length = j ∧ mf j = some mo ∧ obOk (po, nI (N j), psm, 0, pca, ppa, (N j), pcf, 0, ppf) ∧ 2 ≤ N j ∧ N j ≤ 64 ∧ (∀ k, k < (N j) → kf k = vC (64 * j + k)) ∧ tabI 1 (N j) vN j F ∧ tbI ocf (N j) F ∧ (P → ∃ G : Nat → Nat, psm = nI (ns G (N j)) ∧ tabI 1 (N j) vT j G ∧ tbI pcf (N j) G) := by
  obtain ⟨a, x, b, e, hl⟩ := mb_at hj
  obtain ⟨h1, h2, mo, ka, kf, oo, oca, opa, ocf, opf, F, po, psm, pca, ppa, pcf, ppf, ex, q⟩ := h j x (by rw [e, ← hl]; exact mb_get)
  have hx := (hmo x (by rw [e]; exact List.mem_append_right _ List.mem_cons_self)).2.2
  have hm : mf j = some x.1 := mf_someE hmf e hl (by omega)
  subst ex
  exact ⟨a, b, mo, ka, kf, oo, oca, opa, ocf, opf, F, po, psm, pca, ppa, pcf, ppf, e, hl, hm, hx, h1, h2, q⟩
def mT_Bits (n : Nat) (vC vN vT : Nat → Int32) (P : Prop) (j : Nat) (x : MB) : Prop := 2 ≤ n ∧ n ≤ 64 ∧ ∃ (mo ka : Nat) (kf : Nat → Int32) (oo : Nat) (osm : Int32) (oca opa : Nat) (ocf opf : Nat → Int32) (F : Nat → Nat) (po : Nat) (psm : Int32) (pca ppa : Nat) (pcf ppf : Nat → Int32), x = (mo, ka, n, kf, (oo, nI n, osm, 1, oca, opa, (2 ^ lev n), ocf, 0, opf), (po, nI n, psm, 1, pca, ppa, (2 ^ lev n), pcf, 0, ppf)) ∧ (∀ k, k < n → kf k = vC (64 * j + k)) ∧ tabI 2 n vN j F ∧ tbI ocf (2 ^ lev n) F ∧ (P → ∃ G : Nat → Nat, tabI 2 n vT j G ∧ tbI pcf (2 ^ lev n) G)
theorem mT_keep_Bits {n a j : Nat} {vC vC2 vN vN2 vT vT2 : Nat → Int32} {P P2 : Prop} {x : MB} (h : mT_Bits n vC vN vT P j x) (hC : sgO vC2 vC (64 * a) 64) (hN : sgO vN2 vN (64 * a) 64) (hT : sgO vT2 vT (64 * a) 64) (hP : P2 → P) (ha : a ≠ j) : mT_Bits n vC2 vN2 vT2 P2 j x := by
  obtain ⟨h1, h2, mo, ka, kf, oo, osm, oca, opa, ocf, opf, F, po, psm, pca, ppa, pcf, ppf, e, q1, q2, q3, q9⟩ := h
  refine ⟨h1, h2, mo, ka, kf, oo, osm, oca, opa, ocf, opf, F, po, psm, pca, ppa, pcf, ppf, e, fun k hk => by rw [q1 k hk, hC _ (by omega)], tab_keep hN ha h2 q2, q3, fun z => ?_⟩
  obtain ⟨G, g1, g2⟩ := q9 (hP z)
  exact ⟨G, tab_keep hT ha h2 g1, g2⟩
theorem mT_P_Bits {n j : Nat} {vC vN vT : Nat → Int32} {P P2 : Prop} {x : MB} (hP : P2 → P) (h : mT_Bits n vC vN vT P j x) : mT_Bits n vC vN vT P2 j x := by
  obtain ⟨h1, h2, mo, ka, kf, oo, osm, oca, opa, ocf, opf, F, po, psm, pca, ppa, pcf, ppf, e, q1, q2, q3, q9⟩ := h
  exact ⟨h1, h2, mo, ka, kf, oo, osm, oca, opa, ocf, opf, F, po, psm, pca, ppa, pcf, ppf, e, q1, q2, q3, fun z => q9 (hP z)⟩
theorem mT_TB_Bits {ms : List MB} {N : Nat → Nat} {vC vN vT : Nat → Int32} {P : Prop} (h : ∀ (j : Nat) (x : MB), ms[j]? = some x → mT_Bits (N j) vC vN vT P j x) : TB 2 ms.length N vN := fun j hj => by
  obtain ⟨h1, h2, mo, ka, kf, oo, osm, oca, opa, ocf, opf, F, po, psm, pca, ppa, pcf, ppf, e, q1, q2, -⟩ := h j _ (List.getElem?_eq_getElem hj)
  exact ⟨F, q2⟩
theorem pk_Bits {ms : List MB} {N : Nat → Nat} {vC vN vT : Nat → Int32} {P : Prop} {mf : Nat → Option Nat} {j : Nat} (h : ∀ (j : Nat) (x : MB), ms[j]? = some x → mT_Bits (N j) vC vN vT P j x) (hmo : ∀ x ∈ ms, mbOk x) (hmf : mfOk mf ms) (hj : j < ms.length) (h8 : ms.length ≤ 8) : ∃ (a b : List MB) (mo ka : Nat) (kf : Nat → Int32) (oo : Nat) (osm : Int32) (oca opa : Nat) (ocf opf : Nat → Int32) (F : Nat → Nat) (po : Nat) (psm : Int32) (pca ppa : Nat) (pcf ppf : Nat → Int32), ms = a ++ (mo, ka, N j, kf, (oo, nI (N j), osm, 1, oca, opa, (2 ^ lev (N j)), ocf, 0, opf), (po, nI (N j), psm, 1, pca, ppa, (2 ^ lev (N j)), pcf, 0, ppf)) :: b ∧ a.length = j ∧ mf j = some mo ∧ obOk (po, nI (N j), psm, 1, pca, ppa, (2 ^ lev (N j)), pcf, 0, ppf) ∧ 2 ≤ N j ∧ N j ≤ 64 ∧ (∀ k, k < (N j) → kf k = vC (64 * j + k)) ∧ tabI 2 (N j) vN j F ∧ tbI ocf (2 ^ lev (N j)) F ∧ (P → ∃ G : Nat → Nat, tabI 2 (N j) vT j G ∧ tbI pcf (2 ^ lev (N j)) G) := by
  obtain ⟨a, x, b, e, hl⟩ := mb_at hj
  obtain ⟨h1, h2, mo, ka, kf, oo, osm, oca, opa, ocf, opf, F, po, psm, pca, ppa, pcf, ppf, ex, q⟩ := h j x (by rw [e, ← hl]; exact mb_get)
  have hx := (hmo x (by rw [e]; exact List.mem_append_right _ List.mem_cons_self)).2.2
  have hm : mf j = some x.1 := mf_someE hmf e hl (by omega)
  subst ex
  exact ⟨a, b, mo, ka, kf, oo, osm, oca, opa, ocf, opf, F, po, psm, pca, ppa, pcf, ppf, e, hl, hm, hx, h1, h2, q⟩
def mT_Stack (n : Nat) (vC vN vT : Nat → Int32) (P : Prop) (j : Nat) (x : MB) : Prop := 2 ≤ n ∧ n ≤ 64 ∧ ∃ (mo ka : Nat) (kf : Nat → Int32) (oo : Nat) (oca opa : Nat) (ocf opf : Nat → Int32) (F : Nat → Nat) (po : Nat) (psm : Int32) (pca ppa : Nat) (pcf ppf : Nat → Int32), x = (mo, ka, n, kf, (oo, nI n, nI (ns F n), 0, oca, opa, n, ocf, 0, opf), (po, nI n, psm, 0, pca, ppa, n, pcf, 0, ppf)) ∧ (∀ k, k < n → kf k = vC (64 * j + k)) ∧ tabI 3 n vN j F ∧ tbI ocf n F ∧ (P → ∃ G : Nat → Nat, psm = nI (ns G n) ∧ tabI 3 n vT j G ∧ tbI pcf n G)
theorem mT_keep_Stack {n a j : Nat} {vC vC2 vN vN2 vT vT2 : Nat → Int32} {P P2 : Prop} {x : MB} (h : mT_Stack n vC vN vT P j x) (hC : sgO vC2 vC (64 * a) 64) (hN : sgO vN2 vN (64 * a) 64) (hT : sgO vT2 vT (64 * a) 64) (hP : P2 → P) (ha : a ≠ j) : mT_Stack n vC2 vN2 vT2 P2 j x := by
  obtain ⟨h1, h2, mo, ka, kf, oo, oca, opa, ocf, opf, F, po, psm, pca, ppa, pcf, ppf, e, q1, q2, q3, q9⟩ := h
  refine ⟨h1, h2, mo, ka, kf, oo, oca, opa, ocf, opf, F, po, psm, pca, ppa, pcf, ppf, e, fun k hk => by rw [q1 k hk, hC _ (by omega)], tab_keep hN ha h2 q2, q3, fun z => ?_⟩
  obtain ⟨G, g0, g1, g2⟩ := q9 (hP z)
  exact ⟨G, g0, tab_keep hT ha h2 g1, g2⟩
theorem mT_P_Stack {n j : Nat} {vC vN vT : Nat → Int32} {P P2 : Prop} {x : MB} (hP : P2 → P) (h : mT_Stack n vC vN vT P j x) : mT_Stack n vC vN vT P2 j x := by
  obtain ⟨h1, h2, mo, ka, kf, oo, oca, opa, ocf, opf, F, po, psm, pca, ppa, pcf, ppf, e, q1, q2, q3, q9⟩ := h
  exact ⟨h1, h2, mo, ka, kf, oo, oca, opa, ocf, opf, F, po, psm, pca, ppa, pcf, ppf, e, q1, q2, q3, fun z => q9 (hP z)⟩
theorem mT_TB_Stack {ms : List MB} {N : Nat → Nat} {vC vN vT : Nat → Int32} {P : Prop} (h : ∀ (j : Nat) (x : MB), ms[j]? = some x → mT_Stack (N j) vC vN vT P j x) : TB 3 ms.length N vN := fun j hj => by
  obtain ⟨h1, h2, mo, ka, kf, oo, oca, opa, ocf, opf, F, po, psm, pca, ppa, pcf, ppf, e, q1, q2, -⟩ := h j _ (List.getElem?_eq_getElem hj)
  exact ⟨F, q2⟩
theorem pk_Stack {ms : List MB} {N : Nat → Nat} {vC vN vT : Nat → Int32} {P : Prop} {mf : Nat → Option Nat} {j : Nat} (h : ∀ (j : Nat) (x : MB), ms[j]? = some x → mT_Stack (N j) vC vN vT P j x) (hmo : ∀ x ∈ ms, mbOk x) (hmf : mfOk mf ms) (hj : j < ms.length) (h8 : ms.length ≤ 8) : ∃ (a b : List MB) (mo ka : Nat) (kf : Nat → Int32) (oo : Nat) (oca opa : Nat) (ocf opf : Nat → Int32) (F : Nat → Nat) (po : Nat) (psm : Int32) (pca ppa : Nat) (pcf ppf : Nat → Int32), ms = a ++ (mo, ka, N j, kf, (oo, nI (N j), nI (ns F (N j)), 0, oca, opa, (N j), ocf, 0, opf), (po, nI (N j), psm, 0, pca, ppa, (N j), pcf, 0, ppf)) :: b ∧ a.length = j ∧ mf j = some mo ∧ obOk (po, nI (N j), psm, 0, pca, ppa, (N j), pcf, 0, ppf) ∧ 2 ≤ N j ∧ N j ≤ 64 ∧ (∀ k, k < (N j) → kf k = vC (64 * j + k)) ∧ tabI 3 (N j) vN j F ∧ tbI ocf (N j) F ∧ (P → ∃ G : Nat → Nat, psm = nI (ns G (N j)) ∧ tabI 3 (N j) vT j G ∧ tbI pcf (N j) G) := by
  obtain ⟨a, x, b, e, hl⟩ := mb_at hj
  obtain ⟨h1, h2, mo, ka, kf, oo, oca, opa, ocf, opf, F, po, psm, pca, ppa, pcf, ppf, ex, q⟩ := h j x (by rw [e, ← hl]; exact mb_get)
  have hx := (hmo x (by rw [e]; exact List.mem_append_right _ List.mem_cons_self)).2.2
  have hm : mf j = some x.1 := mf_someE hmf e hl (by omega)
  subst ex
  exact ⟨a, b, mo, ka, kf, oo, oca, opa, ocf, opf, F, po, psm, pca, ppa, pcf, ppf, e, hl, hm, hx, h1, h2, q⟩
def mT_Table (n : Nat) (vC vN vT : Nat → Int32) (P : Prop) (j : Nat) (x : MB) : Prop := 2 ≤ n ∧ n ≤ 64 ∧ ∃ (mo ka : Nat) (kf : Nat → Int32) (oo : Nat) (oca opa : Nat) (ocf opf : Nat → Int32) (F : Nat → Nat) (po : Nat) (psm : Int32) (pca ppa : Nat) (pcf ppf : Nat → Int32), x = (mo, ka, n, kf, (oo, nI n, nI (ns F n), 0, oca, opa, n, ocf, 512, opf), (po, nI n, psm, 0, pca, ppa, n, pcf, 512, ppf)) ∧ (∀ k, k < n → kf k = vC (64 * j + k)) ∧ tabI 4 n vN j F ∧ tbI ocf n F ∧ layt opf F n (ns F n) ∧ (P → ∃ G : Nat → Nat, psm = nI (ns G n) ∧ tabI 4 n vT j G ∧ tbI pcf n G ∧ layt ppf G n (ns G n))
theorem mT_keep_Table {n a j : Nat} {vC vC2 vN vN2 vT vT2 : Nat → Int32} {P P2 : Prop} {x : MB} (h : mT_Table n vC vN vT P j x) (hC : sgO vC2 vC (64 * a) 64) (hN : sgO vN2 vN (64 * a) 64) (hT : sgO vT2 vT (64 * a) 64) (hP : P2 → P) (ha : a ≠ j) : mT_Table n vC2 vN2 vT2 P2 j x := by
  obtain ⟨h1, h2, mo, ka, kf, oo, oca, opa, ocf, opf, F, po, psm, pca, ppa, pcf, ppf, e, q1, q2, q3, q4, q9⟩ := h
  refine ⟨h1, h2, mo, ka, kf, oo, oca, opa, ocf, opf, F, po, psm, pca, ppa, pcf, ppf, e, fun k hk => by rw [q1 k hk, hC _ (by omega)], tab_keep hN ha h2 q2, q3, q4, fun z => ?_⟩
  obtain ⟨G, g0, g1, g2, g3⟩ := q9 (hP z)
  exact ⟨G, g0, tab_keep hT ha h2 g1, g2, g3⟩
theorem mT_P_Table {n j : Nat} {vC vN vT : Nat → Int32} {P P2 : Prop} {x : MB} (hP : P2 → P) (h : mT_Table n vC vN vT P j x) : mT_Table n vC vN vT P2 j x := by
  obtain ⟨h1, h2, mo, ka, kf, oo, oca, opa, ocf, opf, F, po, psm, pca, ppa, pcf, ppf, e, q1, q2, q3, q4, q9⟩ := h
  exact ⟨h1, h2, mo, ka, kf, oo, oca, opa, ocf, opf, F, po, psm, pca, ppa, pcf, ppf, e, q1, q2, q3, q4, fun z => q9 (hP z)⟩
theorem mT_TB_Table {ms : List MB} {N : Nat → Nat} {vC vN vT : Nat → Int32} {P : Prop} (h : ∀ (j : Nat) (x : MB), ms[j]? = some x → mT_Table (N j) vC vN vT P j x) : TB 4 ms.length N vN := fun j hj => by
  obtain ⟨h1, h2, mo, ka, kf, oo, oca, opa, ocf, opf, F, po, psm, pca, ppa, pcf, ppf, e, q1, q2, -⟩ := h j _ (List.getElem?_eq_getElem hj)
  exact ⟨F, q2⟩
theorem pk_Table {ms : List MB} {N : Nat → Nat} {vC vN vT : Nat → Int32} {P : Prop} {mf : Nat → Option Nat} {j : Nat} (h : ∀ (j : Nat) (x : MB), ms[j]? = some x → mT_Table (N j) vC vN vT P j x) (hmo : ∀ x ∈ ms, mbOk x) (hmf : mfOk mf ms) (hj : j < ms.length) (h8 : ms.length ≤ 8) : ∃ (a b : List MB) (mo ka : Nat) (kf : Nat → Int32) (oo : Nat) (oca opa : Nat) (ocf opf : Nat → Int32) (F : Nat → Nat) (po : Nat) (psm : Int32) (pca ppa : Nat) (pcf ppf : Nat → Int32), ms = a ++ (mo, ka, N j, kf, (oo, nI (N j), nI (ns F (N j)), 0, oca, opa, (N j), ocf, 512, opf), (po, nI (N j), psm, 0, pca, ppa, (N j), pcf, 512, ppf)) :: b ∧ a.length = j ∧ mf j = some mo ∧ obOk (po, nI (N j), psm, 0, pca, ppa, (N j), pcf, 512, ppf) ∧ 2 ≤ N j ∧ N j ≤ 64 ∧ (∀ k, k < (N j) → kf k = vC (64 * j + k)) ∧ tabI 4 (N j) vN j F ∧ tbI ocf (N j) F ∧ layt opf F (N j) (ns F (N j)) ∧ (P → ∃ G : Nat → Nat, psm = nI (ns G (N j)) ∧ tabI 4 (N j) vT j G ∧ tbI pcf (N j) G ∧ layt ppf G (N j) (ns G (N j))) := by
  obtain ⟨a, x, b, e, hl⟩ := mb_at hj
  obtain ⟨h1, h2, mo, ka, kf, oo, oca, opa, ocf, opf, F, po, psm, pca, ppa, pcf, ppf, ex, q⟩ := h j x (by rw [e, ← hl]; exact mb_get)
  have hx := (hmo x (by rw [e]; exact List.mem_append_right _ List.mem_cons_self)).2.2
  have hm : mf j = some x.1 := mf_someE hmf e hl (by omega)
  subst ex
  exact ⟨a, b, mo, ka, kf, oo, oca, opa, ocf, opf, F, po, psm, pca, ppa, pcf, ppf, e, hl, hm, hx, h1, h2, q⟩
theorem mT_bg_Carries {ms msq : List MB} {km : Nat} {N : Nat → Nat} {vMany vC vN vN2 vT : Nat → Int32} {P : Prop} {j : Nat} {y : MB} (hj : j < km) (h : ∀ (j : Nat) (x : MB), ms[j]? = some x → mT_Carries (N j) vC vN vT P j x) (hMD : MD km N vMany vC) (hl : ms.length = msq.length) (hs : ∀ (i : Nat) (u v : MB), ms[i]? = some u → msq[i]? = some v → nw_Carries u v) (hT : pfA 0 km N vC vN2) (hy : msq[j]? = some y) : mT_Carries (N j) vC vN2 vT P j y := by
  have hj2 : j < ms.length := by rw [hl]; exact (List.getElem?_eq_some_iff.mp hy).1
  have hu := List.getElem?_eq_getElem hj2
  generalize ms[j] = u at hu
  obtain ⟨e1, e2, e3, e4, e5⟩ := hs j _ y hu hy
  obtain ⟨h1, h2, mo, ka, kf, oo, oca, opa, ocf, opf, F, po, psm, pca, ppa, pcf, ppf, e, q1, q2, q3, q9⟩ := h j _ hu
  have h3 : mK u = N j := by rw [e]
  have h4 : ∀ k, k < N j → mF u k = vC (64 * j + k) := fun k hk => by rw [e]; exact q1 k hk
  have hC := MD_C hMD hj
  have hz := Cx_tb (x := u) (n := N j) (C := Fvw vC j) (fun k hk => by rw [h4 k hk]; exact hC.1 k hk) hC.2
  have ht : sgI vN2 (64 * j) (pfN 0 (N j)) (pf 0 (N j) (Cx u)) := sgI_c (hT j hj) (pf_cg (show 0 < N j by omega) (fun k hk => (hz.1 k hk).symm))
  have htp := tab_pf (fm := 0) (by decide) h2 (by omega) (fun k hk => by rw [hz.1 k hk]; exact hC.2 k hk) ht
  rw [h3] at e1 e4 e5
  have e6 : mH u = (po, nI (N j), psm, 0, pca, ppa, (N j), pcf, 0, ppf) := by rw [e]
  rw [e6] at e3
  obtain ⟨y1, y2, y3, y4, ⟨o1, o2, o3, o4, o5, o6, o7, o8, o9, o10⟩, y6⟩ := y
  obtain ⟨g1, g2, g3, g4⟩ := e4
  have d1 : y3 = N j := e1
  have d2 : y4 = mF u := e2
  have d3 : y6 = _ := e3
  have d4 : o2 = _ := g1
  have d5 : o4 = _ := g2
  have d6 : o7 = _ := g3
  have d7 : o9 = _ := g4
  obtain ⟨f1, f2⟩ := e5
  have f2 : o3 = _ := f2
  subst f2
  clear e1 e2 e3 g1 g2 g3 g4
  subst d1; subst d2; subst d3; subst d4; subst d5; subst d6; subst d7
  exact ⟨h1, h2, y1, y2, mF u, o1, o5, o6, o8, o10, (les (N j) (Cx u)), po, psm, pca, ppa, pcf, ppf, rfl, h4, htp, f1, q9⟩
theorem mT_rd_Carries {ms msq : List MB} {km : Nat} {N : Nat → Nat} {vMany vC vN vT vT2 : Nat → Int32} {P P2 : Prop} {j : Nat} {y : MB} (hj : j < km) (h : ∀ (j : Nat) (x : MB), ms[j]? = some x → mT_Carries (N j) vC vN vT P j x) (hMD : MD km N vMany vC) (hl : ms.length = msq.length) (hs : ∀ (i : Nat) (u v : MB), ms[i]? = some u → msq[i]? = some v → nwr_Carries u v) (hT : pfA 0 km N vC vT2) (hy : msq[j]? = some y) : mT_Carries (N j) vC vN vT2 P2 j y := by
  have hj2 : j < ms.length := by rw [hl]; exact (List.getElem?_eq_some_iff.mp hy).1
  have hu := List.getElem?_eq_getElem hj2
  generalize ms[j] = u at hu
  obtain ⟨e1, e2, e3, e4, e5⟩ := hs j _ y hu hy
  obtain ⟨h1, h2, mo, ka, kf, oo, oca, opa, ocf, opf, F, po, psm, pca, ppa, pcf, ppf, e, q1, q2, q3, q9⟩ := h j _ hu
  have h3 : mK u = N j := by rw [e]
  have h4 : ∀ k, k < N j → mF u k = vC (64 * j + k) := fun k hk => by rw [e]; exact q1 k hk
  have hC := MD_C hMD hj
  have hz := Cx_tb (x := u) (n := N j) (C := Fvw vC j) (fun k hk => by rw [h4 k hk]; exact hC.1 k hk) hC.2
  have ht : sgI vT2 (64 * j) (pfN 0 (N j)) (pf 0 (N j) (Cx u)) := sgI_c (hT j hj) (pf_cg (show 0 < N j by omega) (fun k hk => (hz.1 k hk).symm))
  have htp := tab_pf (fm := 0) (by decide) h2 (by omega) (fun k hk => by rw [hz.1 k hk]; exact hC.2 k hk) ht
  rw [h3] at e1 e4 e5
  have e6 : mS u = (oo, nI (N j), nI (ns F (N j)), 0, oca, opa, (N j), ocf, 0, opf) := by rw [e]
  rw [e6] at e3
  obtain ⟨y1, y2, y3, y4, y5, ⟨o1, o2, o3, o4, o5, o6, o7, o8, o9, o10⟩⟩ := y
  obtain ⟨g1, g2, g3, g4⟩ := e4
  have d1 : y3 = N j := e1
  have d2 : y4 = mF u := e2
  have d3 : y5 = _ := e3
  have d4 : o2 = _ := g1
  have d5 : o4 = _ := g2
  have d6 : o7 = _ := g3
  have d7 : o9 = _ := g4
  obtain ⟨f1, f2⟩ := e5
  have f2 : o3 = _ := f2
  subst f2
  clear e1 e2 e3 g1 g2 g3 g4
  subst d1; subst d2; subst d3; subst d4; subst d5; subst d6; subst d7
  exact ⟨h1, h2, y1, y2, mF u, oo, oca, opa, ocf, opf, F, o1, _, o5, o6, o8, o10, rfl, h4, q2, q3, fun _ => ⟨(les (N j) (Cx u)), rfl, htp, f1⟩⟩
theorem mT_bg_NoCarries {ms msq : List MB} {km : Nat} {N : Nat → Nat} {vMany vC vN vN2 vT : Nat → Int32} {P : Prop} {j : Nat} {y : MB} (hj : j < km) (h : ∀ (j : Nat) (x : MB), ms[j]? = some x → mT_NoCarries (N j) vC vN vT P j x) (hMD : MD km N vMany vC) (hl : ms.length = msq.length) (hs : ∀ (i : Nat) (u v : MB), ms[i]? = some u → msq[i]? = some v → nw_NoCarries u v) (hT : pfA 1 km N vC vN2) (hy : msq[j]? = some y) : mT_NoCarries (N j) vC vN2 vT P j y := by
  have hj2 : j < ms.length := by rw [hl]; exact (List.getElem?_eq_some_iff.mp hy).1
  have hu := List.getElem?_eq_getElem hj2
  generalize ms[j] = u at hu
  obtain ⟨e1, e2, e3, e4, e5⟩ := hs j _ y hu hy
  obtain ⟨h1, h2, mo, ka, kf, oo, oca, opa, ocf, opf, F, po, psm, pca, ppa, pcf, ppf, e, q1, q2, q3, q9⟩ := h j _ hu
  have h3 : mK u = N j := by rw [e]
  have h4 : ∀ k, k < N j → mF u k = vC (64 * j + k) := fun k hk => by rw [e]; exact q1 k hk
  have hC := MD_C hMD hj
  have hz := Cx_tb (x := u) (n := N j) (C := Fvw vC j) (fun k hk => by rw [h4 k hk]; exact hC.1 k hk) hC.2
  have ht : sgI vN2 (64 * j) (pfN 1 (N j)) (pf 1 (N j) (Cx u)) := sgI_c (hT j hj) (pf_cg (show 0 < N j by omega) (fun k hk => (hz.1 k hk).symm))
  have htp := tab_pf (fm := 1) (by decide) h2 (by omega) (fun k hk => by rw [hz.1 k hk]; exact hC.2 k hk) ht
  rw [h3] at e1 e4 e5
  have e6 : mH u = (po, nI (N j), psm, 0, pca, ppa, (N j), pcf, 0, ppf) := by rw [e]
  rw [e6] at e3
  obtain ⟨y1, y2, y3, y4, ⟨o1, o2, o3, o4, o5, o6, o7, o8, o9, o10⟩, y6⟩ := y
  obtain ⟨g1, g2, g3, g4⟩ := e4
  have d1 : y3 = N j := e1
  have d2 : y4 = mF u := e2
  have d3 : y6 = _ := e3
  have d4 : o2 = _ := g1
  have d5 : o4 = _ := g2
  have d6 : o7 = _ := g3
  have d7 : o9 = _ := g4
  obtain ⟨f1, f2⟩ := e5
  have f2 : o3 = _ := f2
  subst f2
  clear e1 e2 e3 g1 g2 g3 g4
  subst d1; subst d2; subst d3; subst d4; subst d5; subst d6; subst d7
  exact ⟨h1, h2, y1, y2, mF u, o1, o5, o6, o8, o10, (les (N j) (Cx u)), po, psm, pca, ppa, pcf, ppf, rfl, h4, htp, f1, q9⟩
theorem mT_rd_NoCarries {ms msq : List MB} {km : Nat} {N : Nat → Nat} {vMany vC vN vT vT2 : Nat → Int32} {P P2 : Prop} {j : Nat} {y : MB} (hj : j < km) (h : ∀ (j : Nat) (x : MB), ms[j]? = some x → mT_NoCarries (N j) vC vN vT P j x) (hMD : MD km N vMany vC) (hl : ms.length = msq.length) (hs : ∀ (i : Nat) (u v : MB), ms[i]? = some u → msq[i]? = some v → nwr_NoCarries u v) (hT : pfA 1 km N vC vT2) (hy : msq[j]? = some y) : mT_NoCarries (N j) vC vN vT2 P2 j y := by
  have hj2 : j < ms.length := by rw [hl]; exact (List.getElem?_eq_some_iff.mp hy).1
  have hu := List.getElem?_eq_getElem hj2
  generalize ms[j] = u at hu
  obtain ⟨e1, e2, e3, e4, e5⟩ := hs j _ y hu hy
  obtain ⟨h1, h2, mo, ka, kf, oo, oca, opa, ocf, opf, F, po, psm, pca, ppa, pcf, ppf, e, q1, q2, q3, q9⟩ := h j _ hu
  have h3 : mK u = N j := by rw [e]
  have h4 : ∀ k, k < N j → mF u k = vC (64 * j + k) := fun k hk => by rw [e]; exact q1 k hk
  have hC := MD_C hMD hj
  have hz := Cx_tb (x := u) (n := N j) (C := Fvw vC j) (fun k hk => by rw [h4 k hk]; exact hC.1 k hk) hC.2
  have ht : sgI vT2 (64 * j) (pfN 1 (N j)) (pf 1 (N j) (Cx u)) := sgI_c (hT j hj) (pf_cg (show 0 < N j by omega) (fun k hk => (hz.1 k hk).symm))
  have htp := tab_pf (fm := 1) (by decide) h2 (by omega) (fun k hk => by rw [hz.1 k hk]; exact hC.2 k hk) ht
  rw [h3] at e1 e4 e5
  have e6 : mS u = (oo, nI (N j), nI (ns F (N j)), 0, oca, opa, (N j), ocf, 0, opf) := by rw [e]
  rw [e6] at e3
  obtain ⟨y1, y2, y3, y4, y5, ⟨o1, o2, o3, o4, o5, o6, o7, o8, o9, o10⟩⟩ := y
  obtain ⟨g1, g2, g3, g4⟩ := e4
  have d1 : y3 = N j := e1
  have d2 : y4 = mF u := e2
  have d3 : y5 = _ := e3
  have d4 : o2 = _ := g1
  have d5 : o4 = _ := g2
  have d6 : o7 = _ := g3
  have d7 : o9 = _ := g4
  obtain ⟨f1, f2⟩ := e5
  have f2 : o3 = _ := f2
  subst f2
  clear e1 e2 e3 g1 g2 g3 g4
  subst d1; subst d2; subst d3; subst d4; subst d5; subst d6; subst d7
  exact ⟨h1, h2, y1, y2, mF u, oo, oca, opa, ocf, opf, F, o1, _, o5, o6, o8, o10, rfl, h4, q2, q3, fun _ => ⟨(les (N j) (Cx u)), rfl, htp, f1⟩⟩
theorem mT_bg_Bits {ms msq : List MB} {km : Nat} {N : Nat → Nat} {vMany vC vN vN2 vT : Nat → Int32} {P : Prop} {j : Nat} {y : MB} (hj : j < km) (h : ∀ (j : Nat) (x : MB), ms[j]? = some x → mT_Bits (N j) vC vN vT P j x) (hMD : MD km N vMany vC) (hl : ms.length = msq.length) (hs : ∀ (i : Nat) (u v : MB), ms[i]? = some u → msq[i]? = some v → nw_Bits u v) (hT : pfA 2 km N vC vN2) (hy : msq[j]? = some y) : mT_Bits (N j) vC vN2 vT P j y := by
  have hj2 : j < ms.length := by rw [hl]; exact (List.getElem?_eq_some_iff.mp hy).1
  have hu := List.getElem?_eq_getElem hj2
  generalize ms[j] = u at hu
  obtain ⟨e1, e2, e3, e4, e5⟩ := hs j _ y hu hy
  obtain ⟨h1, h2, mo, ka, kf, oo, osm, oca, opa, ocf, opf, F, po, psm, pca, ppa, pcf, ppf, e, q1, q2, q3, q9⟩ := h j _ hu
  have h3 : mK u = N j := by rw [e]
  have h4 : ∀ k, k < N j → mF u k = vC (64 * j + k) := fun k hk => by rw [e]; exact q1 k hk
  have hC := MD_C hMD hj
  have hz := Cx_tb (x := u) (n := N j) (C := Fvw vC j) (fun k hk => by rw [h4 k hk]; exact hC.1 k hk) hC.2
  have ht : sgI vN2 (64 * j) (pfN 2 (N j)) (pf 2 (N j) (Cx u)) := sgI_c (hT j hj) (pf_cg (show 0 < N j by omega) (fun k hk => (hz.1 k hk).symm))
  have htp := tab_pf (fm := 2) (by decide) h2 (by omega) (fun k hk => by rw [hz.1 k hk]; exact hC.2 k hk) ht
  rw [h3] at e1 e4 e5
  have e6 : mH u = (po, nI (N j), psm, 1, pca, ppa, (2 ^ lev (N j)), pcf, 0, ppf) := by rw [e]
  rw [e6] at e3
  obtain ⟨y1, y2, y3, y4, ⟨o1, o2, o3, o4, o5, o6, o7, o8, o9, o10⟩, y6⟩ := y
  obtain ⟨g1, g2, g3, g4⟩ := e4
  have d1 : y3 = N j := e1
  have d2 : y4 = mF u := e2
  have d3 : y6 = _ := e3
  have d4 : o2 = _ := g1
  have d5 : o4 = _ := g2
  have d6 : o7 = _ := g3
  have d7 : o9 = _ := g4
  have f1 := e5
  clear e1 e2 e3 g1 g2 g3 g4
  subst d1; subst d2; subst d3; subst d4; subst d5; subst d6; subst d7
  exact ⟨h1, h2, y1, y2, mF u, o1, o3, o5, o6, o8, o10, (fun _ => 1024), po, psm, pca, ppa, pcf, ppf, rfl, h4, htp, f1, q9⟩
theorem mT_rd_Bits {ms msq : List MB} {km : Nat} {N : Nat → Nat} {vMany vC vN vT vT2 : Nat → Int32} {P P2 : Prop} {j : Nat} {y : MB} (hj : j < km) (h : ∀ (j : Nat) (x : MB), ms[j]? = some x → mT_Bits (N j) vC vN vT P j x) (hMD : MD km N vMany vC) (hl : ms.length = msq.length) (hs : ∀ (i : Nat) (u v : MB), ms[i]? = some u → msq[i]? = some v → nwr_Bits u v) (hT : pfA 2 km N vC vT2) (hy : msq[j]? = some y) : mT_Bits (N j) vC vN vT2 P2 j y := by
  have hj2 : j < ms.length := by rw [hl]; exact (List.getElem?_eq_some_iff.mp hy).1
  have hu := List.getElem?_eq_getElem hj2
  generalize ms[j] = u at hu
  obtain ⟨e1, e2, e3, e4, e5⟩ := hs j _ y hu hy
  obtain ⟨h1, h2, mo, ka, kf, oo, osm, oca, opa, ocf, opf, F, po, psm, pca, ppa, pcf, ppf, e, q1, q2, q3, q9⟩ := h j _ hu
  have h3 : mK u = N j := by rw [e]
  have h4 : ∀ k, k < N j → mF u k = vC (64 * j + k) := fun k hk => by rw [e]; exact q1 k hk
  have hC := MD_C hMD hj
  have hz := Cx_tb (x := u) (n := N j) (C := Fvw vC j) (fun k hk => by rw [h4 k hk]; exact hC.1 k hk) hC.2
  have ht : sgI vT2 (64 * j) (pfN 2 (N j)) (pf 2 (N j) (Cx u)) := sgI_c (hT j hj) (pf_cg (show 0 < N j by omega) (fun k hk => (hz.1 k hk).symm))
  have htp := tab_pf (fm := 2) (by decide) h2 (by omega) (fun k hk => by rw [hz.1 k hk]; exact hC.2 k hk) ht
  rw [h3] at e1 e4 e5
  have e6 : mS u = (oo, nI (N j), osm, 1, oca, opa, (2 ^ lev (N j)), ocf, 0, opf) := by rw [e]
  rw [e6] at e3
  obtain ⟨y1, y2, y3, y4, y5, ⟨o1, o2, o3, o4, o5, o6, o7, o8, o9, o10⟩⟩ := y
  obtain ⟨g1, g2, g3, g4⟩ := e4
  have d1 : y3 = N j := e1
  have d2 : y4 = mF u := e2
  have d3 : y5 = _ := e3
  have d4 : o2 = _ := g1
  have d5 : o4 = _ := g2
  have d6 : o7 = _ := g3
  have d7 : o9 = _ := g4
  have f1 := e5
  clear e1 e2 e3 g1 g2 g3 g4
  subst d1; subst d2; subst d3; subst d4; subst d5; subst d6; subst d7
  exact ⟨h1, h2, y1, y2, mF u, oo, osm, oca, opa, ocf, opf, F, o1, o3, o5, o6, o8, o10, rfl, h4, q2, q3, fun _ => ⟨(fun _ => 1024), htp, f1⟩⟩
theorem mT_bg_Stack {ms msq : List MB} {km : Nat} {N : Nat → Nat} {vMany vC vN vN2 vT : Nat → Int32} {P : Prop} {j : Nat} {y : MB} (hj : j < km) (h : ∀ (j : Nat) (x : MB), ms[j]? = some x → mT_Stack (N j) vC vN vT P j x) (hMD : MD km N vMany vC) (hl : ms.length = msq.length) (hs : ∀ (i : Nat) (u v : MB), ms[i]? = some u → msq[i]? = some v → nw_Stack u v) (hT : pfA 3 km N vC vN2) (hy : msq[j]? = some y) : mT_Stack (N j) vC vN2 vT P j y := by
  have hj2 : j < ms.length := by rw [hl]; exact (List.getElem?_eq_some_iff.mp hy).1
  have hu := List.getElem?_eq_getElem hj2
  generalize ms[j] = u at hu
  obtain ⟨e1, e2, e3, e4, e5⟩ := hs j _ y hu hy
  obtain ⟨h1, h2, mo, ka, kf, oo, oca, opa, ocf, opf, F, po, psm, pca, ppa, pcf, ppf, e, q1, q2, q3, q9⟩ := h j _ hu
  have h3 : mK u = N j := by rw [e]
  have h4 : ∀ k, k < N j → mF u k = vC (64 * j + k) := fun k hk => by rw [e]; exact q1 k hk
  have hC := MD_C hMD hj
  have hz := Cx_tb (x := u) (n := N j) (C := Fvw vC j) (fun k hk => by rw [h4 k hk]; exact hC.1 k hk) hC.2
  have ht : sgI vN2 (64 * j) (pfN 3 (N j)) (pf 3 (N j) (Cx u)) := sgI_c (hT j hj) (pf_cg (show 0 < N j by omega) (fun k hk => (hz.1 k hk).symm))
  have htp := tab_pf (fm := 3) (by decide) h2 (by omega) (fun k hk => by rw [hz.1 k hk]; exact hC.2 k hk) ht
  rw [h3] at e1 e4 e5
  have e6 : mH u = (po, nI (N j), psm, 0, pca, ppa, (N j), pcf, 0, ppf) := by rw [e]
  rw [e6] at e3
  obtain ⟨y1, y2, y3, y4, ⟨o1, o2, o3, o4, o5, o6, o7, o8, o9, o10⟩, y6⟩ := y
  obtain ⟨g1, g2, g3, g4⟩ := e4
  have d1 : y3 = N j := e1
  have d2 : y4 = mF u := e2
  have d3 : y6 = _ := e3
  have d4 : o2 = _ := g1
  have d5 : o4 = _ := g2
  have d6 : o7 = _ := g3
  have d7 : o9 = _ := g4
  obtain ⟨f1, f2⟩ := e5
  have f2 : o3 = _ := f2
  subst f2
  clear e1 e2 e3 g1 g2 g3 g4
  subst d1; subst d2; subst d3; subst d4; subst d5; subst d6; subst d7
  exact ⟨h1, h2, y1, y2, mF u, o1, o5, o6, o8, o10, (sc (N j) 4096 (Cx u)), po, psm, pca, ppa, pcf, ppf, rfl, h4, htp, f1, q9⟩
theorem mT_rd_Stack {ms msq : List MB} {km : Nat} {N : Nat → Nat} {vMany vC vN vT vT2 : Nat → Int32} {P P2 : Prop} {j : Nat} {y : MB} (hj : j < km) (h : ∀ (j : Nat) (x : MB), ms[j]? = some x → mT_Stack (N j) vC vN vT P j x) (hMD : MD km N vMany vC) (hl : ms.length = msq.length) (hs : ∀ (i : Nat) (u v : MB), ms[i]? = some u → msq[i]? = some v → nwr_Stack u v) (hT : pfA 3 km N vC vT2) (hy : msq[j]? = some y) : mT_Stack (N j) vC vN vT2 P2 j y := by
  have hj2 : j < ms.length := by rw [hl]; exact (List.getElem?_eq_some_iff.mp hy).1
  have hu := List.getElem?_eq_getElem hj2
  generalize ms[j] = u at hu
  obtain ⟨e1, e2, e3, e4, e5⟩ := hs j _ y hu hy
  obtain ⟨h1, h2, mo, ka, kf, oo, oca, opa, ocf, opf, F, po, psm, pca, ppa, pcf, ppf, e, q1, q2, q3, q9⟩ := h j _ hu
  have h3 : mK u = N j := by rw [e]
  have h4 : ∀ k, k < N j → mF u k = vC (64 * j + k) := fun k hk => by rw [e]; exact q1 k hk
  have hC := MD_C hMD hj
  have hz := Cx_tb (x := u) (n := N j) (C := Fvw vC j) (fun k hk => by rw [h4 k hk]; exact hC.1 k hk) hC.2
  have ht : sgI vT2 (64 * j) (pfN 3 (N j)) (pf 3 (N j) (Cx u)) := sgI_c (hT j hj) (pf_cg (show 0 < N j by omega) (fun k hk => (hz.1 k hk).symm))
  have htp := tab_pf (fm := 3) (by decide) h2 (by omega) (fun k hk => by rw [hz.1 k hk]; exact hC.2 k hk) ht
  rw [h3] at e1 e4 e5
  have e6 : mS u = (oo, nI (N j), nI (ns F (N j)), 0, oca, opa, (N j), ocf, 0, opf) := by rw [e]
  rw [e6] at e3
  obtain ⟨y1, y2, y3, y4, y5, ⟨o1, o2, o3, o4, o5, o6, o7, o8, o9, o10⟩⟩ := y
  obtain ⟨g1, g2, g3, g4⟩ := e4
  have d1 : y3 = N j := e1
  have d2 : y4 = mF u := e2
  have d3 : y5 = _ := e3
  have d4 : o2 = _ := g1
  have d5 : o4 = _ := g2
  have d6 : o7 = _ := g3
  have d7 : o9 = _ := g4
  obtain ⟨f1, f2⟩ := e5
  have f2 : o3 = _ := f2
  subst f2
  clear e1 e2 e3 g1 g2 g3 g4
  subst d1; subst d2; subst d3; subst d4; subst d5; subst d6; subst d7
  exact ⟨h1, h2, y1, y2, mF u, oo, oca, opa, ocf, opf, F, o1, _, o5, o6, o8, o10, rfl, h4, q2, q3, fun _ => ⟨(sc (N j) 4096 (Cx u)), rfl, htp, f1⟩⟩
theorem mT_bg_Table {ms msq : List MB} {km : Nat} {N : Nat → Nat} {vMany vC vN vN2 vT : Nat → Int32} {P : Prop} {j : Nat} {y : MB} (hj : j < km) (h : ∀ (j : Nat) (x : MB), ms[j]? = some x → mT_Table (N j) vC vN vT P j x) (hMD : MD km N vMany vC) (hl : ms.length = msq.length) (hs : ∀ (i : Nat) (u v : MB), ms[i]? = some u → msq[i]? = some v → nw_Table u v) (hT : pfA 4 km N vC vN2) (hy : msq[j]? = some y) : mT_Table (N j) vC vN2 vT P j y := by
  have hj2 : j < ms.length := by rw [hl]; exact (List.getElem?_eq_some_iff.mp hy).1
  have hu := List.getElem?_eq_getElem hj2
  generalize ms[j] = u at hu
  obtain ⟨e1, e2, e3, e4, e5⟩ := hs j _ y hu hy
  obtain ⟨h1, h2, mo, ka, kf, oo, oca, opa, ocf, opf, F, po, psm, pca, ppa, pcf, ppf, e, q1, q2, q3, q4, q9⟩ := h j _ hu
  have h3 : mK u = N j := by rw [e]
  have h4 : ∀ k, k < N j → mF u k = vC (64 * j + k) := fun k hk => by rw [e]; exact q1 k hk
  have hC := MD_C hMD hj
  have hz := Cx_tb (x := u) (n := N j) (C := Fvw vC j) (fun k hk => by rw [h4 k hk]; exact hC.1 k hk) hC.2
  have ht : sgI vN2 (64 * j) (pfN 4 (N j)) (pf 4 (N j) (Cx u)) := sgI_c (hT j hj) (pf_cg (show 0 < N j by omega) (fun k hk => (hz.1 k hk).symm))
  have htp := tab_pf (fm := 4) (by decide) h2 (by omega) (fun k hk => by rw [hz.1 k hk]; exact hC.2 k hk) ht
  rw [h3] at e1 e4 e5
  have e6 : mH u = (po, nI (N j), psm, 0, pca, ppa, (N j), pcf, 512, ppf) := by rw [e]
  rw [e6] at e3
  obtain ⟨y1, y2, y3, y4, ⟨o1, o2, o3, o4, o5, o6, o7, o8, o9, o10⟩, y6⟩ := y
  obtain ⟨g1, g2, g3, g4⟩ := e4
  have d1 : y3 = N j := e1
  have d2 : y4 = mF u := e2
  have d3 : y6 = _ := e3
  have d4 : o2 = _ := g1
  have d5 : o4 = _ := g2
  have d6 : o7 = _ := g3
  have d7 : o9 = _ := g4
  obtain ⟨f1, f2, f3⟩ := e5
  have f2 : o3 = _ := f2
  subst f2
  clear e1 e2 e3 g1 g2 g3 g4
  subst d1; subst d2; subst d3; subst d4; subst d5; subst d6; subst d7
  exact ⟨h1, h2, y1, y2, mF u, o1, o5, o6, o8, o10, (sc (N j) 512 (Cx u)), po, psm, pca, ppa, pcf, ppf, rfl, h4, htp, f1, f3, q9⟩
theorem mT_rd_Table {ms msq : List MB} {km : Nat} {N : Nat → Nat} {vMany vC vN vT vT2 : Nat → Int32} {P P2 : Prop} {j : Nat} {y : MB} (hj : j < km) (h : ∀ (j : Nat) (x : MB), ms[j]? = some x → mT_Table (N j) vC vN vT P j x) (hMD : MD km N vMany vC) (hl : ms.length = msq.length) (hs : ∀ (i : Nat) (u v : MB), ms[i]? = some u → msq[i]? = some v → nwr_Table u v) (hT : pfA 4 km N vC vT2) (hy : msq[j]? = some y) : mT_Table (N j) vC vN vT2 P2 j y := by
  have hj2 : j < ms.length := by rw [hl]; exact (List.getElem?_eq_some_iff.mp hy).1
  have hu := List.getElem?_eq_getElem hj2
  generalize ms[j] = u at hu
  obtain ⟨e1, e2, e3, e4, e5⟩ := hs j _ y hu hy
  obtain ⟨h1, h2, mo, ka, kf, oo, oca, opa, ocf, opf, F, po, psm, pca, ppa, pcf, ppf, e, q1, q2, q3, q4, q9⟩ := h j _ hu
  have h3 : mK u = N j := by rw [e]
  have h4 : ∀ k, k < N j → mF u k = vC (64 * j + k) := fun k hk => by rw [e]; exact q1 k hk
  have hC := MD_C hMD hj
  have hz := Cx_tb (x := u) (n := N j) (C := Fvw vC j) (fun k hk => by rw [h4 k hk]; exact hC.1 k hk) hC.2
  have ht : sgI vT2 (64 * j) (pfN 4 (N j)) (pf 4 (N j) (Cx u)) := sgI_c (hT j hj) (pf_cg (show 0 < N j by omega) (fun k hk => (hz.1 k hk).symm))
  have htp := tab_pf (fm := 4) (by decide) h2 (by omega) (fun k hk => by rw [hz.1 k hk]; exact hC.2 k hk) ht
  rw [h3] at e1 e4 e5
  have e6 : mS u = (oo, nI (N j), nI (ns F (N j)), 0, oca, opa, (N j), ocf, 512, opf) := by rw [e]
  rw [e6] at e3
  obtain ⟨y1, y2, y3, y4, y5, ⟨o1, o2, o3, o4, o5, o6, o7, o8, o9, o10⟩⟩ := y
  obtain ⟨g1, g2, g3, g4⟩ := e4
  have d1 : y3 = N j := e1
  have d2 : y4 = mF u := e2
  have d3 : y5 = _ := e3
  have d4 : o2 = _ := g1
  have d5 : o4 = _ := g2
  have d6 : o7 = _ := g3
  have d7 : o9 = _ := g4
  obtain ⟨f1, f2, f3⟩ := e5
  have f2 : o3 = _ := f2
  subst f2
  clear e1 e2 e3 g1 g2 g3 g4
  subst d1; subst d2; subst d3; subst d4; subst d5; subst d6; subst d7
  exact ⟨h1, h2, y1, y2, mF u, oo, oca, opa, ocf, opf, F, o1, _, o5, o6, o8, o10, rfl, h4, q2, q3, q4, fun _ => ⟨(sc (N j) 512 (Cx u)), rfl, htp, f1, f3⟩⟩
theorem mT_ok_Carries {n j : Nat} {vC vN vT : Nat → Int32} {P : Prop} {x : MB} (h : mT_Carries n vC vN vT P j x) (hC : sgI vC (64 * j) n (Fvw vC j) ∧ bd (Fvw vC j) n 4095) : mOk_Carries x := by
  obtain ⟨h1, h2, mo, ka, kf, oo, oca, opa, ocf, opf, F, po, psm, pca, ppa, pcf, ppf, e, q1, -⟩ := h
  have h4 : ∀ k, k < n → mF x k = vC (64 * j + k) := fun k hk => by rw [e]; exact q1 k hk
  have hz := Cx_tb (x := x) (n := n) (C := Fvw vC j) (fun k hk => by rw [h4 k hk]; exact hC.1 k hk) hC.2
  have h3 : mK x = n := by rw [e]
  refine ⟨by rw [h3]; exact h1, by rw [h3]; exact h2, ?_, by rw [h3]; exact hz.2, by rw [h3]; exact fun k hk => by rw [hz.1 k hk]; exact hC.2 k hk⟩
  rw [h3, e]
  exact ⟨rfl, rfl, rfl, rfl⟩
theorem mT_ok_NoCarries {n j : Nat} {vC vN vT : Nat → Int32} {P : Prop} {x : MB} (h : mT_NoCarries n vC vN vT P j x) (hC : sgI vC (64 * j) n (Fvw vC j) ∧ bd (Fvw vC j) n 4095) : mOk_NoCarries x := by
  obtain ⟨h1, h2, mo, ka, kf, oo, oca, opa, ocf, opf, F, po, psm, pca, ppa, pcf, ppf, e, q1, -⟩ := h
  have h4 : ∀ k, k < n → mF x k = vC (64 * j + k) := fun k hk => by rw [e]; exact q1 k hk
  have hz := Cx_tb (x := x) (n := n) (C := Fvw vC j) (fun k hk => by rw [h4 k hk]; exact hC.1 k hk) hC.2
  have h3 : mK x = n := by rw [e]
  refine ⟨by rw [h3]; exact h1, by rw [h3]; exact h2, ?_, by rw [h3]; exact hz.2, by rw [h3]; exact fun k hk => by rw [hz.1 k hk]; exact hC.2 k hk⟩
  rw [h3, e]
  exact ⟨rfl, rfl, rfl, rfl⟩
theorem mT_ok_Bits {n j : Nat} {vC vN vT : Nat → Int32} {P : Prop} {x : MB} (h : mT_Bits n vC vN vT P j x) (hC : sgI vC (64 * j) n (Fvw vC j) ∧ bd (Fvw vC j) n 4095) : mOk_Bits x := by
  obtain ⟨h1, h2, mo, ka, kf, oo, osm, oca, opa, ocf, opf, F, po, psm, pca, ppa, pcf, ppf, e, q1, -⟩ := h
  have h4 : ∀ k, k < n → mF x k = vC (64 * j + k) := fun k hk => by rw [e]; exact q1 k hk
  have hz := Cx_tb (x := x) (n := n) (C := Fvw vC j) (fun k hk => by rw [h4 k hk]; exact hC.1 k hk) hC.2
  have h3 : mK x = n := by rw [e]
  refine ⟨by rw [h3]; exact h1, by rw [h3]; exact h2, ?_, by rw [h3]; exact hz.2, by rw [h3]; exact fun k hk => by rw [hz.1 k hk]; exact hC.2 k hk⟩
  rw [h3, e]
  exact ⟨rfl, rfl, rfl, rfl⟩
theorem mT_ok_Stack {n j : Nat} {vC vN vT : Nat → Int32} {P : Prop} {x : MB} (h : mT_Stack n vC vN vT P j x) (hC : sgI vC (64 * j) n (Fvw vC j) ∧ bd (Fvw vC j) n 4095) : mOk_Stack x := by
  obtain ⟨h1, h2, mo, ka, kf, oo, oca, opa, ocf, opf, F, po, psm, pca, ppa, pcf, ppf, e, q1, -⟩ := h
  have h4 : ∀ k, k < n → mF x k = vC (64 * j + k) := fun k hk => by rw [e]; exact q1 k hk
  have hz := Cx_tb (x := x) (n := n) (C := Fvw vC j) (fun k hk => by rw [h4 k hk]; exact hC.1 k hk) hC.2
  have h3 : mK x = n := by rw [e]
  refine ⟨by rw [h3]; exact h1, by rw [h3]; exact h2, ?_, by rw [h3]; exact hz.2, by rw [h3]; exact fun k hk => by rw [hz.1 k hk]; exact hC.2 k hk⟩
  rw [h3, e]
  exact ⟨rfl, rfl, rfl, rfl⟩
theorem mT_ok_Table {n j : Nat} {vC vN vT : Nat → Int32} {P : Prop} {x : MB} (h : mT_Table n vC vN vT P j x) (hC : sgI vC (64 * j) n (Fvw vC j) ∧ bd (Fvw vC j) n 4095) : mOk_Table x := by
  obtain ⟨h1, h2, mo, ka, kf, oo, oca, opa, ocf, opf, F, po, psm, pca, ppa, pcf, ppf, e, q1, -⟩ := h
  have h4 : ∀ k, k < n → mF x k = vC (64 * j + k) := fun k hk => by rw [e]; exact q1 k hk
  have hz := Cx_tb (x := x) (n := n) (C := Fvw vC j) (fun k hk => by rw [h4 k hk]; exact hC.1 k hk) hC.2
  have h3 : mK x = n := by rw [e]
  refine ⟨by rw [h3]; exact h1, by rw [h3]; exact h2, ?_, by rw [h3]; exact hz.2, by rw [h3]; exact fun k hk => by rw [hz.1 k hk]; exact hC.2 k hk⟩
  rw [h3, e]
  exact ⟨rfl, rfl, rfl, rfl⟩
theorem mT_okr_Carries {n j : Nat} {vC vN vT : Nat → Int32} {P : Prop} {x : MB} (h : mT_Carries n vC vN vT P j x) (hC : sgI vC (64 * j) n (Fvw vC j) ∧ bd (Fvw vC j) n 4095) : mOkr_Carries x := by
  obtain ⟨h1, h2, mo, ka, kf, oo, oca, opa, ocf, opf, F, po, psm, pca, ppa, pcf, ppf, e, q1, -⟩ := h
  have h4 : ∀ k, k < n → mF x k = vC (64 * j + k) := fun k hk => by rw [e]; exact q1 k hk
  have hz := Cx_tb (x := x) (n := n) (C := Fvw vC j) (fun k hk => by rw [h4 k hk]; exact hC.1 k hk) hC.2
  have h3 : mK x = n := by rw [e]
  refine ⟨by rw [h3]; exact h1, by rw [h3]; exact h2, ?_, by rw [h3]; exact hz.2, by rw [h3]; exact fun k hk => by rw [hz.1 k hk]; exact hC.2 k hk⟩
  rw [h3, e]
  exact ⟨rfl, rfl, rfl, rfl⟩
theorem mT_okr_NoCarries {n j : Nat} {vC vN vT : Nat → Int32} {P : Prop} {x : MB} (h : mT_NoCarries n vC vN vT P j x) (hC : sgI vC (64 * j) n (Fvw vC j) ∧ bd (Fvw vC j) n 4095) : mOkr_NoCarries x := by
  obtain ⟨h1, h2, mo, ka, kf, oo, oca, opa, ocf, opf, F, po, psm, pca, ppa, pcf, ppf, e, q1, -⟩ := h
  have h4 : ∀ k, k < n → mF x k = vC (64 * j + k) := fun k hk => by rw [e]; exact q1 k hk
  have hz := Cx_tb (x := x) (n := n) (C := Fvw vC j) (fun k hk => by rw [h4 k hk]; exact hC.1 k hk) hC.2
  have h3 : mK x = n := by rw [e]
  refine ⟨by rw [h3]; exact h1, by rw [h3]; exact h2, ?_, by rw [h3]; exact hz.2, by rw [h3]; exact fun k hk => by rw [hz.1 k hk]; exact hC.2 k hk⟩
  rw [h3, e]
  exact ⟨rfl, rfl, rfl, rfl⟩
theorem mT_okr_Bits {n j : Nat} {vC vN vT : Nat → Int32} {P : Prop} {x : MB} (h : mT_Bits n vC vN vT P j x) (hC : sgI vC (64 * j) n (Fvw vC j) ∧ bd (Fvw vC j) n 4095) : mOkr_Bits x := by
  obtain ⟨h1, h2, mo, ka, kf, oo, osm, oca, opa, ocf, opf, F, po, psm, pca, ppa, pcf, ppf, e, q1, -⟩ := h
  have h4 : ∀ k, k < n → mF x k = vC (64 * j + k) := fun k hk => by rw [e]; exact q1 k hk
  have hz := Cx_tb (x := x) (n := n) (C := Fvw vC j) (fun k hk => by rw [h4 k hk]; exact hC.1 k hk) hC.2
  have h3 : mK x = n := by rw [e]
  refine ⟨by rw [h3]; exact h1, by rw [h3]; exact h2, ?_, by rw [h3]; exact hz.2, by rw [h3]; exact fun k hk => by rw [hz.1 k hk]; exact hC.2 k hk⟩
  rw [h3, e]
  exact ⟨rfl, rfl, rfl, rfl⟩
theorem mT_okr_Stack {n j : Nat} {vC vN vT : Nat → Int32} {P : Prop} {x : MB} (h : mT_Stack n vC vN vT P j x) (hC : sgI vC (64 * j) n (Fvw vC j) ∧ bd (Fvw vC j) n 4095) : mOkr_Stack x := by
  obtain ⟨h1, h2, mo, ka, kf, oo, oca, opa, ocf, opf, F, po, psm, pca, ppa, pcf, ppf, e, q1, -⟩ := h
  have h4 : ∀ k, k < n → mF x k = vC (64 * j + k) := fun k hk => by rw [e]; exact q1 k hk
  have hz := Cx_tb (x := x) (n := n) (C := Fvw vC j) (fun k hk => by rw [h4 k hk]; exact hC.1 k hk) hC.2
  have h3 : mK x = n := by rw [e]
  refine ⟨by rw [h3]; exact h1, by rw [h3]; exact h2, ?_, by rw [h3]; exact hz.2, by rw [h3]; exact fun k hk => by rw [hz.1 k hk]; exact hC.2 k hk⟩
  rw [h3, e]
  exact ⟨rfl, rfl, rfl, rfl⟩
theorem mT_okr_Table {n j : Nat} {vC vN vT : Nat → Int32} {P : Prop} {x : MB} (h : mT_Table n vC vN vT P j x) (hC : sgI vC (64 * j) n (Fvw vC j) ∧ bd (Fvw vC j) n 4095) : mOkr_Table x := by
  obtain ⟨h1, h2, mo, ka, kf, oo, oca, opa, ocf, opf, F, po, psm, pca, ppa, pcf, ppf, e, q1, -⟩ := h
  have h4 : ∀ k, k < n → mF x k = vC (64 * j + k) := fun k hk => by rw [e]; exact q1 k hk
  have hz := Cx_tb (x := x) (n := n) (C := Fvw vC j) (fun k hk => by rw [h4 k hk]; exact hC.1 k hk) hC.2
  have h3 : mK x = n := by rw [e]
  refine ⟨by rw [h3]; exact h1, by rw [h3]; exact h2, ?_, by rw [h3]; exact hz.2, by rw [h3]; exact fun k hk => by rw [hz.1 k hk]; exact hC.2 k hk⟩
  rw [h3, e]
  exact ⟨rfl, rfl, rfl, rfl⟩
theorem ob_of_Stack {n j : Nat} {vC vN vT : Nat → Int32} {P : Prop} {x : MB} (h : mT_Stack n vC vN vT P j x) (z1 : ns (Fvw vN j) n = 4096) (z2 : sgI vN (64 * j) n (Fvw vN j)) : ob3 (mS x) n (Fvw vN j) := by
  obtain ⟨h1, h2, mo, ka, kf, oo, oca, opa, ocf, opf, F, po, psm, pca, ppa, pcf, ppf, e, q1, h6, h7, -⟩ := h
  subst e
  obtain ⟨hs, ht⟩ := tab_3 h6
  have hc := Fv_cg hs (by rcases ht with q | q <;> omega)
  have hf : tbI ocf n (Fvw vN j) := fun k hk => by rw [← hc k hk]; exact h7 k hk
  exact ⟨h2, rfl, rfl, hf, (by decide : 0 ≤ 512)⟩
theorem ob_of_Table {n j : Nat} {vC vN vT : Nat → Int32} {P : Prop} {x : MB} (h : mT_Table n vC vN vT P j x) (z1 : ns (Fvw vN j) n = 512) (z2 : sgI vN (64 * j) n (Fvw vN j)) : ob4 (mS x) n (Fvw vN j) := by
  obtain ⟨h1, h2, mo, ka, kf, oo, oca, opa, ocf, opf, F, po, psm, pca, ppa, pcf, ppf, e, q1, h6, h7, hl, -⟩ := h
  subst e
  obtain ⟨hs, ht⟩ := tab_4 h6
  have hc := Fv_cg hs (by rcases ht with q | q <;> omega)
  have hf : tbI ocf n (Fvw vN j) := fun k hk => by rw [← hc k hk]; exact h7 k hk
  refine ⟨h2, rfl, rfl, hf, rfl, fun p hp => ?_⟩
  rw [show ns F n = 512 by rw [ns_cg (fun k hk => hc k hk)]; exact z1] at hl
  rw [← plc_cg hc p]
  exact layt_e hl p hp
theorem sg_cs (z : Int32) {n : Nat} (hn : n ≤ 64) : (z < 0 ∨ nI n ≤ z) ∨ ∃ t, t < n ∧ z = nI t := by
  by_cases h1 : z < 0
  · exact Or.inl (Or.inl h1)
  · by_cases h2 : nI n ≤ z
    · exact Or.inl (Or.inr h2)
    · right
      obtain ⟨t, ht, rfl⟩ := nI_of h1
      exact ⟨t, nI_lt' ht h2, rfl⟩
theorem v_cs (z : Int32) {m : Nat} (hm : m < 2 ^ 31) : (z < 0 ∨ nI m < z) ∨ ∃ c, c ≤ m ∧ z = nI c := by
  by_cases h1 : z < 0
  · exact Or.inl (Or.inl h1)
  · by_cases h2 : nI m < z
    · exact Or.inl (Or.inr h2)
    · right
      obtain ⟨t, ht, rfl⟩ := nI_of h1
      exact ⟨t, (nI_cmp ht hm).mp (Int32.not_lt.mp h2), rfl⟩
theorem nd_cs (z : Int32) {n : Nat} (hn : n ≤ 64) : (z < 1 ∨ z < 0 ∨ nI n ≤ z) ∨ ∃ t, 1 ≤ t ∧ t < n ∧ z = nI t := by
  by_cases h1 : z < 1
  · exact Or.inl (Or.inl h1)
  · rcases sg_cs z hn with q | ⟨t, ht, rfl⟩
    · exact Or.inl (Or.inr q)
    · refine Or.inr ⟨t, ?_, ht, rfl⟩
      rcases Nat.eq_zero_or_pos t with e | e
      · subst e; exact absurd (by decide) h1
      · exact e
end
section
def LI_Carries (dC : Nat → ClassId) (dI : Nat → Nat → Nat) (cI cM cO : ClassId) (A : Nat → Prop) (rc o cn dd : Nat) (H : Heap) : Prop := ∀ (C9 : Prop), (∀ (ms : List MB) (is : List Nat) (os : List Nat) (fit : Int32) (fen : Int32) (frd : Int32) (fbd : Int32) (fir : Int32) (mf : Nat → Option Nat) (ma : Nat) (co : Nat) (xcache : Int32) (xpending : Int32) (xlow : Int64) (xrange : Int64) (xcode : Int64) (xreadLow : Int64) (xreadRange : Int64) (ri : Nat) (ro : Nat) (rw : Nat) (xasked : Int32) (ria : Nat) (rik : Nat) (rif : Nat → Int32) (roa : Nat) (rok : Nat) (rof : Nat → Int32) (rwn : Int32) (rwa : Nat) (rwk : Nat) (rwf : Nat → Int32) (g : Nat → Nat) (fShift : Int32) (fLow : Int64) (fRange : Int64) (fCache : Int32) (fPend : Int32) (fGoes : Int32) (fBad : Int32) (fIR : Int32) (fAsk : Int32) (fBAsk : Int32) (fCode : Int64) (fRL : Int64) (fRR : Int64) (fX : Int64) (fWrites : Int32) (fThrown : Int32) (vMany : Nat → Int32) (vCounts : Nat → Int32) (vNow : Nat → Int32) (vThen : Nat → Int32) (vIM : Nat → Int32) (vIW : Nat → Int32) (vGoing : Nat → Int32) (vOut : Nat → Int32) (vIn : Nat → Int32) (vSO : Nat → Int32) (vNO : Nat → Int32) (vWr : Nat → Int32) (N : Nat → Nat), va_P (dC, dI) vwCl ([(rc, Sum.inr (6, [Value.ref co, Value.ref ma, Value.int (nI ms.length), Value.int fit, Value.int fen, Value.int frd, Value.int fbd, Value.int fir])), (ma, Sum.inl (cM, 8, Sum.inr (Sum.inr (Sum.inr (Sum.inr mf))))), (co, Sum.inr (1, [Value.int xcache, Value.int xpending, Value.long xlow, Value.long xrange, Value.long xcode, Value.long xreadLow, Value.long xreadRange, Value.ref ri, Value.ref ro, Value.ref rw, Value.int xasked])), (ri, Sum.inr (0, [Value.int (nI is.length), Value.ref ria])), (ria, Sum.inl (cI, rik, Sum.inl rif)), (ro, Sum.inr (0, [Value.int (nI os.length), Value.ref roa])), (roa, Sum.inl (cI, rok, Sum.inl rof)), (rw, Sum.inr (0, [Value.int rwn, Value.ref rwa])), (rwa, Sum.inl (cI, rwk, Sum.inl rwf)), (o, Sum.inr (9, mO g 0 fShift (nI ms.length) fit fen fLow fRange fCache fPend fGoes (nI os.length) (nI is.length) frd fBad fIR fAsk fBAsk fCode fRL fRR fX fWrites fThrown)), ((g 0), Sum.inl (cI, 8, Sum.inl vMany)), ((g 1), Sum.inl (cI, 512, Sum.inl vCounts)), ((g 2), Sum.inl (cI, 512, Sum.inl vNow)), ((g 3), Sum.inl (cI, 512, Sum.inl vThen)), ((g 4), Sum.inl (cI, 600, Sum.inl vIM)), ((g 5), Sum.inl (cI, 600, Sum.inl vIW)), ((g 6), Sum.inl (cI, 9000, Sum.inl vGoing)), ((g 7), Sum.inl (cI, 9000, Sum.inl vOut)), ((g 8), Sum.inl (cI, 6000, Sum.inl vIn)), ((g 9), Sum.inl (cI, 512, Sum.inl vSO)), ((g 10), Sum.inl (cI, 512, Sum.inl vNO)), ((g 11), Sum.inl (cI, 20000, Sum.inl vWr))] ++ mbsC cI ms) H → va_D A ([(rc, Sum.inr (6, [Value.ref co, Value.ref ma, Value.int (nI ms.length), Value.int fit, Value.int fen, Value.int frd, Value.int fbd, Value.int fir])), (ma, Sum.inl (cM, 8, Sum.inr (Sum.inr (Sum.inr (Sum.inr mf))))), (co, Sum.inr (1, [Value.int xcache, Value.int xpending, Value.long xlow, Value.long xrange, Value.long xcode, Value.long xreadLow, Value.long xreadRange, Value.ref ri, Value.ref ro, Value.ref rw, Value.int xasked])), (ri, Sum.inr (0, [Value.int (nI is.length), Value.ref ria])), (ria, Sum.inl (cI, rik, Sum.inl rif)), (ro, Sum.inr (0, [Value.int (nI os.length), Value.ref roa])), (roa, Sum.inl (cI, rok, Sum.inl rof)), (rw, Sum.inr (0, [Value.int rwn, Value.ref rwa])), (rwa, Sum.inl (cI, rwk, Sum.inl rwf)), (o, Sum.inr (9, mO g 0 fShift (nI ms.length) fit fen fLow fRange fCache fPend fGoes (nI os.length) (nI is.length) frd fBad fIR fAsk fBAsk fCode fRL fRR fX fWrites fThrown)), ((g 0), Sum.inl (cI, 8, Sum.inl vMany)), ((g 1), Sum.inl (cI, 512, Sum.inl vCounts)), ((g 2), Sum.inl (cI, 512, Sum.inl vNow)), ((g 3), Sum.inl (cI, 512, Sum.inl vThen)), ((g 4), Sum.inl (cI, 600, Sum.inl vIM)), ((g 5), Sum.inl (cI, 600, Sum.inl vIW)), ((g 6), Sum.inl (cI, 9000, Sum.inl vGoing)), ((g 7), Sum.inl (cI, 9000, Sum.inl vOut)), ((g 8), Sum.inl (cI, 6000, Sum.inl vIn)), ((g 9), Sum.inl (cI, 512, Sum.inl vSO)), ((g 10), Sum.inl (cI, 512, Sum.inl vNO)), ((g 11), Sum.inl (cI, 20000, Sum.inl vWr))] ++ mbsC cI ms) → (ms.length ≤ 8) → (mfOk mf ms) → (∀ x ∈ ms, mbOk x) → (rOk (nI is.length) rik) → (rOk (nI os.length) rok) → (rOk rwn rwk) → (MD ms.length N vMany vCounts) → (∀ (j : Nat) (x : MB), ms[j]? = some x → mT_Carries (N j) vCounts vNow vThen (¬ frd = 0 ∧ fbd = 0) j x) → (TB 0 ms.length N vThen) → (fen = 0 → MT0 fit xlow xrange xcache xpending rwn rwf fLow fRange fCache fPend fGoes vGoing) → (gIs rif is) → (gIs vIn is) → (is.length ≤ 6000) → (oct is) → (gIs rof os) → (gIs vOut os) → (os.length ≤ 6000) → (oct os) → (¬ frd = 0 → fbd = fBad ∧ (fbd = 0 → RT0 cn xasked xcode xreadLow xreadRange fAsk fCode fRR)) → (dd + (rPh rik + rPh rok + rPh rwk) + 1600 * (8 - ms.length) ≤ 300000) → C9) → C9
def LV_Carries (dC : Nat → ClassId) (dI : Nat → Nat → Nat) (cI cM cO : ClassId) (A : Nat → Prop) (rc o cn dd : Nat) (H : Heap) : Prop := ∀ (C9 : Prop), (∀ (ms : List MB) (is : List Nat) (os : List Nat) (frd : Int32) (fbd : Int32) (fir : Int32) (mf : Nat → Option Nat) (ma : Nat) (co : Nat) (xcode : Int64) (xreadLow : Int64) (xreadRange : Int64) (ri : Nat) (ro : Nat) (rw : Nat) (xasked : Int32) (ria : Nat) (rik : Nat) (rif : Nat → Int32) (roa : Nat) (rok : Nat) (rof : Nat → Int32) (rwa : Nat) (rwk : Nat) (rwf : Nat → Int32) (g : Nat → Nat) (fShift : Int32) (fBad : Int32) (fIR : Int32) (fAsk : Int32) (fBAsk : Int32) (fCode : Int64) (fRL : Int64) (fRR : Int64) (fX : Int64) (fWrites : Int32) (fThrown : Int32) (vMany : Nat → Int32) (vCounts : Nat → Int32) (vNow : Nat → Int32) (vThen : Nat → Int32) (vIM : Nat → Int32) (vIW : Nat → Int32) (vGoing : Nat → Int32) (vOut : Nat → Int32) (vIn : Nat → Int32) (vSO : Nat → Int32) (vNO : Nat → Int32) (vWr : Nat → Int32) (N : Nat → Nat) (ki : Nat) (Rg : Nat) (Lw : Nat) (ca : Option Nat) (Pn : Nat) (bs : List Nat), va_P (dC, dI) vwCl ([(rc, Sum.inr (6, [Value.ref co, Value.ref ma, Value.int (nI ms.length), Value.int (nI ki), Value.int 0, Value.int frd, Value.int fbd, Value.int fir])), (ma, Sum.inl (cM, 8, Sum.inr (Sum.inr (Sum.inr (Sum.inr mf))))), (co, Sum.inr (1, [Value.int (caI ca), Value.int (nI Pn), Value.long (lN Lw), Value.long (lN Rg), Value.long xcode, Value.long xreadLow, Value.long xreadRange, Value.ref ri, Value.ref ro, Value.ref rw, Value.int xasked])), (ri, Sum.inr (0, [Value.int (nI is.length), Value.ref ria])), (ria, Sum.inl (cI, rik, Sum.inl rif)), (ro, Sum.inr (0, [Value.int (nI os.length), Value.ref roa])), (roa, Sum.inl (cI, rok, Sum.inl rof)), (rw, Sum.inr (0, [Value.int (nI bs.length), Value.ref rwa])), (rwa, Sum.inl (cI, rwk, Sum.inl rwf)), (o, Sum.inr (9, mO g 0 fShift (nI ms.length) (nI ki) 0 (lN Lw) (lN Rg) (caI ca) (nI Pn) (nI bs.length) (nI os.length) (nI is.length) frd fBad fIR fAsk fBAsk fCode fRL fRR fX fWrites fThrown)), ((g 0), Sum.inl (cI, 8, Sum.inl vMany)), ((g 1), Sum.inl (cI, 512, Sum.inl vCounts)), ((g 2), Sum.inl (cI, 512, Sum.inl vNow)), ((g 3), Sum.inl (cI, 512, Sum.inl vThen)), ((g 4), Sum.inl (cI, 600, Sum.inl vIM)), ((g 5), Sum.inl (cI, 600, Sum.inl vIW)), ((g 6), Sum.inl (cI, 9000, Sum.inl vGoing)), ((g 7), Sum.inl (cI, 9000, Sum.inl vOut)), ((g 8), Sum.inl (cI, 6000, Sum.inl vIn)), ((g 9), Sum.inl (cI, 512, Sum.inl vSO)), ((g 10), Sum.inl (cI, 512, Sum.inl vNO)), ((g 11), Sum.inl (cI, 20000, Sum.inl vWr))] ++ mbsC cI ms) H → va_D A ([(rc, Sum.inr (6, [Value.ref co, Value.ref ma, Value.int (nI ms.length), Value.int (nI ki), Value.int 0, Value.int frd, Value.int fbd, Value.int fir])), (ma, Sum.inl (cM, 8, Sum.inr (Sum.inr (Sum.inr (Sum.inr mf))))), (co, Sum.inr (1, [Value.int (caI ca), Value.int (nI Pn), Value.long (lN Lw), Value.long (lN Rg), Value.long xcode, Value.long xreadLow, Value.long xreadRange, Value.ref ri, Value.ref ro, Value.ref rw, Value.int xasked])), (ri, Sum.inr (0, [Value.int (nI is.length), Value.ref ria])), (ria, Sum.inl (cI, rik, Sum.inl rif)), (ro, Sum.inr (0, [Value.int (nI os.length), Value.ref roa])), (roa, Sum.inl (cI, rok, Sum.inl rof)), (rw, Sum.inr (0, [Value.int (nI bs.length), Value.ref rwa])), (rwa, Sum.inl (cI, rwk, Sum.inl rwf)), (o, Sum.inr (9, mO g 0 fShift (nI ms.length) (nI ki) 0 (lN Lw) (lN Rg) (caI ca) (nI Pn) (nI bs.length) (nI os.length) (nI is.length) frd fBad fIR fAsk fBAsk fCode fRL fRR fX fWrites fThrown)), ((g 0), Sum.inl (cI, 8, Sum.inl vMany)), ((g 1), Sum.inl (cI, 512, Sum.inl vCounts)), ((g 2), Sum.inl (cI, 512, Sum.inl vNow)), ((g 3), Sum.inl (cI, 512, Sum.inl vThen)), ((g 4), Sum.inl (cI, 600, Sum.inl vIM)), ((g 5), Sum.inl (cI, 600, Sum.inl vIW)), ((g 6), Sum.inl (cI, 9000, Sum.inl vGoing)), ((g 7), Sum.inl (cI, 9000, Sum.inl vOut)), ((g 8), Sum.inl (cI, 6000, Sum.inl vIn)), ((g 9), Sum.inl (cI, 512, Sum.inl vSO)), ((g 10), Sum.inl (cI, 512, Sum.inl vNO)), ((g 11), Sum.inl (cI, 20000, Sum.inl vWr))] ++ mbsC cI ms) → (ms.length ≤ 8) → (mfOk mf ms) → (∀ x ∈ ms, mbOk x) → (rOk (nI is.length) rik) → (rOk (nI os.length) rok) → (rOk (nI bs.length) rwk) → (MD ms.length N vMany vCounts) → (∀ (j : Nat) (x : MB), ms[j]? = some x → mT_Carries (N j) vCounts vNow vThen (¬ frd = 0 ∧ fbd = 0) j x) → (TB 0 ms.length N vThen) → (gIs rif is) → (gIs vIn is) → (is.length ≤ 6000) → (oct is) → (gIs rof os) → (gIs vOut os) → (os.length ≤ 6000) → (oct os) → (¬ frd = 0 → fbd = fBad ∧ (fbd = 0 → RT0 cn xasked xcode xreadLow xreadRange fAsk fCode fRR)) → (dd + (rPh rik + rPh rok + rPh rwk) + 1600 * (8 - ms.length) ≤ 300000) → (ki ≤ 600) → (gIs rwf bs) → (gIs vGoing bs) → (eInv (Rg, Lw, ca, Pn, bs)) → (oct bs) → (bs.length + Pn ≤ 12 * ki) → (lgI (72 * ki) (Rg, Lw, ca, Pn, bs)) → C9) → C9
def EN_Carries (dC : Nat → ClassId) (dI : Nat → Nat → Nat) (cI cM cO : ClassId) (A : Nat → Prop) (rc o cn dd : Nat) (H : Heap) : Prop := ∀ (C9 : Prop), (∀ (ms : List MB) (is : List Nat) (os : List Nat) (fit : Int32) (fen : Int32) (frd : Int32) (fbd : Int32) (fir : Int32) (mf : Nat → Option Nat) (ma : Nat) (co : Nat) (xcache : Int32) (xpending : Int32) (xlow : Int64) (xrange : Int64) (xcode : Int64) (xreadLow : Int64) (xreadRange : Int64) (ri : Nat) (ro : Nat) (rw : Nat) (xasked : Int32) (ria : Nat) (rik : Nat) (rif : Nat → Int32) (roa : Nat) (rok : Nat) (rof : Nat → Int32) (rwn : Int32) (rwa : Nat) (rwk : Nat) (rwf : Nat → Int32) (g : Nat → Nat) (fShift : Int32) (fLow : Int64) (fRange : Int64) (fCache : Int32) (fPend : Int32) (fGoes : Int32) (fBad : Int32) (fIR : Int32) (fAsk : Int32) (fBAsk : Int32) (fCode : Int64) (fRL : Int64) (fRR : Int64) (fX : Int64) (fWrites : Int32) (fThrown : Int32) (vMany : Nat → Int32) (vCounts : Nat → Int32) (vNow : Nat → Int32) (vThen : Nat → Int32) (vIM : Nat → Int32) (vIW : Nat → Int32) (vGoing : Nat → Int32) (vOut : Nat → Int32) (vIn : Nat → Int32) (vSO : Nat → Int32) (vNO : Nat → Int32) (vWr : Nat → Int32) (N : Nat → Nat), va_P (dC, dI) vwCl ([(rc, Sum.inr (6, [Value.ref co, Value.ref ma, Value.int (nI ms.length), Value.int fit, Value.int fen, Value.int frd, Value.int fbd, Value.int fir])), (ma, Sum.inl (cM, 8, Sum.inr (Sum.inr (Sum.inr (Sum.inr mf))))), (co, Sum.inr (1, [Value.int xcache, Value.int xpending, Value.long xlow, Value.long xrange, Value.long xcode, Value.long xreadLow, Value.long xreadRange, Value.ref ri, Value.ref ro, Value.ref rw, Value.int xasked])), (ri, Sum.inr (0, [Value.int (nI is.length), Value.ref ria])), (ria, Sum.inl (cI, rik, Sum.inl rif)), (ro, Sum.inr (0, [Value.int (nI os.length), Value.ref roa])), (roa, Sum.inl (cI, rok, Sum.inl rof)), (rw, Sum.inr (0, [Value.int rwn, Value.ref rwa])), (rwa, Sum.inl (cI, rwk, Sum.inl rwf)), (o, Sum.inr (9, mO g 0 fShift (nI ms.length) fit fen fLow fRange fCache fPend fGoes (nI os.length) (nI is.length) frd fBad fIR fAsk fBAsk fCode fRL fRR fX fWrites fThrown)), ((g 0), Sum.inl (cI, 8, Sum.inl vMany)), ((g 1), Sum.inl (cI, 512, Sum.inl vCounts)), ((g 2), Sum.inl (cI, 512, Sum.inl vNow)), ((g 3), Sum.inl (cI, 512, Sum.inl vThen)), ((g 4), Sum.inl (cI, 600, Sum.inl vIM)), ((g 5), Sum.inl (cI, 600, Sum.inl vIW)), ((g 6), Sum.inl (cI, 9000, Sum.inl vGoing)), ((g 7), Sum.inl (cI, 9000, Sum.inl vOut)), ((g 8), Sum.inl (cI, 6000, Sum.inl vIn)), ((g 9), Sum.inl (cI, 512, Sum.inl vSO)), ((g 10), Sum.inl (cI, 512, Sum.inl vNO)), ((g 11), Sum.inl (cI, 20000, Sum.inl vWr))] ++ mbsC cI ms) H → va_D A ([(rc, Sum.inr (6, [Value.ref co, Value.ref ma, Value.int (nI ms.length), Value.int fit, Value.int fen, Value.int frd, Value.int fbd, Value.int fir])), (ma, Sum.inl (cM, 8, Sum.inr (Sum.inr (Sum.inr (Sum.inr mf))))), (co, Sum.inr (1, [Value.int xcache, Value.int xpending, Value.long xlow, Value.long xrange, Value.long xcode, Value.long xreadLow, Value.long xreadRange, Value.ref ri, Value.ref ro, Value.ref rw, Value.int xasked])), (ri, Sum.inr (0, [Value.int (nI is.length), Value.ref ria])), (ria, Sum.inl (cI, rik, Sum.inl rif)), (ro, Sum.inr (0, [Value.int (nI os.length), Value.ref roa])), (roa, Sum.inl (cI, rok, Sum.inl rof)), (rw, Sum.inr (0, [Value.int rwn, Value.ref rwa])), (rwa, Sum.inl (cI, rwk, Sum.inl rwf)), (o, Sum.inr (9, mO g 0 fShift (nI ms.length) fit fen fLow fRange fCache fPend fGoes (nI os.length) (nI is.length) frd fBad fIR fAsk fBAsk fCode fRL fRR fX fWrites fThrown)), ((g 0), Sum.inl (cI, 8, Sum.inl vMany)), ((g 1), Sum.inl (cI, 512, Sum.inl vCounts)), ((g 2), Sum.inl (cI, 512, Sum.inl vNow)), ((g 3), Sum.inl (cI, 512, Sum.inl vThen)), ((g 4), Sum.inl (cI, 600, Sum.inl vIM)), ((g 5), Sum.inl (cI, 600, Sum.inl vIW)), ((g 6), Sum.inl (cI, 9000, Sum.inl vGoing)), ((g 7), Sum.inl (cI, 9000, Sum.inl vOut)), ((g 8), Sum.inl (cI, 6000, Sum.inl vIn)), ((g 9), Sum.inl (cI, 512, Sum.inl vSO)), ((g 10), Sum.inl (cI, 512, Sum.inl vNO)), ((g 11), Sum.inl (cI, 20000, Sum.inl vWr))] ++ mbsC cI ms) → (ms.length ≤ 8) → (mfOk mf ms) → (∀ x ∈ ms, mbOk x) → (rOk (nI is.length) rik) → (rOk (nI os.length) rok) → (rOk rwn rwk) → (MD ms.length N vMany vCounts) → (∀ (j : Nat) (x : MB), ms[j]? = some x → mT_Carries (N j) vCounts vNow vThen (¬ frd = 0 ∧ fbd = 0) j x) → (TB 0 ms.length N vThen) → (gIs rif is) → (gIs vIn is) → (is.length ≤ 6000) → (oct is) → (gIs rof os) → (gIs vOut os) → (os.length ≤ 6000) → (oct os) → (¬ frd = 0 → fbd = fBad ∧ (fbd = 0 → RT0 cn xasked xcode xreadLow xreadRange fAsk fCode fRR)) → (dd + (rPh rik + rPh rok + rPh rwk) + 1600 * (8 - ms.length) ≤ 300000) → (¬ fen = 0) → C9) → C9
set_option maxHeartbeats 4000000 in
theorem LI_split_Carries {dC : Nat → ClassId} {dI : Nat → Nat → Nat} {cI cM cO : ClassId} {A : Nat → Prop} {rc o cn dd : Nat} {H : Heap} (h : LI_Carries dC dI cI cM cO A rc o cn dd H) {C9 : Prop} (k1 : LV_Carries dC dI cI cM cO A rc o cn dd H → C9) (k2 : EN_Carries dC dI cI cM cO A rc o cn dd H → C9) : C9 := by
  refine h _ ?_
  intro ms is os fit fen frd fbd fir mf ma co xcache xpending xlow xrange xcode xreadLow xreadRange ri ro rw xasked ria rik rif roa rok rof rwn rwa rwk rwf g fShift fLow fRange fCache fPend fGoes fBad fIR fAsk fBAsk fCode fRL fRR fX fWrites fThrown vMany vCounts vNow vThen vIM vIW vGoing vOut vIn vSO vNO vWr N hP hD hk8 hmf hmo hri hro hrw hMD hmt hU hMS hIr hIm hI6 hIo hOr hOm hO6 hOo hRD hdd
  by_cases hfe : fen = 0
  · obtain ⟨ki, Rg, Lw, ca, Pn, bs, hki, rfl, rfl, rfl, rfl, rfl, rfl, rfl, rfl, rfl, rfl, rfl, hGc, hGm, hE, hoB, hlB, hlg⟩ := hMS hfe
    subst hfe
    exact k1 (fun C8 k8 => k8 ms is os frd fbd fir mf ma co xcode xreadLow xreadRange ri ro rw xasked ria rik rif roa rok rof rwa rwk rwf g fShift fBad fIR fAsk fBAsk fCode fRL fRR fX fWrites fThrown vMany vCounts vNow vThen vIM vIW vGoing vOut vIn vSO vNO vWr N ki Rg Lw ca Pn bs hP hD hk8 hmf hmo hri hro hrw hMD hmt hU hIr hIm hI6 hIo hOr hOm hO6 hOo hRD hdd hki hGc hGm hE hoB hlB hlg)
  · exact k2 (fun C8 k8 => k8 ms is os fit fen frd fbd fir mf ma co xcache xpending xlow xrange xcode xreadLow xreadRange ri ro rw xasked ria rik rif roa rok rof rwn rwa rwk rwf g fShift fLow fRange fCache fPend fGoes fBad fIR fAsk fBAsk fCode fRL fRR fX fWrites fThrown vMany vCounts vNow vThen vIM vIW vGoing vOut vIn vSO vNO vWr N hP hD hk8 hmf hmo hri hro hrw hMD hmt hU hIr hIm hI6 hIo hOr hOm hO6 hOo hRD hdd hfe)
def LI_NoCarries (dC : Nat → ClassId) (dI : Nat → Nat → Nat) (cI cM cO : ClassId) (A : Nat → Prop) (rc o cn dd : Nat) (H : Heap) : Prop := ∀ (C9 : Prop), (∀ (ms : List MB) (is : List Nat) (os : List Nat) (fit : Int32) (fen : Int32) (frd : Int32) (fbd : Int32) (fir : Int32) (mf : Nat → Option Nat) (ma : Nat) (co : Nat) (xlow : Int64) (xrange : Int64) (xcode : Int64) (xreadLow : Int64) (xreadRange : Int64) (ri : Nat) (ro : Nat) (rw : Nat) (xasked : Int32) (ria : Nat) (rik : Nat) (rif : Nat → Int32) (roa : Nat) (rok : Nat) (rof : Nat → Int32) (rwn : Int32) (rwa : Nat) (rwk : Nat) (rwf : Nat → Int32) (g : Nat → Nat) (fShift : Int32) (fLow : Int64) (fRange : Int64) (fCache : Int32) (fPend : Int32) (fGoes : Int32) (fBad : Int32) (fIR : Int32) (fAsk : Int32) (fBAsk : Int32) (fCode : Int64) (fRL : Int64) (fRR : Int64) (fX : Int64) (fWrites : Int32) (fThrown : Int32) (vMany : Nat → Int32) (vCounts : Nat → Int32) (vNow : Nat → Int32) (vThen : Nat → Int32) (vIM : Nat → Int32) (vIW : Nat → Int32) (vGoing : Nat → Int32) (vOut : Nat → Int32) (vIn : Nat → Int32) (vSO : Nat → Int32) (vNO : Nat → Int32) (vWr : Nat → Int32) (N : Nat → Nat), va_P (dC, dI) vwCl ([(rc, Sum.inr (6, [Value.ref co, Value.ref ma, Value.int (nI ms.length), Value.int fit, Value.int fen, Value.int frd, Value.int fbd, Value.int fir])), (ma, Sum.inl (cM, 8, Sum.inr (Sum.inr (Sum.inr (Sum.inr mf))))), (co, Sum.inr (2, [Value.long xlow, Value.long xrange, Value.long xcode, Value.long xreadLow, Value.long xreadRange, Value.ref ri, Value.ref ro, Value.ref rw, Value.int xasked])), (ri, Sum.inr (0, [Value.int (nI is.length), Value.ref ria])), (ria, Sum.inl (cI, rik, Sum.inl rif)), (ro, Sum.inr (0, [Value.int (nI os.length), Value.ref roa])), (roa, Sum.inl (cI, rok, Sum.inl rof)), (rw, Sum.inr (0, [Value.int rwn, Value.ref rwa])), (rwa, Sum.inl (cI, rwk, Sum.inl rwf)), (o, Sum.inr (9, mO g 1 fShift (nI ms.length) fit fen fLow fRange fCache fPend fGoes (nI os.length) (nI is.length) frd fBad fIR fAsk fBAsk fCode fRL fRR fX fWrites fThrown)), ((g 0), Sum.inl (cI, 8, Sum.inl vMany)), ((g 1), Sum.inl (cI, 512, Sum.inl vCounts)), ((g 2), Sum.inl (cI, 512, Sum.inl vNow)), ((g 3), Sum.inl (cI, 512, Sum.inl vThen)), ((g 4), Sum.inl (cI, 600, Sum.inl vIM)), ((g 5), Sum.inl (cI, 600, Sum.inl vIW)), ((g 6), Sum.inl (cI, 9000, Sum.inl vGoing)), ((g 7), Sum.inl (cI, 9000, Sum.inl vOut)), ((g 8), Sum.inl (cI, 6000, Sum.inl vIn)), ((g 9), Sum.inl (cI, 512, Sum.inl vSO)), ((g 10), Sum.inl (cI, 512, Sum.inl vNO)), ((g 11), Sum.inl (cI, 20000, Sum.inl vWr))] ++ mbsC cI ms) H → va_D A ([(rc, Sum.inr (6, [Value.ref co, Value.ref ma, Value.int (nI ms.length), Value.int fit, Value.int fen, Value.int frd, Value.int fbd, Value.int fir])), (ma, Sum.inl (cM, 8, Sum.inr (Sum.inr (Sum.inr (Sum.inr mf))))), (co, Sum.inr (2, [Value.long xlow, Value.long xrange, Value.long xcode, Value.long xreadLow, Value.long xreadRange, Value.ref ri, Value.ref ro, Value.ref rw, Value.int xasked])), (ri, Sum.inr (0, [Value.int (nI is.length), Value.ref ria])), (ria, Sum.inl (cI, rik, Sum.inl rif)), (ro, Sum.inr (0, [Value.int (nI os.length), Value.ref roa])), (roa, Sum.inl (cI, rok, Sum.inl rof)), (rw, Sum.inr (0, [Value.int rwn, Value.ref rwa])), (rwa, Sum.inl (cI, rwk, Sum.inl rwf)), (o, Sum.inr (9, mO g 1 fShift (nI ms.length) fit fen fLow fRange fCache fPend fGoes (nI os.length) (nI is.length) frd fBad fIR fAsk fBAsk fCode fRL fRR fX fWrites fThrown)), ((g 0), Sum.inl (cI, 8, Sum.inl vMany)), ((g 1), Sum.inl (cI, 512, Sum.inl vCounts)), ((g 2), Sum.inl (cI, 512, Sum.inl vNow)), ((g 3), Sum.inl (cI, 512, Sum.inl vThen)), ((g 4), Sum.inl (cI, 600, Sum.inl vIM)), ((g 5), Sum.inl (cI, 600, Sum.inl vIW)), ((g 6), Sum.inl (cI, 9000, Sum.inl vGoing)), ((g 7), Sum.inl (cI, 9000, Sum.inl vOut)), ((g 8), Sum.inl (cI, 6000, Sum.inl vIn)), ((g 9), Sum.inl (cI, 512, Sum.inl vSO)), ((g 10), Sum.inl (cI, 512, Sum.inl vNO)), ((g 11), Sum.inl (cI, 20000, Sum.inl vWr))] ++ mbsC cI ms) → (ms.length ≤ 8) → (mfOk mf ms) → (∀ x ∈ ms, mbOk x) → (rOk (nI is.length) rik) → (rOk (nI os.length) rok) → (rOk rwn rwk) → (MD ms.length N vMany vCounts) → (∀ (j : Nat) (x : MB), ms[j]? = some x → mT_NoCarries (N j) vCounts vNow vThen (¬ frd = 0 ∧ fbd = 0) j x) → (TB 1 ms.length N vThen) → (fen = 0 → MT1 fit xlow xrange rwn rwf fLow fRange fGoes vGoing) → (gIs rif is) → (gIs vIn is) → (is.length ≤ 6000) → (oct is) → (gIs rof os) → (gIs vOut os) → (os.length ≤ 6000) → (oct os) → (¬ frd = 0 → fbd = fBad ∧ (fbd = 0 → RT1 cn xasked xcode xreadLow xreadRange fAsk fCode fRL fRR)) → (dd + (rPh rik + rPh rok + rPh rwk) + 1600 * (8 - ms.length) ≤ 300000) → C9) → C9
def LV_NoCarries (dC : Nat → ClassId) (dI : Nat → Nat → Nat) (cI cM cO : ClassId) (A : Nat → Prop) (rc o cn dd : Nat) (H : Heap) : Prop := ∀ (C9 : Prop), (∀ (ms : List MB) (is : List Nat) (os : List Nat) (frd : Int32) (fbd : Int32) (fir : Int32) (mf : Nat → Option Nat) (ma : Nat) (co : Nat) (xcode : Int64) (xreadLow : Int64) (xreadRange : Int64) (ri : Nat) (ro : Nat) (rw : Nat) (xasked : Int32) (ria : Nat) (rik : Nat) (rif : Nat → Int32) (roa : Nat) (rok : Nat) (rof : Nat → Int32) (rwa : Nat) (rwk : Nat) (rwf : Nat → Int32) (g : Nat → Nat) (fShift : Int32) (fCache : Int32) (fPend : Int32) (fBad : Int32) (fIR : Int32) (fAsk : Int32) (fBAsk : Int32) (fCode : Int64) (fRL : Int64) (fRR : Int64) (fX : Int64) (fWrites : Int32) (fThrown : Int32) (vMany : Nat → Int32) (vCounts : Nat → Int32) (vNow : Nat → Int32) (vThen : Nat → Int32) (vIM : Nat → Int32) (vIW : Nat → Int32) (vGoing : Nat → Int32) (vOut : Nat → Int32) (vIn : Nat → Int32) (vSO : Nat → Int32) (vNO : Nat → Int32) (vWr : Nat → Int32) (N : Nat → Nat) (ki : Nat) (Rg : Nat) (Lw : Nat) (bs : List Nat), va_P (dC, dI) vwCl ([(rc, Sum.inr (6, [Value.ref co, Value.ref ma, Value.int (nI ms.length), Value.int (nI ki), Value.int 0, Value.int frd, Value.int fbd, Value.int fir])), (ma, Sum.inl (cM, 8, Sum.inr (Sum.inr (Sum.inr (Sum.inr mf))))), (co, Sum.inr (2, [Value.long (lN Lw), Value.long (lN Rg), Value.long xcode, Value.long xreadLow, Value.long xreadRange, Value.ref ri, Value.ref ro, Value.ref rw, Value.int xasked])), (ri, Sum.inr (0, [Value.int (nI is.length), Value.ref ria])), (ria, Sum.inl (cI, rik, Sum.inl rif)), (ro, Sum.inr (0, [Value.int (nI os.length), Value.ref roa])), (roa, Sum.inl (cI, rok, Sum.inl rof)), (rw, Sum.inr (0, [Value.int (nI bs.length), Value.ref rwa])), (rwa, Sum.inl (cI, rwk, Sum.inl rwf)), (o, Sum.inr (9, mO g 1 fShift (nI ms.length) (nI ki) 0 (lN Lw) (lN Rg) fCache fPend (nI bs.length) (nI os.length) (nI is.length) frd fBad fIR fAsk fBAsk fCode fRL fRR fX fWrites fThrown)), ((g 0), Sum.inl (cI, 8, Sum.inl vMany)), ((g 1), Sum.inl (cI, 512, Sum.inl vCounts)), ((g 2), Sum.inl (cI, 512, Sum.inl vNow)), ((g 3), Sum.inl (cI, 512, Sum.inl vThen)), ((g 4), Sum.inl (cI, 600, Sum.inl vIM)), ((g 5), Sum.inl (cI, 600, Sum.inl vIW)), ((g 6), Sum.inl (cI, 9000, Sum.inl vGoing)), ((g 7), Sum.inl (cI, 9000, Sum.inl vOut)), ((g 8), Sum.inl (cI, 6000, Sum.inl vIn)), ((g 9), Sum.inl (cI, 512, Sum.inl vSO)), ((g 10), Sum.inl (cI, 512, Sum.inl vNO)), ((g 11), Sum.inl (cI, 20000, Sum.inl vWr))] ++ mbsC cI ms) H → va_D A ([(rc, Sum.inr (6, [Value.ref co, Value.ref ma, Value.int (nI ms.length), Value.int (nI ki), Value.int 0, Value.int frd, Value.int fbd, Value.int fir])), (ma, Sum.inl (cM, 8, Sum.inr (Sum.inr (Sum.inr (Sum.inr mf))))), (co, Sum.inr (2, [Value.long (lN Lw), Value.long (lN Rg), Value.long xcode, Value.long xreadLow, Value.long xreadRange, Value.ref ri, Value.ref ro, Value.ref rw, Value.int xasked])), (ri, Sum.inr (0, [Value.int (nI is.length), Value.ref ria])), (ria, Sum.inl (cI, rik, Sum.inl rif)), (ro, Sum.inr (0, [Value.int (nI os.length), Value.ref roa])), (roa, Sum.inl (cI, rok, Sum.inl rof)), (rw, Sum.inr (0, [Value.int (nI bs.length), Value.ref rwa])), (rwa, Sum.inl (cI, rwk, Sum.inl rwf)), (o, Sum.inr (9, mO g 1 fShift (nI ms.length) (nI ki) 0 (lN Lw) (lN Rg) fCache fPend (nI bs.length) (nI os.length) (nI is.length) frd fBad fIR fAsk fBAsk fCode fRL fRR fX fWrites fThrown)), ((g 0), Sum.inl (cI, 8, Sum.inl vMany)), ((g 1), Sum.inl (cI, 512, Sum.inl vCounts)), ((g 2), Sum.inl (cI, 512, Sum.inl vNow)), ((g 3), Sum.inl (cI, 512, Sum.inl vThen)), ((g 4), Sum.inl (cI, 600, Sum.inl vIM)), ((g 5), Sum.inl (cI, 600, Sum.inl vIW)), ((g 6), Sum.inl (cI, 9000, Sum.inl vGoing)), ((g 7), Sum.inl (cI, 9000, Sum.inl vOut)), ((g 8), Sum.inl (cI, 6000, Sum.inl vIn)), ((g 9), Sum.inl (cI, 512, Sum.inl vSO)), ((g 10), Sum.inl (cI, 512, Sum.inl vNO)), ((g 11), Sum.inl (cI, 20000, Sum.inl vWr))] ++ mbsC cI ms) → (ms.length ≤ 8) → (mfOk mf ms) → (∀ x ∈ ms, mbOk x) → (rOk (nI is.length) rik) → (rOk (nI os.length) rok) → (rOk (nI bs.length) rwk) → (MD ms.length N vMany vCounts) → (∀ (j : Nat) (x : MB), ms[j]? = some x → mT_NoCarries (N j) vCounts vNow vThen (¬ frd = 0 ∧ fbd = 0) j x) → (TB 1 ms.length N vThen) → (gIs rif is) → (gIs vIn is) → (is.length ≤ 6000) → (oct is) → (gIs rof os) → (gIs vOut os) → (os.length ≤ 6000) → (oct os) → (¬ frd = 0 → fbd = fBad ∧ (fbd = 0 → RT1 cn xasked xcode xreadLow xreadRange fAsk fCode fRL fRR)) → (dd + (rPh rik + rPh rok + rPh rwk) + 1600 * (8 - ms.length) ≤ 300000) → (ki ≤ 600) → (gIs rwf bs) → (gIs vGoing bs) → (pOk Rg Lw) → (65536 ≤ Rg) → (oct bs) → (bs.length ≤ 4 * ki) → C9) → C9
def EN_NoCarries (dC : Nat → ClassId) (dI : Nat → Nat → Nat) (cI cM cO : ClassId) (A : Nat → Prop) (rc o cn dd : Nat) (H : Heap) : Prop := ∀ (C9 : Prop), (∀ (ms : List MB) (is : List Nat) (os : List Nat) (fit : Int32) (fen : Int32) (frd : Int32) (fbd : Int32) (fir : Int32) (mf : Nat → Option Nat) (ma : Nat) (co : Nat) (xlow : Int64) (xrange : Int64) (xcode : Int64) (xreadLow : Int64) (xreadRange : Int64) (ri : Nat) (ro : Nat) (rw : Nat) (xasked : Int32) (ria : Nat) (rik : Nat) (rif : Nat → Int32) (roa : Nat) (rok : Nat) (rof : Nat → Int32) (rwn : Int32) (rwa : Nat) (rwk : Nat) (rwf : Nat → Int32) (g : Nat → Nat) (fShift : Int32) (fLow : Int64) (fRange : Int64) (fCache : Int32) (fPend : Int32) (fGoes : Int32) (fBad : Int32) (fIR : Int32) (fAsk : Int32) (fBAsk : Int32) (fCode : Int64) (fRL : Int64) (fRR : Int64) (fX : Int64) (fWrites : Int32) (fThrown : Int32) (vMany : Nat → Int32) (vCounts : Nat → Int32) (vNow : Nat → Int32) (vThen : Nat → Int32) (vIM : Nat → Int32) (vIW : Nat → Int32) (vGoing : Nat → Int32) (vOut : Nat → Int32) (vIn : Nat → Int32) (vSO : Nat → Int32) (vNO : Nat → Int32) (vWr : Nat → Int32) (N : Nat → Nat), va_P (dC, dI) vwCl ([(rc, Sum.inr (6, [Value.ref co, Value.ref ma, Value.int (nI ms.length), Value.int fit, Value.int fen, Value.int frd, Value.int fbd, Value.int fir])), (ma, Sum.inl (cM, 8, Sum.inr (Sum.inr (Sum.inr (Sum.inr mf))))), (co, Sum.inr (2, [Value.long xlow, Value.long xrange, Value.long xcode, Value.long xreadLow, Value.long xreadRange, Value.ref ri, Value.ref ro, Value.ref rw, Value.int xasked])), (ri, Sum.inr (0, [Value.int (nI is.length), Value.ref ria])), (ria, Sum.inl (cI, rik, Sum.inl rif)), (ro, Sum.inr (0, [Value.int (nI os.length), Value.ref roa])), (roa, Sum.inl (cI, rok, Sum.inl rof)), (rw, Sum.inr (0, [Value.int rwn, Value.ref rwa])), (rwa, Sum.inl (cI, rwk, Sum.inl rwf)), (o, Sum.inr (9, mO g 1 fShift (nI ms.length) fit fen fLow fRange fCache fPend fGoes (nI os.length) (nI is.length) frd fBad fIR fAsk fBAsk fCode fRL fRR fX fWrites fThrown)), ((g 0), Sum.inl (cI, 8, Sum.inl vMany)), ((g 1), Sum.inl (cI, 512, Sum.inl vCounts)), ((g 2), Sum.inl (cI, 512, Sum.inl vNow)), ((g 3), Sum.inl (cI, 512, Sum.inl vThen)), ((g 4), Sum.inl (cI, 600, Sum.inl vIM)), ((g 5), Sum.inl (cI, 600, Sum.inl vIW)), ((g 6), Sum.inl (cI, 9000, Sum.inl vGoing)), ((g 7), Sum.inl (cI, 9000, Sum.inl vOut)), ((g 8), Sum.inl (cI, 6000, Sum.inl vIn)), ((g 9), Sum.inl (cI, 512, Sum.inl vSO)), ((g 10), Sum.inl (cI, 512, Sum.inl vNO)), ((g 11), Sum.inl (cI, 20000, Sum.inl vWr))] ++ mbsC cI ms) H → va_D A ([(rc, Sum.inr (6, [Value.ref co, Value.ref ma, Value.int (nI ms.length), Value.int fit, Value.int fen, Value.int frd, Value.int fbd, Value.int fir])), (ma, Sum.inl (cM, 8, Sum.inr (Sum.inr (Sum.inr (Sum.inr mf))))), (co, Sum.inr (2, [Value.long xlow, Value.long xrange, Value.long xcode, Value.long xreadLow, Value.long xreadRange, Value.ref ri, Value.ref ro, Value.ref rw, Value.int xasked])), (ri, Sum.inr (0, [Value.int (nI is.length), Value.ref ria])), (ria, Sum.inl (cI, rik, Sum.inl rif)), (ro, Sum.inr (0, [Value.int (nI os.length), Value.ref roa])), (roa, Sum.inl (cI, rok, Sum.inl rof)), (rw, Sum.inr (0, [Value.int rwn, Value.ref rwa])), (rwa, Sum.inl (cI, rwk, Sum.inl rwf)), (o, Sum.inr (9, mO g 1 fShift (nI ms.length) fit fen fLow fRange fCache fPend fGoes (nI os.length) (nI is.length) frd fBad fIR fAsk fBAsk fCode fRL fRR fX fWrites fThrown)), ((g 0), Sum.inl (cI, 8, Sum.inl vMany)), ((g 1), Sum.inl (cI, 512, Sum.inl vCounts)), ((g 2), Sum.inl (cI, 512, Sum.inl vNow)), ((g 3), Sum.inl (cI, 512, Sum.inl vThen)), ((g 4), Sum.inl (cI, 600, Sum.inl vIM)), ((g 5), Sum.inl (cI, 600, Sum.inl vIW)), ((g 6), Sum.inl (cI, 9000, Sum.inl vGoing)), ((g 7), Sum.inl (cI, 9000, Sum.inl vOut)), ((g 8), Sum.inl (cI, 6000, Sum.inl vIn)), ((g 9), Sum.inl (cI, 512, Sum.inl vSO)), ((g 10), Sum.inl (cI, 512, Sum.inl vNO)), ((g 11), Sum.inl (cI, 20000, Sum.inl vWr))] ++ mbsC cI ms) → (ms.length ≤ 8) → (mfOk mf ms) → (∀ x ∈ ms, mbOk x) → (rOk (nI is.length) rik) → (rOk (nI os.length) rok) → (rOk rwn rwk) → (MD ms.length N vMany vCounts) → (∀ (j : Nat) (x : MB), ms[j]? = some x → mT_NoCarries (N j) vCounts vNow vThen (¬ frd = 0 ∧ fbd = 0) j x) → (TB 1 ms.length N vThen) → (gIs rif is) → (gIs vIn is) → (is.length ≤ 6000) → (oct is) → (gIs rof os) → (gIs vOut os) → (os.length ≤ 6000) → (oct os) → (¬ frd = 0 → fbd = fBad ∧ (fbd = 0 → RT1 cn xasked xcode xreadLow xreadRange fAsk fCode fRL fRR)) → (dd + (rPh rik + rPh rok + rPh rwk) + 1600 * (8 - ms.length) ≤ 300000) → (¬ fen = 0) → C9) → C9
set_option maxHeartbeats 4000000 in
theorem LI_split_NoCarries {dC : Nat → ClassId} {dI : Nat → Nat → Nat} {cI cM cO : ClassId} {A : Nat → Prop} {rc o cn dd : Nat} {H : Heap} (h : LI_NoCarries dC dI cI cM cO A rc o cn dd H) {C9 : Prop} (k1 : LV_NoCarries dC dI cI cM cO A rc o cn dd H → C9) (k2 : EN_NoCarries dC dI cI cM cO A rc o cn dd H → C9) : C9 := by
  refine h _ ?_
  intro ms is os fit fen frd fbd fir mf ma co xlow xrange xcode xreadLow xreadRange ri ro rw xasked ria rik rif roa rok rof rwn rwa rwk rwf g fShift fLow fRange fCache fPend fGoes fBad fIR fAsk fBAsk fCode fRL fRR fX fWrites fThrown vMany vCounts vNow vThen vIM vIW vGoing vOut vIn vSO vNO vWr N hP hD hk8 hmf hmo hri hro hrw hMD hmt hU hMS hIr hIm hI6 hIo hOr hOm hO6 hOo hRD hdd
  by_cases hfe : fen = 0
  · obtain ⟨ki, Rg, Lw, bs, hki, rfl, rfl, rfl, rfl, rfl, rfl, rfl, hGc, hGm, hp, hR6, hoB, hlB⟩ := hMS hfe
    subst hfe
    exact k1 (fun C8 k8 => k8 ms is os frd fbd fir mf ma co xcode xreadLow xreadRange ri ro rw xasked ria rik rif roa rok rof rwa rwk rwf g fShift fCache fPend fBad fIR fAsk fBAsk fCode fRL fRR fX fWrites fThrown vMany vCounts vNow vThen vIM vIW vGoing vOut vIn vSO vNO vWr N ki Rg Lw bs hP hD hk8 hmf hmo hri hro hrw hMD hmt hU hIr hIm hI6 hIo hOr hOm hO6 hOo hRD hdd hki hGc hGm hp hR6 hoB hlB)
  · exact k2 (fun C8 k8 => k8 ms is os fit fen frd fbd fir mf ma co xlow xrange xcode xreadLow xreadRange ri ro rw xasked ria rik rif roa rok rof rwn rwa rwk rwf g fShift fLow fRange fCache fPend fGoes fBad fIR fAsk fBAsk fCode fRL fRR fX fWrites fThrown vMany vCounts vNow vThen vIM vIW vGoing vOut vIn vSO vNO vWr N hP hD hk8 hmf hmo hri hro hrw hMD hmt hU hIr hIm hI6 hIo hOr hOm hO6 hOo hRD hdd hfe)
def LI_Bits (dC : Nat → ClassId) (dI : Nat → Nat → Nat) (cI cM cO : ClassId) (A : Nat → Prop) (rc o cn dd : Nat) (H : Heap) : Prop := ∀ (C9 : Prop), (∀ (ms : List MB) (is : List Nat) (os : List Nat) (fit : Int32) (fen : Int32) (frd : Int32) (fbd : Int32) (fir : Int32) (mf : Nat → Option Nat) (ma : Nat) (co : Nat) (xkeptCode : Int64) (xkeptRange : Int64) (xkeptAsked : Int32) (xcache : Int32) (xpending : Int32) (xlow : Int64) (xrange : Int64) (xcode : Int64) (xreadLow : Int64) (xreadRange : Int64) (ri : Nat) (ro : Nat) (rw : Nat) (xasked : Int32) (ria : Nat) (rik : Nat) (rif : Nat → Int32) (roa : Nat) (rok : Nat) (rof : Nat → Int32) (rwn : Int32) (rwa : Nat) (rwk : Nat) (rwf : Nat → Int32) (g : Nat → Nat) (fLow : Int64) (fRange : Int64) (fCache : Int32) (fPend : Int32) (fGoes : Int32) (fBad : Int32) (fIR : Int32) (fAsk : Int32) (fBAsk : Int32) (fCode : Int64) (fRL : Int64) (fRR : Int64) (fX : Int64) (fWrites : Int32) (fThrown : Int32) (vMany : Nat → Int32) (vCounts : Nat → Int32) (vNow : Nat → Int32) (vThen : Nat → Int32) (vIM : Nat → Int32) (vIW : Nat → Int32) (vGoing : Nat → Int32) (vOut : Nat → Int32) (vIn : Nat → Int32) (vSO : Nat → Int32) (vNO : Nat → Int32) (vWr : Nat → Int32) (N : Nat → Nat) (sh : Nat), va_P (dC, dI) vwCl ([(rc, Sum.inr (6, [Value.ref co, Value.ref ma, Value.int (nI ms.length), Value.int fit, Value.int fen, Value.int frd, Value.int fbd, Value.int fir])), (ma, Sum.inl (cM, 8, Sum.inr (Sum.inr (Sum.inr (Sum.inr mf))))), (co, Sum.inr (3, [Value.int (nI sh), Value.long xkeptCode, Value.long xkeptRange, Value.int xkeptAsked, Value.int xcache, Value.int xpending, Value.long xlow, Value.long xrange, Value.long xcode, Value.long xreadLow, Value.long xreadRange, Value.ref ri, Value.ref ro, Value.ref rw, Value.int xasked])), (ri, Sum.inr (0, [Value.int (nI is.length), Value.ref ria])), (ria, Sum.inl (cI, rik, Sum.inl rif)), (ro, Sum.inr (0, [Value.int (nI os.length), Value.ref roa])), (roa, Sum.inl (cI, rok, Sum.inl rof)), (rw, Sum.inr (0, [Value.int rwn, Value.ref rwa])), (rwa, Sum.inl (cI, rwk, Sum.inl rwf)), (o, Sum.inr (9, mO g 2 (nI sh) (nI ms.length) fit fen fLow fRange fCache fPend fGoes (nI os.length) (nI is.length) frd fBad fIR fAsk fBAsk fCode fRL fRR fX fWrites fThrown)), ((g 0), Sum.inl (cI, 8, Sum.inl vMany)), ((g 1), Sum.inl (cI, 512, Sum.inl vCounts)), ((g 2), Sum.inl (cI, 512, Sum.inl vNow)), ((g 3), Sum.inl (cI, 512, Sum.inl vThen)), ((g 4), Sum.inl (cI, 600, Sum.inl vIM)), ((g 5), Sum.inl (cI, 600, Sum.inl vIW)), ((g 6), Sum.inl (cI, 9000, Sum.inl vGoing)), ((g 7), Sum.inl (cI, 9000, Sum.inl vOut)), ((g 8), Sum.inl (cI, 6000, Sum.inl vIn)), ((g 9), Sum.inl (cI, 512, Sum.inl vSO)), ((g 10), Sum.inl (cI, 512, Sum.inl vNO)), ((g 11), Sum.inl (cI, 20000, Sum.inl vWr))] ++ mbsC cI ms) H → va_D A ([(rc, Sum.inr (6, [Value.ref co, Value.ref ma, Value.int (nI ms.length), Value.int fit, Value.int fen, Value.int frd, Value.int fbd, Value.int fir])), (ma, Sum.inl (cM, 8, Sum.inr (Sum.inr (Sum.inr (Sum.inr mf))))), (co, Sum.inr (3, [Value.int (nI sh), Value.long xkeptCode, Value.long xkeptRange, Value.int xkeptAsked, Value.int xcache, Value.int xpending, Value.long xlow, Value.long xrange, Value.long xcode, Value.long xreadLow, Value.long xreadRange, Value.ref ri, Value.ref ro, Value.ref rw, Value.int xasked])), (ri, Sum.inr (0, [Value.int (nI is.length), Value.ref ria])), (ria, Sum.inl (cI, rik, Sum.inl rif)), (ro, Sum.inr (0, [Value.int (nI os.length), Value.ref roa])), (roa, Sum.inl (cI, rok, Sum.inl rof)), (rw, Sum.inr (0, [Value.int rwn, Value.ref rwa])), (rwa, Sum.inl (cI, rwk, Sum.inl rwf)), (o, Sum.inr (9, mO g 2 (nI sh) (nI ms.length) fit fen fLow fRange fCache fPend fGoes (nI os.length) (nI is.length) frd fBad fIR fAsk fBAsk fCode fRL fRR fX fWrites fThrown)), ((g 0), Sum.inl (cI, 8, Sum.inl vMany)), ((g 1), Sum.inl (cI, 512, Sum.inl vCounts)), ((g 2), Sum.inl (cI, 512, Sum.inl vNow)), ((g 3), Sum.inl (cI, 512, Sum.inl vThen)), ((g 4), Sum.inl (cI, 600, Sum.inl vIM)), ((g 5), Sum.inl (cI, 600, Sum.inl vIW)), ((g 6), Sum.inl (cI, 9000, Sum.inl vGoing)), ((g 7), Sum.inl (cI, 9000, Sum.inl vOut)), ((g 8), Sum.inl (cI, 6000, Sum.inl vIn)), ((g 9), Sum.inl (cI, 512, Sum.inl vSO)), ((g 10), Sum.inl (cI, 512, Sum.inl vNO)), ((g 11), Sum.inl (cI, 20000, Sum.inl vWr))] ++ mbsC cI ms) → (ms.length ≤ 8) → (mfOk mf ms) → (∀ x ∈ ms, mbOk x) → (rOk (nI is.length) rik) → (rOk (nI os.length) rok) → (rOk rwn rwk) → (1 ≤ sh) → (sh ≤ 10) → (MD ms.length N vMany vCounts) → (∀ (j : Nat) (x : MB), ms[j]? = some x → mT_Bits (N j) vCounts vNow vThen (¬ frd = 0 ∧ fbd = 0) j x) → (TB 2 ms.length N vThen) → (fen = 0 → MT0 fit xlow xrange xcache xpending rwn rwf fLow fRange fCache fPend fGoes vGoing) → (gIs rif is) → (gIs vIn is) → (is.length ≤ 6000) → (oct is) → (gIs rof os) → (gIs vOut os) → (os.length ≤ 6000) → (oct os) → (¬ frd = 0 → fbd = fBad ∧ (fbd = 0 → RT2 cn xasked xcode xreadRange fAsk fCode fRR)) → (dd + (rPh rik + rPh rok + rPh rwk) + 1600 * (8 - ms.length) ≤ 300000) → C9) → C9
def LV_Bits (dC : Nat → ClassId) (dI : Nat → Nat → Nat) (cI cM cO : ClassId) (A : Nat → Prop) (rc o cn dd : Nat) (H : Heap) : Prop := ∀ (C9 : Prop), (∀ (ms : List MB) (is : List Nat) (os : List Nat) (frd : Int32) (fbd : Int32) (fir : Int32) (mf : Nat → Option Nat) (ma : Nat) (co : Nat) (xkeptCode : Int64) (xkeptRange : Int64) (xkeptAsked : Int32) (xcode : Int64) (xreadLow : Int64) (xreadRange : Int64) (ri : Nat) (ro : Nat) (rw : Nat) (xasked : Int32) (ria : Nat) (rik : Nat) (rif : Nat → Int32) (roa : Nat) (rok : Nat) (rof : Nat → Int32) (rwa : Nat) (rwk : Nat) (rwf : Nat → Int32) (g : Nat → Nat) (fBad : Int32) (fIR : Int32) (fAsk : Int32) (fBAsk : Int32) (fCode : Int64) (fRL : Int64) (fRR : Int64) (fX : Int64) (fWrites : Int32) (fThrown : Int32) (vMany : Nat → Int32) (vCounts : Nat → Int32) (vNow : Nat → Int32) (vThen : Nat → Int32) (vIM : Nat → Int32) (vIW : Nat → Int32) (vGoing : Nat → Int32) (vOut : Nat → Int32) (vIn : Nat → Int32) (vSO : Nat → Int32) (vNO : Nat → Int32) (vWr : Nat → Int32) (N : Nat → Nat) (sh : Nat) (ki : Nat) (Rg : Nat) (Lw : Nat) (ca : Option Nat) (Pn : Nat) (bs : List Nat), va_P (dC, dI) vwCl ([(rc, Sum.inr (6, [Value.ref co, Value.ref ma, Value.int (nI ms.length), Value.int (nI ki), Value.int 0, Value.int frd, Value.int fbd, Value.int fir])), (ma, Sum.inl (cM, 8, Sum.inr (Sum.inr (Sum.inr (Sum.inr mf))))), (co, Sum.inr (3, [Value.int (nI sh), Value.long xkeptCode, Value.long xkeptRange, Value.int xkeptAsked, Value.int (caI ca), Value.int (nI Pn), Value.long (lN Lw), Value.long (lN Rg), Value.long xcode, Value.long xreadLow, Value.long xreadRange, Value.ref ri, Value.ref ro, Value.ref rw, Value.int xasked])), (ri, Sum.inr (0, [Value.int (nI is.length), Value.ref ria])), (ria, Sum.inl (cI, rik, Sum.inl rif)), (ro, Sum.inr (0, [Value.int (nI os.length), Value.ref roa])), (roa, Sum.inl (cI, rok, Sum.inl rof)), (rw, Sum.inr (0, [Value.int (nI bs.length), Value.ref rwa])), (rwa, Sum.inl (cI, rwk, Sum.inl rwf)), (o, Sum.inr (9, mO g 2 (nI sh) (nI ms.length) (nI ki) 0 (lN Lw) (lN Rg) (caI ca) (nI Pn) (nI bs.length) (nI os.length) (nI is.length) frd fBad fIR fAsk fBAsk fCode fRL fRR fX fWrites fThrown)), ((g 0), Sum.inl (cI, 8, Sum.inl vMany)), ((g 1), Sum.inl (cI, 512, Sum.inl vCounts)), ((g 2), Sum.inl (cI, 512, Sum.inl vNow)), ((g 3), Sum.inl (cI, 512, Sum.inl vThen)), ((g 4), Sum.inl (cI, 600, Sum.inl vIM)), ((g 5), Sum.inl (cI, 600, Sum.inl vIW)), ((g 6), Sum.inl (cI, 9000, Sum.inl vGoing)), ((g 7), Sum.inl (cI, 9000, Sum.inl vOut)), ((g 8), Sum.inl (cI, 6000, Sum.inl vIn)), ((g 9), Sum.inl (cI, 512, Sum.inl vSO)), ((g 10), Sum.inl (cI, 512, Sum.inl vNO)), ((g 11), Sum.inl (cI, 20000, Sum.inl vWr))] ++ mbsC cI ms) H → va_D A ([(rc, Sum.inr (6, [Value.ref co, Value.ref ma, Value.int (nI ms.length), Value.int (nI ki), Value.int 0, Value.int frd, Value.int fbd, Value.int fir])), (ma, Sum.inl (cM, 8, Sum.inr (Sum.inr (Sum.inr (Sum.inr mf))))), (co, Sum.inr (3, [Value.int (nI sh), Value.long xkeptCode, Value.long xkeptRange, Value.int xkeptAsked, Value.int (caI ca), Value.int (nI Pn), Value.long (lN Lw), Value.long (lN Rg), Value.long xcode, Value.long xreadLow, Value.long xreadRange, Value.ref ri, Value.ref ro, Value.ref rw, Value.int xasked])), (ri, Sum.inr (0, [Value.int (nI is.length), Value.ref ria])), (ria, Sum.inl (cI, rik, Sum.inl rif)), (ro, Sum.inr (0, [Value.int (nI os.length), Value.ref roa])), (roa, Sum.inl (cI, rok, Sum.inl rof)), (rw, Sum.inr (0, [Value.int (nI bs.length), Value.ref rwa])), (rwa, Sum.inl (cI, rwk, Sum.inl rwf)), (o, Sum.inr (9, mO g 2 (nI sh) (nI ms.length) (nI ki) 0 (lN Lw) (lN Rg) (caI ca) (nI Pn) (nI bs.length) (nI os.length) (nI is.length) frd fBad fIR fAsk fBAsk fCode fRL fRR fX fWrites fThrown)), ((g 0), Sum.inl (cI, 8, Sum.inl vMany)), ((g 1), Sum.inl (cI, 512, Sum.inl vCounts)), ((g 2), Sum.inl (cI, 512, Sum.inl vNow)), ((g 3), Sum.inl (cI, 512, Sum.inl vThen)), ((g 4), Sum.inl (cI, 600, Sum.inl vIM)), ((g 5), Sum.inl (cI, 600, Sum.inl vIW)), ((g 6), Sum.inl (cI, 9000, Sum.inl vGoing)), ((g 7), Sum.inl (cI, 9000, Sum.inl vOut)), ((g 8), Sum.inl (cI, 6000, Sum.inl vIn)), ((g 9), Sum.inl (cI, 512, Sum.inl vSO)), ((g 10), Sum.inl (cI, 512, Sum.inl vNO)), ((g 11), Sum.inl (cI, 20000, Sum.inl vWr))] ++ mbsC cI ms) → (ms.length ≤ 8) → (mfOk mf ms) → (∀ x ∈ ms, mbOk x) → (rOk (nI is.length) rik) → (rOk (nI os.length) rok) → (rOk (nI bs.length) rwk) → (1 ≤ sh) → (sh ≤ 10) → (MD ms.length N vMany vCounts) → (∀ (j : Nat) (x : MB), ms[j]? = some x → mT_Bits (N j) vCounts vNow vThen (¬ frd = 0 ∧ fbd = 0) j x) → (TB 2 ms.length N vThen) → (gIs rif is) → (gIs vIn is) → (is.length ≤ 6000) → (oct is) → (gIs rof os) → (gIs vOut os) → (os.length ≤ 6000) → (oct os) → (¬ frd = 0 → fbd = fBad ∧ (fbd = 0 → RT2 cn xasked xcode xreadRange fAsk fCode fRR)) → (dd + (rPh rik + rPh rok + rPh rwk) + 1600 * (8 - ms.length) ≤ 300000) → (ki ≤ 600) → (gIs rwf bs) → (gIs vGoing bs) → (eInv (Rg, Lw, ca, Pn, bs)) → (oct bs) → (bs.length + Pn ≤ 12 * ki) → (lgI (72 * ki) (Rg, Lw, ca, Pn, bs)) → C9) → C9
def EN_Bits (dC : Nat → ClassId) (dI : Nat → Nat → Nat) (cI cM cO : ClassId) (A : Nat → Prop) (rc o cn dd : Nat) (H : Heap) : Prop := ∀ (C9 : Prop), (∀ (ms : List MB) (is : List Nat) (os : List Nat) (fit : Int32) (fen : Int32) (frd : Int32) (fbd : Int32) (fir : Int32) (mf : Nat → Option Nat) (ma : Nat) (co : Nat) (xkeptCode : Int64) (xkeptRange : Int64) (xkeptAsked : Int32) (xcache : Int32) (xpending : Int32) (xlow : Int64) (xrange : Int64) (xcode : Int64) (xreadLow : Int64) (xreadRange : Int64) (ri : Nat) (ro : Nat) (rw : Nat) (xasked : Int32) (ria : Nat) (rik : Nat) (rif : Nat → Int32) (roa : Nat) (rok : Nat) (rof : Nat → Int32) (rwn : Int32) (rwa : Nat) (rwk : Nat) (rwf : Nat → Int32) (g : Nat → Nat) (fLow : Int64) (fRange : Int64) (fCache : Int32) (fPend : Int32) (fGoes : Int32) (fBad : Int32) (fIR : Int32) (fAsk : Int32) (fBAsk : Int32) (fCode : Int64) (fRL : Int64) (fRR : Int64) (fX : Int64) (fWrites : Int32) (fThrown : Int32) (vMany : Nat → Int32) (vCounts : Nat → Int32) (vNow : Nat → Int32) (vThen : Nat → Int32) (vIM : Nat → Int32) (vIW : Nat → Int32) (vGoing : Nat → Int32) (vOut : Nat → Int32) (vIn : Nat → Int32) (vSO : Nat → Int32) (vNO : Nat → Int32) (vWr : Nat → Int32) (N : Nat → Nat) (sh : Nat), va_P (dC, dI) vwCl ([(rc, Sum.inr (6, [Value.ref co, Value.ref ma, Value.int (nI ms.length), Value.int fit, Value.int fen, Value.int frd, Value.int fbd, Value.int fir])), (ma, Sum.inl (cM, 8, Sum.inr (Sum.inr (Sum.inr (Sum.inr mf))))), (co, Sum.inr (3, [Value.int (nI sh), Value.long xkeptCode, Value.long xkeptRange, Value.int xkeptAsked, Value.int xcache, Value.int xpending, Value.long xlow, Value.long xrange, Value.long xcode, Value.long xreadLow, Value.long xreadRange, Value.ref ri, Value.ref ro, Value.ref rw, Value.int xasked])), (ri, Sum.inr (0, [Value.int (nI is.length), Value.ref ria])), (ria, Sum.inl (cI, rik, Sum.inl rif)), (ro, Sum.inr (0, [Value.int (nI os.length), Value.ref roa])), (roa, Sum.inl (cI, rok, Sum.inl rof)), (rw, Sum.inr (0, [Value.int rwn, Value.ref rwa])), (rwa, Sum.inl (cI, rwk, Sum.inl rwf)), (o, Sum.inr (9, mO g 2 (nI sh) (nI ms.length) fit fen fLow fRange fCache fPend fGoes (nI os.length) (nI is.length) frd fBad fIR fAsk fBAsk fCode fRL fRR fX fWrites fThrown)), ((g 0), Sum.inl (cI, 8, Sum.inl vMany)), ((g 1), Sum.inl (cI, 512, Sum.inl vCounts)), ((g 2), Sum.inl (cI, 512, Sum.inl vNow)), ((g 3), Sum.inl (cI, 512, Sum.inl vThen)), ((g 4), Sum.inl (cI, 600, Sum.inl vIM)), ((g 5), Sum.inl (cI, 600, Sum.inl vIW)), ((g 6), Sum.inl (cI, 9000, Sum.inl vGoing)), ((g 7), Sum.inl (cI, 9000, Sum.inl vOut)), ((g 8), Sum.inl (cI, 6000, Sum.inl vIn)), ((g 9), Sum.inl (cI, 512, Sum.inl vSO)), ((g 10), Sum.inl (cI, 512, Sum.inl vNO)), ((g 11), Sum.inl (cI, 20000, Sum.inl vWr))] ++ mbsC cI ms) H → va_D A ([(rc, Sum.inr (6, [Value.ref co, Value.ref ma, Value.int (nI ms.length), Value.int fit, Value.int fen, Value.int frd, Value.int fbd, Value.int fir])), (ma, Sum.inl (cM, 8, Sum.inr (Sum.inr (Sum.inr (Sum.inr mf))))), (co, Sum.inr (3, [Value.int (nI sh), Value.long xkeptCode, Value.long xkeptRange, Value.int xkeptAsked, Value.int xcache, Value.int xpending, Value.long xlow, Value.long xrange, Value.long xcode, Value.long xreadLow, Value.long xreadRange, Value.ref ri, Value.ref ro, Value.ref rw, Value.int xasked])), (ri, Sum.inr (0, [Value.int (nI is.length), Value.ref ria])), (ria, Sum.inl (cI, rik, Sum.inl rif)), (ro, Sum.inr (0, [Value.int (nI os.length), Value.ref roa])), (roa, Sum.inl (cI, rok, Sum.inl rof)), (rw, Sum.inr (0, [Value.int rwn, Value.ref rwa])), (rwa, Sum.inl (cI, rwk, Sum.inl rwf)), (o, Sum.inr (9, mO g 2 (nI sh) (nI ms.length) fit fen fLow fRange fCache fPend fGoes (nI os.length) (nI is.length) frd fBad fIR fAsk fBAsk fCode fRL fRR fX fWrites fThrown)), ((g 0), Sum.inl (cI, 8, Sum.inl vMany)), ((g 1), Sum.inl (cI, 512, Sum.inl vCounts)), ((g 2), Sum.inl (cI, 512, Sum.inl vNow)), ((g 3), Sum.inl (cI, 512, Sum.inl vThen)), ((g 4), Sum.inl (cI, 600, Sum.inl vIM)), ((g 5), Sum.inl (cI, 600, Sum.inl vIW)), ((g 6), Sum.inl (cI, 9000, Sum.inl vGoing)), ((g 7), Sum.inl (cI, 9000, Sum.inl vOut)), ((g 8), Sum.inl (cI, 6000, Sum.inl vIn)), ((g 9), Sum.inl (cI, 512, Sum.inl vSO)), ((g 10), Sum.inl (cI, 512, Sum.inl vNO)), ((g 11), Sum.inl (cI, 20000, Sum.inl vWr))] ++ mbsC cI ms) → (ms.length ≤ 8) → (mfOk mf ms) → (∀ x ∈ ms, mbOk x) → (rOk (nI is.length) rik) → (rOk (nI os.length) rok) → (rOk rwn rwk) → (1 ≤ sh) → (sh ≤ 10) → (MD ms.length N vMany vCounts) → (∀ (j : Nat) (x : MB), ms[j]? = some x → mT_Bits (N j) vCounts vNow vThen (¬ frd = 0 ∧ fbd = 0) j x) → (TB 2 ms.length N vThen) → (gIs rif is) → (gIs vIn is) → (is.length ≤ 6000) → (oct is) → (gIs rof os) → (gIs vOut os) → (os.length ≤ 6000) → (oct os) → (¬ frd = 0 → fbd = fBad ∧ (fbd = 0 → RT2 cn xasked xcode xreadRange fAsk fCode fRR)) → (dd + (rPh rik + rPh rok + rPh rwk) + 1600 * (8 - ms.length) ≤ 300000) → (¬ fen = 0) → C9) → C9
set_option maxHeartbeats 4000000 in
theorem LI_split_Bits {dC : Nat → ClassId} {dI : Nat → Nat → Nat} {cI cM cO : ClassId} {A : Nat → Prop} {rc o cn dd : Nat} {H : Heap} (h : LI_Bits dC dI cI cM cO A rc o cn dd H) {C9 : Prop} (k1 : LV_Bits dC dI cI cM cO A rc o cn dd H → C9) (k2 : EN_Bits dC dI cI cM cO A rc o cn dd H → C9) : C9 := by
  refine h _ ?_
  intro ms is os fit fen frd fbd fir mf ma co xkeptCode xkeptRange xkeptAsked xcache xpending xlow xrange xcode xreadLow xreadRange ri ro rw xasked ria rik rif roa rok rof rwn rwa rwk rwf g fLow fRange fCache fPend fGoes fBad fIR fAsk fBAsk fCode fRL fRR fX fWrites fThrown vMany vCounts vNow vThen vIM vIW vGoing vOut vIn vSO vNO vWr N sh hP hD hk8 hmf hmo hri hro hrw hs1 hs2 hMD hmt hU hMS hIr hIm hI6 hIo hOr hOm hO6 hOo hRD hdd
  by_cases hfe : fen = 0
  · obtain ⟨ki, Rg, Lw, ca, Pn, bs, hki, rfl, rfl, rfl, rfl, rfl, rfl, rfl, rfl, rfl, rfl, rfl, hGc, hGm, hE, hoB, hlB, hlg⟩ := hMS hfe
    subst hfe
    exact k1 (fun C8 k8 => k8 ms is os frd fbd fir mf ma co xkeptCode xkeptRange xkeptAsked xcode xreadLow xreadRange ri ro rw xasked ria rik rif roa rok rof rwa rwk rwf g fBad fIR fAsk fBAsk fCode fRL fRR fX fWrites fThrown vMany vCounts vNow vThen vIM vIW vGoing vOut vIn vSO vNO vWr N sh ki Rg Lw ca Pn bs hP hD hk8 hmf hmo hri hro hrw hs1 hs2 hMD hmt hU hIr hIm hI6 hIo hOr hOm hO6 hOo hRD hdd hki hGc hGm hE hoB hlB hlg)
  · exact k2 (fun C8 k8 => k8 ms is os fit fen frd fbd fir mf ma co xkeptCode xkeptRange xkeptAsked xcache xpending xlow xrange xcode xreadLow xreadRange ri ro rw xasked ria rik rif roa rok rof rwn rwa rwk rwf g fLow fRange fCache fPend fGoes fBad fIR fAsk fBAsk fCode fRL fRR fX fWrites fThrown vMany vCounts vNow vThen vIM vIW vGoing vOut vIn vSO vNO vWr N sh hP hD hk8 hmf hmo hri hro hrw hs1 hs2 hMD hmt hU hIr hIm hI6 hIo hOr hOm hO6 hOo hRD hdd hfe)
def LI_Stack (dC : Nat → ClassId) (dI : Nat → Nat → Nat) (cI cM cO : ClassId) (A : Nat → Prop) (rc o cn dd : Nat) (H : Heap) : Prop := ∀ (C9 : Prop), (∀ (ms : List MB) (is : List Nat) (os : List Nat) (fit : Int32) (fen : Int32) (frd : Int32) (fbd : Int32) (fir : Int32) (mf : Nat → Option Nat) (ma : Nat) (co : Nat) (xx : Int64) (xreadX : Int64) (soa : Nat) (sna : Nat) (swa : Nat) (xkept : Int32) (ri : Nat) (ro : Nat) (rw : Nat) (xasked : Int32) (ria : Nat) (rik : Nat) (rif : Nat → Int32) (roa : Nat) (rok : Nat) (rof : Nat → Int32) (rwn : Int32) (rwa : Nat) (rwk : Nat) (rwf : Nat → Int32) (sof : Nat → Option Nat) (snf : Nat → Int32) (swf : Nat → Int32) (g : Nat → Nat) (fShift : Int32) (fLow : Int64) (fRange : Int64) (fCache : Int32) (fPend : Int32) (fGoes : Int32) (fBad : Int32) (fIR : Int32) (fAsk : Int32) (fBAsk : Int32) (fCode : Int64) (fRL : Int64) (fRR : Int64) (fX : Int64) (fWrites : Int32) (fThrown : Int32) (vMany : Nat → Int32) (vCounts : Nat → Int32) (vNow : Nat → Int32) (vThen : Nat → Int32) (vIM : Nat → Int32) (vIW : Nat → Int32) (vGoing : Nat → Int32) (vOut : Nat → Int32) (vIn : Nat → Int32) (vSO : Nat → Int32) (vNO : Nat → Int32) (vWr : Nat → Int32) (N : Nat → Nat), va_P (dC, dI) vwCl ([(rc, Sum.inr (6, [Value.ref co, Value.ref ma, Value.int (nI ms.length), Value.int fit, Value.int fen, Value.int frd, Value.int fbd, Value.int fir])), (ma, Sum.inl (cM, 8, Sum.inr (Sum.inr (Sum.inr (Sum.inr mf))))), (co, Sum.inr (4, [Value.long xx, Value.long xreadX, Value.ref soa, Value.ref sna, Value.ref swa, Value.int xkept, Value.ref ri, Value.ref ro, Value.ref rw, Value.int xasked])), (ri, Sum.inr (0, [Value.int (nI is.length), Value.ref ria])), (ria, Sum.inl (cI, rik, Sum.inl rif)), (ro, Sum.inr (0, [Value.int (nI os.length), Value.ref roa])), (roa, Sum.inl (cI, rok, Sum.inl rof)), (rw, Sum.inr (0, [Value.int rwn, Value.ref rwa])), (rwa, Sum.inl (cI, rwk, Sum.inl rwf)), (soa, Sum.inl (cO, 600, Sum.inr (Sum.inr (Sum.inr (Sum.inr sof))))), (sna, Sum.inl (cI, 600, Sum.inl snf)), (swa, Sum.inl (cI, 600, Sum.inl swf)), (o, Sum.inr (9, mO g 3 fShift (nI ms.length) fit fen fLow fRange fCache fPend fGoes (nI os.length) (nI is.length) frd fBad fIR fAsk fBAsk fCode fRL fRR fX fWrites fThrown)), ((g 0), Sum.inl (cI, 8, Sum.inl vMany)), ((g 1), Sum.inl (cI, 512, Sum.inl vCounts)), ((g 2), Sum.inl (cI, 512, Sum.inl vNow)), ((g 3), Sum.inl (cI, 512, Sum.inl vThen)), ((g 4), Sum.inl (cI, 600, Sum.inl vIM)), ((g 5), Sum.inl (cI, 600, Sum.inl vIW)), ((g 6), Sum.inl (cI, 9000, Sum.inl vGoing)), ((g 7), Sum.inl (cI, 9000, Sum.inl vOut)), ((g 8), Sum.inl (cI, 6000, Sum.inl vIn)), ((g 9), Sum.inl (cI, 512, Sum.inl vSO)), ((g 10), Sum.inl (cI, 512, Sum.inl vNO)), ((g 11), Sum.inl (cI, 20000, Sum.inl vWr))] ++ mbsC cI ms) H → va_D A ([(rc, Sum.inr (6, [Value.ref co, Value.ref ma, Value.int (nI ms.length), Value.int fit, Value.int fen, Value.int frd, Value.int fbd, Value.int fir])), (ma, Sum.inl (cM, 8, Sum.inr (Sum.inr (Sum.inr (Sum.inr mf))))), (co, Sum.inr (4, [Value.long xx, Value.long xreadX, Value.ref soa, Value.ref sna, Value.ref swa, Value.int xkept, Value.ref ri, Value.ref ro, Value.ref rw, Value.int xasked])), (ri, Sum.inr (0, [Value.int (nI is.length), Value.ref ria])), (ria, Sum.inl (cI, rik, Sum.inl rif)), (ro, Sum.inr (0, [Value.int (nI os.length), Value.ref roa])), (roa, Sum.inl (cI, rok, Sum.inl rof)), (rw, Sum.inr (0, [Value.int rwn, Value.ref rwa])), (rwa, Sum.inl (cI, rwk, Sum.inl rwf)), (soa, Sum.inl (cO, 600, Sum.inr (Sum.inr (Sum.inr (Sum.inr sof))))), (sna, Sum.inl (cI, 600, Sum.inl snf)), (swa, Sum.inl (cI, 600, Sum.inl swf)), (o, Sum.inr (9, mO g 3 fShift (nI ms.length) fit fen fLow fRange fCache fPend fGoes (nI os.length) (nI is.length) frd fBad fIR fAsk fBAsk fCode fRL fRR fX fWrites fThrown)), ((g 0), Sum.inl (cI, 8, Sum.inl vMany)), ((g 1), Sum.inl (cI, 512, Sum.inl vCounts)), ((g 2), Sum.inl (cI, 512, Sum.inl vNow)), ((g 3), Sum.inl (cI, 512, Sum.inl vThen)), ((g 4), Sum.inl (cI, 600, Sum.inl vIM)), ((g 5), Sum.inl (cI, 600, Sum.inl vIW)), ((g 6), Sum.inl (cI, 9000, Sum.inl vGoing)), ((g 7), Sum.inl (cI, 9000, Sum.inl vOut)), ((g 8), Sum.inl (cI, 6000, Sum.inl vIn)), ((g 9), Sum.inl (cI, 512, Sum.inl vSO)), ((g 10), Sum.inl (cI, 512, Sum.inl vNO)), ((g 11), Sum.inl (cI, 20000, Sum.inl vWr))] ++ mbsC cI ms) → (ms.length ≤ 8) → (mfOk mf ms) → (∀ x ∈ ms, mbOk x) → (rOk (nI is.length) rik) → (rOk (nI os.length) rok) → (rOk rwn rwk) → (MD ms.length N vMany vCounts) → (∀ (j : Nat) (x : MB), ms[j]? = some x → mT_Stack (N j) vCounts vNow vThen (¬ frd = 0 ∧ fbd = 0) j x) → (TB 3 ms.length N vThen) → (fen = 0 → MT3 4096 12 ms N fit xkept sof snf swf fGoes vIM vIW vNow) → (gIs rif is) → (gIs vIn is) → (is.length ≤ 6000) → (oct is) → (gIs rof os) → (gIs vOut os) → (os.length ≤ 6000) → (oct os) → (¬ frd = 0 → fbd = fBad ∧ (fbd = 0 → RT3 cn xasked xreadX fAsk fX)) → (dd + (rPh rik + rPh rok + rPh rwk) + 1600 * (8 - ms.length) ≤ 300000) → C9) → C9
def LV_Stack (dC : Nat → ClassId) (dI : Nat → Nat → Nat) (cI cM cO : ClassId) (A : Nat → Prop) (rc o cn dd : Nat) (H : Heap) : Prop := ∀ (C9 : Prop), (∀ (ms : List MB) (is : List Nat) (os : List Nat) (frd : Int32) (fbd : Int32) (fir : Int32) (mf : Nat → Option Nat) (ma : Nat) (co : Nat) (xx : Int64) (xreadX : Int64) (soa : Nat) (sna : Nat) (swa : Nat) (ri : Nat) (ro : Nat) (rw : Nat) (xasked : Int32) (ria : Nat) (rik : Nat) (rif : Nat → Int32) (roa : Nat) (rok : Nat) (rof : Nat → Int32) (rwn : Int32) (rwa : Nat) (rwk : Nat) (rwf : Nat → Int32) (sof : Nat → Option Nat) (snf : Nat → Int32) (swf : Nat → Int32) (g : Nat → Nat) (fShift : Int32) (fLow : Int64) (fRange : Int64) (fCache : Int32) (fPend : Int32) (fBad : Int32) (fIR : Int32) (fAsk : Int32) (fBAsk : Int32) (fCode : Int64) (fRL : Int64) (fRR : Int64) (fX : Int64) (fWrites : Int32) (fThrown : Int32) (vMany : Nat → Int32) (vCounts : Nat → Int32) (vNow : Nat → Int32) (vThen : Nat → Int32) (vIM : Nat → Int32) (vIW : Nat → Int32) (vGoing : Nat → Int32) (vOut : Nat → Int32) (vIn : Nat → Int32) (vSO : Nat → Int32) (vNO : Nat → Int32) (vWr : Nat → Int32) (N : Nat → Nat) (its : List It), va_P (dC, dI) vwCl ([(rc, Sum.inr (6, [Value.ref co, Value.ref ma, Value.int (nI ms.length), Value.int (nI its.length), Value.int 0, Value.int frd, Value.int fbd, Value.int fir])), (ma, Sum.inl (cM, 8, Sum.inr (Sum.inr (Sum.inr (Sum.inr mf))))), (co, Sum.inr (4, [Value.long xx, Value.long xreadX, Value.ref soa, Value.ref sna, Value.ref swa, Value.int (nI its.length), Value.ref ri, Value.ref ro, Value.ref rw, Value.int xasked])), (ri, Sum.inr (0, [Value.int (nI is.length), Value.ref ria])), (ria, Sum.inl (cI, rik, Sum.inl rif)), (ro, Sum.inr (0, [Value.int (nI os.length), Value.ref roa])), (roa, Sum.inl (cI, rok, Sum.inl rof)), (rw, Sum.inr (0, [Value.int rwn, Value.ref rwa])), (rwa, Sum.inl (cI, rwk, Sum.inl rwf)), (soa, Sum.inl (cO, 600, Sum.inr (Sum.inr (Sum.inr (Sum.inr sof))))), (sna, Sum.inl (cI, 600, Sum.inl snf)), (swa, Sum.inl (cI, 600, Sum.inl swf)), (o, Sum.inr (9, mO g 3 fShift (nI ms.length) (nI its.length) 0 fLow fRange fCache fPend 0 (nI os.length) (nI is.length) frd fBad fIR fAsk fBAsk fCode fRL fRR fX fWrites fThrown)), ((g 0), Sum.inl (cI, 8, Sum.inl vMany)), ((g 1), Sum.inl (cI, 512, Sum.inl vCounts)), ((g 2), Sum.inl (cI, 512, Sum.inl vNow)), ((g 3), Sum.inl (cI, 512, Sum.inl vThen)), ((g 4), Sum.inl (cI, 600, Sum.inl vIM)), ((g 5), Sum.inl (cI, 600, Sum.inl vIW)), ((g 6), Sum.inl (cI, 9000, Sum.inl vGoing)), ((g 7), Sum.inl (cI, 9000, Sum.inl vOut)), ((g 8), Sum.inl (cI, 6000, Sum.inl vIn)), ((g 9), Sum.inl (cI, 512, Sum.inl vSO)), ((g 10), Sum.inl (cI, 512, Sum.inl vNO)), ((g 11), Sum.inl (cI, 20000, Sum.inl vWr))] ++ mbsC cI ms) H → va_D A ([(rc, Sum.inr (6, [Value.ref co, Value.ref ma, Value.int (nI ms.length), Value.int (nI its.length), Value.int 0, Value.int frd, Value.int fbd, Value.int fir])), (ma, Sum.inl (cM, 8, Sum.inr (Sum.inr (Sum.inr (Sum.inr mf))))), (co, Sum.inr (4, [Value.long xx, Value.long xreadX, Value.ref soa, Value.ref sna, Value.ref swa, Value.int (nI its.length), Value.ref ri, Value.ref ro, Value.ref rw, Value.int xasked])), (ri, Sum.inr (0, [Value.int (nI is.length), Value.ref ria])), (ria, Sum.inl (cI, rik, Sum.inl rif)), (ro, Sum.inr (0, [Value.int (nI os.length), Value.ref roa])), (roa, Sum.inl (cI, rok, Sum.inl rof)), (rw, Sum.inr (0, [Value.int rwn, Value.ref rwa])), (rwa, Sum.inl (cI, rwk, Sum.inl rwf)), (soa, Sum.inl (cO, 600, Sum.inr (Sum.inr (Sum.inr (Sum.inr sof))))), (sna, Sum.inl (cI, 600, Sum.inl snf)), (swa, Sum.inl (cI, 600, Sum.inl swf)), (o, Sum.inr (9, mO g 3 fShift (nI ms.length) (nI its.length) 0 fLow fRange fCache fPend 0 (nI os.length) (nI is.length) frd fBad fIR fAsk fBAsk fCode fRL fRR fX fWrites fThrown)), ((g 0), Sum.inl (cI, 8, Sum.inl vMany)), ((g 1), Sum.inl (cI, 512, Sum.inl vCounts)), ((g 2), Sum.inl (cI, 512, Sum.inl vNow)), ((g 3), Sum.inl (cI, 512, Sum.inl vThen)), ((g 4), Sum.inl (cI, 600, Sum.inl vIM)), ((g 5), Sum.inl (cI, 600, Sum.inl vIW)), ((g 6), Sum.inl (cI, 9000, Sum.inl vGoing)), ((g 7), Sum.inl (cI, 9000, Sum.inl vOut)), ((g 8), Sum.inl (cI, 6000, Sum.inl vIn)), ((g 9), Sum.inl (cI, 512, Sum.inl vSO)), ((g 10), Sum.inl (cI, 512, Sum.inl vNO)), ((g 11), Sum.inl (cI, 20000, Sum.inl vWr))] ++ mbsC cI ms) → (ms.length ≤ 8) → (mfOk mf ms) → (∀ x ∈ ms, mbOk x) → (rOk (nI is.length) rik) → (rOk (nI os.length) rok) → (rOk rwn rwk) → (MD ms.length N vMany vCounts) → (∀ (j : Nat) (x : MB), ms[j]? = some x → mT_Stack (N j) vCounts vNow vThen (¬ frd = 0 ∧ fbd = 0) j x) → (TB 3 ms.length N vThen) → (gIs rif is) → (gIs vIn is) → (is.length ≤ 6000) → (oct is) → (gIs rof os) → (gIs vOut os) → (os.length ≤ 6000) → (oct os) → (¬ frd = 0 → fbd = fBad ∧ (fbd = 0 → RT3 cn xasked xreadX fAsk fX)) → (dd + (rPh rik + rPh rok + rPh rwk) + 1600 * (8 - ms.length) ≤ 300000) → (its.length ≤ 600) → (itIs vIM vIW its) → (∀ i, i < its.length → itOk 4096 12 ms.length N vNow (itA its i)) → (∀ i, i < its.length → kI ms sof snf swf i (itA its i)) → C9) → C9
def EN_Stack (dC : Nat → ClassId) (dI : Nat → Nat → Nat) (cI cM cO : ClassId) (A : Nat → Prop) (rc o cn dd : Nat) (H : Heap) : Prop := ∀ (C9 : Prop), (∀ (ms : List MB) (is : List Nat) (os : List Nat) (fit : Int32) (fen : Int32) (frd : Int32) (fbd : Int32) (fir : Int32) (mf : Nat → Option Nat) (ma : Nat) (co : Nat) (xx : Int64) (xreadX : Int64) (soa : Nat) (sna : Nat) (swa : Nat) (xkept : Int32) (ri : Nat) (ro : Nat) (rw : Nat) (xasked : Int32) (ria : Nat) (rik : Nat) (rif : Nat → Int32) (roa : Nat) (rok : Nat) (rof : Nat → Int32) (rwn : Int32) (rwa : Nat) (rwk : Nat) (rwf : Nat → Int32) (sof : Nat → Option Nat) (snf : Nat → Int32) (swf : Nat → Int32) (g : Nat → Nat) (fShift : Int32) (fLow : Int64) (fRange : Int64) (fCache : Int32) (fPend : Int32) (fGoes : Int32) (fBad : Int32) (fIR : Int32) (fAsk : Int32) (fBAsk : Int32) (fCode : Int64) (fRL : Int64) (fRR : Int64) (fX : Int64) (fWrites : Int32) (fThrown : Int32) (vMany : Nat → Int32) (vCounts : Nat → Int32) (vNow : Nat → Int32) (vThen : Nat → Int32) (vIM : Nat → Int32) (vIW : Nat → Int32) (vGoing : Nat → Int32) (vOut : Nat → Int32) (vIn : Nat → Int32) (vSO : Nat → Int32) (vNO : Nat → Int32) (vWr : Nat → Int32) (N : Nat → Nat), va_P (dC, dI) vwCl ([(rc, Sum.inr (6, [Value.ref co, Value.ref ma, Value.int (nI ms.length), Value.int fit, Value.int fen, Value.int frd, Value.int fbd, Value.int fir])), (ma, Sum.inl (cM, 8, Sum.inr (Sum.inr (Sum.inr (Sum.inr mf))))), (co, Sum.inr (4, [Value.long xx, Value.long xreadX, Value.ref soa, Value.ref sna, Value.ref swa, Value.int xkept, Value.ref ri, Value.ref ro, Value.ref rw, Value.int xasked])), (ri, Sum.inr (0, [Value.int (nI is.length), Value.ref ria])), (ria, Sum.inl (cI, rik, Sum.inl rif)), (ro, Sum.inr (0, [Value.int (nI os.length), Value.ref roa])), (roa, Sum.inl (cI, rok, Sum.inl rof)), (rw, Sum.inr (0, [Value.int rwn, Value.ref rwa])), (rwa, Sum.inl (cI, rwk, Sum.inl rwf)), (soa, Sum.inl (cO, 600, Sum.inr (Sum.inr (Sum.inr (Sum.inr sof))))), (sna, Sum.inl (cI, 600, Sum.inl snf)), (swa, Sum.inl (cI, 600, Sum.inl swf)), (o, Sum.inr (9, mO g 3 fShift (nI ms.length) fit fen fLow fRange fCache fPend fGoes (nI os.length) (nI is.length) frd fBad fIR fAsk fBAsk fCode fRL fRR fX fWrites fThrown)), ((g 0), Sum.inl (cI, 8, Sum.inl vMany)), ((g 1), Sum.inl (cI, 512, Sum.inl vCounts)), ((g 2), Sum.inl (cI, 512, Sum.inl vNow)), ((g 3), Sum.inl (cI, 512, Sum.inl vThen)), ((g 4), Sum.inl (cI, 600, Sum.inl vIM)), ((g 5), Sum.inl (cI, 600, Sum.inl vIW)), ((g 6), Sum.inl (cI, 9000, Sum.inl vGoing)), ((g 7), Sum.inl (cI, 9000, Sum.inl vOut)), ((g 8), Sum.inl (cI, 6000, Sum.inl vIn)), ((g 9), Sum.inl (cI, 512, Sum.inl vSO)), ((g 10), Sum.inl (cI, 512, Sum.inl vNO)), ((g 11), Sum.inl (cI, 20000, Sum.inl vWr))] ++ mbsC cI ms) H → va_D A ([(rc, Sum.inr (6, [Value.ref co, Value.ref ma, Value.int (nI ms.length), Value.int fit, Value.int fen, Value.int frd, Value.int fbd, Value.int fir])), (ma, Sum.inl (cM, 8, Sum.inr (Sum.inr (Sum.inr (Sum.inr mf))))), (co, Sum.inr (4, [Value.long xx, Value.long xreadX, Value.ref soa, Value.ref sna, Value.ref swa, Value.int xkept, Value.ref ri, Value.ref ro, Value.ref rw, Value.int xasked])), (ri, Sum.inr (0, [Value.int (nI is.length), Value.ref ria])), (ria, Sum.inl (cI, rik, Sum.inl rif)), (ro, Sum.inr (0, [Value.int (nI os.length), Value.ref roa])), (roa, Sum.inl (cI, rok, Sum.inl rof)), (rw, Sum.inr (0, [Value.int rwn, Value.ref rwa])), (rwa, Sum.inl (cI, rwk, Sum.inl rwf)), (soa, Sum.inl (cO, 600, Sum.inr (Sum.inr (Sum.inr (Sum.inr sof))))), (sna, Sum.inl (cI, 600, Sum.inl snf)), (swa, Sum.inl (cI, 600, Sum.inl swf)), (o, Sum.inr (9, mO g 3 fShift (nI ms.length) fit fen fLow fRange fCache fPend fGoes (nI os.length) (nI is.length) frd fBad fIR fAsk fBAsk fCode fRL fRR fX fWrites fThrown)), ((g 0), Sum.inl (cI, 8, Sum.inl vMany)), ((g 1), Sum.inl (cI, 512, Sum.inl vCounts)), ((g 2), Sum.inl (cI, 512, Sum.inl vNow)), ((g 3), Sum.inl (cI, 512, Sum.inl vThen)), ((g 4), Sum.inl (cI, 600, Sum.inl vIM)), ((g 5), Sum.inl (cI, 600, Sum.inl vIW)), ((g 6), Sum.inl (cI, 9000, Sum.inl vGoing)), ((g 7), Sum.inl (cI, 9000, Sum.inl vOut)), ((g 8), Sum.inl (cI, 6000, Sum.inl vIn)), ((g 9), Sum.inl (cI, 512, Sum.inl vSO)), ((g 10), Sum.inl (cI, 512, Sum.inl vNO)), ((g 11), Sum.inl (cI, 20000, Sum.inl vWr))] ++ mbsC cI ms) → (ms.length ≤ 8) → (mfOk mf ms) → (∀ x ∈ ms, mbOk x) → (rOk (nI is.length) rik) → (rOk (nI os.length) rok) → (rOk rwn rwk) → (MD ms.length N vMany vCounts) → (∀ (j : Nat) (x : MB), ms[j]? = some x → mT_Stack (N j) vCounts vNow vThen (¬ frd = 0 ∧ fbd = 0) j x) → (TB 3 ms.length N vThen) → (gIs rif is) → (gIs vIn is) → (is.length ≤ 6000) → (oct is) → (gIs rof os) → (gIs vOut os) → (os.length ≤ 6000) → (oct os) → (¬ frd = 0 → fbd = fBad ∧ (fbd = 0 → RT3 cn xasked xreadX fAsk fX)) → (dd + (rPh rik + rPh rok + rPh rwk) + 1600 * (8 - ms.length) ≤ 300000) → (¬ fen = 0) → C9) → C9
set_option maxHeartbeats 4000000 in
theorem LI_split_Stack {dC : Nat → ClassId} {dI : Nat → Nat → Nat} {cI cM cO : ClassId} {A : Nat → Prop} {rc o cn dd : Nat} {H : Heap} (h : LI_Stack dC dI cI cM cO A rc o cn dd H) {C9 : Prop} (k1 : LV_Stack dC dI cI cM cO A rc o cn dd H → C9) (k2 : EN_Stack dC dI cI cM cO A rc o cn dd H → C9) : C9 := by
  refine h _ ?_
  intro ms is os fit fen frd fbd fir mf ma co xx xreadX soa sna swa xkept ri ro rw xasked ria rik rif roa rok rof rwn rwa rwk rwf sof snf swf g fShift fLow fRange fCache fPend fGoes fBad fIR fAsk fBAsk fCode fRL fRR fX fWrites fThrown vMany vCounts vNow vThen vIM vIW vGoing vOut vIn vSO vNO vWr N hP hD hk8 hmf hmo hri hro hrw hMD hmt hU hMS hIr hIm hI6 hIo hOr hOm hO6 hOo hRD hdd
  by_cases hfe : fen = 0
  · obtain ⟨its, hki, rfl, rfl, rfl, hit, hok, hkI⟩ := hMS hfe
    subst hfe
    exact k1 (fun C8 k8 => k8 ms is os frd fbd fir mf ma co xx xreadX soa sna swa ri ro rw xasked ria rik rif roa rok rof rwn rwa rwk rwf sof snf swf g fShift fLow fRange fCache fPend fBad fIR fAsk fBAsk fCode fRL fRR fX fWrites fThrown vMany vCounts vNow vThen vIM vIW vGoing vOut vIn vSO vNO vWr N its hP hD hk8 hmf hmo hri hro hrw hMD hmt hU hIr hIm hI6 hIo hOr hOm hO6 hOo hRD hdd hki hit hok hkI)
  · exact k2 (fun C8 k8 => k8 ms is os fit fen frd fbd fir mf ma co xx xreadX soa sna swa xkept ri ro rw xasked ria rik rif roa rok rof rwn rwa rwk rwf sof snf swf g fShift fLow fRange fCache fPend fGoes fBad fIR fAsk fBAsk fCode fRL fRR fX fWrites fThrown vMany vCounts vNow vThen vIM vIW vGoing vOut vIn vSO vNO vWr N hP hD hk8 hmf hmo hri hro hrw hMD hmt hU hIr hIm hI6 hIo hOr hOm hO6 hOo hRD hdd hfe)
def LI_Table (dC : Nat → ClassId) (dI : Nat → Nat → Nat) (cI cM cO : ClassId) (A : Nat → Prop) (rc o cn dd : Nat) (H : Heap) : Prop := ∀ (C9 : Prop), (∀ (ms : List MB) (is : List Nat) (os : List Nat) (fit : Int32) (fen : Int32) (frd : Int32) (fbd : Int32) (fir : Int32) (mf : Nat → Option Nat) (ma : Nat) (co : Nat) (xx : Int64) (xreadX : Int64) (soa : Nat) (sna : Nat) (swa : Nat) (xkept : Int32) (ri : Nat) (ro : Nat) (rw : Nat) (xasked : Int32) (ria : Nat) (rik : Nat) (rif : Nat → Int32) (roa : Nat) (rok : Nat) (rof : Nat → Int32) (rwn : Int32) (rwa : Nat) (rwk : Nat) (rwf : Nat → Int32) (sof : Nat → Option Nat) (snf : Nat → Int32) (swf : Nat → Int32) (g : Nat → Nat) (fShift : Int32) (fLow : Int64) (fRange : Int64) (fCache : Int32) (fPend : Int32) (fGoes : Int32) (fBad : Int32) (fIR : Int32) (fAsk : Int32) (fBAsk : Int32) (fCode : Int64) (fRL : Int64) (fRR : Int64) (fX : Int64) (fWrites : Int32) (fThrown : Int32) (vMany : Nat → Int32) (vCounts : Nat → Int32) (vNow : Nat → Int32) (vThen : Nat → Int32) (vIM : Nat → Int32) (vIW : Nat → Int32) (vGoing : Nat → Int32) (vOut : Nat → Int32) (vIn : Nat → Int32) (vSO : Nat → Int32) (vNO : Nat → Int32) (vWr : Nat → Int32) (N : Nat → Nat), va_P (dC, dI) vwCl ([(rc, Sum.inr (6, [Value.ref co, Value.ref ma, Value.int (nI ms.length), Value.int fit, Value.int fen, Value.int frd, Value.int fbd, Value.int fir])), (ma, Sum.inl (cM, 8, Sum.inr (Sum.inr (Sum.inr (Sum.inr mf))))), (co, Sum.inr (5, [Value.long xx, Value.long xreadX, Value.ref soa, Value.ref sna, Value.ref swa, Value.int xkept, Value.ref ri, Value.ref ro, Value.ref rw, Value.int xasked])), (ri, Sum.inr (0, [Value.int (nI is.length), Value.ref ria])), (ria, Sum.inl (cI, rik, Sum.inl rif)), (ro, Sum.inr (0, [Value.int (nI os.length), Value.ref roa])), (roa, Sum.inl (cI, rok, Sum.inl rof)), (rw, Sum.inr (0, [Value.int rwn, Value.ref rwa])), (rwa, Sum.inl (cI, rwk, Sum.inl rwf)), (soa, Sum.inl (cO, 600, Sum.inr (Sum.inr (Sum.inr (Sum.inr sof))))), (sna, Sum.inl (cI, 600, Sum.inl snf)), (swa, Sum.inl (cI, 600, Sum.inl swf)), (o, Sum.inr (9, mO g 4 fShift (nI ms.length) fit fen fLow fRange fCache fPend fGoes (nI os.length) (nI is.length) frd fBad fIR fAsk fBAsk fCode fRL fRR fX fWrites fThrown)), ((g 0), Sum.inl (cI, 8, Sum.inl vMany)), ((g 1), Sum.inl (cI, 512, Sum.inl vCounts)), ((g 2), Sum.inl (cI, 512, Sum.inl vNow)), ((g 3), Sum.inl (cI, 512, Sum.inl vThen)), ((g 4), Sum.inl (cI, 600, Sum.inl vIM)), ((g 5), Sum.inl (cI, 600, Sum.inl vIW)), ((g 6), Sum.inl (cI, 9000, Sum.inl vGoing)), ((g 7), Sum.inl (cI, 9000, Sum.inl vOut)), ((g 8), Sum.inl (cI, 6000, Sum.inl vIn)), ((g 9), Sum.inl (cI, 512, Sum.inl vSO)), ((g 10), Sum.inl (cI, 512, Sum.inl vNO)), ((g 11), Sum.inl (cI, 20000, Sum.inl vWr))] ++ mbsC cI ms) H → va_D A ([(rc, Sum.inr (6, [Value.ref co, Value.ref ma, Value.int (nI ms.length), Value.int fit, Value.int fen, Value.int frd, Value.int fbd, Value.int fir])), (ma, Sum.inl (cM, 8, Sum.inr (Sum.inr (Sum.inr (Sum.inr mf))))), (co, Sum.inr (5, [Value.long xx, Value.long xreadX, Value.ref soa, Value.ref sna, Value.ref swa, Value.int xkept, Value.ref ri, Value.ref ro, Value.ref rw, Value.int xasked])), (ri, Sum.inr (0, [Value.int (nI is.length), Value.ref ria])), (ria, Sum.inl (cI, rik, Sum.inl rif)), (ro, Sum.inr (0, [Value.int (nI os.length), Value.ref roa])), (roa, Sum.inl (cI, rok, Sum.inl rof)), (rw, Sum.inr (0, [Value.int rwn, Value.ref rwa])), (rwa, Sum.inl (cI, rwk, Sum.inl rwf)), (soa, Sum.inl (cO, 600, Sum.inr (Sum.inr (Sum.inr (Sum.inr sof))))), (sna, Sum.inl (cI, 600, Sum.inl snf)), (swa, Sum.inl (cI, 600, Sum.inl swf)), (o, Sum.inr (9, mO g 4 fShift (nI ms.length) fit fen fLow fRange fCache fPend fGoes (nI os.length) (nI is.length) frd fBad fIR fAsk fBAsk fCode fRL fRR fX fWrites fThrown)), ((g 0), Sum.inl (cI, 8, Sum.inl vMany)), ((g 1), Sum.inl (cI, 512, Sum.inl vCounts)), ((g 2), Sum.inl (cI, 512, Sum.inl vNow)), ((g 3), Sum.inl (cI, 512, Sum.inl vThen)), ((g 4), Sum.inl (cI, 600, Sum.inl vIM)), ((g 5), Sum.inl (cI, 600, Sum.inl vIW)), ((g 6), Sum.inl (cI, 9000, Sum.inl vGoing)), ((g 7), Sum.inl (cI, 9000, Sum.inl vOut)), ((g 8), Sum.inl (cI, 6000, Sum.inl vIn)), ((g 9), Sum.inl (cI, 512, Sum.inl vSO)), ((g 10), Sum.inl (cI, 512, Sum.inl vNO)), ((g 11), Sum.inl (cI, 20000, Sum.inl vWr))] ++ mbsC cI ms) → (ms.length ≤ 8) → (mfOk mf ms) → (∀ x ∈ ms, mbOk x) → (rOk (nI is.length) rik) → (rOk (nI os.length) rok) → (rOk rwn rwk) → (MD ms.length N vMany vCounts) → (∀ (j : Nat) (x : MB), ms[j]? = some x → mT_Table (N j) vCounts vNow vThen (¬ frd = 0 ∧ fbd = 0) j x) → (TB 4 ms.length N vThen) → (fen = 0 → MT3 512 9 ms N fit xkept sof snf swf fGoes vIM vIW vNow) → (gIs rif is) → (gIs vIn is) → (is.length ≤ 6000) → (oct is) → (gIs rof os) → (gIs vOut os) → (os.length ≤ 6000) → (oct os) → (¬ frd = 0 → fbd = fBad ∧ (fbd = 0 → RT4 cn xasked xreadX fAsk fBAsk fX)) → (dd + (rPh rik + rPh rok + rPh rwk) + 1600 * (8 - ms.length) ≤ 300000) → C9) → C9
def LV_Table (dC : Nat → ClassId) (dI : Nat → Nat → Nat) (cI cM cO : ClassId) (A : Nat → Prop) (rc o cn dd : Nat) (H : Heap) : Prop := ∀ (C9 : Prop), (∀ (ms : List MB) (is : List Nat) (os : List Nat) (frd : Int32) (fbd : Int32) (fir : Int32) (mf : Nat → Option Nat) (ma : Nat) (co : Nat) (xx : Int64) (xreadX : Int64) (soa : Nat) (sna : Nat) (swa : Nat) (ri : Nat) (ro : Nat) (rw : Nat) (xasked : Int32) (ria : Nat) (rik : Nat) (rif : Nat → Int32) (roa : Nat) (rok : Nat) (rof : Nat → Int32) (rwn : Int32) (rwa : Nat) (rwk : Nat) (rwf : Nat → Int32) (sof : Nat → Option Nat) (snf : Nat → Int32) (swf : Nat → Int32) (g : Nat → Nat) (fShift : Int32) (fLow : Int64) (fRange : Int64) (fCache : Int32) (fPend : Int32) (fBad : Int32) (fIR : Int32) (fAsk : Int32) (fBAsk : Int32) (fCode : Int64) (fRL : Int64) (fRR : Int64) (fX : Int64) (fWrites : Int32) (fThrown : Int32) (vMany : Nat → Int32) (vCounts : Nat → Int32) (vNow : Nat → Int32) (vThen : Nat → Int32) (vIM : Nat → Int32) (vIW : Nat → Int32) (vGoing : Nat → Int32) (vOut : Nat → Int32) (vIn : Nat → Int32) (vSO : Nat → Int32) (vNO : Nat → Int32) (vWr : Nat → Int32) (N : Nat → Nat) (its : List It), va_P (dC, dI) vwCl ([(rc, Sum.inr (6, [Value.ref co, Value.ref ma, Value.int (nI ms.length), Value.int (nI its.length), Value.int 0, Value.int frd, Value.int fbd, Value.int fir])), (ma, Sum.inl (cM, 8, Sum.inr (Sum.inr (Sum.inr (Sum.inr mf))))), (co, Sum.inr (5, [Value.long xx, Value.long xreadX, Value.ref soa, Value.ref sna, Value.ref swa, Value.int (nI its.length), Value.ref ri, Value.ref ro, Value.ref rw, Value.int xasked])), (ri, Sum.inr (0, [Value.int (nI is.length), Value.ref ria])), (ria, Sum.inl (cI, rik, Sum.inl rif)), (ro, Sum.inr (0, [Value.int (nI os.length), Value.ref roa])), (roa, Sum.inl (cI, rok, Sum.inl rof)), (rw, Sum.inr (0, [Value.int rwn, Value.ref rwa])), (rwa, Sum.inl (cI, rwk, Sum.inl rwf)), (soa, Sum.inl (cO, 600, Sum.inr (Sum.inr (Sum.inr (Sum.inr sof))))), (sna, Sum.inl (cI, 600, Sum.inl snf)), (swa, Sum.inl (cI, 600, Sum.inl swf)), (o, Sum.inr (9, mO g 4 fShift (nI ms.length) (nI its.length) 0 fLow fRange fCache fPend 0 (nI os.length) (nI is.length) frd fBad fIR fAsk fBAsk fCode fRL fRR fX fWrites fThrown)), ((g 0), Sum.inl (cI, 8, Sum.inl vMany)), ((g 1), Sum.inl (cI, 512, Sum.inl vCounts)), ((g 2), Sum.inl (cI, 512, Sum.inl vNow)), ((g 3), Sum.inl (cI, 512, Sum.inl vThen)), ((g 4), Sum.inl (cI, 600, Sum.inl vIM)), ((g 5), Sum.inl (cI, 600, Sum.inl vIW)), ((g 6), Sum.inl (cI, 9000, Sum.inl vGoing)), ((g 7), Sum.inl (cI, 9000, Sum.inl vOut)), ((g 8), Sum.inl (cI, 6000, Sum.inl vIn)), ((g 9), Sum.inl (cI, 512, Sum.inl vSO)), ((g 10), Sum.inl (cI, 512, Sum.inl vNO)), ((g 11), Sum.inl (cI, 20000, Sum.inl vWr))] ++ mbsC cI ms) H → va_D A ([(rc, Sum.inr (6, [Value.ref co, Value.ref ma, Value.int (nI ms.length), Value.int (nI its.length), Value.int 0, Value.int frd, Value.int fbd, Value.int fir])), (ma, Sum.inl (cM, 8, Sum.inr (Sum.inr (Sum.inr (Sum.inr mf))))), (co, Sum.inr (5, [Value.long xx, Value.long xreadX, Value.ref soa, Value.ref sna, Value.ref swa, Value.int (nI its.length), Value.ref ri, Value.ref ro, Value.ref rw, Value.int xasked])), (ri, Sum.inr (0, [Value.int (nI is.length), Value.ref ria])), (ria, Sum.inl (cI, rik, Sum.inl rif)), (ro, Sum.inr (0, [Value.int (nI os.length), Value.ref roa])), (roa, Sum.inl (cI, rok, Sum.inl rof)), (rw, Sum.inr (0, [Value.int rwn, Value.ref rwa])), (rwa, Sum.inl (cI, rwk, Sum.inl rwf)), (soa, Sum.inl (cO, 600, Sum.inr (Sum.inr (Sum.inr (Sum.inr sof))))), (sna, Sum.inl (cI, 600, Sum.inl snf)), (swa, Sum.inl (cI, 600, Sum.inl swf)), (o, Sum.inr (9, mO g 4 fShift (nI ms.length) (nI its.length) 0 fLow fRange fCache fPend 0 (nI os.length) (nI is.length) frd fBad fIR fAsk fBAsk fCode fRL fRR fX fWrites fThrown)), ((g 0), Sum.inl (cI, 8, Sum.inl vMany)), ((g 1), Sum.inl (cI, 512, Sum.inl vCounts)), ((g 2), Sum.inl (cI, 512, Sum.inl vNow)), ((g 3), Sum.inl (cI, 512, Sum.inl vThen)), ((g 4), Sum.inl (cI, 600, Sum.inl vIM)), ((g 5), Sum.inl (cI, 600, Sum.inl vIW)), ((g 6), Sum.inl (cI, 9000, Sum.inl vGoing)), ((g 7), Sum.inl (cI, 9000, Sum.inl vOut)), ((g 8), Sum.inl (cI, 6000, Sum.inl vIn)), ((g 9), Sum.inl (cI, 512, Sum.inl vSO)), ((g 10), Sum.inl (cI, 512, Sum.inl vNO)), ((g 11), Sum.inl (cI, 20000, Sum.inl vWr))] ++ mbsC cI ms) → (ms.length ≤ 8) → (mfOk mf ms) → (∀ x ∈ ms, mbOk x) → (rOk (nI is.length) rik) → (rOk (nI os.length) rok) → (rOk rwn rwk) → (MD ms.length N vMany vCounts) → (∀ (j : Nat) (x : MB), ms[j]? = some x → mT_Table (N j) vCounts vNow vThen (¬ frd = 0 ∧ fbd = 0) j x) → (TB 4 ms.length N vThen) → (gIs rif is) → (gIs vIn is) → (is.length ≤ 6000) → (oct is) → (gIs rof os) → (gIs vOut os) → (os.length ≤ 6000) → (oct os) → (¬ frd = 0 → fbd = fBad ∧ (fbd = 0 → RT4 cn xasked xreadX fAsk fBAsk fX)) → (dd + (rPh rik + rPh rok + rPh rwk) + 1600 * (8 - ms.length) ≤ 300000) → (its.length ≤ 600) → (itIs vIM vIW its) → (∀ i, i < its.length → itOk 512 9 ms.length N vNow (itA its i)) → (∀ i, i < its.length → kI ms sof snf swf i (itA its i)) → C9) → C9
def EN_Table (dC : Nat → ClassId) (dI : Nat → Nat → Nat) (cI cM cO : ClassId) (A : Nat → Prop) (rc o cn dd : Nat) (H : Heap) : Prop := ∀ (C9 : Prop), (∀ (ms : List MB) (is : List Nat) (os : List Nat) (fit : Int32) (fen : Int32) (frd : Int32) (fbd : Int32) (fir : Int32) (mf : Nat → Option Nat) (ma : Nat) (co : Nat) (xx : Int64) (xreadX : Int64) (soa : Nat) (sna : Nat) (swa : Nat) (xkept : Int32) (ri : Nat) (ro : Nat) (rw : Nat) (xasked : Int32) (ria : Nat) (rik : Nat) (rif : Nat → Int32) (roa : Nat) (rok : Nat) (rof : Nat → Int32) (rwn : Int32) (rwa : Nat) (rwk : Nat) (rwf : Nat → Int32) (sof : Nat → Option Nat) (snf : Nat → Int32) (swf : Nat → Int32) (g : Nat → Nat) (fShift : Int32) (fLow : Int64) (fRange : Int64) (fCache : Int32) (fPend : Int32) (fGoes : Int32) (fBad : Int32) (fIR : Int32) (fAsk : Int32) (fBAsk : Int32) (fCode : Int64) (fRL : Int64) (fRR : Int64) (fX : Int64) (fWrites : Int32) (fThrown : Int32) (vMany : Nat → Int32) (vCounts : Nat → Int32) (vNow : Nat → Int32) (vThen : Nat → Int32) (vIM : Nat → Int32) (vIW : Nat → Int32) (vGoing : Nat → Int32) (vOut : Nat → Int32) (vIn : Nat → Int32) (vSO : Nat → Int32) (vNO : Nat → Int32) (vWr : Nat → Int32) (N : Nat → Nat), va_P (dC, dI) vwCl ([(rc, Sum.inr (6, [Value.ref co, Value.ref ma, Value.int (nI ms.length), Value.int fit, Value.int fen, Value.int frd, Value.int fbd, Value.int fir])), (ma, Sum.inl (cM, 8, Sum.inr (Sum.inr (Sum.inr (Sum.inr mf))))), (co, Sum.inr (5, [Value.long xx, Value.long xreadX, Value.ref soa, Value.ref sna, Value.ref swa, Value.int xkept, Value.ref ri, Value.ref ro, Value.ref rw, Value.int xasked])), (ri, Sum.inr (0, [Value.int (nI is.length), Value.ref ria])), (ria, Sum.inl (cI, rik, Sum.inl rif)), (ro, Sum.inr (0, [Value.int (nI os.length), Value.ref roa])), (roa, Sum.inl (cI, rok, Sum.inl rof)), (rw, Sum.inr (0, [Value.int rwn, Value.ref rwa])), (rwa, Sum.inl (cI, rwk, Sum.inl rwf)), (soa, Sum.inl (cO, 600, Sum.inr (Sum.inr (Sum.inr (Sum.inr sof))))), (sna, Sum.inl (cI, 600, Sum.inl snf)), (swa, Sum.inl (cI, 600, Sum.inl swf)), (o, Sum.inr (9, mO g 4 fShift (nI ms.length) fit fen fLow fRange fCache fPend fGoes (nI os.length) (nI is.length) frd fBad fIR fAsk fBAsk fCode fRL fRR fX fWrites fThrown)), ((g 0), Sum.inl (cI, 8, Sum.inl vMany)), ((g 1), Sum.inl (cI, 512, Sum.inl vCounts)), ((g 2), Sum.inl (cI, 512, Sum.inl vNow)), ((g 3), Sum.inl (cI, 512, Sum.inl vThen)), ((g 4), Sum.inl (cI, 600, Sum.inl vIM)), ((g 5), Sum.inl (cI, 600, Sum.inl vIW)), ((g 6), Sum.inl (cI, 9000, Sum.inl vGoing)), ((g 7), Sum.inl (cI, 9000, Sum.inl vOut)), ((g 8), Sum.inl (cI, 6000, Sum.inl vIn)), ((g 9), Sum.inl (cI, 512, Sum.inl vSO)), ((g 10), Sum.inl (cI, 512, Sum.inl vNO)), ((g 11), Sum.inl (cI, 20000, Sum.inl vWr))] ++ mbsC cI ms) H → va_D A ([(rc, Sum.inr (6, [Value.ref co, Value.ref ma, Value.int (nI ms.length), Value.int fit, Value.int fen, Value.int frd, Value.int fbd, Value.int fir])), (ma, Sum.inl (cM, 8, Sum.inr (Sum.inr (Sum.inr (Sum.inr mf))))), (co, Sum.inr (5, [Value.long xx, Value.long xreadX, Value.ref soa, Value.ref sna, Value.ref swa, Value.int xkept, Value.ref ri, Value.ref ro, Value.ref rw, Value.int xasked])), (ri, Sum.inr (0, [Value.int (nI is.length), Value.ref ria])), (ria, Sum.inl (cI, rik, Sum.inl rif)), (ro, Sum.inr (0, [Value.int (nI os.length), Value.ref roa])), (roa, Sum.inl (cI, rok, Sum.inl rof)), (rw, Sum.inr (0, [Value.int rwn, Value.ref rwa])), (rwa, Sum.inl (cI, rwk, Sum.inl rwf)), (soa, Sum.inl (cO, 600, Sum.inr (Sum.inr (Sum.inr (Sum.inr sof))))), (sna, Sum.inl (cI, 600, Sum.inl snf)), (swa, Sum.inl (cI, 600, Sum.inl swf)), (o, Sum.inr (9, mO g 4 fShift (nI ms.length) fit fen fLow fRange fCache fPend fGoes (nI os.length) (nI is.length) frd fBad fIR fAsk fBAsk fCode fRL fRR fX fWrites fThrown)), ((g 0), Sum.inl (cI, 8, Sum.inl vMany)), ((g 1), Sum.inl (cI, 512, Sum.inl vCounts)), ((g 2), Sum.inl (cI, 512, Sum.inl vNow)), ((g 3), Sum.inl (cI, 512, Sum.inl vThen)), ((g 4), Sum.inl (cI, 600, Sum.inl vIM)), ((g 5), Sum.inl (cI, 600, Sum.inl vIW)), ((g 6), Sum.inl (cI, 9000, Sum.inl vGoing)), ((g 7), Sum.inl (cI, 9000, Sum.inl vOut)), ((g 8), Sum.inl (cI, 6000, Sum.inl vIn)), ((g 9), Sum.inl (cI, 512, Sum.inl vSO)), ((g 10), Sum.inl (cI, 512, Sum.inl vNO)), ((g 11), Sum.inl (cI, 20000, Sum.inl vWr))] ++ mbsC cI ms) → (ms.length ≤ 8) → (mfOk mf ms) → (∀ x ∈ ms, mbOk x) → (rOk (nI is.length) rik) → (rOk (nI os.length) rok) → (rOk rwn rwk) → (MD ms.length N vMany vCounts) → (∀ (j : Nat) (x : MB), ms[j]? = some x → mT_Table (N j) vCounts vNow vThen (¬ frd = 0 ∧ fbd = 0) j x) → (TB 4 ms.length N vThen) → (gIs rif is) → (gIs vIn is) → (is.length ≤ 6000) → (oct is) → (gIs rof os) → (gIs vOut os) → (os.length ≤ 6000) → (oct os) → (¬ frd = 0 → fbd = fBad ∧ (fbd = 0 → RT4 cn xasked xreadX fAsk fBAsk fX)) → (dd + (rPh rik + rPh rok + rPh rwk) + 1600 * (8 - ms.length) ≤ 300000) → (¬ fen = 0) → C9) → C9
set_option maxHeartbeats 4000000 in
theorem LI_split_Table {dC : Nat → ClassId} {dI : Nat → Nat → Nat} {cI cM cO : ClassId} {A : Nat → Prop} {rc o cn dd : Nat} {H : Heap} (h : LI_Table dC dI cI cM cO A rc o cn dd H) {C9 : Prop} (k1 : LV_Table dC dI cI cM cO A rc o cn dd H → C9) (k2 : EN_Table dC dI cI cM cO A rc o cn dd H → C9) : C9 := by
  refine h _ ?_
  intro ms is os fit fen frd fbd fir mf ma co xx xreadX soa sna swa xkept ri ro rw xasked ria rik rif roa rok rof rwn rwa rwk rwf sof snf swf g fShift fLow fRange fCache fPend fGoes fBad fIR fAsk fBAsk fCode fRL fRR fX fWrites fThrown vMany vCounts vNow vThen vIM vIW vGoing vOut vIn vSO vNO vWr N hP hD hk8 hmf hmo hri hro hrw hMD hmt hU hMS hIr hIm hI6 hIo hOr hOm hO6 hOo hRD hdd
  by_cases hfe : fen = 0
  · obtain ⟨its, hki, rfl, rfl, rfl, hit, hok, hkI⟩ := hMS hfe
    subst hfe
    exact k1 (fun C8 k8 => k8 ms is os frd fbd fir mf ma co xx xreadX soa sna swa ri ro rw xasked ria rik rif roa rok rof rwn rwa rwk rwf sof snf swf g fShift fLow fRange fCache fPend fBad fIR fAsk fBAsk fCode fRL fRR fX fWrites fThrown vMany vCounts vNow vThen vIM vIW vGoing vOut vIn vSO vNO vWr N its hP hD hk8 hmf hmo hri hro hrw hMD hmt hU hIr hIm hI6 hIo hOr hOm hO6 hOo hRD hdd hki hit hok hkI)
  · exact k2 (fun C8 k8 => k8 ms is os fit fen frd fbd fir mf ma co xx xreadX soa sna swa xkept ri ro rw xasked ria rik rif roa rok rof rwn rwa rwk rwf sof snf swf g fShift fLow fRange fCache fPend fGoes fBad fIR fAsk fBAsk fCode fRL fRR fX fWrites fThrown vMany vCounts vNow vThen vIM vIW vGoing vOut vIn vSO vNO vWr N hP hD hk8 hmf hmo hri hro hrw hMD hmt hU hIr hIm hI6 hIo hOr hOm hO6 hOo hRD hdd hfe)
end
