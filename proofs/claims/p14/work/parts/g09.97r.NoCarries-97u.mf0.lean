section
set_option maxHeartbeats 2000000 in
set_option maxRecDepth 100000 in
theorem f_RC_out_NoCarries (l : Launch) (dC : Nat → ClassId) (dI : Nat → Nat → Nat) (cI cM cO : ClassId) (sz : Nat) (rc : Nat) (ma : Nat) (k : Nat) (fit : Int32) (fen : Int32) (frd : Int32) (fbd : Int32) (fir : Int32) (mf : Nat → Option Nat) (co : Nat) (xlow : Int64) (xrange : Int64) (xcode : Int64) (xreadLow : Int64) (xreadRange : Int64) (ri : Nat) (ro : Nat) (rw : Nat) (xasked : Int32) (roa : Nat) (rok : Nat) (rof : Nat → Int32) (os : List Nat) (ii : Int32) (hro : rOk (nI os.length) rok) (hGro : gIs rof os) (hLro : os.length ≤ 8192) : MetI l y_RC_out (Cond.code y_RC_out prog_1_method_8_code 2 (some .int) :: gw) ({ frames := 2, cells := 0, slots := 0, locals := 42 } : Room) (dC, dI) vwCl (kT cI cM cO) [Value.ref rc, Value.int ii] [(rc, Sum.inr (6, [Value.ref co, Value.ref ma, Value.int (nI k), Value.int fit, Value.int fen, Value.int frd, Value.int fbd, Value.int fir])), (co, Sum.inr (2, [Value.long xlow, Value.long xrange, Value.long xcode, Value.long xreadLow, Value.long xreadRange, Value.ref ri, Value.ref ro, Value.ref rw, Value.int xasked])), (ro, Sum.inr (0, [Value.int (nI os.length), Value.ref roa])), (roa, Sum.inl (cI, rok, Sum.inl rof))] sz (fun (r : Int32) (u : Unit) => r = rAt os ii) (fun (u : Unit) => [(rc, Sum.inr (6, [Value.ref co, Value.ref ma, Value.int (nI k), Value.int fit, Value.int fen, Value.int frd, Value.int fbd, Value.int fir])), (co, Sum.inr (2, [Value.long xlow, Value.long xrange, Value.long xcode, Value.long xreadLow, Value.long xreadRange, Value.ref ri, Value.ref ro, Value.ref rw, Value.int xasked])), (ro, Sum.inr (0, [Value.int (nI os.length), Value.ref roa])), (roa, Sum.inl (cI, rok, Sum.inl rof))]) 0 0 := by
  refine my_ofI (cc := prog_1_method_8_code) (n := 2) (ret := (some .int)) (by decide) rfl (Nat.le_of_ble_eq_true rfl) ?_
  intro p e s m args below meth c R Q A ls H locs hx hb hr hts hown hlocks hml hnm hR hQ hA hl hP hK hN hD hS
  have hg : ∀ w ∈ gw, w.before args s = true := fun w h => hts w (List.mem_cons_of_mem _ h)
  have hown : s.vm.findClass "RangeCoders" = some m.cls := hown
  have hl : lv_has ls 2 [(0, Value.ref rc), (1, Value.int ii)] := hl
  refine lv_aload_n hx hb d_RC_out_0 rfl (lv_at hl 0 rfl) ?_
  refine va_get (D := (dC, dI)) (ci := 6) (v := .ref co) (C := "RangeCoders") (T := T_RC) (N := 8) hx hb hg in_RC hown hK hP 0 rfl rfl 0 (by decide) (hg _ k258) (fun _ h9 => h9) rfl d_RC_out_1 ?_
  refine va_get (D := (dC, dI)) (ci := 2) (v := .ref ro) (C := "RangeCoders$NoCarries") (T := T_NoCarries) (N := 9) hx hb hg in_NoCarries hown hK hP 1 rfl rfl 6 (by decide) (hg _ k108) (fun _ h9 => h9) rfl d_RC_out_4 ?_
  refine lv_iload_n hx hb d_RC_out_7 rfl (lv_at hl 1 rfl) ?_
  refine my_ci (wr := [(rc, Sum.inr (6, [Value.ref co, Value.ref ma, Value.int (nI k), Value.int fit, Value.int fen, Value.int frd, Value.int fbd, Value.int fir])), (co, Sum.inr (2, [Value.long xlow, Value.long xrange, Value.long xcode, Value.long xreadLow, Value.long xreadRange, Value.ref ri, Value.ref ro, Value.ref rw, Value.int xasked]))]) (va_runV (As := [Value.int ii]) (rest := []) ⟨hx, hb, hml, hown, hts⟩ (f_Row_at l dC dI cI cM cO H.size ro roa rok rof os ii (hro) (hGro) (hLro)) (cwV 1 hts (my_gV k703 k659 k660 k6 k661) rfl rfl rfl cu_Row_at_1 ⟨by rw [hR]; exact Nat.le_of_ble_eq_true rfl, by rw [hR]; exact Nat.le_of_ble_eq_true rfl⟩) (my_preV hK hN (hP.sub [2, 3] rfl) (hD.sub [2, 3] (by decide +kernel) rfl) 0 rfl rfl) rfl rfl hl.1 rfl (lv_room (Nat.le_of_ble_eq_true rfl)) d_RC_out_8 ⟨by rw [hR]; exact Nat.le_of_ble_eq_true rfl, by rw [hR]; exact Nat.le_of_ble_eq_true rfl⟩) hP hD hS hA [2, 3] [0, 1] rfl rfl (by decide +kernel) (by decide +kernel) (fun r_8 u9 H locs hw_8 hP hD hS => ?_)
  have hr_8 : r_8 = rAt os ii := hw_8
  have hPD : my_PD (dC, dI) vwCl A [(rc, Sum.inr (6, [Value.ref co, Value.ref ma, Value.int (nI k), Value.int fit, Value.int fen, Value.int frd, Value.int fbd, Value.int fir])), (co, Sum.inr (2, [Value.long xlow, Value.long xrange, Value.long xcode, Value.long xreadLow, Value.long xreadRange, Value.ref ri, Value.ref ro, Value.ref rw, Value.int xasked])), (ro, Sum.inr (0, [Value.int (nI os.length), Value.ref roa])), (roa, Sum.inl (cI, rok, Sum.inl rof))] H := ⟨hP, hD⟩
  have hP := hPD.1
  have hD := hPD.2
  exact my_iret (v := r_8) hx hb hr (rfl) hlocks hQ hK hS (Nat.le_refl _) (Nat.le_refl _) () (hr_8) (hP.sub [0, 1, 2, 3] rfl) (hD.sub [0, 1, 2, 3] (by decide +kernel) rfl) d_RC_out_11
set_option maxHeartbeats 2000000 in
set_option maxRecDepth 100000 in
theorem f_RC_octetsR_NoCarries (l : Launch) (dC : Nat → ClassId) (dI : Nat → Nat → Nat) (cI cM cO : ClassId) (sz : Nat) (rc : Nat) (ma : Nat) (k : Nat) (fit : Int32) (fen : Int32) (frd : Int32) (fbd : Int32) (fir : Int32) (mf : Nat → Option Nat) (co : Nat) (xlow : Int64) (xrange : Int64) (xcode : Int64) (xreadLow : Int64) (xreadRange : Int64) (ri : Nat) (ro : Nat) (rw : Nat) (xasked : Int32) (ria : Nat) (rik : Nat) (rif : Nat → Int32) (is : List Nat) (vv : Int32) (hri : rOk (nI is.length) rik) (hGri : gIs rif is) (hLri : is.length ≤ 6000) (hfl : 6000 < is.length + 4) : MetI l y_RC_octets (Cond.code y_RC_octets prog_1_method_9_code 3 (some .int) :: gw) ({ frames := 0, cells := 0, slots := 0, locals := 0 } : Room) (dC, dI) vwCl (kT cI cM cO) [Value.ref rc, Value.int vv] [(rc, Sum.inr (6, [Value.ref co, Value.ref ma, Value.int (nI k), Value.int fit, Value.int fen, Value.int frd, Value.int fbd, Value.int fir])), (co, Sum.inr (2, [Value.long xlow, Value.long xrange, Value.long xcode, Value.long xreadLow, Value.long xreadRange, Value.ref ri, Value.ref ro, Value.ref rw, Value.int xasked])), (ri, Sum.inr (0, [Value.int (nI is.length), Value.ref ria])), (ria, Sum.inl (cI, rik, Sum.inl rif))] sz (fun (r : Int32) (u : Unit) => r = -4) (fun (u : Unit) => [(rc, Sum.inr (6, [Value.ref co, Value.ref ma, Value.int (nI k), Value.int fit, Value.int fen, Value.int frd, Value.int fbd, Value.int fir])), (co, Sum.inr (2, [Value.long xlow, Value.long xrange, Value.long xcode, Value.long xreadLow, Value.long xreadRange, Value.ref ri, Value.ref ro, Value.ref rw, Value.int xasked])), (ri, Sum.inr (0, [Value.int (nI is.length), Value.ref ria])), (ria, Sum.inl (cI, rik, Sum.inl rif))]) 0 0 := by
  refine my_ofI (cc := prog_1_method_9_code) (n := 3) (ret := (some .int)) (by decide) rfl (Nat.le_of_ble_eq_true rfl) ?_
  intro p e s m args below meth c R Q A ls H locs hx hb hr hts hown hlocks hml hnm hR hQ hA hl hP hK hN hD hS
  have hg : ∀ w ∈ gw, w.before args s = true := fun w h => hts w (List.mem_cons_of_mem _ h)
  have hown : s.vm.findClass "RangeCoders" = some m.cls := hown
  have hl : lv_has ls 3 [(0, Value.ref rc), (1, Value.int vv)] := hl
  refine lv_aload_n hx hb d_RC_octets_0 rfl (lv_at hl 0 rfl) ?_
  refine va_get (D := (dC, dI)) (ci := 6) (v := .ref co) (C := "RangeCoders") (T := T_RC) (N := 8) hx hb hg in_RC hown hK hP 0 rfl rfl 0 (by decide) (hg _ k258) (fun _ h9 => h9) rfl d_RC_octets_1 ?_
  refine va_get (D := (dC, dI)) (ci := 2) (v := .ref ri) (C := "RangeCoders$NoCarries") (T := T_NoCarries) (N := 9) hx hb hg in_NoCarries hown hK hP 1 rfl rfl 5 (by decide) (hg _ k102) (fun _ h9 => h9) rfl d_RC_octets_4 ?_
  refine va_get (D := (dC, dI)) (ci := 0) (v := .int (nI is.length)) (C := "RangeCoders$Row") (T := T_Row) (N := 2) hx hb hg in_Row hown hK hP 2 rfl rfl 0 (by decide) (hg _ k58) (fun _ h9 => h9) rfl d_RC_octets_7 ?_
  refine lv_iconst (v := 4) hx hb d_RC_octets_10 (by decide) ?_
  refine lv_iadd hx hb d_RC_octets_11 ?_
  refine lv_topi (fun v_1 ev_1 => ?_)
  refine lv_sipush (v := 6000) hx hb d_RC_octets_12 (by decide) ?_
  have z9 : v_1 = nI (is.length + 4) := by rw [ev_1]; exact nI_add _ 4
  subst z9
  refine lv_icmp_le (tgt := 21) hx hb d_RC_octets_15 (by decide) (fun c_2 => ?_) (fun c_2 => ?_)
  · exact absurd ((nI_cmp (b := 6000) (by omega) (by decide)).mp c_2) (by omega)
  · refine lv_bipush (v := (-4)) hx hb d_RC_octets_18 (by decide) ?_
    exact my_iret (v := (-4)) hx hb hr (rfl) hlocks hQ hK hS (Nat.le_refl _) (Nat.le_refl _) () (rfl) (hP.sub [0, 1, 2, 3] rfl) (hD.sub [0, 1, 2, 3] (by decide +kernel) rfl) d_RC_octets_20
set_option maxHeartbeats 2000000 in
set_option maxRecDepth 100000 in
theorem f_RC_octetsL_NoCarries (l : Launch) (dC : Nat → ClassId) (dI : Nat → Nat → Nat) (cI cM cO : ClassId) (sz : Nat) (sl : Nat) (rc : Nat) (ma : Nat) (k : Nat) (fit : Int32) (fen : Int32) (frd : Int32) (fbd : Int32) (fir : Int32) (mf : Nat → Option Nat) (co : Nat) (xlow : Int64) (xrange : Int64) (xcode : Int64) (xreadLow : Int64) (xreadRange : Int64) (ri : Nat) (ro : Nat) (rw : Nat) (xasked : Int32) (ria : Nat) (rik : Nat) (rif : Nat → Int32) (is : List Nat) (vv : Int32) (hri : rOk (nI is.length) rik) (hGri : gIs rif is) (hLri : is.length ≤ 6000) (hfl : is.length + 4 ≤ 6000) : MetIg l y_RC_octets (Cond.code y_RC_octets prog_1_method_9_code 3 (some .int) :: gw) ({ frames := 3, cells := rPh rik, slots := rPh rik, locals := 83 } : Room) (dC, dI) vwCl (kT cI cM cO) [Value.ref rc, Value.int vv] [(rc, Sum.inr (6, [Value.ref co, Value.ref ma, Value.int (nI k), Value.int fit, Value.int fen, Value.int frd, Value.int fbd, Value.int fir])), (co, Sum.inr (2, [Value.long xlow, Value.long xrange, Value.long xcode, Value.long xreadLow, Value.long xreadRange, Value.ref ri, Value.ref ro, Value.ref rw, Value.int xasked])), (ri, Sum.inr (0, [Value.int (nI is.length), Value.ref ria])), (ria, Sum.inl (cI, rik, Sum.inl rif))] sz sl (fun (r : Int32) (u : Nat × Nat × (Nat → Int32)) => r = nI (is ++ [oB vv 3, oB vv 2, oB vv 1, oB vv 0]).length ∧ rOk (nI (is ++ [oB vv 3, oB vv 2, oB vv 1, oB vv 0]).length) u.2.1 ∧ gIs u.2.2 (is ++ [oB vv 3, oB vv 2, oB vv 1, oB vv 0])) (fun (u : Nat × Nat × (Nat → Int32)) => [(rc, Sum.inr (6, [Value.ref co, Value.ref ma, Value.int (nI k), Value.int fit, Value.int fen, Value.int frd, Value.int fbd, Value.int fir])), (co, Sum.inr (2, [Value.long xlow, Value.long xrange, Value.long xcode, Value.long xreadLow, Value.long xreadRange, Value.ref ri, Value.ref ro, Value.ref rw, Value.int xasked])), (ri, Sum.inr (0, [Value.int (nI (is ++ [oB vv 3, oB vv 2, oB vv 1, oB vv 0]).length), Value.ref u.1])), (u.1, Sum.inl (cI, u.2.1, Sum.inl u.2.2))]) (rPh rik) (fun (u : Nat × Nat × (Nat → Int32)) => rPh u.2.1) := by
  refine my_ofIg (cc := prog_1_method_9_code) (n := 3) (ret := (some .int)) (by decide) rfl (Nat.le_of_ble_eq_true rfl) ?_
  intro p e s m args below meth c R Q A ls H locs hx hb hr hts hown hlocks hml hnm hR hQ hA hl hP hK hN hD hS
  have hg : ∀ w ∈ gw, w.before args s = true := fun w h => hts w (List.mem_cons_of_mem _ h)
  have hown : s.vm.findClass "RangeCoders" = some m.cls := hown
  have hl : lv_has ls 3 [(0, Value.ref rc), (1, Value.int vv)] := hl
  have hlti := rOk_lt hri
  refine lv_aload_n hx hb d_RC_octets_0 rfl (lv_at hl 0 rfl) ?_
  refine va_get (D := (dC, dI)) (ci := 6) (v := .ref co) (C := "RangeCoders") (T := T_RC) (N := 8) hx hb hg in_RC hown hK hP 0 rfl rfl 0 (by decide) (hg _ k258) (fun _ h9 => h9) rfl d_RC_octets_1 ?_
  refine va_get (D := (dC, dI)) (ci := 2) (v := .ref ri) (C := "RangeCoders$NoCarries") (T := T_NoCarries) (N := 9) hx hb hg in_NoCarries hown hK hP 1 rfl rfl 5 (by decide) (hg _ k102) (fun _ h9 => h9) rfl d_RC_octets_4 ?_
  refine va_get (D := (dC, dI)) (ci := 0) (v := .int (nI is.length)) (C := "RangeCoders$Row") (T := T_Row) (N := 2) hx hb hg in_Row hown hK hP 2 rfl rfl 0 (by decide) (hg _ k58) (fun _ h9 => h9) rfl d_RC_octets_7 ?_
  refine lv_iconst (v := 4) hx hb d_RC_octets_10 (by decide) ?_
  refine lv_iadd hx hb d_RC_octets_11 ?_
  refine lv_topi (fun v_1 ev_1 => ?_)
  refine lv_sipush (v := 6000) hx hb d_RC_octets_12 (by decide) ?_
  have z9 : v_1 = nI (is.length + 4) := by rw [ev_1]; exact nI_add _ 4
  subst z9
  refine lv_icmp_le (tgt := 21) hx hb d_RC_octets_15 (by decide) (fun c_2 => ?_) (fun c_2 => ?_)
  · refine lv_bipush (v := 24) hx hb d_RC_octets_21 (by decide) ?_
    refine lv_istore_n (lv' := [(2, Value.int 24), (0, Value.ref rc), (1, Value.int vv)]) hx hb d_RC_octets_23 rfl hl (by decide) rfl (fun ls hl => ?_)
    have J_24 : ∀ (n9_24 : Nat) (i9 : Int32) (j : Nat) (b9 : List Nat) (ria9 : Nat) (rik9 : Nat) (rif9 : Nat → Int32) (d9 : Nat) (hn9_24 : j = n9_24) (hi : i9.toInt = 8 * (j : Int) - 8) (hj : j ≤ 4) (hb9 : is ++ [oB vv 3, oB vv 2, oB vv 1, oB vv 0] = b9 ++ (List.range j).reverse.map (oB vv)) (hM9 : b9.length + j = is.length + 4) (hr9 : rOk (nI b9.length) rik9) (hg9 : gIs rif9 b9) (hd9 : d9 + rPh rik9 ≤ rPh rik) (H : Heap) (locs : List Loc) (ls : Array Slot), va_P (dC, dI) vwCl [(rc, Sum.inr (6, [Value.ref co, Value.ref ma, Value.int (nI k), Value.int fit, Value.int fen, Value.int frd, Value.int fbd, Value.int fir])), (co, Sum.inr (2, [Value.long xlow, Value.long xrange, Value.long xcode, Value.long xreadLow, Value.long xreadRange, Value.ref ri, Value.ref ro, Value.ref rw, Value.int xasked])), (ri, Sum.inr (0, [Value.int (nI b9.length), Value.ref ria9])), (ria9, Sum.inl (cI, rik9, Sum.inl rif9))] H → va_D A [(rc, Sum.inr (6, [Value.ref co, Value.ref ma, Value.int (nI k), Value.int fit, Value.int fen, Value.int frd, Value.int fbd, Value.int fir])), (co, Sum.inr (2, [Value.long xlow, Value.long xrange, Value.long xcode, Value.long xreadLow, Value.long xreadRange, Value.ref ri, Value.ref ro, Value.ref rw, Value.int xasked])), (ri, Sum.inr (0, [Value.int (nI b9.length), Value.ref ria9])), (ria9, Sum.inl (cI, rik9, Sum.inl rif9))] → va_S A s.heap H locs → lv_has ls 3 [(2, Value.int i9), (0, Value.ref rc), (1, Value.int vv)] → W p l e R s m args below meth c H locs d9 d9 Q (F0 m 24 ls []) := by
      intro n9_24
      induction n9_24 using Nat.strongRecOn with
      | ind n9_24 ih9_24 =>
        intro i9 j b9 ria9 rik9 rif9 d9 hn9_24 hi hj hb9 hM9 hr9 hg9 hd9 H locs ls hP hD hS hl
        refine lv_iload_n hx hb d_RC_octets_24 rfl (lv_at hl 0 rfl) ?_
        refine lv_if_lt (tgt := 51) hx hb d_RC_octets_25 (by decide) (fun c_3 => ?_) (fun c_3 => ?_)
        · have z9 := I_ng c_3
          have hj0 : j = 0 := by omega
          have z9 : b9 = is ++ [oB vv 3, oB vv 2, oB vv 1, oB vv 0] := by rw [hb9, hj0]; simp
          subst z9
          refine lv_aload_n hx hb d_RC_octets_51 rfl (lv_at hl 1 rfl) ?_
          refine va_get (D := (dC, dI)) (ci := 6) (v := .ref co) (C := "RangeCoders") (T := T_RC) (N := 8) hx hb hg in_RC hown hK hP 0 rfl rfl 0 (by decide) (hg _ k258) (fun _ h9 => h9) rfl d_RC_octets_52 ?_
          refine va_get (D := (dC, dI)) (ci := 2) (v := .ref ri) (C := "RangeCoders$NoCarries") (T := T_NoCarries) (N := 9) hx hb hg in_NoCarries hown hK hP 1 rfl rfl 5 (by decide) (hg _ k102) (fun _ h9 => h9) rfl d_RC_octets_55 ?_
          refine va_get (D := (dC, dI)) (ci := 0) (v := .int (nI (is ++ [oB vv 3, oB vv 2, oB vv 1, oB vv 0]).length)) (C := "RangeCoders$Row") (T := T_Row) (N := 2) hx hb hg in_Row hown hK hP 2 rfl rfl 0 (by decide) (hg _ k58) (fun _ h9 => h9) rfl d_RC_octets_58 ?_
          exact my_iretg (v := nI (is ++ [oB vv 3, oB vv 2, oB vv 1, oB vv 0]).length) hx hb hr (rfl) hlocks hQ hK hS (ria9, rik9, rif9) (show d9 + (rPh rik9) ≤ (rPh rik) by omega) (show d9 + (rPh rik9) ≤ (rPh rik) by omega) (⟨rfl, hr9, hg9⟩) (hP.sub [0, 1, 2, 3] rfl) (hD.sub [0, 1, 2, 3] (by decide +kernel) rfl) d_RC_octets_61
        · have z9 := I_nn c_3
          have hj0 : 1 ≤ j := by omega
          have hi9 : i9 = nI (8 * (j - 1)) := Int32.toInt_inj.mp (by rw [nI_toInt (by omega)]; omega)
          refine lv_aload_n hx hb d_RC_octets_28 rfl (lv_at hl 1 rfl) ?_
          refine va_get (D := (dC, dI)) (ci := 6) (v := .ref co) (C := "RangeCoders") (T := T_RC) (N := 8) hx hb hg in_RC hown hK hP 0 rfl rfl 0 (by decide) (hg _ k258) (fun _ h9 => h9) rfl d_RC_octets_29 ?_
          refine va_get (D := (dC, dI)) (ci := 2) (v := .ref ri) (C := "RangeCoders$NoCarries") (T := T_NoCarries) (N := 9) hx hb hg in_NoCarries hown hK hP 1 rfl rfl 5 (by decide) (hg _ k102) (fun _ h9 => h9) rfl d_RC_octets_32 ?_
          refine lv_iload_n hx hb d_RC_octets_35 rfl (lv_at hl 2 rfl) ?_
          refine lv_iload_n hx hb d_RC_octets_36 rfl (lv_at hl 0 rfl) ?_
          refine lv_iushr hx hb d_RC_octets_37 rfl ?_
          refine lv_topi (fun v_4 ev_4 => ?_)
          refine lv_sipush (v := 255) hx hb d_RC_octets_38 (by decide) ?_
          refine lv_iand hx hb d_RC_octets_41 ?_
          refine lv_topi (fun v_5 ev_5 => ?_)
          have z9 : v_5 = nI (oB vv (j - 1)) := by rw [ev_5, ev_4]; exact oB_u vv (j - 1) (by omega) _ hi9
          subst z9
          refine my_cvg (wr := [(rc, Sum.inr (6, [Value.ref co, Value.ref ma, Value.int (nI k), Value.int fit, Value.int fen, Value.int frd, Value.int fbd, Value.int fir])), (co, Sum.inr (2, [Value.long xlow, Value.long xrange, Value.long xcode, Value.long xreadLow, Value.long xreadRange, Value.ref ri, Value.ref ro, Value.ref rw, Value.int xasked]))]) (va_runV (As := [Value.int (nI (oB vv (j - 1)))]) (rest := []) ⟨hx, hb, hml, hown, hts⟩ (f_Row_add l dC dI cI cM cO H.size (hSl H) ri ria9 rik9 rif9 b9 (oB vv (j - 1)) (hr9) (hg9) (by omega)) (cwV 1 hts (my_gV k708 k473 k474 k6 k475) rfl rfl rfl cu_Row_add_1 ⟨by rw [hR]; exact Nat.le_of_ble_eq_true rfl, by rw [hR]; exact Nat.le_of_ble_eq_true rfl⟩) (my_preVg hK hN (hP.sub [2, 3] rfl) (hD.sub [2, 3] (by decide +kernel) rfl) 0 rfl rfl) rfl rfl hl.1 rfl (lv_room (Nat.le_of_ble_eq_true rfl)) d_RC_octets_42 ⟨by rw [hR]; exact (show d9 + (rPh rik9) ≤ (rPh rik) by omega), by rw [hR]; exact (show d9 + (rPh rik9) ≤ (rPh rik) by omega)⟩) hP hD hS hA [2, 3] [0, 1] rfl rfl (by decide +kernel) (by decide +kernel) (fun u9 d_42 H locs hd_42 hw_42 hP hD hS => ?_)
          obtain ⟨rraq_42, rrkq_42, rrfq_42⟩ := u9
          obtain ⟨hrr_42, hGrr_42⟩ : rOk (nI (b9 ++ [(oB vv (j - 1))]).length) rrkq_42 ∧ gIs rrfq_42 (b9 ++ [(oB vv (j - 1))]) := hw_42
          have hd_42 : d_42 + (rPh rrkq_42) ≤ (rPh rik9) := hd_42
          have hPD : my_PD (dC, dI) vwCl A [(rc, Sum.inr (6, [Value.ref co, Value.ref ma, Value.int (nI k), Value.int fit, Value.int fen, Value.int frd, Value.int fbd, Value.int fir])), (co, Sum.inr (2, [Value.long xlow, Value.long xrange, Value.long xcode, Value.long xreadLow, Value.long xreadRange, Value.ref ri, Value.ref ro, Value.ref rw, Value.int xasked])), (ri, Sum.inr (0, [Value.int (nI (b9 ++ [(oB vv (j - 1))]).length), Value.ref rraq_42])), (rraq_42, Sum.inl (cI, rrkq_42, Sum.inl rrfq_42))] H := ⟨hP, hD⟩
          have hP := hPD.1
          have hD := hPD.2
          obtain ⟨v_6, ev_6⟩ : ∃ y : Int32, y = i9 + (-8) := ⟨_, rfl⟩
          refine lv_iinc (v := v_6) (lv' := [(2, Value.int v_6), (0, Value.ref rc), (1, Value.int vv)]) hx hb d_RC_octets_45 hl (k := 0) rfl (by rw [ev_6]; rfl) (by decide) rfl (fun ls hl => ?_)
          refine lv_goto (tgt := 24) hx hb d_RC_octets_48 (by decide) ?_
          exact ih9_24 _ (by first | omega | (omega)) v_6 (j - 1) (b9 ++ [oB vv (j - 1)]) rraq_42 rrkq_42 rrfq_42 (d9 + d_42) rfl (by have z9 := I_dn8 c_3 ev_6; omega) (by omega) (by rw [hb9, show j = (j - 1) + 1 by omega, List.range_succ, List.reverse_append]; simp) (by rw [List.length_append, List.length_singleton]; omega) (hrr_42) (hGrr_42) (by omega) H locs ls (hP.sub [0, 1, 2, 3] rfl) (hD.sub [0, 1, 2, 3] (by decide +kernel) rfl) hS (lv_sub hl [0, 1, 2] rfl)
    exact J_24 _ (24 : Int32) (4 : Nat) is ria rik rif (0 : Nat) rfl (by decide) (by decide) (rfl) (rfl) (hri) (hGri) (by omega) H locs ls (hP.sub [0, 1, 2, 3] rfl) (hD.sub [0, 1, 2, 3] (by decide +kernel) rfl) hS (lv_sub hl [0, 1, 2] rfl)
  · exact absurd ((nI_cmp (b := 6000) (by omega) (by decide)).mpr (by omega)) c_2
set_option maxHeartbeats 2000000 in
set_option maxRecDepth 100000 in
theorem f_RC_takeA_NoCarries (l : Launch) (dC : Nat → ClassId) (dI : Nat → Nat → Nat) (cI cM cO : ClassId) (sz : Nat) (rc : Nat) (ma : Nat) (k : Nat) (fit : Int32) (fen : Int32) (frd : Int32) (fbd : Int32) (fir : Int32) (mf : Nat → Option Nat) (co : Nat) (xlow : Int64) (xrange : Int64) (xcode : Int64) (xreadLow : Int64) (xreadRange : Int64) (ri : Nat) (ro : Nat) (rw : Nat) (xasked : Int32) (roa : Nat) (rok : Nat) (rof : Nat → Int32) (os : List Nat) (nn : Int32) (hro : rOk (nI os.length) rok) (hGro : gIs rof os) (hLro : os.length ≤ 8192) (hno : nn < 0 ∨ nI os.length < nn - 2) : MetI l y_RC_take (Cond.code y_RC_take prog_1_method_10_code 4 (some .int) :: gw) ({ frames := 0, cells := 0, slots := 0, locals := 0 } : Room) (dC, dI) vwCl (kT cI cM cO) [Value.ref rc, Value.int nn] [(rc, Sum.inr (6, [Value.ref co, Value.ref ma, Value.int (nI k), Value.int fit, Value.int fen, Value.int frd, Value.int fbd, Value.int fir])), (co, Sum.inr (2, [Value.long xlow, Value.long xrange, Value.long xcode, Value.long xreadLow, Value.long xreadRange, Value.ref ri, Value.ref ro, Value.ref rw, Value.int xasked])), (ro, Sum.inr (0, [Value.int (nI os.length), Value.ref roa])), (roa, Sum.inl (cI, rok, Sum.inl rof))] sz (fun (r : Int32) (u : Unit) => r = -2) (fun (u : Unit) => [(rc, Sum.inr (6, [Value.ref co, Value.ref ma, Value.int (nI k), Value.int fit, Value.int fen, Value.int frd, Value.int fbd, Value.int fir])), (co, Sum.inr (2, [Value.long xlow, Value.long xrange, Value.long xcode, Value.long xreadLow, Value.long xreadRange, Value.ref ri, Value.ref ro, Value.ref rw, Value.int xasked])), (ro, Sum.inr (0, [Value.int (nI os.length), Value.ref roa])), (roa, Sum.inl (cI, rok, Sum.inl rof))]) 0 0 := by
  refine my_ofI (cc := prog_1_method_10_code) (n := 4) (ret := (some .int)) (by decide) rfl (Nat.le_of_ble_eq_true rfl) ?_
  intro p e s m args below meth c R Q A ls H locs hx hb hr hts hown hlocks hml hnm hR hQ hA hl hP hK hN hD hS
  have hg : ∀ w ∈ gw, w.before args s = true := fun w h => hts w (List.mem_cons_of_mem _ h)
  have hown : s.vm.findClass "RangeCoders" = some m.cls := hown
  have hl : lv_has ls 4 [(0, Value.ref rc), (1, Value.int nn)] := hl
  refine lv_iload_n hx hb d_RC_take_0 rfl (lv_at hl 1 rfl) ?_
  refine lv_if_lt (tgt := 20) hx hb d_RC_take_1 (by decide) (fun c_1 => ?_) (fun c_1 => ?_)
  · refine lv_bipush (v := (-2)) hx hb d_RC_take_20 (by decide) ?_
    exact my_iret (v := (-2)) hx hb hr (rfl) hlocks hQ hK hS (Nat.le_refl _) (Nat.le_refl _) () (rfl) (hP.sub [0, 1, 2, 3] rfl) (hD.sub [0, 1, 2, 3] (by decide +kernel) rfl) d_RC_take_22
  · refine lv_iload_n hx hb d_RC_take_4 rfl (lv_at hl 1 rfl) ?_
    refine lv_iconst (v := 2) hx hb d_RC_take_5 (by decide) ?_
    refine lv_isub hx hb d_RC_take_6 ?_
    refine lv_topi (fun v_2 ev_2 => ?_)
    refine lv_aload_n hx hb d_RC_take_7 rfl (lv_at hl 0 rfl) ?_
    refine va_get (D := (dC, dI)) (ci := 6) (v := .ref co) (C := "RangeCoders") (T := T_RC) (N := 8) hx hb hg in_RC hown hK hP 0 rfl rfl 0 (by decide) (hg _ k258) (fun _ h9 => h9) rfl d_RC_take_8 ?_
    refine va_get (D := (dC, dI)) (ci := 2) (v := .ref ro) (C := "RangeCoders$NoCarries") (T := T_NoCarries) (N := 9) hx hb hg in_NoCarries hown hK hP 1 rfl rfl 6 (by decide) (hg _ k108) (fun _ h9 => h9) rfl d_RC_take_11 ?_
    refine va_get (D := (dC, dI)) (ci := 0) (v := .int (nI os.length)) (C := "RangeCoders$Row") (T := T_Row) (N := 2) hx hb hg in_Row hown hK hP 2 rfl rfl 0 (by decide) (hg _ k58) (fun _ h9 => h9) rfl d_RC_take_14 ?_
    refine lv_icmp_le (tgt := 23) hx hb d_RC_take_17 (by decide) (fun c_3 => ?_) (fun c_3 => ?_)
    · exact absurd hno (fun h9 => h9.elim c_1 (fun q9 => absurd (by rw [← ev_2]; exact c_3) (Int32.not_le.mpr q9)))
    · refine lv_bipush (v := (-2)) hx hb d_RC_take_20 (by decide) ?_
      exact my_iret (v := (-2)) hx hb hr (rfl) hlocks hQ hK hS (Nat.le_refl _) (Nat.le_refl _) () (rfl) (hP.sub [0, 1, 2, 3] rfl) (hD.sub [0, 1, 2, 3] (by decide +kernel) rfl) d_RC_take_22
set_option maxHeartbeats 2000000 in
set_option maxRecDepth 100000 in
theorem f_RC_takeB_NoCarries (l : Launch) (dC : Nat → ClassId) (dI : Nat → Nat → Nat) (cI cM cO : ClassId) (sz : Nat) (sl : Nat) (rc : Nat) (ma : Nat) (k : Nat) (fit : Int32) (fen : Int32) (frd : Int32) (fbd : Int32) (fir : Int32) (mf : Nat → Option Nat) (co : Nat) (xlow : Int64) (xrange : Int64) (xcode : Int64) (xreadLow : Int64) (xreadRange : Int64) (ri : Nat) (ro : Nat) (rw : Nat) (xasked : Int32) (roa : Nat) (rok : Nat) (rof : Nat → Int32) (os : List Nat) (rin : Int32) (ria : Nat) (rik : Nat) (rif : Nat → Int32) (nn : Int32) (ll : Nat) (hro : rOk (nI os.length) rok) (hGro : gIs rof os) (hLro : os.length ≤ 8192) (hri : rOk rin rik) (hn0 : ¬ nn < 0) (hn2 : nn - 2 ≤ nI os.length) (hll : ll ≤ os.length) (hl1 : nn = 1 → ll = os.length) (hl2 : ¬ nn = 1 → (if (0 : Int32) < nn - 2 then nn - 2 else 0) = nI ll) : MetIg l y_RC_take (Cond.code y_RC_take prog_1_method_10_code 4 (some .int) :: gw) ({ frames := 3, cells := rPh rik, slots := rPh rik, locals := 83 } : Room) (dC, dI) vwCl (kT cI cM cO) [Value.ref rc, Value.int nn] [(rc, Sum.inr (6, [Value.ref co, Value.ref ma, Value.int (nI k), Value.int fit, Value.int fen, Value.int frd, Value.int fbd, Value.int fir])), (co, Sum.inr (2, [Value.long xlow, Value.long xrange, Value.long xcode, Value.long xreadLow, Value.long xreadRange, Value.ref ri, Value.ref ro, Value.ref rw, Value.int xasked])), (ro, Sum.inr (0, [Value.int (nI os.length), Value.ref roa])), (roa, Sum.inl (cI, rok, Sum.inl rof)), (ri, Sum.inr (0, [Value.int rin, Value.ref ria])), (ria, Sum.inl (cI, rik, Sum.inl rif))] sz sl (fun (r : Int32) (u : Nat × Nat × (Nat → Int32)) => r = nI (os.take ll).length ∧ rOk (nI (os.take ll).length) u.2.1 ∧ gIs u.2.2 (os.take ll)) (fun (u : Nat × Nat × (Nat → Int32)) => [(rc, Sum.inr (6, [Value.ref co, Value.ref ma, Value.int (nI k), Value.int fit, Value.int fen, Value.int 0, Value.int 0, Value.int 0])), (co, Sum.inr (2, [Value.long xlow, Value.long xrange, Value.long xcode, Value.long xreadLow, Value.long xreadRange, Value.ref ri, Value.ref ro, Value.ref rw, Value.int xasked])), (ro, Sum.inr (0, [Value.int (nI os.length), Value.ref roa])), (roa, Sum.inl (cI, rok, Sum.inl rof)), (ri, Sum.inr (0, [Value.int (nI (os.take ll).length), Value.ref u.1])), (u.1, Sum.inl (cI, u.2.1, Sum.inl u.2.2))]) (rPh rik) (fun (u : Nat × Nat × (Nat → Int32)) => rPh u.2.1) := by
  refine my_ofIg (cc := prog_1_method_10_code) (n := 4) (ret := (some .int)) (by decide) rfl (Nat.le_of_ble_eq_true rfl) ?_
  intro p e s m args below meth c R Q A ls H locs hx hb hr hts hown hlocks hml hnm hR hQ hA hl hP hK hN hD hS
  have hg : ∀ w ∈ gw, w.before args s = true := fun w h => hts w (List.mem_cons_of_mem _ h)
  have hown : s.vm.findClass "RangeCoders" = some m.cls := hown
  have hl : lv_has ls 4 [(0, Value.ref rc), (1, Value.int nn)] := hl
  have hlti := rOk_lt hri
  have hlto := rOk_lt hro
  refine lv_iload_n hx hb d_RC_take_0 rfl (lv_at hl 1 rfl) ?_
  refine lv_if_lt (tgt := 20) hx hb d_RC_take_1 (by decide) (fun c_1 => ?_) (fun c_1 => ?_)
  · exact absurd c_1 hn0
  · refine lv_iload_n hx hb d_RC_take_4 rfl (lv_at hl 1 rfl) ?_
    refine lv_iconst (v := 2) hx hb d_RC_take_5 (by decide) ?_
    refine lv_isub hx hb d_RC_take_6 ?_
    refine lv_topi (fun v_2 ev_2 => ?_)
    refine lv_aload_n hx hb d_RC_take_7 rfl (lv_at hl 0 rfl) ?_
    refine va_get (D := (dC, dI)) (ci := 6) (v := .ref co) (C := "RangeCoders") (T := T_RC) (N := 8) hx hb hg in_RC hown hK hP 0 rfl rfl 0 (by decide) (hg _ k258) (fun _ h9 => h9) rfl d_RC_take_8 ?_
    refine va_get (D := (dC, dI)) (ci := 2) (v := .ref ro) (C := "RangeCoders$NoCarries") (T := T_NoCarries) (N := 9) hx hb hg in_NoCarries hown hK hP 1 rfl rfl 6 (by decide) (hg _ k108) (fun _ h9 => h9) rfl d_RC_take_11 ?_
    refine va_get (D := (dC, dI)) (ci := 0) (v := .int (nI os.length)) (C := "RangeCoders$Row") (T := T_Row) (N := 2) hx hb hg in_Row hown hK hP 2 rfl rfl 0 (by decide) (hg _ k58) (fun _ h9 => h9) rfl d_RC_take_14 ?_
    refine lv_icmp_le (tgt := 23) hx hb d_RC_take_17 (by decide) (fun c_3 => ?_) (fun c_3 => ?_)
    · refine lv_iload_n hx hb d_RC_take_23 rfl (lv_at hl 1 rfl) ?_
      refine lv_iconst (v := 1) hx hb d_RC_take_24 (by decide) ?_
      refine lv_icmp_ne (tgt := 41) hx hb d_RC_take_25 (by decide) (fun c_4 => ?_) (fun c_4 => ?_)
      · refine lv_iconst (v := 0) hx hb d_RC_take_41 (by decide) ?_
        refine lv_iload_n hx hb d_RC_take_42 rfl (lv_at hl 1 rfl) ?_
        refine lv_iconst (v := 2) hx hb d_RC_take_43 (by decide) ?_
        refine lv_isub hx hb d_RC_take_44 ?_
        refine lv_topi (fun v_5 ev_5 => ?_)
        refine va_mmax hx hb (by rw [hml]; exact hl.1.symm) hown (hg _ k33) (hg _ k34) (hg _ k2) (hg _ k35) (by rw [hR]; exact Nat.le_of_ble_eq_true rfl) (by rw [hR]; exact Nat.le_of_ble_eq_true rfl) (Nat.zero_le _) (Nat.zero_le _) d_RC_take_45 ?_
        refine lv_topi (fun v_6 ev_6 => ?_)
        have z9 : v_6 = nI ll := by rw [← hl2 c_4]; subst_vars; rfl
        subst z9
        refine lv_istore_n (lv' := [(2, Value.int (nI ll)), (0, Value.ref rc), (1, Value.int nn)]) hx hb d_RC_take_48 rfl hl (by decide) rfl (fun ls hl => ?_)
        refine lv_aload_n hx hb d_RC_take_49 rfl (lv_at hl 1 rfl) ?_
        refine va_get (D := (dC, dI)) (ci := 6) (v := .ref co) (C := "RangeCoders") (T := T_RC) (N := 8) hx hb hg in_RC hown hK hP 0 rfl rfl 0 (by decide) (hg _ k258) (fun _ h9 => h9) rfl d_RC_take_50 ?_
        refine va_get (D := (dC, dI)) (ci := 2) (v := .ref ri) (C := "RangeCoders$NoCarries") (T := T_NoCarries) (N := 9) hx hb hg in_NoCarries hown hK hP 1 rfl rfl 5 (by decide) (hg _ k102) (fun _ h9 => h9) rfl d_RC_take_53 ?_
        refine my_cv (wr := [(rc, Sum.inr (6, [Value.ref co, Value.ref ma, Value.int (nI k), Value.int fit, Value.int fen, Value.int frd, Value.int fbd, Value.int fir])), (co, Sum.inr (2, [Value.long xlow, Value.long xrange, Value.long xcode, Value.long xreadLow, Value.long xreadRange, Value.ref ri, Value.ref ro, Value.ref rw, Value.int xasked])), (ro, Sum.inr (0, [Value.int (nI os.length), Value.ref roa])), (roa, Sum.inl (cI, rok, Sum.inl rof))]) (va_runV (As := []) (rest := []) ⟨hx, hb, hml, hown, hts⟩ (c_Row_clear l dC dI cI cM cO H.size ri rin ria rik rif (hri)) (cwV 0 hts (my_gV k713 k594 k595 k6 k596) rfl rfl rfl cu_Row_clear_0 ⟨by rw [hR]; exact Nat.le_of_ble_eq_true rfl, by rw [hR]; exact Nat.le_of_ble_eq_true rfl⟩) (my_preV hK hN (hP.sub [4, 5] rfl) (hD.sub [4, 5] (by decide +kernel) rfl) 0 rfl rfl) rfl rfl hl.1 rfl (lv_room (Nat.le_of_ble_eq_true rfl)) d_RC_take_56 ⟨by rw [hR]; exact (show 0 + 0 ≤ (rPh rik) by omega), by rw [hR]; exact (show 0 + 0 ≤ (rPh rik) by omega)⟩) hP hD hS hA [4, 5] [0, 1, 2, 3] rfl rfl (by decide +kernel) (by decide +kernel) (fun u9 H locs hw_56 hP hD hS => ?_)
        have hr_56 : rOk 0 rik := hw_56
        have hPD : my_PD (dC, dI) vwCl A [(rc, Sum.inr (6, [Value.ref co, Value.ref ma, Value.int (nI k), Value.int fit, Value.int fen, Value.int frd, Value.int fbd, Value.int fir])), (co, Sum.inr (2, [Value.long xlow, Value.long xrange, Value.long xcode, Value.long xreadLow, Value.long xreadRange, Value.ref ri, Value.ref ro, Value.ref rw, Value.int xasked])), (ro, Sum.inr (0, [Value.int (nI os.length), Value.ref roa])), (roa, Sum.inl (cI, rok, Sum.inl rof)), (ri, Sum.inr (0, [Value.int 0, Value.ref ria])), (ria, Sum.inl (cI, rik, Sum.inl rif))] H := ⟨hP, hD⟩
        have hP := hPD.1
        have hD := hPD.2
        refine lv_iconst (v := 0) hx hb d_RC_take_59 (by decide) ?_
        refine lv_istore_n (lv' := [(3, Value.int 0), (2, Value.int (nI ll)), (0, Value.ref rc), (1, Value.int nn)]) hx hb d_RC_take_60 rfl hl (by decide) rfl (fun ls hl => ?_)
        have J_61 : ∀ (n9_61 : Nat) (j : Nat) (b9 : List Nat) (ria9 : Nat) (rik9 : Nat) (rif9 : Nat → Int32) (d9 : Nat) (hn9_61 : ll - j = n9_61) (hj : j ≤ ll) (hb9 : b9 = os.take j) (hr9 : rOk (nI b9.length) rik9) (hg9 : gIs rif9 b9) (hd9 : d9 + rPh rik9 ≤ rPh rik) (H : Heap) (locs : List Loc) (ls : Array Slot), va_P (dC, dI) vwCl [(rc, Sum.inr (6, [Value.ref co, Value.ref ma, Value.int (nI k), Value.int fit, Value.int fen, Value.int frd, Value.int fbd, Value.int fir])), (co, Sum.inr (2, [Value.long xlow, Value.long xrange, Value.long xcode, Value.long xreadLow, Value.long xreadRange, Value.ref ri, Value.ref ro, Value.ref rw, Value.int xasked])), (ro, Sum.inr (0, [Value.int (nI os.length), Value.ref roa])), (roa, Sum.inl (cI, rok, Sum.inl rof)), (ri, Sum.inr (0, [Value.int (nI b9.length), Value.ref ria9])), (ria9, Sum.inl (cI, rik9, Sum.inl rif9))] H → va_D A [(rc, Sum.inr (6, [Value.ref co, Value.ref ma, Value.int (nI k), Value.int fit, Value.int fen, Value.int frd, Value.int fbd, Value.int fir])), (co, Sum.inr (2, [Value.long xlow, Value.long xrange, Value.long xcode, Value.long xreadLow, Value.long xreadRange, Value.ref ri, Value.ref ro, Value.ref rw, Value.int xasked])), (ro, Sum.inr (0, [Value.int (nI os.length), Value.ref roa])), (roa, Sum.inl (cI, rok, Sum.inl rof)), (ri, Sum.inr (0, [Value.int (nI b9.length), Value.ref ria9])), (ria9, Sum.inl (cI, rik9, Sum.inl rif9))] → va_S A s.heap H locs → lv_has ls 4 [(3, Value.int (nI j)), (2, Value.int (nI ll)), (0, Value.ref rc), (1, Value.int nn)] → W p l e R s m args below meth c H locs d9 d9 Q (F0 m 61 ls []) := by
          intro n9_61
          induction n9_61 using Nat.strongRecOn with
          | ind n9_61 ih9_61 =>
            intro j b9 ria9 rik9 rif9 d9 hn9_61 hj hb9 hr9 hg9 hd9 H locs ls hP hD hS hl
            have hbl : b9.length = j := by rw [hb9, List.length_take]; omega
            refine lv_iload_n hx hb d_RC_take_61 rfl (lv_at hl 0 rfl) ?_
            refine lv_iload_n hx hb d_RC_take_62 rfl (lv_at hl 1 rfl) ?_
            refine lv_icmp_ge (tgt := 93) hx hb d_RC_take_63 (by decide) (fun c_7 => ?_) (fun c_7 => ?_)
            · have hj3 : ll = j := by have := nI_ge' (by omega) (by omega) c_7; omega
              subst hj3
              have hPD : my_PD (dC, dI) vwCl A [(rc, Sum.inr (6, [Value.ref co, Value.ref ma, Value.int (nI k), Value.int fit, Value.int fen, Value.int frd, Value.int fbd, Value.int fir])), (co, Sum.inr (2, [Value.long xlow, Value.long xrange, Value.long xcode, Value.long xreadLow, Value.long xreadRange, Value.ref ri, Value.ref ro, Value.ref rw, Value.int xasked])), (ro, Sum.inr (0, [Value.int (nI os.length), Value.ref roa])), (roa, Sum.inl (cI, rok, Sum.inl rof)), (ri, Sum.inr (0, [Value.int (nI b9.length), Value.ref ria9])), (ria9, Sum.inl (cI, rik9, Sum.inl rif9))] H := ⟨hP, hD⟩
              have hP := hPD.1
              have hD := hPD.2
              have z9 : b9 = os.take ll := hb9
              subst z9
              refine lv_aload_n hx hb d_RC_take_93 rfl (lv_at hl 2 rfl) ?_
              refine lv_iconst (v := 0) hx hb d_RC_take_94 (by decide) ?_
              refine va_put (D := (dC, dI)) (ci := 6) (v := .int 0) (ty := .boolean) (C := "RangeCoders") (T := T_RC) (N := 8) hx hb hg in_RC t_RC o_RC n_RC hown hK hP hD hS 0 rfl rfl 5 (by decide) (hg _ k263) (fun _ h9 => h9) rfl (o_RC 5 (by decide)) rfl rfl (Nat.le_of_ble_eq_true rfl) d_RC_take_95 (fun H locs hP hD hS => ?_)
              have hPD : my_PD (dC, dI) vwCl A [(rc, Sum.inr (6, [Value.ref co, Value.ref ma, Value.int (nI k), Value.int fit, Value.int fen, Value.int 0, Value.int fbd, Value.int fir])), (co, Sum.inr (2, [Value.long xlow, Value.long xrange, Value.long xcode, Value.long xreadLow, Value.long xreadRange, Value.ref ri, Value.ref ro, Value.ref rw, Value.int xasked])), (ro, Sum.inr (0, [Value.int (nI os.length), Value.ref roa])), (roa, Sum.inl (cI, rok, Sum.inl rof)), (ri, Sum.inr (0, [Value.int (nI (os.take ll).length), Value.ref ria9])), (ria9, Sum.inl (cI, rik9, Sum.inl rif9))] H := ⟨hP, hD⟩
              have hP := hPD.1
              have hD := hPD.2
              refine lv_aload_n hx hb d_RC_take_98 rfl (lv_at hl 2 rfl) ?_
              refine lv_iconst (v := 0) hx hb d_RC_take_99 (by decide) ?_
              refine va_put (D := (dC, dI)) (ci := 6) (v := .int 0) (ty := .boolean) (C := "RangeCoders") (T := T_RC) (N := 8) hx hb hg in_RC t_RC o_RC n_RC hown hK hP hD hS 0 rfl rfl 6 (by decide) (hg _ k264) (fun _ h9 => h9) rfl (o_RC 6 (by decide)) rfl rfl (Nat.le_of_ble_eq_true rfl) d_RC_take_100 (fun H locs hP hD hS => ?_)
              have hPD : my_PD (dC, dI) vwCl A [(rc, Sum.inr (6, [Value.ref co, Value.ref ma, Value.int (nI k), Value.int fit, Value.int fen, Value.int 0, Value.int 0, Value.int fir])), (co, Sum.inr (2, [Value.long xlow, Value.long xrange, Value.long xcode, Value.long xreadLow, Value.long xreadRange, Value.ref ri, Value.ref ro, Value.ref rw, Value.int xasked])), (ro, Sum.inr (0, [Value.int (nI os.length), Value.ref roa])), (roa, Sum.inl (cI, rok, Sum.inl rof)), (ri, Sum.inr (0, [Value.int (nI (os.take ll).length), Value.ref ria9])), (ria9, Sum.inl (cI, rik9, Sum.inl rif9))] H := ⟨hP, hD⟩
              have hP := hPD.1
              have hD := hPD.2
              refine lv_aload_n hx hb d_RC_take_103 rfl (lv_at hl 2 rfl) ?_
              refine lv_iconst (v := 0) hx hb d_RC_take_104 (by decide) ?_
              refine va_put (D := (dC, dI)) (ci := 6) (v := .int 0) (ty := .int) (C := "RangeCoders") (T := T_RC) (N := 8) hx hb hg in_RC t_RC o_RC n_RC hown hK hP hD hS 0 rfl rfl 7 (by decide) (hg _ k265) (fun _ h9 => h9) rfl (o_RC 7 (by decide)) rfl rfl (Nat.le_of_ble_eq_true rfl) d_RC_take_105 (fun H locs hP hD hS => ?_)
              have hPD : my_PD (dC, dI) vwCl A [(rc, Sum.inr (6, [Value.ref co, Value.ref ma, Value.int (nI k), Value.int fit, Value.int fen, Value.int 0, Value.int 0, Value.int 0])), (co, Sum.inr (2, [Value.long xlow, Value.long xrange, Value.long xcode, Value.long xreadLow, Value.long xreadRange, Value.ref ri, Value.ref ro, Value.ref rw, Value.int xasked])), (ro, Sum.inr (0, [Value.int (nI os.length), Value.ref roa])), (roa, Sum.inl (cI, rok, Sum.inl rof)), (ri, Sum.inr (0, [Value.int (nI (os.take ll).length), Value.ref ria9])), (ria9, Sum.inl (cI, rik9, Sum.inl rif9))] H := ⟨hP, hD⟩
              have hP := hPD.1
              have hD := hPD.2
              refine lv_aload_n hx hb d_RC_take_108 rfl (lv_at hl 2 rfl) ?_
              refine va_get (D := (dC, dI)) (ci := 6) (v := .ref co) (C := "RangeCoders") (T := T_RC) (N := 8) hx hb hg in_RC hown hK hP 0 rfl rfl 0 (by decide) (hg _ k258) (fun _ h9 => h9) rfl d_RC_take_109 ?_
              refine va_get (D := (dC, dI)) (ci := 2) (v := .ref ri) (C := "RangeCoders$NoCarries") (T := T_NoCarries) (N := 9) hx hb hg in_NoCarries hown hK hP 1 rfl rfl 5 (by decide) (hg _ k102) (fun _ h9 => h9) rfl d_RC_take_112 ?_
              refine va_get (D := (dC, dI)) (ci := 0) (v := .int (nI (os.take ll).length)) (C := "RangeCoders$Row") (T := T_Row) (N := 2) hx hb hg in_Row hown hK hP 4 rfl rfl 0 (by decide) (hg _ k58) (fun _ h9 => h9) rfl d_RC_take_115 ?_
              exact my_iretg (v := nI (os.take ll).length) hx hb hr (rfl) hlocks hQ hK hS (ria9, rik9, rif9) (show d9 + (rPh rik9) ≤ (rPh rik) by omega) (show d9 + (rPh rik9) ≤ (rPh rik) by omega) (⟨rfl, hr9, hg9⟩) (hP.sub [0, 1, 2, 3, 4, 5] rfl) (hD.sub [0, 1, 2, 3, 4, 5] (by decide +kernel) rfl) d_RC_take_118
            · have hj2 : j < ll := nI_lt' (by omega) c_7
              refine lv_aload_n hx hb d_RC_take_66 rfl (lv_at hl 2 rfl) ?_
              refine va_get (D := (dC, dI)) (ci := 6) (v := .ref co) (C := "RangeCoders") (T := T_RC) (N := 8) hx hb hg in_RC hown hK hP 0 rfl rfl 0 (by decide) (hg _ k258) (fun _ h9 => h9) rfl d_RC_take_67 ?_
              refine va_get (D := (dC, dI)) (ci := 2) (v := .ref ri) (C := "RangeCoders$NoCarries") (T := T_NoCarries) (N := 9) hx hb hg in_NoCarries hown hK hP 1 rfl rfl 5 (by decide) (hg _ k102) (fun _ h9 => h9) rfl d_RC_take_70 ?_
              refine lv_aload_n hx hb d_RC_take_73 rfl (lv_at hl 2 rfl) ?_
              refine va_get (D := (dC, dI)) (ci := 6) (v := .ref co) (C := "RangeCoders") (T := T_RC) (N := 8) hx hb hg in_RC hown hK hP 0 rfl rfl 0 (by decide) (hg _ k258) (fun _ h9 => h9) rfl d_RC_take_74 ?_
              refine va_get (D := (dC, dI)) (ci := 2) (v := .ref ro) (C := "RangeCoders$NoCarries") (T := T_NoCarries) (N := 9) hx hb hg in_NoCarries hown hK hP 1 rfl rfl 6 (by decide) (hg _ k108) (fun _ h9 => h9) rfl d_RC_take_77 ?_
              refine lv_iload_n hx hb d_RC_take_80 rfl (lv_at hl 0 rfl) ?_
              refine my_ci (wr := [(rc, Sum.inr (6, [Value.ref co, Value.ref ma, Value.int (nI k), Value.int fit, Value.int fen, Value.int frd, Value.int fbd, Value.int fir])), (co, Sum.inr (2, [Value.long xlow, Value.long xrange, Value.long xcode, Value.long xreadLow, Value.long xreadRange, Value.ref ri, Value.ref ro, Value.ref rw, Value.int xasked])), (ri, Sum.inr (0, [Value.int (nI b9.length), Value.ref ria9])), (ria9, Sum.inl (cI, rik9, Sum.inl rif9))]) (va_runV (As := [Value.int (nI j)]) (rest := [Value.ref ri]) ⟨hx, hb, hml, hown, hts⟩ (f_Row_at l dC dI cI cM cO H.size ro roa rok rof os (nI j) (hro) (hGro) (hLro)) (cwV 1 hts (my_gV k703 k659 k660 k6 k661) rfl rfl rfl cu_Row_at_1 ⟨by rw [hR]; exact Nat.le_of_ble_eq_true rfl, by rw [hR]; exact Nat.le_of_ble_eq_true rfl⟩) (my_preV hK hN (hP.sub [2, 3] rfl) (hD.sub [2, 3] (by decide +kernel) rfl) 0 rfl rfl) rfl rfl hl.1 rfl (lv_room (Nat.le_of_ble_eq_true rfl)) d_RC_take_81 ⟨by rw [hR]; exact (show d9 + 0 ≤ (rPh rik) by omega), by rw [hR]; exact (show d9 + 0 ≤ (rPh rik) by omega)⟩) hP hD hS hA [2, 3] [0, 1, 4, 5] rfl rfl (by decide +kernel) (by decide +kernel) (fun r_81 u9 H locs hw_81 hP hD hS => ?_)
              have hr_81 : r_81 = rAt os (nI j) := hw_81
              have hPD : my_PD (dC, dI) vwCl A [(rc, Sum.inr (6, [Value.ref co, Value.ref ma, Value.int (nI k), Value.int fit, Value.int fen, Value.int frd, Value.int fbd, Value.int fir])), (co, Sum.inr (2, [Value.long xlow, Value.long xrange, Value.long xcode, Value.long xreadLow, Value.long xreadRange, Value.ref ri, Value.ref ro, Value.ref rw, Value.int xasked])), (ri, Sum.inr (0, [Value.int (nI b9.length), Value.ref ria9])), (ria9, Sum.inl (cI, rik9, Sum.inl rif9)), (ro, Sum.inr (0, [Value.int (nI os.length), Value.ref roa])), (roa, Sum.inl (cI, rok, Sum.inl rof))] H := ⟨hP, hD⟩
              have hP := hPD.1
              have hD := hPD.2
              have z9 : r_81 = nI (os.getD j 0) := by rw [hr_81]; exact rAt_nI (by omega) (by omega)
              subst z9
              refine my_cvg (wr := [(rc, Sum.inr (6, [Value.ref co, Value.ref ma, Value.int (nI k), Value.int fit, Value.int fen, Value.int frd, Value.int fbd, Value.int fir])), (co, Sum.inr (2, [Value.long xlow, Value.long xrange, Value.long xcode, Value.long xreadLow, Value.long xreadRange, Value.ref ri, Value.ref ro, Value.ref rw, Value.int xasked])), (ro, Sum.inr (0, [Value.int (nI os.length), Value.ref roa])), (roa, Sum.inl (cI, rok, Sum.inl rof))]) (va_runV (As := [Value.int (nI (os.getD j 0))]) (rest := []) ⟨hx, hb, hml, hown, hts⟩ (f_Row_add l dC dI cI cM cO H.size (hSl H) ri ria9 rik9 rif9 b9 (os.getD j 0) (hr9) (hg9) (by omega)) (cwV 1 hts (my_gV k708 k473 k474 k6 k475) rfl rfl rfl cu_Row_add_1 ⟨by rw [hR]; exact Nat.le_of_ble_eq_true rfl, by rw [hR]; exact Nat.le_of_ble_eq_true rfl⟩) (my_preVg hK hN (hP.sub [2, 3] rfl) (hD.sub [2, 3] (by decide +kernel) rfl) 0 rfl rfl) rfl rfl hl.1 rfl (lv_room (Nat.le_of_ble_eq_true rfl)) d_RC_take_84 ⟨by rw [hR]; exact (show d9 + (rPh rik9) ≤ (rPh rik) by omega), by rw [hR]; exact (show d9 + (rPh rik9) ≤ (rPh rik) by omega)⟩) hP hD hS hA [2, 3] [0, 1, 4, 5] rfl rfl (by decide +kernel) (by decide +kernel) (fun u9 d_84 H locs hd_84 hw_84 hP hD hS => ?_)
              obtain ⟨rraq_84, rrkq_84, rrfq_84⟩ := u9
              obtain ⟨hrr_84, hGrr_84⟩ : rOk (nI (b9 ++ [(os.getD j 0)]).length) rrkq_84 ∧ gIs rrfq_84 (b9 ++ [(os.getD j 0)]) := hw_84
              have hd_84 : d_84 + (rPh rrkq_84) ≤ (rPh rik9) := hd_84
              have hPD : my_PD (dC, dI) vwCl A [(rc, Sum.inr (6, [Value.ref co, Value.ref ma, Value.int (nI k), Value.int fit, Value.int fen, Value.int frd, Value.int fbd, Value.int fir])), (co, Sum.inr (2, [Value.long xlow, Value.long xrange, Value.long xcode, Value.long xreadLow, Value.long xreadRange, Value.ref ri, Value.ref ro, Value.ref rw, Value.int xasked])), (ro, Sum.inr (0, [Value.int (nI os.length), Value.ref roa])), (roa, Sum.inl (cI, rok, Sum.inl rof)), (ri, Sum.inr (0, [Value.int (nI (b9 ++ [(os.getD j 0)]).length), Value.ref rraq_84])), (rraq_84, Sum.inl (cI, rrkq_84, Sum.inl rrfq_84))] H := ⟨hP, hD⟩
              have hP := hPD.1
              have hD := hPD.2
              obtain ⟨v_8, ev_8⟩ : ∃ y : Int32, y = (nI j) + (1) := ⟨_, rfl⟩
              refine lv_iinc (v := v_8) (lv' := [(3, Value.int v_8), (2, Value.int (nI ll)), (0, Value.ref rc), (1, Value.int nn)]) hx hb d_RC_take_87 hl (k := 0) rfl (by rw [ev_8]; rfl) (by decide) rfl (fun ls hl => ?_)
              have z9 : v_8 = nI (j + 1) := by rw [ev_8]; exact nI_1 _
              subst z9
              refine lv_goto (tgt := 61) hx hb d_RC_take_90 (by decide) ?_
              exact ih9_61 _ (by first | omega | (omega)) (j + 1) (b9 ++ [os.getD j 0]) rraq_84 rrkq_84 rrfq_84 (d9 + d_84) rfl (by omega) (by rw [hb9]; exact tk_st (by omega)) (hrr_84) (hGrr_84) (by omega) H locs ls (hP.sub [0, 1, 2, 3, 4, 5] rfl) (hD.sub [0, 1, 2, 3, 4, 5] (by decide +kernel) rfl) hS (lv_sub hl [0, 1, 2, 3] rfl)
        exact J_61 _ (0 : Nat) ([]) ria rik rif (0 : Nat) rfl (Nat.zero_le _) (rfl) (hr_56) (fun i h => absurd h (Nat.not_lt_zero i)) (by omega) H locs ls (hP.sub [0, 1, 2, 3, 4, 5] rfl) (hD.sub [0, 1, 2, 3, 4, 5] (by decide +kernel) rfl) hS (lv_sub hl [0, 1, 2, 3] rfl)
      · refine lv_aload_n hx hb d_RC_take_28 rfl (lv_at hl 0 rfl) ?_
        refine va_get (D := (dC, dI)) (ci := 6) (v := .ref co) (C := "RangeCoders") (T := T_RC) (N := 8) hx hb hg in_RC hown hK hP 0 rfl rfl 0 (by decide) (hg _ k258) (fun _ h9 => h9) rfl d_RC_take_29 ?_
        refine va_get (D := (dC, dI)) (ci := 2) (v := .ref ro) (C := "RangeCoders$NoCarries") (T := T_NoCarries) (N := 9) hx hb hg in_NoCarries hown hK hP 1 rfl rfl 6 (by decide) (hg _ k108) (fun _ h9 => h9) rfl d_RC_take_32 ?_
        refine va_get (D := (dC, dI)) (ci := 0) (v := .int (nI os.length)) (C := "RangeCoders$Row") (T := T_Row) (N := 2) hx hb hg in_Row hown hK hP 2 rfl rfl 0 (by decide) (hg _ k58) (fun _ h9 => h9) rfl d_RC_take_35 ?_
        refine lv_goto (tgt := 48) hx hb d_RC_take_38 (by decide) ?_
        refine W.eq (g2 := F0 m 48 ls [Value.int (nI ll)]) (by rw [hl1 c_4]) ?_
        refine lv_istore_n (lv' := [(2, Value.int (nI ll)), (0, Value.ref rc), (1, Value.int nn)]) hx hb d_RC_take_48 rfl hl (by decide) rfl (fun ls hl => ?_)
        refine lv_aload_n hx hb d_RC_take_49 rfl (lv_at hl 1 rfl) ?_
        refine va_get (D := (dC, dI)) (ci := 6) (v := .ref co) (C := "RangeCoders") (T := T_RC) (N := 8) hx hb hg in_RC hown hK hP 0 rfl rfl 0 (by decide) (hg _ k258) (fun _ h9 => h9) rfl d_RC_take_50 ?_
        refine va_get (D := (dC, dI)) (ci := 2) (v := .ref ri) (C := "RangeCoders$NoCarries") (T := T_NoCarries) (N := 9) hx hb hg in_NoCarries hown hK hP 1 rfl rfl 5 (by decide) (hg _ k102) (fun _ h9 => h9) rfl d_RC_take_53 ?_
        refine my_cv (wr := [(rc, Sum.inr (6, [Value.ref co, Value.ref ma, Value.int (nI k), Value.int fit, Value.int fen, Value.int frd, Value.int fbd, Value.int fir])), (co, Sum.inr (2, [Value.long xlow, Value.long xrange, Value.long xcode, Value.long xreadLow, Value.long xreadRange, Value.ref ri, Value.ref ro, Value.ref rw, Value.int xasked])), (ro, Sum.inr (0, [Value.int (nI os.length), Value.ref roa])), (roa, Sum.inl (cI, rok, Sum.inl rof))]) (va_runV (As := []) (rest := []) ⟨hx, hb, hml, hown, hts⟩ (c_Row_clear l dC dI cI cM cO H.size ri rin ria rik rif (hri)) (cwV 0 hts (my_gV k713 k594 k595 k6 k596) rfl rfl rfl cu_Row_clear_0 ⟨by rw [hR]; exact Nat.le_of_ble_eq_true rfl, by rw [hR]; exact Nat.le_of_ble_eq_true rfl⟩) (my_preV hK hN (hP.sub [4, 5] rfl) (hD.sub [4, 5] (by decide +kernel) rfl) 0 rfl rfl) rfl rfl hl.1 rfl (lv_room (Nat.le_of_ble_eq_true rfl)) d_RC_take_56 ⟨by rw [hR]; exact (show 0 + 0 ≤ (rPh rik) by omega), by rw [hR]; exact (show 0 + 0 ≤ (rPh rik) by omega)⟩) hP hD hS hA [4, 5] [0, 1, 2, 3] rfl rfl (by decide +kernel) (by decide +kernel) (fun u9 H locs hw_56 hP hD hS => ?_)
        have hr_56 : rOk 0 rik := hw_56
        have hPD : my_PD (dC, dI) vwCl A [(rc, Sum.inr (6, [Value.ref co, Value.ref ma, Value.int (nI k), Value.int fit, Value.int fen, Value.int frd, Value.int fbd, Value.int fir])), (co, Sum.inr (2, [Value.long xlow, Value.long xrange, Value.long xcode, Value.long xreadLow, Value.long xreadRange, Value.ref ri, Value.ref ro, Value.ref rw, Value.int xasked])), (ro, Sum.inr (0, [Value.int (nI os.length), Value.ref roa])), (roa, Sum.inl (cI, rok, Sum.inl rof)), (ri, Sum.inr (0, [Value.int 0, Value.ref ria])), (ria, Sum.inl (cI, rik, Sum.inl rif))] H := ⟨hP, hD⟩
        have hP := hPD.1
        have hD := hPD.2
        refine lv_iconst (v := 0) hx hb d_RC_take_59 (by decide) ?_
        refine lv_istore_n (lv' := [(3, Value.int 0), (2, Value.int (nI ll)), (0, Value.ref rc), (1, Value.int nn)]) hx hb d_RC_take_60 rfl hl (by decide) rfl (fun ls hl => ?_)
        have J_61 : ∀ (n9_61 : Nat) (j : Nat) (b9 : List Nat) (ria9 : Nat) (rik9 : Nat) (rif9 : Nat → Int32) (d9 : Nat) (hn9_61 : ll - j = n9_61) (hj : j ≤ ll) (hb9 : b9 = os.take j) (hr9 : rOk (nI b9.length) rik9) (hg9 : gIs rif9 b9) (hd9 : d9 + rPh rik9 ≤ rPh rik) (H : Heap) (locs : List Loc) (ls : Array Slot), va_P (dC, dI) vwCl [(rc, Sum.inr (6, [Value.ref co, Value.ref ma, Value.int (nI k), Value.int fit, Value.int fen, Value.int frd, Value.int fbd, Value.int fir])), (co, Sum.inr (2, [Value.long xlow, Value.long xrange, Value.long xcode, Value.long xreadLow, Value.long xreadRange, Value.ref ri, Value.ref ro, Value.ref rw, Value.int xasked])), (ro, Sum.inr (0, [Value.int (nI os.length), Value.ref roa])), (roa, Sum.inl (cI, rok, Sum.inl rof)), (ri, Sum.inr (0, [Value.int (nI b9.length), Value.ref ria9])), (ria9, Sum.inl (cI, rik9, Sum.inl rif9))] H → va_D A [(rc, Sum.inr (6, [Value.ref co, Value.ref ma, Value.int (nI k), Value.int fit, Value.int fen, Value.int frd, Value.int fbd, Value.int fir])), (co, Sum.inr (2, [Value.long xlow, Value.long xrange, Value.long xcode, Value.long xreadLow, Value.long xreadRange, Value.ref ri, Value.ref ro, Value.ref rw, Value.int xasked])), (ro, Sum.inr (0, [Value.int (nI os.length), Value.ref roa])), (roa, Sum.inl (cI, rok, Sum.inl rof)), (ri, Sum.inr (0, [Value.int (nI b9.length), Value.ref ria9])), (ria9, Sum.inl (cI, rik9, Sum.inl rif9))] → va_S A s.heap H locs → lv_has ls 4 [(3, Value.int (nI j)), (2, Value.int (nI ll)), (0, Value.ref rc), (1, Value.int nn)] → W p l e R s m args below meth c H locs d9 d9 Q (F0 m 61 ls []) := by
          intro n9_61
          induction n9_61 using Nat.strongRecOn with
          | ind n9_61 ih9_61 =>
            intro j b9 ria9 rik9 rif9 d9 hn9_61 hj hb9 hr9 hg9 hd9 H locs ls hP hD hS hl
            have hbl : b9.length = j := by rw [hb9, List.length_take]; omega
            refine lv_iload_n hx hb d_RC_take_61 rfl (lv_at hl 0 rfl) ?_
            refine lv_iload_n hx hb d_RC_take_62 rfl (lv_at hl 1 rfl) ?_
            refine lv_icmp_ge (tgt := 93) hx hb d_RC_take_63 (by decide) (fun c_9 => ?_) (fun c_9 => ?_)
            · have hj3 : ll = j := by have := nI_ge' (by omega) (by omega) c_9; omega
              subst hj3
              have hPD : my_PD (dC, dI) vwCl A [(rc, Sum.inr (6, [Value.ref co, Value.ref ma, Value.int (nI k), Value.int fit, Value.int fen, Value.int frd, Value.int fbd, Value.int fir])), (co, Sum.inr (2, [Value.long xlow, Value.long xrange, Value.long xcode, Value.long xreadLow, Value.long xreadRange, Value.ref ri, Value.ref ro, Value.ref rw, Value.int xasked])), (ro, Sum.inr (0, [Value.int (nI os.length), Value.ref roa])), (roa, Sum.inl (cI, rok, Sum.inl rof)), (ri, Sum.inr (0, [Value.int (nI b9.length), Value.ref ria9])), (ria9, Sum.inl (cI, rik9, Sum.inl rif9))] H := ⟨hP, hD⟩
              have hP := hPD.1
              have hD := hPD.2
              have z9 : b9 = os.take ll := hb9
              subst z9
              refine lv_aload_n hx hb d_RC_take_93 rfl (lv_at hl 2 rfl) ?_
              refine lv_iconst (v := 0) hx hb d_RC_take_94 (by decide) ?_
              refine va_put (D := (dC, dI)) (ci := 6) (v := .int 0) (ty := .boolean) (C := "RangeCoders") (T := T_RC) (N := 8) hx hb hg in_RC t_RC o_RC n_RC hown hK hP hD hS 0 rfl rfl 5 (by decide) (hg _ k263) (fun _ h9 => h9) rfl (o_RC 5 (by decide)) rfl rfl (Nat.le_of_ble_eq_true rfl) d_RC_take_95 (fun H locs hP hD hS => ?_)
              have hPD : my_PD (dC, dI) vwCl A [(rc, Sum.inr (6, [Value.ref co, Value.ref ma, Value.int (nI k), Value.int fit, Value.int fen, Value.int 0, Value.int fbd, Value.int fir])), (co, Sum.inr (2, [Value.long xlow, Value.long xrange, Value.long xcode, Value.long xreadLow, Value.long xreadRange, Value.ref ri, Value.ref ro, Value.ref rw, Value.int xasked])), (ro, Sum.inr (0, [Value.int (nI os.length), Value.ref roa])), (roa, Sum.inl (cI, rok, Sum.inl rof)), (ri, Sum.inr (0, [Value.int (nI (os.take ll).length), Value.ref ria9])), (ria9, Sum.inl (cI, rik9, Sum.inl rif9))] H := ⟨hP, hD⟩
              have hP := hPD.1
              have hD := hPD.2
              refine lv_aload_n hx hb d_RC_take_98 rfl (lv_at hl 2 rfl) ?_
              refine lv_iconst (v := 0) hx hb d_RC_take_99 (by decide) ?_
              refine va_put (D := (dC, dI)) (ci := 6) (v := .int 0) (ty := .boolean) (C := "RangeCoders") (T := T_RC) (N := 8) hx hb hg in_RC t_RC o_RC n_RC hown hK hP hD hS 0 rfl rfl 6 (by decide) (hg _ k264) (fun _ h9 => h9) rfl (o_RC 6 (by decide)) rfl rfl (Nat.le_of_ble_eq_true rfl) d_RC_take_100 (fun H locs hP hD hS => ?_)
              have hPD : my_PD (dC, dI) vwCl A [(rc, Sum.inr (6, [Value.ref co, Value.ref ma, Value.int (nI k), Value.int fit, Value.int fen, Value.int 0, Value.int 0, Value.int fir])), (co, Sum.inr (2, [Value.long xlow, Value.long xrange, Value.long xcode, Value.long xreadLow, Value.long xreadRange, Value.ref ri, Value.ref ro, Value.ref rw, Value.int xasked])), (ro, Sum.inr (0, [Value.int (nI os.length), Value.ref roa])), (roa, Sum.inl (cI, rok, Sum.inl rof)), (ri, Sum.inr (0, [Value.int (nI (os.take ll).length), Value.ref ria9])), (ria9, Sum.inl (cI, rik9, Sum.inl rif9))] H := ⟨hP, hD⟩
              have hP := hPD.1
              have hD := hPD.2
              refine lv_aload_n hx hb d_RC_take_103 rfl (lv_at hl 2 rfl) ?_
              refine lv_iconst (v := 0) hx hb d_RC_take_104 (by decide) ?_
              refine va_put (D := (dC, dI)) (ci := 6) (v := .int 0) (ty := .int) (C := "RangeCoders") (T := T_RC) (N := 8) hx hb hg in_RC t_RC o_RC n_RC hown hK hP hD hS 0 rfl rfl 7 (by decide) (hg _ k265) (fun _ h9 => h9) rfl (o_RC 7 (by decide)) rfl rfl (Nat.le_of_ble_eq_true rfl) d_RC_take_105 (fun H locs hP hD hS => ?_)
              have hPD : my_PD (dC, dI) vwCl A [(rc, Sum.inr (6, [Value.ref co, Value.ref ma, Value.int (nI k), Value.int fit, Value.int fen, Value.int 0, Value.int 0, Value.int 0])), (co, Sum.inr (2, [Value.long xlow, Value.long xrange, Value.long xcode, Value.long xreadLow, Value.long xreadRange, Value.ref ri, Value.ref ro, Value.ref rw, Value.int xasked])), (ro, Sum.inr (0, [Value.int (nI os.length), Value.ref roa])), (roa, Sum.inl (cI, rok, Sum.inl rof)), (ri, Sum.inr (0, [Value.int (nI (os.take ll).length), Value.ref ria9])), (ria9, Sum.inl (cI, rik9, Sum.inl rif9))] H := ⟨hP, hD⟩
              have hP := hPD.1
              have hD := hPD.2
              refine lv_aload_n hx hb d_RC_take_108 rfl (lv_at hl 2 rfl) ?_
              refine va_get (D := (dC, dI)) (ci := 6) (v := .ref co) (C := "RangeCoders") (T := T_RC) (N := 8) hx hb hg in_RC hown hK hP 0 rfl rfl 0 (by decide) (hg _ k258) (fun _ h9 => h9) rfl d_RC_take_109 ?_
              refine va_get (D := (dC, dI)) (ci := 2) (v := .ref ri) (C := "RangeCoders$NoCarries") (T := T_NoCarries) (N := 9) hx hb hg in_NoCarries hown hK hP 1 rfl rfl 5 (by decide) (hg _ k102) (fun _ h9 => h9) rfl d_RC_take_112 ?_
              refine va_get (D := (dC, dI)) (ci := 0) (v := .int (nI (os.take ll).length)) (C := "RangeCoders$Row") (T := T_Row) (N := 2) hx hb hg in_Row hown hK hP 4 rfl rfl 0 (by decide) (hg _ k58) (fun _ h9 => h9) rfl d_RC_take_115 ?_
              exact my_iretg (v := nI (os.take ll).length) hx hb hr (rfl) hlocks hQ hK hS (ria9, rik9, rif9) (show d9 + (rPh rik9) ≤ (rPh rik) by omega) (show d9 + (rPh rik9) ≤ (rPh rik) by omega) (⟨rfl, hr9, hg9⟩) (hP.sub [0, 1, 2, 3, 4, 5] rfl) (hD.sub [0, 1, 2, 3, 4, 5] (by decide +kernel) rfl) d_RC_take_118
            · have hj2 : j < ll := nI_lt' (by omega) c_9
              refine lv_aload_n hx hb d_RC_take_66 rfl (lv_at hl 2 rfl) ?_
              refine va_get (D := (dC, dI)) (ci := 6) (v := .ref co) (C := "RangeCoders") (T := T_RC) (N := 8) hx hb hg in_RC hown hK hP 0 rfl rfl 0 (by decide) (hg _ k258) (fun _ h9 => h9) rfl d_RC_take_67 ?_
              refine va_get (D := (dC, dI)) (ci := 2) (v := .ref ri) (C := "RangeCoders$NoCarries") (T := T_NoCarries) (N := 9) hx hb hg in_NoCarries hown hK hP 1 rfl rfl 5 (by decide) (hg _ k102) (fun _ h9 => h9) rfl d_RC_take_70 ?_
              refine lv_aload_n hx hb d_RC_take_73 rfl (lv_at hl 2 rfl) ?_
              refine va_get (D := (dC, dI)) (ci := 6) (v := .ref co) (C := "RangeCoders") (T := T_RC) (N := 8) hx hb hg in_RC hown hK hP 0 rfl rfl 0 (by decide) (hg _ k258) (fun _ h9 => h9) rfl d_RC_take_74 ?_
              refine va_get (D := (dC, dI)) (ci := 2) (v := .ref ro) (C := "RangeCoders$NoCarries") (T := T_NoCarries) (N := 9) hx hb hg in_NoCarries hown hK hP 1 rfl rfl 6 (by decide) (hg _ k108) (fun _ h9 => h9) rfl d_RC_take_77 ?_
              refine lv_iload_n hx hb d_RC_take_80 rfl (lv_at hl 0 rfl) ?_
              refine my_ci (wr := [(rc, Sum.inr (6, [Value.ref co, Value.ref ma, Value.int (nI k), Value.int fit, Value.int fen, Value.int frd, Value.int fbd, Value.int fir])), (co, Sum.inr (2, [Value.long xlow, Value.long xrange, Value.long xcode, Value.long xreadLow, Value.long xreadRange, Value.ref ri, Value.ref ro, Value.ref rw, Value.int xasked])), (ri, Sum.inr (0, [Value.int (nI b9.length), Value.ref ria9])), (ria9, Sum.inl (cI, rik9, Sum.inl rif9))]) (va_runV (As := [Value.int (nI j)]) (rest := [Value.ref ri]) ⟨hx, hb, hml, hown, hts⟩ (f_Row_at l dC dI cI cM cO H.size ro roa rok rof os (nI j) (hro) (hGro) (hLro)) (cwV 1 hts (my_gV k703 k659 k660 k6 k661) rfl rfl rfl cu_Row_at_1 ⟨by rw [hR]; exact Nat.le_of_ble_eq_true rfl, by rw [hR]; exact Nat.le_of_ble_eq_true rfl⟩) (my_preV hK hN (hP.sub [2, 3] rfl) (hD.sub [2, 3] (by decide +kernel) rfl) 0 rfl rfl) rfl rfl hl.1 rfl (lv_room (Nat.le_of_ble_eq_true rfl)) d_RC_take_81 ⟨by rw [hR]; exact (show d9 + 0 ≤ (rPh rik) by omega), by rw [hR]; exact (show d9 + 0 ≤ (rPh rik) by omega)⟩) hP hD hS hA [2, 3] [0, 1, 4, 5] rfl rfl (by decide +kernel) (by decide +kernel) (fun r_81 u9 H locs hw_81 hP hD hS => ?_)
              have hr_81 : r_81 = rAt os (nI j) := hw_81
              have hPD : my_PD (dC, dI) vwCl A [(rc, Sum.inr (6, [Value.ref co, Value.ref ma, Value.int (nI k), Value.int fit, Value.int fen, Value.int frd, Value.int fbd, Value.int fir])), (co, Sum.inr (2, [Value.long xlow, Value.long xrange, Value.long xcode, Value.long xreadLow, Value.long xreadRange, Value.ref ri, Value.ref ro, Value.ref rw, Value.int xasked])), (ri, Sum.inr (0, [Value.int (nI b9.length), Value.ref ria9])), (ria9, Sum.inl (cI, rik9, Sum.inl rif9)), (ro, Sum.inr (0, [Value.int (nI os.length), Value.ref roa])), (roa, Sum.inl (cI, rok, Sum.inl rof))] H := ⟨hP, hD⟩
              have hP := hPD.1
              have hD := hPD.2
              have z9 : r_81 = nI (os.getD j 0) := by rw [hr_81]; exact rAt_nI (by omega) (by omega)
              subst z9
              refine my_cvg (wr := [(rc, Sum.inr (6, [Value.ref co, Value.ref ma, Value.int (nI k), Value.int fit, Value.int fen, Value.int frd, Value.int fbd, Value.int fir])), (co, Sum.inr (2, [Value.long xlow, Value.long xrange, Value.long xcode, Value.long xreadLow, Value.long xreadRange, Value.ref ri, Value.ref ro, Value.ref rw, Value.int xasked])), (ro, Sum.inr (0, [Value.int (nI os.length), Value.ref roa])), (roa, Sum.inl (cI, rok, Sum.inl rof))]) (va_runV (As := [Value.int (nI (os.getD j 0))]) (rest := []) ⟨hx, hb, hml, hown, hts⟩ (f_Row_add l dC dI cI cM cO H.size (hSl H) ri ria9 rik9 rif9 b9 (os.getD j 0) (hr9) (hg9) (by omega)) (cwV 1 hts (my_gV k708 k473 k474 k6 k475) rfl rfl rfl cu_Row_add_1 ⟨by rw [hR]; exact Nat.le_of_ble_eq_true rfl, by rw [hR]; exact Nat.le_of_ble_eq_true rfl⟩) (my_preVg hK hN (hP.sub [2, 3] rfl) (hD.sub [2, 3] (by decide +kernel) rfl) 0 rfl rfl) rfl rfl hl.1 rfl (lv_room (Nat.le_of_ble_eq_true rfl)) d_RC_take_84 ⟨by rw [hR]; exact (show d9 + (rPh rik9) ≤ (rPh rik) by omega), by rw [hR]; exact (show d9 + (rPh rik9) ≤ (rPh rik) by omega)⟩) hP hD hS hA [2, 3] [0, 1, 4, 5] rfl rfl (by decide +kernel) (by decide +kernel) (fun u9 d_84 H locs hd_84 hw_84 hP hD hS => ?_)
              obtain ⟨rraq_84, rrkq_84, rrfq_84⟩ := u9
              obtain ⟨hrr_84, hGrr_84⟩ : rOk (nI (b9 ++ [(os.getD j 0)]).length) rrkq_84 ∧ gIs rrfq_84 (b9 ++ [(os.getD j 0)]) := hw_84
              have hd_84 : d_84 + (rPh rrkq_84) ≤ (rPh rik9) := hd_84
              have hPD : my_PD (dC, dI) vwCl A [(rc, Sum.inr (6, [Value.ref co, Value.ref ma, Value.int (nI k), Value.int fit, Value.int fen, Value.int frd, Value.int fbd, Value.int fir])), (co, Sum.inr (2, [Value.long xlow, Value.long xrange, Value.long xcode, Value.long xreadLow, Value.long xreadRange, Value.ref ri, Value.ref ro, Value.ref rw, Value.int xasked])), (ro, Sum.inr (0, [Value.int (nI os.length), Value.ref roa])), (roa, Sum.inl (cI, rok, Sum.inl rof)), (ri, Sum.inr (0, [Value.int (nI (b9 ++ [(os.getD j 0)]).length), Value.ref rraq_84])), (rraq_84, Sum.inl (cI, rrkq_84, Sum.inl rrfq_84))] H := ⟨hP, hD⟩
              have hP := hPD.1
              have hD := hPD.2
              obtain ⟨v_10, ev_10⟩ : ∃ y : Int32, y = (nI j) + (1) := ⟨_, rfl⟩
              refine lv_iinc (v := v_10) (lv' := [(3, Value.int v_10), (2, Value.int (nI ll)), (0, Value.ref rc), (1, Value.int nn)]) hx hb d_RC_take_87 hl (k := 0) rfl (by rw [ev_10]; rfl) (by decide) rfl (fun ls hl => ?_)
              have z9 : v_10 = nI (j + 1) := by rw [ev_10]; exact nI_1 _
              subst z9
              refine lv_goto (tgt := 61) hx hb d_RC_take_90 (by decide) ?_
              exact ih9_61 _ (by first | omega | (omega)) (j + 1) (b9 ++ [os.getD j 0]) rraq_84 rrkq_84 rrfq_84 (d9 + d_84) rfl (by omega) (by rw [hb9]; exact tk_st (by omega)) (hrr_84) (hGrr_84) (by omega) H locs ls (hP.sub [0, 1, 2, 3, 4, 5] rfl) (hD.sub [0, 1, 2, 3, 4, 5] (by decide +kernel) rfl) hS (lv_sub hl [0, 1, 2, 3] rfl)
        exact J_61 _ (0 : Nat) ([]) ria rik rif (0 : Nat) rfl (Nat.zero_le _) (rfl) (hr_56) (fun i h => absurd h (Nat.not_lt_zero i)) (by omega) H locs ls (hP.sub [0, 1, 2, 3, 4, 5] rfl) (hD.sub [0, 1, 2, 3, 4, 5] (by decide +kernel) rfl) hS (lv_sub hl [0, 1, 2, 3] rfl)
    · exact absurd (by rw [ev_2]; exact hn2) c_3
set_option maxHeartbeats 2000000 in
set_option maxRecDepth 100000 in
theorem f_RC_spoilA_NoCarries (l : Launch) (dC : Nat → ClassId) (dI : Nat → Nat → Nat) (cI cM cO : ClassId) (sz : Nat) (rc : Nat) (ma : Nat) (k : Nat) (fit : Int32) (fen : Int32) (frd : Int32) (fbd : Int32) (fir : Int32) (mf : Nat → Option Nat) (co : Nat) (xlow : Int64) (xrange : Int64) (xcode : Int64) (xreadLow : Int64) (xreadRange : Int64) (ri : Nat) (ro : Nat) (rw : Nat) (xasked : Int32) (ria : Nat) (rik : Nat) (rif : Nat → Int32) (is : List Nat) (ii : Int32) (vv : Int32) (hri : rOk (nI is.length) rik) (hGri : gIs rif is) (hLri : is.length ≤ 6000) (hno : ¬ (0 ≤ ii ∧ ii < nI is.length)) : MetI l y_RC_spoil (Cond.code y_RC_spoil prog_1_method_11_code 3 (some .int) :: gw) ({ frames := 1, cells := 0, slots := 0, locals := 21 } : Room) (dC, dI) vwCl (kT cI cM cO) [Value.ref rc, Value.int ii, Value.int vv] [(rc, Sum.inr (6, [Value.ref co, Value.ref ma, Value.int (nI k), Value.int fit, Value.int fen, Value.int frd, Value.int fbd, Value.int fir])), (co, Sum.inr (2, [Value.long xlow, Value.long xrange, Value.long xcode, Value.long xreadLow, Value.long xreadRange, Value.ref ri, Value.ref ro, Value.ref rw, Value.int xasked])), (ri, Sum.inr (0, [Value.int (nI is.length), Value.ref ria])), (ria, Sum.inl (cI, rik, Sum.inl rif))] sz (fun (r : Int32) (u : Unit) => r = -1) (fun (u : Unit) => [(rc, Sum.inr (6, [Value.ref co, Value.ref ma, Value.int (nI k), Value.int fit, Value.int fen, Value.int frd, Value.int fbd, Value.int fir])), (co, Sum.inr (2, [Value.long xlow, Value.long xrange, Value.long xcode, Value.long xreadLow, Value.long xreadRange, Value.ref ri, Value.ref ro, Value.ref rw, Value.int xasked])), (ri, Sum.inr (0, [Value.int (nI is.length), Value.ref ria])), (ria, Sum.inl (cI, rik, Sum.inl rif))]) 0 0 := by
  refine my_ofI (cc := prog_1_method_11_code) (n := 3) (ret := (some .int)) (by decide) rfl (Nat.le_of_ble_eq_true rfl) ?_
  intro p e s m args below meth c R Q A ls H locs hx hb hr hts hown hlocks hml hnm hR hQ hA hl hP hK hN hD hS
  have hg : ∀ w ∈ gw, w.before args s = true := fun w h => hts w (List.mem_cons_of_mem _ h)
  have hown : s.vm.findClass "RangeCoders" = some m.cls := hown
  have hl : lv_has ls 3 [(0, Value.ref rc), (1, Value.int ii), (2, Value.int vv)] := hl
  refine lv_aload_n hx hb d_RC_spoil_0 rfl (lv_at hl 0 rfl) ?_
  refine va_get (D := (dC, dI)) (ci := 6) (v := .ref co) (C := "RangeCoders") (T := T_RC) (N := 8) hx hb hg in_RC hown hK hP 0 rfl rfl 0 (by decide) (hg _ k258) (fun _ h9 => h9) rfl d_RC_spoil_1 ?_
  refine va_get (D := (dC, dI)) (ci := 2) (v := .ref ri) (C := "RangeCoders$NoCarries") (T := T_NoCarries) (N := 9) hx hb hg in_NoCarries hown hK hP 1 rfl rfl 5 (by decide) (hg _ k102) (fun _ h9 => h9) rfl d_RC_spoil_4 ?_
  refine lv_iload_n hx hb d_RC_spoil_7 rfl (lv_at hl 1 rfl) ?_
  refine my_ci (wr := [(rc, Sum.inr (6, [Value.ref co, Value.ref ma, Value.int (nI k), Value.int fit, Value.int fen, Value.int frd, Value.int fbd, Value.int fir])), (co, Sum.inr (2, [Value.long xlow, Value.long xrange, Value.long xcode, Value.long xreadLow, Value.long xreadRange, Value.ref ri, Value.ref ro, Value.ref rw, Value.int xasked]))]) (va_runV (As := [Value.int ii]) (rest := []) ⟨hx, hb, hml, hown, hts⟩ (f_Row_has l dC dI cI cM cO H.size ri ria rik rif is ii (hri) (hGri) (by omega)) (cwV 1 hts (my_gV k718 k663 k664 k6 k665) rfl rfl rfl cu_Row_has_1 ⟨by rw [hR]; exact Nat.le_of_ble_eq_true rfl, by rw [hR]; exact Nat.le_of_ble_eq_true rfl⟩) (my_preV hK hN (hP.sub [2, 3] rfl) (hD.sub [2, 3] (by decide +kernel) rfl) 0 rfl rfl) rfl rfl hl.1 rfl (lv_room (Nat.le_of_ble_eq_true rfl)) d_RC_spoil_8 ⟨by rw [hR]; exact Nat.le_of_ble_eq_true rfl, by rw [hR]; exact Nat.le_of_ble_eq_true rfl⟩) hP hD hS hA [2, 3] [0, 1] rfl rfl (by decide +kernel) (by decide +kernel) (fun r_8 u9 H locs hw_8 hP hD hS => ?_)
  obtain ⟨hr_8, hv_8⟩ : (r_8 = if 0 ≤ ii ∧ ii < nI is.length then 1 else 0) ∧ (r_8 ≠ 0 → vp_in ii rik) := hw_8
  have hPD : my_PD (dC, dI) vwCl A [(rc, Sum.inr (6, [Value.ref co, Value.ref ma, Value.int (nI k), Value.int fit, Value.int fen, Value.int frd, Value.int fbd, Value.int fir])), (co, Sum.inr (2, [Value.long xlow, Value.long xrange, Value.long xcode, Value.long xreadLow, Value.long xreadRange, Value.ref ri, Value.ref ro, Value.ref rw, Value.int xasked])), (ri, Sum.inr (0, [Value.int (nI is.length), Value.ref ria])), (ria, Sum.inl (cI, rik, Sum.inl rif))] H := ⟨hP, hD⟩
  have hP := hPD.1
  have hD := hPD.2
  refine lv_if_ne (tgt := 16) hx hb d_RC_spoil_11 (by decide) (fun c_1 => ?_) (fun c_1 => ?_)
  · exact absurd (one_ne hr_8 c_1) hno
  · refine lv_iconst (v := (-1)) hx hb d_RC_spoil_14 (by decide) ?_
    exact my_iret (v := (-1)) hx hb hr (rfl) hlocks hQ hK hS (Nat.le_refl _) (Nat.le_refl _) () (rfl) (hP.sub [0, 1, 2, 3] rfl) (hD.sub [0, 1, 2, 3] (by decide +kernel) rfl) d_RC_spoil_15
set_option maxHeartbeats 2000000 in
set_option maxRecDepth 100000 in
theorem f_RC_spoilV_NoCarries (l : Launch) (dC : Nat → ClassId) (dI : Nat → Nat → Nat) (cI cM cO : ClassId) (sz : Nat) (rc : Nat) (ma : Nat) (k : Nat) (fit : Int32) (fen : Int32) (frd : Int32) (fbd : Int32) (fir : Int32) (mf : Nat → Option Nat) (co : Nat) (xlow : Int64) (xrange : Int64) (xcode : Int64) (xreadLow : Int64) (xreadRange : Int64) (ri : Nat) (ro : Nat) (rw : Nat) (xasked : Int32) (ria : Nat) (rik : Nat) (rif : Nat → Int32) (is : List Nat) (i7 : Nat) (vv : Int32) (hri : rOk (nI is.length) rik) (hGri : gIs rif is) (hLri : is.length ≤ 6000) (hi7 : i7 < is.length) (hno : vv < 0 ∨ 255 < vv) : MetI l y_RC_spoil (Cond.code y_RC_spoil prog_1_method_11_code 3 (some .int) :: gw) ({ frames := 1, cells := 0, slots := 0, locals := 21 } : Room) (dC, dI) vwCl (kT cI cM cO) [Value.ref rc, Value.int (nI i7), Value.int vv] [(rc, Sum.inr (6, [Value.ref co, Value.ref ma, Value.int (nI k), Value.int fit, Value.int fen, Value.int frd, Value.int fbd, Value.int fir])), (co, Sum.inr (2, [Value.long xlow, Value.long xrange, Value.long xcode, Value.long xreadLow, Value.long xreadRange, Value.ref ri, Value.ref ro, Value.ref rw, Value.int xasked])), (ri, Sum.inr (0, [Value.int (nI is.length), Value.ref ria])), (ria, Sum.inl (cI, rik, Sum.inl rif))] sz (fun (r : Int32) (u : Unit) => r = -2) (fun (u : Unit) => [(rc, Sum.inr (6, [Value.ref co, Value.ref ma, Value.int (nI k), Value.int fit, Value.int fen, Value.int frd, Value.int fbd, Value.int fir])), (co, Sum.inr (2, [Value.long xlow, Value.long xrange, Value.long xcode, Value.long xreadLow, Value.long xreadRange, Value.ref ri, Value.ref ro, Value.ref rw, Value.int xasked])), (ri, Sum.inr (0, [Value.int (nI is.length), Value.ref ria])), (ria, Sum.inl (cI, rik, Sum.inl rif))]) 0 0 := by
  refine my_ofI (cc := prog_1_method_11_code) (n := 3) (ret := (some .int)) (by decide) rfl (Nat.le_of_ble_eq_true rfl) ?_
  intro p e s m args below meth c R Q A ls H locs hx hb hr hts hown hlocks hml hnm hR hQ hA hl hP hK hN hD hS
  have hg : ∀ w ∈ gw, w.before args s = true := fun w h => hts w (List.mem_cons_of_mem _ h)
  have hown : s.vm.findClass "RangeCoders" = some m.cls := hown
  have hl : lv_has ls 3 [(0, Value.ref rc), (1, Value.int (nI i7)), (2, Value.int vv)] := hl
  refine lv_aload_n hx hb d_RC_spoil_0 rfl (lv_at hl 0 rfl) ?_
  refine va_get (D := (dC, dI)) (ci := 6) (v := .ref co) (C := "RangeCoders") (T := T_RC) (N := 8) hx hb hg in_RC hown hK hP 0 rfl rfl 0 (by decide) (hg _ k258) (fun _ h9 => h9) rfl d_RC_spoil_1 ?_
  refine va_get (D := (dC, dI)) (ci := 2) (v := .ref ri) (C := "RangeCoders$NoCarries") (T := T_NoCarries) (N := 9) hx hb hg in_NoCarries hown hK hP 1 rfl rfl 5 (by decide) (hg _ k102) (fun _ h9 => h9) rfl d_RC_spoil_4 ?_
  refine lv_iload_n hx hb d_RC_spoil_7 rfl (lv_at hl 1 rfl) ?_
  refine my_ci (wr := [(rc, Sum.inr (6, [Value.ref co, Value.ref ma, Value.int (nI k), Value.int fit, Value.int fen, Value.int frd, Value.int fbd, Value.int fir])), (co, Sum.inr (2, [Value.long xlow, Value.long xrange, Value.long xcode, Value.long xreadLow, Value.long xreadRange, Value.ref ri, Value.ref ro, Value.ref rw, Value.int xasked]))]) (va_runV (As := [Value.int (nI i7)]) (rest := []) ⟨hx, hb, hml, hown, hts⟩ (f_Row_has l dC dI cI cM cO H.size ri ria rik rif is (nI i7) (hri) (hGri) (by omega)) (cwV 1 hts (my_gV k718 k663 k664 k6 k665) rfl rfl rfl cu_Row_has_1 ⟨by rw [hR]; exact Nat.le_of_ble_eq_true rfl, by rw [hR]; exact Nat.le_of_ble_eq_true rfl⟩) (my_preV hK hN (hP.sub [2, 3] rfl) (hD.sub [2, 3] (by decide +kernel) rfl) 0 rfl rfl) rfl rfl hl.1 rfl (lv_room (Nat.le_of_ble_eq_true rfl)) d_RC_spoil_8 ⟨by rw [hR]; exact Nat.le_of_ble_eq_true rfl, by rw [hR]; exact Nat.le_of_ble_eq_true rfl⟩) hP hD hS hA [2, 3] [0, 1] rfl rfl (by decide +kernel) (by decide +kernel) (fun r_8 u9 H locs hw_8 hP hD hS => ?_)
  obtain ⟨hr_8, hv_8⟩ : (r_8 = if 0 ≤ (nI i7) ∧ (nI i7) < nI is.length then 1 else 0) ∧ (r_8 ≠ 0 → vp_in (nI i7) rik) := hw_8
  have hPD : my_PD (dC, dI) vwCl A [(rc, Sum.inr (6, [Value.ref co, Value.ref ma, Value.int (nI k), Value.int fit, Value.int fen, Value.int frd, Value.int fbd, Value.int fir])), (co, Sum.inr (2, [Value.long xlow, Value.long xrange, Value.long xcode, Value.long xreadLow, Value.long xreadRange, Value.ref ri, Value.ref ro, Value.ref rw, Value.int xasked])), (ri, Sum.inr (0, [Value.int (nI is.length), Value.ref ria])), (ria, Sum.inl (cI, rik, Sum.inl rif))] H := ⟨hP, hD⟩
  have hP := hPD.1
  have hD := hPD.2
  refine lv_if_ne (tgt := 16) hx hb d_RC_spoil_11 (by decide) (fun c_1 => ?_) (fun c_1 => ?_)
  · refine lv_iload_n hx hb d_RC_spoil_16 rfl (lv_at hl 2 rfl) ?_
    refine lv_if_lt (tgt := 27) hx hb d_RC_spoil_17 (by decide) (fun c_2 => ?_) (fun c_2 => ?_)
    · refine lv_bipush (v := (-2)) hx hb d_RC_spoil_27 (by decide) ?_
      exact my_iret (v := (-2)) hx hb hr (rfl) hlocks hQ hK hS (Nat.le_refl _) (Nat.le_refl _) () (rfl) (hP.sub [0, 1, 2, 3] rfl) (hD.sub [0, 1, 2, 3] (by decide +kernel) rfl) d_RC_spoil_29
    · refine lv_iload_n hx hb d_RC_spoil_20 rfl (lv_at hl 2 rfl) ?_
      refine lv_sipush (v := 255) hx hb d_RC_spoil_21 (by decide) ?_
      refine lv_icmp_le (tgt := 30) hx hb d_RC_spoil_24 (by decide) (fun c_3 => ?_) (fun c_3 => ?_)
      · exact absurd hno (fun h9 => h9.elim c_2 (fun q9 => absurd c_3 (Int32.not_le.mpr q9)))
      · refine lv_bipush (v := (-2)) hx hb d_RC_spoil_27 (by decide) ?_
        exact my_iret (v := (-2)) hx hb hr (rfl) hlocks hQ hK hS (Nat.le_refl _) (Nat.le_refl _) () (rfl) (hP.sub [0, 1, 2, 3] rfl) (hD.sub [0, 1, 2, 3] (by decide +kernel) rfl) d_RC_spoil_29
  · exact absurd (has_in hi7 (by omega)) (one_eq hr_8 c_1)
set_option maxHeartbeats 2000000 in
set_option maxRecDepth 100000 in
theorem f_RC_spoilL_NoCarries (l : Launch) (dC : Nat → ClassId) (dI : Nat → Nat → Nat) (cI cM cO : ClassId) (sz : Nat) (rc : Nat) (ma : Nat) (k : Nat) (fit : Int32) (fen : Int32) (frd : Int32) (fbd : Int32) (fir : Int32) (mf : Nat → Option Nat) (co : Nat) (xlow : Int64) (xrange : Int64) (xcode : Int64) (xreadLow : Int64) (xreadRange : Int64) (ri : Nat) (ro : Nat) (rw : Nat) (xasked : Int32) (ria : Nat) (rik : Nat) (rif : Nat → Int32) (is : List Nat) (i7 : Nat) (t7 : Nat) (hri : rOk (nI is.length) rik) (hGri : gIs rif is) (hLri : is.length ≤ 6000) (hi7 : i7 < is.length) (ht7 : t7 ≤ 255) : MetI l y_RC_spoil (Cond.code y_RC_spoil prog_1_method_11_code 3 (some .int) :: gw) ({ frames := 2, cells := 0, slots := 0, locals := 43 } : Room) (dC, dI) vwCl (kT cI cM cO) [Value.ref rc, Value.int (nI i7), Value.int (nI t7)] [(rc, Sum.inr (6, [Value.ref co, Value.ref ma, Value.int (nI k), Value.int fit, Value.int fen, Value.int frd, Value.int fbd, Value.int fir])), (co, Sum.inr (2, [Value.long xlow, Value.long xrange, Value.long xcode, Value.long xreadLow, Value.long xreadRange, Value.ref ri, Value.ref ro, Value.ref rw, Value.int xasked])), (ri, Sum.inr (0, [Value.int (nI is.length), Value.ref ria])), (ria, Sum.inl (cI, rik, Sum.inl rif))] sz (fun (r : Int32) (u : (Nat → Int32)) => r = nI (is.getD i7 0 ^^^ t7) ∧ gIs u (is.set i7 (is.getD i7 0 ^^^ t7))) (fun (u : (Nat → Int32)) => [(rc, Sum.inr (6, [Value.ref co, Value.ref ma, Value.int (nI k), Value.int fit, Value.int fen, Value.int frd, Value.int fbd, Value.int fir])), (co, Sum.inr (2, [Value.long xlow, Value.long xrange, Value.long xcode, Value.long xreadLow, Value.long xreadRange, Value.ref ri, Value.ref ro, Value.ref rw, Value.int xasked])), (ri, Sum.inr (0, [Value.int (nI is.length), Value.ref ria])), (ria, Sum.inl (cI, rik, Sum.inl u))]) 0 0 := by
  refine my_ofI (cc := prog_1_method_11_code) (n := 3) (ret := (some .int)) (by decide) rfl (Nat.le_of_ble_eq_true rfl) ?_
  intro p e s m args below meth c R Q A ls H locs hx hb hr hts hown hlocks hml hnm hR hQ hA hl hP hK hN hD hS
  have hg : ∀ w ∈ gw, w.before args s = true := fun w h => hts w (List.mem_cons_of_mem _ h)
  have hown : s.vm.findClass "RangeCoders" = some m.cls := hown
  have hl : lv_has ls 3 [(0, Value.ref rc), (1, Value.int (nI i7)), (2, Value.int (nI t7))] := hl
  refine lv_aload_n hx hb d_RC_spoil_0 rfl (lv_at hl 0 rfl) ?_
  refine va_get (D := (dC, dI)) (ci := 6) (v := .ref co) (C := "RangeCoders") (T := T_RC) (N := 8) hx hb hg in_RC hown hK hP 0 rfl rfl 0 (by decide) (hg _ k258) (fun _ h9 => h9) rfl d_RC_spoil_1 ?_
  refine va_get (D := (dC, dI)) (ci := 2) (v := .ref ri) (C := "RangeCoders$NoCarries") (T := T_NoCarries) (N := 9) hx hb hg in_NoCarries hown hK hP 1 rfl rfl 5 (by decide) (hg _ k102) (fun _ h9 => h9) rfl d_RC_spoil_4 ?_
  refine lv_iload_n hx hb d_RC_spoil_7 rfl (lv_at hl 1 rfl) ?_
  refine my_ci (wr := [(rc, Sum.inr (6, [Value.ref co, Value.ref ma, Value.int (nI k), Value.int fit, Value.int fen, Value.int frd, Value.int fbd, Value.int fir])), (co, Sum.inr (2, [Value.long xlow, Value.long xrange, Value.long xcode, Value.long xreadLow, Value.long xreadRange, Value.ref ri, Value.ref ro, Value.ref rw, Value.int xasked]))]) (va_runV (As := [Value.int (nI i7)]) (rest := []) ⟨hx, hb, hml, hown, hts⟩ (f_Row_has l dC dI cI cM cO H.size ri ria rik rif is (nI i7) (hri) (hGri) (by omega)) (cwV 1 hts (my_gV k718 k663 k664 k6 k665) rfl rfl rfl cu_Row_has_1 ⟨by rw [hR]; exact Nat.le_of_ble_eq_true rfl, by rw [hR]; exact Nat.le_of_ble_eq_true rfl⟩) (my_preV hK hN (hP.sub [2, 3] rfl) (hD.sub [2, 3] (by decide +kernel) rfl) 0 rfl rfl) rfl rfl hl.1 rfl (lv_room (Nat.le_of_ble_eq_true rfl)) d_RC_spoil_8 ⟨by rw [hR]; exact Nat.le_of_ble_eq_true rfl, by rw [hR]; exact Nat.le_of_ble_eq_true rfl⟩) hP hD hS hA [2, 3] [0, 1] rfl rfl (by decide +kernel) (by decide +kernel) (fun r_8 u9 H locs hw_8 hP hD hS => ?_)
  obtain ⟨hr_8, hv_8⟩ : (r_8 = if 0 ≤ (nI i7) ∧ (nI i7) < nI is.length then 1 else 0) ∧ (r_8 ≠ 0 → vp_in (nI i7) rik) := hw_8
  have hPD : my_PD (dC, dI) vwCl A [(rc, Sum.inr (6, [Value.ref co, Value.ref ma, Value.int (nI k), Value.int fit, Value.int fen, Value.int frd, Value.int fbd, Value.int fir])), (co, Sum.inr (2, [Value.long xlow, Value.long xrange, Value.long xcode, Value.long xreadLow, Value.long xreadRange, Value.ref ri, Value.ref ro, Value.ref rw, Value.int xasked])), (ri, Sum.inr (0, [Value.int (nI is.length), Value.ref ria])), (ria, Sum.inl (cI, rik, Sum.inl rif))] H := ⟨hP, hD⟩
  have hP := hPD.1
  have hD := hPD.2
  refine lv_if_ne (tgt := 16) hx hb d_RC_spoil_11 (by decide) (fun c_1 => ?_) (fun c_1 => ?_)
  · refine lv_iload_n hx hb d_RC_spoil_16 rfl (lv_at hl 2 rfl) ?_
    refine lv_if_lt (tgt := 27) hx hb d_RC_spoil_17 (by decide) (fun c_2 => ?_) (fun c_2 => ?_)
    · exact absurd c_2 (nI_pos (by omega))
    · refine lv_iload_n hx hb d_RC_spoil_20 rfl (lv_at hl 2 rfl) ?_
      refine lv_sipush (v := 255) hx hb d_RC_spoil_21 (by decide) ?_
      refine lv_icmp_le (tgt := 30) hx hb d_RC_spoil_24 (by decide) (fun c_3 => ?_) (fun c_3 => ?_)
      · refine lv_aload_n hx hb d_RC_spoil_30 rfl (lv_at hl 0 rfl) ?_
        refine va_get (D := (dC, dI)) (ci := 6) (v := .ref co) (C := "RangeCoders") (T := T_RC) (N := 8) hx hb hg in_RC hown hK hP 0 rfl rfl 0 (by decide) (hg _ k258) (fun _ h9 => h9) rfl d_RC_spoil_31 ?_
        refine va_get (D := (dC, dI)) (ci := 2) (v := .ref ri) (C := "RangeCoders$NoCarries") (T := T_NoCarries) (N := 9) hx hb hg in_NoCarries hown hK hP 1 rfl rfl 5 (by decide) (hg _ k102) (fun _ h9 => h9) rfl d_RC_spoil_34 ?_
        refine lv_iload_n hx hb d_RC_spoil_37 rfl (lv_at hl 1 rfl) ?_
        refine lv_aload_n hx hb d_RC_spoil_38 rfl (lv_at hl 0 rfl) ?_
        refine va_get (D := (dC, dI)) (ci := 6) (v := .ref co) (C := "RangeCoders") (T := T_RC) (N := 8) hx hb hg in_RC hown hK hP 0 rfl rfl 0 (by decide) (hg _ k258) (fun _ h9 => h9) rfl d_RC_spoil_39 ?_
        refine va_get (D := (dC, dI)) (ci := 2) (v := .ref ri) (C := "RangeCoders$NoCarries") (T := T_NoCarries) (N := 9) hx hb hg in_NoCarries hown hK hP 1 rfl rfl 5 (by decide) (hg _ k102) (fun _ h9 => h9) rfl d_RC_spoil_42 ?_
        refine lv_iload_n hx hb d_RC_spoil_45 rfl (lv_at hl 1 rfl) ?_
        refine my_ci (wr := [(rc, Sum.inr (6, [Value.ref co, Value.ref ma, Value.int (nI k), Value.int fit, Value.int fen, Value.int frd, Value.int fbd, Value.int fir])), (co, Sum.inr (2, [Value.long xlow, Value.long xrange, Value.long xcode, Value.long xreadLow, Value.long xreadRange, Value.ref ri, Value.ref ro, Value.ref rw, Value.int xasked]))]) (va_runV (As := [Value.int (nI i7)]) (rest := [Value.int (nI i7), Value.ref ri]) ⟨hx, hb, hml, hown, hts⟩ (f_Row_at l dC dI cI cM cO H.size ri ria rik rif is (nI i7) (hri) (hGri) (by omega)) (cwV 1 hts (my_gV k703 k659 k660 k6 k661) rfl rfl rfl cu_Row_at_1 ⟨by rw [hR]; exact Nat.le_of_ble_eq_true rfl, by rw [hR]; exact Nat.le_of_ble_eq_true rfl⟩) (my_preV hK hN (hP.sub [2, 3] rfl) (hD.sub [2, 3] (by decide +kernel) rfl) 0 rfl rfl) rfl rfl hl.1 rfl (lv_room (Nat.le_of_ble_eq_true rfl)) d_RC_spoil_46 ⟨by rw [hR]; exact Nat.le_of_ble_eq_true rfl, by rw [hR]; exact Nat.le_of_ble_eq_true rfl⟩) hP hD hS hA [2, 3] [0, 1] rfl rfl (by decide +kernel) (by decide +kernel) (fun r_46 u9 H locs hw_46 hP hD hS => ?_)
        have hr_46 : r_46 = rAt is (nI i7) := hw_46
        have hPD : my_PD (dC, dI) vwCl A [(rc, Sum.inr (6, [Value.ref co, Value.ref ma, Value.int (nI k), Value.int fit, Value.int fen, Value.int frd, Value.int fbd, Value.int fir])), (co, Sum.inr (2, [Value.long xlow, Value.long xrange, Value.long xcode, Value.long xreadLow, Value.long xreadRange, Value.ref ri, Value.ref ro, Value.ref rw, Value.int xasked])), (ri, Sum.inr (0, [Value.int (nI is.length), Value.ref ria])), (ria, Sum.inl (cI, rik, Sum.inl rif))] H := ⟨hP, hD⟩
        have hP := hPD.1
        have hD := hPD.2
        have z9 : r_46 = nI (is.getD i7 0) := by rw [hr_46]; exact rAt_nI hi7 (by omega)
        subst z9
        refine lv_iload_n hx hb d_RC_spoil_49 rfl (lv_at hl 2 rfl) ?_
        refine lv_ixor hx hb d_RC_spoil_50 ?_
        refine lv_topi (fun v_4 ev_4 => ?_)
        have z9 : v_4 = nI (is.getD i7 0 ^^^ t7) := by rw [ev_4]; exact nx_xor _ _
        subst z9
        refine my_cv (wr := [(rc, Sum.inr (6, [Value.ref co, Value.ref ma, Value.int (nI k), Value.int fit, Value.int fen, Value.int frd, Value.int fbd, Value.int fir])), (co, Sum.inr (2, [Value.long xlow, Value.long xrange, Value.long xcode, Value.long xreadLow, Value.long xreadRange, Value.ref ri, Value.ref ro, Value.ref rw, Value.int xasked]))]) (va_runV (As := [Value.int (nI i7), Value.int (nI (is.getD i7 0 ^^^ t7))]) (rest := []) ⟨hx, hb, hml, hown, hts⟩ (f_Row_set l dC dI cI cM cO H.size ri ria rik rif is i7 (is.getD i7 0 ^^^ t7) (hri) (hGri) (by omega) (hi7)) (cwV 2 hts (my_gV k719 k720 k721 k6 k722) rfl rfl rfl cu_Row_set_2 ⟨by rw [hR]; exact Nat.le_of_ble_eq_true rfl, by rw [hR]; exact Nat.le_of_ble_eq_true rfl⟩) (my_preV hK hN (hP.sub [2, 3] rfl) (hD.sub [2, 3] (by decide +kernel) rfl) 0 rfl rfl) rfl rfl hl.1 rfl (lv_room (Nat.le_of_ble_eq_true rfl)) d_RC_spoil_51 ⟨by rw [hR]; exact Nat.le_of_ble_eq_true rfl, by rw [hR]; exact Nat.le_of_ble_eq_true rfl⟩) hP hD hS hA [2, 3] [0, 1] rfl rfl (by decide +kernel) (by decide +kernel) (fun u9 H locs hw_51 hP hD hS => ?_)
        obtain ⟨rrfq_51, rfl⟩ : ∃ z, z = u9 := ⟨_, rfl⟩
        have hGrr_51 : gIs rrfq_51 (is.set i7 (is.getD i7 0 ^^^ t7)) := hw_51
        have hPD : my_PD (dC, dI) vwCl A [(rc, Sum.inr (6, [Value.ref co, Value.ref ma, Value.int (nI k), Value.int fit, Value.int fen, Value.int frd, Value.int fbd, Value.int fir])), (co, Sum.inr (2, [Value.long xlow, Value.long xrange, Value.long xcode, Value.long xreadLow, Value.long xreadRange, Value.ref ri, Value.ref ro, Value.ref rw, Value.int xasked])), (ri, Sum.inr (0, [Value.int (nI is.length), Value.ref ria])), (ria, Sum.inl (cI, rik, Sum.inl rrfq_51))] H := ⟨hP, hD⟩
        have hP := hPD.1
        have hD := hPD.2
        refine lv_aload_n hx hb d_RC_spoil_54 rfl (lv_at hl 0 rfl) ?_
        refine va_get (D := (dC, dI)) (ci := 6) (v := .ref co) (C := "RangeCoders") (T := T_RC) (N := 8) hx hb hg in_RC hown hK hP 0 rfl rfl 0 (by decide) (hg _ k258) (fun _ h9 => h9) rfl d_RC_spoil_55 ?_
        refine va_get (D := (dC, dI)) (ci := 2) (v := .ref ri) (C := "RangeCoders$NoCarries") (T := T_NoCarries) (N := 9) hx hb hg in_NoCarries hown hK hP 1 rfl rfl 5 (by decide) (hg _ k102) (fun _ h9 => h9) rfl d_RC_spoil_58 ?_
        refine lv_iload_n hx hb d_RC_spoil_61 rfl (lv_at hl 1 rfl) ?_
        have hsu : (nI is.length : Int32) = nI (is.set i7 (is.getD i7 0 ^^^ t7)).length := by rw [List.length_set]
        rw [hsu] at hP hD
        have hPD : my_PD (dC, dI) vwCl A [(rc, Sum.inr (6, [Value.ref co, Value.ref ma, Value.int (nI k), Value.int fit, Value.int fen, Value.int frd, Value.int fbd, Value.int fir])), (co, Sum.inr (2, [Value.long xlow, Value.long xrange, Value.long xcode, Value.long xreadLow, Value.long xreadRange, Value.ref ri, Value.ref ro, Value.ref rw, Value.int xasked])), (ri, Sum.inr (0, [Value.int (nI (is.set i7 (is.getD i7 0 ^^^ t7)).length), Value.ref ria])), (ria, Sum.inl (cI, rik, Sum.inl rrfq_51))] H := ⟨hP, hD⟩
        have hP := hPD.1
        have hD := hPD.2
        refine my_ci (wr := [(rc, Sum.inr (6, [Value.ref co, Value.ref ma, Value.int (nI k), Value.int fit, Value.int fen, Value.int frd, Value.int fbd, Value.int fir])), (co, Sum.inr (2, [Value.long xlow, Value.long xrange, Value.long xcode, Value.long xreadLow, Value.long xreadRange, Value.ref ri, Value.ref ro, Value.ref rw, Value.int xasked]))]) (va_runV (As := [Value.int (nI i7)]) (rest := []) ⟨hx, hb, hml, hown, hts⟩ (f_Row_at l dC dI cI cM cO H.size ri ria rik rrfq_51 (is.set i7 (is.getD i7 0 ^^^ t7)) (nI i7) (by rw [List.length_set]; exact hri) (hGrr_51) (by rw [List.length_set]; omega)) (cwV 1 hts (my_gV k703 k659 k660 k6 k661) rfl rfl rfl cu_Row_at_1 ⟨by rw [hR]; exact Nat.le_of_ble_eq_true rfl, by rw [hR]; exact Nat.le_of_ble_eq_true rfl⟩) (my_preV hK hN (hP.sub [2, 3] rfl) (hD.sub [2, 3] (by decide +kernel) rfl) 0 rfl rfl) rfl rfl hl.1 rfl (lv_room (Nat.le_of_ble_eq_true rfl)) d_RC_spoil_62 ⟨by rw [hR]; exact Nat.le_of_ble_eq_true rfl, by rw [hR]; exact Nat.le_of_ble_eq_true rfl⟩) hP hD hS hA [2, 3] [0, 1] rfl rfl (by decide +kernel) (by decide +kernel) (fun r_62 u9 H locs hw_62 hP hD hS => ?_)
        have hr_62 : r_62 = rAt (is.set i7 (is.getD i7 0 ^^^ t7)) (nI i7) := hw_62
        have hPD : my_PD (dC, dI) vwCl A [(rc, Sum.inr (6, [Value.ref co, Value.ref ma, Value.int (nI k), Value.int fit, Value.int fen, Value.int frd, Value.int fbd, Value.int fir])), (co, Sum.inr (2, [Value.long xlow, Value.long xrange, Value.long xcode, Value.long xreadLow, Value.long xreadRange, Value.ref ri, Value.ref ro, Value.ref rw, Value.int xasked])), (ri, Sum.inr (0, [Value.int (nI (is.set i7 (is.getD i7 0 ^^^ t7)).length), Value.ref ria])), (ria, Sum.inl (cI, rik, Sum.inl rrfq_51))] H := ⟨hP, hD⟩
        have hP := hPD.1
        have hD := hPD.2
        have hsu : (nI (is.set i7 (is.getD i7 0 ^^^ t7)).length : Int32) = nI is.length := by rw [List.length_set]
        rw [hsu] at hP hD
        have hPD : my_PD (dC, dI) vwCl A [(rc, Sum.inr (6, [Value.ref co, Value.ref ma, Value.int (nI k), Value.int fit, Value.int fen, Value.int frd, Value.int fbd, Value.int fir])), (co, Sum.inr (2, [Value.long xlow, Value.long xrange, Value.long xcode, Value.long xreadLow, Value.long xreadRange, Value.ref ri, Value.ref ro, Value.ref rw, Value.int xasked])), (ri, Sum.inr (0, [Value.int (nI is.length), Value.ref ria])), (ria, Sum.inl (cI, rik, Sum.inl rrfq_51))] H := ⟨hP, hD⟩
        have hP := hPD.1
        have hD := hPD.2
        exact my_iret (v := r_62) hx hb hr (rfl) hlocks hQ hK hS (Nat.le_refl _) (Nat.le_refl _) (rrfq_51) (⟨by rw [hr_62, rAt_nI (by rw [List.length_set]; exact hi7) (by rw [List.length_set]; omega), List.getD_eq_getElem?_getD, List.getElem?_set_self hi7]; rfl, hGrr_51⟩) (hP.sub [0, 1, 2, 3] rfl) (hD.sub [0, 1, 2, 3] (by decide +kernel) rfl) d_RC_spoil_65
      · exact absurd (nI_le (b := 255) ht7 (by decide)) c_3
  · exact absurd (has_in hi7 (by omega)) (one_eq hr_8 c_1)
set_option maxHeartbeats 2000000 in
set_option maxRecDepth 100000 in
theorem f_RC_endB_NoCarries (l : Launch) (dC : Nat → ClassId) (dI : Nat → Nat → Nat) (cI cM cO : ClassId) (sz : Nat) (sl : Nat) (rc : Nat) (ma : Nat) (k : Nat) (fit : Int32) (frd : Int32) (fbd : Int32) (fir : Int32) (mf : Nat → Option Nat) (co : Nat) (xrange : Int64) (xcode : Int64) (xreadLow : Int64) (xreadRange : Int64) (ri : Nat) (ro : Nat) (rw : Nat) (xasked : Int32) (L : Nat) (rwa : Nat) (rwk : Nat) (rwf : Nat → Int32) (bs : List Nat) (ron : Int32) (roa : Nat) (rok : Nat) (rof : Nat → Int32) (hL : L < 4294967296) (hrw : rOk (nI bs.length) rwk) (hGrw : gIs rwf bs) (hN9 : bs.length + 20 + 0 ≤ 7900) : MetIg l y_RC_end (Cond.code y_RC_end prog_1_method_6_code 1 (some .int) :: gw) ({ frames := 6, cells := rPh rwk, slots := rPh rwk, locals := 145 } : Room) (dC, dI) vwCl (kT cI cM cO) [Value.ref rc] [(rc, Sum.inr (6, [Value.ref co, Value.ref ma, Value.int (nI k), Value.int fit, Value.int 0, Value.int frd, Value.int fbd, Value.int fir])), (co, Sum.inr (2, [Value.long (lN L), Value.long xrange, Value.long xcode, Value.long xreadLow, Value.long xreadRange, Value.ref ri, Value.ref ro, Value.ref rw, Value.int xasked])), (rw, Sum.inr (0, [Value.int (nI bs.length), Value.ref rwa])), (rwa, Sum.inl (cI, rwk, Sum.inl rwf)), (ro, Sum.inr (0, [Value.int ron, Value.ref roa])), (roa, Sum.inl (cI, rok, Sum.inl rof))] sz sl (fun (r : Int32) (u : Nat × Nat × (Nat → Int32)) => r = nI (tpK 4 (L, bs)).2.length ∧ rOk (nI ((tpK 4 (L, bs)).2).length) u.2.1 ∧ gIs u.2.2 ((tpK 4 (L, bs)).2)) (fun (u : Nat × Nat × (Nat → Int32)) => [(rc, Sum.inr (6, [Value.ref co, Value.ref ma, Value.int (nI k), Value.int fit, Value.int 1, Value.int frd, Value.int fbd, Value.int fir])), (co, Sum.inr (2, [Value.long (lN (tpK 4 (L, bs)).1), Value.long xrange, Value.long xcode, Value.long xreadLow, Value.long xreadRange, Value.ref ri, Value.ref rw, Value.ref ro, Value.int xasked])), (rw, Sum.inr (0, [Value.int (nI (tpK 4 (L, bs)).2.length), Value.ref u.1])), (u.1, Sum.inl (cI, u.2.1, Sum.inl u.2.2)), (ro, Sum.inr (0, [Value.int ron, Value.ref roa])), (roa, Sum.inl (cI, rok, Sum.inl rof))]) (rPh rwk) (fun (u : Nat × Nat × (Nat → Int32)) => rPh u.2.1) := by
  refine my_ofIg (cc := prog_1_method_6_code) (n := 1) (ret := (some .int)) (by decide) rfl (Nat.le_of_ble_eq_true rfl) ?_
  intro p e s m args below meth c R Q A ls H locs hx hb hr hts hown hlocks hml hnm hR hQ hA hl hP hK hN hD hS
  have hg : ∀ w ∈ gw, w.before args s = true := fun w h => hts w (List.mem_cons_of_mem _ h)
  have hown : s.vm.findClass "RangeCoders" = some m.cls := hown
  have hl : lv_has ls 1 [(0, Value.ref rc)] := hl
  refine lv_aload_n hx hb d_RC_end_0 rfl (lv_at hl 0 rfl) ?_
  refine va_get (D := (dC, dI)) (ci := 6) (v := .int 0) (C := "RangeCoders") (T := T_RC) (N := 8) hx hb hg in_RC hown hK hP 0 rfl rfl 4 (by decide) (hg _ k262) (fun _ h9 => h9) rfl d_RC_end_1 ?_
  refine lv_if_eq (tgt := 10) hx hb d_RC_end_4 (by decide) (fun c_1 => ?_) (fun c_1 => ?_)
  · refine lv_aload_n hx hb d_RC_end_10 rfl (lv_at hl 0 rfl) ?_
    refine va_get (D := (dC, dI)) (ci := 6) (v := .ref co) (C := "RangeCoders") (T := T_RC) (N := 8) hx hb hg in_RC hown hK hP 0 rfl rfl 0 (by decide) (hg _ k258) (fun _ h9 => h9) rfl d_RC_end_11 ?_
    refine my_cvg (wr := [(rc, Sum.inr (6, [Value.ref co, Value.ref ma, Value.int (nI k), Value.int fit, Value.int 0, Value.int frd, Value.int fbd, Value.int fir]))]) (va_runU (As := []) (rest := []) ⟨hx, hb, hml, hown, hts⟩ (f_NoCarries_close l dC dI cI cM cO H.size (hSl H) co xrange xcode xreadLow xreadRange ri ro rw xasked L rwa rwk rwf bs ron roa rok rof (by first | assumption | omega) (by first | assumption | omega) (by first | assumption | omega) (by first | assumption | omega)) (va_cwA 0 hts (my_gU k572 k574 k589 k576 k4 k577) rfl rfl rfl (hN.1 _ j573 rfl) (by decide +kernel) ⟨by rw [hR]; exact Nat.le_of_ble_eq_true rfl, by rw [hR]; exact Nat.le_of_ble_eq_true rfl⟩) (my_preVg hK hN (hP.sub [1, 2, 3, 4, 5] rfl) (hD.sub [1, 2, 3, 4, 5] (by decide +kernel) rfl) 0 rfl rfl) rfl rfl hl.1 rfl (lv_room (Nat.le_of_ble_eq_true rfl)) d_RC_end_14 ⟨by rw [hR]; exact (show 0 + (rPh rwk) ≤ (rPh rwk) by omega), by rw [hR]; exact (show 0 + (rPh rwk) ≤ (rPh rwk) by omega)⟩) hP hD hS hA [1, 2, 3, 4, 5] [0] rfl rfl (by decide +kernel) (by decide +kernel) (fun u9 d_14 H locs hd_14 hw_14 hP hD hS => ?_)
    obtain ⟨rwaq_14, rwkq_14, rwfq_14⟩ := u9
    obtain ⟨hrw_14, hGrw_14⟩ : rOk (nI ((tpK 4 (L, bs)).2).length) rwkq_14 ∧ gIs rwfq_14 ((tpK 4 (L, bs)).2) := hw_14
    have hd_14 : d_14 + (rPh rwkq_14) ≤ (rPh rwk) := hd_14
    have hPD : my_PD (dC, dI) vwCl A [(rc, Sum.inr (6, [Value.ref co, Value.ref ma, Value.int (nI k), Value.int fit, Value.int 0, Value.int frd, Value.int fbd, Value.int fir])), (co, Sum.inr (2, [Value.long (lN (tpK 4 (L, bs)).1), Value.long xrange, Value.long xcode, Value.long xreadLow, Value.long xreadRange, Value.ref ri, Value.ref rw, Value.ref ro, Value.int xasked])), (rw, Sum.inr (0, [Value.int (nI (tpK 4 (L, bs)).2.length), Value.ref rwaq_14])), (rwaq_14, Sum.inl (cI, rwkq_14, Sum.inl rwfq_14)), (ro, Sum.inr (0, [Value.int ron, Value.ref roa])), (roa, Sum.inl (cI, rok, Sum.inl rof))] H := ⟨hP, hD⟩
    have hP := hPD.1
    have hD := hPD.2
    refine lv_aload_n hx hb d_RC_end_17 rfl (lv_at hl 0 rfl) ?_
    refine lv_iconst (v := 1) hx hb d_RC_end_18 (by decide) ?_
    refine va_put (D := (dC, dI)) (ci := 6) (v := .int 1) (ty := .boolean) (C := "RangeCoders") (T := T_RC) (N := 8) hx hb hg in_RC t_RC o_RC n_RC hown hK hP hD hS 0 rfl rfl 4 (by decide) (hg _ k262) (fun _ h9 => h9) rfl (o_RC 4 (by decide)) rfl rfl (Nat.le_of_ble_eq_true rfl) d_RC_end_19 (fun H locs hP hD hS => ?_)
    have hPD : my_PD (dC, dI) vwCl A [(rc, Sum.inr (6, [Value.ref co, Value.ref ma, Value.int (nI k), Value.int fit, Value.int 1, Value.int frd, Value.int fbd, Value.int fir])), (co, Sum.inr (2, [Value.long (lN (tpK 4 (L, bs)).1), Value.long xrange, Value.long xcode, Value.long xreadLow, Value.long xreadRange, Value.ref ri, Value.ref rw, Value.ref ro, Value.int xasked])), (rw, Sum.inr (0, [Value.int (nI (tpK 4 (L, bs)).2.length), Value.ref rwaq_14])), (rwaq_14, Sum.inl (cI, rwkq_14, Sum.inl rwfq_14)), (ro, Sum.inr (0, [Value.int ron, Value.ref roa])), (roa, Sum.inl (cI, rok, Sum.inl rof))] H := ⟨hP, hD⟩
    have hP := hPD.1
    have hD := hPD.2
    refine lv_aload_n hx hb d_RC_end_22 rfl (lv_at hl 0 rfl) ?_
    refine va_get (D := (dC, dI)) (ci := 6) (v := .ref co) (C := "RangeCoders") (T := T_RC) (N := 8) hx hb hg in_RC hown hK hP 0 rfl rfl 0 (by decide) (hg _ k258) (fun _ h9 => h9) rfl d_RC_end_23 ?_
    refine va_get (D := (dC, dI)) (ci := 2) (v := .ref rw) (C := "RangeCoders$NoCarries") (T := T_NoCarries) (N := 9) hx hb hg in_NoCarries hown hK hP 1 rfl rfl 6 (by decide) (hg _ k108) (fun _ h9 => h9) rfl d_RC_end_26 ?_
    refine va_get (D := (dC, dI)) (ci := 0) (v := .int (nI (tpK 4 (L, bs)).2.length)) (C := "RangeCoders$Row") (T := T_Row) (N := 2) hx hb hg in_Row hown hK hP 2 rfl rfl 0 (by decide) (hg _ k58) (fun _ h9 => h9) rfl d_RC_end_29 ?_
    exact my_iretg (v := nI (tpK 4 (L, bs)).2.length) hx hb hr (rfl) hlocks hQ hK hS (rwaq_14, rwkq_14, rwfq_14) (show (0 + d_14) + (rPh rwkq_14) ≤ (rPh rwk) by omega) (show (0 + d_14) + (rPh rwkq_14) ≤ (rPh rwk) by omega) (⟨rfl, hrw_14, hGrw_14⟩) (hP.sub [0, 1, 2, 3, 4, 5] rfl) (hD.sub [0, 1, 2, 3, 4, 5] (by decide +kernel) rfl) d_RC_end_32
  · exact absurd (by decide) c_1
end
section
set_option maxHeartbeats 2000000 in
set_option maxRecDepth 100000 in
theorem f_RC_out_Stack (l : Launch) (dC : Nat → ClassId) (dI : Nat → Nat → Nat) (cI cM cO : ClassId) (sz : Nat) (rc : Nat) (ma : Nat) (k : Nat) (fit : Int32) (fen : Int32) (frd : Int32) (fbd : Int32) (fir : Int32) (mf : Nat → Option Nat) (co : Nat) (xx : Int64) (xreadX : Int64) (soa : Nat) (sna : Nat) (swa : Nat) (xkept : Int32) (ri : Nat) (ro : Nat) (rw : Nat) (xasked : Int32) (roa : Nat) (rok : Nat) (rof : Nat → Int32) (os : List Nat) (ii : Int32) (hro : rOk (nI os.length) rok) (hGro : gIs rof os) (hLro : os.length ≤ 8192) : MetI l y_RC_out (Cond.code y_RC_out prog_1_method_8_code 2 (some .int) :: gw) ({ frames := 2, cells := 0, slots := 0, locals := 42 } : Room) (dC, dI) vwCl (kT cI cM cO) [Value.ref rc, Value.int ii] [(rc, Sum.inr (6, [Value.ref co, Value.ref ma, Value.int (nI k), Value.int fit, Value.int fen, Value.int frd, Value.int fbd, Value.int fir])), (co, Sum.inr (4, [Value.long xx, Value.long xreadX, Value.ref soa, Value.ref sna, Value.ref swa, Value.int xkept, Value.ref ri, Value.ref ro, Value.ref rw, Value.int xasked])), (ro, Sum.inr (0, [Value.int (nI os.length), Value.ref roa])), (roa, Sum.inl (cI, rok, Sum.inl rof))] sz (fun (r : Int32) (u : Unit) => r = rAt os ii) (fun (u : Unit) => [(rc, Sum.inr (6, [Value.ref co, Value.ref ma, Value.int (nI k), Value.int fit, Value.int fen, Value.int frd, Value.int fbd, Value.int fir])), (co, Sum.inr (4, [Value.long xx, Value.long xreadX, Value.ref soa, Value.ref sna, Value.ref swa, Value.int xkept, Value.ref ri, Value.ref ro, Value.ref rw, Value.int xasked])), (ro, Sum.inr (0, [Value.int (nI os.length), Value.ref roa])), (roa, Sum.inl (cI, rok, Sum.inl rof))]) 0 0 := by
  refine my_ofI (cc := prog_1_method_8_code) (n := 2) (ret := (some .int)) (by decide) rfl (Nat.le_of_ble_eq_true rfl) ?_
  intro p e s m args below meth c R Q A ls H locs hx hb hr hts hown hlocks hml hnm hR hQ hA hl hP hK hN hD hS
  have hg : ∀ w ∈ gw, w.before args s = true := fun w h => hts w (List.mem_cons_of_mem _ h)
  have hown : s.vm.findClass "RangeCoders" = some m.cls := hown
  have hl : lv_has ls 2 [(0, Value.ref rc), (1, Value.int ii)] := hl
  refine lv_aload_n hx hb d_RC_out_0 rfl (lv_at hl 0 rfl) ?_
  refine va_get (D := (dC, dI)) (ci := 6) (v := .ref co) (C := "RangeCoders") (T := T_RC) (N := 8) hx hb hg in_RC hown hK hP 0 rfl rfl 0 (by decide) (hg _ k258) (fun _ h9 => h9) rfl d_RC_out_1 ?_
  refine va_get (D := (dC, dI)) (ci := 4) (v := .ref ro) (C := "RangeCoders$Stack") (T := T_Stack) (N := 10) hx hb hg in_Stack hown hK hP 1 rfl rfl 7 (by decide) (hg _ k108) (fun _ h9 => h9) rfl d_RC_out_4 ?_
  refine lv_iload_n hx hb d_RC_out_7 rfl (lv_at hl 1 rfl) ?_
  refine my_ci (wr := [(rc, Sum.inr (6, [Value.ref co, Value.ref ma, Value.int (nI k), Value.int fit, Value.int fen, Value.int frd, Value.int fbd, Value.int fir])), (co, Sum.inr (4, [Value.long xx, Value.long xreadX, Value.ref soa, Value.ref sna, Value.ref swa, Value.int xkept, Value.ref ri, Value.ref ro, Value.ref rw, Value.int xasked]))]) (va_runV (As := [Value.int ii]) (rest := []) ⟨hx, hb, hml, hown, hts⟩ (f_Row_at l dC dI cI cM cO H.size ro roa rok rof os ii (hro) (hGro) (hLro)) (cwV 1 hts (my_gV k703 k659 k660 k6 k661) rfl rfl rfl cu_Row_at_1 ⟨by rw [hR]; exact Nat.le_of_ble_eq_true rfl, by rw [hR]; exact Nat.le_of_ble_eq_true rfl⟩) (my_preV hK hN (hP.sub [2, 3] rfl) (hD.sub [2, 3] (by decide +kernel) rfl) 0 rfl rfl) rfl rfl hl.1 rfl (lv_room (Nat.le_of_ble_eq_true rfl)) d_RC_out_8 ⟨by rw [hR]; exact Nat.le_of_ble_eq_true rfl, by rw [hR]; exact Nat.le_of_ble_eq_true rfl⟩) hP hD hS hA [2, 3] [0, 1] rfl rfl (by decide +kernel) (by decide +kernel) (fun r_8 u9 H locs hw_8 hP hD hS => ?_)
  have hr_8 : r_8 = rAt os ii := hw_8
  have hPD : my_PD (dC, dI) vwCl A [(rc, Sum.inr (6, [Value.ref co, Value.ref ma, Value.int (nI k), Value.int fit, Value.int fen, Value.int frd, Value.int fbd, Value.int fir])), (co, Sum.inr (4, [Value.long xx, Value.long xreadX, Value.ref soa, Value.ref sna, Value.ref swa, Value.int xkept, Value.ref ri, Value.ref ro, Value.ref rw, Value.int xasked])), (ro, Sum.inr (0, [Value.int (nI os.length), Value.ref roa])), (roa, Sum.inl (cI, rok, Sum.inl rof))] H := ⟨hP, hD⟩
  have hP := hPD.1
  have hD := hPD.2
  exact my_iret (v := r_8) hx hb hr (rfl) hlocks hQ hK hS (Nat.le_refl _) (Nat.le_refl _) () (hr_8) (hP.sub [0, 1, 2, 3] rfl) (hD.sub [0, 1, 2, 3] (by decide +kernel) rfl) d_RC_out_11
set_option maxHeartbeats 2000000 in
set_option maxRecDepth 100000 in
theorem f_RC_octetsR_Stack (l : Launch) (dC : Nat → ClassId) (dI : Nat → Nat → Nat) (cI cM cO : ClassId) (sz : Nat) (rc : Nat) (ma : Nat) (k : Nat) (fit : Int32) (fen : Int32) (frd : Int32) (fbd : Int32) (fir : Int32) (mf : Nat → Option Nat) (co : Nat) (xx : Int64) (xreadX : Int64) (soa : Nat) (sna : Nat) (swa : Nat) (xkept : Int32) (ri : Nat) (ro : Nat) (rw : Nat) (xasked : Int32) (ria : Nat) (rik : Nat) (rif : Nat → Int32) (is : List Nat) (vv : Int32) (hri : rOk (nI is.length) rik) (hGri : gIs rif is) (hLri : is.length ≤ 6000) (hfl : 6000 < is.length + 4) : MetI l y_RC_octets (Cond.code y_RC_octets prog_1_method_9_code 3 (some .int) :: gw) ({ frames := 0, cells := 0, slots := 0, locals := 0 } : Room) (dC, dI) vwCl (kT cI cM cO) [Value.ref rc, Value.int vv] [(rc, Sum.inr (6, [Value.ref co, Value.ref ma, Value.int (nI k), Value.int fit, Value.int fen, Value.int frd, Value.int fbd, Value.int fir])), (co, Sum.inr (4, [Value.long xx, Value.long xreadX, Value.ref soa, Value.ref sna, Value.ref swa, Value.int xkept, Value.ref ri, Value.ref ro, Value.ref rw, Value.int xasked])), (ri, Sum.inr (0, [Value.int (nI is.length), Value.ref ria])), (ria, Sum.inl (cI, rik, Sum.inl rif))] sz (fun (r : Int32) (u : Unit) => r = -4) (fun (u : Unit) => [(rc, Sum.inr (6, [Value.ref co, Value.ref ma, Value.int (nI k), Value.int fit, Value.int fen, Value.int frd, Value.int fbd, Value.int fir])), (co, Sum.inr (4, [Value.long xx, Value.long xreadX, Value.ref soa, Value.ref sna, Value.ref swa, Value.int xkept, Value.ref ri, Value.ref ro, Value.ref rw, Value.int xasked])), (ri, Sum.inr (0, [Value.int (nI is.length), Value.ref ria])), (ria, Sum.inl (cI, rik, Sum.inl rif))]) 0 0 := by
  refine my_ofI (cc := prog_1_method_9_code) (n := 3) (ret := (some .int)) (by decide) rfl (Nat.le_of_ble_eq_true rfl) ?_
  intro p e s m args below meth c R Q A ls H locs hx hb hr hts hown hlocks hml hnm hR hQ hA hl hP hK hN hD hS
  have hg : ∀ w ∈ gw, w.before args s = true := fun w h => hts w (List.mem_cons_of_mem _ h)
  have hown : s.vm.findClass "RangeCoders" = some m.cls := hown
  have hl : lv_has ls 3 [(0, Value.ref rc), (1, Value.int vv)] := hl
  refine lv_aload_n hx hb d_RC_octets_0 rfl (lv_at hl 0 rfl) ?_
  refine va_get (D := (dC, dI)) (ci := 6) (v := .ref co) (C := "RangeCoders") (T := T_RC) (N := 8) hx hb hg in_RC hown hK hP 0 rfl rfl 0 (by decide) (hg _ k258) (fun _ h9 => h9) rfl d_RC_octets_1 ?_
  refine va_get (D := (dC, dI)) (ci := 4) (v := .ref ri) (C := "RangeCoders$Stack") (T := T_Stack) (N := 10) hx hb hg in_Stack hown hK hP 1 rfl rfl 6 (by decide) (hg _ k102) (fun _ h9 => h9) rfl d_RC_octets_4 ?_
  refine va_get (D := (dC, dI)) (ci := 0) (v := .int (nI is.length)) (C := "RangeCoders$Row") (T := T_Row) (N := 2) hx hb hg in_Row hown hK hP 2 rfl rfl 0 (by decide) (hg _ k58) (fun _ h9 => h9) rfl d_RC_octets_7 ?_
  refine lv_iconst (v := 4) hx hb d_RC_octets_10 (by decide) ?_
  refine lv_iadd hx hb d_RC_octets_11 ?_
  refine lv_topi (fun v_1 ev_1 => ?_)
  refine lv_sipush (v := 6000) hx hb d_RC_octets_12 (by decide) ?_
  have z9 : v_1 = nI (is.length + 4) := by rw [ev_1]; exact nI_add _ 4
  subst z9
  refine lv_icmp_le (tgt := 21) hx hb d_RC_octets_15 (by decide) (fun c_2 => ?_) (fun c_2 => ?_)
  · exact absurd ((nI_cmp (b := 6000) (by omega) (by decide)).mp c_2) (by omega)
  · refine lv_bipush (v := (-4)) hx hb d_RC_octets_18 (by decide) ?_
    exact my_iret (v := (-4)) hx hb hr (rfl) hlocks hQ hK hS (Nat.le_refl _) (Nat.le_refl _) () (rfl) (hP.sub [0, 1, 2, 3] rfl) (hD.sub [0, 1, 2, 3] (by decide +kernel) rfl) d_RC_octets_20
set_option maxHeartbeats 2000000 in
set_option maxRecDepth 100000 in
theorem f_RC_octetsL_Stack (l : Launch) (dC : Nat → ClassId) (dI : Nat → Nat → Nat) (cI cM cO : ClassId) (sz : Nat) (sl : Nat) (rc : Nat) (ma : Nat) (k : Nat) (fit : Int32) (fen : Int32) (frd : Int32) (fbd : Int32) (fir : Int32) (mf : Nat → Option Nat) (co : Nat) (xx : Int64) (xreadX : Int64) (soa : Nat) (sna : Nat) (swa : Nat) (xkept : Int32) (ri : Nat) (ro : Nat) (rw : Nat) (xasked : Int32) (ria : Nat) (rik : Nat) (rif : Nat → Int32) (is : List Nat) (vv : Int32) (hri : rOk (nI is.length) rik) (hGri : gIs rif is) (hLri : is.length ≤ 6000) (hfl : is.length + 4 ≤ 6000) : MetIg l y_RC_octets (Cond.code y_RC_octets prog_1_method_9_code 3 (some .int) :: gw) ({ frames := 3, cells := rPh rik, slots := rPh rik, locals := 83 } : Room) (dC, dI) vwCl (kT cI cM cO) [Value.ref rc, Value.int vv] [(rc, Sum.inr (6, [Value.ref co, Value.ref ma, Value.int (nI k), Value.int fit, Value.int fen, Value.int frd, Value.int fbd, Value.int fir])), (co, Sum.inr (4, [Value.long xx, Value.long xreadX, Value.ref soa, Value.ref sna, Value.ref swa, Value.int xkept, Value.ref ri, Value.ref ro, Value.ref rw, Value.int xasked])), (ri, Sum.inr (0, [Value.int (nI is.length), Value.ref ria])), (ria, Sum.inl (cI, rik, Sum.inl rif))] sz sl (fun (r : Int32) (u : Nat × Nat × (Nat → Int32)) => r = nI (is ++ [oB vv 3, oB vv 2, oB vv 1, oB vv 0]).length ∧ rOk (nI (is ++ [oB vv 3, oB vv 2, oB vv 1, oB vv 0]).length) u.2.1 ∧ gIs u.2.2 (is ++ [oB vv 3, oB vv 2, oB vv 1, oB vv 0])) (fun (u : Nat × Nat × (Nat → Int32)) => [(rc, Sum.inr (6, [Value.ref co, Value.ref ma, Value.int (nI k), Value.int fit, Value.int fen, Value.int frd, Value.int fbd, Value.int fir])), (co, Sum.inr (4, [Value.long xx, Value.long xreadX, Value.ref soa, Value.ref sna, Value.ref swa, Value.int xkept, Value.ref ri, Value.ref ro, Value.ref rw, Value.int xasked])), (ri, Sum.inr (0, [Value.int (nI (is ++ [oB vv 3, oB vv 2, oB vv 1, oB vv 0]).length), Value.ref u.1])), (u.1, Sum.inl (cI, u.2.1, Sum.inl u.2.2))]) (rPh rik) (fun (u : Nat × Nat × (Nat → Int32)) => rPh u.2.1) := by
  refine my_ofIg (cc := prog_1_method_9_code) (n := 3) (ret := (some .int)) (by decide) rfl (Nat.le_of_ble_eq_true rfl) ?_
  intro p e s m args below meth c R Q A ls H locs hx hb hr hts hown hlocks hml hnm hR hQ hA hl hP hK hN hD hS
  have hg : ∀ w ∈ gw, w.before args s = true := fun w h => hts w (List.mem_cons_of_mem _ h)
  have hown : s.vm.findClass "RangeCoders" = some m.cls := hown
  have hl : lv_has ls 3 [(0, Value.ref rc), (1, Value.int vv)] := hl
  have hlti := rOk_lt hri
  refine lv_aload_n hx hb d_RC_octets_0 rfl (lv_at hl 0 rfl) ?_
  refine va_get (D := (dC, dI)) (ci := 6) (v := .ref co) (C := "RangeCoders") (T := T_RC) (N := 8) hx hb hg in_RC hown hK hP 0 rfl rfl 0 (by decide) (hg _ k258) (fun _ h9 => h9) rfl d_RC_octets_1 ?_
  refine va_get (D := (dC, dI)) (ci := 4) (v := .ref ri) (C := "RangeCoders$Stack") (T := T_Stack) (N := 10) hx hb hg in_Stack hown hK hP 1 rfl rfl 6 (by decide) (hg _ k102) (fun _ h9 => h9) rfl d_RC_octets_4 ?_
  refine va_get (D := (dC, dI)) (ci := 0) (v := .int (nI is.length)) (C := "RangeCoders$Row") (T := T_Row) (N := 2) hx hb hg in_Row hown hK hP 2 rfl rfl 0 (by decide) (hg _ k58) (fun _ h9 => h9) rfl d_RC_octets_7 ?_
  refine lv_iconst (v := 4) hx hb d_RC_octets_10 (by decide) ?_
  refine lv_iadd hx hb d_RC_octets_11 ?_
  refine lv_topi (fun v_1 ev_1 => ?_)
  refine lv_sipush (v := 6000) hx hb d_RC_octets_12 (by decide) ?_
  have z9 : v_1 = nI (is.length + 4) := by rw [ev_1]; exact nI_add _ 4
  subst z9
  refine lv_icmp_le (tgt := 21) hx hb d_RC_octets_15 (by decide) (fun c_2 => ?_) (fun c_2 => ?_)
  · refine lv_bipush (v := 24) hx hb d_RC_octets_21 (by decide) ?_
    refine lv_istore_n (lv' := [(2, Value.int 24), (0, Value.ref rc), (1, Value.int vv)]) hx hb d_RC_octets_23 rfl hl (by decide) rfl (fun ls hl => ?_)
    have J_24 : ∀ (n9_24 : Nat) (i9 : Int32) (j : Nat) (b9 : List Nat) (ria9 : Nat) (rik9 : Nat) (rif9 : Nat → Int32) (d9 : Nat) (hn9_24 : j = n9_24) (hi : i9.toInt = 8 * (j : Int) - 8) (hj : j ≤ 4) (hb9 : is ++ [oB vv 3, oB vv 2, oB vv 1, oB vv 0] = b9 ++ (List.range j).reverse.map (oB vv)) (hM9 : b9.length + j = is.length + 4) (hr9 : rOk (nI b9.length) rik9) (hg9 : gIs rif9 b9) (hd9 : d9 + rPh rik9 ≤ rPh rik) (H : Heap) (locs : List Loc) (ls : Array Slot), va_P (dC, dI) vwCl [(rc, Sum.inr (6, [Value.ref co, Value.ref ma, Value.int (nI k), Value.int fit, Value.int fen, Value.int frd, Value.int fbd, Value.int fir])), (co, Sum.inr (4, [Value.long xx, Value.long xreadX, Value.ref soa, Value.ref sna, Value.ref swa, Value.int xkept, Value.ref ri, Value.ref ro, Value.ref rw, Value.int xasked])), (ri, Sum.inr (0, [Value.int (nI b9.length), Value.ref ria9])), (ria9, Sum.inl (cI, rik9, Sum.inl rif9))] H → va_D A [(rc, Sum.inr (6, [Value.ref co, Value.ref ma, Value.int (nI k), Value.int fit, Value.int fen, Value.int frd, Value.int fbd, Value.int fir])), (co, Sum.inr (4, [Value.long xx, Value.long xreadX, Value.ref soa, Value.ref sna, Value.ref swa, Value.int xkept, Value.ref ri, Value.ref ro, Value.ref rw, Value.int xasked])), (ri, Sum.inr (0, [Value.int (nI b9.length), Value.ref ria9])), (ria9, Sum.inl (cI, rik9, Sum.inl rif9))] → va_S A s.heap H locs → lv_has ls 3 [(2, Value.int i9), (0, Value.ref rc), (1, Value.int vv)] → W p l e R s m args below meth c H locs d9 d9 Q (F0 m 24 ls []) := by
      intro n9_24
      induction n9_24 using Nat.strongRecOn with
      | ind n9_24 ih9_24 =>
        intro i9 j b9 ria9 rik9 rif9 d9 hn9_24 hi hj hb9 hM9 hr9 hg9 hd9 H locs ls hP hD hS hl
        refine lv_iload_n hx hb d_RC_octets_24 rfl (lv_at hl 0 rfl) ?_
        refine lv_if_lt (tgt := 51) hx hb d_RC_octets_25 (by decide) (fun c_3 => ?_) (fun c_3 => ?_)
        · have z9 := I_ng c_3
          have hj0 : j = 0 := by omega
          have z9 : b9 = is ++ [oB vv 3, oB vv 2, oB vv 1, oB vv 0] := by rw [hb9, hj0]; simp
          subst z9
          refine lv_aload_n hx hb d_RC_octets_51 rfl (lv_at hl 1 rfl) ?_
          refine va_get (D := (dC, dI)) (ci := 6) (v := .ref co) (C := "RangeCoders") (T := T_RC) (N := 8) hx hb hg in_RC hown hK hP 0 rfl rfl 0 (by decide) (hg _ k258) (fun _ h9 => h9) rfl d_RC_octets_52 ?_
          refine va_get (D := (dC, dI)) (ci := 4) (v := .ref ri) (C := "RangeCoders$Stack") (T := T_Stack) (N := 10) hx hb hg in_Stack hown hK hP 1 rfl rfl 6 (by decide) (hg _ k102) (fun _ h9 => h9) rfl d_RC_octets_55 ?_
          refine va_get (D := (dC, dI)) (ci := 0) (v := .int (nI (is ++ [oB vv 3, oB vv 2, oB vv 1, oB vv 0]).length)) (C := "RangeCoders$Row") (T := T_Row) (N := 2) hx hb hg in_Row hown hK hP 2 rfl rfl 0 (by decide) (hg _ k58) (fun _ h9 => h9) rfl d_RC_octets_58 ?_
          exact my_iretg (v := nI (is ++ [oB vv 3, oB vv 2, oB vv 1, oB vv 0]).length) hx hb hr (rfl) hlocks hQ hK hS (ria9, rik9, rif9) (show d9 + (rPh rik9) ≤ (rPh rik) by omega) (show d9 + (rPh rik9) ≤ (rPh rik) by omega) (⟨rfl, hr9, hg9⟩) (hP.sub [0, 1, 2, 3] rfl) (hD.sub [0, 1, 2, 3] (by decide +kernel) rfl) d_RC_octets_61
        · have z9 := I_nn c_3
          have hj0 : 1 ≤ j := by omega
          have hi9 : i9 = nI (8 * (j - 1)) := Int32.toInt_inj.mp (by rw [nI_toInt (by omega)]; omega)
          refine lv_aload_n hx hb d_RC_octets_28 rfl (lv_at hl 1 rfl) ?_
          refine va_get (D := (dC, dI)) (ci := 6) (v := .ref co) (C := "RangeCoders") (T := T_RC) (N := 8) hx hb hg in_RC hown hK hP 0 rfl rfl 0 (by decide) (hg _ k258) (fun _ h9 => h9) rfl d_RC_octets_29 ?_
          refine va_get (D := (dC, dI)) (ci := 4) (v := .ref ri) (C := "RangeCoders$Stack") (T := T_Stack) (N := 10) hx hb hg in_Stack hown hK hP 1 rfl rfl 6 (by decide) (hg _ k102) (fun _ h9 => h9) rfl d_RC_octets_32 ?_
          refine lv_iload_n hx hb d_RC_octets_35 rfl (lv_at hl 2 rfl) ?_
          refine lv_iload_n hx hb d_RC_octets_36 rfl (lv_at hl 0 rfl) ?_
          refine lv_iushr hx hb d_RC_octets_37 rfl ?_
          refine lv_topi (fun v_4 ev_4 => ?_)
          refine lv_sipush (v := 255) hx hb d_RC_octets_38 (by decide) ?_
          refine lv_iand hx hb d_RC_octets_41 ?_
          refine lv_topi (fun v_5 ev_5 => ?_)
          have z9 : v_5 = nI (oB vv (j - 1)) := by rw [ev_5, ev_4]; exact oB_u vv (j - 1) (by omega) _ hi9
          subst z9
          refine my_cvg (wr := [(rc, Sum.inr (6, [Value.ref co, Value.ref ma, Value.int (nI k), Value.int fit, Value.int fen, Value.int frd, Value.int fbd, Value.int fir])), (co, Sum.inr (4, [Value.long xx, Value.long xreadX, Value.ref soa, Value.ref sna, Value.ref swa, Value.int xkept, Value.ref ri, Value.ref ro, Value.ref rw, Value.int xasked]))]) (va_runV (As := [Value.int (nI (oB vv (j - 1)))]) (rest := []) ⟨hx, hb, hml, hown, hts⟩ (f_Row_add l dC dI cI cM cO H.size (hSl H) ri ria9 rik9 rif9 b9 (oB vv (j - 1)) (hr9) (hg9) (by omega)) (cwV 1 hts (my_gV k708 k473 k474 k6 k475) rfl rfl rfl cu_Row_add_1 ⟨by rw [hR]; exact Nat.le_of_ble_eq_true rfl, by rw [hR]; exact Nat.le_of_ble_eq_true rfl⟩) (my_preVg hK hN (hP.sub [2, 3] rfl) (hD.sub [2, 3] (by decide +kernel) rfl) 0 rfl rfl) rfl rfl hl.1 rfl (lv_room (Nat.le_of_ble_eq_true rfl)) d_RC_octets_42 ⟨by rw [hR]; exact (show d9 + (rPh rik9) ≤ (rPh rik) by omega), by rw [hR]; exact (show d9 + (rPh rik9) ≤ (rPh rik) by omega)⟩) hP hD hS hA [2, 3] [0, 1] rfl rfl (by decide +kernel) (by decide +kernel) (fun u9 d_42 H locs hd_42 hw_42 hP hD hS => ?_)
          obtain ⟨rraq_42, rrkq_42, rrfq_42⟩ := u9
          obtain ⟨hrr_42, hGrr_42⟩ : rOk (nI (b9 ++ [(oB vv (j - 1))]).length) rrkq_42 ∧ gIs rrfq_42 (b9 ++ [(oB vv (j - 1))]) := hw_42
          have hd_42 : d_42 + (rPh rrkq_42) ≤ (rPh rik9) := hd_42
          have hPD : my_PD (dC, dI) vwCl A [(rc, Sum.inr (6, [Value.ref co, Value.ref ma, Value.int (nI k), Value.int fit, Value.int fen, Value.int frd, Value.int fbd, Value.int fir])), (co, Sum.inr (4, [Value.long xx, Value.long xreadX, Value.ref soa, Value.ref sna, Value.ref swa, Value.int xkept, Value.ref ri, Value.ref ro, Value.ref rw, Value.int xasked])), (ri, Sum.inr (0, [Value.int (nI (b9 ++ [(oB vv (j - 1))]).length), Value.ref rraq_42])), (rraq_42, Sum.inl (cI, rrkq_42, Sum.inl rrfq_42))] H := ⟨hP, hD⟩
          have hP := hPD.1
          have hD := hPD.2
          obtain ⟨v_6, ev_6⟩ : ∃ y : Int32, y = i9 + (-8) := ⟨_, rfl⟩
          refine lv_iinc (v := v_6) (lv' := [(2, Value.int v_6), (0, Value.ref rc), (1, Value.int vv)]) hx hb d_RC_octets_45 hl (k := 0) rfl (by rw [ev_6]; rfl) (by decide) rfl (fun ls hl => ?_)
          refine lv_goto (tgt := 24) hx hb d_RC_octets_48 (by decide) ?_
          exact ih9_24 _ (by first | omega | (omega)) v_6 (j - 1) (b9 ++ [oB vv (j - 1)]) rraq_42 rrkq_42 rrfq_42 (d9 + d_42) rfl (by have z9 := I_dn8 c_3 ev_6; omega) (by omega) (by rw [hb9, show j = (j - 1) + 1 by omega, List.range_succ, List.reverse_append]; simp) (by rw [List.length_append, List.length_singleton]; omega) (hrr_42) (hGrr_42) (by omega) H locs ls (hP.sub [0, 1, 2, 3] rfl) (hD.sub [0, 1, 2, 3] (by decide +kernel) rfl) hS (lv_sub hl [0, 1, 2] rfl)
    exact J_24 _ (24 : Int32) (4 : Nat) is ria rik rif (0 : Nat) rfl (by decide) (by decide) (rfl) (rfl) (hri) (hGri) (by omega) H locs ls (hP.sub [0, 1, 2, 3] rfl) (hD.sub [0, 1, 2, 3] (by decide +kernel) rfl) hS (lv_sub hl [0, 1, 2] rfl)
  · exact absurd ((nI_cmp (b := 6000) (by omega) (by decide)).mpr (by omega)) c_2
set_option maxHeartbeats 2000000 in
set_option maxRecDepth 100000 in
theorem f_RC_takeA_Stack (l : Launch) (dC : Nat → ClassId) (dI : Nat → Nat → Nat) (cI cM cO : ClassId) (sz : Nat) (rc : Nat) (ma : Nat) (k : Nat) (fit : Int32) (fen : Int32) (frd : Int32) (fbd : Int32) (fir : Int32) (mf : Nat → Option Nat) (co : Nat) (xx : Int64) (xreadX : Int64) (soa : Nat) (sna : Nat) (swa : Nat) (xkept : Int32) (ri : Nat) (ro : Nat) (rw : Nat) (xasked : Int32) (roa : Nat) (rok : Nat) (rof : Nat → Int32) (os : List Nat) (nn : Int32) (hro : rOk (nI os.length) rok) (hGro : gIs rof os) (hLro : os.length ≤ 8192) (hno : nn < 0 ∨ nI os.length < nn - 2) : MetI l y_RC_take (Cond.code y_RC_take prog_1_method_10_code 4 (some .int) :: gw) ({ frames := 0, cells := 0, slots := 0, locals := 0 } : Room) (dC, dI) vwCl (kT cI cM cO) [Value.ref rc, Value.int nn] [(rc, Sum.inr (6, [Value.ref co, Value.ref ma, Value.int (nI k), Value.int fit, Value.int fen, Value.int frd, Value.int fbd, Value.int fir])), (co, Sum.inr (4, [Value.long xx, Value.long xreadX, Value.ref soa, Value.ref sna, Value.ref swa, Value.int xkept, Value.ref ri, Value.ref ro, Value.ref rw, Value.int xasked])), (ro, Sum.inr (0, [Value.int (nI os.length), Value.ref roa])), (roa, Sum.inl (cI, rok, Sum.inl rof))] sz (fun (r : Int32) (u : Unit) => r = -2) (fun (u : Unit) => [(rc, Sum.inr (6, [Value.ref co, Value.ref ma, Value.int (nI k), Value.int fit, Value.int fen, Value.int frd, Value.int fbd, Value.int fir])), (co, Sum.inr (4, [Value.long xx, Value.long xreadX, Value.ref soa, Value.ref sna, Value.ref swa, Value.int xkept, Value.ref ri, Value.ref ro, Value.ref rw, Value.int xasked])), (ro, Sum.inr (0, [Value.int (nI os.length), Value.ref roa])), (roa, Sum.inl (cI, rok, Sum.inl rof))]) 0 0 := by
  refine my_ofI (cc := prog_1_method_10_code) (n := 4) (ret := (some .int)) (by decide) rfl (Nat.le_of_ble_eq_true rfl) ?_
  intro p e s m args below meth c R Q A ls H locs hx hb hr hts hown hlocks hml hnm hR hQ hA hl hP hK hN hD hS
  have hg : ∀ w ∈ gw, w.before args s = true := fun w h => hts w (List.mem_cons_of_mem _ h)
  have hown : s.vm.findClass "RangeCoders" = some m.cls := hown
  have hl : lv_has ls 4 [(0, Value.ref rc), (1, Value.int nn)] := hl
  refine lv_iload_n hx hb d_RC_take_0 rfl (lv_at hl 1 rfl) ?_
  refine lv_if_lt (tgt := 20) hx hb d_RC_take_1 (by decide) (fun c_1 => ?_) (fun c_1 => ?_)
  · refine lv_bipush (v := (-2)) hx hb d_RC_take_20 (by decide) ?_
    exact my_iret (v := (-2)) hx hb hr (rfl) hlocks hQ hK hS (Nat.le_refl _) (Nat.le_refl _) () (rfl) (hP.sub [0, 1, 2, 3] rfl) (hD.sub [0, 1, 2, 3] (by decide +kernel) rfl) d_RC_take_22
  · refine lv_iload_n hx hb d_RC_take_4 rfl (lv_at hl 1 rfl) ?_
    refine lv_iconst (v := 2) hx hb d_RC_take_5 (by decide) ?_
    refine lv_isub hx hb d_RC_take_6 ?_
    refine lv_topi (fun v_2 ev_2 => ?_)
    refine lv_aload_n hx hb d_RC_take_7 rfl (lv_at hl 0 rfl) ?_
    refine va_get (D := (dC, dI)) (ci := 6) (v := .ref co) (C := "RangeCoders") (T := T_RC) (N := 8) hx hb hg in_RC hown hK hP 0 rfl rfl 0 (by decide) (hg _ k258) (fun _ h9 => h9) rfl d_RC_take_8 ?_
    refine va_get (D := (dC, dI)) (ci := 4) (v := .ref ro) (C := "RangeCoders$Stack") (T := T_Stack) (N := 10) hx hb hg in_Stack hown hK hP 1 rfl rfl 7 (by decide) (hg _ k108) (fun _ h9 => h9) rfl d_RC_take_11 ?_
    refine va_get (D := (dC, dI)) (ci := 0) (v := .int (nI os.length)) (C := "RangeCoders$Row") (T := T_Row) (N := 2) hx hb hg in_Row hown hK hP 2 rfl rfl 0 (by decide) (hg _ k58) (fun _ h9 => h9) rfl d_RC_take_14 ?_
    refine lv_icmp_le (tgt := 23) hx hb d_RC_take_17 (by decide) (fun c_3 => ?_) (fun c_3 => ?_)
    · exact absurd hno (fun h9 => h9.elim c_1 (fun q9 => absurd (by rw [← ev_2]; exact c_3) (Int32.not_le.mpr q9)))
    · refine lv_bipush (v := (-2)) hx hb d_RC_take_20 (by decide) ?_
      exact my_iret (v := (-2)) hx hb hr (rfl) hlocks hQ hK hS (Nat.le_refl _) (Nat.le_refl _) () (rfl) (hP.sub [0, 1, 2, 3] rfl) (hD.sub [0, 1, 2, 3] (by decide +kernel) rfl) d_RC_take_22
set_option maxHeartbeats 2000000 in
set_option maxRecDepth 100000 in
theorem f_RC_takeB_Stack (l : Launch) (dC : Nat → ClassId) (dI : Nat → Nat → Nat) (cI cM cO : ClassId) (sz : Nat) (sl : Nat) (rc : Nat) (ma : Nat) (k : Nat) (fit : Int32) (fen : Int32) (frd : Int32) (fbd : Int32) (fir : Int32) (mf : Nat → Option Nat) (co : Nat) (xx : Int64) (xreadX : Int64) (soa : Nat) (sna : Nat) (swa : Nat) (xkept : Int32) (ri : Nat) (ro : Nat) (rw : Nat) (xasked : Int32) (roa : Nat) (rok : Nat) (rof : Nat → Int32) (os : List Nat) (rin : Int32) (ria : Nat) (rik : Nat) (rif : Nat → Int32) (nn : Int32) (ll : Nat) (hro : rOk (nI os.length) rok) (hGro : gIs rof os) (hLro : os.length ≤ 8192) (hri : rOk rin rik) (hn0 : ¬ nn < 0) (hn2 : nn - 2 ≤ nI os.length) (hll : ll ≤ os.length) (hl1 : nn = 1 → ll = os.length) (hl2 : ¬ nn = 1 → (if (0 : Int32) < nn - 2 then nn - 2 else 0) = nI ll) : MetIg l y_RC_take (Cond.code y_RC_take prog_1_method_10_code 4 (some .int) :: gw) ({ frames := 3, cells := rPh rik, slots := rPh rik, locals := 83 } : Room) (dC, dI) vwCl (kT cI cM cO) [Value.ref rc, Value.int nn] [(rc, Sum.inr (6, [Value.ref co, Value.ref ma, Value.int (nI k), Value.int fit, Value.int fen, Value.int frd, Value.int fbd, Value.int fir])), (co, Sum.inr (4, [Value.long xx, Value.long xreadX, Value.ref soa, Value.ref sna, Value.ref swa, Value.int xkept, Value.ref ri, Value.ref ro, Value.ref rw, Value.int xasked])), (ro, Sum.inr (0, [Value.int (nI os.length), Value.ref roa])), (roa, Sum.inl (cI, rok, Sum.inl rof)), (ri, Sum.inr (0, [Value.int rin, Value.ref ria])), (ria, Sum.inl (cI, rik, Sum.inl rif))] sz sl (fun (r : Int32) (u : Nat × Nat × (Nat → Int32)) => r = nI (os.take ll).length ∧ rOk (nI (os.take ll).length) u.2.1 ∧ gIs u.2.2 (os.take ll)) (fun (u : Nat × Nat × (Nat → Int32)) => [(rc, Sum.inr (6, [Value.ref co, Value.ref ma, Value.int (nI k), Value.int fit, Value.int fen, Value.int 0, Value.int 0, Value.int 0])), (co, Sum.inr (4, [Value.long xx, Value.long xreadX, Value.ref soa, Value.ref sna, Value.ref swa, Value.int xkept, Value.ref ri, Value.ref ro, Value.ref rw, Value.int xasked])), (ro, Sum.inr (0, [Value.int (nI os.length), Value.ref roa])), (roa, Sum.inl (cI, rok, Sum.inl rof)), (ri, Sum.inr (0, [Value.int (nI (os.take ll).length), Value.ref u.1])), (u.1, Sum.inl (cI, u.2.1, Sum.inl u.2.2))]) (rPh rik) (fun (u : Nat × Nat × (Nat → Int32)) => rPh u.2.1) := by
  refine my_ofIg (cc := prog_1_method_10_code) (n := 4) (ret := (some .int)) (by decide) rfl (Nat.le_of_ble_eq_true rfl) ?_
  intro p e s m args below meth c R Q A ls H locs hx hb hr hts hown hlocks hml hnm hR hQ hA hl hP hK hN hD hS
  have hg : ∀ w ∈ gw, w.before args s = true := fun w h => hts w (List.mem_cons_of_mem _ h)
  have hown : s.vm.findClass "RangeCoders" = some m.cls := hown
  have hl : lv_has ls 4 [(0, Value.ref rc), (1, Value.int nn)] := hl
  have hlti := rOk_lt hri
  have hlto := rOk_lt hro
  refine lv_iload_n hx hb d_RC_take_0 rfl (lv_at hl 1 rfl) ?_
  refine lv_if_lt (tgt := 20) hx hb d_RC_take_1 (by decide) (fun c_1 => ?_) (fun c_1 => ?_)
  · exact absurd c_1 hn0
  · refine lv_iload_n hx hb d_RC_take_4 rfl (lv_at hl 1 rfl) ?_
    refine lv_iconst (v := 2) hx hb d_RC_take_5 (by decide) ?_
    refine lv_isub hx hb d_RC_take_6 ?_
    refine lv_topi (fun v_2 ev_2 => ?_)
    refine lv_aload_n hx hb d_RC_take_7 rfl (lv_at hl 0 rfl) ?_
    refine va_get (D := (dC, dI)) (ci := 6) (v := .ref co) (C := "RangeCoders") (T := T_RC) (N := 8) hx hb hg in_RC hown hK hP 0 rfl rfl 0 (by decide) (hg _ k258) (fun _ h9 => h9) rfl d_RC_take_8 ?_
    refine va_get (D := (dC, dI)) (ci := 4) (v := .ref ro) (C := "RangeCoders$Stack") (T := T_Stack) (N := 10) hx hb hg in_Stack hown hK hP 1 rfl rfl 7 (by decide) (hg _ k108) (fun _ h9 => h9) rfl d_RC_take_11 ?_
    refine va_get (D := (dC, dI)) (ci := 0) (v := .int (nI os.length)) (C := "RangeCoders$Row") (T := T_Row) (N := 2) hx hb hg in_Row hown hK hP 2 rfl rfl 0 (by decide) (hg _ k58) (fun _ h9 => h9) rfl d_RC_take_14 ?_
    refine lv_icmp_le (tgt := 23) hx hb d_RC_take_17 (by decide) (fun c_3 => ?_) (fun c_3 => ?_)
    · refine lv_iload_n hx hb d_RC_take_23 rfl (lv_at hl 1 rfl) ?_
      refine lv_iconst (v := 1) hx hb d_RC_take_24 (by decide) ?_
      refine lv_icmp_ne (tgt := 41) hx hb d_RC_take_25 (by decide) (fun c_4 => ?_) (fun c_4 => ?_)
      · refine lv_iconst (v := 0) hx hb d_RC_take_41 (by decide) ?_
        refine lv_iload_n hx hb d_RC_take_42 rfl (lv_at hl 1 rfl) ?_
        refine lv_iconst (v := 2) hx hb d_RC_take_43 (by decide) ?_
        refine lv_isub hx hb d_RC_take_44 ?_
        refine lv_topi (fun v_5 ev_5 => ?_)
        refine va_mmax hx hb (by rw [hml]; exact hl.1.symm) hown (hg _ k33) (hg _ k34) (hg _ k2) (hg _ k35) (by rw [hR]; exact Nat.le_of_ble_eq_true rfl) (by rw [hR]; exact Nat.le_of_ble_eq_true rfl) (Nat.zero_le _) (Nat.zero_le _) d_RC_take_45 ?_
        refine lv_topi (fun v_6 ev_6 => ?_)
        have z9 : v_6 = nI ll := by rw [← hl2 c_4]; subst_vars; rfl
        subst z9
        refine lv_istore_n (lv' := [(2, Value.int (nI ll)), (0, Value.ref rc), (1, Value.int nn)]) hx hb d_RC_take_48 rfl hl (by decide) rfl (fun ls hl => ?_)
        refine lv_aload_n hx hb d_RC_take_49 rfl (lv_at hl 1 rfl) ?_
        refine va_get (D := (dC, dI)) (ci := 6) (v := .ref co) (C := "RangeCoders") (T := T_RC) (N := 8) hx hb hg in_RC hown hK hP 0 rfl rfl 0 (by decide) (hg _ k258) (fun _ h9 => h9) rfl d_RC_take_50 ?_
        refine va_get (D := (dC, dI)) (ci := 4) (v := .ref ri) (C := "RangeCoders$Stack") (T := T_Stack) (N := 10) hx hb hg in_Stack hown hK hP 1 rfl rfl 6 (by decide) (hg _ k102) (fun _ h9 => h9) rfl d_RC_take_53 ?_
        refine my_cv (wr := [(rc, Sum.inr (6, [Value.ref co, Value.ref ma, Value.int (nI k), Value.int fit, Value.int fen, Value.int frd, Value.int fbd, Value.int fir])), (co, Sum.inr (4, [Value.long xx, Value.long xreadX, Value.ref soa, Value.ref sna, Value.ref swa, Value.int xkept, Value.ref ri, Value.ref ro, Value.ref rw, Value.int xasked])), (ro, Sum.inr (0, [Value.int (nI os.length), Value.ref roa])), (roa, Sum.inl (cI, rok, Sum.inl rof))]) (va_runV (As := []) (rest := []) ⟨hx, hb, hml, hown, hts⟩ (c_Row_clear l dC dI cI cM cO H.size ri rin ria rik rif (hri)) (cwV 0 hts (my_gV k713 k594 k595 k6 k596) rfl rfl rfl cu_Row_clear_0 ⟨by rw [hR]; exact Nat.le_of_ble_eq_true rfl, by rw [hR]; exact Nat.le_of_ble_eq_true rfl⟩) (my_preV hK hN (hP.sub [4, 5] rfl) (hD.sub [4, 5] (by decide +kernel) rfl) 0 rfl rfl) rfl rfl hl.1 rfl (lv_room (Nat.le_of_ble_eq_true rfl)) d_RC_take_56 ⟨by rw [hR]; exact (show 0 + 0 ≤ (rPh rik) by omega), by rw [hR]; exact (show 0 + 0 ≤ (rPh rik) by omega)⟩) hP hD hS hA [4, 5] [0, 1, 2, 3] rfl rfl (by decide +kernel) (by decide +kernel) (fun u9 H locs hw_56 hP hD hS => ?_)
        have hr_56 : rOk 0 rik := hw_56
        have hPD : my_PD (dC, dI) vwCl A [(rc, Sum.inr (6, [Value.ref co, Value.ref ma, Value.int (nI k), Value.int fit, Value.int fen, Value.int frd, Value.int fbd, Value.int fir])), (co, Sum.inr (4, [Value.long xx, Value.long xreadX, Value.ref soa, Value.ref sna, Value.ref swa, Value.int xkept, Value.ref ri, Value.ref ro, Value.ref rw, Value.int xasked])), (ro, Sum.inr (0, [Value.int (nI os.length), Value.ref roa])), (roa, Sum.inl (cI, rok, Sum.inl rof)), (ri, Sum.inr (0, [Value.int 0, Value.ref ria])), (ria, Sum.inl (cI, rik, Sum.inl rif))] H := ⟨hP, hD⟩
        have hP := hPD.1
        have hD := hPD.2
        refine lv_iconst (v := 0) hx hb d_RC_take_59 (by decide) ?_
        refine lv_istore_n (lv' := [(3, Value.int 0), (2, Value.int (nI ll)), (0, Value.ref rc), (1, Value.int nn)]) hx hb d_RC_take_60 rfl hl (by decide) rfl (fun ls hl => ?_)
        have J_61 : ∀ (n9_61 : Nat) (j : Nat) (b9 : List Nat) (ria9 : Nat) (rik9 : Nat) (rif9 : Nat → Int32) (d9 : Nat) (hn9_61 : ll - j = n9_61) (hj : j ≤ ll) (hb9 : b9 = os.take j) (hr9 : rOk (nI b9.length) rik9) (hg9 : gIs rif9 b9) (hd9 : d9 + rPh rik9 ≤ rPh rik) (H : Heap) (locs : List Loc) (ls : Array Slot), va_P (dC, dI) vwCl [(rc, Sum.inr (6, [Value.ref co, Value.ref ma, Value.int (nI k), Value.int fit, Value.int fen, Value.int frd, Value.int fbd, Value.int fir])), (co, Sum.inr (4, [Value.long xx, Value.long xreadX, Value.ref soa, Value.ref sna, Value.ref swa, Value.int xkept, Value.ref ri, Value.ref ro, Value.ref rw, Value.int xasked])), (ro, Sum.inr (0, [Value.int (nI os.length), Value.ref roa])), (roa, Sum.inl (cI, rok, Sum.inl rof)), (ri, Sum.inr (0, [Value.int (nI b9.length), Value.ref ria9])), (ria9, Sum.inl (cI, rik9, Sum.inl rif9))] H → va_D A [(rc, Sum.inr (6, [Value.ref co, Value.ref ma, Value.int (nI k), Value.int fit, Value.int fen, Value.int frd, Value.int fbd, Value.int fir])), (co, Sum.inr (4, [Value.long xx, Value.long xreadX, Value.ref soa, Value.ref sna, Value.ref swa, Value.int xkept, Value.ref ri, Value.ref ro, Value.ref rw, Value.int xasked])), (ro, Sum.inr (0, [Value.int (nI os.length), Value.ref roa])), (roa, Sum.inl (cI, rok, Sum.inl rof)), (ri, Sum.inr (0, [Value.int (nI b9.length), Value.ref ria9])), (ria9, Sum.inl (cI, rik9, Sum.inl rif9))] → va_S A s.heap H locs → lv_has ls 4 [(3, Value.int (nI j)), (2, Value.int (nI ll)), (0, Value.ref rc), (1, Value.int nn)] → W p l e R s m args below meth c H locs d9 d9 Q (F0 m 61 ls []) := by
          intro n9_61
          induction n9_61 using Nat.strongRecOn with
          | ind n9_61 ih9_61 =>
            intro j b9 ria9 rik9 rif9 d9 hn9_61 hj hb9 hr9 hg9 hd9 H locs ls hP hD hS hl
            have hbl : b9.length = j := by rw [hb9, List.length_take]; omega
            refine lv_iload_n hx hb d_RC_take_61 rfl (lv_at hl 0 rfl) ?_
            refine lv_iload_n hx hb d_RC_take_62 rfl (lv_at hl 1 rfl) ?_
            refine lv_icmp_ge (tgt := 93) hx hb d_RC_take_63 (by decide) (fun c_7 => ?_) (fun c_7 => ?_)
            · have hj3 : ll = j := by have := nI_ge' (by omega) (by omega) c_7; omega
              subst hj3
              have hPD : my_PD (dC, dI) vwCl A [(rc, Sum.inr (6, [Value.ref co, Value.ref ma, Value.int (nI k), Value.int fit, Value.int fen, Value.int frd, Value.int fbd, Value.int fir])), (co, Sum.inr (4, [Value.long xx, Value.long xreadX, Value.ref soa, Value.ref sna, Value.ref swa, Value.int xkept, Value.ref ri, Value.ref ro, Value.ref rw, Value.int xasked])), (ro, Sum.inr (0, [Value.int (nI os.length), Value.ref roa])), (roa, Sum.inl (cI, rok, Sum.inl rof)), (ri, Sum.inr (0, [Value.int (nI b9.length), Value.ref ria9])), (ria9, Sum.inl (cI, rik9, Sum.inl rif9))] H := ⟨hP, hD⟩
              have hP := hPD.1
              have hD := hPD.2
              have z9 : b9 = os.take ll := hb9
              subst z9
              refine lv_aload_n hx hb d_RC_take_93 rfl (lv_at hl 2 rfl) ?_
              refine lv_iconst (v := 0) hx hb d_RC_take_94 (by decide) ?_
              refine va_put (D := (dC, dI)) (ci := 6) (v := .int 0) (ty := .boolean) (C := "RangeCoders") (T := T_RC) (N := 8) hx hb hg in_RC t_RC o_RC n_RC hown hK hP hD hS 0 rfl rfl 5 (by decide) (hg _ k263) (fun _ h9 => h9) rfl (o_RC 5 (by decide)) rfl rfl (Nat.le_of_ble_eq_true rfl) d_RC_take_95 (fun H locs hP hD hS => ?_)
              have hPD : my_PD (dC, dI) vwCl A [(rc, Sum.inr (6, [Value.ref co, Value.ref ma, Value.int (nI k), Value.int fit, Value.int fen, Value.int 0, Value.int fbd, Value.int fir])), (co, Sum.inr (4, [Value.long xx, Value.long xreadX, Value.ref soa, Value.ref sna, Value.ref swa, Value.int xkept, Value.ref ri, Value.ref ro, Value.ref rw, Value.int xasked])), (ro, Sum.inr (0, [Value.int (nI os.length), Value.ref roa])), (roa, Sum.inl (cI, rok, Sum.inl rof)), (ri, Sum.inr (0, [Value.int (nI (os.take ll).length), Value.ref ria9])), (ria9, Sum.inl (cI, rik9, Sum.inl rif9))] H := ⟨hP, hD⟩
              have hP := hPD.1
              have hD := hPD.2
              refine lv_aload_n hx hb d_RC_take_98 rfl (lv_at hl 2 rfl) ?_
              refine lv_iconst (v := 0) hx hb d_RC_take_99 (by decide) ?_
              refine va_put (D := (dC, dI)) (ci := 6) (v := .int 0) (ty := .boolean) (C := "RangeCoders") (T := T_RC) (N := 8) hx hb hg in_RC t_RC o_RC n_RC hown hK hP hD hS 0 rfl rfl 6 (by decide) (hg _ k264) (fun _ h9 => h9) rfl (o_RC 6 (by decide)) rfl rfl (Nat.le_of_ble_eq_true rfl) d_RC_take_100 (fun H locs hP hD hS => ?_)
              have hPD : my_PD (dC, dI) vwCl A [(rc, Sum.inr (6, [Value.ref co, Value.ref ma, Value.int (nI k), Value.int fit, Value.int fen, Value.int 0, Value.int 0, Value.int fir])), (co, Sum.inr (4, [Value.long xx, Value.long xreadX, Value.ref soa, Value.ref sna, Value.ref swa, Value.int xkept, Value.ref ri, Value.ref ro, Value.ref rw, Value.int xasked])), (ro, Sum.inr (0, [Value.int (nI os.length), Value.ref roa])), (roa, Sum.inl (cI, rok, Sum.inl rof)), (ri, Sum.inr (0, [Value.int (nI (os.take ll).length), Value.ref ria9])), (ria9, Sum.inl (cI, rik9, Sum.inl rif9))] H := ⟨hP, hD⟩
              have hP := hPD.1
              have hD := hPD.2
              refine lv_aload_n hx hb d_RC_take_103 rfl (lv_at hl 2 rfl) ?_
              refine lv_iconst (v := 0) hx hb d_RC_take_104 (by decide) ?_
              refine va_put (D := (dC, dI)) (ci := 6) (v := .int 0) (ty := .int) (C := "RangeCoders") (T := T_RC) (N := 8) hx hb hg in_RC t_RC o_RC n_RC hown hK hP hD hS 0 rfl rfl 7 (by decide) (hg _ k265) (fun _ h9 => h9) rfl (o_RC 7 (by decide)) rfl rfl (Nat.le_of_ble_eq_true rfl) d_RC_take_105 (fun H locs hP hD hS => ?_)
              have hPD : my_PD (dC, dI) vwCl A [(rc, Sum.inr (6, [Value.ref co, Value.ref ma, Value.int (nI k), Value.int fit, Value.int fen, Value.int 0, Value.int 0, Value.int 0])), (co, Sum.inr (4, [Value.long xx, Value.long xreadX, Value.ref soa, Value.ref sna, Value.ref swa, Value.int xkept, Value.ref ri, Value.ref ro, Value.ref rw, Value.int xasked])), (ro, Sum.inr (0, [Value.int (nI os.length), Value.ref roa])), (roa, Sum.inl (cI, rok, Sum.inl rof)), (ri, Sum.inr (0, [Value.int (nI (os.take ll).length), Value.ref ria9])), (ria9, Sum.inl (cI, rik9, Sum.inl rif9))] H := ⟨hP, hD⟩
              have hP := hPD.1
              have hD := hPD.2
              refine lv_aload_n hx hb d_RC_take_108 rfl (lv_at hl 2 rfl) ?_
              refine va_get (D := (dC, dI)) (ci := 6) (v := .ref co) (C := "RangeCoders") (T := T_RC) (N := 8) hx hb hg in_RC hown hK hP 0 rfl rfl 0 (by decide) (hg _ k258) (fun _ h9 => h9) rfl d_RC_take_109 ?_
              refine va_get (D := (dC, dI)) (ci := 4) (v := .ref ri) (C := "RangeCoders$Stack") (T := T_Stack) (N := 10) hx hb hg in_Stack hown hK hP 1 rfl rfl 6 (by decide) (hg _ k102) (fun _ h9 => h9) rfl d_RC_take_112 ?_
              refine va_get (D := (dC, dI)) (ci := 0) (v := .int (nI (os.take ll).length)) (C := "RangeCoders$Row") (T := T_Row) (N := 2) hx hb hg in_Row hown hK hP 4 rfl rfl 0 (by decide) (hg _ k58) (fun _ h9 => h9) rfl d_RC_take_115 ?_
              exact my_iretg (v := nI (os.take ll).length) hx hb hr (rfl) hlocks hQ hK hS (ria9, rik9, rif9) (show d9 + (rPh rik9) ≤ (rPh rik) by omega) (show d9 + (rPh rik9) ≤ (rPh rik) by omega) (⟨rfl, hr9, hg9⟩) (hP.sub [0, 1, 2, 3, 4, 5] rfl) (hD.sub [0, 1, 2, 3, 4, 5] (by decide +kernel) rfl) d_RC_take_118
            · have hj2 : j < ll := nI_lt' (by omega) c_7
              refine lv_aload_n hx hb d_RC_take_66 rfl (lv_at hl 2 rfl) ?_
              refine va_get (D := (dC, dI)) (ci := 6) (v := .ref co) (C := "RangeCoders") (T := T_RC) (N := 8) hx hb hg in_RC hown hK hP 0 rfl rfl 0 (by decide) (hg _ k258) (fun _ h9 => h9) rfl d_RC_take_67 ?_
              refine va_get (D := (dC, dI)) (ci := 4) (v := .ref ri) (C := "RangeCoders$Stack") (T := T_Stack) (N := 10) hx hb hg in_Stack hown hK hP 1 rfl rfl 6 (by decide) (hg _ k102) (fun _ h9 => h9) rfl d_RC_take_70 ?_
              refine lv_aload_n hx hb d_RC_take_73 rfl (lv_at hl 2 rfl) ?_
              refine va_get (D := (dC, dI)) (ci := 6) (v := .ref co) (C := "RangeCoders") (T := T_RC) (N := 8) hx hb hg in_RC hown hK hP 0 rfl rfl 0 (by decide) (hg _ k258) (fun _ h9 => h9) rfl d_RC_take_74 ?_
              refine va_get (D := (dC, dI)) (ci := 4) (v := .ref ro) (C := "RangeCoders$Stack") (T := T_Stack) (N := 10) hx hb hg in_Stack hown hK hP 1 rfl rfl 7 (by decide) (hg _ k108) (fun _ h9 => h9) rfl d_RC_take_77 ?_
              refine lv_iload_n hx hb d_RC_take_80 rfl (lv_at hl 0 rfl) ?_
              refine my_ci (wr := [(rc, Sum.inr (6, [Value.ref co, Value.ref ma, Value.int (nI k), Value.int fit, Value.int fen, Value.int frd, Value.int fbd, Value.int fir])), (co, Sum.inr (4, [Value.long xx, Value.long xreadX, Value.ref soa, Value.ref sna, Value.ref swa, Value.int xkept, Value.ref ri, Value.ref ro, Value.ref rw, Value.int xasked])), (ri, Sum.inr (0, [Value.int (nI b9.length), Value.ref ria9])), (ria9, Sum.inl (cI, rik9, Sum.inl rif9))]) (va_runV (As := [Value.int (nI j)]) (rest := [Value.ref ri]) ⟨hx, hb, hml, hown, hts⟩ (f_Row_at l dC dI cI cM cO H.size ro roa rok rof os (nI j) (hro) (hGro) (hLro)) (cwV 1 hts (my_gV k703 k659 k660 k6 k661) rfl rfl rfl cu_Row_at_1 ⟨by rw [hR]; exact Nat.le_of_ble_eq_true rfl, by rw [hR]; exact Nat.le_of_ble_eq_true rfl⟩) (my_preV hK hN (hP.sub [2, 3] rfl) (hD.sub [2, 3] (by decide +kernel) rfl) 0 rfl rfl) rfl rfl hl.1 rfl (lv_room (Nat.le_of_ble_eq_true rfl)) d_RC_take_81 ⟨by rw [hR]; exact (show d9 + 0 ≤ (rPh rik) by omega), by rw [hR]; exact (show d9 + 0 ≤ (rPh rik) by omega)⟩) hP hD hS hA [2, 3] [0, 1, 4, 5] rfl rfl (by decide +kernel) (by decide +kernel) (fun r_81 u9 H locs hw_81 hP hD hS => ?_)
              have hr_81 : r_81 = rAt os (nI j) := hw_81
              have hPD : my_PD (dC, dI) vwCl A [(rc, Sum.inr (6, [Value.ref co, Value.ref ma, Value.int (nI k), Value.int fit, Value.int fen, Value.int frd, Value.int fbd, Value.int fir])), (co, Sum.inr (4, [Value.long xx, Value.long xreadX, Value.ref soa, Value.ref sna, Value.ref swa, Value.int xkept, Value.ref ri, Value.ref ro, Value.ref rw, Value.int xasked])), (ri, Sum.inr (0, [Value.int (nI b9.length), Value.ref ria9])), (ria9, Sum.inl (cI, rik9, Sum.inl rif9)), (ro, Sum.inr (0, [Value.int (nI os.length), Value.ref roa])), (roa, Sum.inl (cI, rok, Sum.inl rof))] H := ⟨hP, hD⟩
              have hP := hPD.1
              have hD := hPD.2
              have z9 : r_81 = nI (os.getD j 0) := by rw [hr_81]; exact rAt_nI (by omega) (by omega)
              subst z9
              refine my_cvg (wr := [(rc, Sum.inr (6, [Value.ref co, Value.ref ma, Value.int (nI k), Value.int fit, Value.int fen, Value.int frd, Value.int fbd, Value.int fir])), (co, Sum.inr (4, [Value.long xx, Value.long xreadX, Value.ref soa, Value.ref sna, Value.ref swa, Value.int xkept, Value.ref ri, Value.ref ro, Value.ref rw, Value.int xasked])), (ro, Sum.inr (0, [Value.int (nI os.length), Value.ref roa])), (roa, Sum.inl (cI, rok, Sum.inl rof))]) (va_runV (As := [Value.int (nI (os.getD j 0))]) (rest := []) ⟨hx, hb, hml, hown, hts⟩ (f_Row_add l dC dI cI cM cO H.size (hSl H) ri ria9 rik9 rif9 b9 (os.getD j 0) (hr9) (hg9) (by omega)) (cwV 1 hts (my_gV k708 k473 k474 k6 k475) rfl rfl rfl cu_Row_add_1 ⟨by rw [hR]; exact Nat.le_of_ble_eq_true rfl, by rw [hR]; exact Nat.le_of_ble_eq_true rfl⟩) (my_preVg hK hN (hP.sub [2, 3] rfl) (hD.sub [2, 3] (by decide +kernel) rfl) 0 rfl rfl) rfl rfl hl.1 rfl (lv_room (Nat.le_of_ble_eq_true rfl)) d_RC_take_84 ⟨by rw [hR]; exact (show d9 + (rPh rik9) ≤ (rPh rik) by omega), by rw [hR]; exact (show d9 + (rPh rik9) ≤ (rPh rik) by omega)⟩) hP hD hS hA [2, 3] [0, 1, 4, 5] rfl rfl (by decide +kernel) (by decide +kernel) (fun u9 d_84 H locs hd_84 hw_84 hP hD hS => ?_)
              obtain ⟨rraq_84, rrkq_84, rrfq_84⟩ := u9
              obtain ⟨hrr_84, hGrr_84⟩ : rOk (nI (b9 ++ [(os.getD j 0)]).length) rrkq_84 ∧ gIs rrfq_84 (b9 ++ [(os.getD j 0)]) := hw_84
              have hd_84 : d_84 + (rPh rrkq_84) ≤ (rPh rik9) := hd_84
              have hPD : my_PD (dC, dI) vwCl A [(rc, Sum.inr (6, [Value.ref co, Value.ref ma, Value.int (nI k), Value.int fit, Value.int fen, Value.int frd, Value.int fbd, Value.int fir])), (co, Sum.inr (4, [Value.long xx, Value.long xreadX, Value.ref soa, Value.ref sna, Value.ref swa, Value.int xkept, Value.ref ri, Value.ref ro, Value.ref rw, Value.int xasked])), (ro, Sum.inr (0, [Value.int (nI os.length), Value.ref roa])), (roa, Sum.inl (cI, rok, Sum.inl rof)), (ri, Sum.inr (0, [Value.int (nI (b9 ++ [(os.getD j 0)]).length), Value.ref rraq_84])), (rraq_84, Sum.inl (cI, rrkq_84, Sum.inl rrfq_84))] H := ⟨hP, hD⟩
              have hP := hPD.1
              have hD := hPD.2
              obtain ⟨v_8, ev_8⟩ : ∃ y : Int32, y = (nI j) + (1) := ⟨_, rfl⟩
              refine lv_iinc (v := v_8) (lv' := [(3, Value.int v_8), (2, Value.int (nI ll)), (0, Value.ref rc), (1, Value.int nn)]) hx hb d_RC_take_87 hl (k := 0) rfl (by rw [ev_8]; rfl) (by decide) rfl (fun ls hl => ?_)
              have z9 : v_8 = nI (j + 1) := by rw [ev_8]; exact nI_1 _
              subst z9
              refine lv_goto (tgt := 61) hx hb d_RC_take_90 (by decide) ?_
              exact ih9_61 _ (by first | omega | (omega)) (j + 1) (b9 ++ [os.getD j 0]) rraq_84 rrkq_84 rrfq_84 (d9 + d_84) rfl (by omega) (by rw [hb9]; exact tk_st (by omega)) (hrr_84) (hGrr_84) (by omega) H locs ls (hP.sub [0, 1, 2, 3, 4, 5] rfl) (hD.sub [0, 1, 2, 3, 4, 5] (by decide +kernel) rfl) hS (lv_sub hl [0, 1, 2, 3] rfl)
        exact J_61 _ (0 : Nat) ([]) ria rik rif (0 : Nat) rfl (Nat.zero_le _) (rfl) (hr_56) (fun i h => absurd h (Nat.not_lt_zero i)) (by omega) H locs ls (hP.sub [0, 1, 2, 3, 4, 5] rfl) (hD.sub [0, 1, 2, 3, 4, 5] (by decide +kernel) rfl) hS (lv_sub hl [0, 1, 2, 3] rfl)
      · refine lv_aload_n hx hb d_RC_take_28 rfl (lv_at hl 0 rfl) ?_
        refine va_get (D := (dC, dI)) (ci := 6) (v := .ref co) (C := "RangeCoders") (T := T_RC) (N := 8) hx hb hg in_RC hown hK hP 0 rfl rfl 0 (by decide) (hg _ k258) (fun _ h9 => h9) rfl d_RC_take_29 ?_
        refine va_get (D := (dC, dI)) (ci := 4) (v := .ref ro) (C := "RangeCoders$Stack") (T := T_Stack) (N := 10) hx hb hg in_Stack hown hK hP 1 rfl rfl 7 (by decide) (hg _ k108) (fun _ h9 => h9) rfl d_RC_take_32 ?_
        refine va_get (D := (dC, dI)) (ci := 0) (v := .int (nI os.length)) (C := "RangeCoders$Row") (T := T_Row) (N := 2) hx hb hg in_Row hown hK hP 2 rfl rfl 0 (by decide) (hg _ k58) (fun _ h9 => h9) rfl d_RC_take_35 ?_
        refine lv_goto (tgt := 48) hx hb d_RC_take_38 (by decide) ?_
        refine W.eq (g2 := F0 m 48 ls [Value.int (nI ll)]) (by rw [hl1 c_4]) ?_
        refine lv_istore_n (lv' := [(2, Value.int (nI ll)), (0, Value.ref rc), (1, Value.int nn)]) hx hb d_RC_take_48 rfl hl (by decide) rfl (fun ls hl => ?_)
        refine lv_aload_n hx hb d_RC_take_49 rfl (lv_at hl 1 rfl) ?_
        refine va_get (D := (dC, dI)) (ci := 6) (v := .ref co) (C := "RangeCoders") (T := T_RC) (N := 8) hx hb hg in_RC hown hK hP 0 rfl rfl 0 (by decide) (hg _ k258) (fun _ h9 => h9) rfl d_RC_take_50 ?_
        refine va_get (D := (dC, dI)) (ci := 4) (v := .ref ri) (C := "RangeCoders$Stack") (T := T_Stack) (N := 10) hx hb hg in_Stack hown hK hP 1 rfl rfl 6 (by decide) (hg _ k102) (fun _ h9 => h9) rfl d_RC_take_53 ?_
        refine my_cv (wr := [(rc, Sum.inr (6, [Value.ref co, Value.ref ma, Value.int (nI k), Value.int fit, Value.int fen, Value.int frd, Value.int fbd, Value.int fir])), (co, Sum.inr (4, [Value.long xx, Value.long xreadX, Value.ref soa, Value.ref sna, Value.ref swa, Value.int xkept, Value.ref ri, Value.ref ro, Value.ref rw, Value.int xasked])), (ro, Sum.inr (0, [Value.int (nI os.length), Value.ref roa])), (roa, Sum.inl (cI, rok, Sum.inl rof))]) (va_runV (As := []) (rest := []) ⟨hx, hb, hml, hown, hts⟩ (c_Row_clear l dC dI cI cM cO H.size ri rin ria rik rif (hri)) (cwV 0 hts (my_gV k713 k594 k595 k6 k596) rfl rfl rfl cu_Row_clear_0 ⟨by rw [hR]; exact Nat.le_of_ble_eq_true rfl, by rw [hR]; exact Nat.le_of_ble_eq_true rfl⟩) (my_preV hK hN (hP.sub [4, 5] rfl) (hD.sub [4, 5] (by decide +kernel) rfl) 0 rfl rfl) rfl rfl hl.1 rfl (lv_room (Nat.le_of_ble_eq_true rfl)) d_RC_take_56 ⟨by rw [hR]; exact (show 0 + 0 ≤ (rPh rik) by omega), by rw [hR]; exact (show 0 + 0 ≤ (rPh rik) by omega)⟩) hP hD hS hA [4, 5] [0, 1, 2, 3] rfl rfl (by decide +kernel) (by decide +kernel) (fun u9 H locs hw_56 hP hD hS => ?_)
        have hr_56 : rOk 0 rik := hw_56
        have hPD : my_PD (dC, dI) vwCl A [(rc, Sum.inr (6, [Value.ref co, Value.ref ma, Value.int (nI k), Value.int fit, Value.int fen, Value.int frd, Value.int fbd, Value.int fir])), (co, Sum.inr (4, [Value.long xx, Value.long xreadX, Value.ref soa, Value.ref sna, Value.ref swa, Value.int xkept, Value.ref ri, Value.ref ro, Value.ref rw, Value.int xasked])), (ro, Sum.inr (0, [Value.int (nI os.length), Value.ref roa])), (roa, Sum.inl (cI, rok, Sum.inl rof)), (ri, Sum.inr (0, [Value.int 0, Value.ref ria])), (ria, Sum.inl (cI, rik, Sum.inl rif))] H := ⟨hP, hD⟩
        have hP := hPD.1
        have hD := hPD.2
        refine lv_iconst (v := 0) hx hb d_RC_take_59 (by decide) ?_
        refine lv_istore_n (lv' := [(3, Value.int 0), (2, Value.int (nI ll)), (0, Value.ref rc), (1, Value.int nn)]) hx hb d_RC_take_60 rfl hl (by decide) rfl (fun ls hl => ?_)
        have J_61 : ∀ (n9_61 : Nat) (j : Nat) (b9 : List Nat) (ria9 : Nat) (rik9 : Nat) (rif9 : Nat → Int32) (d9 : Nat) (hn9_61 : ll - j = n9_61) (hj : j ≤ ll) (hb9 : b9 = os.take j) (hr9 : rOk (nI b9.length) rik9) (hg9 : gIs rif9 b9) (hd9 : d9 + rPh rik9 ≤ rPh rik) (H : Heap) (locs : List Loc) (ls : Array Slot), va_P (dC, dI) vwCl [(rc, Sum.inr (6, [Value.ref co, Value.ref ma, Value.int (nI k), Value.int fit, Value.int fen, Value.int frd, Value.int fbd, Value.int fir])), (co, Sum.inr (4, [Value.long xx, Value.long xreadX, Value.ref soa, Value.ref sna, Value.ref swa, Value.int xkept, Value.ref ri, Value.ref ro, Value.ref rw, Value.int xasked])), (ro, Sum.inr (0, [Value.int (nI os.length), Value.ref roa])), (roa, Sum.inl (cI, rok, Sum.inl rof)), (ri, Sum.inr (0, [Value.int (nI b9.length), Value.ref ria9])), (ria9, Sum.inl (cI, rik9, Sum.inl rif9))] H → va_D A [(rc, Sum.inr (6, [Value.ref co, Value.ref ma, Value.int (nI k), Value.int fit, Value.int fen, Value.int frd, Value.int fbd, Value.int fir])), (co, Sum.inr (4, [Value.long xx, Value.long xreadX, Value.ref soa, Value.ref sna, Value.ref swa, Value.int xkept, Value.ref ri, Value.ref ro, Value.ref rw, Value.int xasked])), (ro, Sum.inr (0, [Value.int (nI os.length), Value.ref roa])), (roa, Sum.inl (cI, rok, Sum.inl rof)), (ri, Sum.inr (0, [Value.int (nI b9.length), Value.ref ria9])), (ria9, Sum.inl (cI, rik9, Sum.inl rif9))] → va_S A s.heap H locs → lv_has ls 4 [(3, Value.int (nI j)), (2, Value.int (nI ll)), (0, Value.ref rc), (1, Value.int nn)] → W p l e R s m args below meth c H locs d9 d9 Q (F0 m 61 ls []) := by
          intro n9_61
          induction n9_61 using Nat.strongRecOn with
          | ind n9_61 ih9_61 =>
            intro j b9 ria9 rik9 rif9 d9 hn9_61 hj hb9 hr9 hg9 hd9 H locs ls hP hD hS hl
            have hbl : b9.length = j := by rw [hb9, List.length_take]; omega
            refine lv_iload_n hx hb d_RC_take_61 rfl (lv_at hl 0 rfl) ?_
            refine lv_iload_n hx hb d_RC_take_62 rfl (lv_at hl 1 rfl) ?_
            refine lv_icmp_ge (tgt := 93) hx hb d_RC_take_63 (by decide) (fun c_9 => ?_) (fun c_9 => ?_)
            · have hj3 : ll = j := by have := nI_ge' (by omega) (by omega) c_9; omega
              subst hj3
              have hPD : my_PD (dC, dI) vwCl A [(rc, Sum.inr (6, [Value.ref co, Value.ref ma, Value.int (nI k), Value.int fit, Value.int fen, Value.int frd, Value.int fbd, Value.int fir])), (co, Sum.inr (4, [Value.long xx, Value.long xreadX, Value.ref soa, Value.ref sna, Value.ref swa, Value.int xkept, Value.ref ri, Value.ref ro, Value.ref rw, Value.int xasked])), (ro, Sum.inr (0, [Value.int (nI os.length), Value.ref roa])), (roa, Sum.inl (cI, rok, Sum.inl rof)), (ri, Sum.inr (0, [Value.int (nI b9.length), Value.ref ria9])), (ria9, Sum.inl (cI, rik9, Sum.inl rif9))] H := ⟨hP, hD⟩
              have hP := hPD.1
              have hD := hPD.2
              have z9 : b9 = os.take ll := hb9
              subst z9
              refine lv_aload_n hx hb d_RC_take_93 rfl (lv_at hl 2 rfl) ?_
              refine lv_iconst (v := 0) hx hb d_RC_take_94 (by decide) ?_
              refine va_put (D := (dC, dI)) (ci := 6) (v := .int 0) (ty := .boolean) (C := "RangeCoders") (T := T_RC) (N := 8) hx hb hg in_RC t_RC o_RC n_RC hown hK hP hD hS 0 rfl rfl 5 (by decide) (hg _ k263) (fun _ h9 => h9) rfl (o_RC 5 (by decide)) rfl rfl (Nat.le_of_ble_eq_true rfl) d_RC_take_95 (fun H locs hP hD hS => ?_)
              have hPD : my_PD (dC, dI) vwCl A [(rc, Sum.inr (6, [Value.ref co, Value.ref ma, Value.int (nI k), Value.int fit, Value.int fen, Value.int 0, Value.int fbd, Value.int fir])), (co, Sum.inr (4, [Value.long xx, Value.long xreadX, Value.ref soa, Value.ref sna, Value.ref swa, Value.int xkept, Value.ref ri, Value.ref ro, Value.ref rw, Value.int xasked])), (ro, Sum.inr (0, [Value.int (nI os.length), Value.ref roa])), (roa, Sum.inl (cI, rok, Sum.inl rof)), (ri, Sum.inr (0, [Value.int (nI (os.take ll).length), Value.ref ria9])), (ria9, Sum.inl (cI, rik9, Sum.inl rif9))] H := ⟨hP, hD⟩
              have hP := hPD.1
              have hD := hPD.2
              refine lv_aload_n hx hb d_RC_take_98 rfl (lv_at hl 2 rfl) ?_
              refine lv_iconst (v := 0) hx hb d_RC_take_99 (by decide) ?_
              refine va_put (D := (dC, dI)) (ci := 6) (v := .int 0) (ty := .boolean) (C := "RangeCoders") (T := T_RC) (N := 8) hx hb hg in_RC t_RC o_RC n_RC hown hK hP hD hS 0 rfl rfl 6 (by decide) (hg _ k264) (fun _ h9 => h9) rfl (o_RC 6 (by decide)) rfl rfl (Nat.le_of_ble_eq_true rfl) d_RC_take_100 (fun H locs hP hD hS => ?_)
              have hPD : my_PD (dC, dI) vwCl A [(rc, Sum.inr (6, [Value.ref co, Value.ref ma, Value.int (nI k), Value.int fit, Value.int fen, Value.int 0, Value.int 0, Value.int fir])), (co, Sum.inr (4, [Value.long xx, Value.long xreadX, Value.ref soa, Value.ref sna, Value.ref swa, Value.int xkept, Value.ref ri, Value.ref ro, Value.ref rw, Value.int xasked])), (ro, Sum.inr (0, [Value.int (nI os.length), Value.ref roa])), (roa, Sum.inl (cI, rok, Sum.inl rof)), (ri, Sum.inr (0, [Value.int (nI (os.take ll).length), Value.ref ria9])), (ria9, Sum.inl (cI, rik9, Sum.inl rif9))] H := ⟨hP, hD⟩
              have hP := hPD.1
              have hD := hPD.2
              refine lv_aload_n hx hb d_RC_take_103 rfl (lv_at hl 2 rfl) ?_
              refine lv_iconst (v := 0) hx hb d_RC_take_104 (by decide) ?_
              refine va_put (D := (dC, dI)) (ci := 6) (v := .int 0) (ty := .int) (C := "RangeCoders") (T := T_RC) (N := 8) hx hb hg in_RC t_RC o_RC n_RC hown hK hP hD hS 0 rfl rfl 7 (by decide) (hg _ k265) (fun _ h9 => h9) rfl (o_RC 7 (by decide)) rfl rfl (Nat.le_of_ble_eq_true rfl) d_RC_take_105 (fun H locs hP hD hS => ?_)
              have hPD : my_PD (dC, dI) vwCl A [(rc, Sum.inr (6, [Value.ref co, Value.ref ma, Value.int (nI k), Value.int fit, Value.int fen, Value.int 0, Value.int 0, Value.int 0])), (co, Sum.inr (4, [Value.long xx, Value.long xreadX, Value.ref soa, Value.ref sna, Value.ref swa, Value.int xkept, Value.ref ri, Value.ref ro, Value.ref rw, Value.int xasked])), (ro, Sum.inr (0, [Value.int (nI os.length), Value.ref roa])), (roa, Sum.inl (cI, rok, Sum.inl rof)), (ri, Sum.inr (0, [Value.int (nI (os.take ll).length), Value.ref ria9])), (ria9, Sum.inl (cI, rik9, Sum.inl rif9))] H := ⟨hP, hD⟩
              have hP := hPD.1
              have hD := hPD.2
              refine lv_aload_n hx hb d_RC_take_108 rfl (lv_at hl 2 rfl) ?_
              refine va_get (D := (dC, dI)) (ci := 6) (v := .ref co) (C := "RangeCoders") (T := T_RC) (N := 8) hx hb hg in_RC hown hK hP 0 rfl rfl 0 (by decide) (hg _ k258) (fun _ h9 => h9) rfl d_RC_take_109 ?_
              refine va_get (D := (dC, dI)) (ci := 4) (v := .ref ri) (C := "RangeCoders$Stack") (T := T_Stack) (N := 10) hx hb hg in_Stack hown hK hP 1 rfl rfl 6 (by decide) (hg _ k102) (fun _ h9 => h9) rfl d_RC_take_112 ?_
              refine va_get (D := (dC, dI)) (ci := 0) (v := .int (nI (os.take ll).length)) (C := "RangeCoders$Row") (T := T_Row) (N := 2) hx hb hg in_Row hown hK hP 4 rfl rfl 0 (by decide) (hg _ k58) (fun _ h9 => h9) rfl d_RC_take_115 ?_
              exact my_iretg (v := nI (os.take ll).length) hx hb hr (rfl) hlocks hQ hK hS (ria9, rik9, rif9) (show d9 + (rPh rik9) ≤ (rPh rik) by omega) (show d9 + (rPh rik9) ≤ (rPh rik) by omega) (⟨rfl, hr9, hg9⟩) (hP.sub [0, 1, 2, 3, 4, 5] rfl) (hD.sub [0, 1, 2, 3, 4, 5] (by decide +kernel) rfl) d_RC_take_118
            · have hj2 : j < ll := nI_lt' (by omega) c_9
              refine lv_aload_n hx hb d_RC_take_66 rfl (lv_at hl 2 rfl) ?_
              refine va_get (D := (dC, dI)) (ci := 6) (v := .ref co) (C := "RangeCoders") (T := T_RC) (N := 8) hx hb hg in_RC hown hK hP 0 rfl rfl 0 (by decide) (hg _ k258) (fun _ h9 => h9) rfl d_RC_take_67 ?_
              refine va_get (D := (dC, dI)) (ci := 4) (v := .ref ri) (C := "RangeCoders$Stack") (T := T_Stack) (N := 10) hx hb hg in_Stack hown hK hP 1 rfl rfl 6 (by decide) (hg _ k102) (fun _ h9 => h9) rfl d_RC_take_70 ?_
              refine lv_aload_n hx hb d_RC_take_73 rfl (lv_at hl 2 rfl) ?_
              refine va_get (D := (dC, dI)) (ci := 6) (v := .ref co) (C := "RangeCoders") (T := T_RC) (N := 8) hx hb hg in_RC hown hK hP 0 rfl rfl 0 (by decide) (hg _ k258) (fun _ h9 => h9) rfl d_RC_take_74 ?_
              refine va_get (D := (dC, dI)) (ci := 4) (v := .ref ro) (C := "RangeCoders$Stack") (T := T_Stack) (N := 10) hx hb hg in_Stack hown hK hP 1 rfl rfl 7 (by decide) (hg _ k108) (fun _ h9 => h9) rfl d_RC_take_77 ?_
              refine lv_iload_n hx hb d_RC_take_80 rfl (lv_at hl 0 rfl) ?_
              refine my_ci (wr := [(rc, Sum.inr (6, [Value.ref co, Value.ref ma, Value.int (nI k), Value.int fit, Value.int fen, Value.int frd, Value.int fbd, Value.int fir])), (co, Sum.inr (4, [Value.long xx, Value.long xreadX, Value.ref soa, Value.ref sna, Value.ref swa, Value.int xkept, Value.ref ri, Value.ref ro, Value.ref rw, Value.int xasked])), (ri, Sum.inr (0, [Value.int (nI b9.length), Value.ref ria9])), (ria9, Sum.inl (cI, rik9, Sum.inl rif9))]) (va_runV (As := [Value.int (nI j)]) (rest := [Value.ref ri]) ⟨hx, hb, hml, hown, hts⟩ (f_Row_at l dC dI cI cM cO H.size ro roa rok rof os (nI j) (hro) (hGro) (hLro)) (cwV 1 hts (my_gV k703 k659 k660 k6 k661) rfl rfl rfl cu_Row_at_1 ⟨by rw [hR]; exact Nat.le_of_ble_eq_true rfl, by rw [hR]; exact Nat.le_of_ble_eq_true rfl⟩) (my_preV hK hN (hP.sub [2, 3] rfl) (hD.sub [2, 3] (by decide +kernel) rfl) 0 rfl rfl) rfl rfl hl.1 rfl (lv_room (Nat.le_of_ble_eq_true rfl)) d_RC_take_81 ⟨by rw [hR]; exact (show d9 + 0 ≤ (rPh rik) by omega), by rw [hR]; exact (show d9 + 0 ≤ (rPh rik) by omega)⟩) hP hD hS hA [2, 3] [0, 1, 4, 5] rfl rfl (by decide +kernel) (by decide +kernel) (fun r_81 u9 H locs hw_81 hP hD hS => ?_)
              have hr_81 : r_81 = rAt os (nI j) := hw_81
              have hPD : my_PD (dC, dI) vwCl A [(rc, Sum.inr (6, [Value.ref co, Value.ref ma, Value.int (nI k), Value.int fit, Value.int fen, Value.int frd, Value.int fbd, Value.int fir])), (co, Sum.inr (4, [Value.long xx, Value.long xreadX, Value.ref soa, Value.ref sna, Value.ref swa, Value.int xkept, Value.ref ri, Value.ref ro, Value.ref rw, Value.int xasked])), (ri, Sum.inr (0, [Value.int (nI b9.length), Value.ref ria9])), (ria9, Sum.inl (cI, rik9, Sum.inl rif9)), (ro, Sum.inr (0, [Value.int (nI os.length), Value.ref roa])), (roa, Sum.inl (cI, rok, Sum.inl rof))] H := ⟨hP, hD⟩
              have hP := hPD.1
              have hD := hPD.2
              have z9 : r_81 = nI (os.getD j 0) := by rw [hr_81]; exact rAt_nI (by omega) (by omega)
              subst z9
              refine my_cvg (wr := [(rc, Sum.inr (6, [Value.ref co, Value.ref ma, Value.int (nI k), Value.int fit, Value.int fen, Value.int frd, Value.int fbd, Value.int fir])), (co, Sum.inr (4, [Value.long xx, Value.long xreadX, Value.ref soa, Value.ref sna, Value.ref swa, Value.int xkept, Value.ref ri, Value.ref ro, Value.ref rw, Value.int xasked])), (ro, Sum.inr (0, [Value.int (nI os.length), Value.ref roa])), (roa, Sum.inl (cI, rok, Sum.inl rof))]) (va_runV (As := [Value.int (nI (os.getD j 0))]) (rest := []) ⟨hx, hb, hml, hown, hts⟩ (f_Row_add l dC dI cI cM cO H.size (hSl H) ri ria9 rik9 rif9 b9 (os.getD j 0) (hr9) (hg9) (by omega)) (cwV 1 hts (my_gV k708 k473 k474 k6 k475) rfl rfl rfl cu_Row_add_1 ⟨by rw [hR]; exact Nat.le_of_ble_eq_true rfl, by rw [hR]; exact Nat.le_of_ble_eq_true rfl⟩) (my_preVg hK hN (hP.sub [2, 3] rfl) (hD.sub [2, 3] (by decide +kernel) rfl) 0 rfl rfl) rfl rfl hl.1 rfl (lv_room (Nat.le_of_ble_eq_true rfl)) d_RC_take_84 ⟨by rw [hR]; exact (show d9 + (rPh rik9) ≤ (rPh rik) by omega), by rw [hR]; exact (show d9 + (rPh rik9) ≤ (rPh rik) by omega)⟩) hP hD hS hA [2, 3] [0, 1, 4, 5] rfl rfl (by decide +kernel) (by decide +kernel) (fun u9 d_84 H locs hd_84 hw_84 hP hD hS => ?_)
              obtain ⟨rraq_84, rrkq_84, rrfq_84⟩ := u9
              obtain ⟨hrr_84, hGrr_84⟩ : rOk (nI (b9 ++ [(os.getD j 0)]).length) rrkq_84 ∧ gIs rrfq_84 (b9 ++ [(os.getD j 0)]) := hw_84
              have hd_84 : d_84 + (rPh rrkq_84) ≤ (rPh rik9) := hd_84
              have hPD : my_PD (dC, dI) vwCl A [(rc, Sum.inr (6, [Value.ref co, Value.ref ma, Value.int (nI k), Value.int fit, Value.int fen, Value.int frd, Value.int fbd, Value.int fir])), (co, Sum.inr (4, [Value.long xx, Value.long xreadX, Value.ref soa, Value.ref sna, Value.ref swa, Value.int xkept, Value.ref ri, Value.ref ro, Value.ref rw, Value.int xasked])), (ro, Sum.inr (0, [Value.int (nI os.length), Value.ref roa])), (roa, Sum.inl (cI, rok, Sum.inl rof)), (ri, Sum.inr (0, [Value.int (nI (b9 ++ [(os.getD j 0)]).length), Value.ref rraq_84])), (rraq_84, Sum.inl (cI, rrkq_84, Sum.inl rrfq_84))] H := ⟨hP, hD⟩
              have hP := hPD.1
              have hD := hPD.2
              obtain ⟨v_10, ev_10⟩ : ∃ y : Int32, y = (nI j) + (1) := ⟨_, rfl⟩
              refine lv_iinc (v := v_10) (lv' := [(3, Value.int v_10), (2, Value.int (nI ll)), (0, Value.ref rc), (1, Value.int nn)]) hx hb d_RC_take_87 hl (k := 0) rfl (by rw [ev_10]; rfl) (by decide) rfl (fun ls hl => ?_)
              have z9 : v_10 = nI (j + 1) := by rw [ev_10]; exact nI_1 _
              subst z9
              refine lv_goto (tgt := 61) hx hb d_RC_take_90 (by decide) ?_
              exact ih9_61 _ (by first | omega | (omega)) (j + 1) (b9 ++ [os.getD j 0]) rraq_84 rrkq_84 rrfq_84 (d9 + d_84) rfl (by omega) (by rw [hb9]; exact tk_st (by omega)) (hrr_84) (hGrr_84) (by omega) H locs ls (hP.sub [0, 1, 2, 3, 4, 5] rfl) (hD.sub [0, 1, 2, 3, 4, 5] (by decide +kernel) rfl) hS (lv_sub hl [0, 1, 2, 3] rfl)
        exact J_61 _ (0 : Nat) ([]) ria rik rif (0 : Nat) rfl (Nat.zero_le _) (rfl) (hr_56) (fun i h => absurd h (Nat.not_lt_zero i)) (by omega) H locs ls (hP.sub [0, 1, 2, 3, 4, 5] rfl) (hD.sub [0, 1, 2, 3, 4, 5] (by decide +kernel) rfl) hS (lv_sub hl [0, 1, 2, 3] rfl)
    · exact absurd (by rw [ev_2]; exact hn2) c_3
set_option maxHeartbeats 2000000 in
set_option maxRecDepth 100000 in
theorem f_RC_spoilA_Stack (l : Launch) (dC : Nat → ClassId) (dI : Nat → Nat → Nat) (cI cM cO : ClassId) (sz : Nat) (rc : Nat) (ma : Nat) (k : Nat) (fit : Int32) (fen : Int32) (frd : Int32) (fbd : Int32) (fir : Int32) (mf : Nat → Option Nat) (co : Nat) (xx : Int64) (xreadX : Int64) (soa : Nat) (sna : Nat) (swa : Nat) (xkept : Int32) (ri : Nat) (ro : Nat) (rw : Nat) (xasked : Int32) (ria : Nat) (rik : Nat) (rif : Nat → Int32) (is : List Nat) (ii : Int32) (vv : Int32) (hri : rOk (nI is.length) rik) (hGri : gIs rif is) (hLri : is.length ≤ 6000) (hno : ¬ (0 ≤ ii ∧ ii < nI is.length)) : MetI l y_RC_spoil (Cond.code y_RC_spoil prog_1_method_11_code 3 (some .int) :: gw) ({ frames := 1, cells := 0, slots := 0, locals := 21 } : Room) (dC, dI) vwCl (kT cI cM cO) [Value.ref rc, Value.int ii, Value.int vv] [(rc, Sum.inr (6, [Value.ref co, Value.ref ma, Value.int (nI k), Value.int fit, Value.int fen, Value.int frd, Value.int fbd, Value.int fir])), (co, Sum.inr (4, [Value.long xx, Value.long xreadX, Value.ref soa, Value.ref sna, Value.ref swa, Value.int xkept, Value.ref ri, Value.ref ro, Value.ref rw, Value.int xasked])), (ri, Sum.inr (0, [Value.int (nI is.length), Value.ref ria])), (ria, Sum.inl (cI, rik, Sum.inl rif))] sz (fun (r : Int32) (u : Unit) => r = -1) (fun (u : Unit) => [(rc, Sum.inr (6, [Value.ref co, Value.ref ma, Value.int (nI k), Value.int fit, Value.int fen, Value.int frd, Value.int fbd, Value.int fir])), (co, Sum.inr (4, [Value.long xx, Value.long xreadX, Value.ref soa, Value.ref sna, Value.ref swa, Value.int xkept, Value.ref ri, Value.ref ro, Value.ref rw, Value.int xasked])), (ri, Sum.inr (0, [Value.int (nI is.length), Value.ref ria])), (ria, Sum.inl (cI, rik, Sum.inl rif))]) 0 0 := by
  refine my_ofI (cc := prog_1_method_11_code) (n := 3) (ret := (some .int)) (by decide) rfl (Nat.le_of_ble_eq_true rfl) ?_
  intro p e s m args below meth c R Q A ls H locs hx hb hr hts hown hlocks hml hnm hR hQ hA hl hP hK hN hD hS
  have hg : ∀ w ∈ gw, w.before args s = true := fun w h => hts w (List.mem_cons_of_mem _ h)
  have hown : s.vm.findClass "RangeCoders" = some m.cls := hown
  have hl : lv_has ls 3 [(0, Value.ref rc), (1, Value.int ii), (2, Value.int vv)] := hl
  refine lv_aload_n hx hb d_RC_spoil_0 rfl (lv_at hl 0 rfl) ?_
  refine va_get (D := (dC, dI)) (ci := 6) (v := .ref co) (C := "RangeCoders") (T := T_RC) (N := 8) hx hb hg in_RC hown hK hP 0 rfl rfl 0 (by decide) (hg _ k258) (fun _ h9 => h9) rfl d_RC_spoil_1 ?_
  refine va_get (D := (dC, dI)) (ci := 4) (v := .ref ri) (C := "RangeCoders$Stack") (T := T_Stack) (N := 10) hx hb hg in_Stack hown hK hP 1 rfl rfl 6 (by decide) (hg _ k102) (fun _ h9 => h9) rfl d_RC_spoil_4 ?_
  refine lv_iload_n hx hb d_RC_spoil_7 rfl (lv_at hl 1 rfl) ?_
  refine my_ci (wr := [(rc, Sum.inr (6, [Value.ref co, Value.ref ma, Value.int (nI k), Value.int fit, Value.int fen, Value.int frd, Value.int fbd, Value.int fir])), (co, Sum.inr (4, [Value.long xx, Value.long xreadX, Value.ref soa, Value.ref sna, Value.ref swa, Value.int xkept, Value.ref ri, Value.ref ro, Value.ref rw, Value.int xasked]))]) (va_runV (As := [Value.int ii]) (rest := []) ⟨hx, hb, hml, hown, hts⟩ (f_Row_has l dC dI cI cM cO H.size ri ria rik rif is ii (hri) (hGri) (by omega)) (cwV 1 hts (my_gV k718 k663 k664 k6 k665) rfl rfl rfl cu_Row_has_1 ⟨by rw [hR]; exact Nat.le_of_ble_eq_true rfl, by rw [hR]; exact Nat.le_of_ble_eq_true rfl⟩) (my_preV hK hN (hP.sub [2, 3] rfl) (hD.sub [2, 3] (by decide +kernel) rfl) 0 rfl rfl) rfl rfl hl.1 rfl (lv_room (Nat.le_of_ble_eq_true rfl)) d_RC_spoil_8 ⟨by rw [hR]; exact Nat.le_of_ble_eq_true rfl, by rw [hR]; exact Nat.le_of_ble_eq_true rfl⟩) hP hD hS hA [2, 3] [0, 1] rfl rfl (by decide +kernel) (by decide +kernel) (fun r_8 u9 H locs hw_8 hP hD hS => ?_)
  obtain ⟨hr_8, hv_8⟩ : (r_8 = if 0 ≤ ii ∧ ii < nI is.length then 1 else 0) ∧ (r_8 ≠ 0 → vp_in ii rik) := hw_8
  have hPD : my_PD (dC, dI) vwCl A [(rc, Sum.inr (6, [Value.ref co, Value.ref ma, Value.int (nI k), Value.int fit, Value.int fen, Value.int frd, Value.int fbd, Value.int fir])), (co, Sum.inr (4, [Value.long xx, Value.long xreadX, Value.ref soa, Value.ref sna, Value.ref swa, Value.int xkept, Value.ref ri, Value.ref ro, Value.ref rw, Value.int xasked])), (ri, Sum.inr (0, [Value.int (nI is.length), Value.ref ria])), (ria, Sum.inl (cI, rik, Sum.inl rif))] H := ⟨hP, hD⟩
  have hP := hPD.1
  have hD := hPD.2
  refine lv_if_ne (tgt := 16) hx hb d_RC_spoil_11 (by decide) (fun c_1 => ?_) (fun c_1 => ?_)
  · exact absurd (one_ne hr_8 c_1) hno
  · refine lv_iconst (v := (-1)) hx hb d_RC_spoil_14 (by decide) ?_
    exact my_iret (v := (-1)) hx hb hr (rfl) hlocks hQ hK hS (Nat.le_refl _) (Nat.le_refl _) () (rfl) (hP.sub [0, 1, 2, 3] rfl) (hD.sub [0, 1, 2, 3] (by decide +kernel) rfl) d_RC_spoil_15
set_option maxHeartbeats 2000000 in
set_option maxRecDepth 100000 in
theorem f_RC_spoilV_Stack (l : Launch) (dC : Nat → ClassId) (dI : Nat → Nat → Nat) (cI cM cO : ClassId) (sz : Nat) (rc : Nat) (ma : Nat) (k : Nat) (fit : Int32) (fen : Int32) (frd : Int32) (fbd : Int32) (fir : Int32) (mf : Nat → Option Nat) (co : Nat) (xx : Int64) (xreadX : Int64) (soa : Nat) (sna : Nat) (swa : Nat) (xkept : Int32) (ri : Nat) (ro : Nat) (rw : Nat) (xasked : Int32) (ria : Nat) (rik : Nat) (rif : Nat → Int32) (is : List Nat) (i7 : Nat) (vv : Int32) (hri : rOk (nI is.length) rik) (hGri : gIs rif is) (hLri : is.length ≤ 6000) (hi7 : i7 < is.length) (hno : vv < 0 ∨ 255 < vv) : MetI l y_RC_spoil (Cond.code y_RC_spoil prog_1_method_11_code 3 (some .int) :: gw) ({ frames := 1, cells := 0, slots := 0, locals := 21 } : Room) (dC, dI) vwCl (kT cI cM cO) [Value.ref rc, Value.int (nI i7), Value.int vv] [(rc, Sum.inr (6, [Value.ref co, Value.ref ma, Value.int (nI k), Value.int fit, Value.int fen, Value.int frd, Value.int fbd, Value.int fir])), (co, Sum.inr (4, [Value.long xx, Value.long xreadX, Value.ref soa, Value.ref sna, Value.ref swa, Value.int xkept, Value.ref ri, Value.ref ro, Value.ref rw, Value.int xasked])), (ri, Sum.inr (0, [Value.int (nI is.length), Value.ref ria])), (ria, Sum.inl (cI, rik, Sum.inl rif))] sz (fun (r : Int32) (u : Unit) => r = -2) (fun (u : Unit) => [(rc, Sum.inr (6, [Value.ref co, Value.ref ma, Value.int (nI k), Value.int fit, Value.int fen, Value.int frd, Value.int fbd, Value.int fir])), (co, Sum.inr (4, [Value.long xx, Value.long xreadX, Value.ref soa, Value.ref sna, Value.ref swa, Value.int xkept, Value.ref ri, Value.ref ro, Value.ref rw, Value.int xasked])), (ri, Sum.inr (0, [Value.int (nI is.length), Value.ref ria])), (ria, Sum.inl (cI, rik, Sum.inl rif))]) 0 0 := by
  refine my_ofI (cc := prog_1_method_11_code) (n := 3) (ret := (some .int)) (by decide) rfl (Nat.le_of_ble_eq_true rfl) ?_
  intro p e s m args below meth c R Q A ls H locs hx hb hr hts hown hlocks hml hnm hR hQ hA hl hP hK hN hD hS
  have hg : ∀ w ∈ gw, w.before args s = true := fun w h => hts w (List.mem_cons_of_mem _ h)
  have hown : s.vm.findClass "RangeCoders" = some m.cls := hown
  have hl : lv_has ls 3 [(0, Value.ref rc), (1, Value.int (nI i7)), (2, Value.int vv)] := hl
  refine lv_aload_n hx hb d_RC_spoil_0 rfl (lv_at hl 0 rfl) ?_
  refine va_get (D := (dC, dI)) (ci := 6) (v := .ref co) (C := "RangeCoders") (T := T_RC) (N := 8) hx hb hg in_RC hown hK hP 0 rfl rfl 0 (by decide) (hg _ k258) (fun _ h9 => h9) rfl d_RC_spoil_1 ?_
  refine va_get (D := (dC, dI)) (ci := 4) (v := .ref ri) (C := "RangeCoders$Stack") (T := T_Stack) (N := 10) hx hb hg in_Stack hown hK hP 1 rfl rfl 6 (by decide) (hg _ k102) (fun _ h9 => h9) rfl d_RC_spoil_4 ?_
  refine lv_iload_n hx hb d_RC_spoil_7 rfl (lv_at hl 1 rfl) ?_
  refine my_ci (wr := [(rc, Sum.inr (6, [Value.ref co, Value.ref ma, Value.int (nI k), Value.int fit, Value.int fen, Value.int frd, Value.int fbd, Value.int fir])), (co, Sum.inr (4, [Value.long xx, Value.long xreadX, Value.ref soa, Value.ref sna, Value.ref swa, Value.int xkept, Value.ref ri, Value.ref ro, Value.ref rw, Value.int xasked]))]) (va_runV (As := [Value.int (nI i7)]) (rest := []) ⟨hx, hb, hml, hown, hts⟩ (f_Row_has l dC dI cI cM cO H.size ri ria rik rif is (nI i7) (hri) (hGri) (by omega)) (cwV 1 hts (my_gV k718 k663 k664 k6 k665) rfl rfl rfl cu_Row_has_1 ⟨by rw [hR]; exact Nat.le_of_ble_eq_true rfl, by rw [hR]; exact Nat.le_of_ble_eq_true rfl⟩) (my_preV hK hN (hP.sub [2, 3] rfl) (hD.sub [2, 3] (by decide +kernel) rfl) 0 rfl rfl) rfl rfl hl.1 rfl (lv_room (Nat.le_of_ble_eq_true rfl)) d_RC_spoil_8 ⟨by rw [hR]; exact Nat.le_of_ble_eq_true rfl, by rw [hR]; exact Nat.le_of_ble_eq_true rfl⟩) hP hD hS hA [2, 3] [0, 1] rfl rfl (by decide +kernel) (by decide +kernel) (fun r_8 u9 H locs hw_8 hP hD hS => ?_)
  obtain ⟨hr_8, hv_8⟩ : (r_8 = if 0 ≤ (nI i7) ∧ (nI i7) < nI is.length then 1 else 0) ∧ (r_8 ≠ 0 → vp_in (nI i7) rik) := hw_8
  have hPD : my_PD (dC, dI) vwCl A [(rc, Sum.inr (6, [Value.ref co, Value.ref ma, Value.int (nI k), Value.int fit, Value.int fen, Value.int frd, Value.int fbd, Value.int fir])), (co, Sum.inr (4, [Value.long xx, Value.long xreadX, Value.ref soa, Value.ref sna, Value.ref swa, Value.int xkept, Value.ref ri, Value.ref ro, Value.ref rw, Value.int xasked])), (ri, Sum.inr (0, [Value.int (nI is.length), Value.ref ria])), (ria, Sum.inl (cI, rik, Sum.inl rif))] H := ⟨hP, hD⟩
  have hP := hPD.1
  have hD := hPD.2
  refine lv_if_ne (tgt := 16) hx hb d_RC_spoil_11 (by decide) (fun c_1 => ?_) (fun c_1 => ?_)
  · refine lv_iload_n hx hb d_RC_spoil_16 rfl (lv_at hl 2 rfl) ?_
    refine lv_if_lt (tgt := 27) hx hb d_RC_spoil_17 (by decide) (fun c_2 => ?_) (fun c_2 => ?_)
    · refine lv_bipush (v := (-2)) hx hb d_RC_spoil_27 (by decide) ?_
      exact my_iret (v := (-2)) hx hb hr (rfl) hlocks hQ hK hS (Nat.le_refl _) (Nat.le_refl _) () (rfl) (hP.sub [0, 1, 2, 3] rfl) (hD.sub [0, 1, 2, 3] (by decide +kernel) rfl) d_RC_spoil_29
    · refine lv_iload_n hx hb d_RC_spoil_20 rfl (lv_at hl 2 rfl) ?_
      refine lv_sipush (v := 255) hx hb d_RC_spoil_21 (by decide) ?_
      refine lv_icmp_le (tgt := 30) hx hb d_RC_spoil_24 (by decide) (fun c_3 => ?_) (fun c_3 => ?_)
      · exact absurd hno (fun h9 => h9.elim c_2 (fun q9 => absurd c_3 (Int32.not_le.mpr q9)))
      · refine lv_bipush (v := (-2)) hx hb d_RC_spoil_27 (by decide) ?_
        exact my_iret (v := (-2)) hx hb hr (rfl) hlocks hQ hK hS (Nat.le_refl _) (Nat.le_refl _) () (rfl) (hP.sub [0, 1, 2, 3] rfl) (hD.sub [0, 1, 2, 3] (by decide +kernel) rfl) d_RC_spoil_29
  · exact absurd (has_in hi7 (by omega)) (one_eq hr_8 c_1)
set_option maxHeartbeats 2000000 in
set_option maxRecDepth 100000 in
theorem f_RC_spoilL_Stack (l : Launch) (dC : Nat → ClassId) (dI : Nat → Nat → Nat) (cI cM cO : ClassId) (sz : Nat) (rc : Nat) (ma : Nat) (k : Nat) (fit : Int32) (fen : Int32) (frd : Int32) (fbd : Int32) (fir : Int32) (mf : Nat → Option Nat) (co : Nat) (xx : Int64) (xreadX : Int64) (soa : Nat) (sna : Nat) (swa : Nat) (xkept : Int32) (ri : Nat) (ro : Nat) (rw : Nat) (xasked : Int32) (ria : Nat) (rik : Nat) (rif : Nat → Int32) (is : List Nat) (i7 : Nat) (t7 : Nat) (hri : rOk (nI is.length) rik) (hGri : gIs rif is) (hLri : is.length ≤ 6000) (hi7 : i7 < is.length) (ht7 : t7 ≤ 255) : MetI l y_RC_spoil (Cond.code y_RC_spoil prog_1_method_11_code 3 (some .int) :: gw) ({ frames := 2, cells := 0, slots := 0, locals := 43 } : Room) (dC, dI) vwCl (kT cI cM cO) [Value.ref rc, Value.int (nI i7), Value.int (nI t7)] [(rc, Sum.inr (6, [Value.ref co, Value.ref ma, Value.int (nI k), Value.int fit, Value.int fen, Value.int frd, Value.int fbd, Value.int fir])), (co, Sum.inr (4, [Value.long xx, Value.long xreadX, Value.ref soa, Value.ref sna, Value.ref swa, Value.int xkept, Value.ref ri, Value.ref ro, Value.ref rw, Value.int xasked])), (ri, Sum.inr (0, [Value.int (nI is.length), Value.ref ria])), (ria, Sum.inl (cI, rik, Sum.inl rif))] sz (fun (r : Int32) (u : (Nat → Int32)) => r = nI (is.getD i7 0 ^^^ t7) ∧ gIs u (is.set i7 (is.getD i7 0 ^^^ t7))) (fun (u : (Nat → Int32)) => [(rc, Sum.inr (6, [Value.ref co, Value.ref ma, Value.int (nI k), Value.int fit, Value.int fen, Value.int frd, Value.int fbd, Value.int fir])), (co, Sum.inr (4, [Value.long xx, Value.long xreadX, Value.ref soa, Value.ref sna, Value.ref swa, Value.int xkept, Value.ref ri, Value.ref ro, Value.ref rw, Value.int xasked])), (ri, Sum.inr (0, [Value.int (nI is.length), Value.ref ria])), (ria, Sum.inl (cI, rik, Sum.inl u))]) 0 0 := by
  refine my_ofI (cc := prog_1_method_11_code) (n := 3) (ret := (some .int)) (by decide) rfl (Nat.le_of_ble_eq_true rfl) ?_
  intro p e s m args below meth c R Q A ls H locs hx hb hr hts hown hlocks hml hnm hR hQ hA hl hP hK hN hD hS
  have hg : ∀ w ∈ gw, w.before args s = true := fun w h => hts w (List.mem_cons_of_mem _ h)
  have hown : s.vm.findClass "RangeCoders" = some m.cls := hown
  have hl : lv_has ls 3 [(0, Value.ref rc), (1, Value.int (nI i7)), (2, Value.int (nI t7))] := hl
  refine lv_aload_n hx hb d_RC_spoil_0 rfl (lv_at hl 0 rfl) ?_
  refine va_get (D := (dC, dI)) (ci := 6) (v := .ref co) (C := "RangeCoders") (T := T_RC) (N := 8) hx hb hg in_RC hown hK hP 0 rfl rfl 0 (by decide) (hg _ k258) (fun _ h9 => h9) rfl d_RC_spoil_1 ?_
  refine va_get (D := (dC, dI)) (ci := 4) (v := .ref ri) (C := "RangeCoders$Stack") (T := T_Stack) (N := 10) hx hb hg in_Stack hown hK hP 1 rfl rfl 6 (by decide) (hg _ k102) (fun _ h9 => h9) rfl d_RC_spoil_4 ?_
  refine lv_iload_n hx hb d_RC_spoil_7 rfl (lv_at hl 1 rfl) ?_
  refine my_ci (wr := [(rc, Sum.inr (6, [Value.ref co, Value.ref ma, Value.int (nI k), Value.int fit, Value.int fen, Value.int frd, Value.int fbd, Value.int fir])), (co, Sum.inr (4, [Value.long xx, Value.long xreadX, Value.ref soa, Value.ref sna, Value.ref swa, Value.int xkept, Value.ref ri, Value.ref ro, Value.ref rw, Value.int xasked]))]) (va_runV (As := [Value.int (nI i7)]) (rest := []) ⟨hx, hb, hml, hown, hts⟩ (f_Row_has l dC dI cI cM cO H.size ri ria rik rif is (nI i7) (hri) (hGri) (by omega)) (cwV 1 hts (my_gV k718 k663 k664 k6 k665) rfl rfl rfl cu_Row_has_1 ⟨by rw [hR]; exact Nat.le_of_ble_eq_true rfl, by rw [hR]; exact Nat.le_of_ble_eq_true rfl⟩) (my_preV hK hN (hP.sub [2, 3] rfl) (hD.sub [2, 3] (by decide +kernel) rfl) 0 rfl rfl) rfl rfl hl.1 rfl (lv_room (Nat.le_of_ble_eq_true rfl)) d_RC_spoil_8 ⟨by rw [hR]; exact Nat.le_of_ble_eq_true rfl, by rw [hR]; exact Nat.le_of_ble_eq_true rfl⟩) hP hD hS hA [2, 3] [0, 1] rfl rfl (by decide +kernel) (by decide +kernel) (fun r_8 u9 H locs hw_8 hP hD hS => ?_)
  obtain ⟨hr_8, hv_8⟩ : (r_8 = if 0 ≤ (nI i7) ∧ (nI i7) < nI is.length then 1 else 0) ∧ (r_8 ≠ 0 → vp_in (nI i7) rik) := hw_8
  have hPD : my_PD (dC, dI) vwCl A [(rc, Sum.inr (6, [Value.ref co, Value.ref ma, Value.int (nI k), Value.int fit, Value.int fen, Value.int frd, Value.int fbd, Value.int fir])), (co, Sum.inr (4, [Value.long xx, Value.long xreadX, Value.ref soa, Value.ref sna, Value.ref swa, Value.int xkept, Value.ref ri, Value.ref ro, Value.ref rw, Value.int xasked])), (ri, Sum.inr (0, [Value.int (nI is.length), Value.ref ria])), (ria, Sum.inl (cI, rik, Sum.inl rif))] H := ⟨hP, hD⟩
  have hP := hPD.1
  have hD := hPD.2
  refine lv_if_ne (tgt := 16) hx hb d_RC_spoil_11 (by decide) (fun c_1 => ?_) (fun c_1 => ?_)
  · refine lv_iload_n hx hb d_RC_spoil_16 rfl (lv_at hl 2 rfl) ?_
    refine lv_if_lt (tgt := 27) hx hb d_RC_spoil_17 (by decide) (fun c_2 => ?_) (fun c_2 => ?_)
    · exact absurd c_2 (nI_pos (by omega))
    · refine lv_iload_n hx hb d_RC_spoil_20 rfl (lv_at hl 2 rfl) ?_
      refine lv_sipush (v := 255) hx hb d_RC_spoil_21 (by decide) ?_
      refine lv_icmp_le (tgt := 30) hx hb d_RC_spoil_24 (by decide) (fun c_3 => ?_) (fun c_3 => ?_)
      · refine lv_aload_n hx hb d_RC_spoil_30 rfl (lv_at hl 0 rfl) ?_
        refine va_get (D := (dC, dI)) (ci := 6) (v := .ref co) (C := "RangeCoders") (T := T_RC) (N := 8) hx hb hg in_RC hown hK hP 0 rfl rfl 0 (by decide) (hg _ k258) (fun _ h9 => h9) rfl d_RC_spoil_31 ?_
        refine va_get (D := (dC, dI)) (ci := 4) (v := .ref ri) (C := "RangeCoders$Stack") (T := T_Stack) (N := 10) hx hb hg in_Stack hown hK hP 1 rfl rfl 6 (by decide) (hg _ k102) (fun _ h9 => h9) rfl d_RC_spoil_34 ?_
        refine lv_iload_n hx hb d_RC_spoil_37 rfl (lv_at hl 1 rfl) ?_
        refine lv_aload_n hx hb d_RC_spoil_38 rfl (lv_at hl 0 rfl) ?_
        refine va_get (D := (dC, dI)) (ci := 6) (v := .ref co) (C := "RangeCoders") (T := T_RC) (N := 8) hx hb hg in_RC hown hK hP 0 rfl rfl 0 (by decide) (hg _ k258) (fun _ h9 => h9) rfl d_RC_spoil_39 ?_
        refine va_get (D := (dC, dI)) (ci := 4) (v := .ref ri) (C := "RangeCoders$Stack") (T := T_Stack) (N := 10) hx hb hg in_Stack hown hK hP 1 rfl rfl 6 (by decide) (hg _ k102) (fun _ h9 => h9) rfl d_RC_spoil_42 ?_
        refine lv_iload_n hx hb d_RC_spoil_45 rfl (lv_at hl 1 rfl) ?_
        refine my_ci (wr := [(rc, Sum.inr (6, [Value.ref co, Value.ref ma, Value.int (nI k), Value.int fit, Value.int fen, Value.int frd, Value.int fbd, Value.int fir])), (co, Sum.inr (4, [Value.long xx, Value.long xreadX, Value.ref soa, Value.ref sna, Value.ref swa, Value.int xkept, Value.ref ri, Value.ref ro, Value.ref rw, Value.int xasked]))]) (va_runV (As := [Value.int (nI i7)]) (rest := [Value.int (nI i7), Value.ref ri]) ⟨hx, hb, hml, hown, hts⟩ (f_Row_at l dC dI cI cM cO H.size ri ria rik rif is (nI i7) (hri) (hGri) (by omega)) (cwV 1 hts (my_gV k703 k659 k660 k6 k661) rfl rfl rfl cu_Row_at_1 ⟨by rw [hR]; exact Nat.le_of_ble_eq_true rfl, by rw [hR]; exact Nat.le_of_ble_eq_true rfl⟩) (my_preV hK hN (hP.sub [2, 3] rfl) (hD.sub [2, 3] (by decide +kernel) rfl) 0 rfl rfl) rfl rfl hl.1 rfl (lv_room (Nat.le_of_ble_eq_true rfl)) d_RC_spoil_46 ⟨by rw [hR]; exact Nat.le_of_ble_eq_true rfl, by rw [hR]; exact Nat.le_of_ble_eq_true rfl⟩) hP hD hS hA [2, 3] [0, 1] rfl rfl (by decide +kernel) (by decide +kernel) (fun r_46 u9 H locs hw_46 hP hD hS => ?_)
        have hr_46 : r_46 = rAt is (nI i7) := hw_46
        have hPD : my_PD (dC, dI) vwCl A [(rc, Sum.inr (6, [Value.ref co, Value.ref ma, Value.int (nI k), Value.int fit, Value.int fen, Value.int frd, Value.int fbd, Value.int fir])), (co, Sum.inr (4, [Value.long xx, Value.long xreadX, Value.ref soa, Value.ref sna, Value.ref swa, Value.int xkept, Value.ref ri, Value.ref ro, Value.ref rw, Value.int xasked])), (ri, Sum.inr (0, [Value.int (nI is.length), Value.ref ria])), (ria, Sum.inl (cI, rik, Sum.inl rif))] H := ⟨hP, hD⟩
        have hP := hPD.1
        have hD := hPD.2
        have z9 : r_46 = nI (is.getD i7 0) := by rw [hr_46]; exact rAt_nI hi7 (by omega)
        subst z9
        refine lv_iload_n hx hb d_RC_spoil_49 rfl (lv_at hl 2 rfl) ?_
        refine lv_ixor hx hb d_RC_spoil_50 ?_
        refine lv_topi (fun v_4 ev_4 => ?_)
        have z9 : v_4 = nI (is.getD i7 0 ^^^ t7) := by rw [ev_4]; exact nx_xor _ _
        subst z9
        refine my_cv (wr := [(rc, Sum.inr (6, [Value.ref co, Value.ref ma, Value.int (nI k), Value.int fit, Value.int fen, Value.int frd, Value.int fbd, Value.int fir])), (co, Sum.inr (4, [Value.long xx, Value.long xreadX, Value.ref soa, Value.ref sna, Value.ref swa, Value.int xkept, Value.ref ri, Value.ref ro, Value.ref rw, Value.int xasked]))]) (va_runV (As := [Value.int (nI i7), Value.int (nI (is.getD i7 0 ^^^ t7))]) (rest := []) ⟨hx, hb, hml, hown, hts⟩ (f_Row_set l dC dI cI cM cO H.size ri ria rik rif is i7 (is.getD i7 0 ^^^ t7) (hri) (hGri) (by omega) (hi7)) (cwV 2 hts (my_gV k719 k720 k721 k6 k722) rfl rfl rfl cu_Row_set_2 ⟨by rw [hR]; exact Nat.le_of_ble_eq_true rfl, by rw [hR]; exact Nat.le_of_ble_eq_true rfl⟩) (my_preV hK hN (hP.sub [2, 3] rfl) (hD.sub [2, 3] (by decide +kernel) rfl) 0 rfl rfl) rfl rfl hl.1 rfl (lv_room (Nat.le_of_ble_eq_true rfl)) d_RC_spoil_51 ⟨by rw [hR]; exact Nat.le_of_ble_eq_true rfl, by rw [hR]; exact Nat.le_of_ble_eq_true rfl⟩) hP hD hS hA [2, 3] [0, 1] rfl rfl (by decide +kernel) (by decide +kernel) (fun u9 H locs hw_51 hP hD hS => ?_)
        obtain ⟨rrfq_51, rfl⟩ : ∃ z, z = u9 := ⟨_, rfl⟩
        have hGrr_51 : gIs rrfq_51 (is.set i7 (is.getD i7 0 ^^^ t7)) := hw_51
        have hPD : my_PD (dC, dI) vwCl A [(rc, Sum.inr (6, [Value.ref co, Value.ref ma, Value.int (nI k), Value.int fit, Value.int fen, Value.int frd, Value.int fbd, Value.int fir])), (co, Sum.inr (4, [Value.long xx, Value.long xreadX, Value.ref soa, Value.ref sna, Value.ref swa, Value.int xkept, Value.ref ri, Value.ref ro, Value.ref rw, Value.int xasked])), (ri, Sum.inr (0, [Value.int (nI is.length), Value.ref ria])), (ria, Sum.inl (cI, rik, Sum.inl rrfq_51))] H := ⟨hP, hD⟩
        have hP := hPD.1
        have hD := hPD.2
        refine lv_aload_n hx hb d_RC_spoil_54 rfl (lv_at hl 0 rfl) ?_
        refine va_get (D := (dC, dI)) (ci := 6) (v := .ref co) (C := "RangeCoders") (T := T_RC) (N := 8) hx hb hg in_RC hown hK hP 0 rfl rfl 0 (by decide) (hg _ k258) (fun _ h9 => h9) rfl d_RC_spoil_55 ?_
        refine va_get (D := (dC, dI)) (ci := 4) (v := .ref ri) (C := "RangeCoders$Stack") (T := T_Stack) (N := 10) hx hb hg in_Stack hown hK hP 1 rfl rfl 6 (by decide) (hg _ k102) (fun _ h9 => h9) rfl d_RC_spoil_58 ?_
        refine lv_iload_n hx hb d_RC_spoil_61 rfl (lv_at hl 1 rfl) ?_
        have hsu : (nI is.length : Int32) = nI (is.set i7 (is.getD i7 0 ^^^ t7)).length := by rw [List.length_set]
        rw [hsu] at hP hD
        have hPD : my_PD (dC, dI) vwCl A [(rc, Sum.inr (6, [Value.ref co, Value.ref ma, Value.int (nI k), Value.int fit, Value.int fen, Value.int frd, Value.int fbd, Value.int fir])), (co, Sum.inr (4, [Value.long xx, Value.long xreadX, Value.ref soa, Value.ref sna, Value.ref swa, Value.int xkept, Value.ref ri, Value.ref ro, Value.ref rw, Value.int xasked])), (ri, Sum.inr (0, [Value.int (nI (is.set i7 (is.getD i7 0 ^^^ t7)).length), Value.ref ria])), (ria, Sum.inl (cI, rik, Sum.inl rrfq_51))] H := ⟨hP, hD⟩
        have hP := hPD.1
        have hD := hPD.2
        refine my_ci (wr := [(rc, Sum.inr (6, [Value.ref co, Value.ref ma, Value.int (nI k), Value.int fit, Value.int fen, Value.int frd, Value.int fbd, Value.int fir])), (co, Sum.inr (4, [Value.long xx, Value.long xreadX, Value.ref soa, Value.ref sna, Value.ref swa, Value.int xkept, Value.ref ri, Value.ref ro, Value.ref rw, Value.int xasked]))]) (va_runV (As := [Value.int (nI i7)]) (rest := []) ⟨hx, hb, hml, hown, hts⟩ (f_Row_at l dC dI cI cM cO H.size ri ria rik rrfq_51 (is.set i7 (is.getD i7 0 ^^^ t7)) (nI i7) (by rw [List.length_set]; exact hri) (hGrr_51) (by rw [List.length_set]; omega)) (cwV 1 hts (my_gV k703 k659 k660 k6 k661) rfl rfl rfl cu_Row_at_1 ⟨by rw [hR]; exact Nat.le_of_ble_eq_true rfl, by rw [hR]; exact Nat.le_of_ble_eq_true rfl⟩) (my_preV hK hN (hP.sub [2, 3] rfl) (hD.sub [2, 3] (by decide +kernel) rfl) 0 rfl rfl) rfl rfl hl.1 rfl (lv_room (Nat.le_of_ble_eq_true rfl)) d_RC_spoil_62 ⟨by rw [hR]; exact Nat.le_of_ble_eq_true rfl, by rw [hR]; exact Nat.le_of_ble_eq_true rfl⟩) hP hD hS hA [2, 3] [0, 1] rfl rfl (by decide +kernel) (by decide +kernel) (fun r_62 u9 H locs hw_62 hP hD hS => ?_)
        have hr_62 : r_62 = rAt (is.set i7 (is.getD i7 0 ^^^ t7)) (nI i7) := hw_62
        have hPD : my_PD (dC, dI) vwCl A [(rc, Sum.inr (6, [Value.ref co, Value.ref ma, Value.int (nI k), Value.int fit, Value.int fen, Value.int frd, Value.int fbd, Value.int fir])), (co, Sum.inr (4, [Value.long xx, Value.long xreadX, Value.ref soa, Value.ref sna, Value.ref swa, Value.int xkept, Value.ref ri, Value.ref ro, Value.ref rw, Value.int xasked])), (ri, Sum.inr (0, [Value.int (nI (is.set i7 (is.getD i7 0 ^^^ t7)).length), Value.ref ria])), (ria, Sum.inl (cI, rik, Sum.inl rrfq_51))] H := ⟨hP, hD⟩
        have hP := hPD.1
        have hD := hPD.2
        have hsu : (nI (is.set i7 (is.getD i7 0 ^^^ t7)).length : Int32) = nI is.length := by rw [List.length_set]
        rw [hsu] at hP hD
        have hPD : my_PD (dC, dI) vwCl A [(rc, Sum.inr (6, [Value.ref co, Value.ref ma, Value.int (nI k), Value.int fit, Value.int fen, Value.int frd, Value.int fbd, Value.int fir])), (co, Sum.inr (4, [Value.long xx, Value.long xreadX, Value.ref soa, Value.ref sna, Value.ref swa, Value.int xkept, Value.ref ri, Value.ref ro, Value.ref rw, Value.int xasked])), (ri, Sum.inr (0, [Value.int (nI is.length), Value.ref ria])), (ria, Sum.inl (cI, rik, Sum.inl rrfq_51))] H := ⟨hP, hD⟩
        have hP := hPD.1
        have hD := hPD.2
        exact my_iret (v := r_62) hx hb hr (rfl) hlocks hQ hK hS (Nat.le_refl _) (Nat.le_refl _) (rrfq_51) (⟨by rw [hr_62, rAt_nI (by rw [List.length_set]; exact hi7) (by rw [List.length_set]; omega), List.getD_eq_getElem?_getD, List.getElem?_set_self hi7]; rfl, hGrr_51⟩) (hP.sub [0, 1, 2, 3] rfl) (hD.sub [0, 1, 2, 3] (by decide +kernel) rfl) d_RC_spoil_65
      · exact absurd (nI_le (b := 255) ht7 (by decide)) c_3
  · exact absurd (has_in hi7 (by omega)) (one_eq hr_8 c_1)
set_option maxHeartbeats 2000000 in
set_option maxRecDepth 100000 in
theorem f_RC_endB_Stack (l : Launch) (dC : Nat → ClassId) (dI : Nat → Nat → Nat) (cI cM cO : ClassId) (sz : Nat) (sl : Nat) (rc : Nat) (ma : Nat) (k : Nat) (fit : Int32) (frd : Int32) (fbd : Int32) (fir : Int32) (mf : Nat → Option Nat) (co : Nat) (xx : Int64) (xreadX : Int64) (soa : Nat) (sna : Nat) (swa : Nat) (ri : Nat) (ro : Nat) (rw : Nat) (xasked : Int32) (rwn : Int32) (rwa : Nat) (rwk : Nat) (rwf : Nat → Int32) (ron : Int32) (roa : Nat) (rok : Nat) (rof : Nat → Int32) (sof : Nat → Option Nat) (snf : Nat → Int32) (swf : Nat → Int32) (its : List It) (N : Nat → Nat) (Fn : Nat → Nat → Nat) (pl : va_W) (hrw : rOk rwn rwk) (hro : rOk ron rok) (hki : its.length ≤ 600) (hkp : kpt cI ob3 4096 12 N Fn sof snf swf pl its) : MetIg l y_RC_end (Cond.code y_RC_end prog_1_method_6_code 1 (some .int) :: gw) ({ frames := 7, cells := rPh rwk + rPh rok, slots := rPh rwk + rPh rok, locals := 170 } : Room) (dC, dI) vwCl (kT cI cM cO) [Value.ref rc] ([(rc, Sum.inr (6, [Value.ref co, Value.ref ma, Value.int (nI k), Value.int fit, Value.int 0, Value.int frd, Value.int fbd, Value.int fir])), (co, Sum.inr (4, [Value.long xx, Value.long xreadX, Value.ref soa, Value.ref sna, Value.ref swa, Value.int (nI its.length), Value.ref ri, Value.ref ro, Value.ref rw, Value.int xasked])), (rw, Sum.inr (0, [Value.int rwn, Value.ref rwa])), (rwa, Sum.inl (cI, rwk, Sum.inl rwf)), (ro, Sum.inr (0, [Value.int ron, Value.ref roa])), (roa, Sum.inl (cI, rok, Sum.inl rof)), (soa, Sum.inl (cO, 600, Sum.inr (Sum.inr (Sum.inr (Sum.inr sof))))), (sna, Sum.inl (cI, 600, Sum.inl snf)), (swa, Sum.inl (cI, 600, Sum.inl swf))] ++ pl) sz sl (fun (r : Int32) (u : Int64 × Nat × Nat × (Nat → Int32) × Nat × Nat × (Nat → Int32)) => r = nI ((e3S Fn its).reverse).length ∧ rOk (nI (e3S Fn its).length) u.2.2.1 ∧ gIs u.2.2.2.1 (e3S Fn its) ∧ rOk (nI ((e3S Fn its).reverse).length) u.2.2.2.2.2.1 ∧ gIs u.2.2.2.2.2.2 ((e3S Fn its).reverse)) (fun (u : Int64 × Nat × Nat × (Nat → Int32) × Nat × Nat × (Nat → Int32)) => ([(rc, Sum.inr (6, [Value.ref co, Value.ref ma, Value.int (nI k), Value.int fit, Value.int 1, Value.int frd, Value.int fbd, Value.int fir])), (co, Sum.inr (4, [Value.long u.1, Value.long xreadX, Value.ref soa, Value.ref sna, Value.ref swa, Value.int (nI its.length), Value.ref ri, Value.ref ro, Value.ref rw, Value.int xasked])), (rw, Sum.inr (0, [Value.int (nI (e3S Fn its).length), Value.ref u.2.1])), (u.2.1, Sum.inl (cI, u.2.2.1, Sum.inl u.2.2.2.1)), (ro, Sum.inr (0, [Value.int (nI ((e3S Fn its).reverse).length), Value.ref u.2.2.2.2.1])), (u.2.2.2.2.1, Sum.inl (cI, u.2.2.2.2.2.1, Sum.inl u.2.2.2.2.2.2)), (soa, Sum.inl (cO, 600, Sum.inr (Sum.inr (Sum.inr (Sum.inr sof))))), (sna, Sum.inl (cI, 600, Sum.inl snf)), (swa, Sum.inl (cI, 600, Sum.inl swf))] ++ pl)) (rPh rwk + rPh rok) (fun (u : Int64 × Nat × Nat × (Nat → Int32) × Nat × Nat × (Nat → Int32)) => rPh u.2.2.1 + rPh u.2.2.2.2.2.1) := by
  refine my_ofIg (cc := prog_1_method_6_code) (n := 1) (ret := (some .int)) (by decide) rfl (Nat.le_of_ble_eq_true rfl) ?_
  intro p e s m args below meth c R Q A ls H locs hx hb hr hts hown hlocks hml hnm hR hQ hA hl hP hK hN hD hS
  have hg : ∀ w ∈ gw, w.before args s = true := fun w h => hts w (List.mem_cons_of_mem _ h)
  have hown : s.vm.findClass "RangeCoders" = some m.cls := hown
  have hl : lv_has ls 1 [(0, Value.ref rc)] := hl
  refine lv_aload_n hx hb d_RC_end_0 rfl (lv_at hl 0 rfl) ?_
  refine va_get (D := (dC, dI)) (ci := 6) (v := .int 0) (C := "RangeCoders") (T := T_RC) (N := 8) hx hb hg in_RC hown hK hP 0 rfl rfl 4 (by decide) (hg _ k262) (fun _ h9 => h9) rfl d_RC_end_1 ?_
  refine lv_if_eq (tgt := 10) hx hb d_RC_end_4 (by decide) (fun c_1 => ?_) (fun c_1 => ?_)
  · refine lv_aload_n hx hb d_RC_end_10 rfl (lv_at hl 0 rfl) ?_
    refine va_get (D := (dC, dI)) (ci := 6) (v := .ref co) (C := "RangeCoders") (T := T_RC) (N := 8) hx hb hg in_RC hown hK hP 0 rfl rfl 0 (by decide) (hg _ k258) (fun _ h9 => h9) rfl d_RC_end_11 ?_
    refine my_cvgT (rx := fun (u : Int64 × Nat × Nat × (Nat → Int32) × Nat × Nat × (Nat → Int32)) => [(co, Sum.inr (4, [Value.long u.1, Value.long xreadX, Value.ref soa, Value.ref sna, Value.ref swa, Value.int (nI its.length), Value.ref ri, Value.ref ro, Value.ref rw, Value.int xasked])), (rw, Sum.inr (0, [Value.int (nI (e3S Fn its).length), Value.ref u.2.1])), (u.2.1, Sum.inl (cI, u.2.2.1, Sum.inl u.2.2.2.1)), (ro, Sum.inr (0, [Value.int (nI ((e3S Fn its).reverse).length), Value.ref u.2.2.2.2.1])), (u.2.2.2.2.1, Sum.inl (cI, u.2.2.2.2.2.1, Sum.inl u.2.2.2.2.2.2)), (soa, Sum.inl (cO, 600, Sum.inr (Sum.inr (Sum.inr (Sum.inr sof))))), (sna, Sum.inl (cI, 600, Sum.inl snf)), (swa, Sum.inl (cI, 600, Sum.inl swf))]) (pq := fun (u : Int64 × Nat × Nat × (Nat → Int32) × Nat × Nat × (Nat → Int32)) => pl) (wr := [(rc, Sum.inr (6, [Value.ref co, Value.ref ma, Value.int (nI k), Value.int fit, Value.int 0, Value.int frd, Value.int fbd, Value.int fir]))]) (va_runU (As := []) (rest := []) ⟨hx, hb, hml, hown, hts⟩ (f_Stack_closeMessage l dC dI cI cM cO H.size (hSl H) co xx xreadX soa sna swa ri ro rw xasked rwn rwa rwk rwf ron roa rok rof sof snf swf its N Fn pl (by first | assumption | omega) (by first | assumption | omega) (by first | assumption | omega) (by first | assumption | omega)) (va_cwA 0 hts (my_gU k572 k574 k590 k591 k9 k592) rfl rfl rfl (hN.1 _ j573 rfl) (by decide +kernel) ⟨by rw [hR]; exact Nat.le_of_ble_eq_true rfl, by rw [hR]; exact Nat.le_of_ble_eq_true rfl⟩) (my_preVg hK hN (my_partU hP [1, 2, 3, 4, 5, 6, 7, 8] rfl) (hD.part [1, 2, 3, 4, 5, 6, 7, 8] (by decide +kernel) rfl) 0 rfl rfl) rfl rfl hl.1 rfl (lv_room (Nat.le_of_ble_eq_true rfl)) d_RC_end_14 ⟨by rw [hR]; exact (show 0 + (rPh rwk + rPh rok) ≤ (rPh rwk + rPh rok) by omega), by rw [hR]; exact (show 0 + (rPh rwk + rPh rok) ≤ (rPh rwk + rPh rok) by omega)⟩) hP hD hS hA [1, 2, 3, 4, 5, 6, 7, 8] [0] rfl rfl (by decide +kernel) (by decide +kernel) (fun u9 d_14 H locs hd_14 hw_14 hP hD hS => ?_)
    obtain ⟨xxq_14, rwaq_14, rwkq_14, rwfq_14, roaq_14, rokq_14, rofq_14⟩ := u9
    obtain ⟨hrw_14, hGrw_14, hro_14, hGro_14⟩ : rOk (nI (e3S Fn its).length) rwkq_14 ∧ gIs rwfq_14 (e3S Fn its) ∧ rOk (nI ((e3S Fn its).reverse).length) rokq_14 ∧ gIs rofq_14 ((e3S Fn its).reverse) := hw_14
    have hd_14 : d_14 + (rPh rwkq_14 + rPh rokq_14) ≤ (rPh rwk + rPh rok) := hd_14
    have hPD : my_PD (dC, dI) vwCl A ([(rc, Sum.inr (6, [Value.ref co, Value.ref ma, Value.int (nI k), Value.int fit, Value.int 0, Value.int frd, Value.int fbd, Value.int fir])), (co, Sum.inr (4, [Value.long xxq_14, Value.long xreadX, Value.ref soa, Value.ref sna, Value.ref swa, Value.int (nI its.length), Value.ref ri, Value.ref ro, Value.ref rw, Value.int xasked])), (rw, Sum.inr (0, [Value.int (nI (e3S Fn its).length), Value.ref rwaq_14])), (rwaq_14, Sum.inl (cI, rwkq_14, Sum.inl rwfq_14)), (ro, Sum.inr (0, [Value.int (nI ((e3S Fn its).reverse).length), Value.ref roaq_14])), (roaq_14, Sum.inl (cI, rokq_14, Sum.inl rofq_14)), (soa, Sum.inl (cO, 600, Sum.inr (Sum.inr (Sum.inr (Sum.inr sof))))), (sna, Sum.inl (cI, 600, Sum.inl snf)), (swa, Sum.inl (cI, 600, Sum.inl swf))] ++ pl) H := ⟨hP, hD⟩
    have hP := hPD.1
    have hD := hPD.2
    refine lv_aload_n hx hb d_RC_end_17 rfl (lv_at hl 0 rfl) ?_
    refine lv_iconst (v := 1) hx hb d_RC_end_18 (by decide) ?_
    refine va_put (D := (dC, dI)) (ci := 6) (v := .int 1) (ty := .boolean) (C := "RangeCoders") (T := T_RC) (N := 8) hx hb hg in_RC t_RC o_RC n_RC hown hK hP hD hS 0 rfl rfl 4 (by decide) (hg _ k262) (fun _ h9 => h9) rfl (o_RC 4 (by decide)) rfl rfl (Nat.le_of_ble_eq_true rfl) d_RC_end_19 (fun H locs hP hD hS => ?_)
    have hPD : my_PD (dC, dI) vwCl A ([(rc, Sum.inr (6, [Value.ref co, Value.ref ma, Value.int (nI k), Value.int fit, Value.int 1, Value.int frd, Value.int fbd, Value.int fir])), (co, Sum.inr (4, [Value.long xxq_14, Value.long xreadX, Value.ref soa, Value.ref sna, Value.ref swa, Value.int (nI its.length), Value.ref ri, Value.ref ro, Value.ref rw, Value.int xasked])), (rw, Sum.inr (0, [Value.int (nI (e3S Fn its).length), Value.ref rwaq_14])), (rwaq_14, Sum.inl (cI, rwkq_14, Sum.inl rwfq_14)), (ro, Sum.inr (0, [Value.int (nI ((e3S Fn its).reverse).length), Value.ref roaq_14])), (roaq_14, Sum.inl (cI, rokq_14, Sum.inl rofq_14)), (soa, Sum.inl (cO, 600, Sum.inr (Sum.inr (Sum.inr (Sum.inr sof))))), (sna, Sum.inl (cI, 600, Sum.inl snf)), (swa, Sum.inl (cI, 600, Sum.inl swf))] ++ pl) H := ⟨hP, hD⟩
    have hP := hPD.1
    have hD := hPD.2
    refine lv_aload_n hx hb d_RC_end_22 rfl (lv_at hl 0 rfl) ?_
    refine va_get (D := (dC, dI)) (ci := 6) (v := .ref co) (C := "RangeCoders") (T := T_RC) (N := 8) hx hb hg in_RC hown hK hP 0 rfl rfl 0 (by decide) (hg _ k258) (fun _ h9 => h9) rfl d_RC_end_23 ?_
    refine va_get (D := (dC, dI)) (ci := 4) (v := .ref ro) (C := "RangeCoders$Stack") (T := T_Stack) (N := 10) hx hb hg in_Stack hown hK hP 1 rfl rfl 7 (by decide) (hg _ k108) (fun _ h9 => h9) rfl d_RC_end_26 ?_
    refine va_get (D := (dC, dI)) (ci := 0) (v := .int (nI ((e3S Fn its).reverse).length)) (C := "RangeCoders$Row") (T := T_Row) (N := 2) hx hb hg in_Row hown hK hP 4 rfl rfl 0 (by decide) (hg _ k58) (fun _ h9 => h9) rfl d_RC_end_29 ?_
    exact my_iretg (v := nI ((e3S Fn its).reverse).length) hx hb hr (rfl) hlocks hQ hK hS (xxq_14, rwaq_14, rwkq_14, rwfq_14, roaq_14, rokq_14, rofq_14) (show (0 + d_14) + (rPh rwkq_14 + rPh rokq_14) ≤ (rPh rwk + rPh rok) by omega) (show (0 + d_14) + (rPh rwkq_14 + rPh rokq_14) ≤ (rPh rwk + rPh rok) by omega) (⟨rfl, hrw_14, hGrw_14, hro_14, hGro_14⟩) (hP.part [0, 1, 2, 3, 4, 5, 6, 7, 8] rfl) (hD.part [0, 1, 2, 3, 4, 5, 6, 7, 8] (by decide +kernel) rfl) d_RC_end_32
  · exact absurd (by decide) c_1
end
section
set_option maxHeartbeats 2000000 in
set_option maxRecDepth 100000 in
theorem f_RC_out_Table (l : Launch) (dC : Nat → ClassId) (dI : Nat → Nat → Nat) (cI cM cO : ClassId) (sz : Nat) (rc : Nat) (ma : Nat) (k : Nat) (fit : Int32) (fen : Int32) (frd : Int32) (fbd : Int32) (fir : Int32) (mf : Nat → Option Nat) (co : Nat) (xx : Int64) (xreadX : Int64) (soa : Nat) (sna : Nat) (swa : Nat) (xkept : Int32) (ri : Nat) (ro : Nat) (rw : Nat) (xasked : Int32) (roa : Nat) (rok : Nat) (rof : Nat → Int32) (os : List Nat) (ii : Int32) (hro : rOk (nI os.length) rok) (hGro : gIs rof os) (hLro : os.length ≤ 8192) : MetI l y_RC_out (Cond.code y_RC_out prog_1_method_8_code 2 (some .int) :: gw) ({ frames := 2, cells := 0, slots := 0, locals := 42 } : Room) (dC, dI) vwCl (kT cI cM cO) [Value.ref rc, Value.int ii] [(rc, Sum.inr (6, [Value.ref co, Value.ref ma, Value.int (nI k), Value.int fit, Value.int fen, Value.int frd, Value.int fbd, Value.int fir])), (co, Sum.inr (5, [Value.long xx, Value.long xreadX, Value.ref soa, Value.ref sna, Value.ref swa, Value.int xkept, Value.ref ri, Value.ref ro, Value.ref rw, Value.int xasked])), (ro, Sum.inr (0, [Value.int (nI os.length), Value.ref roa])), (roa, Sum.inl (cI, rok, Sum.inl rof))] sz (fun (r : Int32) (u : Unit) => r = rAt os ii) (fun (u : Unit) => [(rc, Sum.inr (6, [Value.ref co, Value.ref ma, Value.int (nI k), Value.int fit, Value.int fen, Value.int frd, Value.int fbd, Value.int fir])), (co, Sum.inr (5, [Value.long xx, Value.long xreadX, Value.ref soa, Value.ref sna, Value.ref swa, Value.int xkept, Value.ref ri, Value.ref ro, Value.ref rw, Value.int xasked])), (ro, Sum.inr (0, [Value.int (nI os.length), Value.ref roa])), (roa, Sum.inl (cI, rok, Sum.inl rof))]) 0 0 := by
  refine my_ofI (cc := prog_1_method_8_code) (n := 2) (ret := (some .int)) (by decide) rfl (Nat.le_of_ble_eq_true rfl) ?_
  intro p e s m args below meth c R Q A ls H locs hx hb hr hts hown hlocks hml hnm hR hQ hA hl hP hK hN hD hS
  have hg : ∀ w ∈ gw, w.before args s = true := fun w h => hts w (List.mem_cons_of_mem _ h)
  have hown : s.vm.findClass "RangeCoders" = some m.cls := hown
  have hl : lv_has ls 2 [(0, Value.ref rc), (1, Value.int ii)] := hl
  refine lv_aload_n hx hb d_RC_out_0 rfl (lv_at hl 0 rfl) ?_
  refine va_get (D := (dC, dI)) (ci := 6) (v := .ref co) (C := "RangeCoders") (T := T_RC) (N := 8) hx hb hg in_RC hown hK hP 0 rfl rfl 0 (by decide) (hg _ k258) (fun _ h9 => h9) rfl d_RC_out_1 ?_
  refine va_get (D := (dC, dI)) (ci := 5) (v := .ref ro) (C := "RangeCoders$Table") (T := T_Table) (N := 10) hx hb hg in_Table hown hK hP 1 rfl rfl 7 (by decide) (hg _ k108) (fun _ h9 => h9) rfl d_RC_out_4 ?_
  refine lv_iload_n hx hb d_RC_out_7 rfl (lv_at hl 1 rfl) ?_
  refine my_ci (wr := [(rc, Sum.inr (6, [Value.ref co, Value.ref ma, Value.int (nI k), Value.int fit, Value.int fen, Value.int frd, Value.int fbd, Value.int fir])), (co, Sum.inr (5, [Value.long xx, Value.long xreadX, Value.ref soa, Value.ref sna, Value.ref swa, Value.int xkept, Value.ref ri, Value.ref ro, Value.ref rw, Value.int xasked]))]) (va_runV (As := [Value.int ii]) (rest := []) ⟨hx, hb, hml, hown, hts⟩ (f_Row_at l dC dI cI cM cO H.size ro roa rok rof os ii (hro) (hGro) (hLro)) (cwV 1 hts (my_gV k703 k659 k660 k6 k661) rfl rfl rfl cu_Row_at_1 ⟨by rw [hR]; exact Nat.le_of_ble_eq_true rfl, by rw [hR]; exact Nat.le_of_ble_eq_true rfl⟩) (my_preV hK hN (hP.sub [2, 3] rfl) (hD.sub [2, 3] (by decide +kernel) rfl) 0 rfl rfl) rfl rfl hl.1 rfl (lv_room (Nat.le_of_ble_eq_true rfl)) d_RC_out_8 ⟨by rw [hR]; exact Nat.le_of_ble_eq_true rfl, by rw [hR]; exact Nat.le_of_ble_eq_true rfl⟩) hP hD hS hA [2, 3] [0, 1] rfl rfl (by decide +kernel) (by decide +kernel) (fun r_8 u9 H locs hw_8 hP hD hS => ?_)
  have hr_8 : r_8 = rAt os ii := hw_8
  have hPD : my_PD (dC, dI) vwCl A [(rc, Sum.inr (6, [Value.ref co, Value.ref ma, Value.int (nI k), Value.int fit, Value.int fen, Value.int frd, Value.int fbd, Value.int fir])), (co, Sum.inr (5, [Value.long xx, Value.long xreadX, Value.ref soa, Value.ref sna, Value.ref swa, Value.int xkept, Value.ref ri, Value.ref ro, Value.ref rw, Value.int xasked])), (ro, Sum.inr (0, [Value.int (nI os.length), Value.ref roa])), (roa, Sum.inl (cI, rok, Sum.inl rof))] H := ⟨hP, hD⟩
  have hP := hPD.1
  have hD := hPD.2
  exact my_iret (v := r_8) hx hb hr (rfl) hlocks hQ hK hS (Nat.le_refl _) (Nat.le_refl _) () (hr_8) (hP.sub [0, 1, 2, 3] rfl) (hD.sub [0, 1, 2, 3] (by decide +kernel) rfl) d_RC_out_11
set_option maxHeartbeats 2000000 in
set_option maxRecDepth 100000 in
theorem f_RC_octetsR_Table (l : Launch) (dC : Nat → ClassId) (dI : Nat → Nat → Nat) (cI cM cO : ClassId) (sz : Nat) (rc : Nat) (ma : Nat) (k : Nat) (fit : Int32) (fen : Int32) (frd : Int32) (fbd : Int32) (fir : Int32) (mf : Nat → Option Nat) (co : Nat) (xx : Int64) (xreadX : Int64) (soa : Nat) (sna : Nat) (swa : Nat) (xkept : Int32) (ri : Nat) (ro : Nat) (rw : Nat) (xasked : Int32) (ria : Nat) (rik : Nat) (rif : Nat → Int32) (is : List Nat) (vv : Int32) (hri : rOk (nI is.length) rik) (hGri : gIs rif is) (hLri : is.length ≤ 6000) (hfl : 6000 < is.length + 4) : MetI l y_RC_octets (Cond.code y_RC_octets prog_1_method_9_code 3 (some .int) :: gw) ({ frames := 0, cells := 0, slots := 0, locals := 0 } : Room) (dC, dI) vwCl (kT cI cM cO) [Value.ref rc, Value.int vv] [(rc, Sum.inr (6, [Value.ref co, Value.ref ma, Value.int (nI k), Value.int fit, Value.int fen, Value.int frd, Value.int fbd, Value.int fir])), (co, Sum.inr (5, [Value.long xx, Value.long xreadX, Value.ref soa, Value.ref sna, Value.ref swa, Value.int xkept, Value.ref ri, Value.ref ro, Value.ref rw, Value.int xasked])), (ri, Sum.inr (0, [Value.int (nI is.length), Value.ref ria])), (ria, Sum.inl (cI, rik, Sum.inl rif))] sz (fun (r : Int32) (u : Unit) => r = -4) (fun (u : Unit) => [(rc, Sum.inr (6, [Value.ref co, Value.ref ma, Value.int (nI k), Value.int fit, Value.int fen, Value.int frd, Value.int fbd, Value.int fir])), (co, Sum.inr (5, [Value.long xx, Value.long xreadX, Value.ref soa, Value.ref sna, Value.ref swa, Value.int xkept, Value.ref ri, Value.ref ro, Value.ref rw, Value.int xasked])), (ri, Sum.inr (0, [Value.int (nI is.length), Value.ref ria])), (ria, Sum.inl (cI, rik, Sum.inl rif))]) 0 0 := by
  refine my_ofI (cc := prog_1_method_9_code) (n := 3) (ret := (some .int)) (by decide) rfl (Nat.le_of_ble_eq_true rfl) ?_
  intro p e s m args below meth c R Q A ls H locs hx hb hr hts hown hlocks hml hnm hR hQ hA hl hP hK hN hD hS
  have hg : ∀ w ∈ gw, w.before args s = true := fun w h => hts w (List.mem_cons_of_mem _ h)
  have hown : s.vm.findClass "RangeCoders" = some m.cls := hown
  have hl : lv_has ls 3 [(0, Value.ref rc), (1, Value.int vv)] := hl
  refine lv_aload_n hx hb d_RC_octets_0 rfl (lv_at hl 0 rfl) ?_
  refine va_get (D := (dC, dI)) (ci := 6) (v := .ref co) (C := "RangeCoders") (T := T_RC) (N := 8) hx hb hg in_RC hown hK hP 0 rfl rfl 0 (by decide) (hg _ k258) (fun _ h9 => h9) rfl d_RC_octets_1 ?_
  refine va_get (D := (dC, dI)) (ci := 5) (v := .ref ri) (C := "RangeCoders$Table") (T := T_Table) (N := 10) hx hb hg in_Table hown hK hP 1 rfl rfl 6 (by decide) (hg _ k102) (fun _ h9 => h9) rfl d_RC_octets_4 ?_
  refine va_get (D := (dC, dI)) (ci := 0) (v := .int (nI is.length)) (C := "RangeCoders$Row") (T := T_Row) (N := 2) hx hb hg in_Row hown hK hP 2 rfl rfl 0 (by decide) (hg _ k58) (fun _ h9 => h9) rfl d_RC_octets_7 ?_
  refine lv_iconst (v := 4) hx hb d_RC_octets_10 (by decide) ?_
  refine lv_iadd hx hb d_RC_octets_11 ?_
  refine lv_topi (fun v_1 ev_1 => ?_)
  refine lv_sipush (v := 6000) hx hb d_RC_octets_12 (by decide) ?_
  have z9 : v_1 = nI (is.length + 4) := by rw [ev_1]; exact nI_add _ 4
  subst z9
  refine lv_icmp_le (tgt := 21) hx hb d_RC_octets_15 (by decide) (fun c_2 => ?_) (fun c_2 => ?_)
  · exact absurd ((nI_cmp (b := 6000) (by omega) (by decide)).mp c_2) (by omega)
  · refine lv_bipush (v := (-4)) hx hb d_RC_octets_18 (by decide) ?_
    exact my_iret (v := (-4)) hx hb hr (rfl) hlocks hQ hK hS (Nat.le_refl _) (Nat.le_refl _) () (rfl) (hP.sub [0, 1, 2, 3] rfl) (hD.sub [0, 1, 2, 3] (by decide +kernel) rfl) d_RC_octets_20
set_option maxHeartbeats 2000000 in
set_option maxRecDepth 100000 in
theorem f_RC_octetsL_Table (l : Launch) (dC : Nat → ClassId) (dI : Nat → Nat → Nat) (cI cM cO : ClassId) (sz : Nat) (sl : Nat) (rc : Nat) (ma : Nat) (k : Nat) (fit : Int32) (fen : Int32) (frd : Int32) (fbd : Int32) (fir : Int32) (mf : Nat → Option Nat) (co : Nat) (xx : Int64) (xreadX : Int64) (soa : Nat) (sna : Nat) (swa : Nat) (xkept : Int32) (ri : Nat) (ro : Nat) (rw : Nat) (xasked : Int32) (ria : Nat) (rik : Nat) (rif : Nat → Int32) (is : List Nat) (vv : Int32) (hri : rOk (nI is.length) rik) (hGri : gIs rif is) (hLri : is.length ≤ 6000) (hfl : is.length + 4 ≤ 6000) : MetIg l y_RC_octets (Cond.code y_RC_octets prog_1_method_9_code 3 (some .int) :: gw) ({ frames := 3, cells := rPh rik, slots := rPh rik, locals := 83 } : Room) (dC, dI) vwCl (kT cI cM cO) [Value.ref rc, Value.int vv] [(rc, Sum.inr (6, [Value.ref co, Value.ref ma, Value.int (nI k), Value.int fit, Value.int fen, Value.int frd, Value.int fbd, Value.int fir])), (co, Sum.inr (5, [Value.long xx, Value.long xreadX, Value.ref soa, Value.ref sna, Value.ref swa, Value.int xkept, Value.ref ri, Value.ref ro, Value.ref rw, Value.int xasked])), (ri, Sum.inr (0, [Value.int (nI is.length), Value.ref ria])), (ria, Sum.inl (cI, rik, Sum.inl rif))] sz sl (fun (r : Int32) (u : Nat × Nat × (Nat → Int32)) => r = nI (is ++ [oB vv 3, oB vv 2, oB vv 1, oB vv 0]).length ∧ rOk (nI (is ++ [oB vv 3, oB vv 2, oB vv 1, oB vv 0]).length) u.2.1 ∧ gIs u.2.2 (is ++ [oB vv 3, oB vv 2, oB vv 1, oB vv 0])) (fun (u : Nat × Nat × (Nat → Int32)) => [(rc, Sum.inr (6, [Value.ref co, Value.ref ma, Value.int (nI k), Value.int fit, Value.int fen, Value.int frd, Value.int fbd, Value.int fir])), (co, Sum.inr (5, [Value.long xx, Value.long xreadX, Value.ref soa, Value.ref sna, Value.ref swa, Value.int xkept, Value.ref ri, Value.ref ro, Value.ref rw, Value.int xasked])), (ri, Sum.inr (0, [Value.int (nI (is ++ [oB vv 3, oB vv 2, oB vv 1, oB vv 0]).length), Value.ref u.1])), (u.1, Sum.inl (cI, u.2.1, Sum.inl u.2.2))]) (rPh rik) (fun (u : Nat × Nat × (Nat → Int32)) => rPh u.2.1) := by
  refine my_ofIg (cc := prog_1_method_9_code) (n := 3) (ret := (some .int)) (by decide) rfl (Nat.le_of_ble_eq_true rfl) ?_
  intro p e s m args below meth c R Q A ls H locs hx hb hr hts hown hlocks hml hnm hR hQ hA hl hP hK hN hD hS
  have hg : ∀ w ∈ gw, w.before args s = true := fun w h => hts w (List.mem_cons_of_mem _ h)
  have hown : s.vm.findClass "RangeCoders" = some m.cls := hown
  have hl : lv_has ls 3 [(0, Value.ref rc), (1, Value.int vv)] := hl
  have hlti := rOk_lt hri
  refine lv_aload_n hx hb d_RC_octets_0 rfl (lv_at hl 0 rfl) ?_
  refine va_get (D := (dC, dI)) (ci := 6) (v := .ref co) (C := "RangeCoders") (T := T_RC) (N := 8) hx hb hg in_RC hown hK hP 0 rfl rfl 0 (by decide) (hg _ k258) (fun _ h9 => h9) rfl d_RC_octets_1 ?_
  refine va_get (D := (dC, dI)) (ci := 5) (v := .ref ri) (C := "RangeCoders$Table") (T := T_Table) (N := 10) hx hb hg in_Table hown hK hP 1 rfl rfl 6 (by decide) (hg _ k102) (fun _ h9 => h9) rfl d_RC_octets_4 ?_
  refine va_get (D := (dC, dI)) (ci := 0) (v := .int (nI is.length)) (C := "RangeCoders$Row") (T := T_Row) (N := 2) hx hb hg in_Row hown hK hP 2 rfl rfl 0 (by decide) (hg _ k58) (fun _ h9 => h9) rfl d_RC_octets_7 ?_
  refine lv_iconst (v := 4) hx hb d_RC_octets_10 (by decide) ?_
  refine lv_iadd hx hb d_RC_octets_11 ?_
  refine lv_topi (fun v_1 ev_1 => ?_)
  refine lv_sipush (v := 6000) hx hb d_RC_octets_12 (by decide) ?_
  have z9 : v_1 = nI (is.length + 4) := by rw [ev_1]; exact nI_add _ 4
  subst z9
  refine lv_icmp_le (tgt := 21) hx hb d_RC_octets_15 (by decide) (fun c_2 => ?_) (fun c_2 => ?_)
  · refine lv_bipush (v := 24) hx hb d_RC_octets_21 (by decide) ?_
    refine lv_istore_n (lv' := [(2, Value.int 24), (0, Value.ref rc), (1, Value.int vv)]) hx hb d_RC_octets_23 rfl hl (by decide) rfl (fun ls hl => ?_)
    have J_24 : ∀ (n9_24 : Nat) (i9 : Int32) (j : Nat) (b9 : List Nat) (ria9 : Nat) (rik9 : Nat) (rif9 : Nat → Int32) (d9 : Nat) (hn9_24 : j = n9_24) (hi : i9.toInt = 8 * (j : Int) - 8) (hj : j ≤ 4) (hb9 : is ++ [oB vv 3, oB vv 2, oB vv 1, oB vv 0] = b9 ++ (List.range j).reverse.map (oB vv)) (hM9 : b9.length + j = is.length + 4) (hr9 : rOk (nI b9.length) rik9) (hg9 : gIs rif9 b9) (hd9 : d9 + rPh rik9 ≤ rPh rik) (H : Heap) (locs : List Loc) (ls : Array Slot), va_P (dC, dI) vwCl [(rc, Sum.inr (6, [Value.ref co, Value.ref ma, Value.int (nI k), Value.int fit, Value.int fen, Value.int frd, Value.int fbd, Value.int fir])), (co, Sum.inr (5, [Value.long xx, Value.long xreadX, Value.ref soa, Value.ref sna, Value.ref swa, Value.int xkept, Value.ref ri, Value.ref ro, Value.ref rw, Value.int xasked])), (ri, Sum.inr (0, [Value.int (nI b9.length), Value.ref ria9])), (ria9, Sum.inl (cI, rik9, Sum.inl rif9))] H → va_D A [(rc, Sum.inr (6, [Value.ref co, Value.ref ma, Value.int (nI k), Value.int fit, Value.int fen, Value.int frd, Value.int fbd, Value.int fir])), (co, Sum.inr (5, [Value.long xx, Value.long xreadX, Value.ref soa, Value.ref sna, Value.ref swa, Value.int xkept, Value.ref ri, Value.ref ro, Value.ref rw, Value.int xasked])), (ri, Sum.inr (0, [Value.int (nI b9.length), Value.ref ria9])), (ria9, Sum.inl (cI, rik9, Sum.inl rif9))] → va_S A s.heap H locs → lv_has ls 3 [(2, Value.int i9), (0, Value.ref rc), (1, Value.int vv)] → W p l e R s m args below meth c H locs d9 d9 Q (F0 m 24 ls []) := by
      intro n9_24
      induction n9_24 using Nat.strongRecOn with
      | ind n9_24 ih9_24 =>
        intro i9 j b9 ria9 rik9 rif9 d9 hn9_24 hi hj hb9 hM9 hr9 hg9 hd9 H locs ls hP hD hS hl
        refine lv_iload_n hx hb d_RC_octets_24 rfl (lv_at hl 0 rfl) ?_
        refine lv_if_lt (tgt := 51) hx hb d_RC_octets_25 (by decide) (fun c_3 => ?_) (fun c_3 => ?_)
        · have z9 := I_ng c_3
          have hj0 : j = 0 := by omega
          have z9 : b9 = is ++ [oB vv 3, oB vv 2, oB vv 1, oB vv 0] := by rw [hb9, hj0]; simp
          subst z9
          refine lv_aload_n hx hb d_RC_octets_51 rfl (lv_at hl 1 rfl) ?_
          refine va_get (D := (dC, dI)) (ci := 6) (v := .ref co) (C := "RangeCoders") (T := T_RC) (N := 8) hx hb hg in_RC hown hK hP 0 rfl rfl 0 (by decide) (hg _ k258) (fun _ h9 => h9) rfl d_RC_octets_52 ?_
          refine va_get (D := (dC, dI)) (ci := 5) (v := .ref ri) (C := "RangeCoders$Table") (T := T_Table) (N := 10) hx hb hg in_Table hown hK hP 1 rfl rfl 6 (by decide) (hg _ k102) (fun _ h9 => h9) rfl d_RC_octets_55 ?_
          refine va_get (D := (dC, dI)) (ci := 0) (v := .int (nI (is ++ [oB vv 3, oB vv 2, oB vv 1, oB vv 0]).length)) (C := "RangeCoders$Row") (T := T_Row) (N := 2) hx hb hg in_Row hown hK hP 2 rfl rfl 0 (by decide) (hg _ k58) (fun _ h9 => h9) rfl d_RC_octets_58 ?_
          exact my_iretg (v := nI (is ++ [oB vv 3, oB vv 2, oB vv 1, oB vv 0]).length) hx hb hr (rfl) hlocks hQ hK hS (ria9, rik9, rif9) (show d9 + (rPh rik9) ≤ (rPh rik) by omega) (show d9 + (rPh rik9) ≤ (rPh rik) by omega) (⟨rfl, hr9, hg9⟩) (hP.sub [0, 1, 2, 3] rfl) (hD.sub [0, 1, 2, 3] (by decide +kernel) rfl) d_RC_octets_61
        · have z9 := I_nn c_3
          have hj0 : 1 ≤ j := by omega
          have hi9 : i9 = nI (8 * (j - 1)) := Int32.toInt_inj.mp (by rw [nI_toInt (by omega)]; omega)
          refine lv_aload_n hx hb d_RC_octets_28 rfl (lv_at hl 1 rfl) ?_
          refine va_get (D := (dC, dI)) (ci := 6) (v := .ref co) (C := "RangeCoders") (T := T_RC) (N := 8) hx hb hg in_RC hown hK hP 0 rfl rfl 0 (by decide) (hg _ k258) (fun _ h9 => h9) rfl d_RC_octets_29 ?_
          refine va_get (D := (dC, dI)) (ci := 5) (v := .ref ri) (C := "RangeCoders$Table") (T := T_Table) (N := 10) hx hb hg in_Table hown hK hP 1 rfl rfl 6 (by decide) (hg _ k102) (fun _ h9 => h9) rfl d_RC_octets_32 ?_
          refine lv_iload_n hx hb d_RC_octets_35 rfl (lv_at hl 2 rfl) ?_
          refine lv_iload_n hx hb d_RC_octets_36 rfl (lv_at hl 0 rfl) ?_
          refine lv_iushr hx hb d_RC_octets_37 rfl ?_
          refine lv_topi (fun v_4 ev_4 => ?_)
          refine lv_sipush (v := 255) hx hb d_RC_octets_38 (by decide) ?_
          refine lv_iand hx hb d_RC_octets_41 ?_
          refine lv_topi (fun v_5 ev_5 => ?_)
          have z9 : v_5 = nI (oB vv (j - 1)) := by rw [ev_5, ev_4]; exact oB_u vv (j - 1) (by omega) _ hi9
          subst z9
          refine my_cvg (wr := [(rc, Sum.inr (6, [Value.ref co, Value.ref ma, Value.int (nI k), Value.int fit, Value.int fen, Value.int frd, Value.int fbd, Value.int fir])), (co, Sum.inr (5, [Value.long xx, Value.long xreadX, Value.ref soa, Value.ref sna, Value.ref swa, Value.int xkept, Value.ref ri, Value.ref ro, Value.ref rw, Value.int xasked]))]) (va_runV (As := [Value.int (nI (oB vv (j - 1)))]) (rest := []) ⟨hx, hb, hml, hown, hts⟩ (f_Row_add l dC dI cI cM cO H.size (hSl H) ri ria9 rik9 rif9 b9 (oB vv (j - 1)) (hr9) (hg9) (by omega)) (cwV 1 hts (my_gV k708 k473 k474 k6 k475) rfl rfl rfl cu_Row_add_1 ⟨by rw [hR]; exact Nat.le_of_ble_eq_true rfl, by rw [hR]; exact Nat.le_of_ble_eq_true rfl⟩) (my_preVg hK hN (hP.sub [2, 3] rfl) (hD.sub [2, 3] (by decide +kernel) rfl) 0 rfl rfl) rfl rfl hl.1 rfl (lv_room (Nat.le_of_ble_eq_true rfl)) d_RC_octets_42 ⟨by rw [hR]; exact (show d9 + (rPh rik9) ≤ (rPh rik) by omega), by rw [hR]; exact (show d9 + (rPh rik9) ≤ (rPh rik) by omega)⟩) hP hD hS hA [2, 3] [0, 1] rfl rfl (by decide +kernel) (by decide +kernel) (fun u9 d_42 H locs hd_42 hw_42 hP hD hS => ?_)
          obtain ⟨rraq_42, rrkq_42, rrfq_42⟩ := u9
          obtain ⟨hrr_42, hGrr_42⟩ : rOk (nI (b9 ++ [(oB vv (j - 1))]).length) rrkq_42 ∧ gIs rrfq_42 (b9 ++ [(oB vv (j - 1))]) := hw_42
          have hd_42 : d_42 + (rPh rrkq_42) ≤ (rPh rik9) := hd_42
          have hPD : my_PD (dC, dI) vwCl A [(rc, Sum.inr (6, [Value.ref co, Value.ref ma, Value.int (nI k), Value.int fit, Value.int fen, Value.int frd, Value.int fbd, Value.int fir])), (co, Sum.inr (5, [Value.long xx, Value.long xreadX, Value.ref soa, Value.ref sna, Value.ref swa, Value.int xkept, Value.ref ri, Value.ref ro, Value.ref rw, Value.int xasked])), (ri, Sum.inr (0, [Value.int (nI (b9 ++ [(oB vv (j - 1))]).length), Value.ref rraq_42])), (rraq_42, Sum.inl (cI, rrkq_42, Sum.inl rrfq_42))] H := ⟨hP, hD⟩
          have hP := hPD.1
          have hD := hPD.2
          obtain ⟨v_6, ev_6⟩ : ∃ y : Int32, y = i9 + (-8) := ⟨_, rfl⟩
          refine lv_iinc (v := v_6) (lv' := [(2, Value.int v_6), (0, Value.ref rc), (1, Value.int vv)]) hx hb d_RC_octets_45 hl (k := 0) rfl (by rw [ev_6]; rfl) (by decide) rfl (fun ls hl => ?_)
          refine lv_goto (tgt := 24) hx hb d_RC_octets_48 (by decide) ?_
          exact ih9_24 _ (by first | omega | (omega)) v_6 (j - 1) (b9 ++ [oB vv (j - 1)]) rraq_42 rrkq_42 rrfq_42 (d9 + d_42) rfl (by have z9 := I_dn8 c_3 ev_6; omega) (by omega) (by rw [hb9, show j = (j - 1) + 1 by omega, List.range_succ, List.reverse_append]; simp) (by rw [List.length_append, List.length_singleton]; omega) (hrr_42) (hGrr_42) (by omega) H locs ls (hP.sub [0, 1, 2, 3] rfl) (hD.sub [0, 1, 2, 3] (by decide +kernel) rfl) hS (lv_sub hl [0, 1, 2] rfl)
    exact J_24 _ (24 : Int32) (4 : Nat) is ria rik rif (0 : Nat) rfl (by decide) (by decide) (rfl) (rfl) (hri) (hGri) (by omega) H locs ls (hP.sub [0, 1, 2, 3] rfl) (hD.sub [0, 1, 2, 3] (by decide +kernel) rfl) hS (lv_sub hl [0, 1, 2] rfl)
  · exact absurd ((nI_cmp (b := 6000) (by omega) (by decide)).mpr (by omega)) c_2
set_option maxHeartbeats 2000000 in
set_option maxRecDepth 100000 in
theorem f_RC_takeA_Table (l : Launch) (dC : Nat → ClassId) (dI : Nat → Nat → Nat) (cI cM cO : ClassId) (sz : Nat) (rc : Nat) (ma : Nat) (k : Nat) (fit : Int32) (fen : Int32) (frd : Int32) (fbd : Int32) (fir : Int32) (mf : Nat → Option Nat) (co : Nat) (xx : Int64) (xreadX : Int64) (soa : Nat) (sna : Nat) (swa : Nat) (xkept : Int32) (ri : Nat) (ro : Nat) (rw : Nat) (xasked : Int32) (roa : Nat) (rok : Nat) (rof : Nat → Int32) (os : List Nat) (nn : Int32) (hro : rOk (nI os.length) rok) (hGro : gIs rof os) (hLro : os.length ≤ 8192) (hno : nn < 0 ∨ nI os.length < nn - 2) : MetI l y_RC_take (Cond.code y_RC_take prog_1_method_10_code 4 (some .int) :: gw) ({ frames := 0, cells := 0, slots := 0, locals := 0 } : Room) (dC, dI) vwCl (kT cI cM cO) [Value.ref rc, Value.int nn] [(rc, Sum.inr (6, [Value.ref co, Value.ref ma, Value.int (nI k), Value.int fit, Value.int fen, Value.int frd, Value.int fbd, Value.int fir])), (co, Sum.inr (5, [Value.long xx, Value.long xreadX, Value.ref soa, Value.ref sna, Value.ref swa, Value.int xkept, Value.ref ri, Value.ref ro, Value.ref rw, Value.int xasked])), (ro, Sum.inr (0, [Value.int (nI os.length), Value.ref roa])), (roa, Sum.inl (cI, rok, Sum.inl rof))] sz (fun (r : Int32) (u : Unit) => r = -2) (fun (u : Unit) => [(rc, Sum.inr (6, [Value.ref co, Value.ref ma, Value.int (nI k), Value.int fit, Value.int fen, Value.int frd, Value.int fbd, Value.int fir])), (co, Sum.inr (5, [Value.long xx, Value.long xreadX, Value.ref soa, Value.ref sna, Value.ref swa, Value.int xkept, Value.ref ri, Value.ref ro, Value.ref rw, Value.int xasked])), (ro, Sum.inr (0, [Value.int (nI os.length), Value.ref roa])), (roa, Sum.inl (cI, rok, Sum.inl rof))]) 0 0 := by
  refine my_ofI (cc := prog_1_method_10_code) (n := 4) (ret := (some .int)) (by decide) rfl (Nat.le_of_ble_eq_true rfl) ?_
  intro p e s m args below meth c R Q A ls H locs hx hb hr hts hown hlocks hml hnm hR hQ hA hl hP hK hN hD hS
  have hg : ∀ w ∈ gw, w.before args s = true := fun w h => hts w (List.mem_cons_of_mem _ h)
  have hown : s.vm.findClass "RangeCoders" = some m.cls := hown
  have hl : lv_has ls 4 [(0, Value.ref rc), (1, Value.int nn)] := hl
  refine lv_iload_n hx hb d_RC_take_0 rfl (lv_at hl 1 rfl) ?_
  refine lv_if_lt (tgt := 20) hx hb d_RC_take_1 (by decide) (fun c_1 => ?_) (fun c_1 => ?_)
  · refine lv_bipush (v := (-2)) hx hb d_RC_take_20 (by decide) ?_
    exact my_iret (v := (-2)) hx hb hr (rfl) hlocks hQ hK hS (Nat.le_refl _) (Nat.le_refl _) () (rfl) (hP.sub [0, 1, 2, 3] rfl) (hD.sub [0, 1, 2, 3] (by decide +kernel) rfl) d_RC_take_22
  · refine lv_iload_n hx hb d_RC_take_4 rfl (lv_at hl 1 rfl) ?_
    refine lv_iconst (v := 2) hx hb d_RC_take_5 (by decide) ?_
    refine lv_isub hx hb d_RC_take_6 ?_
    refine lv_topi (fun v_2 ev_2 => ?_)
    refine lv_aload_n hx hb d_RC_take_7 rfl (lv_at hl 0 rfl) ?_
    refine va_get (D := (dC, dI)) (ci := 6) (v := .ref co) (C := "RangeCoders") (T := T_RC) (N := 8) hx hb hg in_RC hown hK hP 0 rfl rfl 0 (by decide) (hg _ k258) (fun _ h9 => h9) rfl d_RC_take_8 ?_
    refine va_get (D := (dC, dI)) (ci := 5) (v := .ref ro) (C := "RangeCoders$Table") (T := T_Table) (N := 10) hx hb hg in_Table hown hK hP 1 rfl rfl 7 (by decide) (hg _ k108) (fun _ h9 => h9) rfl d_RC_take_11 ?_
    refine va_get (D := (dC, dI)) (ci := 0) (v := .int (nI os.length)) (C := "RangeCoders$Row") (T := T_Row) (N := 2) hx hb hg in_Row hown hK hP 2 rfl rfl 0 (by decide) (hg _ k58) (fun _ h9 => h9) rfl d_RC_take_14 ?_
    refine lv_icmp_le (tgt := 23) hx hb d_RC_take_17 (by decide) (fun c_3 => ?_) (fun c_3 => ?_)
    · exact absurd hno (fun h9 => h9.elim c_1 (fun q9 => absurd (by rw [← ev_2]; exact c_3) (Int32.not_le.mpr q9)))
    · refine lv_bipush (v := (-2)) hx hb d_RC_take_20 (by decide) ?_
      exact my_iret (v := (-2)) hx hb hr (rfl) hlocks hQ hK hS (Nat.le_refl _) (Nat.le_refl _) () (rfl) (hP.sub [0, 1, 2, 3] rfl) (hD.sub [0, 1, 2, 3] (by decide +kernel) rfl) d_RC_take_22
set_option maxHeartbeats 2000000 in
set_option maxRecDepth 100000 in
theorem f_RC_takeB_Table (l : Launch) (dC : Nat → ClassId) (dI : Nat → Nat → Nat) (cI cM cO : ClassId) (sz : Nat) (sl : Nat) (rc : Nat) (ma : Nat) (k : Nat) (fit : Int32) (fen : Int32) (frd : Int32) (fbd : Int32) (fir : Int32) (mf : Nat → Option Nat) (co : Nat) (xx : Int64) (xreadX : Int64) (soa : Nat) (sna : Nat) (swa : Nat) (xkept : Int32) (ri : Nat) (ro : Nat) (rw : Nat) (xasked : Int32) (roa : Nat) (rok : Nat) (rof : Nat → Int32) (os : List Nat) (rin : Int32) (ria : Nat) (rik : Nat) (rif : Nat → Int32) (nn : Int32) (ll : Nat) (hro : rOk (nI os.length) rok) (hGro : gIs rof os) (hLro : os.length ≤ 8192) (hri : rOk rin rik) (hn0 : ¬ nn < 0) (hn2 : nn - 2 ≤ nI os.length) (hll : ll ≤ os.length) (hl1 : nn = 1 → ll = os.length) (hl2 : ¬ nn = 1 → (if (0 : Int32) < nn - 2 then nn - 2 else 0) = nI ll) : MetIg l y_RC_take (Cond.code y_RC_take prog_1_method_10_code 4 (some .int) :: gw) ({ frames := 3, cells := rPh rik, slots := rPh rik, locals := 83 } : Room) (dC, dI) vwCl (kT cI cM cO) [Value.ref rc, Value.int nn] [(rc, Sum.inr (6, [Value.ref co, Value.ref ma, Value.int (nI k), Value.int fit, Value.int fen, Value.int frd, Value.int fbd, Value.int fir])), (co, Sum.inr (5, [Value.long xx, Value.long xreadX, Value.ref soa, Value.ref sna, Value.ref swa, Value.int xkept, Value.ref ri, Value.ref ro, Value.ref rw, Value.int xasked])), (ro, Sum.inr (0, [Value.int (nI os.length), Value.ref roa])), (roa, Sum.inl (cI, rok, Sum.inl rof)), (ri, Sum.inr (0, [Value.int rin, Value.ref ria])), (ria, Sum.inl (cI, rik, Sum.inl rif))] sz sl (fun (r : Int32) (u : Nat × Nat × (Nat → Int32)) => r = nI (os.take ll).length ∧ rOk (nI (os.take ll).length) u.2.1 ∧ gIs u.2.2 (os.take ll)) (fun (u : Nat × Nat × (Nat → Int32)) => [(rc, Sum.inr (6, [Value.ref co, Value.ref ma, Value.int (nI k), Value.int fit, Value.int fen, Value.int 0, Value.int 0, Value.int 0])), (co, Sum.inr (5, [Value.long xx, Value.long xreadX, Value.ref soa, Value.ref sna, Value.ref swa, Value.int xkept, Value.ref ri, Value.ref ro, Value.ref rw, Value.int xasked])), (ro, Sum.inr (0, [Value.int (nI os.length), Value.ref roa])), (roa, Sum.inl (cI, rok, Sum.inl rof)), (ri, Sum.inr (0, [Value.int (nI (os.take ll).length), Value.ref u.1])), (u.1, Sum.inl (cI, u.2.1, Sum.inl u.2.2))]) (rPh rik) (fun (u : Nat × Nat × (Nat → Int32)) => rPh u.2.1) := by
  refine my_ofIg (cc := prog_1_method_10_code) (n := 4) (ret := (some .int)) (by decide) rfl (Nat.le_of_ble_eq_true rfl) ?_
  intro p e s m args below meth c R Q A ls H locs hx hb hr hts hown hlocks hml hnm hR hQ hA hl hP hK hN hD hS
  have hg : ∀ w ∈ gw, w.before args s = true := fun w h => hts w (List.mem_cons_of_mem _ h)
  have hown : s.vm.findClass "RangeCoders" = some m.cls := hown
  have hl : lv_has ls 4 [(0, Value.ref rc), (1, Value.int nn)] := hl
  have hlti := rOk_lt hri
  have hlto := rOk_lt hro
  refine lv_iload_n hx hb d_RC_take_0 rfl (lv_at hl 1 rfl) ?_
  refine lv_if_lt (tgt := 20) hx hb d_RC_take_1 (by decide) (fun c_1 => ?_) (fun c_1 => ?_)
  · exact absurd c_1 hn0
  · refine lv_iload_n hx hb d_RC_take_4 rfl (lv_at hl 1 rfl) ?_
    refine lv_iconst (v := 2) hx hb d_RC_take_5 (by decide) ?_
    refine lv_isub hx hb d_RC_take_6 ?_
    refine lv_topi (fun v_2 ev_2 => ?_)
    refine lv_aload_n hx hb d_RC_take_7 rfl (lv_at hl 0 rfl) ?_
    refine va_get (D := (dC, dI)) (ci := 6) (v := .ref co) (C := "RangeCoders") (T := T_RC) (N := 8) hx hb hg in_RC hown hK hP 0 rfl rfl 0 (by decide) (hg _ k258) (fun _ h9 => h9) rfl d_RC_take_8 ?_
    refine va_get (D := (dC, dI)) (ci := 5) (v := .ref ro) (C := "RangeCoders$Table") (T := T_Table) (N := 10) hx hb hg in_Table hown hK hP 1 rfl rfl 7 (by decide) (hg _ k108) (fun _ h9 => h9) rfl d_RC_take_11 ?_
    refine va_get (D := (dC, dI)) (ci := 0) (v := .int (nI os.length)) (C := "RangeCoders$Row") (T := T_Row) (N := 2) hx hb hg in_Row hown hK hP 2 rfl rfl 0 (by decide) (hg _ k58) (fun _ h9 => h9) rfl d_RC_take_14 ?_
    refine lv_icmp_le (tgt := 23) hx hb d_RC_take_17 (by decide) (fun c_3 => ?_) (fun c_3 => ?_)
    · refine lv_iload_n hx hb d_RC_take_23 rfl (lv_at hl 1 rfl) ?_
      refine lv_iconst (v := 1) hx hb d_RC_take_24 (by decide) ?_
      refine lv_icmp_ne (tgt := 41) hx hb d_RC_take_25 (by decide) (fun c_4 => ?_) (fun c_4 => ?_)
      · refine lv_iconst (v := 0) hx hb d_RC_take_41 (by decide) ?_
        refine lv_iload_n hx hb d_RC_take_42 rfl (lv_at hl 1 rfl) ?_
        refine lv_iconst (v := 2) hx hb d_RC_take_43 (by decide) ?_
        refine lv_isub hx hb d_RC_take_44 ?_
        refine lv_topi (fun v_5 ev_5 => ?_)
        refine va_mmax hx hb (by rw [hml]; exact hl.1.symm) hown (hg _ k33) (hg _ k34) (hg _ k2) (hg _ k35) (by rw [hR]; exact Nat.le_of_ble_eq_true rfl) (by rw [hR]; exact Nat.le_of_ble_eq_true rfl) (Nat.zero_le _) (Nat.zero_le _) d_RC_take_45 ?_
        refine lv_topi (fun v_6 ev_6 => ?_)
        have z9 : v_6 = nI ll := by rw [← hl2 c_4]; subst_vars; rfl
        subst z9
        refine lv_istore_n (lv' := [(2, Value.int (nI ll)), (0, Value.ref rc), (1, Value.int nn)]) hx hb d_RC_take_48 rfl hl (by decide) rfl (fun ls hl => ?_)
        refine lv_aload_n hx hb d_RC_take_49 rfl (lv_at hl 1 rfl) ?_
        refine va_get (D := (dC, dI)) (ci := 6) (v := .ref co) (C := "RangeCoders") (T := T_RC) (N := 8) hx hb hg in_RC hown hK hP 0 rfl rfl 0 (by decide) (hg _ k258) (fun _ h9 => h9) rfl d_RC_take_50 ?_
        refine va_get (D := (dC, dI)) (ci := 5) (v := .ref ri) (C := "RangeCoders$Table") (T := T_Table) (N := 10) hx hb hg in_Table hown hK hP 1 rfl rfl 6 (by decide) (hg _ k102) (fun _ h9 => h9) rfl d_RC_take_53 ?_
        refine my_cv (wr := [(rc, Sum.inr (6, [Value.ref co, Value.ref ma, Value.int (nI k), Value.int fit, Value.int fen, Value.int frd, Value.int fbd, Value.int fir])), (co, Sum.inr (5, [Value.long xx, Value.long xreadX, Value.ref soa, Value.ref sna, Value.ref swa, Value.int xkept, Value.ref ri, Value.ref ro, Value.ref rw, Value.int xasked])), (ro, Sum.inr (0, [Value.int (nI os.length), Value.ref roa])), (roa, Sum.inl (cI, rok, Sum.inl rof))]) (va_runV (As := []) (rest := []) ⟨hx, hb, hml, hown, hts⟩ (c_Row_clear l dC dI cI cM cO H.size ri rin ria rik rif (hri)) (cwV 0 hts (my_gV k713 k594 k595 k6 k596) rfl rfl rfl cu_Row_clear_0 ⟨by rw [hR]; exact Nat.le_of_ble_eq_true rfl, by rw [hR]; exact Nat.le_of_ble_eq_true rfl⟩) (my_preV hK hN (hP.sub [4, 5] rfl) (hD.sub [4, 5] (by decide +kernel) rfl) 0 rfl rfl) rfl rfl hl.1 rfl (lv_room (Nat.le_of_ble_eq_true rfl)) d_RC_take_56 ⟨by rw [hR]; exact (show 0 + 0 ≤ (rPh rik) by omega), by rw [hR]; exact (show 0 + 0 ≤ (rPh rik) by omega)⟩) hP hD hS hA [4, 5] [0, 1, 2, 3] rfl rfl (by decide +kernel) (by decide +kernel) (fun u9 H locs hw_56 hP hD hS => ?_)
        have hr_56 : rOk 0 rik := hw_56
        have hPD : my_PD (dC, dI) vwCl A [(rc, Sum.inr (6, [Value.ref co, Value.ref ma, Value.int (nI k), Value.int fit, Value.int fen, Value.int frd, Value.int fbd, Value.int fir])), (co, Sum.inr (5, [Value.long xx, Value.long xreadX, Value.ref soa, Value.ref sna, Value.ref swa, Value.int xkept, Value.ref ri, Value.ref ro, Value.ref rw, Value.int xasked])), (ro, Sum.inr (0, [Value.int (nI os.length), Value.ref roa])), (roa, Sum.inl (cI, rok, Sum.inl rof)), (ri, Sum.inr (0, [Value.int 0, Value.ref ria])), (ria, Sum.inl (cI, rik, Sum.inl rif))] H := ⟨hP, hD⟩
        have hP := hPD.1
        have hD := hPD.2
        refine lv_iconst (v := 0) hx hb d_RC_take_59 (by decide) ?_
        refine lv_istore_n (lv' := [(3, Value.int 0), (2, Value.int (nI ll)), (0, Value.ref rc), (1, Value.int nn)]) hx hb d_RC_take_60 rfl hl (by decide) rfl (fun ls hl => ?_)
        have J_61 : ∀ (n9_61 : Nat) (j : Nat) (b9 : List Nat) (ria9 : Nat) (rik9 : Nat) (rif9 : Nat → Int32) (d9 : Nat) (hn9_61 : ll - j = n9_61) (hj : j ≤ ll) (hb9 : b9 = os.take j) (hr9 : rOk (nI b9.length) rik9) (hg9 : gIs rif9 b9) (hd9 : d9 + rPh rik9 ≤ rPh rik) (H : Heap) (locs : List Loc) (ls : Array Slot), va_P (dC, dI) vwCl [(rc, Sum.inr (6, [Value.ref co, Value.ref ma, Value.int (nI k), Value.int fit, Value.int fen, Value.int frd, Value.int fbd, Value.int fir])), (co, Sum.inr (5, [Value.long xx, Value.long xreadX, Value.ref soa, Value.ref sna, Value.ref swa, Value.int xkept, Value.ref ri, Value.ref ro, Value.ref rw, Value.int xasked])), (ro, Sum.inr (0, [Value.int (nI os.length), Value.ref roa])), (roa, Sum.inl (cI, rok, Sum.inl rof)), (ri, Sum.inr (0, [Value.int (nI b9.length), Value.ref ria9])), (ria9, Sum.inl (cI, rik9, Sum.inl rif9))] H → va_D A [(rc, Sum.inr (6, [Value.ref co, Value.ref ma, Value.int (nI k), Value.int fit, Value.int fen, Value.int frd, Value.int fbd, Value.int fir])), (co, Sum.inr (5, [Value.long xx, Value.long xreadX, Value.ref soa, Value.ref sna, Value.ref swa, Value.int xkept, Value.ref ri, Value.ref ro, Value.ref rw, Value.int xasked])), (ro, Sum.inr (0, [Value.int (nI os.length), Value.ref roa])), (roa, Sum.inl (cI, rok, Sum.inl rof)), (ri, Sum.inr (0, [Value.int (nI b9.length), Value.ref ria9])), (ria9, Sum.inl (cI, rik9, Sum.inl rif9))] → va_S A s.heap H locs → lv_has ls 4 [(3, Value.int (nI j)), (2, Value.int (nI ll)), (0, Value.ref rc), (1, Value.int nn)] → W p l e R s m args below meth c H locs d9 d9 Q (F0 m 61 ls []) := by
          intro n9_61
          induction n9_61 using Nat.strongRecOn with
          | ind n9_61 ih9_61 =>
            intro j b9 ria9 rik9 rif9 d9 hn9_61 hj hb9 hr9 hg9 hd9 H locs ls hP hD hS hl
            have hbl : b9.length = j := by rw [hb9, List.length_take]; omega
            refine lv_iload_n hx hb d_RC_take_61 rfl (lv_at hl 0 rfl) ?_
            refine lv_iload_n hx hb d_RC_take_62 rfl (lv_at hl 1 rfl) ?_
            refine lv_icmp_ge (tgt := 93) hx hb d_RC_take_63 (by decide) (fun c_7 => ?_) (fun c_7 => ?_)
            · have hj3 : ll = j := by have := nI_ge' (by omega) (by omega) c_7; omega
              subst hj3
              have hPD : my_PD (dC, dI) vwCl A [(rc, Sum.inr (6, [Value.ref co, Value.ref ma, Value.int (nI k), Value.int fit, Value.int fen, Value.int frd, Value.int fbd, Value.int fir])), (co, Sum.inr (5, [Value.long xx, Value.long xreadX, Value.ref soa, Value.ref sna, Value.ref swa, Value.int xkept, Value.ref ri, Value.ref ro, Value.ref rw, Value.int xasked])), (ro, Sum.inr (0, [Value.int (nI os.length), Value.ref roa])), (roa, Sum.inl (cI, rok, Sum.inl rof)), (ri, Sum.inr (0, [Value.int (nI b9.length), Value.ref ria9])), (ria9, Sum.inl (cI, rik9, Sum.inl rif9))] H := ⟨hP, hD⟩
              have hP := hPD.1
              have hD := hPD.2
              have z9 : b9 = os.take ll := hb9
              subst z9
              refine lv_aload_n hx hb d_RC_take_93 rfl (lv_at hl 2 rfl) ?_
              refine lv_iconst (v := 0) hx hb d_RC_take_94 (by decide) ?_
              refine va_put (D := (dC, dI)) (ci := 6) (v := .int 0) (ty := .boolean) (C := "RangeCoders") (T := T_RC) (N := 8) hx hb hg in_RC t_RC o_RC n_RC hown hK hP hD hS 0 rfl rfl 5 (by decide) (hg _ k263) (fun _ h9 => h9) rfl (o_RC 5 (by decide)) rfl rfl (Nat.le_of_ble_eq_true rfl) d_RC_take_95 (fun H locs hP hD hS => ?_)
              have hPD : my_PD (dC, dI) vwCl A [(rc, Sum.inr (6, [Value.ref co, Value.ref ma, Value.int (nI k), Value.int fit, Value.int fen, Value.int 0, Value.int fbd, Value.int fir])), (co, Sum.inr (5, [Value.long xx, Value.long xreadX, Value.ref soa, Value.ref sna, Value.ref swa, Value.int xkept, Value.ref ri, Value.ref ro, Value.ref rw, Value.int xasked])), (ro, Sum.inr (0, [Value.int (nI os.length), Value.ref roa])), (roa, Sum.inl (cI, rok, Sum.inl rof)), (ri, Sum.inr (0, [Value.int (nI (os.take ll).length), Value.ref ria9])), (ria9, Sum.inl (cI, rik9, Sum.inl rif9))] H := ⟨hP, hD⟩
              have hP := hPD.1
              have hD := hPD.2
              refine lv_aload_n hx hb d_RC_take_98 rfl (lv_at hl 2 rfl) ?_
              refine lv_iconst (v := 0) hx hb d_RC_take_99 (by decide) ?_
              refine va_put (D := (dC, dI)) (ci := 6) (v := .int 0) (ty := .boolean) (C := "RangeCoders") (T := T_RC) (N := 8) hx hb hg in_RC t_RC o_RC n_RC hown hK hP hD hS 0 rfl rfl 6 (by decide) (hg _ k264) (fun _ h9 => h9) rfl (o_RC 6 (by decide)) rfl rfl (Nat.le_of_ble_eq_true rfl) d_RC_take_100 (fun H locs hP hD hS => ?_)
              have hPD : my_PD (dC, dI) vwCl A [(rc, Sum.inr (6, [Value.ref co, Value.ref ma, Value.int (nI k), Value.int fit, Value.int fen, Value.int 0, Value.int 0, Value.int fir])), (co, Sum.inr (5, [Value.long xx, Value.long xreadX, Value.ref soa, Value.ref sna, Value.ref swa, Value.int xkept, Value.ref ri, Value.ref ro, Value.ref rw, Value.int xasked])), (ro, Sum.inr (0, [Value.int (nI os.length), Value.ref roa])), (roa, Sum.inl (cI, rok, Sum.inl rof)), (ri, Sum.inr (0, [Value.int (nI (os.take ll).length), Value.ref ria9])), (ria9, Sum.inl (cI, rik9, Sum.inl rif9))] H := ⟨hP, hD⟩
              have hP := hPD.1
              have hD := hPD.2
              refine lv_aload_n hx hb d_RC_take_103 rfl (lv_at hl 2 rfl) ?_
              refine lv_iconst (v := 0) hx hb d_RC_take_104 (by decide) ?_
              refine va_put (D := (dC, dI)) (ci := 6) (v := .int 0) (ty := .int) (C := "RangeCoders") (T := T_RC) (N := 8) hx hb hg in_RC t_RC o_RC n_RC hown hK hP hD hS 0 rfl rfl 7 (by decide) (hg _ k265) (fun _ h9 => h9) rfl (o_RC 7 (by decide)) rfl rfl (Nat.le_of_ble_eq_true rfl) d_RC_take_105 (fun H locs hP hD hS => ?_)
              have hPD : my_PD (dC, dI) vwCl A [(rc, Sum.inr (6, [Value.ref co, Value.ref ma, Value.int (nI k), Value.int fit, Value.int fen, Value.int 0, Value.int 0, Value.int 0])), (co, Sum.inr (5, [Value.long xx, Value.long xreadX, Value.ref soa, Value.ref sna, Value.ref swa, Value.int xkept, Value.ref ri, Value.ref ro, Value.ref rw, Value.int xasked])), (ro, Sum.inr (0, [Value.int (nI os.length), Value.ref roa])), (roa, Sum.inl (cI, rok, Sum.inl rof)), (ri, Sum.inr (0, [Value.int (nI (os.take ll).length), Value.ref ria9])), (ria9, Sum.inl (cI, rik9, Sum.inl rif9))] H := ⟨hP, hD⟩
              have hP := hPD.1
              have hD := hPD.2
              refine lv_aload_n hx hb d_RC_take_108 rfl (lv_at hl 2 rfl) ?_
              refine va_get (D := (dC, dI)) (ci := 6) (v := .ref co) (C := "RangeCoders") (T := T_RC) (N := 8) hx hb hg in_RC hown hK hP 0 rfl rfl 0 (by decide) (hg _ k258) (fun _ h9 => h9) rfl d_RC_take_109 ?_
              refine va_get (D := (dC, dI)) (ci := 5) (v := .ref ri) (C := "RangeCoders$Table") (T := T_Table) (N := 10) hx hb hg in_Table hown hK hP 1 rfl rfl 6 (by decide) (hg _ k102) (fun _ h9 => h9) rfl d_RC_take_112 ?_
              refine va_get (D := (dC, dI)) (ci := 0) (v := .int (nI (os.take ll).length)) (C := "RangeCoders$Row") (T := T_Row) (N := 2) hx hb hg in_Row hown hK hP 4 rfl rfl 0 (by decide) (hg _ k58) (fun _ h9 => h9) rfl d_RC_take_115 ?_
              exact my_iretg (v := nI (os.take ll).length) hx hb hr (rfl) hlocks hQ hK hS (ria9, rik9, rif9) (show d9 + (rPh rik9) ≤ (rPh rik) by omega) (show d9 + (rPh rik9) ≤ (rPh rik) by omega) (⟨rfl, hr9, hg9⟩) (hP.sub [0, 1, 2, 3, 4, 5] rfl) (hD.sub [0, 1, 2, 3, 4, 5] (by decide +kernel) rfl) d_RC_take_118
            · have hj2 : j < ll := nI_lt' (by omega) c_7
              refine lv_aload_n hx hb d_RC_take_66 rfl (lv_at hl 2 rfl) ?_
              refine va_get (D := (dC, dI)) (ci := 6) (v := .ref co) (C := "RangeCoders") (T := T_RC) (N := 8) hx hb hg in_RC hown hK hP 0 rfl rfl 0 (by decide) (hg _ k258) (fun _ h9 => h9) rfl d_RC_take_67 ?_
              refine va_get (D := (dC, dI)) (ci := 5) (v := .ref ri) (C := "RangeCoders$Table") (T := T_Table) (N := 10) hx hb hg in_Table hown hK hP 1 rfl rfl 6 (by decide) (hg _ k102) (fun _ h9 => h9) rfl d_RC_take_70 ?_
              refine lv_aload_n hx hb d_RC_take_73 rfl (lv_at hl 2 rfl) ?_
              refine va_get (D := (dC, dI)) (ci := 6) (v := .ref co) (C := "RangeCoders") (T := T_RC) (N := 8) hx hb hg in_RC hown hK hP 0 rfl rfl 0 (by decide) (hg _ k258) (fun _ h9 => h9) rfl d_RC_take_74 ?_
              refine va_get (D := (dC, dI)) (ci := 5) (v := .ref ro) (C := "RangeCoders$Table") (T := T_Table) (N := 10) hx hb hg in_Table hown hK hP 1 rfl rfl 7 (by decide) (hg _ k108) (fun _ h9 => h9) rfl d_RC_take_77 ?_
              refine lv_iload_n hx hb d_RC_take_80 rfl (lv_at hl 0 rfl) ?_
              refine my_ci (wr := [(rc, Sum.inr (6, [Value.ref co, Value.ref ma, Value.int (nI k), Value.int fit, Value.int fen, Value.int frd, Value.int fbd, Value.int fir])), (co, Sum.inr (5, [Value.long xx, Value.long xreadX, Value.ref soa, Value.ref sna, Value.ref swa, Value.int xkept, Value.ref ri, Value.ref ro, Value.ref rw, Value.int xasked])), (ri, Sum.inr (0, [Value.int (nI b9.length), Value.ref ria9])), (ria9, Sum.inl (cI, rik9, Sum.inl rif9))]) (va_runV (As := [Value.int (nI j)]) (rest := [Value.ref ri]) ⟨hx, hb, hml, hown, hts⟩ (f_Row_at l dC dI cI cM cO H.size ro roa rok rof os (nI j) (hro) (hGro) (hLro)) (cwV 1 hts (my_gV k703 k659 k660 k6 k661) rfl rfl rfl cu_Row_at_1 ⟨by rw [hR]; exact Nat.le_of_ble_eq_true rfl, by rw [hR]; exact Nat.le_of_ble_eq_true rfl⟩) (my_preV hK hN (hP.sub [2, 3] rfl) (hD.sub [2, 3] (by decide +kernel) rfl) 0 rfl rfl) rfl rfl hl.1 rfl (lv_room (Nat.le_of_ble_eq_true rfl)) d_RC_take_81 ⟨by rw [hR]; exact (show d9 + 0 ≤ (rPh rik) by omega), by rw [hR]; exact (show d9 + 0 ≤ (rPh rik) by omega)⟩) hP hD hS hA [2, 3] [0, 1, 4, 5] rfl rfl (by decide +kernel) (by decide +kernel) (fun r_81 u9 H locs hw_81 hP hD hS => ?_)
              have hr_81 : r_81 = rAt os (nI j) := hw_81
              have hPD : my_PD (dC, dI) vwCl A [(rc, Sum.inr (6, [Value.ref co, Value.ref ma, Value.int (nI k), Value.int fit, Value.int fen, Value.int frd, Value.int fbd, Value.int fir])), (co, Sum.inr (5, [Value.long xx, Value.long xreadX, Value.ref soa, Value.ref sna, Value.ref swa, Value.int xkept, Value.ref ri, Value.ref ro, Value.ref rw, Value.int xasked])), (ri, Sum.inr (0, [Value.int (nI b9.length), Value.ref ria9])), (ria9, Sum.inl (cI, rik9, Sum.inl rif9)), (ro, Sum.inr (0, [Value.int (nI os.length), Value.ref roa])), (roa, Sum.inl (cI, rok, Sum.inl rof))] H := ⟨hP, hD⟩
              have hP := hPD.1
              have hD := hPD.2
              have z9 : r_81 = nI (os.getD j 0) := by rw [hr_81]; exact rAt_nI (by omega) (by omega)
              subst z9
              refine my_cvg (wr := [(rc, Sum.inr (6, [Value.ref co, Value.ref ma, Value.int (nI k), Value.int fit, Value.int fen, Value.int frd, Value.int fbd, Value.int fir])), (co, Sum.inr (5, [Value.long xx, Value.long xreadX, Value.ref soa, Value.ref sna, Value.ref swa, Value.int xkept, Value.ref ri, Value.ref ro, Value.ref rw, Value.int xasked])), (ro, Sum.inr (0, [Value.int (nI os.length), Value.ref roa])), (roa, Sum.inl (cI, rok, Sum.inl rof))]) (va_runV (As := [Value.int (nI (os.getD j 0))]) (rest := []) ⟨hx, hb, hml, hown, hts⟩ (f_Row_add l dC dI cI cM cO H.size (hSl H) ri ria9 rik9 rif9 b9 (os.getD j 0) (hr9) (hg9) (by omega)) (cwV 1 hts (my_gV k708 k473 k474 k6 k475) rfl rfl rfl cu_Row_add_1 ⟨by rw [hR]; exact Nat.le_of_ble_eq_true rfl, by rw [hR]; exact Nat.le_of_ble_eq_true rfl⟩) (my_preVg hK hN (hP.sub [2, 3] rfl) (hD.sub [2, 3] (by decide +kernel) rfl) 0 rfl rfl) rfl rfl hl.1 rfl (lv_room (Nat.le_of_ble_eq_true rfl)) d_RC_take_84 ⟨by rw [hR]; exact (show d9 + (rPh rik9) ≤ (rPh rik) by omega), by rw [hR]; exact (show d9 + (rPh rik9) ≤ (rPh rik) by omega)⟩) hP hD hS hA [2, 3] [0, 1, 4, 5] rfl rfl (by decide +kernel) (by decide +kernel) (fun u9 d_84 H locs hd_84 hw_84 hP hD hS => ?_)
              obtain ⟨rraq_84, rrkq_84, rrfq_84⟩ := u9
              obtain ⟨hrr_84, hGrr_84⟩ : rOk (nI (b9 ++ [(os.getD j 0)]).length) rrkq_84 ∧ gIs rrfq_84 (b9 ++ [(os.getD j 0)]) := hw_84
              have hd_84 : d_84 + (rPh rrkq_84) ≤ (rPh rik9) := hd_84
              have hPD : my_PD (dC, dI) vwCl A [(rc, Sum.inr (6, [Value.ref co, Value.ref ma, Value.int (nI k), Value.int fit, Value.int fen, Value.int frd, Value.int fbd, Value.int fir])), (co, Sum.inr (5, [Value.long xx, Value.long xreadX, Value.ref soa, Value.ref sna, Value.ref swa, Value.int xkept, Value.ref ri, Value.ref ro, Value.ref rw, Value.int xasked])), (ro, Sum.inr (0, [Value.int (nI os.length), Value.ref roa])), (roa, Sum.inl (cI, rok, Sum.inl rof)), (ri, Sum.inr (0, [Value.int (nI (b9 ++ [(os.getD j 0)]).length), Value.ref rraq_84])), (rraq_84, Sum.inl (cI, rrkq_84, Sum.inl rrfq_84))] H := ⟨hP, hD⟩
              have hP := hPD.1
              have hD := hPD.2
              obtain ⟨v_8, ev_8⟩ : ∃ y : Int32, y = (nI j) + (1) := ⟨_, rfl⟩
              refine lv_iinc (v := v_8) (lv' := [(3, Value.int v_8), (2, Value.int (nI ll)), (0, Value.ref rc), (1, Value.int nn)]) hx hb d_RC_take_87 hl (k := 0) rfl (by rw [ev_8]; rfl) (by decide) rfl (fun ls hl => ?_)
              have z9 : v_8 = nI (j + 1) := by rw [ev_8]; exact nI_1 _
              subst z9
              refine lv_goto (tgt := 61) hx hb d_RC_take_90 (by decide) ?_
              exact ih9_61 _ (by first | omega | (omega)) (j + 1) (b9 ++ [os.getD j 0]) rraq_84 rrkq_84 rrfq_84 (d9 + d_84) rfl (by omega) (by rw [hb9]; exact tk_st (by omega)) (hrr_84) (hGrr_84) (by omega) H locs ls (hP.sub [0, 1, 2, 3, 4, 5] rfl) (hD.sub [0, 1, 2, 3, 4, 5] (by decide +kernel) rfl) hS (lv_sub hl [0, 1, 2, 3] rfl)
        exact J_61 _ (0 : Nat) ([]) ria rik rif (0 : Nat) rfl (Nat.zero_le _) (rfl) (hr_56) (fun i h => absurd h (Nat.not_lt_zero i)) (by omega) H locs ls (hP.sub [0, 1, 2, 3, 4, 5] rfl) (hD.sub [0, 1, 2, 3, 4, 5] (by decide +kernel) rfl) hS (lv_sub hl [0, 1, 2, 3] rfl)
      · refine lv_aload_n hx hb d_RC_take_28 rfl (lv_at hl 0 rfl) ?_
        refine va_get (D := (dC, dI)) (ci := 6) (v := .ref co) (C := "RangeCoders") (T := T_RC) (N := 8) hx hb hg in_RC hown hK hP 0 rfl rfl 0 (by decide) (hg _ k258) (fun _ h9 => h9) rfl d_RC_take_29 ?_
        refine va_get (D := (dC, dI)) (ci := 5) (v := .ref ro) (C := "RangeCoders$Table") (T := T_Table) (N := 10) hx hb hg in_Table hown hK hP 1 rfl rfl 7 (by decide) (hg _ k108) (fun _ h9 => h9) rfl d_RC_take_32 ?_
        refine va_get (D := (dC, dI)) (ci := 0) (v := .int (nI os.length)) (C := "RangeCoders$Row") (T := T_Row) (N := 2) hx hb hg in_Row hown hK hP 2 rfl rfl 0 (by decide) (hg _ k58) (fun _ h9 => h9) rfl d_RC_take_35 ?_
        refine lv_goto (tgt := 48) hx hb d_RC_take_38 (by decide) ?_
        refine W.eq (g2 := F0 m 48 ls [Value.int (nI ll)]) (by rw [hl1 c_4]) ?_
        refine lv_istore_n (lv' := [(2, Value.int (nI ll)), (0, Value.ref rc), (1, Value.int nn)]) hx hb d_RC_take_48 rfl hl (by decide) rfl (fun ls hl => ?_)
        refine lv_aload_n hx hb d_RC_take_49 rfl (lv_at hl 1 rfl) ?_
        refine va_get (D := (dC, dI)) (ci := 6) (v := .ref co) (C := "RangeCoders") (T := T_RC) (N := 8) hx hb hg in_RC hown hK hP 0 rfl rfl 0 (by decide) (hg _ k258) (fun _ h9 => h9) rfl d_RC_take_50 ?_
        refine va_get (D := (dC, dI)) (ci := 5) (v := .ref ri) (C := "RangeCoders$Table") (T := T_Table) (N := 10) hx hb hg in_Table hown hK hP 1 rfl rfl 6 (by decide) (hg _ k102) (fun _ h9 => h9) rfl d_RC_take_53 ?_
        refine my_cv (wr := [(rc, Sum.inr (6, [Value.ref co, Value.ref ma, Value.int (nI k), Value.int fit, Value.int fen, Value.int frd, Value.int fbd, Value.int fir])), (co, Sum.inr (5, [Value.long xx, Value.long xreadX, Value.ref soa, Value.ref sna, Value.ref swa, Value.int xkept, Value.ref ri, Value.ref ro, Value.ref rw, Value.int xasked])), (ro, Sum.inr (0, [Value.int (nI os.length), Value.ref roa])), (roa, Sum.inl (cI, rok, Sum.inl rof))]) (va_runV (As := []) (rest := []) ⟨hx, hb, hml, hown, hts⟩ (c_Row_clear l dC dI cI cM cO H.size ri rin ria rik rif (hri)) (cwV 0 hts (my_gV k713 k594 k595 k6 k596) rfl rfl rfl cu_Row_clear_0 ⟨by rw [hR]; exact Nat.le_of_ble_eq_true rfl, by rw [hR]; exact Nat.le_of_ble_eq_true rfl⟩) (my_preV hK hN (hP.sub [4, 5] rfl) (hD.sub [4, 5] (by decide +kernel) rfl) 0 rfl rfl) rfl rfl hl.1 rfl (lv_room (Nat.le_of_ble_eq_true rfl)) d_RC_take_56 ⟨by rw [hR]; exact (show 0 + 0 ≤ (rPh rik) by omega), by rw [hR]; exact (show 0 + 0 ≤ (rPh rik) by omega)⟩) hP hD hS hA [4, 5] [0, 1, 2, 3] rfl rfl (by decide +kernel) (by decide +kernel) (fun u9 H locs hw_56 hP hD hS => ?_)
        have hr_56 : rOk 0 rik := hw_56
        have hPD : my_PD (dC, dI) vwCl A [(rc, Sum.inr (6, [Value.ref co, Value.ref ma, Value.int (nI k), Value.int fit, Value.int fen, Value.int frd, Value.int fbd, Value.int fir])), (co, Sum.inr (5, [Value.long xx, Value.long xreadX, Value.ref soa, Value.ref sna, Value.ref swa, Value.int xkept, Value.ref ri, Value.ref ro, Value.ref rw, Value.int xasked])), (ro, Sum.inr (0, [Value.int (nI os.length), Value.ref roa])), (roa, Sum.inl (cI, rok, Sum.inl rof)), (ri, Sum.inr (0, [Value.int 0, Value.ref ria])), (ria, Sum.inl (cI, rik, Sum.inl rif))] H := ⟨hP, hD⟩
        have hP := hPD.1
        have hD := hPD.2
        refine lv_iconst (v := 0) hx hb d_RC_take_59 (by decide) ?_
        refine lv_istore_n (lv' := [(3, Value.int 0), (2, Value.int (nI ll)), (0, Value.ref rc), (1, Value.int nn)]) hx hb d_RC_take_60 rfl hl (by decide) rfl (fun ls hl => ?_)
        have J_61 : ∀ (n9_61 : Nat) (j : Nat) (b9 : List Nat) (ria9 : Nat) (rik9 : Nat) (rif9 : Nat → Int32) (d9 : Nat) (hn9_61 : ll - j = n9_61) (hj : j ≤ ll) (hb9 : b9 = os.take j) (hr9 : rOk (nI b9.length) rik9) (hg9 : gIs rif9 b9) (hd9 : d9 + rPh rik9 ≤ rPh rik) (H : Heap) (locs : List Loc) (ls : Array Slot), va_P (dC, dI) vwCl [(rc, Sum.inr (6, [Value.ref co, Value.ref ma, Value.int (nI k), Value.int fit, Value.int fen, Value.int frd, Value.int fbd, Value.int fir])), (co, Sum.inr (5, [Value.long xx, Value.long xreadX, Value.ref soa, Value.ref sna, Value.ref swa, Value.int xkept, Value.ref ri, Value.ref ro, Value.ref rw, Value.int xasked])), (ro, Sum.inr (0, [Value.int (nI os.length), Value.ref roa])), (roa, Sum.inl (cI, rok, Sum.inl rof)), (ri, Sum.inr (0, [Value.int (nI b9.length), Value.ref ria9])), (ria9, Sum.inl (cI, rik9, Sum.inl rif9))] H → va_D A [(rc, Sum.inr (6, [Value.ref co, Value.ref ma, Value.int (nI k), Value.int fit, Value.int fen, Value.int frd, Value.int fbd, Value.int fir])), (co, Sum.inr (5, [Value.long xx, Value.long xreadX, Value.ref soa, Value.ref sna, Value.ref swa, Value.int xkept, Value.ref ri, Value.ref ro, Value.ref rw, Value.int xasked])), (ro, Sum.inr (0, [Value.int (nI os.length), Value.ref roa])), (roa, Sum.inl (cI, rok, Sum.inl rof)), (ri, Sum.inr (0, [Value.int (nI b9.length), Value.ref ria9])), (ria9, Sum.inl (cI, rik9, Sum.inl rif9))] → va_S A s.heap H locs → lv_has ls 4 [(3, Value.int (nI j)), (2, Value.int (nI ll)), (0, Value.ref rc), (1, Value.int nn)] → W p l e R s m args below meth c H locs d9 d9 Q (F0 m 61 ls []) := by
          intro n9_61
          induction n9_61 using Nat.strongRecOn with
          | ind n9_61 ih9_61 =>
            intro j b9 ria9 rik9 rif9 d9 hn9_61 hj hb9 hr9 hg9 hd9 H locs ls hP hD hS hl
            have hbl : b9.length = j := by rw [hb9, List.length_take]; omega
            refine lv_iload_n hx hb d_RC_take_61 rfl (lv_at hl 0 rfl) ?_
            refine lv_iload_n hx hb d_RC_take_62 rfl (lv_at hl 1 rfl) ?_
            refine lv_icmp_ge (tgt := 93) hx hb d_RC_take_63 (by decide) (fun c_9 => ?_) (fun c_9 => ?_)
            · have hj3 : ll = j := by have := nI_ge' (by omega) (by omega) c_9; omega
              subst hj3
              have hPD : my_PD (dC, dI) vwCl A [(rc, Sum.inr (6, [Value.ref co, Value.ref ma, Value.int (nI k), Value.int fit, Value.int fen, Value.int frd, Value.int fbd, Value.int fir])), (co, Sum.inr (5, [Value.long xx, Value.long xreadX, Value.ref soa, Value.ref sna, Value.ref swa, Value.int xkept, Value.ref ri, Value.ref ro, Value.ref rw, Value.int xasked])), (ro, Sum.inr (0, [Value.int (nI os.length), Value.ref roa])), (roa, Sum.inl (cI, rok, Sum.inl rof)), (ri, Sum.inr (0, [Value.int (nI b9.length), Value.ref ria9])), (ria9, Sum.inl (cI, rik9, Sum.inl rif9))] H := ⟨hP, hD⟩
              have hP := hPD.1
              have hD := hPD.2
              have z9 : b9 = os.take ll := hb9
              subst z9
              refine lv_aload_n hx hb d_RC_take_93 rfl (lv_at hl 2 rfl) ?_
              refine lv_iconst (v := 0) hx hb d_RC_take_94 (by decide) ?_
              refine va_put (D := (dC, dI)) (ci := 6) (v := .int 0) (ty := .boolean) (C := "RangeCoders") (T := T_RC) (N := 8) hx hb hg in_RC t_RC o_RC n_RC hown hK hP hD hS 0 rfl rfl 5 (by decide) (hg _ k263) (fun _ h9 => h9) rfl (o_RC 5 (by decide)) rfl rfl (Nat.le_of_ble_eq_true rfl) d_RC_take_95 (fun H locs hP hD hS => ?_)
              have hPD : my_PD (dC, dI) vwCl A [(rc, Sum.inr (6, [Value.ref co, Value.ref ma, Value.int (nI k), Value.int fit, Value.int fen, Value.int 0, Value.int fbd, Value.int fir])), (co, Sum.inr (5, [Value.long xx, Value.long xreadX, Value.ref soa, Value.ref sna, Value.ref swa, Value.int xkept, Value.ref ri, Value.ref ro, Value.ref rw, Value.int xasked])), (ro, Sum.inr (0, [Value.int (nI os.length), Value.ref roa])), (roa, Sum.inl (cI, rok, Sum.inl rof)), (ri, Sum.inr (0, [Value.int (nI (os.take ll).length), Value.ref ria9])), (ria9, Sum.inl (cI, rik9, Sum.inl rif9))] H := ⟨hP, hD⟩
              have hP := hPD.1
              have hD := hPD.2
              refine lv_aload_n hx hb d_RC_take_98 rfl (lv_at hl 2 rfl) ?_
              refine lv_iconst (v := 0) hx hb d_RC_take_99 (by decide) ?_
              refine va_put (D := (dC, dI)) (ci := 6) (v := .int 0) (ty := .boolean) (C := "RangeCoders") (T := T_RC) (N := 8) hx hb hg in_RC t_RC o_RC n_RC hown hK hP hD hS 0 rfl rfl 6 (by decide) (hg _ k264) (fun _ h9 => h9) rfl (o_RC 6 (by decide)) rfl rfl (Nat.le_of_ble_eq_true rfl) d_RC_take_100 (fun H locs hP hD hS => ?_)
              have hPD : my_PD (dC, dI) vwCl A [(rc, Sum.inr (6, [Value.ref co, Value.ref ma, Value.int (nI k), Value.int fit, Value.int fen, Value.int 0, Value.int 0, Value.int fir])), (co, Sum.inr (5, [Value.long xx, Value.long xreadX, Value.ref soa, Value.ref sna, Value.ref swa, Value.int xkept, Value.ref ri, Value.ref ro, Value.ref rw, Value.int xasked])), (ro, Sum.inr (0, [Value.int (nI os.length), Value.ref roa])), (roa, Sum.inl (cI, rok, Sum.inl rof)), (ri, Sum.inr (0, [Value.int (nI (os.take ll).length), Value.ref ria9])), (ria9, Sum.inl (cI, rik9, Sum.inl rif9))] H := ⟨hP, hD⟩
              have hP := hPD.1
              have hD := hPD.2
              refine lv_aload_n hx hb d_RC_take_103 rfl (lv_at hl 2 rfl) ?_
              refine lv_iconst (v := 0) hx hb d_RC_take_104 (by decide) ?_
              refine va_put (D := (dC, dI)) (ci := 6) (v := .int 0) (ty := .int) (C := "RangeCoders") (T := T_RC) (N := 8) hx hb hg in_RC t_RC o_RC n_RC hown hK hP hD hS 0 rfl rfl 7 (by decide) (hg _ k265) (fun _ h9 => h9) rfl (o_RC 7 (by decide)) rfl rfl (Nat.le_of_ble_eq_true rfl) d_RC_take_105 (fun H locs hP hD hS => ?_)
              have hPD : my_PD (dC, dI) vwCl A [(rc, Sum.inr (6, [Value.ref co, Value.ref ma, Value.int (nI k), Value.int fit, Value.int fen, Value.int 0, Value.int 0, Value.int 0])), (co, Sum.inr (5, [Value.long xx, Value.long xreadX, Value.ref soa, Value.ref sna, Value.ref swa, Value.int xkept, Value.ref ri, Value.ref ro, Value.ref rw, Value.int xasked])), (ro, Sum.inr (0, [Value.int (nI os.length), Value.ref roa])), (roa, Sum.inl (cI, rok, Sum.inl rof)), (ri, Sum.inr (0, [Value.int (nI (os.take ll).length), Value.ref ria9])), (ria9, Sum.inl (cI, rik9, Sum.inl rif9))] H := ⟨hP, hD⟩
              have hP := hPD.1
              have hD := hPD.2
              refine lv_aload_n hx hb d_RC_take_108 rfl (lv_at hl 2 rfl) ?_
              refine va_get (D := (dC, dI)) (ci := 6) (v := .ref co) (C := "RangeCoders") (T := T_RC) (N := 8) hx hb hg in_RC hown hK hP 0 rfl rfl 0 (by decide) (hg _ k258) (fun _ h9 => h9) rfl d_RC_take_109 ?_
              refine va_get (D := (dC, dI)) (ci := 5) (v := .ref ri) (C := "RangeCoders$Table") (T := T_Table) (N := 10) hx hb hg in_Table hown hK hP 1 rfl rfl 6 (by decide) (hg _ k102) (fun _ h9 => h9) rfl d_RC_take_112 ?_
              refine va_get (D := (dC, dI)) (ci := 0) (v := .int (nI (os.take ll).length)) (C := "RangeCoders$Row") (T := T_Row) (N := 2) hx hb hg in_Row hown hK hP 4 rfl rfl 0 (by decide) (hg _ k58) (fun _ h9 => h9) rfl d_RC_take_115 ?_
              exact my_iretg (v := nI (os.take ll).length) hx hb hr (rfl) hlocks hQ hK hS (ria9, rik9, rif9) (show d9 + (rPh rik9) ≤ (rPh rik) by omega) (show d9 + (rPh rik9) ≤ (rPh rik) by omega) (⟨rfl, hr9, hg9⟩) (hP.sub [0, 1, 2, 3, 4, 5] rfl) (hD.sub [0, 1, 2, 3, 4, 5] (by decide +kernel) rfl) d_RC_take_118
            · have hj2 : j < ll := nI_lt' (by omega) c_9
              refine lv_aload_n hx hb d_RC_take_66 rfl (lv_at hl 2 rfl) ?_
              refine va_get (D := (dC, dI)) (ci := 6) (v := .ref co) (C := "RangeCoders") (T := T_RC) (N := 8) hx hb hg in_RC hown hK hP 0 rfl rfl 0 (by decide) (hg _ k258) (fun _ h9 => h9) rfl d_RC_take_67 ?_
              refine va_get (D := (dC, dI)) (ci := 5) (v := .ref ri) (C := "RangeCoders$Table") (T := T_Table) (N := 10) hx hb hg in_Table hown hK hP 1 rfl rfl 6 (by decide) (hg _ k102) (fun _ h9 => h9) rfl d_RC_take_70 ?_
              refine lv_aload_n hx hb d_RC_take_73 rfl (lv_at hl 2 rfl) ?_
              refine va_get (D := (dC, dI)) (ci := 6) (v := .ref co) (C := "RangeCoders") (T := T_RC) (N := 8) hx hb hg in_RC hown hK hP 0 rfl rfl 0 (by decide) (hg _ k258) (fun _ h9 => h9) rfl d_RC_take_74 ?_
              refine va_get (D := (dC, dI)) (ci := 5) (v := .ref ro) (C := "RangeCoders$Table") (T := T_Table) (N := 10) hx hb hg in_Table hown hK hP 1 rfl rfl 7 (by decide) (hg _ k108) (fun _ h9 => h9) rfl d_RC_take_77 ?_
              refine lv_iload_n hx hb d_RC_take_80 rfl (lv_at hl 0 rfl) ?_
              refine my_ci (wr := [(rc, Sum.inr (6, [Value.ref co, Value.ref ma, Value.int (nI k), Value.int fit, Value.int fen, Value.int frd, Value.int fbd, Value.int fir])), (co, Sum.inr (5, [Value.long xx, Value.long xreadX, Value.ref soa, Value.ref sna, Value.ref swa, Value.int xkept, Value.ref ri, Value.ref ro, Value.ref rw, Value.int xasked])), (ri, Sum.inr (0, [Value.int (nI b9.length), Value.ref ria9])), (ria9, Sum.inl (cI, rik9, Sum.inl rif9))]) (va_runV (As := [Value.int (nI j)]) (rest := [Value.ref ri]) ⟨hx, hb, hml, hown, hts⟩ (f_Row_at l dC dI cI cM cO H.size ro roa rok rof os (nI j) (hro) (hGro) (hLro)) (cwV 1 hts (my_gV k703 k659 k660 k6 k661) rfl rfl rfl cu_Row_at_1 ⟨by rw [hR]; exact Nat.le_of_ble_eq_true rfl, by rw [hR]; exact Nat.le_of_ble_eq_true rfl⟩) (my_preV hK hN (hP.sub [2, 3] rfl) (hD.sub [2, 3] (by decide +kernel) rfl) 0 rfl rfl) rfl rfl hl.1 rfl (lv_room (Nat.le_of_ble_eq_true rfl)) d_RC_take_81 ⟨by rw [hR]; exact (show d9 + 0 ≤ (rPh rik) by omega), by rw [hR]; exact (show d9 + 0 ≤ (rPh rik) by omega)⟩) hP hD hS hA [2, 3] [0, 1, 4, 5] rfl rfl (by decide +kernel) (by decide +kernel) (fun r_81 u9 H locs hw_81 hP hD hS => ?_)
              have hr_81 : r_81 = rAt os (nI j) := hw_81
              have hPD : my_PD (dC, dI) vwCl A [(rc, Sum.inr (6, [Value.ref co, Value.ref ma, Value.int (nI k), Value.int fit, Value.int fen, Value.int frd, Value.int fbd, Value.int fir])), (co, Sum.inr (5, [Value.long xx, Value.long xreadX, Value.ref soa, Value.ref sna, Value.ref swa, Value.int xkept, Value.ref ri, Value.ref ro, Value.ref rw, Value.int xasked])), (ri, Sum.inr (0, [Value.int (nI b9.length), Value.ref ria9])), (ria9, Sum.inl (cI, rik9, Sum.inl rif9)), (ro, Sum.inr (0, [Value.int (nI os.length), Value.ref roa])), (roa, Sum.inl (cI, rok, Sum.inl rof))] H := ⟨hP, hD⟩
              have hP := hPD.1
              have hD := hPD.2
              have z9 : r_81 = nI (os.getD j 0) := by rw [hr_81]; exact rAt_nI (by omega) (by omega)
              subst z9
              refine my_cvg (wr := [(rc, Sum.inr (6, [Value.ref co, Value.ref ma, Value.int (nI k), Value.int fit, Value.int fen, Value.int frd, Value.int fbd, Value.int fir])), (co, Sum.inr (5, [Value.long xx, Value.long xreadX, Value.ref soa, Value.ref sna, Value.ref swa, Value.int xkept, Value.ref ri, Value.ref ro, Value.ref rw, Value.int xasked])), (ro, Sum.inr (0, [Value.int (nI os.length), Value.ref roa])), (roa, Sum.inl (cI, rok, Sum.inl rof))]) (va_runV (As := [Value.int (nI (os.getD j 0))]) (rest := []) ⟨hx, hb, hml, hown, hts⟩ (f_Row_add l dC dI cI cM cO H.size (hSl H) ri ria9 rik9 rif9 b9 (os.getD j 0) (hr9) (hg9) (by omega)) (cwV 1 hts (my_gV k708 k473 k474 k6 k475) rfl rfl rfl cu_Row_add_1 ⟨by rw [hR]; exact Nat.le_of_ble_eq_true rfl, by rw [hR]; exact Nat.le_of_ble_eq_true rfl⟩) (my_preVg hK hN (hP.sub [2, 3] rfl) (hD.sub [2, 3] (by decide +kernel) rfl) 0 rfl rfl) rfl rfl hl.1 rfl (lv_room (Nat.le_of_ble_eq_true rfl)) d_RC_take_84 ⟨by rw [hR]; exact (show d9 + (rPh rik9) ≤ (rPh rik) by omega), by rw [hR]; exact (show d9 + (rPh rik9) ≤ (rPh rik) by omega)⟩) hP hD hS hA [2, 3] [0, 1, 4, 5] rfl rfl (by decide +kernel) (by decide +kernel) (fun u9 d_84 H locs hd_84 hw_84 hP hD hS => ?_)
              obtain ⟨rraq_84, rrkq_84, rrfq_84⟩ := u9
              obtain ⟨hrr_84, hGrr_84⟩ : rOk (nI (b9 ++ [(os.getD j 0)]).length) rrkq_84 ∧ gIs rrfq_84 (b9 ++ [(os.getD j 0)]) := hw_84
              have hd_84 : d_84 + (rPh rrkq_84) ≤ (rPh rik9) := hd_84
              have hPD : my_PD (dC, dI) vwCl A [(rc, Sum.inr (6, [Value.ref co, Value.ref ma, Value.int (nI k), Value.int fit, Value.int fen, Value.int frd, Value.int fbd, Value.int fir])), (co, Sum.inr (5, [Value.long xx, Value.long xreadX, Value.ref soa, Value.ref sna, Value.ref swa, Value.int xkept, Value.ref ri, Value.ref ro, Value.ref rw, Value.int xasked])), (ro, Sum.inr (0, [Value.int (nI os.length), Value.ref roa])), (roa, Sum.inl (cI, rok, Sum.inl rof)), (ri, Sum.inr (0, [Value.int (nI (b9 ++ [(os.getD j 0)]).length), Value.ref rraq_84])), (rraq_84, Sum.inl (cI, rrkq_84, Sum.inl rrfq_84))] H := ⟨hP, hD⟩
              have hP := hPD.1
              have hD := hPD.2
              obtain ⟨v_10, ev_10⟩ : ∃ y : Int32, y = (nI j) + (1) := ⟨_, rfl⟩
              refine lv_iinc (v := v_10) (lv' := [(3, Value.int v_10), (2, Value.int (nI ll)), (0, Value.ref rc), (1, Value.int nn)]) hx hb d_RC_take_87 hl (k := 0) rfl (by rw [ev_10]; rfl) (by decide) rfl (fun ls hl => ?_)
              have z9 : v_10 = nI (j + 1) := by rw [ev_10]; exact nI_1 _
              subst z9
              refine lv_goto (tgt := 61) hx hb d_RC_take_90 (by decide) ?_
              exact ih9_61 _ (by first | omega | (omega)) (j + 1) (b9 ++ [os.getD j 0]) rraq_84 rrkq_84 rrfq_84 (d9 + d_84) rfl (by omega) (by rw [hb9]; exact tk_st (by omega)) (hrr_84) (hGrr_84) (by omega) H locs ls (hP.sub [0, 1, 2, 3, 4, 5] rfl) (hD.sub [0, 1, 2, 3, 4, 5] (by decide +kernel) rfl) hS (lv_sub hl [0, 1, 2, 3] rfl)
        exact J_61 _ (0 : Nat) ([]) ria rik rif (0 : Nat) rfl (Nat.zero_le _) (rfl) (hr_56) (fun i h => absurd h (Nat.not_lt_zero i)) (by omega) H locs ls (hP.sub [0, 1, 2, 3, 4, 5] rfl) (hD.sub [0, 1, 2, 3, 4, 5] (by decide +kernel) rfl) hS (lv_sub hl [0, 1, 2, 3] rfl)
    · exact absurd (by rw [ev_2]; exact hn2) c_3
set_option maxHeartbeats 2000000 in
set_option maxRecDepth 100000 in
theorem f_RC_spoilA_Table (l : Launch) (dC : Nat → ClassId) (dI : Nat → Nat → Nat) (cI cM cO : ClassId) (sz : Nat) (rc : Nat) (ma : Nat) (k : Nat) (fit : Int32) (fen : Int32) (frd : Int32) (fbd : Int32) (fir : Int32) (mf : Nat → Option Nat) (co : Nat) (xx : Int64) (xreadX : Int64) (soa : Nat) (sna : Nat) (swa : Nat) (xkept : Int32) (ri : Nat) (ro : Nat) (rw : Nat) (xasked : Int32) (ria : Nat) (rik : Nat) (rif : Nat → Int32) (is : List Nat) (ii : Int32) (vv : Int32) (hri : rOk (nI is.length) rik) (hGri : gIs rif is) (hLri : is.length ≤ 6000) (hno : ¬ (0 ≤ ii ∧ ii < nI is.length)) : MetI l y_RC_spoil (Cond.code y_RC_spoil prog_1_method_11_code 3 (some .int) :: gw) ({ frames := 1, cells := 0, slots := 0, locals := 21 } : Room) (dC, dI) vwCl (kT cI cM cO) [Value.ref rc, Value.int ii, Value.int vv] [(rc, Sum.inr (6, [Value.ref co, Value.ref ma, Value.int (nI k), Value.int fit, Value.int fen, Value.int frd, Value.int fbd, Value.int fir])), (co, Sum.inr (5, [Value.long xx, Value.long xreadX, Value.ref soa, Value.ref sna, Value.ref swa, Value.int xkept, Value.ref ri, Value.ref ro, Value.ref rw, Value.int xasked])), (ri, Sum.inr (0, [Value.int (nI is.length), Value.ref ria])), (ria, Sum.inl (cI, rik, Sum.inl rif))] sz (fun (r : Int32) (u : Unit) => r = -1) (fun (u : Unit) => [(rc, Sum.inr (6, [Value.ref co, Value.ref ma, Value.int (nI k), Value.int fit, Value.int fen, Value.int frd, Value.int fbd, Value.int fir])), (co, Sum.inr (5, [Value.long xx, Value.long xreadX, Value.ref soa, Value.ref sna, Value.ref swa, Value.int xkept, Value.ref ri, Value.ref ro, Value.ref rw, Value.int xasked])), (ri, Sum.inr (0, [Value.int (nI is.length), Value.ref ria])), (ria, Sum.inl (cI, rik, Sum.inl rif))]) 0 0 := by
  refine my_ofI (cc := prog_1_method_11_code) (n := 3) (ret := (some .int)) (by decide) rfl (Nat.le_of_ble_eq_true rfl) ?_
  intro p e s m args below meth c R Q A ls H locs hx hb hr hts hown hlocks hml hnm hR hQ hA hl hP hK hN hD hS
  have hg : ∀ w ∈ gw, w.before args s = true := fun w h => hts w (List.mem_cons_of_mem _ h)
  have hown : s.vm.findClass "RangeCoders" = some m.cls := hown
  have hl : lv_has ls 3 [(0, Value.ref rc), (1, Value.int ii), (2, Value.int vv)] := hl
  refine lv_aload_n hx hb d_RC_spoil_0 rfl (lv_at hl 0 rfl) ?_
  refine va_get (D := (dC, dI)) (ci := 6) (v := .ref co) (C := "RangeCoders") (T := T_RC) (N := 8) hx hb hg in_RC hown hK hP 0 rfl rfl 0 (by decide) (hg _ k258) (fun _ h9 => h9) rfl d_RC_spoil_1 ?_
  refine va_get (D := (dC, dI)) (ci := 5) (v := .ref ri) (C := "RangeCoders$Table") (T := T_Table) (N := 10) hx hb hg in_Table hown hK hP 1 rfl rfl 6 (by decide) (hg _ k102) (fun _ h9 => h9) rfl d_RC_spoil_4 ?_
  refine lv_iload_n hx hb d_RC_spoil_7 rfl (lv_at hl 1 rfl) ?_
  refine my_ci (wr := [(rc, Sum.inr (6, [Value.ref co, Value.ref ma, Value.int (nI k), Value.int fit, Value.int fen, Value.int frd, Value.int fbd, Value.int fir])), (co, Sum.inr (5, [Value.long xx, Value.long xreadX, Value.ref soa, Value.ref sna, Value.ref swa, Value.int xkept, Value.ref ri, Value.ref ro, Value.ref rw, Value.int xasked]))]) (va_runV (As := [Value.int ii]) (rest := []) ⟨hx, hb, hml, hown, hts⟩ (f_Row_has l dC dI cI cM cO H.size ri ria rik rif is ii (hri) (hGri) (by omega)) (cwV 1 hts (my_gV k718 k663 k664 k6 k665) rfl rfl rfl cu_Row_has_1 ⟨by rw [hR]; exact Nat.le_of_ble_eq_true rfl, by rw [hR]; exact Nat.le_of_ble_eq_true rfl⟩) (my_preV hK hN (hP.sub [2, 3] rfl) (hD.sub [2, 3] (by decide +kernel) rfl) 0 rfl rfl) rfl rfl hl.1 rfl (lv_room (Nat.le_of_ble_eq_true rfl)) d_RC_spoil_8 ⟨by rw [hR]; exact Nat.le_of_ble_eq_true rfl, by rw [hR]; exact Nat.le_of_ble_eq_true rfl⟩) hP hD hS hA [2, 3] [0, 1] rfl rfl (by decide +kernel) (by decide +kernel) (fun r_8 u9 H locs hw_8 hP hD hS => ?_)
  obtain ⟨hr_8, hv_8⟩ : (r_8 = if 0 ≤ ii ∧ ii < nI is.length then 1 else 0) ∧ (r_8 ≠ 0 → vp_in ii rik) := hw_8
  have hPD : my_PD (dC, dI) vwCl A [(rc, Sum.inr (6, [Value.ref co, Value.ref ma, Value.int (nI k), Value.int fit, Value.int fen, Value.int frd, Value.int fbd, Value.int fir])), (co, Sum.inr (5, [Value.long xx, Value.long xreadX, Value.ref soa, Value.ref sna, Value.ref swa, Value.int xkept, Value.ref ri, Value.ref ro, Value.ref rw, Value.int xasked])), (ri, Sum.inr (0, [Value.int (nI is.length), Value.ref ria])), (ria, Sum.inl (cI, rik, Sum.inl rif))] H := ⟨hP, hD⟩
  have hP := hPD.1
  have hD := hPD.2
  refine lv_if_ne (tgt := 16) hx hb d_RC_spoil_11 (by decide) (fun c_1 => ?_) (fun c_1 => ?_)
  · exact absurd (one_ne hr_8 c_1) hno
  · refine lv_iconst (v := (-1)) hx hb d_RC_spoil_14 (by decide) ?_
    exact my_iret (v := (-1)) hx hb hr (rfl) hlocks hQ hK hS (Nat.le_refl _) (Nat.le_refl _) () (rfl) (hP.sub [0, 1, 2, 3] rfl) (hD.sub [0, 1, 2, 3] (by decide +kernel) rfl) d_RC_spoil_15
set_option maxHeartbeats 2000000 in
set_option maxRecDepth 100000 in
theorem f_RC_spoilV_Table (l : Launch) (dC : Nat → ClassId) (dI : Nat → Nat → Nat) (cI cM cO : ClassId) (sz : Nat) (rc : Nat) (ma : Nat) (k : Nat) (fit : Int32) (fen : Int32) (frd : Int32) (fbd : Int32) (fir : Int32) (mf : Nat → Option Nat) (co : Nat) (xx : Int64) (xreadX : Int64) (soa : Nat) (sna : Nat) (swa : Nat) (xkept : Int32) (ri : Nat) (ro : Nat) (rw : Nat) (xasked : Int32) (ria : Nat) (rik : Nat) (rif : Nat → Int32) (is : List Nat) (i7 : Nat) (vv : Int32) (hri : rOk (nI is.length) rik) (hGri : gIs rif is) (hLri : is.length ≤ 6000) (hi7 : i7 < is.length) (hno : vv < 0 ∨ 255 < vv) : MetI l y_RC_spoil (Cond.code y_RC_spoil prog_1_method_11_code 3 (some .int) :: gw) ({ frames := 1, cells := 0, slots := 0, locals := 21 } : Room) (dC, dI) vwCl (kT cI cM cO) [Value.ref rc, Value.int (nI i7), Value.int vv] [(rc, Sum.inr (6, [Value.ref co, Value.ref ma, Value.int (nI k), Value.int fit, Value.int fen, Value.int frd, Value.int fbd, Value.int fir])), (co, Sum.inr (5, [Value.long xx, Value.long xreadX, Value.ref soa, Value.ref sna, Value.ref swa, Value.int xkept, Value.ref ri, Value.ref ro, Value.ref rw, Value.int xasked])), (ri, Sum.inr (0, [Value.int (nI is.length), Value.ref ria])), (ria, Sum.inl (cI, rik, Sum.inl rif))] sz (fun (r : Int32) (u : Unit) => r = -2) (fun (u : Unit) => [(rc, Sum.inr (6, [Value.ref co, Value.ref ma, Value.int (nI k), Value.int fit, Value.int fen, Value.int frd, Value.int fbd, Value.int fir])), (co, Sum.inr (5, [Value.long xx, Value.long xreadX, Value.ref soa, Value.ref sna, Value.ref swa, Value.int xkept, Value.ref ri, Value.ref ro, Value.ref rw, Value.int xasked])), (ri, Sum.inr (0, [Value.int (nI is.length), Value.ref ria])), (ria, Sum.inl (cI, rik, Sum.inl rif))]) 0 0 := by
  refine my_ofI (cc := prog_1_method_11_code) (n := 3) (ret := (some .int)) (by decide) rfl (Nat.le_of_ble_eq_true rfl) ?_
  intro p e s m args below meth c R Q A ls H locs hx hb hr hts hown hlocks hml hnm hR hQ hA hl hP hK hN hD hS
  have hg : ∀ w ∈ gw, w.before args s = true := fun w h => hts w (List.mem_cons_of_mem _ h)
  have hown : s.vm.findClass "RangeCoders" = some m.cls := hown
  have hl : lv_has ls 3 [(0, Value.ref rc), (1, Value.int (nI i7)), (2, Value.int vv)] := hl
  refine lv_aload_n hx hb d_RC_spoil_0 rfl (lv_at hl 0 rfl) ?_
  refine va_get (D := (dC, dI)) (ci := 6) (v := .ref co) (C := "RangeCoders") (T := T_RC) (N := 8) hx hb hg in_RC hown hK hP 0 rfl rfl 0 (by decide) (hg _ k258) (fun _ h9 => h9) rfl d_RC_spoil_1 ?_
  refine va_get (D := (dC, dI)) (ci := 5) (v := .ref ri) (C := "RangeCoders$Table") (T := T_Table) (N := 10) hx hb hg in_Table hown hK hP 1 rfl rfl 6 (by decide) (hg _ k102) (fun _ h9 => h9) rfl d_RC_spoil_4 ?_
  refine lv_iload_n hx hb d_RC_spoil_7 rfl (lv_at hl 1 rfl) ?_
  refine my_ci (wr := [(rc, Sum.inr (6, [Value.ref co, Value.ref ma, Value.int (nI k), Value.int fit, Value.int fen, Value.int frd, Value.int fbd, Value.int fir])), (co, Sum.inr (5, [Value.long xx, Value.long xreadX, Value.ref soa, Value.ref sna, Value.ref swa, Value.int xkept, Value.ref ri, Value.ref ro, Value.ref rw, Value.int xasked]))]) (va_runV (As := [Value.int (nI i7)]) (rest := []) ⟨hx, hb, hml, hown, hts⟩ (f_Row_has l dC dI cI cM cO H.size ri ria rik rif is (nI i7) (hri) (hGri) (by omega)) (cwV 1 hts (my_gV k718 k663 k664 k6 k665) rfl rfl rfl cu_Row_has_1 ⟨by rw [hR]; exact Nat.le_of_ble_eq_true rfl, by rw [hR]; exact Nat.le_of_ble_eq_true rfl⟩) (my_preV hK hN (hP.sub [2, 3] rfl) (hD.sub [2, 3] (by decide +kernel) rfl) 0 rfl rfl) rfl rfl hl.1 rfl (lv_room (Nat.le_of_ble_eq_true rfl)) d_RC_spoil_8 ⟨by rw [hR]; exact Nat.le_of_ble_eq_true rfl, by rw [hR]; exact Nat.le_of_ble_eq_true rfl⟩) hP hD hS hA [2, 3] [0, 1] rfl rfl (by decide +kernel) (by decide +kernel) (fun r_8 u9 H locs hw_8 hP hD hS => ?_)
  obtain ⟨hr_8, hv_8⟩ : (r_8 = if 0 ≤ (nI i7) ∧ (nI i7) < nI is.length then 1 else 0) ∧ (r_8 ≠ 0 → vp_in (nI i7) rik) := hw_8
  have hPD : my_PD (dC, dI) vwCl A [(rc, Sum.inr (6, [Value.ref co, Value.ref ma, Value.int (nI k), Value.int fit, Value.int fen, Value.int frd, Value.int fbd, Value.int fir])), (co, Sum.inr (5, [Value.long xx, Value.long xreadX, Value.ref soa, Value.ref sna, Value.ref swa, Value.int xkept, Value.ref ri, Value.ref ro, Value.ref rw, Value.int xasked])), (ri, Sum.inr (0, [Value.int (nI is.length), Value.ref ria])), (ria, Sum.inl (cI, rik, Sum.inl rif))] H := ⟨hP, hD⟩
  have hP := hPD.1
  have hD := hPD.2
  refine lv_if_ne (tgt := 16) hx hb d_RC_spoil_11 (by decide) (fun c_1 => ?_) (fun c_1 => ?_)
  · refine lv_iload_n hx hb d_RC_spoil_16 rfl (lv_at hl 2 rfl) ?_
    refine lv_if_lt (tgt := 27) hx hb d_RC_spoil_17 (by decide) (fun c_2 => ?_) (fun c_2 => ?_)
    · refine lv_bipush (v := (-2)) hx hb d_RC_spoil_27 (by decide) ?_
      exact my_iret (v := (-2)) hx hb hr (rfl) hlocks hQ hK hS (Nat.le_refl _) (Nat.le_refl _) () (rfl) (hP.sub [0, 1, 2, 3] rfl) (hD.sub [0, 1, 2, 3] (by decide +kernel) rfl) d_RC_spoil_29
    · refine lv_iload_n hx hb d_RC_spoil_20 rfl (lv_at hl 2 rfl) ?_
      refine lv_sipush (v := 255) hx hb d_RC_spoil_21 (by decide) ?_
      refine lv_icmp_le (tgt := 30) hx hb d_RC_spoil_24 (by decide) (fun c_3 => ?_) (fun c_3 => ?_)
      · exact absurd hno (fun h9 => h9.elim c_2 (fun q9 => absurd c_3 (Int32.not_le.mpr q9)))
      · refine lv_bipush (v := (-2)) hx hb d_RC_spoil_27 (by decide) ?_
        exact my_iret (v := (-2)) hx hb hr (rfl) hlocks hQ hK hS (Nat.le_refl _) (Nat.le_refl _) () (rfl) (hP.sub [0, 1, 2, 3] rfl) (hD.sub [0, 1, 2, 3] (by decide +kernel) rfl) d_RC_spoil_29
  · exact absurd (has_in hi7 (by omega)) (one_eq hr_8 c_1)
set_option maxHeartbeats 2000000 in
set_option maxRecDepth 100000 in
theorem f_RC_spoilL_Table (l : Launch) (dC : Nat → ClassId) (dI : Nat → Nat → Nat) (cI cM cO : ClassId) (sz : Nat) (rc : Nat) (ma : Nat) (k : Nat) (fit : Int32) (fen : Int32) (frd : Int32) (fbd : Int32) (fir : Int32) (mf : Nat → Option Nat) (co : Nat) (xx : Int64) (xreadX : Int64) (soa : Nat) (sna : Nat) (swa : Nat) (xkept : Int32) (ri : Nat) (ro : Nat) (rw : Nat) (xasked : Int32) (ria : Nat) (rik : Nat) (rif : Nat → Int32) (is : List Nat) (i7 : Nat) (t7 : Nat) (hri : rOk (nI is.length) rik) (hGri : gIs rif is) (hLri : is.length ≤ 6000) (hi7 : i7 < is.length) (ht7 : t7 ≤ 255) : MetI l y_RC_spoil (Cond.code y_RC_spoil prog_1_method_11_code 3 (some .int) :: gw) ({ frames := 2, cells := 0, slots := 0, locals := 43 } : Room) (dC, dI) vwCl (kT cI cM cO) [Value.ref rc, Value.int (nI i7), Value.int (nI t7)] [(rc, Sum.inr (6, [Value.ref co, Value.ref ma, Value.int (nI k), Value.int fit, Value.int fen, Value.int frd, Value.int fbd, Value.int fir])), (co, Sum.inr (5, [Value.long xx, Value.long xreadX, Value.ref soa, Value.ref sna, Value.ref swa, Value.int xkept, Value.ref ri, Value.ref ro, Value.ref rw, Value.int xasked])), (ri, Sum.inr (0, [Value.int (nI is.length), Value.ref ria])), (ria, Sum.inl (cI, rik, Sum.inl rif))] sz (fun (r : Int32) (u : (Nat → Int32)) => r = nI (is.getD i7 0 ^^^ t7) ∧ gIs u (is.set i7 (is.getD i7 0 ^^^ t7))) (fun (u : (Nat → Int32)) => [(rc, Sum.inr (6, [Value.ref co, Value.ref ma, Value.int (nI k), Value.int fit, Value.int fen, Value.int frd, Value.int fbd, Value.int fir])), (co, Sum.inr (5, [Value.long xx, Value.long xreadX, Value.ref soa, Value.ref sna, Value.ref swa, Value.int xkept, Value.ref ri, Value.ref ro, Value.ref rw, Value.int xasked])), (ri, Sum.inr (0, [Value.int (nI is.length), Value.ref ria])), (ria, Sum.inl (cI, rik, Sum.inl u))]) 0 0 := by
  refine my_ofI (cc := prog_1_method_11_code) (n := 3) (ret := (some .int)) (by decide) rfl (Nat.le_of_ble_eq_true rfl) ?_
  intro p e s m args below meth c R Q A ls H locs hx hb hr hts hown hlocks hml hnm hR hQ hA hl hP hK hN hD hS
  have hg : ∀ w ∈ gw, w.before args s = true := fun w h => hts w (List.mem_cons_of_mem _ h)
  have hown : s.vm.findClass "RangeCoders" = some m.cls := hown
  have hl : lv_has ls 3 [(0, Value.ref rc), (1, Value.int (nI i7)), (2, Value.int (nI t7))] := hl
  refine lv_aload_n hx hb d_RC_spoil_0 rfl (lv_at hl 0 rfl) ?_
  refine va_get (D := (dC, dI)) (ci := 6) (v := .ref co) (C := "RangeCoders") (T := T_RC) (N := 8) hx hb hg in_RC hown hK hP 0 rfl rfl 0 (by decide) (hg _ k258) (fun _ h9 => h9) rfl d_RC_spoil_1 ?_
  refine va_get (D := (dC, dI)) (ci := 5) (v := .ref ri) (C := "RangeCoders$Table") (T := T_Table) (N := 10) hx hb hg in_Table hown hK hP 1 rfl rfl 6 (by decide) (hg _ k102) (fun _ h9 => h9) rfl d_RC_spoil_4 ?_
  refine lv_iload_n hx hb d_RC_spoil_7 rfl (lv_at hl 1 rfl) ?_
  refine my_ci (wr := [(rc, Sum.inr (6, [Value.ref co, Value.ref ma, Value.int (nI k), Value.int fit, Value.int fen, Value.int frd, Value.int fbd, Value.int fir])), (co, Sum.inr (5, [Value.long xx, Value.long xreadX, Value.ref soa, Value.ref sna, Value.ref swa, Value.int xkept, Value.ref ri, Value.ref ro, Value.ref rw, Value.int xasked]))]) (va_runV (As := [Value.int (nI i7)]) (rest := []) ⟨hx, hb, hml, hown, hts⟩ (f_Row_has l dC dI cI cM cO H.size ri ria rik rif is (nI i7) (hri) (hGri) (by omega)) (cwV 1 hts (my_gV k718 k663 k664 k6 k665) rfl rfl rfl cu_Row_has_1 ⟨by rw [hR]; exact Nat.le_of_ble_eq_true rfl, by rw [hR]; exact Nat.le_of_ble_eq_true rfl⟩) (my_preV hK hN (hP.sub [2, 3] rfl) (hD.sub [2, 3] (by decide +kernel) rfl) 0 rfl rfl) rfl rfl hl.1 rfl (lv_room (Nat.le_of_ble_eq_true rfl)) d_RC_spoil_8 ⟨by rw [hR]; exact Nat.le_of_ble_eq_true rfl, by rw [hR]; exact Nat.le_of_ble_eq_true rfl⟩) hP hD hS hA [2, 3] [0, 1] rfl rfl (by decide +kernel) (by decide +kernel) (fun r_8 u9 H locs hw_8 hP hD hS => ?_)
  obtain ⟨hr_8, hv_8⟩ : (r_8 = if 0 ≤ (nI i7) ∧ (nI i7) < nI is.length then 1 else 0) ∧ (r_8 ≠ 0 → vp_in (nI i7) rik) := hw_8
  have hPD : my_PD (dC, dI) vwCl A [(rc, Sum.inr (6, [Value.ref co, Value.ref ma, Value.int (nI k), Value.int fit, Value.int fen, Value.int frd, Value.int fbd, Value.int fir])), (co, Sum.inr (5, [Value.long xx, Value.long xreadX, Value.ref soa, Value.ref sna, Value.ref swa, Value.int xkept, Value.ref ri, Value.ref ro, Value.ref rw, Value.int xasked])), (ri, Sum.inr (0, [Value.int (nI is.length), Value.ref ria])), (ria, Sum.inl (cI, rik, Sum.inl rif))] H := ⟨hP, hD⟩
  have hP := hPD.1
  have hD := hPD.2
  refine lv_if_ne (tgt := 16) hx hb d_RC_spoil_11 (by decide) (fun c_1 => ?_) (fun c_1 => ?_)
  · refine lv_iload_n hx hb d_RC_spoil_16 rfl (lv_at hl 2 rfl) ?_
    refine lv_if_lt (tgt := 27) hx hb d_RC_spoil_17 (by decide) (fun c_2 => ?_) (fun c_2 => ?_)
    · exact absurd c_2 (nI_pos (by omega))
    · refine lv_iload_n hx hb d_RC_spoil_20 rfl (lv_at hl 2 rfl) ?_
      refine lv_sipush (v := 255) hx hb d_RC_spoil_21 (by decide) ?_
      refine lv_icmp_le (tgt := 30) hx hb d_RC_spoil_24 (by decide) (fun c_3 => ?_) (fun c_3 => ?_)
      · refine lv_aload_n hx hb d_RC_spoil_30 rfl (lv_at hl 0 rfl) ?_
        refine va_get (D := (dC, dI)) (ci := 6) (v := .ref co) (C := "RangeCoders") (T := T_RC) (N := 8) hx hb hg in_RC hown hK hP 0 rfl rfl 0 (by decide) (hg _ k258) (fun _ h9 => h9) rfl d_RC_spoil_31 ?_
        refine va_get (D := (dC, dI)) (ci := 5) (v := .ref ri) (C := "RangeCoders$Table") (T := T_Table) (N := 10) hx hb hg in_Table hown hK hP 1 rfl rfl 6 (by decide) (hg _ k102) (fun _ h9 => h9) rfl d_RC_spoil_34 ?_
        refine lv_iload_n hx hb d_RC_spoil_37 rfl (lv_at hl 1 rfl) ?_
        refine lv_aload_n hx hb d_RC_spoil_38 rfl (lv_at hl 0 rfl) ?_
        refine va_get (D := (dC, dI)) (ci := 6) (v := .ref co) (C := "RangeCoders") (T := T_RC) (N := 8) hx hb hg in_RC hown hK hP 0 rfl rfl 0 (by decide) (hg _ k258) (fun _ h9 => h9) rfl d_RC_spoil_39 ?_
        refine va_get (D := (dC, dI)) (ci := 5) (v := .ref ri) (C := "RangeCoders$Table") (T := T_Table) (N := 10) hx hb hg in_Table hown hK hP 1 rfl rfl 6 (by decide) (hg _ k102) (fun _ h9 => h9) rfl d_RC_spoil_42 ?_
        refine lv_iload_n hx hb d_RC_spoil_45 rfl (lv_at hl 1 rfl) ?_
        refine my_ci (wr := [(rc, Sum.inr (6, [Value.ref co, Value.ref ma, Value.int (nI k), Value.int fit, Value.int fen, Value.int frd, Value.int fbd, Value.int fir])), (co, Sum.inr (5, [Value.long xx, Value.long xreadX, Value.ref soa, Value.ref sna, Value.ref swa, Value.int xkept, Value.ref ri, Value.ref ro, Value.ref rw, Value.int xasked]))]) (va_runV (As := [Value.int (nI i7)]) (rest := [Value.int (nI i7), Value.ref ri]) ⟨hx, hb, hml, hown, hts⟩ (f_Row_at l dC dI cI cM cO H.size ri ria rik rif is (nI i7) (hri) (hGri) (by omega)) (cwV 1 hts (my_gV k703 k659 k660 k6 k661) rfl rfl rfl cu_Row_at_1 ⟨by rw [hR]; exact Nat.le_of_ble_eq_true rfl, by rw [hR]; exact Nat.le_of_ble_eq_true rfl⟩) (my_preV hK hN (hP.sub [2, 3] rfl) (hD.sub [2, 3] (by decide +kernel) rfl) 0 rfl rfl) rfl rfl hl.1 rfl (lv_room (Nat.le_of_ble_eq_true rfl)) d_RC_spoil_46 ⟨by rw [hR]; exact Nat.le_of_ble_eq_true rfl, by rw [hR]; exact Nat.le_of_ble_eq_true rfl⟩) hP hD hS hA [2, 3] [0, 1] rfl rfl (by decide +kernel) (by decide +kernel) (fun r_46 u9 H locs hw_46 hP hD hS => ?_)
        have hr_46 : r_46 = rAt is (nI i7) := hw_46
        have hPD : my_PD (dC, dI) vwCl A [(rc, Sum.inr (6, [Value.ref co, Value.ref ma, Value.int (nI k), Value.int fit, Value.int fen, Value.int frd, Value.int fbd, Value.int fir])), (co, Sum.inr (5, [Value.long xx, Value.long xreadX, Value.ref soa, Value.ref sna, Value.ref swa, Value.int xkept, Value.ref ri, Value.ref ro, Value.ref rw, Value.int xasked])), (ri, Sum.inr (0, [Value.int (nI is.length), Value.ref ria])), (ria, Sum.inl (cI, rik, Sum.inl rif))] H := ⟨hP, hD⟩
        have hP := hPD.1
        have hD := hPD.2
        have z9 : r_46 = nI (is.getD i7 0) := by rw [hr_46]; exact rAt_nI hi7 (by omega)
        subst z9
        refine lv_iload_n hx hb d_RC_spoil_49 rfl (lv_at hl 2 rfl) ?_
        refine lv_ixor hx hb d_RC_spoil_50 ?_
        refine lv_topi (fun v_4 ev_4 => ?_)
        have z9 : v_4 = nI (is.getD i7 0 ^^^ t7) := by rw [ev_4]; exact nx_xor _ _
        subst z9
        refine my_cv (wr := [(rc, Sum.inr (6, [Value.ref co, Value.ref ma, Value.int (nI k), Value.int fit, Value.int fen, Value.int frd, Value.int fbd, Value.int fir])), (co, Sum.inr (5, [Value.long xx, Value.long xreadX, Value.ref soa, Value.ref sna, Value.ref swa, Value.int xkept, Value.ref ri, Value.ref ro, Value.ref rw, Value.int xasked]))]) (va_runV (As := [Value.int (nI i7), Value.int (nI (is.getD i7 0 ^^^ t7))]) (rest := []) ⟨hx, hb, hml, hown, hts⟩ (f_Row_set l dC dI cI cM cO H.size ri ria rik rif is i7 (is.getD i7 0 ^^^ t7) (hri) (hGri) (by omega) (hi7)) (cwV 2 hts (my_gV k719 k720 k721 k6 k722) rfl rfl rfl cu_Row_set_2 ⟨by rw [hR]; exact Nat.le_of_ble_eq_true rfl, by rw [hR]; exact Nat.le_of_ble_eq_true rfl⟩) (my_preV hK hN (hP.sub [2, 3] rfl) (hD.sub [2, 3] (by decide +kernel) rfl) 0 rfl rfl) rfl rfl hl.1 rfl (lv_room (Nat.le_of_ble_eq_true rfl)) d_RC_spoil_51 ⟨by rw [hR]; exact Nat.le_of_ble_eq_true rfl, by rw [hR]; exact Nat.le_of_ble_eq_true rfl⟩) hP hD hS hA [2, 3] [0, 1] rfl rfl (by decide +kernel) (by decide +kernel) (fun u9 H locs hw_51 hP hD hS => ?_)
        obtain ⟨rrfq_51, rfl⟩ : ∃ z, z = u9 := ⟨_, rfl⟩
        have hGrr_51 : gIs rrfq_51 (is.set i7 (is.getD i7 0 ^^^ t7)) := hw_51
        have hPD : my_PD (dC, dI) vwCl A [(rc, Sum.inr (6, [Value.ref co, Value.ref ma, Value.int (nI k), Value.int fit, Value.int fen, Value.int frd, Value.int fbd, Value.int fir])), (co, Sum.inr (5, [Value.long xx, Value.long xreadX, Value.ref soa, Value.ref sna, Value.ref swa, Value.int xkept, Value.ref ri, Value.ref ro, Value.ref rw, Value.int xasked])), (ri, Sum.inr (0, [Value.int (nI is.length), Value.ref ria])), (ria, Sum.inl (cI, rik, Sum.inl rrfq_51))] H := ⟨hP, hD⟩
        have hP := hPD.1
        have hD := hPD.2
        refine lv_aload_n hx hb d_RC_spoil_54 rfl (lv_at hl 0 rfl) ?_
        refine va_get (D := (dC, dI)) (ci := 6) (v := .ref co) (C := "RangeCoders") (T := T_RC) (N := 8) hx hb hg in_RC hown hK hP 0 rfl rfl 0 (by decide) (hg _ k258) (fun _ h9 => h9) rfl d_RC_spoil_55 ?_
        refine va_get (D := (dC, dI)) (ci := 5) (v := .ref ri) (C := "RangeCoders$Table") (T := T_Table) (N := 10) hx hb hg in_Table hown hK hP 1 rfl rfl 6 (by decide) (hg _ k102) (fun _ h9 => h9) rfl d_RC_spoil_58 ?_
        refine lv_iload_n hx hb d_RC_spoil_61 rfl (lv_at hl 1 rfl) ?_
        have hsu : (nI is.length : Int32) = nI (is.set i7 (is.getD i7 0 ^^^ t7)).length := by rw [List.length_set]
        rw [hsu] at hP hD
        have hPD : my_PD (dC, dI) vwCl A [(rc, Sum.inr (6, [Value.ref co, Value.ref ma, Value.int (nI k), Value.int fit, Value.int fen, Value.int frd, Value.int fbd, Value.int fir])), (co, Sum.inr (5, [Value.long xx, Value.long xreadX, Value.ref soa, Value.ref sna, Value.ref swa, Value.int xkept, Value.ref ri, Value.ref ro, Value.ref rw, Value.int xasked])), (ri, Sum.inr (0, [Value.int (nI (is.set i7 (is.getD i7 0 ^^^ t7)).length), Value.ref ria])), (ria, Sum.inl (cI, rik, Sum.inl rrfq_51))] H := ⟨hP, hD⟩
        have hP := hPD.1
        have hD := hPD.2
        refine my_ci (wr := [(rc, Sum.inr (6, [Value.ref co, Value.ref ma, Value.int (nI k), Value.int fit, Value.int fen, Value.int frd, Value.int fbd, Value.int fir])), (co, Sum.inr (5, [Value.long xx, Value.long xreadX, Value.ref soa, Value.ref sna, Value.ref swa, Value.int xkept, Value.ref ri, Value.ref ro, Value.ref rw, Value.int xasked]))]) (va_runV (As := [Value.int (nI i7)]) (rest := []) ⟨hx, hb, hml, hown, hts⟩ (f_Row_at l dC dI cI cM cO H.size ri ria rik rrfq_51 (is.set i7 (is.getD i7 0 ^^^ t7)) (nI i7) (by rw [List.length_set]; exact hri) (hGrr_51) (by rw [List.length_set]; omega)) (cwV 1 hts (my_gV k703 k659 k660 k6 k661) rfl rfl rfl cu_Row_at_1 ⟨by rw [hR]; exact Nat.le_of_ble_eq_true rfl, by rw [hR]; exact Nat.le_of_ble_eq_true rfl⟩) (my_preV hK hN (hP.sub [2, 3] rfl) (hD.sub [2, 3] (by decide +kernel) rfl) 0 rfl rfl) rfl rfl hl.1 rfl (lv_room (Nat.le_of_ble_eq_true rfl)) d_RC_spoil_62 ⟨by rw [hR]; exact Nat.le_of_ble_eq_true rfl, by rw [hR]; exact Nat.le_of_ble_eq_true rfl⟩) hP hD hS hA [2, 3] [0, 1] rfl rfl (by decide +kernel) (by decide +kernel) (fun r_62 u9 H locs hw_62 hP hD hS => ?_)
        have hr_62 : r_62 = rAt (is.set i7 (is.getD i7 0 ^^^ t7)) (nI i7) := hw_62
        have hPD : my_PD (dC, dI) vwCl A [(rc, Sum.inr (6, [Value.ref co, Value.ref ma, Value.int (nI k), Value.int fit, Value.int fen, Value.int frd, Value.int fbd, Value.int fir])), (co, Sum.inr (5, [Value.long xx, Value.long xreadX, Value.ref soa, Value.ref sna, Value.ref swa, Value.int xkept, Value.ref ri, Value.ref ro, Value.ref rw, Value.int xasked])), (ri, Sum.inr (0, [Value.int (nI (is.set i7 (is.getD i7 0 ^^^ t7)).length), Value.ref ria])), (ria, Sum.inl (cI, rik, Sum.inl rrfq_51))] H := ⟨hP, hD⟩
        have hP := hPD.1
        have hD := hPD.2
        have hsu : (nI (is.set i7 (is.getD i7 0 ^^^ t7)).length : Int32) = nI is.length := by rw [List.length_set]
        rw [hsu] at hP hD
        have hPD : my_PD (dC, dI) vwCl A [(rc, Sum.inr (6, [Value.ref co, Value.ref ma, Value.int (nI k), Value.int fit, Value.int fen, Value.int frd, Value.int fbd, Value.int fir])), (co, Sum.inr (5, [Value.long xx, Value.long xreadX, Value.ref soa, Value.ref sna, Value.ref swa, Value.int xkept, Value.ref ri, Value.ref ro, Value.ref rw, Value.int xasked])), (ri, Sum.inr (0, [Value.int (nI is.length), Value.ref ria])), (ria, Sum.inl (cI, rik, Sum.inl rrfq_51))] H := ⟨hP, hD⟩
        have hP := hPD.1
        have hD := hPD.2
        exact my_iret (v := r_62) hx hb hr (rfl) hlocks hQ hK hS (Nat.le_refl _) (Nat.le_refl _) (rrfq_51) (⟨by rw [hr_62, rAt_nI (by rw [List.length_set]; exact hi7) (by rw [List.length_set]; omega), List.getD_eq_getElem?_getD, List.getElem?_set_self hi7]; rfl, hGrr_51⟩) (hP.sub [0, 1, 2, 3] rfl) (hD.sub [0, 1, 2, 3] (by decide +kernel) rfl) d_RC_spoil_65
      · exact absurd (nI_le (b := 255) ht7 (by decide)) c_3
  · exact absurd (has_in hi7 (by omega)) (one_eq hr_8 c_1)
set_option maxHeartbeats 2000000 in
set_option maxRecDepth 100000 in
theorem f_RC_endB_Table (l : Launch) (dC : Nat → ClassId) (dI : Nat → Nat → Nat) (cI cM cO : ClassId) (sz : Nat) (sl : Nat) (rc : Nat) (ma : Nat) (k : Nat) (fit : Int32) (frd : Int32) (fbd : Int32) (fir : Int32) (mf : Nat → Option Nat) (co : Nat) (xx : Int64) (xreadX : Int64) (soa : Nat) (sna : Nat) (swa : Nat) (ri : Nat) (ro : Nat) (rw : Nat) (xasked : Int32) (rwn : Int32) (rwa : Nat) (rwk : Nat) (rwf : Nat → Int32) (ron : Int32) (roa : Nat) (rok : Nat) (rof : Nat → Int32) (sof : Nat → Option Nat) (snf : Nat → Int32) (swf : Nat → Int32) (its : List It) (N : Nat → Nat) (Fn : Nat → Nat → Nat) (pl : va_W) (hrw : rOk rwn rwk) (hro : rOk ron rok) (hki : its.length ≤ 600) (hkp : kpt cI ob4 512 9 N Fn sof snf swf pl its) : MetIg l y_RC_end (Cond.code y_RC_end prog_1_method_6_code 1 (some .int) :: gw) ({ frames := 6, cells := rPh rwk + rPh rok, slots := rPh rwk + rPh rok, locals := 148 } : Room) (dC, dI) vwCl (kT cI cM cO) [Value.ref rc] ([(rc, Sum.inr (6, [Value.ref co, Value.ref ma, Value.int (nI k), Value.int fit, Value.int 0, Value.int frd, Value.int fbd, Value.int fir])), (co, Sum.inr (5, [Value.long xx, Value.long xreadX, Value.ref soa, Value.ref sna, Value.ref swa, Value.int (nI its.length), Value.ref ri, Value.ref ro, Value.ref rw, Value.int xasked])), (rw, Sum.inr (0, [Value.int rwn, Value.ref rwa])), (rwa, Sum.inl (cI, rwk, Sum.inl rwf)), (ro, Sum.inr (0, [Value.int ron, Value.ref roa])), (roa, Sum.inl (cI, rok, Sum.inl rof)), (soa, Sum.inl (cO, 600, Sum.inr (Sum.inr (Sum.inr (Sum.inr sof))))), (sna, Sum.inl (cI, 600, Sum.inl snf)), (swa, Sum.inl (cI, 600, Sum.inl swf))] ++ pl) sz sl (fun (r : Int32) (u : Int64 × Nat × Nat × (Nat → Int32) × Nat × Nat × (Nat → Int32)) => r = nI (pkB (e4W Fn N its) (((e4W Fn N its).length + 7) / 8)).length ∧ rOk (nI (e4W Fn N its).length) u.2.2.1 ∧ gIs u.2.2.2.1 (e4W Fn N its) ∧ rOk (nI (pkB (e4W Fn N its) (((e4W Fn N its).length + 7) / 8)).length) u.2.2.2.2.2.1 ∧ gIs u.2.2.2.2.2.2 (pkB (e4W Fn N its) (((e4W Fn N its).length + 7) / 8))) (fun (u : Int64 × Nat × Nat × (Nat → Int32) × Nat × Nat × (Nat → Int32)) => ([(rc, Sum.inr (6, [Value.ref co, Value.ref ma, Value.int (nI k), Value.int fit, Value.int 1, Value.int frd, Value.int fbd, Value.int fir])), (co, Sum.inr (5, [Value.long u.1, Value.long xreadX, Value.ref soa, Value.ref sna, Value.ref swa, Value.int (nI its.length), Value.ref ri, Value.ref ro, Value.ref rw, Value.int xasked])), (rw, Sum.inr (0, [Value.int (nI (e4W Fn N its).length), Value.ref u.2.1])), (u.2.1, Sum.inl (cI, u.2.2.1, Sum.inl u.2.2.2.1)), (ro, Sum.inr (0, [Value.int (nI (pkB (e4W Fn N its) (((e4W Fn N its).length + 7) / 8)).length), Value.ref u.2.2.2.2.1])), (u.2.2.2.2.1, Sum.inl (cI, u.2.2.2.2.2.1, Sum.inl u.2.2.2.2.2.2)), (soa, Sum.inl (cO, 600, Sum.inr (Sum.inr (Sum.inr (Sum.inr sof))))), (sna, Sum.inl (cI, 600, Sum.inl snf)), (swa, Sum.inl (cI, 600, Sum.inl swf))] ++ pl)) (rPh rwk + rPh rok) (fun (u : Int64 × Nat × Nat × (Nat → Int32) × Nat × Nat × (Nat → Int32)) => rPh u.2.2.1 + rPh u.2.2.2.2.2.1) := by
  refine my_ofIg (cc := prog_1_method_6_code) (n := 1) (ret := (some .int)) (by decide) rfl (Nat.le_of_ble_eq_true rfl) ?_
  intro p e s m args below meth c R Q A ls H locs hx hb hr hts hown hlocks hml hnm hR hQ hA hl hP hK hN hD hS
  have hg : ∀ w ∈ gw, w.before args s = true := fun w h => hts w (List.mem_cons_of_mem _ h)
  have hown : s.vm.findClass "RangeCoders" = some m.cls := hown
  have hl : lv_has ls 1 [(0, Value.ref rc)] := hl
  refine lv_aload_n hx hb d_RC_end_0 rfl (lv_at hl 0 rfl) ?_
  refine va_get (D := (dC, dI)) (ci := 6) (v := .int 0) (C := "RangeCoders") (T := T_RC) (N := 8) hx hb hg in_RC hown hK hP 0 rfl rfl 4 (by decide) (hg _ k262) (fun _ h9 => h9) rfl d_RC_end_1 ?_
  refine lv_if_eq (tgt := 10) hx hb d_RC_end_4 (by decide) (fun c_1 => ?_) (fun c_1 => ?_)
  · refine lv_aload_n hx hb d_RC_end_10 rfl (lv_at hl 0 rfl) ?_
    refine va_get (D := (dC, dI)) (ci := 6) (v := .ref co) (C := "RangeCoders") (T := T_RC) (N := 8) hx hb hg in_RC hown hK hP 0 rfl rfl 0 (by decide) (hg _ k258) (fun _ h9 => h9) rfl d_RC_end_11 ?_
    refine my_cvgT (rx := fun (u : Int64 × Nat × Nat × (Nat → Int32) × Nat × Nat × (Nat → Int32)) => [(co, Sum.inr (5, [Value.long u.1, Value.long xreadX, Value.ref soa, Value.ref sna, Value.ref swa, Value.int (nI its.length), Value.ref ri, Value.ref ro, Value.ref rw, Value.int xasked])), (rw, Sum.inr (0, [Value.int (nI (e4W Fn N its).length), Value.ref u.2.1])), (u.2.1, Sum.inl (cI, u.2.2.1, Sum.inl u.2.2.2.1)), (ro, Sum.inr (0, [Value.int (nI (pkB (e4W Fn N its) (((e4W Fn N its).length + 7) / 8)).length), Value.ref u.2.2.2.2.1])), (u.2.2.2.2.1, Sum.inl (cI, u.2.2.2.2.2.1, Sum.inl u.2.2.2.2.2.2)), (soa, Sum.inl (cO, 600, Sum.inr (Sum.inr (Sum.inr (Sum.inr sof))))), (sna, Sum.inl (cI, 600, Sum.inl snf)), (swa, Sum.inl (cI, 600, Sum.inl swf))]) (pq := fun (u : Int64 × Nat × Nat × (Nat → Int32) × Nat × Nat × (Nat → Int32)) => pl) (wr := [(rc, Sum.inr (6, [Value.ref co, Value.ref ma, Value.int (nI k), Value.int fit, Value.int 0, Value.int frd, Value.int fbd, Value.int fir]))]) (va_runU (As := []) (rest := []) ⟨hx, hb, hml, hown, hts⟩ (f_Table_closeMessage l dC dI cI cM cO H.size (hSl H) co xx xreadX soa sna swa ri ro rw xasked rwn rwa rwk rwf ron roa rok rof sof snf swf its N Fn pl (by first | assumption | omega) (by first | assumption | omega) (by first | assumption | omega) (by first | assumption | omega)) (va_cwA 0 hts (my_gU k572 k574 k678 k591 k9 k592) rfl rfl rfl (hN.1 _ j573 rfl) (by decide +kernel) ⟨by rw [hR]; exact Nat.le_of_ble_eq_true rfl, by rw [hR]; exact Nat.le_of_ble_eq_true rfl⟩) (my_preVg hK hN (my_partU hP [1, 2, 3, 4, 5, 6, 7, 8] rfl) (hD.part [1, 2, 3, 4, 5, 6, 7, 8] (by decide +kernel) rfl) 0 rfl rfl) rfl rfl hl.1 rfl (lv_room (Nat.le_of_ble_eq_true rfl)) d_RC_end_14 ⟨by rw [hR]; exact (show 0 + (rPh rwk + rPh rok) ≤ (rPh rwk + rPh rok) by omega), by rw [hR]; exact (show 0 + (rPh rwk + rPh rok) ≤ (rPh rwk + rPh rok) by omega)⟩) hP hD hS hA [1, 2, 3, 4, 5, 6, 7, 8] [0] rfl rfl (by decide +kernel) (by decide +kernel) (fun u9 d_14 H locs hd_14 hw_14 hP hD hS => ?_)
    obtain ⟨xxq_14, rwaq_14, rwkq_14, rwfq_14, roaq_14, rokq_14, rofq_14⟩ := u9
    obtain ⟨hrw_14, hGrw_14, hro_14, hGro_14⟩ : rOk (nI (e4W Fn N its).length) rwkq_14 ∧ gIs rwfq_14 (e4W Fn N its) ∧ rOk (nI (pkB (e4W Fn N its) (((e4W Fn N its).length + 7) / 8)).length) rokq_14 ∧ gIs rofq_14 (pkB (e4W Fn N its) (((e4W Fn N its).length + 7) / 8)) := hw_14
    have hd_14 : d_14 + (rPh rwkq_14 + rPh rokq_14) ≤ (rPh rwk + rPh rok) := hd_14
    have hPD : my_PD (dC, dI) vwCl A ([(rc, Sum.inr (6, [Value.ref co, Value.ref ma, Value.int (nI k), Value.int fit, Value.int 0, Value.int frd, Value.int fbd, Value.int fir])), (co, Sum.inr (5, [Value.long xxq_14, Value.long xreadX, Value.ref soa, Value.ref sna, Value.ref swa, Value.int (nI its.length), Value.ref ri, Value.ref ro, Value.ref rw, Value.int xasked])), (rw, Sum.inr (0, [Value.int (nI (e4W Fn N its).length), Value.ref rwaq_14])), (rwaq_14, Sum.inl (cI, rwkq_14, Sum.inl rwfq_14)), (ro, Sum.inr (0, [Value.int (nI (pkB (e4W Fn N its) (((e4W Fn N its).length + 7) / 8)).length), Value.ref roaq_14])), (roaq_14, Sum.inl (cI, rokq_14, Sum.inl rofq_14)), (soa, Sum.inl (cO, 600, Sum.inr (Sum.inr (Sum.inr (Sum.inr sof))))), (sna, Sum.inl (cI, 600, Sum.inl snf)), (swa, Sum.inl (cI, 600, Sum.inl swf))] ++ pl) H := ⟨hP, hD⟩
    have hP := hPD.1
    have hD := hPD.2
    refine lv_aload_n hx hb d_RC_end_17 rfl (lv_at hl 0 rfl) ?_
    refine lv_iconst (v := 1) hx hb d_RC_end_18 (by decide) ?_
    refine va_put (D := (dC, dI)) (ci := 6) (v := .int 1) (ty := .boolean) (C := "RangeCoders") (T := T_RC) (N := 8) hx hb hg in_RC t_RC o_RC n_RC hown hK hP hD hS 0 rfl rfl 4 (by decide) (hg _ k262) (fun _ h9 => h9) rfl (o_RC 4 (by decide)) rfl rfl (Nat.le_of_ble_eq_true rfl) d_RC_end_19 (fun H locs hP hD hS => ?_)
    have hPD : my_PD (dC, dI) vwCl A ([(rc, Sum.inr (6, [Value.ref co, Value.ref ma, Value.int (nI k), Value.int fit, Value.int 1, Value.int frd, Value.int fbd, Value.int fir])), (co, Sum.inr (5, [Value.long xxq_14, Value.long xreadX, Value.ref soa, Value.ref sna, Value.ref swa, Value.int (nI its.length), Value.ref ri, Value.ref ro, Value.ref rw, Value.int xasked])), (rw, Sum.inr (0, [Value.int (nI (e4W Fn N its).length), Value.ref rwaq_14])), (rwaq_14, Sum.inl (cI, rwkq_14, Sum.inl rwfq_14)), (ro, Sum.inr (0, [Value.int (nI (pkB (e4W Fn N its) (((e4W Fn N its).length + 7) / 8)).length), Value.ref roaq_14])), (roaq_14, Sum.inl (cI, rokq_14, Sum.inl rofq_14)), (soa, Sum.inl (cO, 600, Sum.inr (Sum.inr (Sum.inr (Sum.inr sof))))), (sna, Sum.inl (cI, 600, Sum.inl snf)), (swa, Sum.inl (cI, 600, Sum.inl swf))] ++ pl) H := ⟨hP, hD⟩
    have hP := hPD.1
    have hD := hPD.2
    refine lv_aload_n hx hb d_RC_end_22 rfl (lv_at hl 0 rfl) ?_
    refine va_get (D := (dC, dI)) (ci := 6) (v := .ref co) (C := "RangeCoders") (T := T_RC) (N := 8) hx hb hg in_RC hown hK hP 0 rfl rfl 0 (by decide) (hg _ k258) (fun _ h9 => h9) rfl d_RC_end_23 ?_
    refine va_get (D := (dC, dI)) (ci := 5) (v := .ref ro) (C := "RangeCoders$Table") (T := T_Table) (N := 10) hx hb hg in_Table hown hK hP 1 rfl rfl 7 (by decide) (hg _ k108) (fun _ h9 => h9) rfl d_RC_end_26 ?_
    refine va_get (D := (dC, dI)) (ci := 0) (v := .int (nI (pkB (e4W Fn N its) (((e4W Fn N its).length + 7) / 8)).length)) (C := "RangeCoders$Row") (T := T_Row) (N := 2) hx hb hg in_Row hown hK hP 4 rfl rfl 0 (by decide) (hg _ k58) (fun _ h9 => h9) rfl d_RC_end_29 ?_
    exact my_iretg (v := nI (pkB (e4W Fn N its) (((e4W Fn N its).length + 7) / 8)).length) hx hb hr (rfl) hlocks hQ hK hS (xxq_14, rwaq_14, rwkq_14, rwfq_14, roaq_14, rokq_14, rofq_14) (show (0 + d_14) + (rPh rwkq_14 + rPh rokq_14) ≤ (rPh rwk + rPh rok) by omega) (show (0 + d_14) + (rPh rwkq_14 + rPh rokq_14) ≤ (rPh rwk + rPh rok) by omega) (⟨rfl, hrw_14, hGrw_14, hro_14, hGro_14⟩) (hP.part [0, 1, 2, 3, 4, 5, 6, 7, 8] rfl) (hD.part [0, 1, 2, 3, 4, 5, 6, 7, 8] (by decide +kernel) rfl) d_RC_end_32
  · exact absurd (by decide) c_1
end
section
/-! ALL MODELS: what a call does to each of them -/
abbrev mK (x : MB) : Nat := x.2.2.1
abbrev mF (x : MB) : Nat → Int32 := x.2.2.2.1
abbrev mS (x : MB) : OB := x.2.2.2.2.1
abbrev mH (x : MB) : OB := x.2.2.2.2.2
/-- COUNTS as the class has them -/
def Cx (x : MB) : Nat → Nat := fun k => (mF x k).toNatClampNeg
def bgI (P : MB → MB → Prop) (ms ms9 : List MB) (ii : Nat) : Prop := ∀ (i : Nat) (u v : MB), ms[i]? = some u → ms9[i]? = some v → (i < ii → P u v) ∧ (ii ≤ i → v = u)
theorem bg_0 {P : MB → MB → Prop} (ms : List MB) : bgI P ms ms 0 := fun i u v hu hv => ⟨fun h => absurd h (Nat.not_lt_zero i), fun _ => by rw [hu] at hv; exact (Option.some.inj hv).symm⟩
theorem bg_x {P : MB → MB → Prop} {ms a b : List MB} {x : MB} (h : bgI P ms (a ++ x :: b) a.length) (hl : ms.length = (a ++ x :: b).length) : ms[a.length]? = some x := by
  have hlt : a.length < ms.length := by rw [hl, List.length_append, List.length_cons]; omega
  have e := List.getElem?_eq_getElem hlt
  have q := (h a.length _ x e mb_get).2 (Nat.le_refl _)
  rw [e, q]
theorem bg_st {P : MB → MB → Prop} {ms a b : List MB} {x y : MB} (h : bgI P ms (a ++ x :: b) a.length) (hl : ms.length = (a ++ x :: b).length) (hy : P x y) : bgI P ms (a ++ y :: b) (a.length + 1) := by
  intro i u v hu hv
  by_cases e : i = a.length
  · subst e
    rw [bg_x h hl] at hu
    rw [mb_get] at hv
    cases hu; cases hv
    exact ⟨fun _ => hy, fun z => by omega⟩
  · have hv2 : (a ++ x :: b)[i]? = some v := by
      rcases Nat.lt_or_ge i a.length with q | q
      · rw [List.getElem?_append_left q] at hv ⊢; exact hv
      · rw [List.getElem?_append_right q] at hv ⊢
        obtain ⟨d, hd⟩ : ∃ d, i - a.length = d + 1 := ⟨i - a.length - 1, by omega⟩
        rw [hd, List.getElem?_cons_succ] at hv ⊢
        exact hv
    have q := h i u v hu hv2
    exact ⟨fun z => q.1 (by omega), fun z => q.2 (by omega)⟩
/-- a place where no model is: nothing is done there -/
theorem bg_no {P : MB → MB → Prop} {ms ms9 : List MB} {ii : Nat} (h : bgI P ms ms9 ii) (hl : ms9.length ≤ ii) : bgI P ms ms9 (ii + 1) := fun i u v hu hv =>
  ⟨fun z => by
    have hi : i < ms9.length := (List.getElem?_eq_some_iff.mp hv).1
    exact (h i u v hu hv).1 (by omega), fun z => (h i u v hu hv).2 (by omega)⟩
theorem bg_e {P : MB → MB → Prop} {ms ms9 : List MB} (h : bgI P ms ms9 8) (hl : ms.length ≤ 8) : ∀ (i : Nat) (u v : MB), ms[i]? = some u → ms9[i]? = some v → P u v := fun i u v hu hv => (h i u v hu hv).1 (by have := (List.getElem?_eq_some_iff.mp hu).1; omega)
theorem Cx_tb {x : MB} {n : Nat} {C : Nat → Nat} (h : tbI (mF x) n C) (hb : bd C n 4095) : (∀ k, k < n → Cx x k = C k) ∧ tbI (mF x) n (Cx x) := by
  have e : ∀ k, k < n → Cx x k = C k := fun k hk => by
    unfold Cx
    rw [h k hk]
    exact nI_clamp (by have := hb k hk; omega)
  exact ⟨e, fun k hk => by rw [h k hk, e k hk]⟩
def osh_Carries (n : Nat) (o : OB) : Prop := o.2.1 = nI n ∧ o.2.2.2.1 = 0 ∧ o.2.2.2.2.2.2.1 = n ∧ o.2.2.2.2.2.2.2.2.1 = 0
def oth_Carries (n : Nat) (F : Nat → Nat) (o : OB) : Prop := tbI o.2.2.2.2.2.2.2.1 n (F) ∧ o.2.2.1 = nI (ns (F) n)
def mOk_Carries (x : MB) : Prop := 2 ≤ mK x ∧ mK x ≤ 64 ∧ osh_Carries (mK x) (mS x) ∧ tbI (mF x) (mK x) (Cx x) ∧ bd (Cx x) (mK x) 4095
def nw_Carries (x y : MB) : Prop := mK y = mK x ∧ mF y = mF x ∧ mH y = mH x ∧ osh_Carries (mK x) (mS y) ∧ oth_Carries (mK x) (les (mK x) (Cx x)) (mS y)
def osh_NoCarries (n : Nat) (o : OB) : Prop := o.2.1 = nI n ∧ o.2.2.2.1 = 0 ∧ o.2.2.2.2.2.2.1 = n ∧ o.2.2.2.2.2.2.2.2.1 = 0
def oth_NoCarries (n : Nat) (F : Nat → Nat) (o : OB) : Prop := tbI o.2.2.2.2.2.2.2.1 n (F) ∧ o.2.2.1 = nI (ns (F) n)
def mOk_NoCarries (x : MB) : Prop := 2 ≤ mK x ∧ mK x ≤ 64 ∧ osh_NoCarries (mK x) (mS x) ∧ tbI (mF x) (mK x) (Cx x) ∧ bd (Cx x) (mK x) 4095
def nw_NoCarries (x y : MB) : Prop := mK y = mK x ∧ mF y = mF x ∧ mH y = mH x ∧ osh_NoCarries (mK x) (mS y) ∧ oth_NoCarries (mK x) (les (mK x) (Cx x)) (mS y)
def osh_Bits (n : Nat) (o : OB) : Prop := o.2.1 = nI n ∧ o.2.2.2.1 = 1 ∧ o.2.2.2.2.2.2.1 = (2 ^ lev n) ∧ o.2.2.2.2.2.2.2.2.1 = 0
def oth_Bits (n : Nat) (F : Nat → Nat) (o : OB) : Prop := tbI o.2.2.2.2.2.2.2.1 (2 ^ lev n) (F)
def mOk_Bits (x : MB) : Prop := 2 ≤ mK x ∧ mK x ≤ 64 ∧ osh_Bits (mK x) (mS x) ∧ tbI (mF x) (mK x) (Cx x) ∧ bd (Cx x) (mK x) 4095
def nw_Bits (x y : MB) : Prop := mK y = mK x ∧ mF y = mF x ∧ mH y = mH x ∧ osh_Bits (mK x) (mS y) ∧ oth_Bits (mK x) (fun _ => 1024) (mS y)
def osh_Stack (n : Nat) (o : OB) : Prop := o.2.1 = nI n ∧ o.2.2.2.1 = 0 ∧ o.2.2.2.2.2.2.1 = n ∧ o.2.2.2.2.2.2.2.2.1 = 0
def oth_Stack (n : Nat) (F : Nat → Nat) (o : OB) : Prop := tbI o.2.2.2.2.2.2.2.1 n (F) ∧ o.2.2.1 = nI (ns (F) n)
def mOk_Stack (x : MB) : Prop := 2 ≤ mK x ∧ mK x ≤ 64 ∧ osh_Stack (mK x) (mS x) ∧ tbI (mF x) (mK x) (Cx x) ∧ bd (Cx x) (mK x) 4095
def nw_Stack (x y : MB) : Prop := mK y = mK x ∧ mF y = mF x ∧ mH y = mH x ∧ osh_Stack (mK x) (mS y) ∧ oth_Stack (mK x) (sc (mK x) 4096 (Cx x)) (mS y)
def osh_Table (n : Nat) (o : OB) : Prop := o.2.1 = nI n ∧ o.2.2.2.1 = 0 ∧ o.2.2.2.2.2.2.1 = n ∧ o.2.2.2.2.2.2.2.2.1 = 512
def oth_Table (n : Nat) (F : Nat → Nat) (o : OB) : Prop := tbI o.2.2.2.2.2.2.2.1 n (F) ∧ o.2.2.1 = nI (ns (F) n) ∧ layt o.2.2.2.2.2.2.2.2.2 (F) n (ns (F) n)
def mOk_Table (x : MB) : Prop := 2 ≤ mK x ∧ mK x ≤ 64 ∧ osh_Table (mK x) (mS x) ∧ tbI (mF x) (mK x) (Cx x) ∧ bd (Cx x) (mK x) 4095
def nw_Table (x y : MB) : Prop := mK y = mK x ∧ mF y = mF x ∧ mH y = mH x ∧ osh_Table (mK x) (mS y) ∧ oth_Table (mK x) (sc (mK x) 512 (Cx x)) (mS y)
end
section
set_option maxHeartbeats 2000000 in
set_option maxRecDepth 100000 in
theorem f_RC_begin_Bits (l : Launch) (dC : Nat → ClassId) (dI : Nat → Nat → Nat) (cI cM cO : ClassId) (sz : Nat) (rc : Nat) (ma : Nat) (fit : Int32) (fen : Int32) (frd : Int32) (fbd : Int32) (fir : Int32) (mf : Nat → Option Nat) (co : Nat) (xshift : Int32) (xkeptCode : Int64) (xkeptRange : Int64) (xkeptAsked : Int32) (xcache : Int32) (xpending : Int32) (xlow : Int64) (xrange : Int64) (xcode : Int64) (xreadLow : Int64) (xreadRange : Int64) (ri : Nat) (ro : Nat) (rw : Nat) (xasked : Int32) (rwn : Int32) (rwa : Nat) (rwk : Nat) (rwf : Nat → Int32) (ms : List MB) (hk8 : ms.length ≤ 8) (hrw : rOk rwn rwk) (hmf : mfOk mf ms) (hmk : ∀ x ∈ ms, mbOk x) (hms : ∀ x ∈ ms, mOk_Bits x) : MetI l y_RC_begin (Cond.code y_RC_begin prog_1_method_7_code 6 (some .int) :: gw) ({ frames := 3, cells := 0, slots := 0, locals := 66 } : Room) (dC, dI) vwCl (kT cI cM cO) [Value.ref rc] ([(rc, Sum.inr (6, [Value.ref co, Value.ref ma, Value.int (nI ms.length), Value.int fit, Value.int fen, Value.int frd, Value.int fbd, Value.int fir])), (ma, Sum.inl (cM, 8, Sum.inr (Sum.inr (Sum.inr (Sum.inr mf))))), (co, Sum.inr (3, [Value.int xshift, Value.long xkeptCode, Value.long xkeptRange, Value.int xkeptAsked, Value.int xcache, Value.int xpending, Value.long xlow, Value.long xrange, Value.long xcode, Value.long xreadLow, Value.long xreadRange, Value.ref ri, Value.ref ro, Value.ref rw, Value.int xasked])), (rw, Sum.inr (0, [Value.int rwn, Value.ref rwa])), (rwa, Sum.inl (cI, rwk, Sum.inl rwf))] ++ mbsC cI ms) sz (fun (r : Int32) (u : List MB) => u.map mbA = ms.map mbA ∧ (∀ x ∈ u, mbOk x) ∧ (∀ (i9 : Nat) (x9 y9 : MB), ms[i9]? = some x9 → u[i9]? = some y9 → nw_Bits x9 y9) ∧ ms.length = u.length ∧ r = fit ∧ rOk 0 rwk) (fun (u : List MB) => ([(rc, Sum.inr (6, [Value.ref co, Value.ref ma, Value.int (nI ms.length), Value.int 0, Value.int 0, Value.int frd, Value.int fbd, Value.int fir])), (ma, Sum.inl (cM, 8, Sum.inr (Sum.inr (Sum.inr (Sum.inr mf))))), (co, Sum.inr (3, [Value.int xshift, Value.long xkeptCode, Value.long xkeptRange, Value.int xkeptAsked, Value.int (-1), Value.int 0, Value.long 0, Value.long 4294967295, Value.long xcode, Value.long xreadLow, Value.long xreadRange, Value.ref ri, Value.ref ro, Value.ref rw, Value.int xasked])), (rw, Sum.inr (0, [Value.int 0, Value.ref rwa])), (rwa, Sum.inl (cI, rwk, Sum.inl rwf))] ++ mbsC cI u)) 0 0 := by
  refine my_ofI (cc := prog_1_method_7_code) (n := 6) (ret := (some .int)) (by decide) rfl (Nat.le_of_ble_eq_true rfl) ?_
  intro p e s m args below meth c R Q A ls H locs hx hb hr hts hown hlocks hml hnm hR hQ hA hl hP hK hN hD hS
  have hg : ∀ w ∈ gw, w.before args s = true := fun w h => hts w (List.mem_cons_of_mem _ h)
  have hown : s.vm.findClass "RangeCoders" = some m.cls := hown
  have hl : lv_has ls 6 [(0, Value.ref rc)] := hl
  have hlt_hrw := rOk_lt hrw
  refine lv_aload_n hx hb d_RC_begin_0 rfl (lv_at hl 0 rfl) ?_
  refine va_get (D := (dC, dI)) (ci := 6) (v := .int fit) (C := "RangeCoders") (T := T_RC) (N := 8) hx hb hg in_RC hown hK hP 0 rfl rfl 3 (by decide) (hg _ k261) (fun _ h9 => h9) rfl d_RC_begin_1 ?_
  refine lv_istore_n (lv' := [(1, Value.int fit), (0, Value.ref rc)]) hx hb d_RC_begin_4 rfl hl (by decide) rfl (fun ls hl => ?_)
  refine lv_aload_n hx hb d_RC_begin_5 rfl (lv_at hl 1 rfl) ?_
  refine lv_iconst (v := 0) hx hb d_RC_begin_6 (by decide) ?_
  refine va_put (D := (dC, dI)) (ci := 6) (v := .int 0) (ty := .int) (C := "RangeCoders") (T := T_RC) (N := 8) hx hb hg in_RC t_RC o_RC n_RC hown hK hP hD hS 0 rfl rfl 3 (by decide) (hg _ k261) (fun _ h9 => h9) rfl (o_RC 3 (by decide)) rfl rfl (Nat.le_of_ble_eq_true rfl) d_RC_begin_7 (fun H locs hP hD hS => ?_)
  have hPD : my_PD (dC, dI) vwCl A ([(rc, Sum.inr (6, [Value.ref co, Value.ref ma, Value.int (nI ms.length), Value.int 0, Value.int fen, Value.int frd, Value.int fbd, Value.int fir])), (ma, Sum.inl (cM, 8, Sum.inr (Sum.inr (Sum.inr (Sum.inr mf))))), (co, Sum.inr (3, [Value.int xshift, Value.long xkeptCode, Value.long xkeptRange, Value.int xkeptAsked, Value.int xcache, Value.int xpending, Value.long xlow, Value.long xrange, Value.long xcode, Value.long xreadLow, Value.long xreadRange, Value.ref ri, Value.ref ro, Value.ref rw, Value.int xasked])), (rw, Sum.inr (0, [Value.int rwn, Value.ref rwa])), (rwa, Sum.inl (cI, rwk, Sum.inl rwf))] ++ mbsC cI ms) H := ⟨hP, hD⟩
  have hP := hPD.1
  have hD := hPD.2
  refine lv_aload_n hx hb d_RC_begin_10 rfl (lv_at hl 1 rfl) ?_
  refine lv_iconst (v := 0) hx hb d_RC_begin_11 (by decide) ?_
  refine va_put (D := (dC, dI)) (ci := 6) (v := .int 0) (ty := .boolean) (C := "RangeCoders") (T := T_RC) (N := 8) hx hb hg in_RC t_RC o_RC n_RC hown hK hP hD hS 0 rfl rfl 4 (by decide) (hg _ k262) (fun _ h9 => h9) rfl (o_RC 4 (by decide)) rfl rfl (Nat.le_of_ble_eq_true rfl) d_RC_begin_12 (fun H locs hP hD hS => ?_)
  have hPD : my_PD (dC, dI) vwCl A ([(rc, Sum.inr (6, [Value.ref co, Value.ref ma, Value.int (nI ms.length), Value.int 0, Value.int 0, Value.int frd, Value.int fbd, Value.int fir])), (ma, Sum.inl (cM, 8, Sum.inr (Sum.inr (Sum.inr (Sum.inr mf))))), (co, Sum.inr (3, [Value.int xshift, Value.long xkeptCode, Value.long xkeptRange, Value.int xkeptAsked, Value.int xcache, Value.int xpending, Value.long xlow, Value.long xrange, Value.long xcode, Value.long xreadLow, Value.long xreadRange, Value.ref ri, Value.ref ro, Value.ref rw, Value.int xasked])), (rw, Sum.inr (0, [Value.int rwn, Value.ref rwa])), (rwa, Sum.inl (cI, rwk, Sum.inl rwf))] ++ mbsC cI ms) H := ⟨hP, hD⟩
  have hP := hPD.1
  have hD := hPD.2
  refine lv_aload_n hx hb d_RC_begin_15 rfl (lv_at hl 1 rfl) ?_
  refine va_get (D := (dC, dI)) (ci := 6) (v := .ref co) (C := "RangeCoders") (T := T_RC) (N := 8) hx hb hg in_RC hown hK hP 0 rfl rfl 0 (by decide) (hg _ k258) (fun _ h9 => h9) rfl d_RC_begin_16 ?_
  refine my_cvt (wr := [(rc, Sum.inr (6, [Value.ref co, Value.ref ma, Value.int (nI ms.length), Value.int 0, Value.int 0, Value.int frd, Value.int fbd, Value.int fir])), (ma, Sum.inl (cM, 8, Sum.inr (Sum.inr (Sum.inr (Sum.inr mf)))))]) (va_runU (As := []) (rest := []) ⟨hx, hb, hml, hown, hts⟩ (f_Bits_open l dC dI cI cM cO H.size co xshift xkeptCode xkeptRange xkeptAsked xcache xpending xlow xrange xcode xreadLow xreadRange ri ro rw xasked rwn rwa rwk rwf (by first | assumption | omega)) (va_cwA 0 hts (my_gU k683 k685 k686 k687 k5 k688) rfl rfl rfl (hN.1 _ j684 rfl) (by decide +kernel) ⟨by rw [hR]; exact Nat.le_of_ble_eq_true rfl, by rw [hR]; exact Nat.le_of_ble_eq_true rfl⟩) (my_preV hK hN (my_subU hP [2, 3, 4] rfl) (my_dubT hD [2, 3, 4] (by decide +kernel) rfl) 0 rfl rfl) rfl rfl hl.1 rfl (lv_room (Nat.le_of_ble_eq_true rfl)) d_RC_begin_19 ⟨by rw [hR]; exact Nat.le_of_ble_eq_true rfl, by rw [hR]; exact Nat.le_of_ble_eq_true rfl⟩) hP hD hS hA [2, 3, 4] [0, 1] rfl rfl (by decide +kernel) (by decide +kernel) (fun u9 H locs hw_19 hP hD hS => ?_)
  have hr_19 : rOk 0 rwk := hw_19
  have hPD : my_PD (dC, dI) vwCl A ([(rc, Sum.inr (6, [Value.ref co, Value.ref ma, Value.int (nI ms.length), Value.int 0, Value.int 0, Value.int frd, Value.int fbd, Value.int fir])), (ma, Sum.inl (cM, 8, Sum.inr (Sum.inr (Sum.inr (Sum.inr mf))))), (co, Sum.inr (3, [Value.int xshift, Value.long xkeptCode, Value.long xkeptRange, Value.int xkeptAsked, Value.int (-1), Value.int 0, Value.long 0, Value.long 4294967295, Value.long xcode, Value.long xreadLow, Value.long xreadRange, Value.ref ri, Value.ref ro, Value.ref rw, Value.int xasked])), (rw, Sum.inr (0, [Value.int 0, Value.ref rwa])), (rwa, Sum.inl (cI, rwk, Sum.inl rwf))] ++ mbsC cI ms) H := ⟨hP, hD⟩
  have hP := hPD.1
  have hD := hPD.2
  refine lv_aload_n hx hb d_RC_begin_22 rfl (lv_at hl 1 rfl) ?_
  refine va_get (D := (dC, dI)) (ci := 6) (v := .ref ma) (C := "RangeCoders") (T := T_RC) (N := 8) hx hb hg in_RC hown hK hP 0 rfl rfl 1 (by decide) (hg _ k259) (fun _ h9 => h9) rfl d_RC_begin_23 ?_
  refine lv_astore_n (lv' := [(2, Value.ref ma), (1, Value.int fit), (0, Value.ref rc)]) hx hb d_RC_begin_26 rfl hl (by decide) rfl (fun ls hl => ?_)
  refine lv_aload_n hx hb d_RC_begin_27 rfl (lv_at hl 0 rfl) ?_
  refine va_alen hx hb hK hP 1 1 rfl rfl (v := nI 8) rfl d_RC_begin_28 ?_
  refine lv_istore_n (lv' := [(3, Value.int (nI 8)), (2, Value.ref ma), (1, Value.int fit), (0, Value.ref rc)]) hx hb d_RC_begin_29 rfl hl (by decide) rfl (fun ls hl => ?_)
  refine lv_iconst (v := 0) hx hb d_RC_begin_30 (by decide) ?_
  refine lv_istore (lv' := [(4, Value.int 0), (3, Value.int (nI 8)), (2, Value.ref ma), (1, Value.int fit), (0, Value.ref rc)]) hx hb d_RC_begin_31 hl (by decide) rfl (fun ls hl => ?_)
  have J_33 : ∀ (n9_33 : Nat) (i9 : Int32) (ii : Nat) (ms9 : List MB) (hn9_33 : 8 - ii = n9_33) (hi9 : i9 = nI ii) (hii : ii ≤ 8) (hma : ms9.map mbA = ms.map mbA) (hmo : ∀ x ∈ ms9, mbOk x) (hbg : bgI nw_Bits ms ms9 ii) (hlm : ms.length = ms9.length) (H : Heap) (locs : List Loc) (ls : Array Slot), va_P (dC, dI) vwCl ([(rc, Sum.inr (6, [Value.ref co, Value.ref ma, Value.int (nI ms.length), Value.int 0, Value.int 0, Value.int frd, Value.int fbd, Value.int fir])), (ma, Sum.inl (cM, 8, Sum.inr (Sum.inr (Sum.inr (Sum.inr mf))))), (co, Sum.inr (3, [Value.int xshift, Value.long xkeptCode, Value.long xkeptRange, Value.int xkeptAsked, Value.int (-1), Value.int 0, Value.long 0, Value.long 4294967295, Value.long xcode, Value.long xreadLow, Value.long xreadRange, Value.ref ri, Value.ref ro, Value.ref rw, Value.int xasked])), (rw, Sum.inr (0, [Value.int 0, Value.ref rwa])), (rwa, Sum.inl (cI, rwk, Sum.inl rwf))] ++ mbsC cI ms9) H → va_D A ([(rc, Sum.inr (6, [Value.ref co, Value.ref ma, Value.int (nI ms.length), Value.int 0, Value.int 0, Value.int frd, Value.int fbd, Value.int fir])), (ma, Sum.inl (cM, 8, Sum.inr (Sum.inr (Sum.inr (Sum.inr mf))))), (co, Sum.inr (3, [Value.int xshift, Value.long xkeptCode, Value.long xkeptRange, Value.int xkeptAsked, Value.int (-1), Value.int 0, Value.long 0, Value.long 4294967295, Value.long xcode, Value.long xreadLow, Value.long xreadRange, Value.ref ri, Value.ref ro, Value.ref rw, Value.int xasked])), (rw, Sum.inr (0, [Value.int 0, Value.ref rwa])), (rwa, Sum.inl (cI, rwk, Sum.inl rwf))] ++ mbsC cI ms9) → va_S A s.heap H locs → lv_has ls 6 [(4, Value.int i9), (3, Value.int (nI 8)), (2, Value.ref ma), (1, Value.int fit), (0, Value.ref rc)] → W p l e R s m args below meth c H locs 0 0 Q (F0 m 33 ls []) := by
    intro n9_33
    induction n9_33 using Nat.strongRecOn with
    | ind n9_33 ih9_33 =>
      intro i9 ii ms9 hn9_33 hi9 hii hma hmo hbg hlm H locs ls hP hD hS hl
      refine lv_iload hx hb d_RC_begin_33 (lv_at hl 0 rfl) ?_
      refine lv_iload_n hx hb d_RC_begin_35 rfl (lv_at hl 1 rfl) ?_
      refine lv_icmp_ge (tgt := 73) hx hb d_RC_begin_36 (by decide) (fun c_1 => ?_) (fun c_1 => ?_)
      · refine lv_iload_n hx hb d_RC_begin_73 rfl (lv_at hl 3 rfl) ?_
        exact my_iret (v := fit) hx hb hr (rfl) hlocks hQ hK hS (Nat.le_refl _) (Nat.le_refl _) (ms9) (⟨hma, hmo, bg_e (by rw [show (8 : Nat) = ii by have := nI_ge' (n := 8) (j := ii) (by omega) (by decide) (by rw [← hi9]; assumption); omega]; exact hbg) hk8, hlm, rfl, hr_19⟩) (hP.part [0, 1, 2, 3, 4] rfl) (hD.part [0, 1, 2, 3, 4] (by decide +kernel) rfl) d_RC_begin_74
      · refine lv_aload_n hx hb d_RC_begin_39 rfl (lv_at hl 2 rfl) ?_
        refine lv_iload hx hb d_RC_begin_40 (lv_at hl 0 rfl) ?_
        have hi8 : ii < 8 := by
          rcases Nat.lt_or_ge ii 8 with z | z
          · exact z
          · exact absurd (by rw [hi9]; exact nI_le (a := 8) z (by omega)) c_1
        refine va_aldq hx hb hK hP 1 1 rfl rfl (by rw [hi9]; exact vp_in_nI hi8 (by decide)) d_RC_begin_42 ?_
        rcases hq_a_2 : mf i9.toNatClampNeg with _ | a_2
        · refine W.eq (g2 := F0 m 43 ls [Value.null]) rfl ?_
          have hmf9 := mf_keep hmf hma
          have hnil : ms.length ≤ ii := by
            rcases Nat.lt_or_ge ii ms9.length with z | z
            · obtain ⟨a9, x9, b9, e9, hla⟩ := mb_at z
              subst e9
              rw [hi9, nI_clamp (by omega), ← hla, mf_some hmf9 (by omega)] at hq_a_2; cases hq_a_2
            · rw [hlm]; exact z
          refine lv_astoreN (lv' := [(5, Value.null), (4, Value.int i9), (3, Value.int (nI 8)), (2, Value.ref ma), (1, Value.int fit), (0, Value.ref rc)]) hx hb d_RC_begin_43 hl (by decide) rfl (fun ls hl => ?_)
          refine lv_aloadN hx hb d_RC_begin_45 (lv_at hl 0 rfl) ?_
          refine lv_ifnullN (tgt := 67) hx hb d_RC_begin_47 (by decide) ?_
          obtain ⟨v_3, ev_3⟩ : ∃ y : Int32, y = i9 + (1) := ⟨_, rfl⟩
          refine lv_iinc (v := v_3) (lv' := [(4, Value.int v_3), (5, Value.null), (3, Value.int (nI 8)), (2, Value.ref ma), (1, Value.int fit), (0, Value.ref rc)]) hx hb d_RC_begin_67 hl (k := 1) rfl (by rw [ev_3]; rfl) (by decide) rfl (fun ls hl => ?_)
          refine lv_goto (tgt := 33) hx hb d_RC_begin_70 (by decide) ?_
          exact ih9_33 _ (by first | omega | (omega)) v_3 (ii + 1) ms9 rfl (by rw [ev_3, hi9]; exact nI_1 _) (by omega) (by assumption) (by assumption) (bg_no hbg (by rw [← hlm]; exact hnil)) (hlm) H locs ls (hP.part [0, 1, 2, 3, 4] rfl) (hD.part [0, 1, 2, 3, 4] (by decide +kernel) rfl) hS (lv_sub hl [0, 2, 3, 4, 5] rfl)
        · refine W.eq (g2 := F0 m 43 ls [Value.ref a_2]) rfl ?_
          have hmf9 := mf_keep hmf hma
          have hil : ii < ms9.length := by
            rcases Nat.lt_or_ge ii ms9.length with z | z
            · exact z
            · rw [hi9, nI_clamp (by omega), mf_none hmf9 hi8 z] at hq_a_2; cases hq_a_2
          obtain ⟨a9, x9, b9, e9, hla⟩ := mb_at hil
          subst e9
          obtain ⟨mo9, ka9, kl9, kf9, ⟨oo9, osg9, osm9, ofc9, oca9, opa9, ol9, ocf9, opl9, opf9⟩, ⟨pp9, psg9, psm9, pfc9, pca9, ppa9, pl9, pcf9, ppl9, ppf9⟩⟩ := x9
          have hax : a_2 = mo9 := by
            rw [hi9, nI_clamp (by omega), ← hla, mf_some hmf9 (by omega)] at hq_a_2
            exact (Option.some.inj hq_a_2).symm
          subst hax
          obtain ⟨hk64, ⟨ho1, ho2, ho3⟩, ⟨hp1, hp2, hp3⟩⟩ := ok_mid hmo
          have hP := pm_P hP (mb_out cI [(rc, Sum.inr (6, [Value.ref co, Value.ref ma, Value.int (nI ms.length), Value.int 0, Value.int 0, Value.int frd, Value.int fbd, Value.int fir])), (ma, Sum.inl (cM, 8, Sum.inr (Sum.inr (Sum.inr (Sum.inr mf))))), (co, Sum.inr (3, [Value.int xshift, Value.long xkeptCode, Value.long xkeptRange, Value.int xkeptAsked, Value.int (-1), Value.int 0, Value.long 0, Value.long 4294967295, Value.long xcode, Value.long xreadLow, Value.long xreadRange, Value.ref ri, Value.ref ro, Value.ref rw, Value.int xasked])), (rw, Sum.inr (0, [Value.int 0, Value.ref rwa])), (rwa, Sum.inl (cI, rwk, Sum.inl rwf))] a9 b9 (a_2, ka9, kl9, kf9, (oo9, osg9, osm9, ofc9, oca9, opa9, ol9, ocf9, opl9, opf9), (pp9, psg9, psm9, pfc9, pca9, ppa9, pl9, pcf9, ppl9, ppf9)))
          have hD := pm_D hD (mb_out cI [(rc, Sum.inr (6, [Value.ref co, Value.ref ma, Value.int (nI ms.length), Value.int 0, Value.int 0, Value.int frd, Value.int fbd, Value.int fir])), (ma, Sum.inl (cM, 8, Sum.inr (Sum.inr (Sum.inr (Sum.inr mf))))), (co, Sum.inr (3, [Value.int xshift, Value.long xkeptCode, Value.long xkeptRange, Value.int xkeptAsked, Value.int (-1), Value.int 0, Value.long 0, Value.long 4294967295, Value.long xcode, Value.long xreadLow, Value.long xreadRange, Value.ref ri, Value.ref ro, Value.ref rw, Value.int xasked])), (rw, Sum.inr (0, [Value.int 0, Value.ref rwa])), (rwa, Sum.inl (cI, rwk, Sum.inl rwf))] a9 b9 (a_2, ka9, kl9, kf9, (oo9, osg9, osm9, ofc9, oca9, opa9, ol9, ocf9, opl9, opf9), (pp9, psg9, psm9, pfc9, pca9, ppa9, pl9, pcf9, ppl9, ppf9)))
          have hPD : my_PD (dC, dI) vwCl A ([(rc, Sum.inr (6, [Value.ref co, Value.ref ma, Value.int (nI ms.length), Value.int 0, Value.int 0, Value.int frd, Value.int fbd, Value.int fir])), (ma, Sum.inl (cM, 8, Sum.inr (Sum.inr (Sum.inr (Sum.inr mf))))), (co, Sum.inr (3, [Value.int xshift, Value.long xkeptCode, Value.long xkeptRange, Value.int xkeptAsked, Value.int (-1), Value.int 0, Value.long 0, Value.long 4294967295, Value.long xcode, Value.long xreadLow, Value.long xreadRange, Value.ref ri, Value.ref ro, Value.ref rw, Value.int xasked])), (rw, Sum.inr (0, [Value.int 0, Value.ref rwa])), (rwa, Sum.inl (cI, rwk, Sum.inl rwf)), (a_2, Sum.inr (8, [Value.ref ka9, Value.ref oo9, Value.ref pp9])), (ka9, Sum.inl (cI, kl9, Sum.inl kf9)), (oo9, Sum.inr (7, [Value.int osg9, Value.int osm9, Value.int ofc9, Value.ref oca9, Value.ref opa9])), (oca9, Sum.inl (cI, ol9, Sum.inl ocf9)), (opa9, Sum.inl (cI, opl9, Sum.inl opf9)), (pp9, Sum.inr (7, [Value.int psg9, Value.int psm9, Value.int pfc9, Value.ref pca9, Value.ref ppa9])), (pca9, Sum.inl (cI, pl9, Sum.inl pcf9)), (ppa9, Sum.inl (cI, ppl9, Sum.inl ppf9))] ++ (mbsC cI a9 ++ mbsC cI b9)) H := ⟨hP, hD⟩
          have hP := hPD.1
          have hD := hPD.2
          rw [← hla] at hbg
          obtain ⟨hx1, hx2, ⟨hx3, hx4, hx5, hx6⟩, hx7, hx8⟩ := hms ((a_2, ka9, kl9, kf9, (oo9, osg9, osm9, ofc9, oca9, opa9, ol9, ocf9, opl9, opf9), (pp9, psg9, psm9, pfc9, pca9, ppa9, pl9, pcf9, ppl9, ppf9)) : MB) (List.mem_of_getElem? (bg_x hbg hlm))
          have hx3 : osg9 = nI kl9 := hx3
          skip
          subst hx3
          have hx4 : ofc9 = 1 := hx4
          skip
          subst hx4
          have hx5 : ol9 = (2 ^ lev kl9) := hx5
          skip
          subst hx5
          have hx6 : opl9 = 0 := hx6
          skip
          subst hx6
          have hPD : my_PD (dC, dI) vwCl A ([(rc, Sum.inr (6, [Value.ref co, Value.ref ma, Value.int (nI ms.length), Value.int 0, Value.int 0, Value.int frd, Value.int fbd, Value.int fir])), (ma, Sum.inl (cM, 8, Sum.inr (Sum.inr (Sum.inr (Sum.inr mf))))), (co, Sum.inr (3, [Value.int xshift, Value.long xkeptCode, Value.long xkeptRange, Value.int xkeptAsked, Value.int (-1), Value.int 0, Value.long 0, Value.long 4294967295, Value.long xcode, Value.long xreadLow, Value.long xreadRange, Value.ref ri, Value.ref ro, Value.ref rw, Value.int xasked])), (rw, Sum.inr (0, [Value.int 0, Value.ref rwa])), (rwa, Sum.inl (cI, rwk, Sum.inl rwf)), (a_2, Sum.inr (8, [Value.ref ka9, Value.ref oo9, Value.ref pp9])), (ka9, Sum.inl (cI, kl9, Sum.inl kf9)), (oo9, Sum.inr (7, [Value.int (nI kl9), Value.int osm9, Value.int 1, Value.ref oca9, Value.ref opa9])), (oca9, Sum.inl (cI, (2 ^ lev kl9), Sum.inl ocf9)), (opa9, Sum.inl (cI, 0, Sum.inl opf9)), (pp9, Sum.inr (7, [Value.int psg9, Value.int psm9, Value.int pfc9, Value.ref pca9, Value.ref ppa9])), (pca9, Sum.inl (cI, pl9, Sum.inl pcf9)), (ppa9, Sum.inl (cI, ppl9, Sum.inl ppf9))] ++ (mbsC cI a9 ++ mbsC cI b9)) H := ⟨hP, hD⟩
          have hP := hPD.1
          have hD := hPD.2
          refine lv_astore (lv' := [(5, Value.ref a_2), (4, Value.int i9), (3, Value.int (nI 8)), (2, Value.ref ma), (1, Value.int fit), (0, Value.ref rc)]) hx hb d_RC_begin_43 hl (by decide) rfl (fun ls hl => ?_)
          refine lv_aload hx hb d_RC_begin_45 (lv_at hl 0 rfl) ?_
          refine lv_ifnull hx hb d_RC_begin_47 ?_
          refine lv_aload_n hx hb d_RC_begin_50 rfl (lv_at hl 5 rfl) ?_
          refine va_get (D := (dC, dI)) (ci := 6) (v := .ref co) (C := "RangeCoders") (T := T_RC) (N := 8) hx hb hg in_RC hown hK hP 0 rfl rfl 0 (by decide) (hg _ k258) (fun _ h9 => h9) rfl d_RC_begin_51 ?_
          refine lv_aload hx hb d_RC_begin_54 (lv_at hl 0 rfl) ?_
          refine va_get (D := (dC, dI)) (ci := 8) (v := .ref oo9) (C := "RangeCoders$Model") (T := T_Model) (N := 3) hx hb hg in_Model hown hK hP 5 rfl rfl 1 (by decide) (hg _ k343) (fun _ h9 => h9) rfl d_RC_begin_56 ?_
          refine lv_aload hx hb d_RC_begin_59 (lv_at hl 0 rfl) ?_
          refine va_get (D := (dC, dI)) (ci := 8) (v := .ref ka9) (C := "RangeCoders$Model") (T := T_Model) (N := 3) hx hb hg in_Model hown hK hP 5 rfl rfl 0 (by decide) (hg _ k341) (fun _ h9 => h9) rfl d_RC_begin_61 ?_
          refine my_cvt (wr := [(rc, Sum.inr (6, [Value.ref co, Value.ref ma, Value.int (nI ms.length), Value.int 0, Value.int 0, Value.int frd, Value.int fbd, Value.int fir])), (ma, Sum.inl (cM, 8, Sum.inr (Sum.inr (Sum.inr (Sum.inr mf))))), (rw, Sum.inr (0, [Value.int 0, Value.ref rwa])), (rwa, Sum.inl (cI, rwk, Sum.inl rwf)), (a_2, Sum.inr (8, [Value.ref ka9, Value.ref oo9, Value.ref pp9])), (pp9, Sum.inr (7, [Value.int psg9, Value.int psm9, Value.int pfc9, Value.ref pca9, Value.ref ppa9])), (pca9, Sum.inl (cI, pl9, Sum.inl pcf9)), (ppa9, Sum.inl (cI, ppl9, Sum.inl ppf9))]) (va_runU (As := [Value.ref oo9, Value.ref ka9]) (rest := []) ⟨hx, hb, hml, hown, hts⟩ (f_Bits_prepare l dC dI cI cM cO H.size co xshift xkeptCode xkeptRange xkeptAsked (-1) 0 0 4294967295 xcode xreadLow xreadRange ri ro rw xasked oo9 (nI kl9) 1 oca9 opa9 (2 ^ lev kl9) ocf9 0 opf9 osm9 ka9 kl9 kf9 (lev_63 kl9) (by decide)) (va_cwA 2 hts (my_gU k353 k355 k356 k357 k8 k358) rfl rfl rfl (hN.1 _ j354 rfl) (by decide +kernel) ⟨by rw [hR]; exact Nat.le_of_ble_eq_true rfl, by rw [hR]; exact Nat.le_of_ble_eq_true rfl⟩) (my_preV hK hN (my_subU hP [2, 7, 8, 9, 6] rfl) (my_dubT hD [2, 7, 8, 9, 6] (by decide +kernel) rfl) 0 rfl rfl) rfl rfl hl.1 rfl (lv_room (Nat.le_of_ble_eq_true rfl)) d_RC_begin_64 ⟨by rw [hR]; exact Nat.le_of_ble_eq_true rfl, by rw [hR]; exact Nat.le_of_ble_eq_true rfl⟩) hP hD hS hA [2, 7, 8, 9, 6] [0, 1, 3, 4, 5, 10, 11, 12] rfl rfl (by decide +kernel) (by decide +kernel) (fun u9 H locs hw_64 hP hD hS => ?_)
          obtain ⟨ocfq_64, rfl⟩ : ∃ z, z = u9 := ⟨_, rfl⟩
          have hf_64 : tbI ocfq_64 (2 ^ lev kl9) (fun _ => 1024) := hw_64
          have hPD : my_PD (dC, dI) vwCl A ([(rc, Sum.inr (6, [Value.ref co, Value.ref ma, Value.int (nI ms.length), Value.int 0, Value.int 0, Value.int frd, Value.int fbd, Value.int fir])), (ma, Sum.inl (cM, 8, Sum.inr (Sum.inr (Sum.inr (Sum.inr mf))))), (rw, Sum.inr (0, [Value.int 0, Value.ref rwa])), (rwa, Sum.inl (cI, rwk, Sum.inl rwf)), (a_2, Sum.inr (8, [Value.ref ka9, Value.ref oo9, Value.ref pp9])), (pp9, Sum.inr (7, [Value.int psg9, Value.int psm9, Value.int pfc9, Value.ref pca9, Value.ref ppa9])), (pca9, Sum.inl (cI, pl9, Sum.inl pcf9)), (ppa9, Sum.inl (cI, ppl9, Sum.inl ppf9)), (co, Sum.inr (3, [Value.int xshift, Value.long xkeptCode, Value.long xkeptRange, Value.int xkeptAsked, Value.int (-1), Value.int 0, Value.long 0, Value.long 4294967295, Value.long xcode, Value.long xreadLow, Value.long xreadRange, Value.ref ri, Value.ref ro, Value.ref rw, Value.int xasked])), (oo9, Sum.inr (7, [Value.int (nI kl9), Value.int (nI (1024 * (2 ^ lev kl9))), Value.int 1, Value.ref oca9, Value.ref opa9])), (oca9, Sum.inl (cI, (2 ^ lev kl9), Sum.inl ocfq_64)), (opa9, Sum.inl (cI, 0, Sum.inl opf9)), (ka9, Sum.inl (cI, kl9, Sum.inl kf9))] ++ (mbsC cI a9 ++ mbsC cI b9)) H := ⟨hP, hD⟩
          have hP := hPD.1
          have hD := hPD.2
          have hP := pm_P (hP.part [0, 1, 8, 2, 3, 4, 12, 9, 10, 11, 5, 6, 7] rfl : va_P (dC, dI) vwCl ([(rc, Sum.inr (6, [Value.ref co, Value.ref ma, Value.int (nI ms.length), Value.int 0, Value.int 0, Value.int frd, Value.int fbd, Value.int fir])), (ma, Sum.inl (cM, 8, Sum.inr (Sum.inr (Sum.inr (Sum.inr mf))))), (co, Sum.inr (3, [Value.int xshift, Value.long xkeptCode, Value.long xkeptRange, Value.int xkeptAsked, Value.int (-1), Value.int 0, Value.long 0, Value.long 4294967295, Value.long xcode, Value.long xreadLow, Value.long xreadRange, Value.ref ri, Value.ref ro, Value.ref rw, Value.int xasked])), (rw, Sum.inr (0, [Value.int 0, Value.ref rwa])), (rwa, Sum.inl (cI, rwk, Sum.inl rwf)), (a_2, Sum.inr (8, [Value.ref ka9, Value.ref oo9, Value.ref pp9])), (ka9, Sum.inl (cI, kl9, Sum.inl kf9)), (oo9, Sum.inr (7, [Value.int (nI kl9), Value.int (nI (1024 * (2 ^ lev kl9))), Value.int 1, Value.ref oca9, Value.ref opa9])), (oca9, Sum.inl (cI, (2 ^ lev kl9), Sum.inl ocfq_64)), (opa9, Sum.inl (cI, 0, Sum.inl opf9)), (pp9, Sum.inr (7, [Value.int psg9, Value.int psm9, Value.int pfc9, Value.ref pca9, Value.ref ppa9])), (pca9, Sum.inl (cI, pl9, Sum.inl pcf9)), (ppa9, Sum.inl (cI, ppl9, Sum.inl ppf9))] ++ (mbsC cI a9 ++ mbsC cI b9)) H) (mb_out cI [(rc, Sum.inr (6, [Value.ref co, Value.ref ma, Value.int (nI ms.length), Value.int 0, Value.int 0, Value.int frd, Value.int fbd, Value.int fir])), (ma, Sum.inl (cM, 8, Sum.inr (Sum.inr (Sum.inr (Sum.inr mf))))), (co, Sum.inr (3, [Value.int xshift, Value.long xkeptCode, Value.long xkeptRange, Value.int xkeptAsked, Value.int (-1), Value.int 0, Value.long 0, Value.long 4294967295, Value.long xcode, Value.long xreadLow, Value.long xreadRange, Value.ref ri, Value.ref ro, Value.ref rw, Value.int xasked])), (rw, Sum.inr (0, [Value.int 0, Value.ref rwa])), (rwa, Sum.inl (cI, rwk, Sum.inl rwf))] a9 b9 ((a_2, ka9, kl9, kf9, (oo9, (nI kl9), (nI (1024 * (2 ^ lev kl9))), 1, oca9, opa9, (2 ^ lev kl9), ocfq_64, 0, opf9), (pp9, psg9, psm9, pfc9, pca9, ppa9, pl9, pcf9, ppl9, ppf9)) : MB)).symm
          have hD := pm_D (hD.part [0, 1, 8, 2, 3, 4, 12, 9, 10, 11, 5, 6, 7] (by decide +kernel) rfl : va_D A ([(rc, Sum.inr (6, [Value.ref co, Value.ref ma, Value.int (nI ms.length), Value.int 0, Value.int 0, Value.int frd, Value.int fbd, Value.int fir])), (ma, Sum.inl (cM, 8, Sum.inr (Sum.inr (Sum.inr (Sum.inr mf))))), (co, Sum.inr (3, [Value.int xshift, Value.long xkeptCode, Value.long xkeptRange, Value.int xkeptAsked, Value.int (-1), Value.int 0, Value.long 0, Value.long 4294967295, Value.long xcode, Value.long xreadLow, Value.long xreadRange, Value.ref ri, Value.ref ro, Value.ref rw, Value.int xasked])), (rw, Sum.inr (0, [Value.int 0, Value.ref rwa])), (rwa, Sum.inl (cI, rwk, Sum.inl rwf)), (a_2, Sum.inr (8, [Value.ref ka9, Value.ref oo9, Value.ref pp9])), (ka9, Sum.inl (cI, kl9, Sum.inl kf9)), (oo9, Sum.inr (7, [Value.int (nI kl9), Value.int (nI (1024 * (2 ^ lev kl9))), Value.int 1, Value.ref oca9, Value.ref opa9])), (oca9, Sum.inl (cI, (2 ^ lev kl9), Sum.inl ocfq_64)), (opa9, Sum.inl (cI, 0, Sum.inl opf9)), (pp9, Sum.inr (7, [Value.int psg9, Value.int psm9, Value.int pfc9, Value.ref pca9, Value.ref ppa9])), (pca9, Sum.inl (cI, pl9, Sum.inl pcf9)), (ppa9, Sum.inl (cI, ppl9, Sum.inl ppf9))] ++ (mbsC cI a9 ++ mbsC cI b9))) (mb_out cI [(rc, Sum.inr (6, [Value.ref co, Value.ref ma, Value.int (nI ms.length), Value.int 0, Value.int 0, Value.int frd, Value.int fbd, Value.int fir])), (ma, Sum.inl (cM, 8, Sum.inr (Sum.inr (Sum.inr (Sum.inr mf))))), (co, Sum.inr (3, [Value.int xshift, Value.long xkeptCode, Value.long xkeptRange, Value.int xkeptAsked, Value.int (-1), Value.int 0, Value.long 0, Value.long 4294967295, Value.long xcode, Value.long xreadLow, Value.long xreadRange, Value.ref ri, Value.ref ro, Value.ref rw, Value.int xasked])), (rw, Sum.inr (0, [Value.int 0, Value.ref rwa])), (rwa, Sum.inl (cI, rwk, Sum.inl rwf))] a9 b9 ((a_2, ka9, kl9, kf9, (oo9, (nI kl9), (nI (1024 * (2 ^ lev kl9))), 1, oca9, opa9, (2 ^ lev kl9), ocfq_64, 0, opf9), (pp9, psg9, psm9, pfc9, pca9, ppa9, pl9, pcf9, ppl9, ppf9)) : MB)).symm
          have hma2 : (a9 ++ ((a_2, ka9, kl9, kf9, (oo9, (nI kl9), (nI (1024 * (2 ^ lev kl9))), 1, oca9, opa9, (2 ^ lev kl9), ocfq_64, 0, opf9), (pp9, psg9, psm9, pfc9, pca9, ppa9, pl9, pcf9, ppl9, ppf9)) : MB) :: b9).map mbA = ms.map mbA := by refine (mb_set (f := mbA) ?_).trans hma; rfl
          have hmo2 : ∀ x ∈ a9 ++ ((a_2, ka9, kl9, kf9, (oo9, (nI kl9), (nI (1024 * (2 ^ lev kl9))), 1, oca9, opa9, (2 ^ lev kl9), ocfq_64, 0, opf9), (pp9, psg9, psm9, pfc9, pca9, ppa9, pl9, pcf9, ppl9, ppf9)) : MB) :: b9, mbOk x := ok_set hmo ⟨hk64, ⟨ho1, ho2, ho3⟩, ⟨hp1, hp2, hp3⟩⟩
          have hPD : my_PD (dC, dI) vwCl A ([(rc, Sum.inr (6, [Value.ref co, Value.ref ma, Value.int (nI ms.length), Value.int 0, Value.int 0, Value.int frd, Value.int fbd, Value.int fir])), (ma, Sum.inl (cM, 8, Sum.inr (Sum.inr (Sum.inr (Sum.inr mf))))), (co, Sum.inr (3, [Value.int xshift, Value.long xkeptCode, Value.long xkeptRange, Value.int xkeptAsked, Value.int (-1), Value.int 0, Value.long 0, Value.long 4294967295, Value.long xcode, Value.long xreadLow, Value.long xreadRange, Value.ref ri, Value.ref ro, Value.ref rw, Value.int xasked])), (rw, Sum.inr (0, [Value.int 0, Value.ref rwa])), (rwa, Sum.inl (cI, rwk, Sum.inl rwf))] ++ mbsC cI (a9 ++ ((a_2, ka9, kl9, kf9, (oo9, (nI kl9), (nI (1024 * (2 ^ lev kl9))), 1, oca9, opa9, (2 ^ lev kl9), ocfq_64, 0, opf9), (pp9, psg9, psm9, pfc9, pca9, ppa9, pl9, pcf9, ppl9, ppf9)) : MB) :: b9)) H := ⟨hP, hD⟩
          have hP := hPD.1
          have hD := hPD.2
          have hbg2 : bgI nw_Bits ms (a9 ++ ((a_2, ka9, kl9, kf9, (oo9, (nI kl9), (nI (1024 * (2 ^ lev kl9))), 1, oca9, opa9, (2 ^ lev kl9), ocfq_64, 0, opf9), (pp9, psg9, psm9, pfc9, pca9, ppa9, pl9, pcf9, ppl9, ppf9)) : MB) :: b9) (a9.length + 1) := bg_st hbg hlm ⟨rfl, rfl, rfl, ⟨rfl, rfl, rfl, rfl⟩, hf_64⟩
          rw [hla] at hbg2
          have hlm2 : ms.length = (a9 ++ ((a_2, ka9, kl9, kf9, (oo9, (nI kl9), (nI (1024 * (2 ^ lev kl9))), 1, oca9, opa9, (2 ^ lev kl9), ocfq_64, 0, opf9), (pp9, psg9, psm9, pfc9, pca9, ppa9, pl9, pcf9, ppl9, ppf9)) : MB) :: b9).length := by rw [hlm, List.length_append, List.length_append]; rfl
          obtain ⟨v_4, ev_4⟩ : ∃ y : Int32, y = i9 + (1) := ⟨_, rfl⟩
          refine lv_iinc (v := v_4) (lv' := [(4, Value.int v_4), (5, Value.ref a_2), (3, Value.int (nI 8)), (2, Value.ref ma), (1, Value.int fit), (0, Value.ref rc)]) hx hb d_RC_begin_67 hl (k := 1) rfl (by rw [ev_4]; rfl) (by decide) rfl (fun ls hl => ?_)
          refine lv_goto (tgt := 33) hx hb d_RC_begin_70 (by decide) ?_
          exact ih9_33 _ (by first | omega | (omega)) v_4 (ii + 1) (a9 ++ ((a_2, ka9, kl9, kf9, (oo9, (nI kl9), (nI (1024 * (2 ^ lev kl9))), 1, oca9, opa9, (2 ^ lev kl9), ocfq_64, 0, opf9), (pp9, psg9, psm9, pfc9, pca9, ppa9, pl9, pcf9, ppl9, ppf9)) : MB) :: b9) rfl (by rw [ev_4, hi9]; exact nI_1 _) (by omega) (hma2) (hmo2) (hbg2) (hlm2) H locs ls (hP.part [0, 1, 2, 3, 4] rfl) (hD.part [0, 1, 2, 3, 4] (by decide +kernel) rfl) hS (lv_sub hl [0, 2, 3, 4, 5] rfl)
  exact J_33 _ (0 : Int32) (0 : Nat) ms rfl (rfl) (by omega) (rfl) (hmk) (bg_0 ms) (rfl) H locs ls (hP.part [0, 1, 2, 3, 4] rfl) (hD.part [0, 1, 2, 3, 4] (by decide +kernel) rfl) hS (lv_sub hl [0, 1, 2, 3, 4] rfl)
end
section
set_option maxHeartbeats 2000000 in
set_option maxRecDepth 100000 in
theorem f_RC_begin_Carries (l : Launch) (dC : Nat → ClassId) (dI : Nat → Nat → Nat) (cI cM cO : ClassId) (sz : Nat) (rc : Nat) (ma : Nat) (fit : Int32) (fen : Int32) (frd : Int32) (fbd : Int32) (fir : Int32) (mf : Nat → Option Nat) (co : Nat) (xcache : Int32) (xpending : Int32) (xlow : Int64) (xrange : Int64) (xcode : Int64) (xreadLow : Int64) (xreadRange : Int64) (ri : Nat) (ro : Nat) (rw : Nat) (xasked : Int32) (rwn : Int32) (rwa : Nat) (rwk : Nat) (rwf : Nat → Int32) (ms : List MB) (hk8 : ms.length ≤ 8) (hrw : rOk rwn rwk) (hmf : mfOk mf ms) (hmk : ∀ x ∈ ms, mbOk x) (hms : ∀ x ∈ ms, mOk_Carries x) : MetI l y_RC_begin (Cond.code y_RC_begin prog_1_method_7_code 6 (some .int) :: gw) ({ frames := 3, cells := 0, slots := 0, locals := 66 } : Room) (dC, dI) vwCl (kT cI cM cO) [Value.ref rc] ([(rc, Sum.inr (6, [Value.ref co, Value.ref ma, Value.int (nI ms.length), Value.int fit, Value.int fen, Value.int frd, Value.int fbd, Value.int fir])), (ma, Sum.inl (cM, 8, Sum.inr (Sum.inr (Sum.inr (Sum.inr mf))))), (co, Sum.inr (1, [Value.int xcache, Value.int xpending, Value.long xlow, Value.long xrange, Value.long xcode, Value.long xreadLow, Value.long xreadRange, Value.ref ri, Value.ref ro, Value.ref rw, Value.int xasked])), (rw, Sum.inr (0, [Value.int rwn, Value.ref rwa])), (rwa, Sum.inl (cI, rwk, Sum.inl rwf))] ++ mbsC cI ms) sz (fun (r : Int32) (u : List MB) => u.map mbA = ms.map mbA ∧ (∀ x ∈ u, mbOk x) ∧ (∀ (i9 : Nat) (x9 y9 : MB), ms[i9]? = some x9 → u[i9]? = some y9 → nw_Carries x9 y9) ∧ ms.length = u.length ∧ r = fit ∧ rOk 0 rwk) (fun (u : List MB) => ([(rc, Sum.inr (6, [Value.ref co, Value.ref ma, Value.int (nI ms.length), Value.int 0, Value.int 0, Value.int frd, Value.int fbd, Value.int fir])), (ma, Sum.inl (cM, 8, Sum.inr (Sum.inr (Sum.inr (Sum.inr mf))))), (co, Sum.inr (1, [Value.int (-1), Value.int 0, Value.long 0, Value.long 4294967295, Value.long xcode, Value.long xreadLow, Value.long xreadRange, Value.ref ri, Value.ref ro, Value.ref rw, Value.int xasked])), (rw, Sum.inr (0, [Value.int 0, Value.ref rwa])), (rwa, Sum.inl (cI, rwk, Sum.inl rwf))] ++ mbsC cI u)) 0 0 := by
  refine my_ofI (cc := prog_1_method_7_code) (n := 6) (ret := (some .int)) (by decide) rfl (Nat.le_of_ble_eq_true rfl) ?_
  intro p e s m args below meth c R Q A ls H locs hx hb hr hts hown hlocks hml hnm hR hQ hA hl hP hK hN hD hS
  have hg : ∀ w ∈ gw, w.before args s = true := fun w h => hts w (List.mem_cons_of_mem _ h)
  have hown : s.vm.findClass "RangeCoders" = some m.cls := hown
  have hl : lv_has ls 6 [(0, Value.ref rc)] := hl
  have hlt_hrw := rOk_lt hrw
  refine lv_aload_n hx hb d_RC_begin_0 rfl (lv_at hl 0 rfl) ?_
  refine va_get (D := (dC, dI)) (ci := 6) (v := .int fit) (C := "RangeCoders") (T := T_RC) (N := 8) hx hb hg in_RC hown hK hP 0 rfl rfl 3 (by decide) (hg _ k261) (fun _ h9 => h9) rfl d_RC_begin_1 ?_
  refine lv_istore_n (lv' := [(1, Value.int fit), (0, Value.ref rc)]) hx hb d_RC_begin_4 rfl hl (by decide) rfl (fun ls hl => ?_)
  refine lv_aload_n hx hb d_RC_begin_5 rfl (lv_at hl 1 rfl) ?_
  refine lv_iconst (v := 0) hx hb d_RC_begin_6 (by decide) ?_
  refine va_put (D := (dC, dI)) (ci := 6) (v := .int 0) (ty := .int) (C := "RangeCoders") (T := T_RC) (N := 8) hx hb hg in_RC t_RC o_RC n_RC hown hK hP hD hS 0 rfl rfl 3 (by decide) (hg _ k261) (fun _ h9 => h9) rfl (o_RC 3 (by decide)) rfl rfl (Nat.le_of_ble_eq_true rfl) d_RC_begin_7 (fun H locs hP hD hS => ?_)
  have hPD : my_PD (dC, dI) vwCl A ([(rc, Sum.inr (6, [Value.ref co, Value.ref ma, Value.int (nI ms.length), Value.int 0, Value.int fen, Value.int frd, Value.int fbd, Value.int fir])), (ma, Sum.inl (cM, 8, Sum.inr (Sum.inr (Sum.inr (Sum.inr mf))))), (co, Sum.inr (1, [Value.int xcache, Value.int xpending, Value.long xlow, Value.long xrange, Value.long xcode, Value.long xreadLow, Value.long xreadRange, Value.ref ri, Value.ref ro, Value.ref rw, Value.int xasked])), (rw, Sum.inr (0, [Value.int rwn, Value.ref rwa])), (rwa, Sum.inl (cI, rwk, Sum.inl rwf))] ++ mbsC cI ms) H := ⟨hP, hD⟩
  have hP := hPD.1
  have hD := hPD.2
  refine lv_aload_n hx hb d_RC_begin_10 rfl (lv_at hl 1 rfl) ?_
  refine lv_iconst (v := 0) hx hb d_RC_begin_11 (by decide) ?_
  refine va_put (D := (dC, dI)) (ci := 6) (v := .int 0) (ty := .boolean) (C := "RangeCoders") (T := T_RC) (N := 8) hx hb hg in_RC t_RC o_RC n_RC hown hK hP hD hS 0 rfl rfl 4 (by decide) (hg _ k262) (fun _ h9 => h9) rfl (o_RC 4 (by decide)) rfl rfl (Nat.le_of_ble_eq_true rfl) d_RC_begin_12 (fun H locs hP hD hS => ?_)
  have hPD : my_PD (dC, dI) vwCl A ([(rc, Sum.inr (6, [Value.ref co, Value.ref ma, Value.int (nI ms.length), Value.int 0, Value.int 0, Value.int frd, Value.int fbd, Value.int fir])), (ma, Sum.inl (cM, 8, Sum.inr (Sum.inr (Sum.inr (Sum.inr mf))))), (co, Sum.inr (1, [Value.int xcache, Value.int xpending, Value.long xlow, Value.long xrange, Value.long xcode, Value.long xreadLow, Value.long xreadRange, Value.ref ri, Value.ref ro, Value.ref rw, Value.int xasked])), (rw, Sum.inr (0, [Value.int rwn, Value.ref rwa])), (rwa, Sum.inl (cI, rwk, Sum.inl rwf))] ++ mbsC cI ms) H := ⟨hP, hD⟩
  have hP := hPD.1
  have hD := hPD.2
  refine lv_aload_n hx hb d_RC_begin_15 rfl (lv_at hl 1 rfl) ?_
  refine va_get (D := (dC, dI)) (ci := 6) (v := .ref co) (C := "RangeCoders") (T := T_RC) (N := 8) hx hb hg in_RC hown hK hP 0 rfl rfl 0 (by decide) (hg _ k258) (fun _ h9 => h9) rfl d_RC_begin_16 ?_
  refine my_cvt (wr := [(rc, Sum.inr (6, [Value.ref co, Value.ref ma, Value.int (nI ms.length), Value.int 0, Value.int 0, Value.int frd, Value.int fbd, Value.int fir])), (ma, Sum.inl (cM, 8, Sum.inr (Sum.inr (Sum.inr (Sum.inr mf)))))]) (va_runU (As := []) (rest := []) ⟨hx, hb, hml, hown, hts⟩ (f_Carries_open l dC dI cI cM cO H.size co xcache xpending xlow xrange xcode xreadLow xreadRange ri ro rw xasked rwn rwa rwk rwf (by first | assumption | omega)) (va_cwA 0 hts (my_gU k683 k685 k693 k687 k5 k688) rfl rfl rfl (hN.1 _ j684 rfl) (by decide +kernel) ⟨by rw [hR]; exact Nat.le_of_ble_eq_true rfl, by rw [hR]; exact Nat.le_of_ble_eq_true rfl⟩) (my_preV hK hN (my_subU hP [2, 3, 4] rfl) (my_dubT hD [2, 3, 4] (by decide +kernel) rfl) 0 rfl rfl) rfl rfl hl.1 rfl (lv_room (Nat.le_of_ble_eq_true rfl)) d_RC_begin_19 ⟨by rw [hR]; exact Nat.le_of_ble_eq_true rfl, by rw [hR]; exact Nat.le_of_ble_eq_true rfl⟩) hP hD hS hA [2, 3, 4] [0, 1] rfl rfl (by decide +kernel) (by decide +kernel) (fun u9 H locs hw_19 hP hD hS => ?_)
  have hr_19 : rOk 0 rwk := hw_19
  have hPD : my_PD (dC, dI) vwCl A ([(rc, Sum.inr (6, [Value.ref co, Value.ref ma, Value.int (nI ms.length), Value.int 0, Value.int 0, Value.int frd, Value.int fbd, Value.int fir])), (ma, Sum.inl (cM, 8, Sum.inr (Sum.inr (Sum.inr (Sum.inr mf))))), (co, Sum.inr (1, [Value.int (-1), Value.int 0, Value.long 0, Value.long 4294967295, Value.long xcode, Value.long xreadLow, Value.long xreadRange, Value.ref ri, Value.ref ro, Value.ref rw, Value.int xasked])), (rw, Sum.inr (0, [Value.int 0, Value.ref rwa])), (rwa, Sum.inl (cI, rwk, Sum.inl rwf))] ++ mbsC cI ms) H := ⟨hP, hD⟩
  have hP := hPD.1
  have hD := hPD.2
  refine lv_aload_n hx hb d_RC_begin_22 rfl (lv_at hl 1 rfl) ?_
  refine va_get (D := (dC, dI)) (ci := 6) (v := .ref ma) (C := "RangeCoders") (T := T_RC) (N := 8) hx hb hg in_RC hown hK hP 0 rfl rfl 1 (by decide) (hg _ k259) (fun _ h9 => h9) rfl d_RC_begin_23 ?_
  refine lv_astore_n (lv' := [(2, Value.ref ma), (1, Value.int fit), (0, Value.ref rc)]) hx hb d_RC_begin_26 rfl hl (by decide) rfl (fun ls hl => ?_)
  refine lv_aload_n hx hb d_RC_begin_27 rfl (lv_at hl 0 rfl) ?_
  refine va_alen hx hb hK hP 1 1 rfl rfl (v := nI 8) rfl d_RC_begin_28 ?_
  refine lv_istore_n (lv' := [(3, Value.int (nI 8)), (2, Value.ref ma), (1, Value.int fit), (0, Value.ref rc)]) hx hb d_RC_begin_29 rfl hl (by decide) rfl (fun ls hl => ?_)
  refine lv_iconst (v := 0) hx hb d_RC_begin_30 (by decide) ?_
  refine lv_istore (lv' := [(4, Value.int 0), (3, Value.int (nI 8)), (2, Value.ref ma), (1, Value.int fit), (0, Value.ref rc)]) hx hb d_RC_begin_31 hl (by decide) rfl (fun ls hl => ?_)
  have J_33 : ∀ (n9_33 : Nat) (i9 : Int32) (ii : Nat) (ms9 : List MB) (hn9_33 : 8 - ii = n9_33) (hi9 : i9 = nI ii) (hii : ii ≤ 8) (hma : ms9.map mbA = ms.map mbA) (hmo : ∀ x ∈ ms9, mbOk x) (hbg : bgI nw_Carries ms ms9 ii) (hlm : ms.length = ms9.length) (H : Heap) (locs : List Loc) (ls : Array Slot), va_P (dC, dI) vwCl ([(rc, Sum.inr (6, [Value.ref co, Value.ref ma, Value.int (nI ms.length), Value.int 0, Value.int 0, Value.int frd, Value.int fbd, Value.int fir])), (ma, Sum.inl (cM, 8, Sum.inr (Sum.inr (Sum.inr (Sum.inr mf))))), (co, Sum.inr (1, [Value.int (-1), Value.int 0, Value.long 0, Value.long 4294967295, Value.long xcode, Value.long xreadLow, Value.long xreadRange, Value.ref ri, Value.ref ro, Value.ref rw, Value.int xasked])), (rw, Sum.inr (0, [Value.int 0, Value.ref rwa])), (rwa, Sum.inl (cI, rwk, Sum.inl rwf))] ++ mbsC cI ms9) H → va_D A ([(rc, Sum.inr (6, [Value.ref co, Value.ref ma, Value.int (nI ms.length), Value.int 0, Value.int 0, Value.int frd, Value.int fbd, Value.int fir])), (ma, Sum.inl (cM, 8, Sum.inr (Sum.inr (Sum.inr (Sum.inr mf))))), (co, Sum.inr (1, [Value.int (-1), Value.int 0, Value.long 0, Value.long 4294967295, Value.long xcode, Value.long xreadLow, Value.long xreadRange, Value.ref ri, Value.ref ro, Value.ref rw, Value.int xasked])), (rw, Sum.inr (0, [Value.int 0, Value.ref rwa])), (rwa, Sum.inl (cI, rwk, Sum.inl rwf))] ++ mbsC cI ms9) → va_S A s.heap H locs → lv_has ls 6 [(4, Value.int i9), (3, Value.int (nI 8)), (2, Value.ref ma), (1, Value.int fit), (0, Value.ref rc)] → W p l e R s m args below meth c H locs 0 0 Q (F0 m 33 ls []) := by
    intro n9_33
    induction n9_33 using Nat.strongRecOn with
    | ind n9_33 ih9_33 =>
      intro i9 ii ms9 hn9_33 hi9 hii hma hmo hbg hlm H locs ls hP hD hS hl
      refine lv_iload hx hb d_RC_begin_33 (lv_at hl 0 rfl) ?_
      refine lv_iload_n hx hb d_RC_begin_35 rfl (lv_at hl 1 rfl) ?_
      refine lv_icmp_ge (tgt := 73) hx hb d_RC_begin_36 (by decide) (fun c_1 => ?_) (fun c_1 => ?_)
      · refine lv_iload_n hx hb d_RC_begin_73 rfl (lv_at hl 3 rfl) ?_
        exact my_iret (v := fit) hx hb hr (rfl) hlocks hQ hK hS (Nat.le_refl _) (Nat.le_refl _) (ms9) (⟨hma, hmo, bg_e (by rw [show (8 : Nat) = ii by have := nI_ge' (n := 8) (j := ii) (by omega) (by decide) (by rw [← hi9]; assumption); omega]; exact hbg) hk8, hlm, rfl, hr_19⟩) (hP.part [0, 1, 2, 3, 4] rfl) (hD.part [0, 1, 2, 3, 4] (by decide +kernel) rfl) d_RC_begin_74
      · refine lv_aload_n hx hb d_RC_begin_39 rfl (lv_at hl 2 rfl) ?_
        refine lv_iload hx hb d_RC_begin_40 (lv_at hl 0 rfl) ?_
        have hi8 : ii < 8 := by
          rcases Nat.lt_or_ge ii 8 with z | z
          · exact z
          · exact absurd (by rw [hi9]; exact nI_le (a := 8) z (by omega)) c_1
        refine va_aldq hx hb hK hP 1 1 rfl rfl (by rw [hi9]; exact vp_in_nI hi8 (by decide)) d_RC_begin_42 ?_
        rcases hq_a_2 : mf i9.toNatClampNeg with _ | a_2
        · refine W.eq (g2 := F0 m 43 ls [Value.null]) rfl ?_
          have hmf9 := mf_keep hmf hma
          have hnil : ms.length ≤ ii := by
            rcases Nat.lt_or_ge ii ms9.length with z | z
            · obtain ⟨a9, x9, b9, e9, hla⟩ := mb_at z
              subst e9
              rw [hi9, nI_clamp (by omega), ← hla, mf_some hmf9 (by omega)] at hq_a_2; cases hq_a_2
            · rw [hlm]; exact z
          refine lv_astoreN (lv' := [(5, Value.null), (4, Value.int i9), (3, Value.int (nI 8)), (2, Value.ref ma), (1, Value.int fit), (0, Value.ref rc)]) hx hb d_RC_begin_43 hl (by decide) rfl (fun ls hl => ?_)
          refine lv_aloadN hx hb d_RC_begin_45 (lv_at hl 0 rfl) ?_
          refine lv_ifnullN (tgt := 67) hx hb d_RC_begin_47 (by decide) ?_
          obtain ⟨v_3, ev_3⟩ : ∃ y : Int32, y = i9 + (1) := ⟨_, rfl⟩
          refine lv_iinc (v := v_3) (lv' := [(4, Value.int v_3), (5, Value.null), (3, Value.int (nI 8)), (2, Value.ref ma), (1, Value.int fit), (0, Value.ref rc)]) hx hb d_RC_begin_67 hl (k := 1) rfl (by rw [ev_3]; rfl) (by decide) rfl (fun ls hl => ?_)
          refine lv_goto (tgt := 33) hx hb d_RC_begin_70 (by decide) ?_
          exact ih9_33 _ (by first | omega | (omega)) v_3 (ii + 1) ms9 rfl (by rw [ev_3, hi9]; exact nI_1 _) (by omega) (by assumption) (by assumption) (bg_no hbg (by rw [← hlm]; exact hnil)) (hlm) H locs ls (hP.part [0, 1, 2, 3, 4] rfl) (hD.part [0, 1, 2, 3, 4] (by decide +kernel) rfl) hS (lv_sub hl [0, 2, 3, 4, 5] rfl)
        · refine W.eq (g2 := F0 m 43 ls [Value.ref a_2]) rfl ?_
          have hmf9 := mf_keep hmf hma
          have hil : ii < ms9.length := by
            rcases Nat.lt_or_ge ii ms9.length with z | z
            · exact z
            · rw [hi9, nI_clamp (by omega), mf_none hmf9 hi8 z] at hq_a_2; cases hq_a_2
          obtain ⟨a9, x9, b9, e9, hla⟩ := mb_at hil
          subst e9
          obtain ⟨mo9, ka9, kl9, kf9, ⟨oo9, osg9, osm9, ofc9, oca9, opa9, ol9, ocf9, opl9, opf9⟩, ⟨pp9, psg9, psm9, pfc9, pca9, ppa9, pl9, pcf9, ppl9, ppf9⟩⟩ := x9
          have hax : a_2 = mo9 := by
            rw [hi9, nI_clamp (by omega), ← hla, mf_some hmf9 (by omega)] at hq_a_2
            exact (Option.some.inj hq_a_2).symm
          subst hax
          obtain ⟨hk64, ⟨ho1, ho2, ho3⟩, ⟨hp1, hp2, hp3⟩⟩ := ok_mid hmo
          have hP := pm_P hP (mb_out cI [(rc, Sum.inr (6, [Value.ref co, Value.ref ma, Value.int (nI ms.length), Value.int 0, Value.int 0, Value.int frd, Value.int fbd, Value.int fir])), (ma, Sum.inl (cM, 8, Sum.inr (Sum.inr (Sum.inr (Sum.inr mf))))), (co, Sum.inr (1, [Value.int (-1), Value.int 0, Value.long 0, Value.long 4294967295, Value.long xcode, Value.long xreadLow, Value.long xreadRange, Value.ref ri, Value.ref ro, Value.ref rw, Value.int xasked])), (rw, Sum.inr (0, [Value.int 0, Value.ref rwa])), (rwa, Sum.inl (cI, rwk, Sum.inl rwf))] a9 b9 (a_2, ka9, kl9, kf9, (oo9, osg9, osm9, ofc9, oca9, opa9, ol9, ocf9, opl9, opf9), (pp9, psg9, psm9, pfc9, pca9, ppa9, pl9, pcf9, ppl9, ppf9)))
          have hD := pm_D hD (mb_out cI [(rc, Sum.inr (6, [Value.ref co, Value.ref ma, Value.int (nI ms.length), Value.int 0, Value.int 0, Value.int frd, Value.int fbd, Value.int fir])), (ma, Sum.inl (cM, 8, Sum.inr (Sum.inr (Sum.inr (Sum.inr mf))))), (co, Sum.inr (1, [Value.int (-1), Value.int 0, Value.long 0, Value.long 4294967295, Value.long xcode, Value.long xreadLow, Value.long xreadRange, Value.ref ri, Value.ref ro, Value.ref rw, Value.int xasked])), (rw, Sum.inr (0, [Value.int 0, Value.ref rwa])), (rwa, Sum.inl (cI, rwk, Sum.inl rwf))] a9 b9 (a_2, ka9, kl9, kf9, (oo9, osg9, osm9, ofc9, oca9, opa9, ol9, ocf9, opl9, opf9), (pp9, psg9, psm9, pfc9, pca9, ppa9, pl9, pcf9, ppl9, ppf9)))
          have hPD : my_PD (dC, dI) vwCl A ([(rc, Sum.inr (6, [Value.ref co, Value.ref ma, Value.int (nI ms.length), Value.int 0, Value.int 0, Value.int frd, Value.int fbd, Value.int fir])), (ma, Sum.inl (cM, 8, Sum.inr (Sum.inr (Sum.inr (Sum.inr mf))))), (co, Sum.inr (1, [Value.int (-1), Value.int 0, Value.long 0, Value.long 4294967295, Value.long xcode, Value.long xreadLow, Value.long xreadRange, Value.ref ri, Value.ref ro, Value.ref rw, Value.int xasked])), (rw, Sum.inr (0, [Value.int 0, Value.ref rwa])), (rwa, Sum.inl (cI, rwk, Sum.inl rwf)), (a_2, Sum.inr (8, [Value.ref ka9, Value.ref oo9, Value.ref pp9])), (ka9, Sum.inl (cI, kl9, Sum.inl kf9)), (oo9, Sum.inr (7, [Value.int osg9, Value.int osm9, Value.int ofc9, Value.ref oca9, Value.ref opa9])), (oca9, Sum.inl (cI, ol9, Sum.inl ocf9)), (opa9, Sum.inl (cI, opl9, Sum.inl opf9)), (pp9, Sum.inr (7, [Value.int psg9, Value.int psm9, Value.int pfc9, Value.ref pca9, Value.ref ppa9])), (pca9, Sum.inl (cI, pl9, Sum.inl pcf9)), (ppa9, Sum.inl (cI, ppl9, Sum.inl ppf9))] ++ (mbsC cI a9 ++ mbsC cI b9)) H := ⟨hP, hD⟩
          have hP := hPD.1
          have hD := hPD.2
          rw [← hla] at hbg
          obtain ⟨hx1, hx2, ⟨hx3, hx4, hx5, hx6⟩, hx7, hx8⟩ := hms ((a_2, ka9, kl9, kf9, (oo9, osg9, osm9, ofc9, oca9, opa9, ol9, ocf9, opl9, opf9), (pp9, psg9, psm9, pfc9, pca9, ppa9, pl9, pcf9, ppl9, ppf9)) : MB) (List.mem_of_getElem? (bg_x hbg hlm))
          have hx3 : osg9 = nI kl9 := hx3
          skip
          subst hx3
          have hx4 : ofc9 = 0 := hx4
          skip
          subst hx4
          have hx5 : ol9 = kl9 := hx5
          have hx5 := hx5.symm
          subst hx5
          have hx6 : opl9 = 0 := hx6
          skip
          subst hx6
          have hPD : my_PD (dC, dI) vwCl A ([(rc, Sum.inr (6, [Value.ref co, Value.ref ma, Value.int (nI ms.length), Value.int 0, Value.int 0, Value.int frd, Value.int fbd, Value.int fir])), (ma, Sum.inl (cM, 8, Sum.inr (Sum.inr (Sum.inr (Sum.inr mf))))), (co, Sum.inr (1, [Value.int (-1), Value.int 0, Value.long 0, Value.long 4294967295, Value.long xcode, Value.long xreadLow, Value.long xreadRange, Value.ref ri, Value.ref ro, Value.ref rw, Value.int xasked])), (rw, Sum.inr (0, [Value.int 0, Value.ref rwa])), (rwa, Sum.inl (cI, rwk, Sum.inl rwf)), (a_2, Sum.inr (8, [Value.ref ka9, Value.ref oo9, Value.ref pp9])), (ka9, Sum.inl (cI, kl9, Sum.inl kf9)), (oo9, Sum.inr (7, [Value.int (nI kl9), Value.int osm9, Value.int 0, Value.ref oca9, Value.ref opa9])), (oca9, Sum.inl (cI, kl9, Sum.inl ocf9)), (opa9, Sum.inl (cI, 0, Sum.inl opf9)), (pp9, Sum.inr (7, [Value.int psg9, Value.int psm9, Value.int pfc9, Value.ref pca9, Value.ref ppa9])), (pca9, Sum.inl (cI, pl9, Sum.inl pcf9)), (ppa9, Sum.inl (cI, ppl9, Sum.inl ppf9))] ++ (mbsC cI a9 ++ mbsC cI b9)) H := ⟨hP, hD⟩
          have hP := hPD.1
          have hD := hPD.2
          refine lv_astore (lv' := [(5, Value.ref a_2), (4, Value.int i9), (3, Value.int (nI 8)), (2, Value.ref ma), (1, Value.int fit), (0, Value.ref rc)]) hx hb d_RC_begin_43 hl (by decide) rfl (fun ls hl => ?_)
          refine lv_aload hx hb d_RC_begin_45 (lv_at hl 0 rfl) ?_
          refine lv_ifnull hx hb d_RC_begin_47 ?_
          refine lv_aload_n hx hb d_RC_begin_50 rfl (lv_at hl 5 rfl) ?_
          refine va_get (D := (dC, dI)) (ci := 6) (v := .ref co) (C := "RangeCoders") (T := T_RC) (N := 8) hx hb hg in_RC hown hK hP 0 rfl rfl 0 (by decide) (hg _ k258) (fun _ h9 => h9) rfl d_RC_begin_51 ?_
          refine lv_aload hx hb d_RC_begin_54 (lv_at hl 0 rfl) ?_
          refine va_get (D := (dC, dI)) (ci := 8) (v := .ref oo9) (C := "RangeCoders$Model") (T := T_Model) (N := 3) hx hb hg in_Model hown hK hP 5 rfl rfl 1 (by decide) (hg _ k343) (fun _ h9 => h9) rfl d_RC_begin_56 ?_
          refine lv_aload hx hb d_RC_begin_59 (lv_at hl 0 rfl) ?_
          refine va_get (D := (dC, dI)) (ci := 8) (v := .ref ka9) (C := "RangeCoders$Model") (T := T_Model) (N := 3) hx hb hg in_Model hown hK hP 5 rfl rfl 0 (by decide) (hg _ k341) (fun _ h9 => h9) rfl d_RC_begin_61 ?_
          refine my_cvt (wr := [(rc, Sum.inr (6, [Value.ref co, Value.ref ma, Value.int (nI ms.length), Value.int 0, Value.int 0, Value.int frd, Value.int fbd, Value.int fir])), (ma, Sum.inl (cM, 8, Sum.inr (Sum.inr (Sum.inr (Sum.inr mf))))), (rw, Sum.inr (0, [Value.int 0, Value.ref rwa])), (rwa, Sum.inl (cI, rwk, Sum.inl rwf)), (a_2, Sum.inr (8, [Value.ref ka9, Value.ref oo9, Value.ref pp9])), (pp9, Sum.inr (7, [Value.int psg9, Value.int psm9, Value.int pfc9, Value.ref pca9, Value.ref ppa9])), (pca9, Sum.inl (cI, pl9, Sum.inl pcf9)), (ppa9, Sum.inl (cI, ppl9, Sum.inl ppf9))]) (va_runU (As := [Value.ref oo9, Value.ref ka9]) (rest := []) ⟨hx, hb, hml, hown, hts⟩ (f_Carries_prepare l dC dI cI cM cO H.size co (-1) 0 0 4294967295 xcode xreadLow xreadRange ri ro rw xasked oo9 (nI kl9) 0 oca9 opa9 kl9 ocf9 0 opf9 osm9 ka9 kf9 (Cx ((a_2, ka9, kl9, kf9, (oo9, nI kl9, osm9, 0, oca9, opa9, kl9, ocf9, 0, opf9), (pp9, psg9, psm9, pfc9, pca9, ppa9, pl9, pcf9, ppl9, ppf9)) : MB)) (hx2) (by decide) (hx7) (hx8)) (va_cwA 2 hts (my_gU k353 k355 k364 k365 k4 k366) rfl rfl rfl (hN.1 _ j354 rfl) (by decide +kernel) ⟨by rw [hR]; exact Nat.le_of_ble_eq_true rfl, by rw [hR]; exact Nat.le_of_ble_eq_true rfl⟩) (my_preV hK hN (my_subU hP [2, 7, 8, 9, 6] rfl) (my_dubT hD [2, 7, 8, 9, 6] (by decide +kernel) rfl) 0 rfl rfl) rfl rfl hl.1 rfl (lv_room (Nat.le_of_ble_eq_true rfl)) d_RC_begin_64 ⟨by rw [hR]; exact Nat.le_of_ble_eq_true rfl, by rw [hR]; exact Nat.le_of_ble_eq_true rfl⟩) hP hD hS hA [2, 7, 8, 9, 6] [0, 1, 3, 4, 5, 10, 11, 12] rfl rfl (by decide +kernel) (by decide +kernel) (fun u9 H locs hw_64 hP hD hS => ?_)
          obtain ⟨ocfq_64, rfl⟩ : ∃ z, z = u9 := ⟨_, rfl⟩
          have hf_64 : tbI ocfq_64 kl9 (les kl9 (Cx ((a_2, ka9, kl9, kf9, (oo9, nI kl9, osm9, 0, oca9, opa9, kl9, ocf9, 0, opf9), (pp9, psg9, psm9, pfc9, pca9, ppa9, pl9, pcf9, ppl9, ppf9)) : MB))) := hw_64
          have hPD : my_PD (dC, dI) vwCl A ([(rc, Sum.inr (6, [Value.ref co, Value.ref ma, Value.int (nI ms.length), Value.int 0, Value.int 0, Value.int frd, Value.int fbd, Value.int fir])), (ma, Sum.inl (cM, 8, Sum.inr (Sum.inr (Sum.inr (Sum.inr mf))))), (rw, Sum.inr (0, [Value.int 0, Value.ref rwa])), (rwa, Sum.inl (cI, rwk, Sum.inl rwf)), (a_2, Sum.inr (8, [Value.ref ka9, Value.ref oo9, Value.ref pp9])), (pp9, Sum.inr (7, [Value.int psg9, Value.int psm9, Value.int pfc9, Value.ref pca9, Value.ref ppa9])), (pca9, Sum.inl (cI, pl9, Sum.inl pcf9)), (ppa9, Sum.inl (cI, ppl9, Sum.inl ppf9)), (co, Sum.inr (1, [Value.int (-1), Value.int 0, Value.long 0, Value.long 4294967295, Value.long xcode, Value.long xreadLow, Value.long xreadRange, Value.ref ri, Value.ref ro, Value.ref rw, Value.int xasked])), (oo9, Sum.inr (7, [Value.int (nI kl9), Value.int (nI (ns (les kl9 (Cx ((a_2, ka9, kl9, kf9, (oo9, nI kl9, osm9, 0, oca9, opa9, kl9, ocf9, 0, opf9), (pp9, psg9, psm9, pfc9, pca9, ppa9, pl9, pcf9, ppl9, ppf9)) : MB))) kl9)), Value.int 0, Value.ref oca9, Value.ref opa9])), (oca9, Sum.inl (cI, kl9, Sum.inl ocfq_64)), (opa9, Sum.inl (cI, 0, Sum.inl opf9)), (ka9, Sum.inl (cI, kl9, Sum.inl kf9))] ++ (mbsC cI a9 ++ mbsC cI b9)) H := ⟨hP, hD⟩
          have hP := hPD.1
          have hD := hPD.2
          have hP := pm_P (hP.part [0, 1, 8, 2, 3, 4, 12, 9, 10, 11, 5, 6, 7] rfl : va_P (dC, dI) vwCl ([(rc, Sum.inr (6, [Value.ref co, Value.ref ma, Value.int (nI ms.length), Value.int 0, Value.int 0, Value.int frd, Value.int fbd, Value.int fir])), (ma, Sum.inl (cM, 8, Sum.inr (Sum.inr (Sum.inr (Sum.inr mf))))), (co, Sum.inr (1, [Value.int (-1), Value.int 0, Value.long 0, Value.long 4294967295, Value.long xcode, Value.long xreadLow, Value.long xreadRange, Value.ref ri, Value.ref ro, Value.ref rw, Value.int xasked])), (rw, Sum.inr (0, [Value.int 0, Value.ref rwa])), (rwa, Sum.inl (cI, rwk, Sum.inl rwf)), (a_2, Sum.inr (8, [Value.ref ka9, Value.ref oo9, Value.ref pp9])), (ka9, Sum.inl (cI, kl9, Sum.inl kf9)), (oo9, Sum.inr (7, [Value.int (nI kl9), Value.int (nI (ns (les kl9 (Cx ((a_2, ka9, kl9, kf9, (oo9, nI kl9, osm9, 0, oca9, opa9, kl9, ocf9, 0, opf9), (pp9, psg9, psm9, pfc9, pca9, ppa9, pl9, pcf9, ppl9, ppf9)) : MB))) kl9)), Value.int 0, Value.ref oca9, Value.ref opa9])), (oca9, Sum.inl (cI, kl9, Sum.inl ocfq_64)), (opa9, Sum.inl (cI, 0, Sum.inl opf9)), (pp9, Sum.inr (7, [Value.int psg9, Value.int psm9, Value.int pfc9, Value.ref pca9, Value.ref ppa9])), (pca9, Sum.inl (cI, pl9, Sum.inl pcf9)), (ppa9, Sum.inl (cI, ppl9, Sum.inl ppf9))] ++ (mbsC cI a9 ++ mbsC cI b9)) H) (mb_out cI [(rc, Sum.inr (6, [Value.ref co, Value.ref ma, Value.int (nI ms.length), Value.int 0, Value.int 0, Value.int frd, Value.int fbd, Value.int fir])), (ma, Sum.inl (cM, 8, Sum.inr (Sum.inr (Sum.inr (Sum.inr mf))))), (co, Sum.inr (1, [Value.int (-1), Value.int 0, Value.long 0, Value.long 4294967295, Value.long xcode, Value.long xreadLow, Value.long xreadRange, Value.ref ri, Value.ref ro, Value.ref rw, Value.int xasked])), (rw, Sum.inr (0, [Value.int 0, Value.ref rwa])), (rwa, Sum.inl (cI, rwk, Sum.inl rwf))] a9 b9 ((a_2, ka9, kl9, kf9, (oo9, (nI kl9), (nI (ns (les kl9 (Cx ((a_2, ka9, kl9, kf9, (oo9, nI kl9, osm9, 0, oca9, opa9, kl9, ocf9, 0, opf9), (pp9, psg9, psm9, pfc9, pca9, ppa9, pl9, pcf9, ppl9, ppf9)) : MB))) kl9)), 0, oca9, opa9, kl9, ocfq_64, 0, opf9), (pp9, psg9, psm9, pfc9, pca9, ppa9, pl9, pcf9, ppl9, ppf9)) : MB)).symm
          have hD := pm_D (hD.part [0, 1, 8, 2, 3, 4, 12, 9, 10, 11, 5, 6, 7] (by decide +kernel) rfl : va_D A ([(rc, Sum.inr (6, [Value.ref co, Value.ref ma, Value.int (nI ms.length), Value.int 0, Value.int 0, Value.int frd, Value.int fbd, Value.int fir])), (ma, Sum.inl (cM, 8, Sum.inr (Sum.inr (Sum.inr (Sum.inr mf))))), (co, Sum.inr (1, [Value.int (-1), Value.int 0, Value.long 0, Value.long 4294967295, Value.long xcode, Value.long xreadLow, Value.long xreadRange, Value.ref ri, Value.ref ro, Value.ref rw, Value.int xasked])), (rw, Sum.inr (0, [Value.int 0, Value.ref rwa])), (rwa, Sum.inl (cI, rwk, Sum.inl rwf)), (a_2, Sum.inr (8, [Value.ref ka9, Value.ref oo9, Value.ref pp9])), (ka9, Sum.inl (cI, kl9, Sum.inl kf9)), (oo9, Sum.inr (7, [Value.int (nI kl9), Value.int (nI (ns (les kl9 (Cx ((a_2, ka9, kl9, kf9, (oo9, nI kl9, osm9, 0, oca9, opa9, kl9, ocf9, 0, opf9), (pp9, psg9, psm9, pfc9, pca9, ppa9, pl9, pcf9, ppl9, ppf9)) : MB))) kl9)), Value.int 0, Value.ref oca9, Value.ref opa9])), (oca9, Sum.inl (cI, kl9, Sum.inl ocfq_64)), (opa9, Sum.inl (cI, 0, Sum.inl opf9)), (pp9, Sum.inr (7, [Value.int psg9, Value.int psm9, Value.int pfc9, Value.ref pca9, Value.ref ppa9])), (pca9, Sum.inl (cI, pl9, Sum.inl pcf9)), (ppa9, Sum.inl (cI, ppl9, Sum.inl ppf9))] ++ (mbsC cI a9 ++ mbsC cI b9))) (mb_out cI [(rc, Sum.inr (6, [Value.ref co, Value.ref ma, Value.int (nI ms.length), Value.int 0, Value.int 0, Value.int frd, Value.int fbd, Value.int fir])), (ma, Sum.inl (cM, 8, Sum.inr (Sum.inr (Sum.inr (Sum.inr mf))))), (co, Sum.inr (1, [Value.int (-1), Value.int 0, Value.long 0, Value.long 4294967295, Value.long xcode, Value.long xreadLow, Value.long xreadRange, Value.ref ri, Value.ref ro, Value.ref rw, Value.int xasked])), (rw, Sum.inr (0, [Value.int 0, Value.ref rwa])), (rwa, Sum.inl (cI, rwk, Sum.inl rwf))] a9 b9 ((a_2, ka9, kl9, kf9, (oo9, (nI kl9), (nI (ns (les kl9 (Cx ((a_2, ka9, kl9, kf9, (oo9, nI kl9, osm9, 0, oca9, opa9, kl9, ocf9, 0, opf9), (pp9, psg9, psm9, pfc9, pca9, ppa9, pl9, pcf9, ppl9, ppf9)) : MB))) kl9)), 0, oca9, opa9, kl9, ocfq_64, 0, opf9), (pp9, psg9, psm9, pfc9, pca9, ppa9, pl9, pcf9, ppl9, ppf9)) : MB)).symm
          have hma2 : (a9 ++ ((a_2, ka9, kl9, kf9, (oo9, (nI kl9), (nI (ns (les kl9 (Cx ((a_2, ka9, kl9, kf9, (oo9, nI kl9, osm9, 0, oca9, opa9, kl9, ocf9, 0, opf9), (pp9, psg9, psm9, pfc9, pca9, ppa9, pl9, pcf9, ppl9, ppf9)) : MB))) kl9)), 0, oca9, opa9, kl9, ocfq_64, 0, opf9), (pp9, psg9, psm9, pfc9, pca9, ppa9, pl9, pcf9, ppl9, ppf9)) : MB) :: b9).map mbA = ms.map mbA := by refine (mb_set (f := mbA) ?_).trans hma; rfl
          have hmo2 : ∀ x ∈ a9 ++ ((a_2, ka9, kl9, kf9, (oo9, (nI kl9), (nI (ns (les kl9 (Cx ((a_2, ka9, kl9, kf9, (oo9, nI kl9, osm9, 0, oca9, opa9, kl9, ocf9, 0, opf9), (pp9, psg9, psm9, pfc9, pca9, ppa9, pl9, pcf9, ppl9, ppf9)) : MB))) kl9)), 0, oca9, opa9, kl9, ocfq_64, 0, opf9), (pp9, psg9, psm9, pfc9, pca9, ppa9, pl9, pcf9, ppl9, ppf9)) : MB) :: b9, mbOk x := ok_set hmo ⟨hk64, ⟨ho1, ho2, ho3⟩, ⟨hp1, hp2, hp3⟩⟩
          have hPD : my_PD (dC, dI) vwCl A ([(rc, Sum.inr (6, [Value.ref co, Value.ref ma, Value.int (nI ms.length), Value.int 0, Value.int 0, Value.int frd, Value.int fbd, Value.int fir])), (ma, Sum.inl (cM, 8, Sum.inr (Sum.inr (Sum.inr (Sum.inr mf))))), (co, Sum.inr (1, [Value.int (-1), Value.int 0, Value.long 0, Value.long 4294967295, Value.long xcode, Value.long xreadLow, Value.long xreadRange, Value.ref ri, Value.ref ro, Value.ref rw, Value.int xasked])), (rw, Sum.inr (0, [Value.int 0, Value.ref rwa])), (rwa, Sum.inl (cI, rwk, Sum.inl rwf))] ++ mbsC cI (a9 ++ ((a_2, ka9, kl9, kf9, (oo9, (nI kl9), (nI (ns (les kl9 (Cx ((a_2, ka9, kl9, kf9, (oo9, nI kl9, osm9, 0, oca9, opa9, kl9, ocf9, 0, opf9), (pp9, psg9, psm9, pfc9, pca9, ppa9, pl9, pcf9, ppl9, ppf9)) : MB))) kl9)), 0, oca9, opa9, kl9, ocfq_64, 0, opf9), (pp9, psg9, psm9, pfc9, pca9, ppa9, pl9, pcf9, ppl9, ppf9)) : MB) :: b9)) H := ⟨hP, hD⟩
          have hP := hPD.1
          have hD := hPD.2
          have hbg2 : bgI nw_Carries ms (a9 ++ ((a_2, ka9, kl9, kf9, (oo9, (nI kl9), (nI (ns (les kl9 (Cx ((a_2, ka9, kl9, kf9, (oo9, nI kl9, osm9, 0, oca9, opa9, kl9, ocf9, 0, opf9), (pp9, psg9, psm9, pfc9, pca9, ppa9, pl9, pcf9, ppl9, ppf9)) : MB))) kl9)), 0, oca9, opa9, kl9, ocfq_64, 0, opf9), (pp9, psg9, psm9, pfc9, pca9, ppa9, pl9, pcf9, ppl9, ppf9)) : MB) :: b9) (a9.length + 1) := bg_st hbg hlm ⟨rfl, rfl, rfl, ⟨rfl, rfl, rfl, rfl⟩, ⟨hf_64, rfl⟩⟩
          rw [hla] at hbg2
          have hlm2 : ms.length = (a9 ++ ((a_2, ka9, kl9, kf9, (oo9, (nI kl9), (nI (ns (les kl9 (Cx ((a_2, ka9, kl9, kf9, (oo9, nI kl9, osm9, 0, oca9, opa9, kl9, ocf9, 0, opf9), (pp9, psg9, psm9, pfc9, pca9, ppa9, pl9, pcf9, ppl9, ppf9)) : MB))) kl9)), 0, oca9, opa9, kl9, ocfq_64, 0, opf9), (pp9, psg9, psm9, pfc9, pca9, ppa9, pl9, pcf9, ppl9, ppf9)) : MB) :: b9).length := by rw [hlm, List.length_append, List.length_append]; rfl
          obtain ⟨v_4, ev_4⟩ : ∃ y : Int32, y = i9 + (1) := ⟨_, rfl⟩
          refine lv_iinc (v := v_4) (lv' := [(4, Value.int v_4), (5, Value.ref a_2), (3, Value.int (nI 8)), (2, Value.ref ma), (1, Value.int fit), (0, Value.ref rc)]) hx hb d_RC_begin_67 hl (k := 1) rfl (by rw [ev_4]; rfl) (by decide) rfl (fun ls hl => ?_)
          refine lv_goto (tgt := 33) hx hb d_RC_begin_70 (by decide) ?_
          exact ih9_33 _ (by first | omega | (omega)) v_4 (ii + 1) (a9 ++ ((a_2, ka9, kl9, kf9, (oo9, (nI kl9), (nI (ns (les kl9 (Cx ((a_2, ka9, kl9, kf9, (oo9, nI kl9, osm9, 0, oca9, opa9, kl9, ocf9, 0, opf9), (pp9, psg9, psm9, pfc9, pca9, ppa9, pl9, pcf9, ppl9, ppf9)) : MB))) kl9)), 0, oca9, opa9, kl9, ocfq_64, 0, opf9), (pp9, psg9, psm9, pfc9, pca9, ppa9, pl9, pcf9, ppl9, ppf9)) : MB) :: b9) rfl (by rw [ev_4, hi9]; exact nI_1 _) (by omega) (hma2) (hmo2) (hbg2) (hlm2) H locs ls (hP.part [0, 1, 2, 3, 4] rfl) (hD.part [0, 1, 2, 3, 4] (by decide +kernel) rfl) hS (lv_sub hl [0, 2, 3, 4, 5] rfl)
  exact J_33 _ (0 : Int32) (0 : Nat) ms rfl (rfl) (by omega) (rfl) (hmk) (bg_0 ms) (rfl) H locs ls (hP.part [0, 1, 2, 3, 4] rfl) (hD.part [0, 1, 2, 3, 4] (by decide +kernel) rfl) hS (lv_sub hl [0, 1, 2, 3, 4] rfl)
end
section
set_option maxHeartbeats 2000000 in
set_option maxRecDepth 100000 in
theorem f_RC_begin_NoCarries (l : Launch) (dC : Nat → ClassId) (dI : Nat → Nat → Nat) (cI cM cO : ClassId) (sz : Nat) (rc : Nat) (ma : Nat) (fit : Int32) (fen : Int32) (frd : Int32) (fbd : Int32) (fir : Int32) (mf : Nat → Option Nat) (co : Nat) (xlow : Int64) (xrange : Int64) (xcode : Int64) (xreadLow : Int64) (xreadRange : Int64) (ri : Nat) (ro : Nat) (rw : Nat) (xasked : Int32) (rwn : Int32) (rwa : Nat) (rwk : Nat) (rwf : Nat → Int32) (ms : List MB) (hk8 : ms.length ≤ 8) (hrw : rOk rwn rwk) (hmf : mfOk mf ms) (hmk : ∀ x ∈ ms, mbOk x) (hms : ∀ x ∈ ms, mOk_NoCarries x) : MetI l y_RC_begin (Cond.code y_RC_begin prog_1_method_7_code 6 (some .int) :: gw) ({ frames := 3, cells := 0, slots := 0, locals := 66 } : Room) (dC, dI) vwCl (kT cI cM cO) [Value.ref rc] ([(rc, Sum.inr (6, [Value.ref co, Value.ref ma, Value.int (nI ms.length), Value.int fit, Value.int fen, Value.int frd, Value.int fbd, Value.int fir])), (ma, Sum.inl (cM, 8, Sum.inr (Sum.inr (Sum.inr (Sum.inr mf))))), (co, Sum.inr (2, [Value.long xlow, Value.long xrange, Value.long xcode, Value.long xreadLow, Value.long xreadRange, Value.ref ri, Value.ref ro, Value.ref rw, Value.int xasked])), (rw, Sum.inr (0, [Value.int rwn, Value.ref rwa])), (rwa, Sum.inl (cI, rwk, Sum.inl rwf))] ++ mbsC cI ms) sz (fun (r : Int32) (u : List MB) => u.map mbA = ms.map mbA ∧ (∀ x ∈ u, mbOk x) ∧ (∀ (i9 : Nat) (x9 y9 : MB), ms[i9]? = some x9 → u[i9]? = some y9 → nw_NoCarries x9 y9) ∧ ms.length = u.length ∧ r = fit ∧ rOk 0 rwk) (fun (u : List MB) => ([(rc, Sum.inr (6, [Value.ref co, Value.ref ma, Value.int (nI ms.length), Value.int 0, Value.int 0, Value.int frd, Value.int fbd, Value.int fir])), (ma, Sum.inl (cM, 8, Sum.inr (Sum.inr (Sum.inr (Sum.inr mf))))), (co, Sum.inr (2, [Value.long 0, Value.long 4294967295, Value.long xcode, Value.long xreadLow, Value.long xreadRange, Value.ref ri, Value.ref ro, Value.ref rw, Value.int xasked])), (rw, Sum.inr (0, [Value.int 0, Value.ref rwa])), (rwa, Sum.inl (cI, rwk, Sum.inl rwf))] ++ mbsC cI u)) 0 0 := by
  refine my_ofI (cc := prog_1_method_7_code) (n := 6) (ret := (some .int)) (by decide) rfl (Nat.le_of_ble_eq_true rfl) ?_
  intro p e s m args below meth c R Q A ls H locs hx hb hr hts hown hlocks hml hnm hR hQ hA hl hP hK hN hD hS
  have hg : ∀ w ∈ gw, w.before args s = true := fun w h => hts w (List.mem_cons_of_mem _ h)
  have hown : s.vm.findClass "RangeCoders" = some m.cls := hown
  have hl : lv_has ls 6 [(0, Value.ref rc)] := hl
  have hlt_hrw := rOk_lt hrw
  refine lv_aload_n hx hb d_RC_begin_0 rfl (lv_at hl 0 rfl) ?_
  refine va_get (D := (dC, dI)) (ci := 6) (v := .int fit) (C := "RangeCoders") (T := T_RC) (N := 8) hx hb hg in_RC hown hK hP 0 rfl rfl 3 (by decide) (hg _ k261) (fun _ h9 => h9) rfl d_RC_begin_1 ?_
  refine lv_istore_n (lv' := [(1, Value.int fit), (0, Value.ref rc)]) hx hb d_RC_begin_4 rfl hl (by decide) rfl (fun ls hl => ?_)
  refine lv_aload_n hx hb d_RC_begin_5 rfl (lv_at hl 1 rfl) ?_
  refine lv_iconst (v := 0) hx hb d_RC_begin_6 (by decide) ?_
  refine va_put (D := (dC, dI)) (ci := 6) (v := .int 0) (ty := .int) (C := "RangeCoders") (T := T_RC) (N := 8) hx hb hg in_RC t_RC o_RC n_RC hown hK hP hD hS 0 rfl rfl 3 (by decide) (hg _ k261) (fun _ h9 => h9) rfl (o_RC 3 (by decide)) rfl rfl (Nat.le_of_ble_eq_true rfl) d_RC_begin_7 (fun H locs hP hD hS => ?_)
  have hPD : my_PD (dC, dI) vwCl A ([(rc, Sum.inr (6, [Value.ref co, Value.ref ma, Value.int (nI ms.length), Value.int 0, Value.int fen, Value.int frd, Value.int fbd, Value.int fir])), (ma, Sum.inl (cM, 8, Sum.inr (Sum.inr (Sum.inr (Sum.inr mf))))), (co, Sum.inr (2, [Value.long xlow, Value.long xrange, Value.long xcode, Value.long xreadLow, Value.long xreadRange, Value.ref ri, Value.ref ro, Value.ref rw, Value.int xasked])), (rw, Sum.inr (0, [Value.int rwn, Value.ref rwa])), (rwa, Sum.inl (cI, rwk, Sum.inl rwf))] ++ mbsC cI ms) H := ⟨hP, hD⟩
  have hP := hPD.1
  have hD := hPD.2
  refine lv_aload_n hx hb d_RC_begin_10 rfl (lv_at hl 1 rfl) ?_
  refine lv_iconst (v := 0) hx hb d_RC_begin_11 (by decide) ?_
  refine va_put (D := (dC, dI)) (ci := 6) (v := .int 0) (ty := .boolean) (C := "RangeCoders") (T := T_RC) (N := 8) hx hb hg in_RC t_RC o_RC n_RC hown hK hP hD hS 0 rfl rfl 4 (by decide) (hg _ k262) (fun _ h9 => h9) rfl (o_RC 4 (by decide)) rfl rfl (Nat.le_of_ble_eq_true rfl) d_RC_begin_12 (fun H locs hP hD hS => ?_)
  have hPD : my_PD (dC, dI) vwCl A ([(rc, Sum.inr (6, [Value.ref co, Value.ref ma, Value.int (nI ms.length), Value.int 0, Value.int 0, Value.int frd, Value.int fbd, Value.int fir])), (ma, Sum.inl (cM, 8, Sum.inr (Sum.inr (Sum.inr (Sum.inr mf))))), (co, Sum.inr (2, [Value.long xlow, Value.long xrange, Value.long xcode, Value.long xreadLow, Value.long xreadRange, Value.ref ri, Value.ref ro, Value.ref rw, Value.int xasked])), (rw, Sum.inr (0, [Value.int rwn, Value.ref rwa])), (rwa, Sum.inl (cI, rwk, Sum.inl rwf))] ++ mbsC cI ms) H := ⟨hP, hD⟩
  have hP := hPD.1
  have hD := hPD.2
  refine lv_aload_n hx hb d_RC_begin_15 rfl (lv_at hl 1 rfl) ?_
  refine va_get (D := (dC, dI)) (ci := 6) (v := .ref co) (C := "RangeCoders") (T := T_RC) (N := 8) hx hb hg in_RC hown hK hP 0 rfl rfl 0 (by decide) (hg _ k258) (fun _ h9 => h9) rfl d_RC_begin_16 ?_
  refine my_cvt (wr := [(rc, Sum.inr (6, [Value.ref co, Value.ref ma, Value.int (nI ms.length), Value.int 0, Value.int 0, Value.int frd, Value.int fbd, Value.int fir])), (ma, Sum.inl (cM, 8, Sum.inr (Sum.inr (Sum.inr (Sum.inr mf)))))]) (va_runU (As := []) (rest := []) ⟨hx, hb, hml, hown, hts⟩ (f_NoCarries_Ropen l dC dI cI cM cO H.size co xlow xrange xcode xreadLow xreadRange ri ro rw xasked rwn rwa rwk rwf (by first | assumption | omega)) (va_cwA 0 hts (my_gU k683 k685 k694 k690 k4 k691) rfl rfl rfl (hN.1 _ j684 rfl) (by decide +kernel) ⟨by rw [hR]; exact Nat.le_of_ble_eq_true rfl, by rw [hR]; exact Nat.le_of_ble_eq_true rfl⟩) (my_preV hK hN (my_subU hP [2, 3, 4] rfl) (my_dubT hD [2, 3, 4] (by decide +kernel) rfl) 0 rfl rfl) rfl rfl hl.1 rfl (lv_room (Nat.le_of_ble_eq_true rfl)) d_RC_begin_19 ⟨by rw [hR]; exact Nat.le_of_ble_eq_true rfl, by rw [hR]; exact Nat.le_of_ble_eq_true rfl⟩) hP hD hS hA [2, 3, 4] [0, 1] rfl rfl (by decide +kernel) (by decide +kernel) (fun u9 H locs hw_19 hP hD hS => ?_)
  have hr_19 : rOk 0 rwk := hw_19
  have hPD : my_PD (dC, dI) vwCl A ([(rc, Sum.inr (6, [Value.ref co, Value.ref ma, Value.int (nI ms.length), Value.int 0, Value.int 0, Value.int frd, Value.int fbd, Value.int fir])), (ma, Sum.inl (cM, 8, Sum.inr (Sum.inr (Sum.inr (Sum.inr mf))))), (co, Sum.inr (2, [Value.long 0, Value.long 4294967295, Value.long xcode, Value.long xreadLow, Value.long xreadRange, Value.ref ri, Value.ref ro, Value.ref rw, Value.int xasked])), (rw, Sum.inr (0, [Value.int 0, Value.ref rwa])), (rwa, Sum.inl (cI, rwk, Sum.inl rwf))] ++ mbsC cI ms) H := ⟨hP, hD⟩
  have hP := hPD.1
  have hD := hPD.2
  refine lv_aload_n hx hb d_RC_begin_22 rfl (lv_at hl 1 rfl) ?_
  refine va_get (D := (dC, dI)) (ci := 6) (v := .ref ma) (C := "RangeCoders") (T := T_RC) (N := 8) hx hb hg in_RC hown hK hP 0 rfl rfl 1 (by decide) (hg _ k259) (fun _ h9 => h9) rfl d_RC_begin_23 ?_
  refine lv_astore_n (lv' := [(2, Value.ref ma), (1, Value.int fit), (0, Value.ref rc)]) hx hb d_RC_begin_26 rfl hl (by decide) rfl (fun ls hl => ?_)
  refine lv_aload_n hx hb d_RC_begin_27 rfl (lv_at hl 0 rfl) ?_
  refine va_alen hx hb hK hP 1 1 rfl rfl (v := nI 8) rfl d_RC_begin_28 ?_
  refine lv_istore_n (lv' := [(3, Value.int (nI 8)), (2, Value.ref ma), (1, Value.int fit), (0, Value.ref rc)]) hx hb d_RC_begin_29 rfl hl (by decide) rfl (fun ls hl => ?_)
  refine lv_iconst (v := 0) hx hb d_RC_begin_30 (by decide) ?_
  refine lv_istore (lv' := [(4, Value.int 0), (3, Value.int (nI 8)), (2, Value.ref ma), (1, Value.int fit), (0, Value.ref rc)]) hx hb d_RC_begin_31 hl (by decide) rfl (fun ls hl => ?_)
  have J_33 : ∀ (n9_33 : Nat) (i9 : Int32) (ii : Nat) (ms9 : List MB) (hn9_33 : 8 - ii = n9_33) (hi9 : i9 = nI ii) (hii : ii ≤ 8) (hma : ms9.map mbA = ms.map mbA) (hmo : ∀ x ∈ ms9, mbOk x) (hbg : bgI nw_NoCarries ms ms9 ii) (hlm : ms.length = ms9.length) (H : Heap) (locs : List Loc) (ls : Array Slot), va_P (dC, dI) vwCl ([(rc, Sum.inr (6, [Value.ref co, Value.ref ma, Value.int (nI ms.length), Value.int 0, Value.int 0, Value.int frd, Value.int fbd, Value.int fir])), (ma, Sum.inl (cM, 8, Sum.inr (Sum.inr (Sum.inr (Sum.inr mf))))), (co, Sum.inr (2, [Value.long 0, Value.long 4294967295, Value.long xcode, Value.long xreadLow, Value.long xreadRange, Value.ref ri, Value.ref ro, Value.ref rw, Value.int xasked])), (rw, Sum.inr (0, [Value.int 0, Value.ref rwa])), (rwa, Sum.inl (cI, rwk, Sum.inl rwf))] ++ mbsC cI ms9) H → va_D A ([(rc, Sum.inr (6, [Value.ref co, Value.ref ma, Value.int (nI ms.length), Value.int 0, Value.int 0, Value.int frd, Value.int fbd, Value.int fir])), (ma, Sum.inl (cM, 8, Sum.inr (Sum.inr (Sum.inr (Sum.inr mf))))), (co, Sum.inr (2, [Value.long 0, Value.long 4294967295, Value.long xcode, Value.long xreadLow, Value.long xreadRange, Value.ref ri, Value.ref ro, Value.ref rw, Value.int xasked])), (rw, Sum.inr (0, [Value.int 0, Value.ref rwa])), (rwa, Sum.inl (cI, rwk, Sum.inl rwf))] ++ mbsC cI ms9) → va_S A s.heap H locs → lv_has ls 6 [(4, Value.int i9), (3, Value.int (nI 8)), (2, Value.ref ma), (1, Value.int fit), (0, Value.ref rc)] → W p l e R s m args below meth c H locs 0 0 Q (F0 m 33 ls []) := by
    intro n9_33
    induction n9_33 using Nat.strongRecOn with
    | ind n9_33 ih9_33 =>
      intro i9 ii ms9 hn9_33 hi9 hii hma hmo hbg hlm H locs ls hP hD hS hl
      refine lv_iload hx hb d_RC_begin_33 (lv_at hl 0 rfl) ?_
      refine lv_iload_n hx hb d_RC_begin_35 rfl (lv_at hl 1 rfl) ?_
      refine lv_icmp_ge (tgt := 73) hx hb d_RC_begin_36 (by decide) (fun c_1 => ?_) (fun c_1 => ?_)
      · refine lv_iload_n hx hb d_RC_begin_73 rfl (lv_at hl 3 rfl) ?_
        exact my_iret (v := fit) hx hb hr (rfl) hlocks hQ hK hS (Nat.le_refl _) (Nat.le_refl _) (ms9) (⟨hma, hmo, bg_e (by rw [show (8 : Nat) = ii by have := nI_ge' (n := 8) (j := ii) (by omega) (by decide) (by rw [← hi9]; assumption); omega]; exact hbg) hk8, hlm, rfl, hr_19⟩) (hP.part [0, 1, 2, 3, 4] rfl) (hD.part [0, 1, 2, 3, 4] (by decide +kernel) rfl) d_RC_begin_74
      · refine lv_aload_n hx hb d_RC_begin_39 rfl (lv_at hl 2 rfl) ?_
        refine lv_iload hx hb d_RC_begin_40 (lv_at hl 0 rfl) ?_
        have hi8 : ii < 8 := by
          rcases Nat.lt_or_ge ii 8 with z | z
          · exact z
          · exact absurd (by rw [hi9]; exact nI_le (a := 8) z (by omega)) c_1
        refine va_aldq hx hb hK hP 1 1 rfl rfl (by rw [hi9]; exact vp_in_nI hi8 (by decide)) d_RC_begin_42 ?_
        rcases hq_a_2 : mf i9.toNatClampNeg with _ | a_2
        · refine W.eq (g2 := F0 m 43 ls [Value.null]) rfl ?_
          have hmf9 := mf_keep hmf hma
          have hnil : ms.length ≤ ii := by
            rcases Nat.lt_or_ge ii ms9.length with z | z
            · obtain ⟨a9, x9, b9, e9, hla⟩ := mb_at z
              subst e9
              rw [hi9, nI_clamp (by omega), ← hla, mf_some hmf9 (by omega)] at hq_a_2; cases hq_a_2
            · rw [hlm]; exact z
          refine lv_astoreN (lv' := [(5, Value.null), (4, Value.int i9), (3, Value.int (nI 8)), (2, Value.ref ma), (1, Value.int fit), (0, Value.ref rc)]) hx hb d_RC_begin_43 hl (by decide) rfl (fun ls hl => ?_)
          refine lv_aloadN hx hb d_RC_begin_45 (lv_at hl 0 rfl) ?_
          refine lv_ifnullN (tgt := 67) hx hb d_RC_begin_47 (by decide) ?_
          obtain ⟨v_3, ev_3⟩ : ∃ y : Int32, y = i9 + (1) := ⟨_, rfl⟩
          refine lv_iinc (v := v_3) (lv' := [(4, Value.int v_3), (5, Value.null), (3, Value.int (nI 8)), (2, Value.ref ma), (1, Value.int fit), (0, Value.ref rc)]) hx hb d_RC_begin_67 hl (k := 1) rfl (by rw [ev_3]; rfl) (by decide) rfl (fun ls hl => ?_)
          refine lv_goto (tgt := 33) hx hb d_RC_begin_70 (by decide) ?_
          exact ih9_33 _ (by first | omega | (omega)) v_3 (ii + 1) ms9 rfl (by rw [ev_3, hi9]; exact nI_1 _) (by omega) (by assumption) (by assumption) (bg_no hbg (by rw [← hlm]; exact hnil)) (hlm) H locs ls (hP.part [0, 1, 2, 3, 4] rfl) (hD.part [0, 1, 2, 3, 4] (by decide +kernel) rfl) hS (lv_sub hl [0, 2, 3, 4, 5] rfl)
        · refine W.eq (g2 := F0 m 43 ls [Value.ref a_2]) rfl ?_
          have hmf9 := mf_keep hmf hma
          have hil : ii < ms9.length := by
            rcases Nat.lt_or_ge ii ms9.length with z | z
            · exact z
            · rw [hi9, nI_clamp (by omega), mf_none hmf9 hi8 z] at hq_a_2; cases hq_a_2
          obtain ⟨a9, x9, b9, e9, hla⟩ := mb_at hil
          subst e9
          obtain ⟨mo9, ka9, kl9, kf9, ⟨oo9, osg9, osm9, ofc9, oca9, opa9, ol9, ocf9, opl9, opf9⟩, ⟨pp9, psg9, psm9, pfc9, pca9, ppa9, pl9, pcf9, ppl9, ppf9⟩⟩ := x9
          have hax : a_2 = mo9 := by
            rw [hi9, nI_clamp (by omega), ← hla, mf_some hmf9 (by omega)] at hq_a_2
            exact (Option.some.inj hq_a_2).symm
          subst hax
          obtain ⟨hk64, ⟨ho1, ho2, ho3⟩, ⟨hp1, hp2, hp3⟩⟩ := ok_mid hmo
          have hP := pm_P hP (mb_out cI [(rc, Sum.inr (6, [Value.ref co, Value.ref ma, Value.int (nI ms.length), Value.int 0, Value.int 0, Value.int frd, Value.int fbd, Value.int fir])), (ma, Sum.inl (cM, 8, Sum.inr (Sum.inr (Sum.inr (Sum.inr mf))))), (co, Sum.inr (2, [Value.long 0, Value.long 4294967295, Value.long xcode, Value.long xreadLow, Value.long xreadRange, Value.ref ri, Value.ref ro, Value.ref rw, Value.int xasked])), (rw, Sum.inr (0, [Value.int 0, Value.ref rwa])), (rwa, Sum.inl (cI, rwk, Sum.inl rwf))] a9 b9 (a_2, ka9, kl9, kf9, (oo9, osg9, osm9, ofc9, oca9, opa9, ol9, ocf9, opl9, opf9), (pp9, psg9, psm9, pfc9, pca9, ppa9, pl9, pcf9, ppl9, ppf9)))
          have hD := pm_D hD (mb_out cI [(rc, Sum.inr (6, [Value.ref co, Value.ref ma, Value.int (nI ms.length), Value.int 0, Value.int 0, Value.int frd, Value.int fbd, Value.int fir])), (ma, Sum.inl (cM, 8, Sum.inr (Sum.inr (Sum.inr (Sum.inr mf))))), (co, Sum.inr (2, [Value.long 0, Value.long 4294967295, Value.long xcode, Value.long xreadLow, Value.long xreadRange, Value.ref ri, Value.ref ro, Value.ref rw, Value.int xasked])), (rw, Sum.inr (0, [Value.int 0, Value.ref rwa])), (rwa, Sum.inl (cI, rwk, Sum.inl rwf))] a9 b9 (a_2, ka9, kl9, kf9, (oo9, osg9, osm9, ofc9, oca9, opa9, ol9, ocf9, opl9, opf9), (pp9, psg9, psm9, pfc9, pca9, ppa9, pl9, pcf9, ppl9, ppf9)))
          have hPD : my_PD (dC, dI) vwCl A ([(rc, Sum.inr (6, [Value.ref co, Value.ref ma, Value.int (nI ms.length), Value.int 0, Value.int 0, Value.int frd, Value.int fbd, Value.int fir])), (ma, Sum.inl (cM, 8, Sum.inr (Sum.inr (Sum.inr (Sum.inr mf))))), (co, Sum.inr (2, [Value.long 0, Value.long 4294967295, Value.long xcode, Value.long xreadLow, Value.long xreadRange, Value.ref ri, Value.ref ro, Value.ref rw, Value.int xasked])), (rw, Sum.inr (0, [Value.int 0, Value.ref rwa])), (rwa, Sum.inl (cI, rwk, Sum.inl rwf)), (a_2, Sum.inr (8, [Value.ref ka9, Value.ref oo9, Value.ref pp9])), (ka9, Sum.inl (cI, kl9, Sum.inl kf9)), (oo9, Sum.inr (7, [Value.int osg9, Value.int osm9, Value.int ofc9, Value.ref oca9, Value.ref opa9])), (oca9, Sum.inl (cI, ol9, Sum.inl ocf9)), (opa9, Sum.inl (cI, opl9, Sum.inl opf9)), (pp9, Sum.inr (7, [Value.int psg9, Value.int psm9, Value.int pfc9, Value.ref pca9, Value.ref ppa9])), (pca9, Sum.inl (cI, pl9, Sum.inl pcf9)), (ppa9, Sum.inl (cI, ppl9, Sum.inl ppf9))] ++ (mbsC cI a9 ++ mbsC cI b9)) H := ⟨hP, hD⟩
          have hP := hPD.1
          have hD := hPD.2
          rw [← hla] at hbg
          obtain ⟨hx1, hx2, ⟨hx3, hx4, hx5, hx6⟩, hx7, hx8⟩ := hms ((a_2, ka9, kl9, kf9, (oo9, osg9, osm9, ofc9, oca9, opa9, ol9, ocf9, opl9, opf9), (pp9, psg9, psm9, pfc9, pca9, ppa9, pl9, pcf9, ppl9, ppf9)) : MB) (List.mem_of_getElem? (bg_x hbg hlm))
          have hx3 : osg9 = nI kl9 := hx3
          skip
          subst hx3
          have hx4 : ofc9 = 0 := hx4
          skip
          subst hx4
          have hx5 : ol9 = kl9 := hx5
          have hx5 := hx5.symm
          subst hx5
          have hx6 : opl9 = 0 := hx6
          skip
          subst hx6
          have hPD : my_PD (dC, dI) vwCl A ([(rc, Sum.inr (6, [Value.ref co, Value.ref ma, Value.int (nI ms.length), Value.int 0, Value.int 0, Value.int frd, Value.int fbd, Value.int fir])), (ma, Sum.inl (cM, 8, Sum.inr (Sum.inr (Sum.inr (Sum.inr mf))))), (co, Sum.inr (2, [Value.long 0, Value.long 4294967295, Value.long xcode, Value.long xreadLow, Value.long xreadRange, Value.ref ri, Value.ref ro, Value.ref rw, Value.int xasked])), (rw, Sum.inr (0, [Value.int 0, Value.ref rwa])), (rwa, Sum.inl (cI, rwk, Sum.inl rwf)), (a_2, Sum.inr (8, [Value.ref ka9, Value.ref oo9, Value.ref pp9])), (ka9, Sum.inl (cI, kl9, Sum.inl kf9)), (oo9, Sum.inr (7, [Value.int (nI kl9), Value.int osm9, Value.int 0, Value.ref oca9, Value.ref opa9])), (oca9, Sum.inl (cI, kl9, Sum.inl ocf9)), (opa9, Sum.inl (cI, 0, Sum.inl opf9)), (pp9, Sum.inr (7, [Value.int psg9, Value.int psm9, Value.int pfc9, Value.ref pca9, Value.ref ppa9])), (pca9, Sum.inl (cI, pl9, Sum.inl pcf9)), (ppa9, Sum.inl (cI, ppl9, Sum.inl ppf9))] ++ (mbsC cI a9 ++ mbsC cI b9)) H := ⟨hP, hD⟩
          have hP := hPD.1
          have hD := hPD.2
          refine lv_astore (lv' := [(5, Value.ref a_2), (4, Value.int i9), (3, Value.int (nI 8)), (2, Value.ref ma), (1, Value.int fit), (0, Value.ref rc)]) hx hb d_RC_begin_43 hl (by decide) rfl (fun ls hl => ?_)
          refine lv_aload hx hb d_RC_begin_45 (lv_at hl 0 rfl) ?_
          refine lv_ifnull hx hb d_RC_begin_47 ?_
          refine lv_aload_n hx hb d_RC_begin_50 rfl (lv_at hl 5 rfl) ?_
          refine va_get (D := (dC, dI)) (ci := 6) (v := .ref co) (C := "RangeCoders") (T := T_RC) (N := 8) hx hb hg in_RC hown hK hP 0 rfl rfl 0 (by decide) (hg _ k258) (fun _ h9 => h9) rfl d_RC_begin_51 ?_
          refine lv_aload hx hb d_RC_begin_54 (lv_at hl 0 rfl) ?_
          refine va_get (D := (dC, dI)) (ci := 8) (v := .ref oo9) (C := "RangeCoders$Model") (T := T_Model) (N := 3) hx hb hg in_Model hown hK hP 5 rfl rfl 1 (by decide) (hg _ k343) (fun _ h9 => h9) rfl d_RC_begin_56 ?_
          refine lv_aload hx hb d_RC_begin_59 (lv_at hl 0 rfl) ?_
          refine va_get (D := (dC, dI)) (ci := 8) (v := .ref ka9) (C := "RangeCoders$Model") (T := T_Model) (N := 3) hx hb hg in_Model hown hK hP 5 rfl rfl 0 (by decide) (hg _ k341) (fun _ h9 => h9) rfl d_RC_begin_61 ?_
          refine my_cvt (wr := [(rc, Sum.inr (6, [Value.ref co, Value.ref ma, Value.int (nI ms.length), Value.int 0, Value.int 0, Value.int frd, Value.int fbd, Value.int fir])), (ma, Sum.inl (cM, 8, Sum.inr (Sum.inr (Sum.inr (Sum.inr mf))))), (rw, Sum.inr (0, [Value.int 0, Value.ref rwa])), (rwa, Sum.inl (cI, rwk, Sum.inl rwf)), (a_2, Sum.inr (8, [Value.ref ka9, Value.ref oo9, Value.ref pp9])), (pp9, Sum.inr (7, [Value.int psg9, Value.int psm9, Value.int pfc9, Value.ref pca9, Value.ref ppa9])), (pca9, Sum.inl (cI, pl9, Sum.inl pcf9)), (ppa9, Sum.inl (cI, ppl9, Sum.inl ppf9))]) (va_runU (As := [Value.ref oo9, Value.ref ka9]) (rest := []) ⟨hx, hb, hml, hown, hts⟩ (f_NoCarries_prepare l dC dI cI cM cO H.size co 0 4294967295 xcode xreadLow xreadRange ri ro rw xasked oo9 (nI kl9) 0 oca9 opa9 kl9 ocf9 0 opf9 osm9 ka9 kf9 (Cx ((a_2, ka9, kl9, kf9, (oo9, nI kl9, osm9, 0, oca9, opa9, kl9, ocf9, 0, opf9), (pp9, psg9, psm9, pfc9, pca9, ppa9, pl9, pcf9, ppl9, ppf9)) : MB)) (hx2) (by decide) (hx7) (hx8)) (va_cwA 2 hts (my_gU k353 k355 k379 k365 k4 k366) rfl rfl rfl (hN.1 _ j354 rfl) (by decide +kernel) ⟨by rw [hR]; exact Nat.le_of_ble_eq_true rfl, by rw [hR]; exact Nat.le_of_ble_eq_true rfl⟩) (my_preV hK hN (my_subU hP [2, 7, 8, 9, 6] rfl) (my_dubT hD [2, 7, 8, 9, 6] (by decide +kernel) rfl) 0 rfl rfl) rfl rfl hl.1 rfl (lv_room (Nat.le_of_ble_eq_true rfl)) d_RC_begin_64 ⟨by rw [hR]; exact Nat.le_of_ble_eq_true rfl, by rw [hR]; exact Nat.le_of_ble_eq_true rfl⟩) hP hD hS hA [2, 7, 8, 9, 6] [0, 1, 3, 4, 5, 10, 11, 12] rfl rfl (by decide +kernel) (by decide +kernel) (fun u9 H locs hw_64 hP hD hS => ?_)
          obtain ⟨ocfq_64, rfl⟩ : ∃ z, z = u9 := ⟨_, rfl⟩
          have hf_64 : tbI ocfq_64 kl9 (les kl9 (Cx ((a_2, ka9, kl9, kf9, (oo9, nI kl9, osm9, 0, oca9, opa9, kl9, ocf9, 0, opf9), (pp9, psg9, psm9, pfc9, pca9, ppa9, pl9, pcf9, ppl9, ppf9)) : MB))) := hw_64
          have hPD : my_PD (dC, dI) vwCl A ([(rc, Sum.inr (6, [Value.ref co, Value.ref ma, Value.int (nI ms.length), Value.int 0, Value.int 0, Value.int frd, Value.int fbd, Value.int fir])), (ma, Sum.inl (cM, 8, Sum.inr (Sum.inr (Sum.inr (Sum.inr mf))))), (rw, Sum.inr (0, [Value.int 0, Value.ref rwa])), (rwa, Sum.inl (cI, rwk, Sum.inl rwf)), (a_2, Sum.inr (8, [Value.ref ka9, Value.ref oo9, Value.ref pp9])), (pp9, Sum.inr (7, [Value.int psg9, Value.int psm9, Value.int pfc9, Value.ref pca9, Value.ref ppa9])), (pca9, Sum.inl (cI, pl9, Sum.inl pcf9)), (ppa9, Sum.inl (cI, ppl9, Sum.inl ppf9)), (co, Sum.inr (2, [Value.long 0, Value.long 4294967295, Value.long xcode, Value.long xreadLow, Value.long xreadRange, Value.ref ri, Value.ref ro, Value.ref rw, Value.int xasked])), (oo9, Sum.inr (7, [Value.int (nI kl9), Value.int (nI (ns (les kl9 (Cx ((a_2, ka9, kl9, kf9, (oo9, nI kl9, osm9, 0, oca9, opa9, kl9, ocf9, 0, opf9), (pp9, psg9, psm9, pfc9, pca9, ppa9, pl9, pcf9, ppl9, ppf9)) : MB))) kl9)), Value.int 0, Value.ref oca9, Value.ref opa9])), (oca9, Sum.inl (cI, kl9, Sum.inl ocfq_64)), (opa9, Sum.inl (cI, 0, Sum.inl opf9)), (ka9, Sum.inl (cI, kl9, Sum.inl kf9))] ++ (mbsC cI a9 ++ mbsC cI b9)) H := ⟨hP, hD⟩
          have hP := hPD.1
          have hD := hPD.2
          have hP := pm_P (hP.part [0, 1, 8, 2, 3, 4, 12, 9, 10, 11, 5, 6, 7] rfl : va_P (dC, dI) vwCl ([(rc, Sum.inr (6, [Value.ref co, Value.ref ma, Value.int (nI ms.length), Value.int 0, Value.int 0, Value.int frd, Value.int fbd, Value.int fir])), (ma, Sum.inl (cM, 8, Sum.inr (Sum.inr (Sum.inr (Sum.inr mf))))), (co, Sum.inr (2, [Value.long 0, Value.long 4294967295, Value.long xcode, Value.long xreadLow, Value.long xreadRange, Value.ref ri, Value.ref ro, Value.ref rw, Value.int xasked])), (rw, Sum.inr (0, [Value.int 0, Value.ref rwa])), (rwa, Sum.inl (cI, rwk, Sum.inl rwf)), (a_2, Sum.inr (8, [Value.ref ka9, Value.ref oo9, Value.ref pp9])), (ka9, Sum.inl (cI, kl9, Sum.inl kf9)), (oo9, Sum.inr (7, [Value.int (nI kl9), Value.int (nI (ns (les kl9 (Cx ((a_2, ka9, kl9, kf9, (oo9, nI kl9, osm9, 0, oca9, opa9, kl9, ocf9, 0, opf9), (pp9, psg9, psm9, pfc9, pca9, ppa9, pl9, pcf9, ppl9, ppf9)) : MB))) kl9)), Value.int 0, Value.ref oca9, Value.ref opa9])), (oca9, Sum.inl (cI, kl9, Sum.inl ocfq_64)), (opa9, Sum.inl (cI, 0, Sum.inl opf9)), (pp9, Sum.inr (7, [Value.int psg9, Value.int psm9, Value.int pfc9, Value.ref pca9, Value.ref ppa9])), (pca9, Sum.inl (cI, pl9, Sum.inl pcf9)), (ppa9, Sum.inl (cI, ppl9, Sum.inl ppf9))] ++ (mbsC cI a9 ++ mbsC cI b9)) H) (mb_out cI [(rc, Sum.inr (6, [Value.ref co, Value.ref ma, Value.int (nI ms.length), Value.int 0, Value.int 0, Value.int frd, Value.int fbd, Value.int fir])), (ma, Sum.inl (cM, 8, Sum.inr (Sum.inr (Sum.inr (Sum.inr mf))))), (co, Sum.inr (2, [Value.long 0, Value.long 4294967295, Value.long xcode, Value.long xreadLow, Value.long xreadRange, Value.ref ri, Value.ref ro, Value.ref rw, Value.int xasked])), (rw, Sum.inr (0, [Value.int 0, Value.ref rwa])), (rwa, Sum.inl (cI, rwk, Sum.inl rwf))] a9 b9 ((a_2, ka9, kl9, kf9, (oo9, (nI kl9), (nI (ns (les kl9 (Cx ((a_2, ka9, kl9, kf9, (oo9, nI kl9, osm9, 0, oca9, opa9, kl9, ocf9, 0, opf9), (pp9, psg9, psm9, pfc9, pca9, ppa9, pl9, pcf9, ppl9, ppf9)) : MB))) kl9)), 0, oca9, opa9, kl9, ocfq_64, 0, opf9), (pp9, psg9, psm9, pfc9, pca9, ppa9, pl9, pcf9, ppl9, ppf9)) : MB)).symm
          have hD := pm_D (hD.part [0, 1, 8, 2, 3, 4, 12, 9, 10, 11, 5, 6, 7] (by decide +kernel) rfl : va_D A ([(rc, Sum.inr (6, [Value.ref co, Value.ref ma, Value.int (nI ms.length), Value.int 0, Value.int 0, Value.int frd, Value.int fbd, Value.int fir])), (ma, Sum.inl (cM, 8, Sum.inr (Sum.inr (Sum.inr (Sum.inr mf))))), (co, Sum.inr (2, [Value.long 0, Value.long 4294967295, Value.long xcode, Value.long xreadLow, Value.long xreadRange, Value.ref ri, Value.ref ro, Value.ref rw, Value.int xasked])), (rw, Sum.inr (0, [Value.int 0, Value.ref rwa])), (rwa, Sum.inl (cI, rwk, Sum.inl rwf)), (a_2, Sum.inr (8, [Value.ref ka9, Value.ref oo9, Value.ref pp9])), (ka9, Sum.inl (cI, kl9, Sum.inl kf9)), (oo9, Sum.inr (7, [Value.int (nI kl9), Value.int (nI (ns (les kl9 (Cx ((a_2, ka9, kl9, kf9, (oo9, nI kl9, osm9, 0, oca9, opa9, kl9, ocf9, 0, opf9), (pp9, psg9, psm9, pfc9, pca9, ppa9, pl9, pcf9, ppl9, ppf9)) : MB))) kl9)), Value.int 0, Value.ref oca9, Value.ref opa9])), (oca9, Sum.inl (cI, kl9, Sum.inl ocfq_64)), (opa9, Sum.inl (cI, 0, Sum.inl opf9)), (pp9, Sum.inr (7, [Value.int psg9, Value.int psm9, Value.int pfc9, Value.ref pca9, Value.ref ppa9])), (pca9, Sum.inl (cI, pl9, Sum.inl pcf9)), (ppa9, Sum.inl (cI, ppl9, Sum.inl ppf9))] ++ (mbsC cI a9 ++ mbsC cI b9))) (mb_out cI [(rc, Sum.inr (6, [Value.ref co, Value.ref ma, Value.int (nI ms.length), Value.int 0, Value.int 0, Value.int frd, Value.int fbd, Value.int fir])), (ma, Sum.inl (cM, 8, Sum.inr (Sum.inr (Sum.inr (Sum.inr mf))))), (co, Sum.inr (2, [Value.long 0, Value.long 4294967295, Value.long xcode, Value.long xreadLow, Value.long xreadRange, Value.ref ri, Value.ref ro, Value.ref rw, Value.int xasked])), (rw, Sum.inr (0, [Value.int 0, Value.ref rwa])), (rwa, Sum.inl (cI, rwk, Sum.inl rwf))] a9 b9 ((a_2, ka9, kl9, kf9, (oo9, (nI kl9), (nI (ns (les kl9 (Cx ((a_2, ka9, kl9, kf9, (oo9, nI kl9, osm9, 0, oca9, opa9, kl9, ocf9, 0, opf9), (pp9, psg9, psm9, pfc9, pca9, ppa9, pl9, pcf9, ppl9, ppf9)) : MB))) kl9)), 0, oca9, opa9, kl9, ocfq_64, 0, opf9), (pp9, psg9, psm9, pfc9, pca9, ppa9, pl9, pcf9, ppl9, ppf9)) : MB)).symm
          have hma2 : (a9 ++ ((a_2, ka9, kl9, kf9, (oo9, (nI kl9), (nI (ns (les kl9 (Cx ((a_2, ka9, kl9, kf9, (oo9, nI kl9, osm9, 0, oca9, opa9, kl9, ocf9, 0, opf9), (pp9, psg9, psm9, pfc9, pca9, ppa9, pl9, pcf9, ppl9, ppf9)) : MB))) kl9)), 0, oca9, opa9, kl9, ocfq_64, 0, opf9), (pp9, psg9, psm9, pfc9, pca9, ppa9, pl9, pcf9, ppl9, ppf9)) : MB) :: b9).map mbA = ms.map mbA := by refine (mb_set (f := mbA) ?_).trans hma; rfl
          have hmo2 : ∀ x ∈ a9 ++ ((a_2, ka9, kl9, kf9, (oo9, (nI kl9), (nI (ns (les kl9 (Cx ((a_2, ka9, kl9, kf9, (oo9, nI kl9, osm9, 0, oca9, opa9, kl9, ocf9, 0, opf9), (pp9, psg9, psm9, pfc9, pca9, ppa9, pl9, pcf9, ppl9, ppf9)) : MB))) kl9)), 0, oca9, opa9, kl9, ocfq_64, 0, opf9), (pp9, psg9, psm9, pfc9, pca9, ppa9, pl9, pcf9, ppl9, ppf9)) : MB) :: b9, mbOk x := ok_set hmo ⟨hk64, ⟨ho1, ho2, ho3⟩, ⟨hp1, hp2, hp3⟩⟩
          have hPD : my_PD (dC, dI) vwCl A ([(rc, Sum.inr (6, [Value.ref co, Value.ref ma, Value.int (nI ms.length), Value.int 0, Value.int 0, Value.int frd, Value.int fbd, Value.int fir])), (ma, Sum.inl (cM, 8, Sum.inr (Sum.inr (Sum.inr (Sum.inr mf))))), (co, Sum.inr (2, [Value.long 0, Value.long 4294967295, Value.long xcode, Value.long xreadLow, Value.long xreadRange, Value.ref ri, Value.ref ro, Value.ref rw, Value.int xasked])), (rw, Sum.inr (0, [Value.int 0, Value.ref rwa])), (rwa, Sum.inl (cI, rwk, Sum.inl rwf))] ++ mbsC cI (a9 ++ ((a_2, ka9, kl9, kf9, (oo9, (nI kl9), (nI (ns (les kl9 (Cx ((a_2, ka9, kl9, kf9, (oo9, nI kl9, osm9, 0, oca9, opa9, kl9, ocf9, 0, opf9), (pp9, psg9, psm9, pfc9, pca9, ppa9, pl9, pcf9, ppl9, ppf9)) : MB))) kl9)), 0, oca9, opa9, kl9, ocfq_64, 0, opf9), (pp9, psg9, psm9, pfc9, pca9, ppa9, pl9, pcf9, ppl9, ppf9)) : MB) :: b9)) H := ⟨hP, hD⟩
          have hP := hPD.1
          have hD := hPD.2
          have hbg2 : bgI nw_NoCarries ms (a9 ++ ((a_2, ka9, kl9, kf9, (oo9, (nI kl9), (nI (ns (les kl9 (Cx ((a_2, ka9, kl9, kf9, (oo9, nI kl9, osm9, 0, oca9, opa9, kl9, ocf9, 0, opf9), (pp9, psg9, psm9, pfc9, pca9, ppa9, pl9, pcf9, ppl9, ppf9)) : MB))) kl9)), 0, oca9, opa9, kl9, ocfq_64, 0, opf9), (pp9, psg9, psm9, pfc9, pca9, ppa9, pl9, pcf9, ppl9, ppf9)) : MB) :: b9) (a9.length + 1) := bg_st hbg hlm ⟨rfl, rfl, rfl, ⟨rfl, rfl, rfl, rfl⟩, ⟨hf_64, rfl⟩⟩
          rw [hla] at hbg2
          have hlm2 : ms.length = (a9 ++ ((a_2, ka9, kl9, kf9, (oo9, (nI kl9), (nI (ns (les kl9 (Cx ((a_2, ka9, kl9, kf9, (oo9, nI kl9, osm9, 0, oca9, opa9, kl9, ocf9, 0, opf9), (pp9, psg9, psm9, pfc9, pca9, ppa9, pl9, pcf9, ppl9, ppf9)) : MB))) kl9)), 0, oca9, opa9, kl9, ocfq_64, 0, opf9), (pp9, psg9, psm9, pfc9, pca9, ppa9, pl9, pcf9, ppl9, ppf9)) : MB) :: b9).length := by rw [hlm, List.length_append, List.length_append]; rfl
          obtain ⟨v_4, ev_4⟩ : ∃ y : Int32, y = i9 + (1) := ⟨_, rfl⟩
          refine lv_iinc (v := v_4) (lv' := [(4, Value.int v_4), (5, Value.ref a_2), (3, Value.int (nI 8)), (2, Value.ref ma), (1, Value.int fit), (0, Value.ref rc)]) hx hb d_RC_begin_67 hl (k := 1) rfl (by rw [ev_4]; rfl) (by decide) rfl (fun ls hl => ?_)
          refine lv_goto (tgt := 33) hx hb d_RC_begin_70 (by decide) ?_
          exact ih9_33 _ (by first | omega | (omega)) v_4 (ii + 1) (a9 ++ ((a_2, ka9, kl9, kf9, (oo9, (nI kl9), (nI (ns (les kl9 (Cx ((a_2, ka9, kl9, kf9, (oo9, nI kl9, osm9, 0, oca9, opa9, kl9, ocf9, 0, opf9), (pp9, psg9, psm9, pfc9, pca9, ppa9, pl9, pcf9, ppl9, ppf9)) : MB))) kl9)), 0, oca9, opa9, kl9, ocfq_64, 0, opf9), (pp9, psg9, psm9, pfc9, pca9, ppa9, pl9, pcf9, ppl9, ppf9)) : MB) :: b9) rfl (by rw [ev_4, hi9]; exact nI_1 _) (by omega) (hma2) (hmo2) (hbg2) (hlm2) H locs ls (hP.part [0, 1, 2, 3, 4] rfl) (hD.part [0, 1, 2, 3, 4] (by decide +kernel) rfl) hS (lv_sub hl [0, 2, 3, 4, 5] rfl)
  exact J_33 _ (0 : Int32) (0 : Nat) ms rfl (rfl) (by omega) (rfl) (hmk) (bg_0 ms) (rfl) H locs ls (hP.part [0, 1, 2, 3, 4] rfl) (hD.part [0, 1, 2, 3, 4] (by decide +kernel) rfl) hS (lv_sub hl [0, 1, 2, 3, 4] rfl)
end
section
set_option maxHeartbeats 2000000 in
set_option maxRecDepth 100000 in
theorem f_RC_begin_Stack (l : Launch) (dC : Nat → ClassId) (dI : Nat → Nat → Nat) (cI cM cO : ClassId) (sz : Nat) (rc : Nat) (ma : Nat) (fit : Int32) (fen : Int32) (frd : Int32) (fbd : Int32) (fir : Int32) (mf : Nat → Option Nat) (co : Nat) (xx : Int64) (xreadX : Int64) (soa : Nat) (sna : Nat) (swa : Nat) (xkept : Int32) (ri : Nat) (ro : Nat) (rw : Nat) (xasked : Int32) (ms : List MB) (hk8 : ms.length ≤ 8) (hmf : mfOk mf ms) (hmk : ∀ x ∈ ms, mbOk x) (hms : ∀ x ∈ ms, mOk_Stack x) : MetI l y_RC_begin (Cond.code y_RC_begin prog_1_method_7_code 6 (some .int) :: gw) ({ frames := 4, cells := 0, slots := 0, locals := 89 } : Room) (dC, dI) vwCl (kT cI cM cO) [Value.ref rc] ([(rc, Sum.inr (6, [Value.ref co, Value.ref ma, Value.int (nI ms.length), Value.int fit, Value.int fen, Value.int frd, Value.int fbd, Value.int fir])), (ma, Sum.inl (cM, 8, Sum.inr (Sum.inr (Sum.inr (Sum.inr mf))))), (co, Sum.inr (4, [Value.long xx, Value.long xreadX, Value.ref soa, Value.ref sna, Value.ref swa, Value.int xkept, Value.ref ri, Value.ref ro, Value.ref rw, Value.int xasked]))] ++ mbsC cI ms) sz (fun (r : Int32) (u : List MB) => u.map mbA = ms.map mbA ∧ (∀ x ∈ u, mbOk x) ∧ (∀ (i9 : Nat) (x9 y9 : MB), ms[i9]? = some x9 → u[i9]? = some y9 → nw_Stack x9 y9) ∧ ms.length = u.length ∧ r = fit) (fun (u : List MB) => ([(rc, Sum.inr (6, [Value.ref co, Value.ref ma, Value.int (nI ms.length), Value.int 0, Value.int 0, Value.int frd, Value.int fbd, Value.int fir])), (ma, Sum.inl (cM, 8, Sum.inr (Sum.inr (Sum.inr (Sum.inr mf))))), (co, Sum.inr (4, [Value.long xx, Value.long xreadX, Value.ref soa, Value.ref sna, Value.ref swa, Value.int 0, Value.ref ri, Value.ref ro, Value.ref rw, Value.int xasked]))] ++ mbsC cI u)) 0 0 := by
  refine my_ofI (cc := prog_1_method_7_code) (n := 6) (ret := (some .int)) (by decide) rfl (Nat.le_of_ble_eq_true rfl) ?_
  intro p e s m args below meth c R Q A ls H locs hx hb hr hts hown hlocks hml hnm hR hQ hA hl hP hK hN hD hS
  have hg : ∀ w ∈ gw, w.before args s = true := fun w h => hts w (List.mem_cons_of_mem _ h)
  have hown : s.vm.findClass "RangeCoders" = some m.cls := hown
  have hl : lv_has ls 6 [(0, Value.ref rc)] := hl
  refine lv_aload_n hx hb d_RC_begin_0 rfl (lv_at hl 0 rfl) ?_
  refine va_get (D := (dC, dI)) (ci := 6) (v := .int fit) (C := "RangeCoders") (T := T_RC) (N := 8) hx hb hg in_RC hown hK hP 0 rfl rfl 3 (by decide) (hg _ k261) (fun _ h9 => h9) rfl d_RC_begin_1 ?_
  refine lv_istore_n (lv' := [(1, Value.int fit), (0, Value.ref rc)]) hx hb d_RC_begin_4 rfl hl (by decide) rfl (fun ls hl => ?_)
  refine lv_aload_n hx hb d_RC_begin_5 rfl (lv_at hl 1 rfl) ?_
  refine lv_iconst (v := 0) hx hb d_RC_begin_6 (by decide) ?_
  refine va_put (D := (dC, dI)) (ci := 6) (v := .int 0) (ty := .int) (C := "RangeCoders") (T := T_RC) (N := 8) hx hb hg in_RC t_RC o_RC n_RC hown hK hP hD hS 0 rfl rfl 3 (by decide) (hg _ k261) (fun _ h9 => h9) rfl (o_RC 3 (by decide)) rfl rfl (Nat.le_of_ble_eq_true rfl) d_RC_begin_7 (fun H locs hP hD hS => ?_)
  have hPD : my_PD (dC, dI) vwCl A ([(rc, Sum.inr (6, [Value.ref co, Value.ref ma, Value.int (nI ms.length), Value.int 0, Value.int fen, Value.int frd, Value.int fbd, Value.int fir])), (ma, Sum.inl (cM, 8, Sum.inr (Sum.inr (Sum.inr (Sum.inr mf))))), (co, Sum.inr (4, [Value.long xx, Value.long xreadX, Value.ref soa, Value.ref sna, Value.ref swa, Value.int xkept, Value.ref ri, Value.ref ro, Value.ref rw, Value.int xasked]))] ++ mbsC cI ms) H := ⟨hP, hD⟩
  have hP := hPD.1
  have hD := hPD.2
  refine lv_aload_n hx hb d_RC_begin_10 rfl (lv_at hl 1 rfl) ?_
  refine lv_iconst (v := 0) hx hb d_RC_begin_11 (by decide) ?_
  refine va_put (D := (dC, dI)) (ci := 6) (v := .int 0) (ty := .boolean) (C := "RangeCoders") (T := T_RC) (N := 8) hx hb hg in_RC t_RC o_RC n_RC hown hK hP hD hS 0 rfl rfl 4 (by decide) (hg _ k262) (fun _ h9 => h9) rfl (o_RC 4 (by decide)) rfl rfl (Nat.le_of_ble_eq_true rfl) d_RC_begin_12 (fun H locs hP hD hS => ?_)
  have hPD : my_PD (dC, dI) vwCl A ([(rc, Sum.inr (6, [Value.ref co, Value.ref ma, Value.int (nI ms.length), Value.int 0, Value.int 0, Value.int frd, Value.int fbd, Value.int fir])), (ma, Sum.inl (cM, 8, Sum.inr (Sum.inr (Sum.inr (Sum.inr mf))))), (co, Sum.inr (4, [Value.long xx, Value.long xreadX, Value.ref soa, Value.ref sna, Value.ref swa, Value.int xkept, Value.ref ri, Value.ref ro, Value.ref rw, Value.int xasked]))] ++ mbsC cI ms) H := ⟨hP, hD⟩
  have hP := hPD.1
  have hD := hPD.2
  refine lv_aload_n hx hb d_RC_begin_15 rfl (lv_at hl 1 rfl) ?_
  refine va_get (D := (dC, dI)) (ci := 6) (v := .ref co) (C := "RangeCoders") (T := T_RC) (N := 8) hx hb hg in_RC hown hK hP 0 rfl rfl 0 (by decide) (hg _ k258) (fun _ h9 => h9) rfl d_RC_begin_16 ?_
  refine my_cvt (wr := [(rc, Sum.inr (6, [Value.ref co, Value.ref ma, Value.int (nI ms.length), Value.int 0, Value.int 0, Value.int frd, Value.int fbd, Value.int fir])), (ma, Sum.inl (cM, 8, Sum.inr (Sum.inr (Sum.inr (Sum.inr mf)))))]) (va_runU (As := []) (rest := []) ⟨hx, hb, hml, hown, hts⟩ (f_Stack_open l dC dI cI cM cO H.size co xx xreadX soa sna swa xkept ri ro rw xasked) (va_cwA 0 hts (my_gU k683 k685 k695 k696 k9 k697) rfl rfl rfl (hN.1 _ j684 rfl) (by decide +kernel) ⟨by rw [hR]; exact Nat.le_of_ble_eq_true rfl, by rw [hR]; exact Nat.le_of_ble_eq_true rfl⟩) (my_preV hK hN (my_subU hP [2] rfl) (my_dubT hD [2] (by decide +kernel) rfl) 0 rfl rfl) rfl rfl hl.1 rfl (lv_room (Nat.le_of_ble_eq_true rfl)) d_RC_begin_19 ⟨by rw [hR]; exact Nat.le_of_ble_eq_true rfl, by rw [hR]; exact Nat.le_of_ble_eq_true rfl⟩) hP hD hS hA [2] [0, 1] rfl rfl (by decide +kernel) (by decide +kernel) (fun u9 H locs hw_19 hP hD hS => ?_)
  have hPD : my_PD (dC, dI) vwCl A ([(rc, Sum.inr (6, [Value.ref co, Value.ref ma, Value.int (nI ms.length), Value.int 0, Value.int 0, Value.int frd, Value.int fbd, Value.int fir])), (ma, Sum.inl (cM, 8, Sum.inr (Sum.inr (Sum.inr (Sum.inr mf))))), (co, Sum.inr (4, [Value.long xx, Value.long xreadX, Value.ref soa, Value.ref sna, Value.ref swa, Value.int 0, Value.ref ri, Value.ref ro, Value.ref rw, Value.int xasked]))] ++ mbsC cI ms) H := ⟨hP, hD⟩
  have hP := hPD.1
  have hD := hPD.2
  refine lv_aload_n hx hb d_RC_begin_22 rfl (lv_at hl 1 rfl) ?_
  refine va_get (D := (dC, dI)) (ci := 6) (v := .ref ma) (C := "RangeCoders") (T := T_RC) (N := 8) hx hb hg in_RC hown hK hP 0 rfl rfl 1 (by decide) (hg _ k259) (fun _ h9 => h9) rfl d_RC_begin_23 ?_
  refine lv_astore_n (lv' := [(2, Value.ref ma), (1, Value.int fit), (0, Value.ref rc)]) hx hb d_RC_begin_26 rfl hl (by decide) rfl (fun ls hl => ?_)
  refine lv_aload_n hx hb d_RC_begin_27 rfl (lv_at hl 0 rfl) ?_
  refine va_alen hx hb hK hP 1 1 rfl rfl (v := nI 8) rfl d_RC_begin_28 ?_
  refine lv_istore_n (lv' := [(3, Value.int (nI 8)), (2, Value.ref ma), (1, Value.int fit), (0, Value.ref rc)]) hx hb d_RC_begin_29 rfl hl (by decide) rfl (fun ls hl => ?_)
  refine lv_iconst (v := 0) hx hb d_RC_begin_30 (by decide) ?_
  refine lv_istore (lv' := [(4, Value.int 0), (3, Value.int (nI 8)), (2, Value.ref ma), (1, Value.int fit), (0, Value.ref rc)]) hx hb d_RC_begin_31 hl (by decide) rfl (fun ls hl => ?_)
  have J_33 : ∀ (n9_33 : Nat) (i9 : Int32) (ii : Nat) (ms9 : List MB) (hn9_33 : 8 - ii = n9_33) (hi9 : i9 = nI ii) (hii : ii ≤ 8) (hma : ms9.map mbA = ms.map mbA) (hmo : ∀ x ∈ ms9, mbOk x) (hbg : bgI nw_Stack ms ms9 ii) (hlm : ms.length = ms9.length) (H : Heap) (locs : List Loc) (ls : Array Slot), va_P (dC, dI) vwCl ([(rc, Sum.inr (6, [Value.ref co, Value.ref ma, Value.int (nI ms.length), Value.int 0, Value.int 0, Value.int frd, Value.int fbd, Value.int fir])), (ma, Sum.inl (cM, 8, Sum.inr (Sum.inr (Sum.inr (Sum.inr mf))))), (co, Sum.inr (4, [Value.long xx, Value.long xreadX, Value.ref soa, Value.ref sna, Value.ref swa, Value.int 0, Value.ref ri, Value.ref ro, Value.ref rw, Value.int xasked]))] ++ mbsC cI ms9) H → va_D A ([(rc, Sum.inr (6, [Value.ref co, Value.ref ma, Value.int (nI ms.length), Value.int 0, Value.int 0, Value.int frd, Value.int fbd, Value.int fir])), (ma, Sum.inl (cM, 8, Sum.inr (Sum.inr (Sum.inr (Sum.inr mf))))), (co, Sum.inr (4, [Value.long xx, Value.long xreadX, Value.ref soa, Value.ref sna, Value.ref swa, Value.int 0, Value.ref ri, Value.ref ro, Value.ref rw, Value.int xasked]))] ++ mbsC cI ms9) → va_S A s.heap H locs → lv_has ls 6 [(4, Value.int i9), (3, Value.int (nI 8)), (2, Value.ref ma), (1, Value.int fit), (0, Value.ref rc)] → W p l e R s m args below meth c H locs 0 0 Q (F0 m 33 ls []) := by
    intro n9_33
    induction n9_33 using Nat.strongRecOn with
    | ind n9_33 ih9_33 =>
      intro i9 ii ms9 hn9_33 hi9 hii hma hmo hbg hlm H locs ls hP hD hS hl
      refine lv_iload hx hb d_RC_begin_33 (lv_at hl 0 rfl) ?_
      refine lv_iload_n hx hb d_RC_begin_35 rfl (lv_at hl 1 rfl) ?_
      refine lv_icmp_ge (tgt := 73) hx hb d_RC_begin_36 (by decide) (fun c_1 => ?_) (fun c_1 => ?_)
      · refine lv_iload_n hx hb d_RC_begin_73 rfl (lv_at hl 3 rfl) ?_
        exact my_iret (v := fit) hx hb hr (rfl) hlocks hQ hK hS (Nat.le_refl _) (Nat.le_refl _) (ms9) (⟨hma, hmo, bg_e (by rw [show (8 : Nat) = ii by have := nI_ge' (n := 8) (j := ii) (by omega) (by decide) (by rw [← hi9]; assumption); omega]; exact hbg) hk8, hlm, rfl⟩) (hP.part [0, 1, 2] rfl) (hD.part [0, 1, 2] (by decide +kernel) rfl) d_RC_begin_74
      · refine lv_aload_n hx hb d_RC_begin_39 rfl (lv_at hl 2 rfl) ?_
        refine lv_iload hx hb d_RC_begin_40 (lv_at hl 0 rfl) ?_
        have hi8 : ii < 8 := by
          rcases Nat.lt_or_ge ii 8 with z | z
          · exact z
          · exact absurd (by rw [hi9]; exact nI_le (a := 8) z (by omega)) c_1
        refine va_aldq hx hb hK hP 1 1 rfl rfl (by rw [hi9]; exact vp_in_nI hi8 (by decide)) d_RC_begin_42 ?_
        rcases hq_a_2 : mf i9.toNatClampNeg with _ | a_2
        · refine W.eq (g2 := F0 m 43 ls [Value.null]) rfl ?_
          have hmf9 := mf_keep hmf hma
          have hnil : ms.length ≤ ii := by
            rcases Nat.lt_or_ge ii ms9.length with z | z
            · obtain ⟨a9, x9, b9, e9, hla⟩ := mb_at z
              subst e9
              rw [hi9, nI_clamp (by omega), ← hla, mf_some hmf9 (by omega)] at hq_a_2; cases hq_a_2
            · rw [hlm]; exact z
          refine lv_astoreN (lv' := [(5, Value.null), (4, Value.int i9), (3, Value.int (nI 8)), (2, Value.ref ma), (1, Value.int fit), (0, Value.ref rc)]) hx hb d_RC_begin_43 hl (by decide) rfl (fun ls hl => ?_)
          refine lv_aloadN hx hb d_RC_begin_45 (lv_at hl 0 rfl) ?_
          refine lv_ifnullN (tgt := 67) hx hb d_RC_begin_47 (by decide) ?_
          obtain ⟨v_3, ev_3⟩ : ∃ y : Int32, y = i9 + (1) := ⟨_, rfl⟩
          refine lv_iinc (v := v_3) (lv' := [(4, Value.int v_3), (5, Value.null), (3, Value.int (nI 8)), (2, Value.ref ma), (1, Value.int fit), (0, Value.ref rc)]) hx hb d_RC_begin_67 hl (k := 1) rfl (by rw [ev_3]; rfl) (by decide) rfl (fun ls hl => ?_)
          refine lv_goto (tgt := 33) hx hb d_RC_begin_70 (by decide) ?_
          exact ih9_33 _ (by first | omega | (omega)) v_3 (ii + 1) ms9 rfl (by rw [ev_3, hi9]; exact nI_1 _) (by omega) (by assumption) (by assumption) (bg_no hbg (by rw [← hlm]; exact hnil)) (hlm) H locs ls (hP.part [0, 1, 2] rfl) (hD.part [0, 1, 2] (by decide +kernel) rfl) hS (lv_sub hl [0, 2, 3, 4, 5] rfl)
        · refine W.eq (g2 := F0 m 43 ls [Value.ref a_2]) rfl ?_
          have hmf9 := mf_keep hmf hma
          have hil : ii < ms9.length := by
            rcases Nat.lt_or_ge ii ms9.length with z | z
            · exact z
            · rw [hi9, nI_clamp (by omega), mf_none hmf9 hi8 z] at hq_a_2; cases hq_a_2
          obtain ⟨a9, x9, b9, e9, hla⟩ := mb_at hil
          subst e9
          obtain ⟨mo9, ka9, kl9, kf9, ⟨oo9, osg9, osm9, ofc9, oca9, opa9, ol9, ocf9, opl9, opf9⟩, ⟨pp9, psg9, psm9, pfc9, pca9, ppa9, pl9, pcf9, ppl9, ppf9⟩⟩ := x9
          have hax : a_2 = mo9 := by
            rw [hi9, nI_clamp (by omega), ← hla, mf_some hmf9 (by omega)] at hq_a_2
            exact (Option.some.inj hq_a_2).symm
          subst hax
          obtain ⟨hk64, ⟨ho1, ho2, ho3⟩, ⟨hp1, hp2, hp3⟩⟩ := ok_mid hmo
          have hP := pm_P hP (mb_out cI [(rc, Sum.inr (6, [Value.ref co, Value.ref ma, Value.int (nI ms.length), Value.int 0, Value.int 0, Value.int frd, Value.int fbd, Value.int fir])), (ma, Sum.inl (cM, 8, Sum.inr (Sum.inr (Sum.inr (Sum.inr mf))))), (co, Sum.inr (4, [Value.long xx, Value.long xreadX, Value.ref soa, Value.ref sna, Value.ref swa, Value.int 0, Value.ref ri, Value.ref ro, Value.ref rw, Value.int xasked]))] a9 b9 (a_2, ka9, kl9, kf9, (oo9, osg9, osm9, ofc9, oca9, opa9, ol9, ocf9, opl9, opf9), (pp9, psg9, psm9, pfc9, pca9, ppa9, pl9, pcf9, ppl9, ppf9)))
          have hD := pm_D hD (mb_out cI [(rc, Sum.inr (6, [Value.ref co, Value.ref ma, Value.int (nI ms.length), Value.int 0, Value.int 0, Value.int frd, Value.int fbd, Value.int fir])), (ma, Sum.inl (cM, 8, Sum.inr (Sum.inr (Sum.inr (Sum.inr mf))))), (co, Sum.inr (4, [Value.long xx, Value.long xreadX, Value.ref soa, Value.ref sna, Value.ref swa, Value.int 0, Value.ref ri, Value.ref ro, Value.ref rw, Value.int xasked]))] a9 b9 (a_2, ka9, kl9, kf9, (oo9, osg9, osm9, ofc9, oca9, opa9, ol9, ocf9, opl9, opf9), (pp9, psg9, psm9, pfc9, pca9, ppa9, pl9, pcf9, ppl9, ppf9)))
          have hPD : my_PD (dC, dI) vwCl A ([(rc, Sum.inr (6, [Value.ref co, Value.ref ma, Value.int (nI ms.length), Value.int 0, Value.int 0, Value.int frd, Value.int fbd, Value.int fir])), (ma, Sum.inl (cM, 8, Sum.inr (Sum.inr (Sum.inr (Sum.inr mf))))), (co, Sum.inr (4, [Value.long xx, Value.long xreadX, Value.ref soa, Value.ref sna, Value.ref swa, Value.int 0, Value.ref ri, Value.ref ro, Value.ref rw, Value.int xasked])), (a_2, Sum.inr (8, [Value.ref ka9, Value.ref oo9, Value.ref pp9])), (ka9, Sum.inl (cI, kl9, Sum.inl kf9)), (oo9, Sum.inr (7, [Value.int osg9, Value.int osm9, Value.int ofc9, Value.ref oca9, Value.ref opa9])), (oca9, Sum.inl (cI, ol9, Sum.inl ocf9)), (opa9, Sum.inl (cI, opl9, Sum.inl opf9)), (pp9, Sum.inr (7, [Value.int psg9, Value.int psm9, Value.int pfc9, Value.ref pca9, Value.ref ppa9])), (pca9, Sum.inl (cI, pl9, Sum.inl pcf9)), (ppa9, Sum.inl (cI, ppl9, Sum.inl ppf9))] ++ (mbsC cI a9 ++ mbsC cI b9)) H := ⟨hP, hD⟩
          have hP := hPD.1
          have hD := hPD.2
          rw [← hla] at hbg
          obtain ⟨hx1, hx2, ⟨hx3, hx4, hx5, hx6⟩, hx7, hx8⟩ := hms ((a_2, ka9, kl9, kf9, (oo9, osg9, osm9, ofc9, oca9, opa9, ol9, ocf9, opl9, opf9), (pp9, psg9, psm9, pfc9, pca9, ppa9, pl9, pcf9, ppl9, ppf9)) : MB) (List.mem_of_getElem? (bg_x hbg hlm))
          have hx3 : osg9 = nI kl9 := hx3
          skip
          subst hx3
          have hx4 : ofc9 = 0 := hx4
          skip
          subst hx4
          have hx5 : ol9 = kl9 := hx5
          have hx5 := hx5.symm
          subst hx5
          have hx6 : opl9 = 0 := hx6
          skip
          subst hx6
          have hPD : my_PD (dC, dI) vwCl A ([(rc, Sum.inr (6, [Value.ref co, Value.ref ma, Value.int (nI ms.length), Value.int 0, Value.int 0, Value.int frd, Value.int fbd, Value.int fir])), (ma, Sum.inl (cM, 8, Sum.inr (Sum.inr (Sum.inr (Sum.inr mf))))), (co, Sum.inr (4, [Value.long xx, Value.long xreadX, Value.ref soa, Value.ref sna, Value.ref swa, Value.int 0, Value.ref ri, Value.ref ro, Value.ref rw, Value.int xasked])), (a_2, Sum.inr (8, [Value.ref ka9, Value.ref oo9, Value.ref pp9])), (ka9, Sum.inl (cI, kl9, Sum.inl kf9)), (oo9, Sum.inr (7, [Value.int (nI kl9), Value.int osm9, Value.int 0, Value.ref oca9, Value.ref opa9])), (oca9, Sum.inl (cI, kl9, Sum.inl ocf9)), (opa9, Sum.inl (cI, 0, Sum.inl opf9)), (pp9, Sum.inr (7, [Value.int psg9, Value.int psm9, Value.int pfc9, Value.ref pca9, Value.ref ppa9])), (pca9, Sum.inl (cI, pl9, Sum.inl pcf9)), (ppa9, Sum.inl (cI, ppl9, Sum.inl ppf9))] ++ (mbsC cI a9 ++ mbsC cI b9)) H := ⟨hP, hD⟩
          have hP := hPD.1
          have hD := hPD.2
          refine lv_astore (lv' := [(5, Value.ref a_2), (4, Value.int i9), (3, Value.int (nI 8)), (2, Value.ref ma), (1, Value.int fit), (0, Value.ref rc)]) hx hb d_RC_begin_43 hl (by decide) rfl (fun ls hl => ?_)
          refine lv_aload hx hb d_RC_begin_45 (lv_at hl 0 rfl) ?_
          refine lv_ifnull hx hb d_RC_begin_47 ?_
          refine lv_aload_n hx hb d_RC_begin_50 rfl (lv_at hl 5 rfl) ?_
          refine va_get (D := (dC, dI)) (ci := 6) (v := .ref co) (C := "RangeCoders") (T := T_RC) (N := 8) hx hb hg in_RC hown hK hP 0 rfl rfl 0 (by decide) (hg _ k258) (fun _ h9 => h9) rfl d_RC_begin_51 ?_
          refine lv_aload hx hb d_RC_begin_54 (lv_at hl 0 rfl) ?_
          refine va_get (D := (dC, dI)) (ci := 8) (v := .ref oo9) (C := "RangeCoders$Model") (T := T_Model) (N := 3) hx hb hg in_Model hown hK hP 3 rfl rfl 1 (by decide) (hg _ k343) (fun _ h9 => h9) rfl d_RC_begin_56 ?_
          refine lv_aload hx hb d_RC_begin_59 (lv_at hl 0 rfl) ?_
          refine va_get (D := (dC, dI)) (ci := 8) (v := .ref ka9) (C := "RangeCoders$Model") (T := T_Model) (N := 3) hx hb hg in_Model hown hK hP 3 rfl rfl 0 (by decide) (hg _ k341) (fun _ h9 => h9) rfl d_RC_begin_61 ?_
          refine my_cvt (wr := [(rc, Sum.inr (6, [Value.ref co, Value.ref ma, Value.int (nI ms.length), Value.int 0, Value.int 0, Value.int frd, Value.int fbd, Value.int fir])), (ma, Sum.inl (cM, 8, Sum.inr (Sum.inr (Sum.inr (Sum.inr mf))))), (a_2, Sum.inr (8, [Value.ref ka9, Value.ref oo9, Value.ref pp9])), (pp9, Sum.inr (7, [Value.int psg9, Value.int psm9, Value.int pfc9, Value.ref pca9, Value.ref ppa9])), (pca9, Sum.inl (cI, pl9, Sum.inl pcf9)), (ppa9, Sum.inl (cI, ppl9, Sum.inl ppf9))]) (va_runU (As := [Value.ref oo9, Value.ref ka9]) (rest := []) ⟨hx, hb, hml, hown, hts⟩ (f_Stack_prepare l dC dI cI cM cO H.size co xx xreadX soa sna swa 0 ri ro rw xasked oo9 (nI kl9) 0 oca9 opa9 kl9 ocf9 0 opf9 osm9 ka9 kf9 (Cx ((a_2, ka9, kl9, kf9, (oo9, nI kl9, osm9, 0, oca9, opa9, kl9, ocf9, 0, opf9), (pp9, psg9, psm9, pfc9, pca9, ppa9, pl9, pcf9, ppl9, ppf9)) : MB)) (hx2) (by decide) (hx7) (hx8) (Nat.le_of_succ_le hx1) (rfl)) (va_cwA 2 hts (my_gU k353 k355 k380 k381 k10 k382) rfl rfl rfl (hN.1 _ j354 rfl) (by decide +kernel) ⟨by rw [hR]; exact Nat.le_of_ble_eq_true rfl, by rw [hR]; exact Nat.le_of_ble_eq_true rfl⟩) (my_preV hK hN (my_subU hP [2, 5, 6, 7, 4] rfl) (my_dubT hD [2, 5, 6, 7, 4] (by decide +kernel) rfl) 0 rfl rfl) rfl rfl hl.1 rfl (lv_room (Nat.le_of_ble_eq_true rfl)) d_RC_begin_64 ⟨by rw [hR]; exact Nat.le_of_ble_eq_true rfl, by rw [hR]; exact Nat.le_of_ble_eq_true rfl⟩) hP hD hS hA [2, 5, 6, 7, 4] [0, 1, 3, 8, 9, 10] rfl rfl (by decide +kernel) (by decide +kernel) (fun u9 H locs hw_64 hP hD hS => ?_)
          obtain ⟨ocfq_64, rfl⟩ : ∃ z, z = u9 := ⟨_, rfl⟩
          have hf_64 : tbI ocfq_64 kl9 (sc kl9 4096 (Cx ((a_2, ka9, kl9, kf9, (oo9, nI kl9, osm9, 0, oca9, opa9, kl9, ocf9, 0, opf9), (pp9, psg9, psm9, pfc9, pca9, ppa9, pl9, pcf9, ppl9, ppf9)) : MB))) := hw_64
          have hPD : my_PD (dC, dI) vwCl A ([(rc, Sum.inr (6, [Value.ref co, Value.ref ma, Value.int (nI ms.length), Value.int 0, Value.int 0, Value.int frd, Value.int fbd, Value.int fir])), (ma, Sum.inl (cM, 8, Sum.inr (Sum.inr (Sum.inr (Sum.inr mf))))), (a_2, Sum.inr (8, [Value.ref ka9, Value.ref oo9, Value.ref pp9])), (pp9, Sum.inr (7, [Value.int psg9, Value.int psm9, Value.int pfc9, Value.ref pca9, Value.ref ppa9])), (pca9, Sum.inl (cI, pl9, Sum.inl pcf9)), (ppa9, Sum.inl (cI, ppl9, Sum.inl ppf9)), (co, Sum.inr (4, [Value.long xx, Value.long xreadX, Value.ref soa, Value.ref sna, Value.ref swa, Value.int 0, Value.ref ri, Value.ref ro, Value.ref rw, Value.int xasked])), (oo9, Sum.inr (7, [Value.int (nI kl9), Value.int (nI (ns (sc kl9 4096 (Cx ((a_2, ka9, kl9, kf9, (oo9, nI kl9, osm9, 0, oca9, opa9, kl9, ocf9, 0, opf9), (pp9, psg9, psm9, pfc9, pca9, ppa9, pl9, pcf9, ppl9, ppf9)) : MB))) kl9)), Value.int 0, Value.ref oca9, Value.ref opa9])), (oca9, Sum.inl (cI, kl9, Sum.inl ocfq_64)), (opa9, Sum.inl (cI, 0, Sum.inl opf9)), (ka9, Sum.inl (cI, kl9, Sum.inl kf9))] ++ (mbsC cI a9 ++ mbsC cI b9)) H := ⟨hP, hD⟩
          have hP := hPD.1
          have hD := hPD.2
          have hP := pm_P (hP.part [0, 1, 6, 2, 10, 7, 8, 9, 3, 4, 5] rfl : va_P (dC, dI) vwCl ([(rc, Sum.inr (6, [Value.ref co, Value.ref ma, Value.int (nI ms.length), Value.int 0, Value.int 0, Value.int frd, Value.int fbd, Value.int fir])), (ma, Sum.inl (cM, 8, Sum.inr (Sum.inr (Sum.inr (Sum.inr mf))))), (co, Sum.inr (4, [Value.long xx, Value.long xreadX, Value.ref soa, Value.ref sna, Value.ref swa, Value.int 0, Value.ref ri, Value.ref ro, Value.ref rw, Value.int xasked])), (a_2, Sum.inr (8, [Value.ref ka9, Value.ref oo9, Value.ref pp9])), (ka9, Sum.inl (cI, kl9, Sum.inl kf9)), (oo9, Sum.inr (7, [Value.int (nI kl9), Value.int (nI (ns (sc kl9 4096 (Cx ((a_2, ka9, kl9, kf9, (oo9, nI kl9, osm9, 0, oca9, opa9, kl9, ocf9, 0, opf9), (pp9, psg9, psm9, pfc9, pca9, ppa9, pl9, pcf9, ppl9, ppf9)) : MB))) kl9)), Value.int 0, Value.ref oca9, Value.ref opa9])), (oca9, Sum.inl (cI, kl9, Sum.inl ocfq_64)), (opa9, Sum.inl (cI, 0, Sum.inl opf9)), (pp9, Sum.inr (7, [Value.int psg9, Value.int psm9, Value.int pfc9, Value.ref pca9, Value.ref ppa9])), (pca9, Sum.inl (cI, pl9, Sum.inl pcf9)), (ppa9, Sum.inl (cI, ppl9, Sum.inl ppf9))] ++ (mbsC cI a9 ++ mbsC cI b9)) H) (mb_out cI [(rc, Sum.inr (6, [Value.ref co, Value.ref ma, Value.int (nI ms.length), Value.int 0, Value.int 0, Value.int frd, Value.int fbd, Value.int fir])), (ma, Sum.inl (cM, 8, Sum.inr (Sum.inr (Sum.inr (Sum.inr mf))))), (co, Sum.inr (4, [Value.long xx, Value.long xreadX, Value.ref soa, Value.ref sna, Value.ref swa, Value.int 0, Value.ref ri, Value.ref ro, Value.ref rw, Value.int xasked]))] a9 b9 ((a_2, ka9, kl9, kf9, (oo9, (nI kl9), (nI (ns (sc kl9 4096 (Cx ((a_2, ka9, kl9, kf9, (oo9, nI kl9, osm9, 0, oca9, opa9, kl9, ocf9, 0, opf9), (pp9, psg9, psm9, pfc9, pca9, ppa9, pl9, pcf9, ppl9, ppf9)) : MB))) kl9)), 0, oca9, opa9, kl9, ocfq_64, 0, opf9), (pp9, psg9, psm9, pfc9, pca9, ppa9, pl9, pcf9, ppl9, ppf9)) : MB)).symm
          have hD := pm_D (hD.part [0, 1, 6, 2, 10, 7, 8, 9, 3, 4, 5] (by decide +kernel) rfl : va_D A ([(rc, Sum.inr (6, [Value.ref co, Value.ref ma, Value.int (nI ms.length), Value.int 0, Value.int 0, Value.int frd, Value.int fbd, Value.int fir])), (ma, Sum.inl (cM, 8, Sum.inr (Sum.inr (Sum.inr (Sum.inr mf))))), (co, Sum.inr (4, [Value.long xx, Value.long xreadX, Value.ref soa, Value.ref sna, Value.ref swa, Value.int 0, Value.ref ri, Value.ref ro, Value.ref rw, Value.int xasked])), (a_2, Sum.inr (8, [Value.ref ka9, Value.ref oo9, Value.ref pp9])), (ka9, Sum.inl (cI, kl9, Sum.inl kf9)), (oo9, Sum.inr (7, [Value.int (nI kl9), Value.int (nI (ns (sc kl9 4096 (Cx ((a_2, ka9, kl9, kf9, (oo9, nI kl9, osm9, 0, oca9, opa9, kl9, ocf9, 0, opf9), (pp9, psg9, psm9, pfc9, pca9, ppa9, pl9, pcf9, ppl9, ppf9)) : MB))) kl9)), Value.int 0, Value.ref oca9, Value.ref opa9])), (oca9, Sum.inl (cI, kl9, Sum.inl ocfq_64)), (opa9, Sum.inl (cI, 0, Sum.inl opf9)), (pp9, Sum.inr (7, [Value.int psg9, Value.int psm9, Value.int pfc9, Value.ref pca9, Value.ref ppa9])), (pca9, Sum.inl (cI, pl9, Sum.inl pcf9)), (ppa9, Sum.inl (cI, ppl9, Sum.inl ppf9))] ++ (mbsC cI a9 ++ mbsC cI b9))) (mb_out cI [(rc, Sum.inr (6, [Value.ref co, Value.ref ma, Value.int (nI ms.length), Value.int 0, Value.int 0, Value.int frd, Value.int fbd, Value.int fir])), (ma, Sum.inl (cM, 8, Sum.inr (Sum.inr (Sum.inr (Sum.inr mf))))), (co, Sum.inr (4, [Value.long xx, Value.long xreadX, Value.ref soa, Value.ref sna, Value.ref swa, Value.int 0, Value.ref ri, Value.ref ro, Value.ref rw, Value.int xasked]))] a9 b9 ((a_2, ka9, kl9, kf9, (oo9, (nI kl9), (nI (ns (sc kl9 4096 (Cx ((a_2, ka9, kl9, kf9, (oo9, nI kl9, osm9, 0, oca9, opa9, kl9, ocf9, 0, opf9), (pp9, psg9, psm9, pfc9, pca9, ppa9, pl9, pcf9, ppl9, ppf9)) : MB))) kl9)), 0, oca9, opa9, kl9, ocfq_64, 0, opf9), (pp9, psg9, psm9, pfc9, pca9, ppa9, pl9, pcf9, ppl9, ppf9)) : MB)).symm
          have hma2 : (a9 ++ ((a_2, ka9, kl9, kf9, (oo9, (nI kl9), (nI (ns (sc kl9 4096 (Cx ((a_2, ka9, kl9, kf9, (oo9, nI kl9, osm9, 0, oca9, opa9, kl9, ocf9, 0, opf9), (pp9, psg9, psm9, pfc9, pca9, ppa9, pl9, pcf9, ppl9, ppf9)) : MB))) kl9)), 0, oca9, opa9, kl9, ocfq_64, 0, opf9), (pp9, psg9, psm9, pfc9, pca9, ppa9, pl9, pcf9, ppl9, ppf9)) : MB) :: b9).map mbA = ms.map mbA := by refine (mb_set (f := mbA) ?_).trans hma; rfl
          have hmo2 : ∀ x ∈ a9 ++ ((a_2, ka9, kl9, kf9, (oo9, (nI kl9), (nI (ns (sc kl9 4096 (Cx ((a_2, ka9, kl9, kf9, (oo9, nI kl9, osm9, 0, oca9, opa9, kl9, ocf9, 0, opf9), (pp9, psg9, psm9, pfc9, pca9, ppa9, pl9, pcf9, ppl9, ppf9)) : MB))) kl9)), 0, oca9, opa9, kl9, ocfq_64, 0, opf9), (pp9, psg9, psm9, pfc9, pca9, ppa9, pl9, pcf9, ppl9, ppf9)) : MB) :: b9, mbOk x := ok_set hmo ⟨hk64, ⟨ho1, ho2, ho3⟩, ⟨hp1, hp2, hp3⟩⟩
          have hPD : my_PD (dC, dI) vwCl A ([(rc, Sum.inr (6, [Value.ref co, Value.ref ma, Value.int (nI ms.length), Value.int 0, Value.int 0, Value.int frd, Value.int fbd, Value.int fir])), (ma, Sum.inl (cM, 8, Sum.inr (Sum.inr (Sum.inr (Sum.inr mf))))), (co, Sum.inr (4, [Value.long xx, Value.long xreadX, Value.ref soa, Value.ref sna, Value.ref swa, Value.int 0, Value.ref ri, Value.ref ro, Value.ref rw, Value.int xasked]))] ++ mbsC cI (a9 ++ ((a_2, ka9, kl9, kf9, (oo9, (nI kl9), (nI (ns (sc kl9 4096 (Cx ((a_2, ka9, kl9, kf9, (oo9, nI kl9, osm9, 0, oca9, opa9, kl9, ocf9, 0, opf9), (pp9, psg9, psm9, pfc9, pca9, ppa9, pl9, pcf9, ppl9, ppf9)) : MB))) kl9)), 0, oca9, opa9, kl9, ocfq_64, 0, opf9), (pp9, psg9, psm9, pfc9, pca9, ppa9, pl9, pcf9, ppl9, ppf9)) : MB) :: b9)) H := ⟨hP, hD⟩
          have hP := hPD.1
          have hD := hPD.2
          have hbg2 : bgI nw_Stack ms (a9 ++ ((a_2, ka9, kl9, kf9, (oo9, (nI kl9), (nI (ns (sc kl9 4096 (Cx ((a_2, ka9, kl9, kf9, (oo9, nI kl9, osm9, 0, oca9, opa9, kl9, ocf9, 0, opf9), (pp9, psg9, psm9, pfc9, pca9, ppa9, pl9, pcf9, ppl9, ppf9)) : MB))) kl9)), 0, oca9, opa9, kl9, ocfq_64, 0, opf9), (pp9, psg9, psm9, pfc9, pca9, ppa9, pl9, pcf9, ppl9, ppf9)) : MB) :: b9) (a9.length + 1) := bg_st hbg hlm ⟨rfl, rfl, rfl, ⟨rfl, rfl, rfl, rfl⟩, ⟨hf_64, rfl⟩⟩
          rw [hla] at hbg2
          have hlm2 : ms.length = (a9 ++ ((a_2, ka9, kl9, kf9, (oo9, (nI kl9), (nI (ns (sc kl9 4096 (Cx ((a_2, ka9, kl9, kf9, (oo9, nI kl9, osm9, 0, oca9, opa9, kl9, ocf9, 0, opf9), (pp9, psg9, psm9, pfc9, pca9, ppa9, pl9, pcf9, ppl9, ppf9)) : MB))) kl9)), 0, oca9, opa9, kl9, ocfq_64, 0, opf9), (pp9, psg9, psm9, pfc9, pca9, ppa9, pl9, pcf9, ppl9, ppf9)) : MB) :: b9).length := by rw [hlm, List.length_append, List.length_append]; rfl
          obtain ⟨v_4, ev_4⟩ : ∃ y : Int32, y = i9 + (1) := ⟨_, rfl⟩
          refine lv_iinc (v := v_4) (lv' := [(4, Value.int v_4), (5, Value.ref a_2), (3, Value.int (nI 8)), (2, Value.ref ma), (1, Value.int fit), (0, Value.ref rc)]) hx hb d_RC_begin_67 hl (k := 1) rfl (by rw [ev_4]; rfl) (by decide) rfl (fun ls hl => ?_)
          refine lv_goto (tgt := 33) hx hb d_RC_begin_70 (by decide) ?_
          exact ih9_33 _ (by first | omega | (omega)) v_4 (ii + 1) (a9 ++ ((a_2, ka9, kl9, kf9, (oo9, (nI kl9), (nI (ns (sc kl9 4096 (Cx ((a_2, ka9, kl9, kf9, (oo9, nI kl9, osm9, 0, oca9, opa9, kl9, ocf9, 0, opf9), (pp9, psg9, psm9, pfc9, pca9, ppa9, pl9, pcf9, ppl9, ppf9)) : MB))) kl9)), 0, oca9, opa9, kl9, ocfq_64, 0, opf9), (pp9, psg9, psm9, pfc9, pca9, ppa9, pl9, pcf9, ppl9, ppf9)) : MB) :: b9) rfl (by rw [ev_4, hi9]; exact nI_1 _) (by omega) (hma2) (hmo2) (hbg2) (hlm2) H locs ls (hP.part [0, 1, 2] rfl) (hD.part [0, 1, 2] (by decide +kernel) rfl) hS (lv_sub hl [0, 2, 3, 4, 5] rfl)
  exact J_33 _ (0 : Int32) (0 : Nat) ms rfl (rfl) (by omega) (rfl) (hmk) (bg_0 ms) (rfl) H locs ls (hP.part [0, 1, 2] rfl) (hD.part [0, 1, 2] (by decide +kernel) rfl) hS (lv_sub hl [0, 1, 2, 3, 4] rfl)
end
section
set_option maxHeartbeats 2000000 in
set_option maxRecDepth 100000 in
theorem f_RC_begin_Table (l : Launch) (dC : Nat → ClassId) (dI : Nat → Nat → Nat) (cI cM cO : ClassId) (sz : Nat) (rc : Nat) (ma : Nat) (fit : Int32) (fen : Int32) (frd : Int32) (fbd : Int32) (fir : Int32) (mf : Nat → Option Nat) (co : Nat) (xx : Int64) (xreadX : Int64) (soa : Nat) (sna : Nat) (swa : Nat) (xkept : Int32) (ri : Nat) (ro : Nat) (rw : Nat) (xasked : Int32) (ms : List MB) (hk8 : ms.length ≤ 8) (hmf : mfOk mf ms) (hmk : ∀ x ∈ ms, mbOk x) (hms : ∀ x ∈ ms, mOk_Table x) : MetI l y_RC_begin (Cond.code y_RC_begin prog_1_method_7_code 6 (some .int) :: gw) ({ frames := 4, cells := 0, slots := 0, locals := 89 } : Room) (dC, dI) vwCl (kT cI cM cO) [Value.ref rc] ([(rc, Sum.inr (6, [Value.ref co, Value.ref ma, Value.int (nI ms.length), Value.int fit, Value.int fen, Value.int frd, Value.int fbd, Value.int fir])), (ma, Sum.inl (cM, 8, Sum.inr (Sum.inr (Sum.inr (Sum.inr mf))))), (co, Sum.inr (5, [Value.long xx, Value.long xreadX, Value.ref soa, Value.ref sna, Value.ref swa, Value.int xkept, Value.ref ri, Value.ref ro, Value.ref rw, Value.int xasked]))] ++ mbsC cI ms) sz (fun (r : Int32) (u : List MB) => u.map mbA = ms.map mbA ∧ (∀ x ∈ u, mbOk x) ∧ (∀ (i9 : Nat) (x9 y9 : MB), ms[i9]? = some x9 → u[i9]? = some y9 → nw_Table x9 y9) ∧ ms.length = u.length ∧ r = fit) (fun (u : List MB) => ([(rc, Sum.inr (6, [Value.ref co, Value.ref ma, Value.int (nI ms.length), Value.int 0, Value.int 0, Value.int frd, Value.int fbd, Value.int fir])), (ma, Sum.inl (cM, 8, Sum.inr (Sum.inr (Sum.inr (Sum.inr mf))))), (co, Sum.inr (5, [Value.long xx, Value.long xreadX, Value.ref soa, Value.ref sna, Value.ref swa, Value.int 0, Value.ref ri, Value.ref ro, Value.ref rw, Value.int xasked]))] ++ mbsC cI u)) 0 0 := by
  refine my_ofI (cc := prog_1_method_7_code) (n := 6) (ret := (some .int)) (by decide) rfl (Nat.le_of_ble_eq_true rfl) ?_
  intro p e s m args below meth c R Q A ls H locs hx hb hr hts hown hlocks hml hnm hR hQ hA hl hP hK hN hD hS
  have hg : ∀ w ∈ gw, w.before args s = true := fun w h => hts w (List.mem_cons_of_mem _ h)
  have hown : s.vm.findClass "RangeCoders" = some m.cls := hown
  have hl : lv_has ls 6 [(0, Value.ref rc)] := hl
  refine lv_aload_n hx hb d_RC_begin_0 rfl (lv_at hl 0 rfl) ?_
  refine va_get (D := (dC, dI)) (ci := 6) (v := .int fit) (C := "RangeCoders") (T := T_RC) (N := 8) hx hb hg in_RC hown hK hP 0 rfl rfl 3 (by decide) (hg _ k261) (fun _ h9 => h9) rfl d_RC_begin_1 ?_
  refine lv_istore_n (lv' := [(1, Value.int fit), (0, Value.ref rc)]) hx hb d_RC_begin_4 rfl hl (by decide) rfl (fun ls hl => ?_)
  refine lv_aload_n hx hb d_RC_begin_5 rfl (lv_at hl 1 rfl) ?_
  refine lv_iconst (v := 0) hx hb d_RC_begin_6 (by decide) ?_
  refine va_put (D := (dC, dI)) (ci := 6) (v := .int 0) (ty := .int) (C := "RangeCoders") (T := T_RC) (N := 8) hx hb hg in_RC t_RC o_RC n_RC hown hK hP hD hS 0 rfl rfl 3 (by decide) (hg _ k261) (fun _ h9 => h9) rfl (o_RC 3 (by decide)) rfl rfl (Nat.le_of_ble_eq_true rfl) d_RC_begin_7 (fun H locs hP hD hS => ?_)
  have hPD : my_PD (dC, dI) vwCl A ([(rc, Sum.inr (6, [Value.ref co, Value.ref ma, Value.int (nI ms.length), Value.int 0, Value.int fen, Value.int frd, Value.int fbd, Value.int fir])), (ma, Sum.inl (cM, 8, Sum.inr (Sum.inr (Sum.inr (Sum.inr mf))))), (co, Sum.inr (5, [Value.long xx, Value.long xreadX, Value.ref soa, Value.ref sna, Value.ref swa, Value.int xkept, Value.ref ri, Value.ref ro, Value.ref rw, Value.int xasked]))] ++ mbsC cI ms) H := ⟨hP, hD⟩
  have hP := hPD.1
  have hD := hPD.2
  refine lv_aload_n hx hb d_RC_begin_10 rfl (lv_at hl 1 rfl) ?_
  refine lv_iconst (v := 0) hx hb d_RC_begin_11 (by decide) ?_
  refine va_put (D := (dC, dI)) (ci := 6) (v := .int 0) (ty := .boolean) (C := "RangeCoders") (T := T_RC) (N := 8) hx hb hg in_RC t_RC o_RC n_RC hown hK hP hD hS 0 rfl rfl 4 (by decide) (hg _ k262) (fun _ h9 => h9) rfl (o_RC 4 (by decide)) rfl rfl (Nat.le_of_ble_eq_true rfl) d_RC_begin_12 (fun H locs hP hD hS => ?_)
  have hPD : my_PD (dC, dI) vwCl A ([(rc, Sum.inr (6, [Value.ref co, Value.ref ma, Value.int (nI ms.length), Value.int 0, Value.int 0, Value.int frd, Value.int fbd, Value.int fir])), (ma, Sum.inl (cM, 8, Sum.inr (Sum.inr (Sum.inr (Sum.inr mf))))), (co, Sum.inr (5, [Value.long xx, Value.long xreadX, Value.ref soa, Value.ref sna, Value.ref swa, Value.int xkept, Value.ref ri, Value.ref ro, Value.ref rw, Value.int xasked]))] ++ mbsC cI ms) H := ⟨hP, hD⟩
  have hP := hPD.1
  have hD := hPD.2
  refine lv_aload_n hx hb d_RC_begin_15 rfl (lv_at hl 1 rfl) ?_
  refine va_get (D := (dC, dI)) (ci := 6) (v := .ref co) (C := "RangeCoders") (T := T_RC) (N := 8) hx hb hg in_RC hown hK hP 0 rfl rfl 0 (by decide) (hg _ k258) (fun _ h9 => h9) rfl d_RC_begin_16 ?_
  refine my_cvt (wr := [(rc, Sum.inr (6, [Value.ref co, Value.ref ma, Value.int (nI ms.length), Value.int 0, Value.int 0, Value.int frd, Value.int fbd, Value.int fir])), (ma, Sum.inl (cM, 8, Sum.inr (Sum.inr (Sum.inr (Sum.inr mf)))))]) (va_runU (As := []) (rest := []) ⟨hx, hb, hml, hown, hts⟩ (f_Table_open l dC dI cI cM cO H.size co xx xreadX soa sna swa xkept ri ro rw xasked) (va_cwA 0 hts (my_gU k683 k685 k698 k696 k9 k697) rfl rfl rfl (hN.1 _ j684 rfl) (by decide +kernel) ⟨by rw [hR]; exact Nat.le_of_ble_eq_true rfl, by rw [hR]; exact Nat.le_of_ble_eq_true rfl⟩) (my_preV hK hN (my_subU hP [2] rfl) (my_dubT hD [2] (by decide +kernel) rfl) 0 rfl rfl) rfl rfl hl.1 rfl (lv_room (Nat.le_of_ble_eq_true rfl)) d_RC_begin_19 ⟨by rw [hR]; exact Nat.le_of_ble_eq_true rfl, by rw [hR]; exact Nat.le_of_ble_eq_true rfl⟩) hP hD hS hA [2] [0, 1] rfl rfl (by decide +kernel) (by decide +kernel) (fun u9 H locs hw_19 hP hD hS => ?_)
  have hPD : my_PD (dC, dI) vwCl A ([(rc, Sum.inr (6, [Value.ref co, Value.ref ma, Value.int (nI ms.length), Value.int 0, Value.int 0, Value.int frd, Value.int fbd, Value.int fir])), (ma, Sum.inl (cM, 8, Sum.inr (Sum.inr (Sum.inr (Sum.inr mf))))), (co, Sum.inr (5, [Value.long xx, Value.long xreadX, Value.ref soa, Value.ref sna, Value.ref swa, Value.int 0, Value.ref ri, Value.ref ro, Value.ref rw, Value.int xasked]))] ++ mbsC cI ms) H := ⟨hP, hD⟩
  have hP := hPD.1
  have hD := hPD.2
  refine lv_aload_n hx hb d_RC_begin_22 rfl (lv_at hl 1 rfl) ?_
  refine va_get (D := (dC, dI)) (ci := 6) (v := .ref ma) (C := "RangeCoders") (T := T_RC) (N := 8) hx hb hg in_RC hown hK hP 0 rfl rfl 1 (by decide) (hg _ k259) (fun _ h9 => h9) rfl d_RC_begin_23 ?_
  refine lv_astore_n (lv' := [(2, Value.ref ma), (1, Value.int fit), (0, Value.ref rc)]) hx hb d_RC_begin_26 rfl hl (by decide) rfl (fun ls hl => ?_)
  refine lv_aload_n hx hb d_RC_begin_27 rfl (lv_at hl 0 rfl) ?_
  refine va_alen hx hb hK hP 1 1 rfl rfl (v := nI 8) rfl d_RC_begin_28 ?_
  refine lv_istore_n (lv' := [(3, Value.int (nI 8)), (2, Value.ref ma), (1, Value.int fit), (0, Value.ref rc)]) hx hb d_RC_begin_29 rfl hl (by decide) rfl (fun ls hl => ?_)
  refine lv_iconst (v := 0) hx hb d_RC_begin_30 (by decide) ?_
  refine lv_istore (lv' := [(4, Value.int 0), (3, Value.int (nI 8)), (2, Value.ref ma), (1, Value.int fit), (0, Value.ref rc)]) hx hb d_RC_begin_31 hl (by decide) rfl (fun ls hl => ?_)
  have J_33 : ∀ (n9_33 : Nat) (i9 : Int32) (ii : Nat) (ms9 : List MB) (hn9_33 : 8 - ii = n9_33) (hi9 : i9 = nI ii) (hii : ii ≤ 8) (hma : ms9.map mbA = ms.map mbA) (hmo : ∀ x ∈ ms9, mbOk x) (hbg : bgI nw_Table ms ms9 ii) (hlm : ms.length = ms9.length) (H : Heap) (locs : List Loc) (ls : Array Slot), va_P (dC, dI) vwCl ([(rc, Sum.inr (6, [Value.ref co, Value.ref ma, Value.int (nI ms.length), Value.int 0, Value.int 0, Value.int frd, Value.int fbd, Value.int fir])), (ma, Sum.inl (cM, 8, Sum.inr (Sum.inr (Sum.inr (Sum.inr mf))))), (co, Sum.inr (5, [Value.long xx, Value.long xreadX, Value.ref soa, Value.ref sna, Value.ref swa, Value.int 0, Value.ref ri, Value.ref ro, Value.ref rw, Value.int xasked]))] ++ mbsC cI ms9) H → va_D A ([(rc, Sum.inr (6, [Value.ref co, Value.ref ma, Value.int (nI ms.length), Value.int 0, Value.int 0, Value.int frd, Value.int fbd, Value.int fir])), (ma, Sum.inl (cM, 8, Sum.inr (Sum.inr (Sum.inr (Sum.inr mf))))), (co, Sum.inr (5, [Value.long xx, Value.long xreadX, Value.ref soa, Value.ref sna, Value.ref swa, Value.int 0, Value.ref ri, Value.ref ro, Value.ref rw, Value.int xasked]))] ++ mbsC cI ms9) → va_S A s.heap H locs → lv_has ls 6 [(4, Value.int i9), (3, Value.int (nI 8)), (2, Value.ref ma), (1, Value.int fit), (0, Value.ref rc)] → W p l e R s m args below meth c H locs 0 0 Q (F0 m 33 ls []) := by
    intro n9_33
    induction n9_33 using Nat.strongRecOn with
    | ind n9_33 ih9_33 =>
      intro i9 ii ms9 hn9_33 hi9 hii hma hmo hbg hlm H locs ls hP hD hS hl
      refine lv_iload hx hb d_RC_begin_33 (lv_at hl 0 rfl) ?_
      refine lv_iload_n hx hb d_RC_begin_35 rfl (lv_at hl 1 rfl) ?_
      refine lv_icmp_ge (tgt := 73) hx hb d_RC_begin_36 (by decide) (fun c_1 => ?_) (fun c_1 => ?_)
      · refine lv_iload_n hx hb d_RC_begin_73 rfl (lv_at hl 3 rfl) ?_
        exact my_iret (v := fit) hx hb hr (rfl) hlocks hQ hK hS (Nat.le_refl _) (Nat.le_refl _) (ms9) (⟨hma, hmo, bg_e (by rw [show (8 : Nat) = ii by have := nI_ge' (n := 8) (j := ii) (by omega) (by decide) (by rw [← hi9]; assumption); omega]; exact hbg) hk8, hlm, rfl⟩) (hP.part [0, 1, 2] rfl) (hD.part [0, 1, 2] (by decide +kernel) rfl) d_RC_begin_74
      · refine lv_aload_n hx hb d_RC_begin_39 rfl (lv_at hl 2 rfl) ?_
        refine lv_iload hx hb d_RC_begin_40 (lv_at hl 0 rfl) ?_
        have hi8 : ii < 8 := by
          rcases Nat.lt_or_ge ii 8 with z | z
          · exact z
          · exact absurd (by rw [hi9]; exact nI_le (a := 8) z (by omega)) c_1
        refine va_aldq hx hb hK hP 1 1 rfl rfl (by rw [hi9]; exact vp_in_nI hi8 (by decide)) d_RC_begin_42 ?_
        rcases hq_a_2 : mf i9.toNatClampNeg with _ | a_2
        · refine W.eq (g2 := F0 m 43 ls [Value.null]) rfl ?_
          have hmf9 := mf_keep hmf hma
          have hnil : ms.length ≤ ii := by
            rcases Nat.lt_or_ge ii ms9.length with z | z
            · obtain ⟨a9, x9, b9, e9, hla⟩ := mb_at z
              subst e9
              rw [hi9, nI_clamp (by omega), ← hla, mf_some hmf9 (by omega)] at hq_a_2; cases hq_a_2
            · rw [hlm]; exact z
          refine lv_astoreN (lv' := [(5, Value.null), (4, Value.int i9), (3, Value.int (nI 8)), (2, Value.ref ma), (1, Value.int fit), (0, Value.ref rc)]) hx hb d_RC_begin_43 hl (by decide) rfl (fun ls hl => ?_)
          refine lv_aloadN hx hb d_RC_begin_45 (lv_at hl 0 rfl) ?_
          refine lv_ifnullN (tgt := 67) hx hb d_RC_begin_47 (by decide) ?_
          obtain ⟨v_3, ev_3⟩ : ∃ y : Int32, y = i9 + (1) := ⟨_, rfl⟩
          refine lv_iinc (v := v_3) (lv' := [(4, Value.int v_3), (5, Value.null), (3, Value.int (nI 8)), (2, Value.ref ma), (1, Value.int fit), (0, Value.ref rc)]) hx hb d_RC_begin_67 hl (k := 1) rfl (by rw [ev_3]; rfl) (by decide) rfl (fun ls hl => ?_)
          refine lv_goto (tgt := 33) hx hb d_RC_begin_70 (by decide) ?_
          exact ih9_33 _ (by first | omega | (omega)) v_3 (ii + 1) ms9 rfl (by rw [ev_3, hi9]; exact nI_1 _) (by omega) (by assumption) (by assumption) (bg_no hbg (by rw [← hlm]; exact hnil)) (hlm) H locs ls (hP.part [0, 1, 2] rfl) (hD.part [0, 1, 2] (by decide +kernel) rfl) hS (lv_sub hl [0, 2, 3, 4, 5] rfl)
        · refine W.eq (g2 := F0 m 43 ls [Value.ref a_2]) rfl ?_
          have hmf9 := mf_keep hmf hma
          have hil : ii < ms9.length := by
            rcases Nat.lt_or_ge ii ms9.length with z | z
            · exact z
            · rw [hi9, nI_clamp (by omega), mf_none hmf9 hi8 z] at hq_a_2; cases hq_a_2
          obtain ⟨a9, x9, b9, e9, hla⟩ := mb_at hil
          subst e9
          obtain ⟨mo9, ka9, kl9, kf9, ⟨oo9, osg9, osm9, ofc9, oca9, opa9, ol9, ocf9, opl9, opf9⟩, ⟨pp9, psg9, psm9, pfc9, pca9, ppa9, pl9, pcf9, ppl9, ppf9⟩⟩ := x9
          have hax : a_2 = mo9 := by
            rw [hi9, nI_clamp (by omega), ← hla, mf_some hmf9 (by omega)] at hq_a_2
            exact (Option.some.inj hq_a_2).symm
          subst hax
          obtain ⟨hk64, ⟨ho1, ho2, ho3⟩, ⟨hp1, hp2, hp3⟩⟩ := ok_mid hmo
          have hP := pm_P hP (mb_out cI [(rc, Sum.inr (6, [Value.ref co, Value.ref ma, Value.int (nI ms.length), Value.int 0, Value.int 0, Value.int frd, Value.int fbd, Value.int fir])), (ma, Sum.inl (cM, 8, Sum.inr (Sum.inr (Sum.inr (Sum.inr mf))))), (co, Sum.inr (5, [Value.long xx, Value.long xreadX, Value.ref soa, Value.ref sna, Value.ref swa, Value.int 0, Value.ref ri, Value.ref ro, Value.ref rw, Value.int xasked]))] a9 b9 (a_2, ka9, kl9, kf9, (oo9, osg9, osm9, ofc9, oca9, opa9, ol9, ocf9, opl9, opf9), (pp9, psg9, psm9, pfc9, pca9, ppa9, pl9, pcf9, ppl9, ppf9)))
          have hD := pm_D hD (mb_out cI [(rc, Sum.inr (6, [Value.ref co, Value.ref ma, Value.int (nI ms.length), Value.int 0, Value.int 0, Value.int frd, Value.int fbd, Value.int fir])), (ma, Sum.inl (cM, 8, Sum.inr (Sum.inr (Sum.inr (Sum.inr mf))))), (co, Sum.inr (5, [Value.long xx, Value.long xreadX, Value.ref soa, Value.ref sna, Value.ref swa, Value.int 0, Value.ref ri, Value.ref ro, Value.ref rw, Value.int xasked]))] a9 b9 (a_2, ka9, kl9, kf9, (oo9, osg9, osm9, ofc9, oca9, opa9, ol9, ocf9, opl9, opf9), (pp9, psg9, psm9, pfc9, pca9, ppa9, pl9, pcf9, ppl9, ppf9)))
          have hPD : my_PD (dC, dI) vwCl A ([(rc, Sum.inr (6, [Value.ref co, Value.ref ma, Value.int (nI ms.length), Value.int 0, Value.int 0, Value.int frd, Value.int fbd, Value.int fir])), (ma, Sum.inl (cM, 8, Sum.inr (Sum.inr (Sum.inr (Sum.inr mf))))), (co, Sum.inr (5, [Value.long xx, Value.long xreadX, Value.ref soa, Value.ref sna, Value.ref swa, Value.int 0, Value.ref ri, Value.ref ro, Value.ref rw, Value.int xasked])), (a_2, Sum.inr (8, [Value.ref ka9, Value.ref oo9, Value.ref pp9])), (ka9, Sum.inl (cI, kl9, Sum.inl kf9)), (oo9, Sum.inr (7, [Value.int osg9, Value.int osm9, Value.int ofc9, Value.ref oca9, Value.ref opa9])), (oca9, Sum.inl (cI, ol9, Sum.inl ocf9)), (opa9, Sum.inl (cI, opl9, Sum.inl opf9)), (pp9, Sum.inr (7, [Value.int psg9, Value.int psm9, Value.int pfc9, Value.ref pca9, Value.ref ppa9])), (pca9, Sum.inl (cI, pl9, Sum.inl pcf9)), (ppa9, Sum.inl (cI, ppl9, Sum.inl ppf9))] ++ (mbsC cI a9 ++ mbsC cI b9)) H := ⟨hP, hD⟩
          have hP := hPD.1
          have hD := hPD.2
          rw [← hla] at hbg
          obtain ⟨hx1, hx2, ⟨hx3, hx4, hx5, hx6⟩, hx7, hx8⟩ := hms ((a_2, ka9, kl9, kf9, (oo9, osg9, osm9, ofc9, oca9, opa9, ol9, ocf9, opl9, opf9), (pp9, psg9, psm9, pfc9, pca9, ppa9, pl9, pcf9, ppl9, ppf9)) : MB) (List.mem_of_getElem? (bg_x hbg hlm))
          have hx3 : osg9 = nI kl9 := hx3
          skip
          subst hx3
          have hx4 : ofc9 = 0 := hx4
          skip
          subst hx4
          have hx5 : ol9 = kl9 := hx5
          have hx5 := hx5.symm
          subst hx5
          have hx6 : opl9 = 512 := hx6
          skip
          subst hx6
          have hPD : my_PD (dC, dI) vwCl A ([(rc, Sum.inr (6, [Value.ref co, Value.ref ma, Value.int (nI ms.length), Value.int 0, Value.int 0, Value.int frd, Value.int fbd, Value.int fir])), (ma, Sum.inl (cM, 8, Sum.inr (Sum.inr (Sum.inr (Sum.inr mf))))), (co, Sum.inr (5, [Value.long xx, Value.long xreadX, Value.ref soa, Value.ref sna, Value.ref swa, Value.int 0, Value.ref ri, Value.ref ro, Value.ref rw, Value.int xasked])), (a_2, Sum.inr (8, [Value.ref ka9, Value.ref oo9, Value.ref pp9])), (ka9, Sum.inl (cI, kl9, Sum.inl kf9)), (oo9, Sum.inr (7, [Value.int (nI kl9), Value.int osm9, Value.int 0, Value.ref oca9, Value.ref opa9])), (oca9, Sum.inl (cI, kl9, Sum.inl ocf9)), (opa9, Sum.inl (cI, 512, Sum.inl opf9)), (pp9, Sum.inr (7, [Value.int psg9, Value.int psm9, Value.int pfc9, Value.ref pca9, Value.ref ppa9])), (pca9, Sum.inl (cI, pl9, Sum.inl pcf9)), (ppa9, Sum.inl (cI, ppl9, Sum.inl ppf9))] ++ (mbsC cI a9 ++ mbsC cI b9)) H := ⟨hP, hD⟩
          have hP := hPD.1
          have hD := hPD.2
          refine lv_astore (lv' := [(5, Value.ref a_2), (4, Value.int i9), (3, Value.int (nI 8)), (2, Value.ref ma), (1, Value.int fit), (0, Value.ref rc)]) hx hb d_RC_begin_43 hl (by decide) rfl (fun ls hl => ?_)
          refine lv_aload hx hb d_RC_begin_45 (lv_at hl 0 rfl) ?_
          refine lv_ifnull hx hb d_RC_begin_47 ?_
          refine lv_aload_n hx hb d_RC_begin_50 rfl (lv_at hl 5 rfl) ?_
          refine va_get (D := (dC, dI)) (ci := 6) (v := .ref co) (C := "RangeCoders") (T := T_RC) (N := 8) hx hb hg in_RC hown hK hP 0 rfl rfl 0 (by decide) (hg _ k258) (fun _ h9 => h9) rfl d_RC_begin_51 ?_
          refine lv_aload hx hb d_RC_begin_54 (lv_at hl 0 rfl) ?_
          refine va_get (D := (dC, dI)) (ci := 8) (v := .ref oo9) (C := "RangeCoders$Model") (T := T_Model) (N := 3) hx hb hg in_Model hown hK hP 3 rfl rfl 1 (by decide) (hg _ k343) (fun _ h9 => h9) rfl d_RC_begin_56 ?_
          refine lv_aload hx hb d_RC_begin_59 (lv_at hl 0 rfl) ?_
          refine va_get (D := (dC, dI)) (ci := 8) (v := .ref ka9) (C := "RangeCoders$Model") (T := T_Model) (N := 3) hx hb hg in_Model hown hK hP 3 rfl rfl 0 (by decide) (hg _ k341) (fun _ h9 => h9) rfl d_RC_begin_61 ?_
          refine my_cvt (wr := [(rc, Sum.inr (6, [Value.ref co, Value.ref ma, Value.int (nI ms.length), Value.int 0, Value.int 0, Value.int frd, Value.int fbd, Value.int fir])), (ma, Sum.inl (cM, 8, Sum.inr (Sum.inr (Sum.inr (Sum.inr mf))))), (a_2, Sum.inr (8, [Value.ref ka9, Value.ref oo9, Value.ref pp9])), (pp9, Sum.inr (7, [Value.int psg9, Value.int psm9, Value.int pfc9, Value.ref pca9, Value.ref ppa9])), (pca9, Sum.inl (cI, pl9, Sum.inl pcf9)), (ppa9, Sum.inl (cI, ppl9, Sum.inl ppf9))]) (va_runU (As := [Value.ref oo9, Value.ref ka9]) (rest := []) ⟨hx, hb, hml, hown, hts⟩ (f_Table_prepare l dC dI cI cM cO H.size co xx xreadX soa sna swa 0 ri ro rw xasked oo9 (nI kl9) 0 oca9 opa9 kl9 ocf9 opf9 osm9 ka9 kf9 (Cx ((a_2, ka9, kl9, kf9, (oo9, nI kl9, osm9, 0, oca9, opa9, kl9, ocf9, 512, opf9), (pp9, psg9, psm9, pfc9, pca9, ppa9, pl9, pcf9, ppl9, ppf9)) : MB)) (hx2) (hx7) (hx8) (Nat.le_of_succ_le hx1) (rfl)) (va_cwA 2 hts (my_gU k353 k355 k400 k401 k11 k402) rfl rfl rfl (hN.1 _ j354 rfl) (by decide +kernel) ⟨by rw [hR]; exact Nat.le_of_ble_eq_true rfl, by rw [hR]; exact Nat.le_of_ble_eq_true rfl⟩) (my_preV hK hN (my_subU hP [2, 5, 6, 7, 4] rfl) (my_dubT hD [2, 5, 6, 7, 4] (by decide +kernel) rfl) 0 rfl rfl) rfl rfl hl.1 rfl (lv_room (Nat.le_of_ble_eq_true rfl)) d_RC_begin_64 ⟨by rw [hR]; exact Nat.le_of_ble_eq_true rfl, by rw [hR]; exact Nat.le_of_ble_eq_true rfl⟩) hP hD hS hA [2, 5, 6, 7, 4] [0, 1, 3, 8, 9, 10] rfl rfl (by decide +kernel) (by decide +kernel) (fun u9 H locs hw_64 hP hD hS => ?_)
          obtain ⟨ocfq_64, opfq_64⟩ := u9
          obtain ⟨hf_64, hl_64⟩ : tbI ocfq_64 kl9 (sc kl9 512 (Cx ((a_2, ka9, kl9, kf9, (oo9, nI kl9, osm9, 0, oca9, opa9, kl9, ocf9, 512, opf9), (pp9, psg9, psm9, pfc9, pca9, ppa9, pl9, pcf9, ppl9, ppf9)) : MB))) ∧ layt opfq_64 (sc kl9 512 (Cx ((a_2, ka9, kl9, kf9, (oo9, nI kl9, osm9, 0, oca9, opa9, kl9, ocf9, 512, opf9), (pp9, psg9, psm9, pfc9, pca9, ppa9, pl9, pcf9, ppl9, ppf9)) : MB))) kl9 (ns (sc kl9 512 (Cx ((a_2, ka9, kl9, kf9, (oo9, nI kl9, osm9, 0, oca9, opa9, kl9, ocf9, 512, opf9), (pp9, psg9, psm9, pfc9, pca9, ppa9, pl9, pcf9, ppl9, ppf9)) : MB))) kl9) := hw_64
          have hPD : my_PD (dC, dI) vwCl A ([(rc, Sum.inr (6, [Value.ref co, Value.ref ma, Value.int (nI ms.length), Value.int 0, Value.int 0, Value.int frd, Value.int fbd, Value.int fir])), (ma, Sum.inl (cM, 8, Sum.inr (Sum.inr (Sum.inr (Sum.inr mf))))), (a_2, Sum.inr (8, [Value.ref ka9, Value.ref oo9, Value.ref pp9])), (pp9, Sum.inr (7, [Value.int psg9, Value.int psm9, Value.int pfc9, Value.ref pca9, Value.ref ppa9])), (pca9, Sum.inl (cI, pl9, Sum.inl pcf9)), (ppa9, Sum.inl (cI, ppl9, Sum.inl ppf9)), (co, Sum.inr (5, [Value.long xx, Value.long xreadX, Value.ref soa, Value.ref sna, Value.ref swa, Value.int 0, Value.ref ri, Value.ref ro, Value.ref rw, Value.int xasked])), (oo9, Sum.inr (7, [Value.int (nI kl9), Value.int (nI (ns (sc kl9 512 (Cx ((a_2, ka9, kl9, kf9, (oo9, nI kl9, osm9, 0, oca9, opa9, kl9, ocf9, 512, opf9), (pp9, psg9, psm9, pfc9, pca9, ppa9, pl9, pcf9, ppl9, ppf9)) : MB))) kl9)), Value.int 0, Value.ref oca9, Value.ref opa9])), (oca9, Sum.inl (cI, kl9, Sum.inl ocfq_64)), (opa9, Sum.inl (cI, 512, Sum.inl opfq_64)), (ka9, Sum.inl (cI, kl9, Sum.inl kf9))] ++ (mbsC cI a9 ++ mbsC cI b9)) H := ⟨hP, hD⟩
          have hP := hPD.1
          have hD := hPD.2
          have hP := pm_P (hP.part [0, 1, 6, 2, 10, 7, 8, 9, 3, 4, 5] rfl : va_P (dC, dI) vwCl ([(rc, Sum.inr (6, [Value.ref co, Value.ref ma, Value.int (nI ms.length), Value.int 0, Value.int 0, Value.int frd, Value.int fbd, Value.int fir])), (ma, Sum.inl (cM, 8, Sum.inr (Sum.inr (Sum.inr (Sum.inr mf))))), (co, Sum.inr (5, [Value.long xx, Value.long xreadX, Value.ref soa, Value.ref sna, Value.ref swa, Value.int 0, Value.ref ri, Value.ref ro, Value.ref rw, Value.int xasked])), (a_2, Sum.inr (8, [Value.ref ka9, Value.ref oo9, Value.ref pp9])), (ka9, Sum.inl (cI, kl9, Sum.inl kf9)), (oo9, Sum.inr (7, [Value.int (nI kl9), Value.int (nI (ns (sc kl9 512 (Cx ((a_2, ka9, kl9, kf9, (oo9, nI kl9, osm9, 0, oca9, opa9, kl9, ocf9, 512, opf9), (pp9, psg9, psm9, pfc9, pca9, ppa9, pl9, pcf9, ppl9, ppf9)) : MB))) kl9)), Value.int 0, Value.ref oca9, Value.ref opa9])), (oca9, Sum.inl (cI, kl9, Sum.inl ocfq_64)), (opa9, Sum.inl (cI, 512, Sum.inl opfq_64)), (pp9, Sum.inr (7, [Value.int psg9, Value.int psm9, Value.int pfc9, Value.ref pca9, Value.ref ppa9])), (pca9, Sum.inl (cI, pl9, Sum.inl pcf9)), (ppa9, Sum.inl (cI, ppl9, Sum.inl ppf9))] ++ (mbsC cI a9 ++ mbsC cI b9)) H) (mb_out cI [(rc, Sum.inr (6, [Value.ref co, Value.ref ma, Value.int (nI ms.length), Value.int 0, Value.int 0, Value.int frd, Value.int fbd, Value.int fir])), (ma, Sum.inl (cM, 8, Sum.inr (Sum.inr (Sum.inr (Sum.inr mf))))), (co, Sum.inr (5, [Value.long xx, Value.long xreadX, Value.ref soa, Value.ref sna, Value.ref swa, Value.int 0, Value.ref ri, Value.ref ro, Value.ref rw, Value.int xasked]))] a9 b9 ((a_2, ka9, kl9, kf9, (oo9, (nI kl9), (nI (ns (sc kl9 512 (Cx ((a_2, ka9, kl9, kf9, (oo9, nI kl9, osm9, 0, oca9, opa9, kl9, ocf9, 512, opf9), (pp9, psg9, psm9, pfc9, pca9, ppa9, pl9, pcf9, ppl9, ppf9)) : MB))) kl9)), 0, oca9, opa9, kl9, ocfq_64, 512, opfq_64), (pp9, psg9, psm9, pfc9, pca9, ppa9, pl9, pcf9, ppl9, ppf9)) : MB)).symm
          have hD := pm_D (hD.part [0, 1, 6, 2, 10, 7, 8, 9, 3, 4, 5] (by decide +kernel) rfl : va_D A ([(rc, Sum.inr (6, [Value.ref co, Value.ref ma, Value.int (nI ms.length), Value.int 0, Value.int 0, Value.int frd, Value.int fbd, Value.int fir])), (ma, Sum.inl (cM, 8, Sum.inr (Sum.inr (Sum.inr (Sum.inr mf))))), (co, Sum.inr (5, [Value.long xx, Value.long xreadX, Value.ref soa, Value.ref sna, Value.ref swa, Value.int 0, Value.ref ri, Value.ref ro, Value.ref rw, Value.int xasked])), (a_2, Sum.inr (8, [Value.ref ka9, Value.ref oo9, Value.ref pp9])), (ka9, Sum.inl (cI, kl9, Sum.inl kf9)), (oo9, Sum.inr (7, [Value.int (nI kl9), Value.int (nI (ns (sc kl9 512 (Cx ((a_2, ka9, kl9, kf9, (oo9, nI kl9, osm9, 0, oca9, opa9, kl9, ocf9, 512, opf9), (pp9, psg9, psm9, pfc9, pca9, ppa9, pl9, pcf9, ppl9, ppf9)) : MB))) kl9)), Value.int 0, Value.ref oca9, Value.ref opa9])), (oca9, Sum.inl (cI, kl9, Sum.inl ocfq_64)), (opa9, Sum.inl (cI, 512, Sum.inl opfq_64)), (pp9, Sum.inr (7, [Value.int psg9, Value.int psm9, Value.int pfc9, Value.ref pca9, Value.ref ppa9])), (pca9, Sum.inl (cI, pl9, Sum.inl pcf9)), (ppa9, Sum.inl (cI, ppl9, Sum.inl ppf9))] ++ (mbsC cI a9 ++ mbsC cI b9))) (mb_out cI [(rc, Sum.inr (6, [Value.ref co, Value.ref ma, Value.int (nI ms.length), Value.int 0, Value.int 0, Value.int frd, Value.int fbd, Value.int fir])), (ma, Sum.inl (cM, 8, Sum.inr (Sum.inr (Sum.inr (Sum.inr mf))))), (co, Sum.inr (5, [Value.long xx, Value.long xreadX, Value.ref soa, Value.ref sna, Value.ref swa, Value.int 0, Value.ref ri, Value.ref ro, Value.ref rw, Value.int xasked]))] a9 b9 ((a_2, ka9, kl9, kf9, (oo9, (nI kl9), (nI (ns (sc kl9 512 (Cx ((a_2, ka9, kl9, kf9, (oo9, nI kl9, osm9, 0, oca9, opa9, kl9, ocf9, 512, opf9), (pp9, psg9, psm9, pfc9, pca9, ppa9, pl9, pcf9, ppl9, ppf9)) : MB))) kl9)), 0, oca9, opa9, kl9, ocfq_64, 512, opfq_64), (pp9, psg9, psm9, pfc9, pca9, ppa9, pl9, pcf9, ppl9, ppf9)) : MB)).symm
          have hma2 : (a9 ++ ((a_2, ka9, kl9, kf9, (oo9, (nI kl9), (nI (ns (sc kl9 512 (Cx ((a_2, ka9, kl9, kf9, (oo9, nI kl9, osm9, 0, oca9, opa9, kl9, ocf9, 512, opf9), (pp9, psg9, psm9, pfc9, pca9, ppa9, pl9, pcf9, ppl9, ppf9)) : MB))) kl9)), 0, oca9, opa9, kl9, ocfq_64, 512, opfq_64), (pp9, psg9, psm9, pfc9, pca9, ppa9, pl9, pcf9, ppl9, ppf9)) : MB) :: b9).map mbA = ms.map mbA := by refine (mb_set (f := mbA) ?_).trans hma; rfl
          have hmo2 : ∀ x ∈ a9 ++ ((a_2, ka9, kl9, kf9, (oo9, (nI kl9), (nI (ns (sc kl9 512 (Cx ((a_2, ka9, kl9, kf9, (oo9, nI kl9, osm9, 0, oca9, opa9, kl9, ocf9, 512, opf9), (pp9, psg9, psm9, pfc9, pca9, ppa9, pl9, pcf9, ppl9, ppf9)) : MB))) kl9)), 0, oca9, opa9, kl9, ocfq_64, 512, opfq_64), (pp9, psg9, psm9, pfc9, pca9, ppa9, pl9, pcf9, ppl9, ppf9)) : MB) :: b9, mbOk x := ok_set hmo ⟨hk64, ⟨ho1, ho2, ho3⟩, ⟨hp1, hp2, hp3⟩⟩
          have hPD : my_PD (dC, dI) vwCl A ([(rc, Sum.inr (6, [Value.ref co, Value.ref ma, Value.int (nI ms.length), Value.int 0, Value.int 0, Value.int frd, Value.int fbd, Value.int fir])), (ma, Sum.inl (cM, 8, Sum.inr (Sum.inr (Sum.inr (Sum.inr mf))))), (co, Sum.inr (5, [Value.long xx, Value.long xreadX, Value.ref soa, Value.ref sna, Value.ref swa, Value.int 0, Value.ref ri, Value.ref ro, Value.ref rw, Value.int xasked]))] ++ mbsC cI (a9 ++ ((a_2, ka9, kl9, kf9, (oo9, (nI kl9), (nI (ns (sc kl9 512 (Cx ((a_2, ka9, kl9, kf9, (oo9, nI kl9, osm9, 0, oca9, opa9, kl9, ocf9, 512, opf9), (pp9, psg9, psm9, pfc9, pca9, ppa9, pl9, pcf9, ppl9, ppf9)) : MB))) kl9)), 0, oca9, opa9, kl9, ocfq_64, 512, opfq_64), (pp9, psg9, psm9, pfc9, pca9, ppa9, pl9, pcf9, ppl9, ppf9)) : MB) :: b9)) H := ⟨hP, hD⟩
          have hP := hPD.1
          have hD := hPD.2
          have hbg2 : bgI nw_Table ms (a9 ++ ((a_2, ka9, kl9, kf9, (oo9, (nI kl9), (nI (ns (sc kl9 512 (Cx ((a_2, ka9, kl9, kf9, (oo9, nI kl9, osm9, 0, oca9, opa9, kl9, ocf9, 512, opf9), (pp9, psg9, psm9, pfc9, pca9, ppa9, pl9, pcf9, ppl9, ppf9)) : MB))) kl9)), 0, oca9, opa9, kl9, ocfq_64, 512, opfq_64), (pp9, psg9, psm9, pfc9, pca9, ppa9, pl9, pcf9, ppl9, ppf9)) : MB) :: b9) (a9.length + 1) := bg_st hbg hlm ⟨rfl, rfl, rfl, ⟨rfl, rfl, rfl, rfl⟩, ⟨hf_64, rfl, hl_64⟩⟩
          rw [hla] at hbg2
          have hlm2 : ms.length = (a9 ++ ((a_2, ka9, kl9, kf9, (oo9, (nI kl9), (nI (ns (sc kl9 512 (Cx ((a_2, ka9, kl9, kf9, (oo9, nI kl9, osm9, 0, oca9, opa9, kl9, ocf9, 512, opf9), (pp9, psg9, psm9, pfc9, pca9, ppa9, pl9, pcf9, ppl9, ppf9)) : MB))) kl9)), 0, oca9, opa9, kl9, ocfq_64, 512, opfq_64), (pp9, psg9, psm9, pfc9, pca9, ppa9, pl9, pcf9, ppl9, ppf9)) : MB) :: b9).length := by rw [hlm, List.length_append, List.length_append]; rfl
          obtain ⟨v_4, ev_4⟩ : ∃ y : Int32, y = i9 + (1) := ⟨_, rfl⟩
          refine lv_iinc (v := v_4) (lv' := [(4, Value.int v_4), (5, Value.ref a_2), (3, Value.int (nI 8)), (2, Value.ref ma), (1, Value.int fit), (0, Value.ref rc)]) hx hb d_RC_begin_67 hl (k := 1) rfl (by rw [ev_4]; rfl) (by decide) rfl (fun ls hl => ?_)
          refine lv_goto (tgt := 33) hx hb d_RC_begin_70 (by decide) ?_
          exact ih9_33 _ (by first | omega | (omega)) v_4 (ii + 1) (a9 ++ ((a_2, ka9, kl9, kf9, (oo9, (nI kl9), (nI (ns (sc kl9 512 (Cx ((a_2, ka9, kl9, kf9, (oo9, nI kl9, osm9, 0, oca9, opa9, kl9, ocf9, 512, opf9), (pp9, psg9, psm9, pfc9, pca9, ppa9, pl9, pcf9, ppl9, ppf9)) : MB))) kl9)), 0, oca9, opa9, kl9, ocfq_64, 512, opfq_64), (pp9, psg9, psm9, pfc9, pca9, ppa9, pl9, pcf9, ppl9, ppf9)) : MB) :: b9) rfl (by rw [ev_4, hi9]; exact nI_1 _) (by omega) (hma2) (hmo2) (hbg2) (hlm2) H locs ls (hP.part [0, 1, 2] rfl) (hD.part [0, 1, 2] (by decide +kernel) rfl) hS (lv_sub hl [0, 2, 3, 4, 5] rfl)
  exact J_33 _ (0 : Int32) (0 : Nat) ms rfl (rfl) (by omega) (rfl) (hmk) (bg_0 ms) (rfl) H locs ls (hP.part [0, 1, 2] rfl) (hD.part [0, 1, 2] (by decide +kernel) rfl) hS (lv_sub hl [0, 1, 2, 3, 4] rfl)
end
section
theorem sg_yes {km jj tt : Nat} {N : Nat → Nat} {vMany vC : Nat → Int32} (h : MD km N vMany vC) (hj : jj < km) (ht : tt < N jj) : isN km (nI jj) ∧ (0 ≤ nI tt ∧ nI tt ≤ vMany (nI jj).toNatClampNeg - 1) := by
  have hk := h.1
  obtain ⟨h1, h2, h3, -⟩ := h.2 jj hj
  refine ⟨(isN_iff (by omega)).mpr ⟨jj, hj, rfl⟩, ?_⟩
  rw [nI_clamp (by omega), h1]
  exact (isN_iff (k := N jj) (by omega)).mpr ⟨tt, ht, rfl⟩
theorem sg_nom {km : Nat} {vMany : Nat → Int32} {p1 p2 : Int32} (hk : km ≤ 8) (h : p1 < 0 ∨ nI km ≤ p1) : ¬ (isN km p1 ∧ (0 ≤ p2 ∧ p2 ≤ vMany p1.toNatClampNeg - 1)) := fun q => by
  obtain ⟨j, hj, rfl⟩ := (isN_iff (by omega)).mp q.1
  rcases h with z | z
  · exact absurd z (nI_pos (by omega))
  · exact absurd z (nI_ge hj (by omega))
theorem sg_nos {km jj : Nat} {N : Nat → Nat} {vMany vC : Nat → Int32} {p2 : Int32} (h : MD km N vMany vC) (hj : jj < km) (hno : p2 < 0 ∨ nI (N jj) ≤ p2) : ¬ (isN km (nI jj) ∧ (0 ≤ p2 ∧ p2 ≤ vMany (nI jj).toNatClampNeg - 1)) := fun q => by
  have hk := h.1
  obtain ⟨h1, h2, h3, -⟩ := h.2 jj hj
  have q2 := q.2
  rw [nI_clamp (by omega), h1] at q2
  obtain ⟨j, hj2, rfl⟩ := (isN_iff (k := N jj) (by omega)).mp q2
  rcases hno with z | z
  · exact absurd z (nI_pos (by omega))
  · exact absurd z (nI_ge hj2 (by omega))
theorem md_no {km : Nat} {p1 : Int32} (hk : km ≤ 8) (h : p1 < 0 ∨ nI km ≤ p1) : ¬ (0 ≤ p1 ∧ p1 ≤ nI km - 1) := fun q => by
  obtain ⟨j, hj, rfl⟩ := (isN_iff (by omega)).mp q
  rcases h with z | z
  · exact absurd z (nI_pos (by omega))
  · exact absurd z (nI_ge hj (by omega))
theorem okB_no {bm : Nat} {v b x : Int32} (hbm : bm ≤ 12) (hno : ¬ okB bm v b) (h1 : 1 ≤ b ∧ b ≤ nI bm) (ex : x = (1 : Int32) <<< (b &&& 31) - 1) : ¬ (0 ≤ v ∧ v ≤ x) := fun q => by
  obtain ⟨bb, q1, q2, rfl⟩ := in_of2 (a := 1) (b := bm) (by decide) (by omega) h1
  rw [shl1 bb (by omega), nI_pred9 (Nat.two_pow_pos bb)] at ex
  have hp : 2 ^ bb ≤ 2 ^ 12 := Nat.pow_le_pow_right (by decide) (by omega)
  have hp0 := Nat.two_pow_pos bb
  rw [ex] at q
  obtain ⟨vv, -, z2, rfl⟩ := in_of2 (a := 0) (b := 2 ^ bb - 1) (by decide) (by omega) q
  exact hno ⟨vv, bb, q1, q2, by omega, rfl, rfl⟩
theorem m255 (i : Nat) : (255#32).getLsbD i = decide (i < 8) := by
  rw [BitVec.getLsbD_ofNat, show (255 : Nat) = 2 ^ 8 - 1 from rfl, Nat.testBit_two_pow_sub_one]
  by_cases h : i < 8
  · simp [h]; omega
  · simp [h]
theorem oB_s (v : Int32) : ∀ k, k < 4 → ∀ x : Int32, x = nI (8 * k) → ((v >>> (x &&& 31)) &&& 255) = nI (oB v k) := by
  intro k hk x ex
  rw [← oB_u v k hk x ex]
  subst ex
  apply Int32.toBitVec_inj.mp
  rw [Int32.toBitVec_and, Int32.toBitVec_and]
  have e1 : (v >>> (nI (8 * k) &&& 31)).toBitVec = v.toBitVec.sshiftRight (8 * k) := by
    have hk' : k = 0 ∨ k = 1 ∨ k = 2 ∨ k = 3 := by omega
    rcases hk' with h | h | h | h <;> subst h <;> rfl
  have e2 : ((v.toUInt32 >>> ((nI (8 * k)).toUInt32 &&& Int32.toUInt32 31)).toInt32).toBitVec = v.toBitVec >>> (8 * k) := by
    have hk' : k = 0 ∨ k = 1 ∨ k = 2 ∨ k = 3 := by omega
    rcases hk' with h | h | h | h <;> subst h <;> rfl
  rw [e1, e2]
  apply BitVec.eq_of_getLsbD_eq
  intro i hi
  show (v.toBitVec.sshiftRight (8 * k) &&& 255#32).getLsbD i = (v.toBitVec >>> (8 * k) &&& 255#32).getLsbD i
  rw [BitVec.getLsbD_and, BitVec.getLsbD_and, m255]
  by_cases h : i < 8
  · rw [BitVec.getLsbD_sshiftRight, BitVec.getLsbD_ushiftRight, if_pos (by omega)]
    have h3 : decide (32 ≤ i) = false := decide_eq_false (by omega)
    have h4 : decide (i < 32) = true := decide_eq_true (by omega)
    first | (rw [h3]; rfl) | (rw [h4]; rfl) | rfl | simp [h3, h4, hi, h]
  · simp [h]
theorem tk_le1 {p1 : Int32} {n : Nat} (hn : n < 2 ^ 31) (h0 : ¬ p1 < 0) (h1 : p1 ≤ 1) : ¬ nI n < p1 - 2 := by
  have e0 : (0 : Int32).toInt = 0 := rfl
  have e1 : (1 : Int32).toInt = 1 := rfl
  have e2 : (2 : Int32).toInt = 2 := rfl
  rw [Int32.lt_iff_toInt_lt, e0] at h0
  rw [Int32.le_iff_toInt_le, e1] at h1
  have hs : (p1 - 2).toInt = p1.toInt - 2 := by
    rw [Int32.toInt_sub, e2]
    apply Int.bmod_eq_of_le <;> omega
  rw [Int32.lt_iff_toInt_lt, hs, nI_toInt hn]
  omega
theorem ml0 {p1 : Int32} {ll : Nat} (h : p1 = 0) (hl : ¬ p1 = 1 → (if (0 : Int32) < p1 - 2 then p1 - 2 else 0) = nI ll) : (0 : Int32) = nI ll := by
  subst h
  have := hl (by decide)
  rw [← this]
  decide
theorem ml2 {p1 : Int32} {ll : Nat} (h0 : ¬ p1 < 0) (h1 : ¬ p1 = 0) (h2 : ¬ p1 = 1) (hl : ¬ p1 = 1 → (if (0 : Int32) < p1 - 2 then p1 - 2 else 0) = nI ll) : p1 - 2 = nI ll := by
  rw [← hl h2]
  have e0 : (0 : Int32).toInt = 0 := rfl
  have e2 : (2 : Int32).toInt = 2 := rfl
  rw [Int32.lt_iff_toInt_lt, e0] at h0
  have h1' : p1.toInt ≠ 0 := fun z => h1 (Int32.toInt_inj.mp (by rw [z]; rfl))
  have h2' : p1.toInt ≠ 1 := fun z => h2 (Int32.toInt_inj.mp (by rw [z]; rfl))
  have hlt := Int32.toInt_lt p1
  have hs : (p1 - 2).toInt = p1.toInt - 2 := by
    rw [Int32.toInt_sub, e2]
    apply Int.bmod_eq_of_le <;> omega
  by_cases z : (0 : Int32) < p1 - 2
  · rw [if_pos z]
  · rw [if_neg z]
    rw [Int32.lt_iff_toInt_lt, hs, e0] at z
    exact Int32.toInt_inj.mp (by rw [hs, e0]; omega)
theorem isN_no {k : Nat} {p : Int32} (hk : k < 2 ^ 30) (h : p < 0 ∨ nI k ≤ p) : ¬ isN k p := fun q => by
  obtain ⟨j, hj, rfl⟩ := (isN_iff hk).mp q
  rcases h with z | z
  · exact absurd z (nI_pos (by omega))
  · exact absurd z (nI_ge hj (by omega))
theorem nd_no {n : Nat} {p : Int32} (hn : n < 2 ^ 30) (h : p < 1 ∨ p < 0 ∨ nI n ≤ p) : ¬ (1 ≤ p ∧ p ≤ nI (n - 1)) := fun q => by
  obtain ⟨j, h1, h2, rfl⟩ := in_of2 (a := 1) (b := n - 1) (by decide) (by omega) q
  rcases h with z | z | z
  · exact absurd q.1 (Int32.not_le.mpr z)
  · exact absurd z (nI_pos (by omega))
  · have := nI_ge' (by omega) (by omega) z
    omega
theorem gIs_cp {f g : Nat → Int32} {bs : List Nat} (h : gIs f bs) (hc : ∀ i, i < bs.length → g i = f i) : gIs g bs := fun i hi => by rw [hc i hi]; exact h i hi
theorem s3_oct {f : Nat} : ∀ (k : Nat) (r : Nat × List Nat), oct r.2 → oct (s3N f k r).2
  | 0, r, h => h
  | k + 1, r, h => by
    by_cases h2 : f * 524288 ≤ r.1
    · rw [s3N_s (by omega) h2, Nat.add_sub_cancel]
      exact s3_oct k _ (oct_add h (Nat.mod_lt _ (by decide)))
    · rw [s3N_e h2]; exact h
theorem e3_oct (Fn : Nat → Nat → Nat) (its : List It) : ∀ (k : Nat) (r : Nat × List Nat), oct r.2 → oct (e3N Fn its k r).2
  | 0, r, h => h
  | k + 1, r, h => by
    rw [e3N]
    exact e3_oct Fn its k _ (s3_oct 8 r h)
theorem b4_oct (X : Nat) : ∀ k, oct (b4 X k) := by
  intro k
  induction k generalizing X with
  | zero => exact oct_nil
  | succ k ih =>
    rw [b4]
    have : oct ([X % 256] ++ b4 (X / 256) k) := oct_app (oct_one (Nat.mod_lt _ (by decide))) (ih _)
    exact this
theorem e3S_oct (Fn : Nat → Nat → Nat) (its : List It) : oct (e3S Fn its) := oct_app (e3_oct Fn its _ _ oct_nil) (b4_oct _ _)
theorem mod_id {l : List Nat} (h : oct l) : l.map (· % 256) = l := by
  rw [oct_iff] at h
  induction l with
  | nil => rfl
  | cons a l ih =>
    rw [List.map_cons, ih (fun x hx => h x (List.mem_cons_of_mem _ hx)), Nat.mod_eq_of_lt (h a List.mem_cons_self)]
theorem oct_rev {l : List Nat} (h : oct l) : oct l.reverse := by
  rw [oct_iff] at h ⊢
  exact fun x hx => h x (List.mem_reverse.mp hx)
theorem e3_out (Fn : Nat → Nat → Nat) (its : List It) : ([] : List Nat) ++ (e3S Fn its).reverse.map (· % 256) = (e3S Fn its).reverse := by rw [List.nil_append, mod_id (oct_rev (e3S_oct Fn its))]
/-- tables of the first j models as a message begins -/
def pfA (fm j : Nat) (N : Nat → Nat) (vC f : Nat → Int32) : Prop := ∀ mm, mm < j → sgI f (64 * mm) (pfN fm (N mm)) (pf fm (N mm) (Fvw vC mm))
theorem pfA_0 (fm : Nat) (N : Nat → Nat) (vC f : Nat → Int32) : pfA fm 0 N vC f := fun mm h => absurd h (Nat.not_lt_zero mm)
theorem pfN_64 {fm n : Nat} (h : n ≤ 64) : pfN fm n ≤ 64 := by unfold pfN; split <;> omega
theorem pfA_st {fm j km : Nat} {N : Nat → Nat} {vC f2 f : Nat → Int32} (h : pfA fm j N vC f) (hN : ∀ i, i < km → N i ≤ 64) (hj : j < km) (ho : sgO f2 f (64 * j) 64) (hF : sgI f2 (64 * j) (pfN fm (N j)) (pf fm (N j) (Fvw vC j))) : pfA fm (j + 1) N vC f2 := by
  intro mm hm
  by_cases e : mm = j
  · subst e; exact hF
  · exact sg_keep ho (Ne.symm e) (pfN_64 (hN mm (by omega))) (h mm (by omega))
theorem MD_C {km mm : Nat} {N : Nat → Nat} {vMany vC : Nat → Int32} (h : MD km N vMany vC) (hm : mm < km) : sgI vC (64 * mm) (N mm) (Fvw vC mm) ∧ bd (Fvw vC mm) (N mm) 4095 := by
  obtain ⟨-, -, -, C, h1, h2⟩ := h.2 mm hm
  have e : ∀ k, k < N mm → Fvw vC mm k = C k := fun k hk => by
    unfold Fvw
    rw [h1 k hk]
    exact nI_clamp (by have := h2 k hk; omega)
  exact ⟨fun k hk => by rw [h1 k hk, e k hk], fun k hk => by rw [e k hk]; exact h2 k hk⟩
theorem L_eqN {a b : Nat} (ha : a < 2 ^ 31) (hb : b < 2 ^ 31) : lN a = lN b ↔ a = b := pk_lEQ (by omega) (by omega)
end
