section
set_option maxHeartbeats 2000000 in
set_option maxRecDepth 100000 in
theorem f_NoCarries_hasWidth (l : Launch) (dC : Nat → ClassId) (dI : Nat → Nat → Nat) (cI cM cO : ClassId) (sz : Nat) (co : Nat) (xlow : Int64) (xrange : Int64) (xcode : Int64) (xreadLow : Int64) (xreadRange : Int64) (ri : Nat) (ro : Nat) (rw : Nat) (xasked : Int32) (wd : Int32) : MetI l y_Coder_hasWidth (Cond.code y_Coder_hasWidth prog_4_method_13_code 2 (some .boolean) :: gw) ({ frames := 0, cells := 0, slots := 0, locals := 0 } : Room) (dC, dI) vwCl (kT cI cM cO) [Value.ref co, Value.int wd] [(co, Sum.inr (2, [Value.long xlow, Value.long xrange, Value.long xcode, Value.long xreadLow, Value.long xreadRange, Value.ref ri, Value.ref ro, Value.ref rw, Value.int xasked]))] sz (fun (r : Int32) (u : Unit) => r = if 1 ≤ wd ∧ wd ≤ nI 12 then 1 else 0) (fun (u : Unit) => [(co, Sum.inr (2, [Value.long xlow, Value.long xrange, Value.long xcode, Value.long xreadLow, Value.long xreadRange, Value.ref ri, Value.ref ro, Value.ref rw, Value.int xasked]))]) 0 0 := by
  refine my_ofI (cc := prog_4_method_13_code) (n := 2) (ret := (some .boolean)) (by decide) rfl (Nat.le_of_ble_eq_true rfl) ?_
  intro p e s m args below meth c R Q A ls H locs hx hb hr hts hown hlocks hml hnm hR hQ hA hl hP hK hN hD hS
  have hg : ∀ w ∈ gw, w.before args s = true := fun w h => hts w (List.mem_cons_of_mem _ h)
  have hown : s.vm.findClass "RangeCoders$Coder" = some m.cls := hown
  have hl : lv_has ls 2 [(0, Value.ref co), (1, Value.int wd)] := hl
  refine lv_iload_n hx hb d_Coder_hasWidth_0 rfl (lv_at hl 1 rfl) ?_
  refine lv_iconst (v := 1) hx hb d_Coder_hasWidth_1 (by decide) ?_
  refine lv_icmp_lt (tgt := 15) hx hb d_Coder_hasWidth_2 (by decide) (fun c_1 => ?_) (fun c_1 => ?_)
  · refine lv_iconst (v := 0) hx hb d_Coder_hasWidth_15 (by decide) ?_
    exact my_iret (v := 0) hx hb hr (rfl) hlocks hQ hK hS (Nat.le_refl _) (Nat.le_refl _) () (wid_0a c_1) (hP.sub [0] rfl) (hD.sub [0] (by decide +kernel) rfl) d_Coder_hasWidth_16
  · refine lv_iload_n hx hb d_Coder_hasWidth_5 rfl (lv_at hl 1 rfl) ?_
    refine lv_bipush (v := 12) hx hb d_Coder_hasWidth_6 (by decide) ?_
    refine lv_icmp_gt (tgt := 15) hx hb d_Coder_hasWidth_8 (by decide) (fun c_2 => ?_) (fun c_2 => ?_)
    · refine lv_iconst (v := 0) hx hb d_Coder_hasWidth_15 (by decide) ?_
      exact my_iret (v := 0) hx hb hr (rfl) hlocks hQ hK hS (Nat.le_refl _) (Nat.le_refl _) () (wid_0b c_2) (hP.sub [0] rfl) (hD.sub [0] (by decide +kernel) rfl) d_Coder_hasWidth_16
    · refine lv_iconst (v := 1) hx hb d_Coder_hasWidth_11 (by decide) ?_
      refine lv_goto (tgt := 16) hx hb d_Coder_hasWidth_12 (by decide) ?_
      exact my_iret (v := 1) hx hb hr (rfl) hlocks hQ hK hS (Nat.le_refl _) (Nat.le_refl _) () (wid_1 c_1 c_2) (hP.sub [0] rfl) (hD.sub [0] (by decide +kernel) rfl) d_Coder_hasWidth_16
set_option maxHeartbeats 2000000 in
set_option maxRecDepth 100000 in
theorem f_RC_bitsW_NoCarries (l : Launch) (dC : Nat → ClassId) (dI : Nat → Nat → Nat) (cI cM cO : ClassId) (sz : Nat) (rc : Nat) (ma : Nat) (k : Nat) (fit : Int32) (fen : Int32) (frd : Int32) (fbd : Int32) (fir : Int32) (mf : Nat → Option Nat) (co : Nat) (xlow : Int64) (xrange : Int64) (xcode : Int64) (xreadLow : Int64) (xreadRange : Int64) (ri : Nat) (ro : Nat) (rw : Nat) (xasked : Int32) (vv : Int32) (wd : Int32) (hbad : ¬ okB 12 vv wd) : MetI l y_RC_bits (Cond.code y_RC_bits prog_1_method_5_code 3 (some .int) :: gw) ({ frames := 1, cells := 0, slots := 0, locals := 21 } : Room) (dC, dI) vwCl (kT cI cM cO) [Value.ref rc, Value.int vv, Value.int wd] [(rc, Sum.inr (6, [Value.ref co, Value.ref ma, Value.int (nI k), Value.int fit, Value.int fen, Value.int frd, Value.int fbd, Value.int fir])), (co, Sum.inr (2, [Value.long xlow, Value.long xrange, Value.long xcode, Value.long xreadLow, Value.long xreadRange, Value.ref ri, Value.ref ro, Value.ref rw, Value.int xasked]))] sz (fun (r : Int32) (u : Unit) => r = -2) (fun (u : Unit) => [(rc, Sum.inr (6, [Value.ref co, Value.ref ma, Value.int (nI k), Value.int fit, Value.int fen, Value.int frd, Value.int fbd, Value.int fir])), (co, Sum.inr (2, [Value.long xlow, Value.long xrange, Value.long xcode, Value.long xreadLow, Value.long xreadRange, Value.ref ri, Value.ref ro, Value.ref rw, Value.int xasked]))]) 0 0 := by
  refine my_ofI (cc := prog_1_method_5_code) (n := 3) (ret := (some .int)) (by decide) rfl (Nat.le_of_ble_eq_true rfl) ?_
  intro p e s m args below meth c R Q A ls H locs hx hb hr hts hown hlocks hml hnm hR hQ hA hl hP hK hN hD hS
  have hg : ∀ w ∈ gw, w.before args s = true := fun w h => hts w (List.mem_cons_of_mem _ h)
  have hown : s.vm.findClass "RangeCoders" = some m.cls := hown
  have hl : lv_has ls 3 [(0, Value.ref rc), (1, Value.int vv), (2, Value.int wd)] := hl
  refine lv_aload_n hx hb d_RC_bits_0 rfl (lv_at hl 0 rfl) ?_
  refine va_get (D := (dC, dI)) (ci := 6) (v := .ref co) (C := "RangeCoders") (T := T_RC) (N := 8) hx hb hg in_RC hown hK hP 0 rfl rfl 0 (by decide) (hg _ k258) (fun _ h9 => h9) rfl d_RC_bits_1 ?_
  refine lv_iload_n hx hb d_RC_bits_4 rfl (lv_at hl 2 rfl) ?_
  refine my_ci (wr := [(rc, Sum.inr (6, [Value.ref co, Value.ref ma, Value.int (nI k), Value.int fit, Value.int fen, Value.int frd, Value.int fbd, Value.int fir]))]) (va_runU (As := [Value.int wd]) (rest := []) ⟨hx, hb, hml, hown, hts⟩ (f_NoCarries_hasWidth l dC dI cI cM cO H.size co xlow xrange xcode xreadLow xreadRange ri ro rw xasked wd) (va_cwU 1 hts (my_gU k543 k545 k548 k544 k3 k553) rfl rfl rfl rfl (by decide +kernel) ⟨by rw [hR]; exact Nat.le_of_ble_eq_true rfl, by rw [hR]; exact Nat.le_of_ble_eq_true rfl⟩) (my_preV hK hN (hP.sub [1] rfl) (hD.sub [1] (by decide +kernel) rfl) 0 rfl rfl) rfl rfl hl.1 rfl (lv_room (Nat.le_of_ble_eq_true rfl)) d_RC_bits_5 ⟨by rw [hR]; exact Nat.le_of_ble_eq_true rfl, by rw [hR]; exact Nat.le_of_ble_eq_true rfl⟩) hP hD hS hA [1] [0] rfl rfl (by decide +kernel) (by decide +kernel) (fun r_5 u9 H locs hw_5 hP hD hS => ?_)
  have hr_5 : r_5 = if 1 ≤ wd ∧ wd ≤ nI 12 then 1 else 0 := hw_5
  have hPD : my_PD (dC, dI) vwCl A [(rc, Sum.inr (6, [Value.ref co, Value.ref ma, Value.int (nI k), Value.int fit, Value.int fen, Value.int frd, Value.int fbd, Value.int fir])), (co, Sum.inr (2, [Value.long xlow, Value.long xrange, Value.long xcode, Value.long xreadLow, Value.long xreadRange, Value.ref ri, Value.ref ro, Value.ref rw, Value.int xasked]))] H := ⟨hP, hD⟩
  have hP := hPD.1
  have hD := hPD.2
  refine lv_if_eq (tgt := 22) hx hb d_RC_bits_8 (by decide) (fun c_1 => ?_) (fun c_1 => ?_)
  · refine lv_bipush (v := (-2)) hx hb d_RC_bits_22 (by decide) ?_
    exact my_iret (v := (-2)) hx hb hr (rfl) hlocks hQ hK hS (Nat.le_refl _) (Nat.le_refl _) () (rfl) (hP.sub [0, 1] rfl) (hD.sub [0, 1] (by decide +kernel) rfl) d_RC_bits_24
  · refine lv_iload_n hx hb d_RC_bits_11 rfl (lv_at hl 1 rfl) ?_
    refine lv_if_lt (tgt := 22) hx hb d_RC_bits_12 (by decide) (fun c_2 => ?_) (fun c_2 => ?_)
    · refine lv_bipush (v := (-2)) hx hb d_RC_bits_22 (by decide) ?_
      exact my_iret (v := (-2)) hx hb hr (rfl) hlocks hQ hK hS (Nat.le_refl _) (Nat.le_refl _) () (rfl) (hP.sub [0, 1] rfl) (hD.sub [0, 1] (by decide +kernel) rfl) d_RC_bits_24
    · refine lv_iload_n hx hb d_RC_bits_15 rfl (lv_at hl 1 rfl) ?_
      refine lv_iconst (v := 1) hx hb d_RC_bits_16 (by decide) ?_
      refine lv_iload_n hx hb d_RC_bits_17 rfl (lv_at hl 2 rfl) ?_
      refine lv_ishl hx hb d_RC_bits_18 ?_
      refine lv_topi (fun v_3 ev_3 => ?_)
      refine lv_icmp_lt (tgt := 25) hx hb d_RC_bits_19 (by decide) (fun c_4 => ?_) (fun c_4 => ?_)
      · exact absurd (okB_of (by decide) (one_ne hr_5 c_1) c_2 ev_3 c_4) hbad
      · refine lv_bipush (v := (-2)) hx hb d_RC_bits_22 (by decide) ?_
        exact my_iret (v := (-2)) hx hb hr (rfl) hlocks hQ hK hS (Nat.le_refl _) (Nat.le_refl _) () (rfl) (hP.sub [0, 1] rfl) (hD.sub [0, 1] (by decide +kernel) rfl) d_RC_bits_24
set_option maxHeartbeats 2000000 in
set_option maxRecDepth 100000 in
theorem f_RC_bitsE_NoCarries (l : Launch) (dC : Nat → ClassId) (dI : Nat → Nat → Nat) (cI cM cO : ClassId) (sz : Nat) (rc : Nat) (ma : Nat) (k : Nat) (fit : Int32) (fen : Int32) (frd : Int32) (fbd : Int32) (fir : Int32) (mf : Nat → Option Nat) (co : Nat) (xlow : Int64) (xrange : Int64) (xcode : Int64) (xreadLow : Int64) (xreadRange : Int64) (ri : Nat) (ro : Nat) (rw : Nat) (xasked : Int32) (v : Nat) (b : Nat) (hb1 : 1 ≤ b) (hb2 : b ≤ 12) (hv : v < 2 ^ b) (hen : ¬ fen = 0) : MetI l y_RC_bits (Cond.code y_RC_bits prog_1_method_5_code 3 (some .int) :: gw) ({ frames := 1, cells := 0, slots := 0, locals := 21 } : Room) (dC, dI) vwCl (kT cI cM cO) [Value.ref rc, Value.int (nI v), Value.int (nI b)] [(rc, Sum.inr (6, [Value.ref co, Value.ref ma, Value.int (nI k), Value.int fit, Value.int fen, Value.int frd, Value.int fbd, Value.int fir])), (co, Sum.inr (2, [Value.long xlow, Value.long xrange, Value.long xcode, Value.long xreadLow, Value.long xreadRange, Value.ref ri, Value.ref ro, Value.ref rw, Value.int xasked]))] sz (fun (r : Int32) (u : Unit) => r = -3) (fun (u : Unit) => [(rc, Sum.inr (6, [Value.ref co, Value.ref ma, Value.int (nI k), Value.int fit, Value.int fen, Value.int frd, Value.int fbd, Value.int fir])), (co, Sum.inr (2, [Value.long xlow, Value.long xrange, Value.long xcode, Value.long xreadLow, Value.long xreadRange, Value.ref ri, Value.ref ro, Value.ref rw, Value.int xasked]))]) 0 0 := by
  refine my_ofI (cc := prog_1_method_5_code) (n := 3) (ret := (some .int)) (by decide) rfl (Nat.le_of_ble_eq_true rfl) ?_
  intro p e s m args below meth c R Q A ls H locs hx hb hr hts hown hlocks hml hnm hR hQ hA hl hP hK hN hD hS
  have hg : ∀ w ∈ gw, w.before args s = true := fun w h => hts w (List.mem_cons_of_mem _ h)
  have hown : s.vm.findClass "RangeCoders" = some m.cls := hown
  have hl : lv_has ls 3 [(0, Value.ref rc), (1, Value.int (nI v)), (2, Value.int (nI b))] := hl
  have hpw : 2 ^ b ≤ 2 ^ 12 := Nat.pow_le_pow_right (by decide) (by omega)
  have hpw0 : 0 < 2 ^ b := Nat.pow_pos (by decide)
  refine lv_aload_n hx hb d_RC_bits_0 rfl (lv_at hl 0 rfl) ?_
  refine va_get (D := (dC, dI)) (ci := 6) (v := .ref co) (C := "RangeCoders") (T := T_RC) (N := 8) hx hb hg in_RC hown hK hP 0 rfl rfl 0 (by decide) (hg _ k258) (fun _ h9 => h9) rfl d_RC_bits_1 ?_
  refine lv_iload_n hx hb d_RC_bits_4 rfl (lv_at hl 2 rfl) ?_
  refine my_ci (wr := [(rc, Sum.inr (6, [Value.ref co, Value.ref ma, Value.int (nI k), Value.int fit, Value.int fen, Value.int frd, Value.int fbd, Value.int fir]))]) (va_runU (As := [Value.int (nI b)]) (rest := []) ⟨hx, hb, hml, hown, hts⟩ (f_NoCarries_hasWidth l dC dI cI cM cO H.size co xlow xrange xcode xreadLow xreadRange ri ro rw xasked (nI b)) (va_cwU 1 hts (my_gU k543 k545 k548 k544 k3 k553) rfl rfl rfl rfl (by decide +kernel) ⟨by rw [hR]; exact Nat.le_of_ble_eq_true rfl, by rw [hR]; exact Nat.le_of_ble_eq_true rfl⟩) (my_preV hK hN (hP.sub [1] rfl) (hD.sub [1] (by decide +kernel) rfl) 0 rfl rfl) rfl rfl hl.1 rfl (lv_room (Nat.le_of_ble_eq_true rfl)) d_RC_bits_5 ⟨by rw [hR]; exact Nat.le_of_ble_eq_true rfl, by rw [hR]; exact Nat.le_of_ble_eq_true rfl⟩) hP hD hS hA [1] [0] rfl rfl (by decide +kernel) (by decide +kernel) (fun r_5 u9 H locs hw_5 hP hD hS => ?_)
  have hr_5 : r_5 = if 1 ≤ (nI b) ∧ (nI b) ≤ nI 12 then 1 else 0 := hw_5
  have hPD : my_PD (dC, dI) vwCl A [(rc, Sum.inr (6, [Value.ref co, Value.ref ma, Value.int (nI k), Value.int fit, Value.int fen, Value.int frd, Value.int fbd, Value.int fir])), (co, Sum.inr (2, [Value.long xlow, Value.long xrange, Value.long xcode, Value.long xreadLow, Value.long xreadRange, Value.ref ri, Value.ref ro, Value.ref rw, Value.int xasked]))] H := ⟨hP, hD⟩
  have hP := hPD.1
  have hD := hPD.2
  refine lv_if_eq (tgt := 22) hx hb d_RC_bits_8 (by decide) (fun c_1 => ?_) (fun c_1 => ?_)
  · exact absurd (show 1 ≤ nI b ∧ nI b ≤ nI 12 from ⟨nI_le (a := 1) hb1 (by omega), nI_le hb2 (by decide)⟩) (one_eq hr_5 c_1)
  · refine lv_iload_n hx hb d_RC_bits_11 rfl (lv_at hl 1 rfl) ?_
    refine lv_if_lt (tgt := 22) hx hb d_RC_bits_12 (by decide) (fun c_2 => ?_) (fun c_2 => ?_)
    · exact absurd c_2 (nI_pos (by omega))
    · refine lv_iload_n hx hb d_RC_bits_15 rfl (lv_at hl 1 rfl) ?_
      refine lv_iconst (v := 1) hx hb d_RC_bits_16 (by decide) ?_
      refine lv_iload_n hx hb d_RC_bits_17 rfl (lv_at hl 2 rfl) ?_
      refine lv_ishl hx hb d_RC_bits_18 ?_
      refine lv_topi (fun v_3 ev_3 => ?_)
      have z9 : v_3 = nI (2 ^ b) := by rw [ev_3]; exact shl1 b (by omega)
      subst z9
      refine lv_icmp_lt (tgt := 25) hx hb d_RC_bits_19 (by decide) (fun c_4 => ?_) (fun c_4 => ?_)
      · refine lv_aload_n hx hb d_RC_bits_25 rfl (lv_at hl 0 rfl) ?_
        refine va_get (D := (dC, dI)) (ci := 6) (v := .int fen) (C := "RangeCoders") (T := T_RC) (N := 8) hx hb hg in_RC hown hK hP 0 rfl rfl 4 (by decide) (hg _ k262) (fun _ h9 => h9) rfl d_RC_bits_26 ?_
        refine lv_if_eq (tgt := 35) hx hb d_RC_bits_29 (by decide) (fun c_5 => ?_) (fun c_5 => ?_)
        · exact absurd c_5 hen
        · refine lv_bipush (v := (-3)) hx hb d_RC_bits_32 (by decide) ?_
          exact my_iret (v := (-3)) hx hb hr (rfl) hlocks hQ hK hS (Nat.le_refl _) (Nat.le_refl _) () (rfl) (hP.sub [0, 1] rfl) (hD.sub [0, 1] (by decide +kernel) rfl) d_RC_bits_34
      · exact absurd (nI_lt hv (by omega)) c_4
set_option maxHeartbeats 2000000 in
set_option maxRecDepth 100000 in
theorem f_RC_bitsR_NoCarries (l : Launch) (dC : Nat → ClassId) (dI : Nat → Nat → Nat) (cI cM cO : ClassId) (sz : Nat) (rc : Nat) (ma : Nat) (k : Nat) (frd : Int32) (fbd : Int32) (fir : Int32) (mf : Nat → Option Nat) (co : Nat) (xlow : Int64) (xrange : Int64) (xcode : Int64) (xreadLow : Int64) (xreadRange : Int64) (ri : Nat) (ro : Nat) (rw : Nat) (xasked : Int32) (v : Nat) (b : Nat) (ki : Nat) (hb1 : 1 ≤ b) (hb2 : b ≤ 12) (hv : v < 2 ^ b) (hk6 : ki = 600) : MetI l y_RC_bits (Cond.code y_RC_bits prog_1_method_5_code 3 (some .int) :: gw) ({ frames := 1, cells := 0, slots := 0, locals := 21 } : Room) (dC, dI) vwCl (kT cI cM cO) [Value.ref rc, Value.int (nI v), Value.int (nI b)] [(rc, Sum.inr (6, [Value.ref co, Value.ref ma, Value.int (nI k), Value.int (nI ki), Value.int 0, Value.int frd, Value.int fbd, Value.int fir])), (co, Sum.inr (2, [Value.long xlow, Value.long xrange, Value.long xcode, Value.long xreadLow, Value.long xreadRange, Value.ref ri, Value.ref ro, Value.ref rw, Value.int xasked]))] sz (fun (r : Int32) (u : Unit) => r = -4) (fun (u : Unit) => [(rc, Sum.inr (6, [Value.ref co, Value.ref ma, Value.int (nI k), Value.int (nI ki), Value.int 0, Value.int frd, Value.int fbd, Value.int fir])), (co, Sum.inr (2, [Value.long xlow, Value.long xrange, Value.long xcode, Value.long xreadLow, Value.long xreadRange, Value.ref ri, Value.ref ro, Value.ref rw, Value.int xasked]))]) 0 0 := by
  refine my_ofI (cc := prog_1_method_5_code) (n := 3) (ret := (some .int)) (by decide) rfl (Nat.le_of_ble_eq_true rfl) ?_
  intro p e s m args below meth c R Q A ls H locs hx hb hr hts hown hlocks hml hnm hR hQ hA hl hP hK hN hD hS
  have hg : ∀ w ∈ gw, w.before args s = true := fun w h => hts w (List.mem_cons_of_mem _ h)
  have hown : s.vm.findClass "RangeCoders" = some m.cls := hown
  have hl : lv_has ls 3 [(0, Value.ref rc), (1, Value.int (nI v)), (2, Value.int (nI b))] := hl
  have hpw : 2 ^ b ≤ 2 ^ 12 := Nat.pow_le_pow_right (by decide) (by omega)
  have hpw0 : 0 < 2 ^ b := Nat.pow_pos (by decide)
  refine lv_aload_n hx hb d_RC_bits_0 rfl (lv_at hl 0 rfl) ?_
  refine va_get (D := (dC, dI)) (ci := 6) (v := .ref co) (C := "RangeCoders") (T := T_RC) (N := 8) hx hb hg in_RC hown hK hP 0 rfl rfl 0 (by decide) (hg _ k258) (fun _ h9 => h9) rfl d_RC_bits_1 ?_
  refine lv_iload_n hx hb d_RC_bits_4 rfl (lv_at hl 2 rfl) ?_
  refine my_ci (wr := [(rc, Sum.inr (6, [Value.ref co, Value.ref ma, Value.int (nI k), Value.int (nI ki), Value.int 0, Value.int frd, Value.int fbd, Value.int fir]))]) (va_runU (As := [Value.int (nI b)]) (rest := []) ⟨hx, hb, hml, hown, hts⟩ (f_NoCarries_hasWidth l dC dI cI cM cO H.size co xlow xrange xcode xreadLow xreadRange ri ro rw xasked (nI b)) (va_cwU 1 hts (my_gU k543 k545 k548 k544 k3 k553) rfl rfl rfl rfl (by decide +kernel) ⟨by rw [hR]; exact Nat.le_of_ble_eq_true rfl, by rw [hR]; exact Nat.le_of_ble_eq_true rfl⟩) (my_preV hK hN (hP.sub [1] rfl) (hD.sub [1] (by decide +kernel) rfl) 0 rfl rfl) rfl rfl hl.1 rfl (lv_room (Nat.le_of_ble_eq_true rfl)) d_RC_bits_5 ⟨by rw [hR]; exact Nat.le_of_ble_eq_true rfl, by rw [hR]; exact Nat.le_of_ble_eq_true rfl⟩) hP hD hS hA [1] [0] rfl rfl (by decide +kernel) (by decide +kernel) (fun r_5 u9 H locs hw_5 hP hD hS => ?_)
  have hr_5 : r_5 = if 1 ≤ (nI b) ∧ (nI b) ≤ nI 12 then 1 else 0 := hw_5
  have hPD : my_PD (dC, dI) vwCl A [(rc, Sum.inr (6, [Value.ref co, Value.ref ma, Value.int (nI k), Value.int (nI ki), Value.int 0, Value.int frd, Value.int fbd, Value.int fir])), (co, Sum.inr (2, [Value.long xlow, Value.long xrange, Value.long xcode, Value.long xreadLow, Value.long xreadRange, Value.ref ri, Value.ref ro, Value.ref rw, Value.int xasked]))] H := ⟨hP, hD⟩
  have hP := hPD.1
  have hD := hPD.2
  refine lv_if_eq (tgt := 22) hx hb d_RC_bits_8 (by decide) (fun c_1 => ?_) (fun c_1 => ?_)
  · exact absurd (show 1 ≤ nI b ∧ nI b ≤ nI 12 from ⟨nI_le (a := 1) hb1 (by omega), nI_le hb2 (by decide)⟩) (one_eq hr_5 c_1)
  · refine lv_iload_n hx hb d_RC_bits_11 rfl (lv_at hl 1 rfl) ?_
    refine lv_if_lt (tgt := 22) hx hb d_RC_bits_12 (by decide) (fun c_2 => ?_) (fun c_2 => ?_)
    · exact absurd c_2 (nI_pos (by omega))
    · refine lv_iload_n hx hb d_RC_bits_15 rfl (lv_at hl 1 rfl) ?_
      refine lv_iconst (v := 1) hx hb d_RC_bits_16 (by decide) ?_
      refine lv_iload_n hx hb d_RC_bits_17 rfl (lv_at hl 2 rfl) ?_
      refine lv_ishl hx hb d_RC_bits_18 ?_
      refine lv_topi (fun v_3 ev_3 => ?_)
      have z9 : v_3 = nI (2 ^ b) := by rw [ev_3]; exact shl1 b (by omega)
      subst z9
      refine lv_icmp_lt (tgt := 25) hx hb d_RC_bits_19 (by decide) (fun c_4 => ?_) (fun c_4 => ?_)
      · refine lv_aload_n hx hb d_RC_bits_25 rfl (lv_at hl 0 rfl) ?_
        refine va_get (D := (dC, dI)) (ci := 6) (v := .int 0) (C := "RangeCoders") (T := T_RC) (N := 8) hx hb hg in_RC hown hK hP 0 rfl rfl 4 (by decide) (hg _ k262) (fun _ h9 => h9) rfl d_RC_bits_26 ?_
        refine lv_if_eq (tgt := 35) hx hb d_RC_bits_29 (by decide) (fun c_5 => ?_) (fun c_5 => ?_)
        · refine lv_aload_n hx hb d_RC_bits_35 rfl (lv_at hl 0 rfl) ?_
          refine va_get (D := (dC, dI)) (ci := 6) (v := .int (nI ki)) (C := "RangeCoders") (T := T_RC) (N := 8) hx hb hg in_RC hown hK hP 0 rfl rfl 3 (by decide) (hg _ k261) (fun _ h9 => h9) rfl d_RC_bits_36 ?_
          refine lv_sipush (v := 600) hx hb d_RC_bits_39 (by decide) ?_
          refine lv_icmp_lt (tgt := 48) hx hb d_RC_bits_42 (by decide) (fun c_6 => ?_) (fun c_6 => ?_)
          · exact absurd c_6 (by rw [hk6]; decide)
          · refine lv_bipush (v := (-4)) hx hb d_RC_bits_45 (by decide) ?_
            exact my_iret (v := (-4)) hx hb hr (rfl) hlocks hQ hK hS (Nat.le_refl _) (Nat.le_refl _) () (rfl) (hP.sub [0, 1] rfl) (hD.sub [0, 1] (by decide +kernel) rfl) d_RC_bits_47
        · exact absurd (by decide) c_5
      · exact absurd (nI_lt hv (by omega)) c_4
set_option maxHeartbeats 2000000 in
set_option maxRecDepth 100000 in
theorem f_RC_bitsL_NoCarries (l : Launch) (dC : Nat → ClassId) (dI : Nat → Nat → Nat) (cI cM cO : ClassId) (sz : Nat) (sl : Nat) (rc : Nat) (ma : Nat) (k : Nat) (frd : Int32) (fbd : Int32) (fir : Int32) (mf : Nat → Option Nat) (co : Nat) (xcode : Int64) (xreadLow : Int64) (xreadRange : Int64) (ri : Nat) (ro : Nat) (rw : Nat) (xasked : Int32) (Rg : Nat) (L : Nat) (rwa : Nat) (rwk : Nat) (rwf : Nat → Int32) (bs : List Nat) (v : Nat) (b : Nat) (ki : Nat) (hki : ki < 600) (hb1 : 1 ≤ b) (hb2 : b ≤ 12) (hv : v < 2 ^ b) (hp : pOk Rg L) (hR6 : 65536 ≤ Rg) (hrw : rOk (nI bs.length) rwk) (hGrw : gIs rwf bs) (hN9 : bs.length + 5 ≤ 7900) : MetIg l y_RC_bits (Cond.code y_RC_bits prog_1_method_5_code 3 (some .int) :: gw) ({ frames := 6, cells := rPh rwk, slots := rPh rwk, locals := 151 } : Room) (dC, dI) vwCl (kT cI cM cO) [Value.ref rc, Value.int (nI v), Value.int (nI b)] [(rc, Sum.inr (6, [Value.ref co, Value.ref ma, Value.int (nI k), Value.int (nI ki), Value.int 0, Value.int frd, Value.int fbd, Value.int fir])), (co, Sum.inr (2, [Value.long (lN L), Value.long (lN Rg), Value.long xcode, Value.long xreadLow, Value.long xreadRange, Value.ref ri, Value.ref ro, Value.ref rw, Value.int xasked])), (rw, Sum.inr (0, [Value.int (nI bs.length), Value.ref rwa])), (rwa, Sum.inl (cI, rwk, Sum.inl rwf))] sz sl (fun (r : Int32) (u : Nat × Nat × (Nat → Int32)) => r = nI (ki + 1) ∧ rOk (nI ((plS (Rg / 2 ^ b * 1, L + Rg / 2 ^ b * v, bs)).2.2).length) u.2.1 ∧ gIs u.2.2 ((plS (Rg / 2 ^ b * 1, L + Rg / 2 ^ b * v, bs)).2.2)) (fun (u : Nat × Nat × (Nat → Int32)) => [(rc, Sum.inr (6, [Value.ref co, Value.ref ma, Value.int (nI k), Value.int (nI (ki + 1)), Value.int 0, Value.int frd, Value.int fbd, Value.int fir])), (co, Sum.inr (2, [Value.long (lN (plS (Rg / 2 ^ b * 1, L + Rg / 2 ^ b * v, bs)).2.1), Value.long (lN (plS (Rg / 2 ^ b * 1, L + Rg / 2 ^ b * v, bs)).1), Value.long xcode, Value.long xreadLow, Value.long xreadRange, Value.ref ri, Value.ref ro, Value.ref rw, Value.int xasked])), (rw, Sum.inr (0, [Value.int (nI (plS (Rg / 2 ^ b * 1, L + Rg / 2 ^ b * v, bs)).2.2.length), Value.ref u.1])), (u.1, Sum.inl (cI, u.2.1, Sum.inl u.2.2))]) (rPh rwk) (fun (u : Nat × Nat × (Nat → Int32)) => rPh u.2.1) := by
  refine my_ofIg (cc := prog_1_method_5_code) (n := 3) (ret := (some .int)) (by decide) rfl (Nat.le_of_ble_eq_true rfl) ?_
  intro p e s m args below meth c R Q A ls H locs hx hb hr hts hown hlocks hml hnm hR hQ hA hl hP hK hN hD hS
  have hg : ∀ w ∈ gw, w.before args s = true := fun w h => hts w (List.mem_cons_of_mem _ h)
  have hown : s.vm.findClass "RangeCoders" = some m.cls := hown
  have hl : lv_has ls 3 [(0, Value.ref rc), (1, Value.int (nI v)), (2, Value.int (nI b))] := hl
  have hltw := rOk_lt hrw
  have hpw : 2 ^ b ≤ 2 ^ 12 := Nat.pow_le_pow_right (by decide) (by omega)
  have hpw0 : 0 < 2 ^ b := Nat.pow_pos (by decide)
  refine lv_aload_n hx hb d_RC_bits_0 rfl (lv_at hl 0 rfl) ?_
  refine va_get (D := (dC, dI)) (ci := 6) (v := .ref co) (C := "RangeCoders") (T := T_RC) (N := 8) hx hb hg in_RC hown hK hP 0 rfl rfl 0 (by decide) (hg _ k258) (fun _ h9 => h9) rfl d_RC_bits_1 ?_
  refine lv_iload_n hx hb d_RC_bits_4 rfl (lv_at hl 2 rfl) ?_
  refine my_ci (wr := [(rc, Sum.inr (6, [Value.ref co, Value.ref ma, Value.int (nI k), Value.int (nI ki), Value.int 0, Value.int frd, Value.int fbd, Value.int fir])), (rw, Sum.inr (0, [Value.int (nI bs.length), Value.ref rwa])), (rwa, Sum.inl (cI, rwk, Sum.inl rwf))]) (va_runU (As := [Value.int (nI b)]) (rest := []) ⟨hx, hb, hml, hown, hts⟩ (f_NoCarries_hasWidth l dC dI cI cM cO H.size co (lN L) (lN Rg) xcode xreadLow xreadRange ri ro rw xasked (nI b)) (va_cwU 1 hts (my_gU k543 k545 k548 k544 k3 k553) rfl rfl rfl rfl (by decide +kernel) ⟨by rw [hR]; exact Nat.le_of_ble_eq_true rfl, by rw [hR]; exact Nat.le_of_ble_eq_true rfl⟩) (my_preV hK hN (hP.sub [1] rfl) (hD.sub [1] (by decide +kernel) rfl) 0 rfl rfl) rfl rfl hl.1 rfl (lv_room (Nat.le_of_ble_eq_true rfl)) d_RC_bits_5 ⟨by rw [hR]; exact (show 0 + 0 ≤ (rPh rwk) by omega), by rw [hR]; exact (show 0 + 0 ≤ (rPh rwk) by omega)⟩) hP hD hS hA [1] [0, 2, 3] rfl rfl (by decide +kernel) (by decide +kernel) (fun r_5 u9 H locs hw_5 hP hD hS => ?_)
  have hr_5 : r_5 = if 1 ≤ (nI b) ∧ (nI b) ≤ nI 12 then 1 else 0 := hw_5
  have hPD : my_PD (dC, dI) vwCl A [(rc, Sum.inr (6, [Value.ref co, Value.ref ma, Value.int (nI k), Value.int (nI ki), Value.int 0, Value.int frd, Value.int fbd, Value.int fir])), (rw, Sum.inr (0, [Value.int (nI bs.length), Value.ref rwa])), (rwa, Sum.inl (cI, rwk, Sum.inl rwf)), (co, Sum.inr (2, [Value.long (lN L), Value.long (lN Rg), Value.long xcode, Value.long xreadLow, Value.long xreadRange, Value.ref ri, Value.ref ro, Value.ref rw, Value.int xasked]))] H := ⟨hP, hD⟩
  have hP := hPD.1
  have hD := hPD.2
  refine lv_if_eq (tgt := 22) hx hb d_RC_bits_8 (by decide) (fun c_1 => ?_) (fun c_1 => ?_)
  · exact absurd (show 1 ≤ nI b ∧ nI b ≤ nI 12 from ⟨nI_le (a := 1) hb1 (by omega), nI_le hb2 (by decide)⟩) (one_eq hr_5 c_1)
  · refine lv_iload_n hx hb d_RC_bits_11 rfl (lv_at hl 1 rfl) ?_
    refine lv_if_lt (tgt := 22) hx hb d_RC_bits_12 (by decide) (fun c_2 => ?_) (fun c_2 => ?_)
    · exact absurd c_2 (nI_pos (by omega))
    · refine lv_iload_n hx hb d_RC_bits_15 rfl (lv_at hl 1 rfl) ?_
      refine lv_iconst (v := 1) hx hb d_RC_bits_16 (by decide) ?_
      refine lv_iload_n hx hb d_RC_bits_17 rfl (lv_at hl 2 rfl) ?_
      refine lv_ishl hx hb d_RC_bits_18 ?_
      refine lv_topi (fun v_3 ev_3 => ?_)
      have z9 : v_3 = nI (2 ^ b) := by rw [ev_3]; exact shl1 b (by omega)
      subst z9
      refine lv_icmp_lt (tgt := 25) hx hb d_RC_bits_19 (by decide) (fun c_4 => ?_) (fun c_4 => ?_)
      · refine lv_aload_n hx hb d_RC_bits_25 rfl (lv_at hl 0 rfl) ?_
        refine va_get (D := (dC, dI)) (ci := 6) (v := .int 0) (C := "RangeCoders") (T := T_RC) (N := 8) hx hb hg in_RC hown hK hP 0 rfl rfl 4 (by decide) (hg _ k262) (fun _ h9 => h9) rfl d_RC_bits_26 ?_
        refine lv_if_eq (tgt := 35) hx hb d_RC_bits_29 (by decide) (fun c_5 => ?_) (fun c_5 => ?_)
        · refine lv_aload_n hx hb d_RC_bits_35 rfl (lv_at hl 0 rfl) ?_
          refine va_get (D := (dC, dI)) (ci := 6) (v := .int (nI ki)) (C := "RangeCoders") (T := T_RC) (N := 8) hx hb hg in_RC hown hK hP 0 rfl rfl 3 (by decide) (hg _ k261) (fun _ h9 => h9) rfl d_RC_bits_36 ?_
          refine lv_sipush (v := 600) hx hb d_RC_bits_39 (by decide) ?_
          refine lv_icmp_lt (tgt := 48) hx hb d_RC_bits_42 (by decide) (fun c_6 => ?_) (fun c_6 => ?_)
          · refine lv_aload_n hx hb d_RC_bits_48 rfl (lv_at hl 0 rfl) ?_
            refine va_get (D := (dC, dI)) (ci := 6) (v := .ref co) (C := "RangeCoders") (T := T_RC) (N := 8) hx hb hg in_RC hown hK hP 0 rfl rfl 0 (by decide) (hg _ k258) (fun _ h9 => h9) rfl d_RC_bits_49 ?_
            refine lv_iload_n hx hb d_RC_bits_52 rfl (lv_at hl 1 rfl) ?_
            refine lv_iload_n hx hb d_RC_bits_53 rfl (lv_at hl 2 rfl) ?_
            refine my_cvg (wr := [(rc, Sum.inr (6, [Value.ref co, Value.ref ma, Value.int (nI k), Value.int (nI ki), Value.int 0, Value.int frd, Value.int fbd, Value.int fir]))]) (va_runU (As := [Value.int (nI v), Value.int (nI b)]) (rest := []) ⟨hx, hb, hml, hown, hts⟩ (f_NoCarries_writeValue l dC dI cI cM cO H.size (hSl H) co xcode xreadLow xreadRange ri ro rw xasked Rg L rwa rwk rwf bs v b (hb1) (hb2) (hv) (by first | assumption | omega) (by first | assumption | omega) (by first | assumption | omega) (by first | assumption | omega) (by first | assumption | omega)) (va_cwA 2 hts (my_gU k554 k556 k563 k561 k4 k562) rfl rfl rfl (hN.1 _ j555 rfl) (by decide +kernel) ⟨by rw [hR]; exact Nat.le_of_ble_eq_true rfl, by rw [hR]; exact Nat.le_of_ble_eq_true rfl⟩) (my_preVg hK hN (hP.sub [3, 1, 2] rfl) (hD.sub [3, 1, 2] (by decide +kernel) rfl) 0 rfl rfl) rfl rfl hl.1 rfl (lv_room (Nat.le_of_ble_eq_true rfl)) d_RC_bits_54 ⟨by rw [hR]; exact (show 0 + (rPh rwk) ≤ (rPh rwk) by omega), by rw [hR]; exact (show 0 + (rPh rwk) ≤ (rPh rwk) by omega)⟩) hP hD hS hA [3, 1, 2] [0] rfl rfl (by decide +kernel) (by decide +kernel) (fun u9 d_54 H locs hd_54 hw_54 hP hD hS => ?_)
            obtain ⟨rwaq_54, rwkq_54, rwfq_54⟩ := u9
            obtain ⟨hrw_54, hGrw_54⟩ : rOk (nI ((plS (Rg / 2 ^ b * 1, L + Rg / 2 ^ b * v, bs)).2.2).length) rwkq_54 ∧ gIs rwfq_54 ((plS (Rg / 2 ^ b * 1, L + Rg / 2 ^ b * v, bs)).2.2) := hw_54
            have hd_54 : d_54 + (rPh rwkq_54) ≤ (rPh rwk) := hd_54
            have hPD : my_PD (dC, dI) vwCl A [(rc, Sum.inr (6, [Value.ref co, Value.ref ma, Value.int (nI k), Value.int (nI ki), Value.int 0, Value.int frd, Value.int fbd, Value.int fir])), (co, Sum.inr (2, [Value.long (lN (plS (Rg / 2 ^ b * 1, L + Rg / 2 ^ b * v, bs)).2.1), Value.long (lN (plS (Rg / 2 ^ b * 1, L + Rg / 2 ^ b * v, bs)).1), Value.long xcode, Value.long xreadLow, Value.long xreadRange, Value.ref ri, Value.ref ro, Value.ref rw, Value.int xasked])), (rw, Sum.inr (0, [Value.int (nI (plS (Rg / 2 ^ b * 1, L + Rg / 2 ^ b * v, bs)).2.2.length), Value.ref rwaq_54])), (rwaq_54, Sum.inl (cI, rwkq_54, Sum.inl rwfq_54))] H := ⟨hP, hD⟩
            have hP := hPD.1
            have hD := hPD.2
            refine lv_aload_n hx hb d_RC_bits_57 rfl (lv_at hl 0 rfl) ?_
            refine lv_dup hx hb d_RC_bits_58 rfl ?_
            refine va_get (D := (dC, dI)) (ci := 6) (v := .int (nI ki)) (C := "RangeCoders") (T := T_RC) (N := 8) hx hb hg in_RC hown hK hP 0 rfl rfl 3 (by decide) (hg _ k261) (fun _ h9 => h9) rfl d_RC_bits_59 ?_
            refine lv_iconst (v := 1) hx hb d_RC_bits_62 (by decide) ?_
            refine lv_iadd hx hb d_RC_bits_63 ?_
            refine lv_topi (fun v_7 ev_7 => ?_)
            have z9 : v_7 = nI (ki + 1) := by rw [ev_7]; exact nI_1 _
            subst z9
            refine va_put (D := (dC, dI)) (ci := 6) (v := .int (nI (ki + 1))) (ty := .int) (C := "RangeCoders") (T := T_RC) (N := 8) hx hb hg in_RC t_RC o_RC n_RC hown hK hP hD hS 0 rfl rfl 3 (by decide) (hg _ k261) (fun _ h9 => h9) rfl (o_RC 3 (by decide)) rfl rfl (Nat.le_of_ble_eq_true rfl) d_RC_bits_64 (fun H locs hP hD hS => ?_)
            have hPD : my_PD (dC, dI) vwCl A [(rc, Sum.inr (6, [Value.ref co, Value.ref ma, Value.int (nI k), Value.int (nI (ki + 1)), Value.int 0, Value.int frd, Value.int fbd, Value.int fir])), (co, Sum.inr (2, [Value.long (lN (plS (Rg / 2 ^ b * 1, L + Rg / 2 ^ b * v, bs)).2.1), Value.long (lN (plS (Rg / 2 ^ b * 1, L + Rg / 2 ^ b * v, bs)).1), Value.long xcode, Value.long xreadLow, Value.long xreadRange, Value.ref ri, Value.ref ro, Value.ref rw, Value.int xasked])), (rw, Sum.inr (0, [Value.int (nI (plS (Rg / 2 ^ b * 1, L + Rg / 2 ^ b * v, bs)).2.2.length), Value.ref rwaq_54])), (rwaq_54, Sum.inl (cI, rwkq_54, Sum.inl rwfq_54))] H := ⟨hP, hD⟩
            have hP := hPD.1
            have hD := hPD.2
            refine lv_aload_n hx hb d_RC_bits_67 rfl (lv_at hl 0 rfl) ?_
            refine va_get (D := (dC, dI)) (ci := 6) (v := .int (nI (ki + 1))) (C := "RangeCoders") (T := T_RC) (N := 8) hx hb hg in_RC hown hK hP 0 rfl rfl 3 (by decide) (hg _ k261) (fun _ h9 => h9) rfl d_RC_bits_68 ?_
            exact my_iretg (v := (nI (ki + 1))) hx hb hr (rfl) hlocks hQ hK hS (rwaq_54, rwkq_54, rwfq_54) (show (0 + d_54) + (rPh rwkq_54) ≤ (rPh rwk) by omega) (show (0 + d_54) + (rPh rwkq_54) ≤ (rPh rwk) by omega) (⟨rfl, hrw_54, hGrw_54⟩) (hP.sub [0, 1, 2, 3] rfl) (hD.sub [0, 1, 2, 3] (by decide +kernel) rfl) d_RC_bits_71
          · exact absurd (nI_lt (b := 600) hki (by decide)) c_6
        · exact absurd (by decide) c_5
      · exact absurd (nI_lt hv (by omega)) c_4
set_option maxHeartbeats 2000000 in
set_option maxRecDepth 100000 in
theorem f_RC_putZ_NoCarries (l : Launch) (dC : Nat → ClassId) (dI : Nat → Nat → Nat) (cI cM cO : ClassId) (sz : Nat) (rc : Nat) (ma : Nat) (k : Nat) (fit : Int32) (frd : Int32) (fbd : Int32) (fir : Int32) (mf : Nat → Option Nat) (co : Nat) (xlow : Int64) (xrange : Int64) (xcode : Int64) (xreadLow : Int64) (xreadRange : Int64) (ri : Nat) (ro : Nat) (rw : Nat) (xasked : Int32) (j : Nat) (mo : Nat) (o2 : Nat) (ka : Nat) (kf : Nat → Int32) (oo : Nat) (osg : Int32) (ofc : Int32) (oca : Nat) (opa : Nat) (n : Nat) (ocf : Nat → Int32) (opl : Nat) (opf : Nat → Int32) (F : Nat → Nat) (osm : Int32) (t : Nat) (hk8 : k ≤ 8) (hj : j < k) (hmf : mf j = some mo) (hkl : n ≤ 64) (hn : n ≤ 64) (hpl : opl ≤ 512) (hf : tbI ocf n F) (ht : t < n) (hfc : ofc ≤ nI t) (hFb : F t < 2 ^ 31) (hz : F t = 0) : MetI l y_RC_put (Cond.code y_RC_put prog_1_method_4_code 4 (some .int) :: gw) ({ frames := 3, cells := 0, slots := 0, locals := 64 } : Room) (dC, dI) vwCl (kT cI cM cO) [Value.ref rc, Value.int (nI j), Value.int (nI t)] [(rc, Sum.inr (6, [Value.ref co, Value.ref ma, Value.int (nI k), Value.int fit, Value.int 0, Value.int frd, Value.int fbd, Value.int fir])), (ma, Sum.inl (cM, 8, Sum.inr (Sum.inr (Sum.inr (Sum.inr mf))))), (co, Sum.inr (2, [Value.long xlow, Value.long xrange, Value.long xcode, Value.long xreadLow, Value.long xreadRange, Value.ref ri, Value.ref ro, Value.ref rw, Value.int xasked])), (mo, Sum.inr (8, [Value.ref ka, Value.ref oo, Value.ref o2])), (ka, Sum.inl (cI, n, Sum.inl kf)), (oo, Sum.inr (7, [Value.int osg, Value.int osm, Value.int ofc, Value.ref oca, Value.ref opa])), (oca, Sum.inl (cI, n, Sum.inl ocf)), (opa, Sum.inl (cI, opl, Sum.inl opf))] sz (fun (r : Int32) (u : Unit) => r = -3) (fun (u : Unit) => [(rc, Sum.inr (6, [Value.ref co, Value.ref ma, Value.int (nI k), Value.int fit, Value.int 0, Value.int frd, Value.int fbd, Value.int fir])), (ma, Sum.inl (cM, 8, Sum.inr (Sum.inr (Sum.inr (Sum.inr mf))))), (co, Sum.inr (2, [Value.long xlow, Value.long xrange, Value.long xcode, Value.long xreadLow, Value.long xreadRange, Value.ref ri, Value.ref ro, Value.ref rw, Value.int xasked])), (mo, Sum.inr (8, [Value.ref ka, Value.ref oo, Value.ref o2])), (ka, Sum.inl (cI, n, Sum.inl kf)), (oo, Sum.inr (7, [Value.int osg, Value.int osm, Value.int ofc, Value.ref oca, Value.ref opa])), (oca, Sum.inl (cI, n, Sum.inl ocf)), (opa, Sum.inl (cI, opl, Sum.inl opf))]) 0 0 := by
  refine my_ofI (cc := prog_1_method_4_code) (n := 4) (ret := (some .int)) (by decide) rfl (Nat.le_of_ble_eq_true rfl) ?_
  intro p e s m args below meth c R Q A ls H locs hx hb hr hts hown hlocks hml hnm hR hQ hA hl hP hK hN hD hS
  have hg : ∀ w ∈ gw, w.before args s = true := fun w h => hts w (List.mem_cons_of_mem _ h)
  have hown : s.vm.findClass "RangeCoders" = some m.cls := hown
  have hl : lv_has ls 4 [(0, Value.ref rc), (1, Value.int (nI j)), (2, Value.int (nI t))] := hl
  refine lv_aload_n hx hb d_RC_put_0 rfl (lv_at hl 0 rfl) ?_
  refine lv_iload_n hx hb d_RC_put_1 rfl (lv_at hl 1 rfl) ?_
  refine my_cq (wr := [(co, Sum.inr (2, [Value.long xlow, Value.long xrange, Value.long xcode, Value.long xreadLow, Value.long xreadRange, Value.ref ri, Value.ref ro, Value.ref rw, Value.int xasked])), (mo, Sum.inr (8, [Value.ref ka, Value.ref oo, Value.ref o2])), (ka, Sum.inl (cI, n, Sum.inl kf)), (oo, Sum.inr (7, [Value.int osg, Value.int osm, Value.int ofc, Value.ref oca, Value.ref opa])), (oca, Sum.inl (cI, n, Sum.inl ocf)), (opa, Sum.inl (cI, opl, Sum.inl opf))]) (va_runV (As := [Value.int (nI j)]) (rest := []) ⟨hx, hb, hml, hown, hts⟩ (c_RC_modelAtB l dC dI cI cM cO H.size rc ma k fit 0 frd fbd fir mf co j mo (by first | assumption | omega) (by first | assumption | omega) (by first | assumption | omega)) (cwV 1 hts (my_gV k412 k414 ks3 k1 k415) rfl rfl rfl cu_RC_modelAt_1 ⟨by rw [hR]; exact Nat.le_of_ble_eq_true rfl, by rw [hR]; exact Nat.le_of_ble_eq_true rfl⟩) (my_preV hK hN (hP.sub [0, 1] rfl) (hD.sub [0, 1] (by decide +kernel) rfl) 0 rfl rfl) rfl rfl hl.1 rfl (lv_room (Nat.le_of_ble_eq_true rfl)) d_RC_put_2 ⟨by rw [hR]; exact Nat.le_of_ble_eq_true rfl, by rw [hR]; exact Nat.le_of_ble_eq_true rfl⟩) hP hD hS hA [0, 1] [2, 3, 4, 5, 6, 7] rfl rfl (by decide +kernel) (by decide +kernel) (fun r_2 u9 H locs hw_2 hP hD hS => ?_)
  have hr_2 : r_2 = some mo := hw_2
  have hPD : my_PD (dC, dI) vwCl A [(co, Sum.inr (2, [Value.long xlow, Value.long xrange, Value.long xcode, Value.long xreadLow, Value.long xreadRange, Value.ref ri, Value.ref ro, Value.ref rw, Value.int xasked])), (mo, Sum.inr (8, [Value.ref ka, Value.ref oo, Value.ref o2])), (ka, Sum.inl (cI, n, Sum.inl kf)), (oo, Sum.inr (7, [Value.int osg, Value.int osm, Value.int ofc, Value.ref oca, Value.ref opa])), (oca, Sum.inl (cI, n, Sum.inl ocf)), (opa, Sum.inl (cI, opl, Sum.inl opf)), (rc, Sum.inr (6, [Value.ref co, Value.ref ma, Value.int (nI k), Value.int fit, Value.int 0, Value.int frd, Value.int fbd, Value.int fir])), (ma, Sum.inl (cM, 8, Sum.inr (Sum.inr (Sum.inr (Sum.inr mf)))))] H := ⟨hP, hD⟩
  have hP := hPD.1
  have hD := hPD.2
  subst hr_2
  refine W.eq (g2 := F0 m 5 ls [Value.ref mo]) rfl ?_
  refine lv_astore_n (lv' := [(3, Value.ref mo), (0, Value.ref rc), (1, Value.int (nI j)), (2, Value.int (nI t))]) hx hb d_RC_put_5 rfl hl (by decide) rfl (fun ls hl => ?_)
  refine lv_aload_n hx hb d_RC_put_6 rfl (lv_at hl 0 rfl) ?_
  refine lv_ifnull hx hb d_RC_put_7 ?_
  refine lv_aload_n hx hb d_RC_put_10 rfl (lv_at hl 0 rfl) ?_
  refine lv_iload_n hx hb d_RC_put_11 rfl (lv_at hl 3 rfl) ?_
  refine my_ci (wr := [(co, Sum.inr (2, [Value.long xlow, Value.long xrange, Value.long xcode, Value.long xreadLow, Value.long xreadRange, Value.ref ri, Value.ref ro, Value.ref rw, Value.int xasked])), (oo, Sum.inr (7, [Value.int osg, Value.int osm, Value.int ofc, Value.ref oca, Value.ref opa])), (oca, Sum.inl (cI, n, Sum.inl ocf)), (opa, Sum.inl (cI, opl, Sum.inl opf)), (rc, Sum.inr (6, [Value.ref co, Value.ref ma, Value.int (nI k), Value.int fit, Value.int 0, Value.int frd, Value.int fbd, Value.int fir])), (ma, Sum.inl (cM, 8, Sum.inr (Sum.inr (Sum.inr (Sum.inr mf)))))]) (va_runV (As := [Value.int (nI t)]) (rest := []) ⟨hx, hb, hml, hown, hts⟩ (f_Model_hasSign l dC dI cI cM cO H.size mo ka oo o2 n kf (nI t) (by first | assumption | omega)) (cwV 1 hts (my_gV k416 k417 k418 k13 k419) rfl rfl rfl cu_Model_hasSign_1 ⟨by rw [hR]; exact Nat.le_of_ble_eq_true rfl, by rw [hR]; exact Nat.le_of_ble_eq_true rfl⟩) (my_preV hK hN (hP.sub [1, 2] rfl) (hD.sub [1, 2] (by decide +kernel) rfl) 0 rfl rfl) rfl rfl hl.1 rfl (lv_room (Nat.le_of_ble_eq_true rfl)) d_RC_put_12 ⟨by rw [hR]; exact Nat.le_of_ble_eq_true rfl, by rw [hR]; exact Nat.le_of_ble_eq_true rfl⟩) hP hD hS hA [1, 2] [0, 3, 4, 5, 6, 7] rfl rfl (by decide +kernel) (by decide +kernel) (fun r_12 u9 H locs hw_12 hP hD hS => ?_)
  have hr_12 : r_12 = if 0 ≤ (nI t) ∧ (nI t) < nI n then 1 else 0 := hw_12
  have hPD : my_PD (dC, dI) vwCl A [(co, Sum.inr (2, [Value.long xlow, Value.long xrange, Value.long xcode, Value.long xreadLow, Value.long xreadRange, Value.ref ri, Value.ref ro, Value.ref rw, Value.int xasked])), (oo, Sum.inr (7, [Value.int osg, Value.int osm, Value.int ofc, Value.ref oca, Value.ref opa])), (oca, Sum.inl (cI, n, Sum.inl ocf)), (opa, Sum.inl (cI, opl, Sum.inl opf)), (rc, Sum.inr (6, [Value.ref co, Value.ref ma, Value.int (nI k), Value.int fit, Value.int 0, Value.int frd, Value.int fbd, Value.int fir])), (ma, Sum.inl (cM, 8, Sum.inr (Sum.inr (Sum.inr (Sum.inr mf))))), (mo, Sum.inr (8, [Value.ref ka, Value.ref oo, Value.ref o2])), (ka, Sum.inl (cI, n, Sum.inl kf))] H := ⟨hP, hD⟩
  have hP := hPD.1
  have hD := hPD.2
  refine lv_if_ne (tgt := 20) hx hb d_RC_put_15 (by decide) (fun c_1 => ?_) (fun c_1 => ?_)
  · refine lv_aload_n hx hb d_RC_put_20 rfl (lv_at hl 1 rfl) ?_
    refine va_get (D := (dC, dI)) (ci := 6) (v := .int 0) (C := "RangeCoders") (T := T_RC) (N := 8) hx hb hg in_RC hown hK hP 4 rfl rfl 4 (by decide) (hg _ k262) (fun _ h9 => h9) rfl d_RC_put_21 ?_
    refine lv_if_ne (tgt := 42) hx hb d_RC_put_24 (by decide) (fun c_2 => ?_) (fun c_2 => ?_)
    · exact absurd rfl c_2
    · refine lv_aload_n hx hb d_RC_put_27 rfl (lv_at hl 1 rfl) ?_
      refine va_get (D := (dC, dI)) (ci := 6) (v := .ref co) (C := "RangeCoders") (T := T_RC) (N := 8) hx hb hg in_RC hown hK hP 4 rfl rfl 0 (by decide) (hg _ k258) (fun _ h9 => h9) rfl d_RC_put_28 ?_
      refine lv_aload_n hx hb d_RC_put_31 rfl (lv_at hl 0 rfl) ?_
      refine va_get (D := (dC, dI)) (ci := 8) (v := .ref oo) (C := "RangeCoders$Model") (T := T_Model) (N := 3) hx hb hg in_Model hown hK hP 6 rfl rfl 1 (by decide) (hg _ k343) (fun _ h9 => h9) rfl d_RC_put_32 ?_
      refine lv_iload_n hx hb d_RC_put_35 rfl (lv_at hl 3 rfl) ?_
      refine my_ci (wr := [(rc, Sum.inr (6, [Value.ref co, Value.ref ma, Value.int (nI k), Value.int fit, Value.int 0, Value.int frd, Value.int fbd, Value.int fir])), (ma, Sum.inl (cM, 8, Sum.inr (Sum.inr (Sum.inr (Sum.inr mf))))), (mo, Sum.inr (8, [Value.ref ka, Value.ref oo, Value.ref o2])), (ka, Sum.inl (cI, n, Sum.inl kf))]) (va_runU (As := [Value.ref oo, Value.int (nI t)]) (rest := []) ⟨hx, hb, hml, hown, hts⟩ (f_NoCarries_canWrite l dC dI cI cM cO H.size co xlow xrange xcode xreadLow xreadRange ri ro rw xasked oo osg ofc oca opa n ocf opl opf F osm t (by first | assumption | omega) (by first | assumption | omega) (by first | assumption | omega) (by first | assumption | omega) (by first | assumption | omega) (by first | assumption | omega)) (va_cwU 2 hts (my_gU k424 k426 k431 k425 k3 k434) rfl rfl rfl rfl (by decide +kernel) ⟨by rw [hR]; exact Nat.le_of_ble_eq_true rfl, by rw [hR]; exact Nat.le_of_ble_eq_true rfl⟩) (my_preV hK hN (hP.sub [0, 1, 2, 3] rfl) (hD.sub [0, 1, 2, 3] (by decide +kernel) rfl) 0 rfl rfl) rfl rfl hl.1 rfl (lv_room (Nat.le_of_ble_eq_true rfl)) d_RC_put_36 ⟨by rw [hR]; exact Nat.le_of_ble_eq_true rfl, by rw [hR]; exact Nat.le_of_ble_eq_true rfl⟩) hP hD hS hA [0, 1, 2, 3] [4, 5, 6, 7] rfl rfl (by decide +kernel) (by decide +kernel) (fun r_36 u9 H locs hw_36 hP hD hS => ?_)
      have hr_36 : r_36 = if 0 < F t then 1 else 0 := hw_36
      have hPD : my_PD (dC, dI) vwCl A [(rc, Sum.inr (6, [Value.ref co, Value.ref ma, Value.int (nI k), Value.int fit, Value.int 0, Value.int frd, Value.int fbd, Value.int fir])), (ma, Sum.inl (cM, 8, Sum.inr (Sum.inr (Sum.inr (Sum.inr mf))))), (mo, Sum.inr (8, [Value.ref ka, Value.ref oo, Value.ref o2])), (ka, Sum.inl (cI, n, Sum.inl kf)), (co, Sum.inr (2, [Value.long xlow, Value.long xrange, Value.long xcode, Value.long xreadLow, Value.long xreadRange, Value.ref ri, Value.ref ro, Value.ref rw, Value.int xasked])), (oo, Sum.inr (7, [Value.int osg, Value.int osm, Value.int ofc, Value.ref oca, Value.ref opa])), (oca, Sum.inl (cI, n, Sum.inl ocf)), (opa, Sum.inl (cI, opl, Sum.inl opf))] H := ⟨hP, hD⟩
      have hP := hPD.1
      have hD := hPD.2
      refine lv_if_ne (tgt := 45) hx hb d_RC_put_39 (by decide) (fun c_3 => ?_) (fun c_3 => ?_)
      · exact absurd (one_ne hr_36 c_3) (by omega)
      · refine lv_bipush (v := (-3)) hx hb d_RC_put_42 (by decide) ?_
        exact my_iret (v := (-3)) hx hb hr (rfl) hlocks hQ hK hS (Nat.le_refl _) (Nat.le_refl _) () (rfl) (hP.sub [0, 1, 4, 2, 3, 5, 6, 7] rfl) (hD.sub [0, 1, 4, 2, 3, 5, 6, 7] (by decide +kernel) rfl) d_RC_put_44
  · exact absurd (has_in ht (by omega)) (one_eq hr_12 c_1)
set_option maxHeartbeats 2000000 in
set_option maxRecDepth 100000 in
theorem f_RC_putR_NoCarries (l : Launch) (dC : Nat → ClassId) (dI : Nat → Nat → Nat) (cI cM cO : ClassId) (sz : Nat) (rc : Nat) (ma : Nat) (k : Nat) (frd : Int32) (fbd : Int32) (fir : Int32) (mf : Nat → Option Nat) (co : Nat) (xlow : Int64) (xrange : Int64) (xcode : Int64) (xreadLow : Int64) (xreadRange : Int64) (ri : Nat) (ro : Nat) (rw : Nat) (xasked : Int32) (j : Nat) (mo : Nat) (o2 : Nat) (ka : Nat) (kf : Nat → Int32) (oo : Nat) (osg : Int32) (ofc : Int32) (oca : Nat) (opa : Nat) (n : Nat) (ocf : Nat → Int32) (opl : Nat) (opf : Nat → Int32) (F : Nat → Nat) (osm : Int32) (ki : Nat) (t : Nat) (hk8 : k ≤ 8) (hj : j < k) (hmf : mf j = some mo) (hkl : n ≤ 64) (hn : n ≤ 64) (hpl : opl ≤ 512) (hf : tbI ocf n F) (ht : t < n) (hfc : ofc ≤ nI t) (hFb : F t < 2 ^ 31) (hz : 0 < F t) (hk6 : ki = 600) : MetI l y_RC_put (Cond.code y_RC_put prog_1_method_4_code 4 (some .int) :: gw) ({ frames := 3, cells := 0, slots := 0, locals := 64 } : Room) (dC, dI) vwCl (kT cI cM cO) [Value.ref rc, Value.int (nI j), Value.int (nI t)] [(rc, Sum.inr (6, [Value.ref co, Value.ref ma, Value.int (nI k), Value.int (nI ki), Value.int 0, Value.int frd, Value.int fbd, Value.int fir])), (ma, Sum.inl (cM, 8, Sum.inr (Sum.inr (Sum.inr (Sum.inr mf))))), (co, Sum.inr (2, [Value.long xlow, Value.long xrange, Value.long xcode, Value.long xreadLow, Value.long xreadRange, Value.ref ri, Value.ref ro, Value.ref rw, Value.int xasked])), (mo, Sum.inr (8, [Value.ref ka, Value.ref oo, Value.ref o2])), (ka, Sum.inl (cI, n, Sum.inl kf)), (oo, Sum.inr (7, [Value.int osg, Value.int osm, Value.int ofc, Value.ref oca, Value.ref opa])), (oca, Sum.inl (cI, n, Sum.inl ocf)), (opa, Sum.inl (cI, opl, Sum.inl opf))] sz (fun (r : Int32) (u : Unit) => r = -4) (fun (u : Unit) => [(rc, Sum.inr (6, [Value.ref co, Value.ref ma, Value.int (nI k), Value.int (nI ki), Value.int 0, Value.int frd, Value.int fbd, Value.int fir])), (ma, Sum.inl (cM, 8, Sum.inr (Sum.inr (Sum.inr (Sum.inr mf))))), (co, Sum.inr (2, [Value.long xlow, Value.long xrange, Value.long xcode, Value.long xreadLow, Value.long xreadRange, Value.ref ri, Value.ref ro, Value.ref rw, Value.int xasked])), (mo, Sum.inr (8, [Value.ref ka, Value.ref oo, Value.ref o2])), (ka, Sum.inl (cI, n, Sum.inl kf)), (oo, Sum.inr (7, [Value.int osg, Value.int osm, Value.int ofc, Value.ref oca, Value.ref opa])), (oca, Sum.inl (cI, n, Sum.inl ocf)), (opa, Sum.inl (cI, opl, Sum.inl opf))]) 0 0 := by
  refine my_ofI (cc := prog_1_method_4_code) (n := 4) (ret := (some .int)) (by decide) rfl (Nat.le_of_ble_eq_true rfl) ?_
  intro p e s m args below meth c R Q A ls H locs hx hb hr hts hown hlocks hml hnm hR hQ hA hl hP hK hN hD hS
  have hg : ∀ w ∈ gw, w.before args s = true := fun w h => hts w (List.mem_cons_of_mem _ h)
  have hown : s.vm.findClass "RangeCoders" = some m.cls := hown
  have hl : lv_has ls 4 [(0, Value.ref rc), (1, Value.int (nI j)), (2, Value.int (nI t))] := hl
  refine lv_aload_n hx hb d_RC_put_0 rfl (lv_at hl 0 rfl) ?_
  refine lv_iload_n hx hb d_RC_put_1 rfl (lv_at hl 1 rfl) ?_
  refine my_cq (wr := [(co, Sum.inr (2, [Value.long xlow, Value.long xrange, Value.long xcode, Value.long xreadLow, Value.long xreadRange, Value.ref ri, Value.ref ro, Value.ref rw, Value.int xasked])), (mo, Sum.inr (8, [Value.ref ka, Value.ref oo, Value.ref o2])), (ka, Sum.inl (cI, n, Sum.inl kf)), (oo, Sum.inr (7, [Value.int osg, Value.int osm, Value.int ofc, Value.ref oca, Value.ref opa])), (oca, Sum.inl (cI, n, Sum.inl ocf)), (opa, Sum.inl (cI, opl, Sum.inl opf))]) (va_runV (As := [Value.int (nI j)]) (rest := []) ⟨hx, hb, hml, hown, hts⟩ (c_RC_modelAtB l dC dI cI cM cO H.size rc ma k (nI ki) 0 frd fbd fir mf co j mo (by first | assumption | omega) (by first | assumption | omega) (by first | assumption | omega)) (cwV 1 hts (my_gV k412 k414 ks3 k1 k415) rfl rfl rfl cu_RC_modelAt_1 ⟨by rw [hR]; exact Nat.le_of_ble_eq_true rfl, by rw [hR]; exact Nat.le_of_ble_eq_true rfl⟩) (my_preV hK hN (hP.sub [0, 1] rfl) (hD.sub [0, 1] (by decide +kernel) rfl) 0 rfl rfl) rfl rfl hl.1 rfl (lv_room (Nat.le_of_ble_eq_true rfl)) d_RC_put_2 ⟨by rw [hR]; exact Nat.le_of_ble_eq_true rfl, by rw [hR]; exact Nat.le_of_ble_eq_true rfl⟩) hP hD hS hA [0, 1] [2, 3, 4, 5, 6, 7] rfl rfl (by decide +kernel) (by decide +kernel) (fun r_2 u9 H locs hw_2 hP hD hS => ?_)
  have hr_2 : r_2 = some mo := hw_2
  have hPD : my_PD (dC, dI) vwCl A [(co, Sum.inr (2, [Value.long xlow, Value.long xrange, Value.long xcode, Value.long xreadLow, Value.long xreadRange, Value.ref ri, Value.ref ro, Value.ref rw, Value.int xasked])), (mo, Sum.inr (8, [Value.ref ka, Value.ref oo, Value.ref o2])), (ka, Sum.inl (cI, n, Sum.inl kf)), (oo, Sum.inr (7, [Value.int osg, Value.int osm, Value.int ofc, Value.ref oca, Value.ref opa])), (oca, Sum.inl (cI, n, Sum.inl ocf)), (opa, Sum.inl (cI, opl, Sum.inl opf)), (rc, Sum.inr (6, [Value.ref co, Value.ref ma, Value.int (nI k), Value.int (nI ki), Value.int 0, Value.int frd, Value.int fbd, Value.int fir])), (ma, Sum.inl (cM, 8, Sum.inr (Sum.inr (Sum.inr (Sum.inr mf)))))] H := ⟨hP, hD⟩
  have hP := hPD.1
  have hD := hPD.2
  subst hr_2
  refine W.eq (g2 := F0 m 5 ls [Value.ref mo]) rfl ?_
  refine lv_astore_n (lv' := [(3, Value.ref mo), (0, Value.ref rc), (1, Value.int (nI j)), (2, Value.int (nI t))]) hx hb d_RC_put_5 rfl hl (by decide) rfl (fun ls hl => ?_)
  refine lv_aload_n hx hb d_RC_put_6 rfl (lv_at hl 0 rfl) ?_
  refine lv_ifnull hx hb d_RC_put_7 ?_
  refine lv_aload_n hx hb d_RC_put_10 rfl (lv_at hl 0 rfl) ?_
  refine lv_iload_n hx hb d_RC_put_11 rfl (lv_at hl 3 rfl) ?_
  refine my_ci (wr := [(co, Sum.inr (2, [Value.long xlow, Value.long xrange, Value.long xcode, Value.long xreadLow, Value.long xreadRange, Value.ref ri, Value.ref ro, Value.ref rw, Value.int xasked])), (oo, Sum.inr (7, [Value.int osg, Value.int osm, Value.int ofc, Value.ref oca, Value.ref opa])), (oca, Sum.inl (cI, n, Sum.inl ocf)), (opa, Sum.inl (cI, opl, Sum.inl opf)), (rc, Sum.inr (6, [Value.ref co, Value.ref ma, Value.int (nI k), Value.int (nI ki), Value.int 0, Value.int frd, Value.int fbd, Value.int fir])), (ma, Sum.inl (cM, 8, Sum.inr (Sum.inr (Sum.inr (Sum.inr mf)))))]) (va_runV (As := [Value.int (nI t)]) (rest := []) ⟨hx, hb, hml, hown, hts⟩ (f_Model_hasSign l dC dI cI cM cO H.size mo ka oo o2 n kf (nI t) (by first | assumption | omega)) (cwV 1 hts (my_gV k416 k417 k418 k13 k419) rfl rfl rfl cu_Model_hasSign_1 ⟨by rw [hR]; exact Nat.le_of_ble_eq_true rfl, by rw [hR]; exact Nat.le_of_ble_eq_true rfl⟩) (my_preV hK hN (hP.sub [1, 2] rfl) (hD.sub [1, 2] (by decide +kernel) rfl) 0 rfl rfl) rfl rfl hl.1 rfl (lv_room (Nat.le_of_ble_eq_true rfl)) d_RC_put_12 ⟨by rw [hR]; exact Nat.le_of_ble_eq_true rfl, by rw [hR]; exact Nat.le_of_ble_eq_true rfl⟩) hP hD hS hA [1, 2] [0, 3, 4, 5, 6, 7] rfl rfl (by decide +kernel) (by decide +kernel) (fun r_12 u9 H locs hw_12 hP hD hS => ?_)
  have hr_12 : r_12 = if 0 ≤ (nI t) ∧ (nI t) < nI n then 1 else 0 := hw_12
  have hPD : my_PD (dC, dI) vwCl A [(co, Sum.inr (2, [Value.long xlow, Value.long xrange, Value.long xcode, Value.long xreadLow, Value.long xreadRange, Value.ref ri, Value.ref ro, Value.ref rw, Value.int xasked])), (oo, Sum.inr (7, [Value.int osg, Value.int osm, Value.int ofc, Value.ref oca, Value.ref opa])), (oca, Sum.inl (cI, n, Sum.inl ocf)), (opa, Sum.inl (cI, opl, Sum.inl opf)), (rc, Sum.inr (6, [Value.ref co, Value.ref ma, Value.int (nI k), Value.int (nI ki), Value.int 0, Value.int frd, Value.int fbd, Value.int fir])), (ma, Sum.inl (cM, 8, Sum.inr (Sum.inr (Sum.inr (Sum.inr mf))))), (mo, Sum.inr (8, [Value.ref ka, Value.ref oo, Value.ref o2])), (ka, Sum.inl (cI, n, Sum.inl kf))] H := ⟨hP, hD⟩
  have hP := hPD.1
  have hD := hPD.2
  refine lv_if_ne (tgt := 20) hx hb d_RC_put_15 (by decide) (fun c_1 => ?_) (fun c_1 => ?_)
  · refine lv_aload_n hx hb d_RC_put_20 rfl (lv_at hl 1 rfl) ?_
    refine va_get (D := (dC, dI)) (ci := 6) (v := .int 0) (C := "RangeCoders") (T := T_RC) (N := 8) hx hb hg in_RC hown hK hP 4 rfl rfl 4 (by decide) (hg _ k262) (fun _ h9 => h9) rfl d_RC_put_21 ?_
    refine lv_if_ne (tgt := 42) hx hb d_RC_put_24 (by decide) (fun c_2 => ?_) (fun c_2 => ?_)
    · exact absurd rfl c_2
    · refine lv_aload_n hx hb d_RC_put_27 rfl (lv_at hl 1 rfl) ?_
      refine va_get (D := (dC, dI)) (ci := 6) (v := .ref co) (C := "RangeCoders") (T := T_RC) (N := 8) hx hb hg in_RC hown hK hP 4 rfl rfl 0 (by decide) (hg _ k258) (fun _ h9 => h9) rfl d_RC_put_28 ?_
      refine lv_aload_n hx hb d_RC_put_31 rfl (lv_at hl 0 rfl) ?_
      refine va_get (D := (dC, dI)) (ci := 8) (v := .ref oo) (C := "RangeCoders$Model") (T := T_Model) (N := 3) hx hb hg in_Model hown hK hP 6 rfl rfl 1 (by decide) (hg _ k343) (fun _ h9 => h9) rfl d_RC_put_32 ?_
      refine lv_iload_n hx hb d_RC_put_35 rfl (lv_at hl 3 rfl) ?_
      refine my_ci (wr := [(rc, Sum.inr (6, [Value.ref co, Value.ref ma, Value.int (nI k), Value.int (nI ki), Value.int 0, Value.int frd, Value.int fbd, Value.int fir])), (ma, Sum.inl (cM, 8, Sum.inr (Sum.inr (Sum.inr (Sum.inr mf))))), (mo, Sum.inr (8, [Value.ref ka, Value.ref oo, Value.ref o2])), (ka, Sum.inl (cI, n, Sum.inl kf))]) (va_runU (As := [Value.ref oo, Value.int (nI t)]) (rest := []) ⟨hx, hb, hml, hown, hts⟩ (f_NoCarries_canWrite l dC dI cI cM cO H.size co xlow xrange xcode xreadLow xreadRange ri ro rw xasked oo osg ofc oca opa n ocf opl opf F osm t (by first | assumption | omega) (by first | assumption | omega) (by first | assumption | omega) (by first | assumption | omega) (by first | assumption | omega) (by first | assumption | omega)) (va_cwU 2 hts (my_gU k424 k426 k431 k425 k3 k434) rfl rfl rfl rfl (by decide +kernel) ⟨by rw [hR]; exact Nat.le_of_ble_eq_true rfl, by rw [hR]; exact Nat.le_of_ble_eq_true rfl⟩) (my_preV hK hN (hP.sub [0, 1, 2, 3] rfl) (hD.sub [0, 1, 2, 3] (by decide +kernel) rfl) 0 rfl rfl) rfl rfl hl.1 rfl (lv_room (Nat.le_of_ble_eq_true rfl)) d_RC_put_36 ⟨by rw [hR]; exact Nat.le_of_ble_eq_true rfl, by rw [hR]; exact Nat.le_of_ble_eq_true rfl⟩) hP hD hS hA [0, 1, 2, 3] [4, 5, 6, 7] rfl rfl (by decide +kernel) (by decide +kernel) (fun r_36 u9 H locs hw_36 hP hD hS => ?_)
      have hr_36 : r_36 = if 0 < F t then 1 else 0 := hw_36
      have hPD : my_PD (dC, dI) vwCl A [(rc, Sum.inr (6, [Value.ref co, Value.ref ma, Value.int (nI k), Value.int (nI ki), Value.int 0, Value.int frd, Value.int fbd, Value.int fir])), (ma, Sum.inl (cM, 8, Sum.inr (Sum.inr (Sum.inr (Sum.inr mf))))), (mo, Sum.inr (8, [Value.ref ka, Value.ref oo, Value.ref o2])), (ka, Sum.inl (cI, n, Sum.inl kf)), (co, Sum.inr (2, [Value.long xlow, Value.long xrange, Value.long xcode, Value.long xreadLow, Value.long xreadRange, Value.ref ri, Value.ref ro, Value.ref rw, Value.int xasked])), (oo, Sum.inr (7, [Value.int osg, Value.int osm, Value.int ofc, Value.ref oca, Value.ref opa])), (oca, Sum.inl (cI, n, Sum.inl ocf)), (opa, Sum.inl (cI, opl, Sum.inl opf))] H := ⟨hP, hD⟩
      have hP := hPD.1
      have hD := hPD.2
      refine lv_if_ne (tgt := 45) hx hb d_RC_put_39 (by decide) (fun c_3 => ?_) (fun c_3 => ?_)
      · refine lv_aload_n hx hb d_RC_put_45 rfl (lv_at hl 1 rfl) ?_
        refine va_get (D := (dC, dI)) (ci := 6) (v := .int (nI ki)) (C := "RangeCoders") (T := T_RC) (N := 8) hx hb hg in_RC hown hK hP 0 rfl rfl 3 (by decide) (hg _ k261) (fun _ h9 => h9) rfl d_RC_put_46 ?_
        refine lv_sipush (v := 600) hx hb d_RC_put_49 (by decide) ?_
        refine lv_icmp_lt (tgt := 58) hx hb d_RC_put_52 (by decide) (fun c_4 => ?_) (fun c_4 => ?_)
        · exact absurd c_4 (by rw [hk6]; decide)
        · refine lv_bipush (v := (-4)) hx hb d_RC_put_55 (by decide) ?_
          exact my_iret (v := (-4)) hx hb hr (rfl) hlocks hQ hK hS (Nat.le_refl _) (Nat.le_refl _) () (rfl) (hP.sub [0, 1, 4, 2, 3, 5, 6, 7] rfl) (hD.sub [0, 1, 4, 2, 3, 5, 6, 7] (by decide +kernel) rfl) d_RC_put_57
      · exact absurd hz (one_eq hr_36 c_3)
  · exact absurd (has_in ht (by omega)) (one_eq hr_12 c_1)
set_option maxHeartbeats 2000000 in
set_option maxRecDepth 100000 in
theorem f_RC_putL_NoCarries (l : Launch) (dC : Nat → ClassId) (dI : Nat → Nat → Nat) (cI cM cO : ClassId) (sz : Nat) (sl : Nat) (rc : Nat) (ma : Nat) (k : Nat) (frd : Int32) (fbd : Int32) (fir : Int32) (mf : Nat → Option Nat) (co : Nat) (xcode : Int64) (xreadLow : Int64) (xreadRange : Int64) (ri : Nat) (ro : Nat) (rw : Nat) (xasked : Int32) (Rg : Nat) (L : Nat) (rwa : Nat) (rwk : Nat) (rwf : Nat → Int32) (bs : List Nat) (j : Nat) (mo : Nat) (o2 : Nat) (ka : Nat) (kf : Nat → Int32) (oo : Nat) (osg : Int32) (ofc : Int32) (oca : Nat) (opa : Nat) (n : Nat) (ocf : Nat → Int32) (opl : Nat) (opf : Nat → Int32) (F : Nat → Nat) (t : Nat) (ki : Nat) (hki : ki < 600) (hk8 : k ≤ 8) (hj : j < k) (hmf : mf j = some mo) (hkl : n ≤ 64) (hn : n ≤ 64) (hpl : opl ≤ 512) (hf : tbI ocf n F) (ht : t < n) (hfc : ofc ≤ nI t) (hFt : 0 < F t) (hsum : ns F n ≤ 8192) (hp : pOk Rg L) (hR6 : 65536 ≤ Rg) (hrw : rOk (nI bs.length) rwk) (hGrw : gIs rwf bs) (hN9 : bs.length + 5 ≤ 7900) : MetIg l y_RC_put (Cond.code y_RC_put prog_1_method_4_code 4 (some .int) :: gw) ({ frames := 6, cells := rPh rwk, slots := rPh rwk, locals := 151 } : Room) (dC, dI) vwCl (kT cI cM cO) [Value.ref rc, Value.int (nI j), Value.int (nI t)] [(rc, Sum.inr (6, [Value.ref co, Value.ref ma, Value.int (nI k), Value.int (nI ki), Value.int 0, Value.int frd, Value.int fbd, Value.int fir])), (ma, Sum.inl (cM, 8, Sum.inr (Sum.inr (Sum.inr (Sum.inr mf))))), (co, Sum.inr (2, [Value.long (lN L), Value.long (lN Rg), Value.long xcode, Value.long xreadLow, Value.long xreadRange, Value.ref ri, Value.ref ro, Value.ref rw, Value.int xasked])), (rw, Sum.inr (0, [Value.int (nI bs.length), Value.ref rwa])), (rwa, Sum.inl (cI, rwk, Sum.inl rwf)), (mo, Sum.inr (8, [Value.ref ka, Value.ref oo, Value.ref o2])), (ka, Sum.inl (cI, n, Sum.inl kf)), (oo, Sum.inr (7, [Value.int osg, Value.int (nI (ns F n)), Value.int ofc, Value.ref oca, Value.ref opa])), (oca, Sum.inl (cI, n, Sum.inl ocf)), (opa, Sum.inl (cI, opl, Sum.inl opf))] sz sl (fun (r : Int32) (u : Nat × Nat × (Nat → Int32) × (Nat → Int32)) => r = nI (ki + 1) ∧ rOk (nI ((plS (Rg / ns F n * F t, L + Rg / ns F n * ns F t, bs)).2.2).length) u.2.1 ∧ gIs u.2.2.1 ((plS (Rg / ns F n * F t, L + Rg / ns F n * ns F t, bs)).2.2) ∧ tbI u.2.2.2 n (lrn n t F)) (fun (u : Nat × Nat × (Nat → Int32) × (Nat → Int32)) => [(rc, Sum.inr (6, [Value.ref co, Value.ref ma, Value.int (nI k), Value.int (nI (ki + 1)), Value.int 0, Value.int frd, Value.int fbd, Value.int fir])), (ma, Sum.inl (cM, 8, Sum.inr (Sum.inr (Sum.inr (Sum.inr mf))))), (co, Sum.inr (2, [Value.long (lN (plS (Rg / ns F n * F t, L + Rg / ns F n * ns F t, bs)).2.1), Value.long (lN (plS (Rg / ns F n * F t, L + Rg / ns F n * ns F t, bs)).1), Value.long xcode, Value.long xreadLow, Value.long xreadRange, Value.ref ri, Value.ref ro, Value.ref rw, Value.int xasked])), (rw, Sum.inr (0, [Value.int (nI (plS (Rg / ns F n * F t, L + Rg / ns F n * ns F t, bs)).2.2.length), Value.ref u.1])), (u.1, Sum.inl (cI, u.2.1, Sum.inl u.2.2.1)), (mo, Sum.inr (8, [Value.ref ka, Value.ref oo, Value.ref o2])), (ka, Sum.inl (cI, n, Sum.inl kf)), (oo, Sum.inr (7, [Value.int osg, Value.int (nI (ns (lrn n t F) n)), Value.int ofc, Value.ref oca, Value.ref opa])), (oca, Sum.inl (cI, n, Sum.inl u.2.2.2)), (opa, Sum.inl (cI, opl, Sum.inl opf))]) (rPh rwk) (fun (u : Nat × Nat × (Nat → Int32) × (Nat → Int32)) => rPh u.2.1) := by
  refine my_ofIg (cc := prog_1_method_4_code) (n := 4) (ret := (some .int)) (by decide) rfl (Nat.le_of_ble_eq_true rfl) ?_
  intro p e s m args below meth c R Q A ls H locs hx hb hr hts hown hlocks hml hnm hR hQ hA hl hP hK hN hD hS
  have hg : ∀ w ∈ gw, w.before args s = true := fun w h => hts w (List.mem_cons_of_mem _ h)
  have hown : s.vm.findClass "RangeCoders" = some m.cls := hown
  have hl : lv_has ls 4 [(0, Value.ref rc), (1, Value.int (nI j)), (2, Value.int (nI t))] := hl
  have hltw := rOk_lt hrw
  have hgt9 := ns_ge (F := F) ht
  refine lv_aload_n hx hb d_RC_put_0 rfl (lv_at hl 0 rfl) ?_
  refine lv_iload_n hx hb d_RC_put_1 rfl (lv_at hl 1 rfl) ?_
  refine my_cq (wr := [(co, Sum.inr (2, [Value.long (lN L), Value.long (lN Rg), Value.long xcode, Value.long xreadLow, Value.long xreadRange, Value.ref ri, Value.ref ro, Value.ref rw, Value.int xasked])), (rw, Sum.inr (0, [Value.int (nI bs.length), Value.ref rwa])), (rwa, Sum.inl (cI, rwk, Sum.inl rwf)), (mo, Sum.inr (8, [Value.ref ka, Value.ref oo, Value.ref o2])), (ka, Sum.inl (cI, n, Sum.inl kf)), (oo, Sum.inr (7, [Value.int osg, Value.int (nI (ns F n)), Value.int ofc, Value.ref oca, Value.ref opa])), (oca, Sum.inl (cI, n, Sum.inl ocf)), (opa, Sum.inl (cI, opl, Sum.inl opf))]) (va_runV (As := [Value.int (nI j)]) (rest := []) ⟨hx, hb, hml, hown, hts⟩ (c_RC_modelAtB l dC dI cI cM cO H.size rc ma k (nI ki) 0 frd fbd fir mf co j mo (by first | assumption | omega) (by first | assumption | omega) (by first | assumption | omega)) (cwV 1 hts (my_gV k412 k414 ks3 k1 k415) rfl rfl rfl cu_RC_modelAt_1 ⟨by rw [hR]; exact Nat.le_of_ble_eq_true rfl, by rw [hR]; exact Nat.le_of_ble_eq_true rfl⟩) (my_preV hK hN (hP.sub [0, 1] rfl) (hD.sub [0, 1] (by decide +kernel) rfl) 0 rfl rfl) rfl rfl hl.1 rfl (lv_room (Nat.le_of_ble_eq_true rfl)) d_RC_put_2 ⟨by rw [hR]; exact (show 0 + 0 ≤ (rPh rwk) by omega), by rw [hR]; exact (show 0 + 0 ≤ (rPh rwk) by omega)⟩) hP hD hS hA [0, 1] [2, 3, 4, 5, 6, 7, 8, 9] rfl rfl (by decide +kernel) (by decide +kernel) (fun r_2 u9 H locs hw_2 hP hD hS => ?_)
  have hr_2 : r_2 = some mo := hw_2
  have hPD : my_PD (dC, dI) vwCl A [(co, Sum.inr (2, [Value.long (lN L), Value.long (lN Rg), Value.long xcode, Value.long xreadLow, Value.long xreadRange, Value.ref ri, Value.ref ro, Value.ref rw, Value.int xasked])), (rw, Sum.inr (0, [Value.int (nI bs.length), Value.ref rwa])), (rwa, Sum.inl (cI, rwk, Sum.inl rwf)), (mo, Sum.inr (8, [Value.ref ka, Value.ref oo, Value.ref o2])), (ka, Sum.inl (cI, n, Sum.inl kf)), (oo, Sum.inr (7, [Value.int osg, Value.int (nI (ns F n)), Value.int ofc, Value.ref oca, Value.ref opa])), (oca, Sum.inl (cI, n, Sum.inl ocf)), (opa, Sum.inl (cI, opl, Sum.inl opf)), (rc, Sum.inr (6, [Value.ref co, Value.ref ma, Value.int (nI k), Value.int (nI ki), Value.int 0, Value.int frd, Value.int fbd, Value.int fir])), (ma, Sum.inl (cM, 8, Sum.inr (Sum.inr (Sum.inr (Sum.inr mf)))))] H := ⟨hP, hD⟩
  have hP := hPD.1
  have hD := hPD.2
  subst hr_2
  refine W.eq (g2 := F0 m 5 ls [Value.ref mo]) rfl ?_
  refine lv_astore_n (lv' := [(3, Value.ref mo), (0, Value.ref rc), (1, Value.int (nI j)), (2, Value.int (nI t))]) hx hb d_RC_put_5 rfl hl (by decide) rfl (fun ls hl => ?_)
  refine lv_aload_n hx hb d_RC_put_6 rfl (lv_at hl 0 rfl) ?_
  refine lv_ifnull hx hb d_RC_put_7 ?_
  refine lv_aload_n hx hb d_RC_put_10 rfl (lv_at hl 0 rfl) ?_
  refine lv_iload_n hx hb d_RC_put_11 rfl (lv_at hl 3 rfl) ?_
  refine my_ci (wr := [(co, Sum.inr (2, [Value.long (lN L), Value.long (lN Rg), Value.long xcode, Value.long xreadLow, Value.long xreadRange, Value.ref ri, Value.ref ro, Value.ref rw, Value.int xasked])), (rw, Sum.inr (0, [Value.int (nI bs.length), Value.ref rwa])), (rwa, Sum.inl (cI, rwk, Sum.inl rwf)), (oo, Sum.inr (7, [Value.int osg, Value.int (nI (ns F n)), Value.int ofc, Value.ref oca, Value.ref opa])), (oca, Sum.inl (cI, n, Sum.inl ocf)), (opa, Sum.inl (cI, opl, Sum.inl opf)), (rc, Sum.inr (6, [Value.ref co, Value.ref ma, Value.int (nI k), Value.int (nI ki), Value.int 0, Value.int frd, Value.int fbd, Value.int fir])), (ma, Sum.inl (cM, 8, Sum.inr (Sum.inr (Sum.inr (Sum.inr mf)))))]) (va_runV (As := [Value.int (nI t)]) (rest := []) ⟨hx, hb, hml, hown, hts⟩ (f_Model_hasSign l dC dI cI cM cO H.size mo ka oo o2 n kf (nI t) (hkl)) (cwV 1 hts (my_gV k416 k417 k418 k13 k419) rfl rfl rfl cu_Model_hasSign_1 ⟨by rw [hR]; exact Nat.le_of_ble_eq_true rfl, by rw [hR]; exact Nat.le_of_ble_eq_true rfl⟩) (my_preV hK hN (hP.sub [3, 4] rfl) (hD.sub [3, 4] (by decide +kernel) rfl) 0 rfl rfl) rfl rfl hl.1 rfl (lv_room (Nat.le_of_ble_eq_true rfl)) d_RC_put_12 ⟨by rw [hR]; exact (show 0 + 0 ≤ (rPh rwk) by omega), by rw [hR]; exact (show 0 + 0 ≤ (rPh rwk) by omega)⟩) hP hD hS hA [3, 4] [0, 1, 2, 5, 6, 7, 8, 9] rfl rfl (by decide +kernel) (by decide +kernel) (fun r_12 u9 H locs hw_12 hP hD hS => ?_)
  have hr_12 : r_12 = if 0 ≤ (nI t) ∧ (nI t) < nI n then 1 else 0 := hw_12
  have hPD : my_PD (dC, dI) vwCl A [(co, Sum.inr (2, [Value.long (lN L), Value.long (lN Rg), Value.long xcode, Value.long xreadLow, Value.long xreadRange, Value.ref ri, Value.ref ro, Value.ref rw, Value.int xasked])), (rw, Sum.inr (0, [Value.int (nI bs.length), Value.ref rwa])), (rwa, Sum.inl (cI, rwk, Sum.inl rwf)), (oo, Sum.inr (7, [Value.int osg, Value.int (nI (ns F n)), Value.int ofc, Value.ref oca, Value.ref opa])), (oca, Sum.inl (cI, n, Sum.inl ocf)), (opa, Sum.inl (cI, opl, Sum.inl opf)), (rc, Sum.inr (6, [Value.ref co, Value.ref ma, Value.int (nI k), Value.int (nI ki), Value.int 0, Value.int frd, Value.int fbd, Value.int fir])), (ma, Sum.inl (cM, 8, Sum.inr (Sum.inr (Sum.inr (Sum.inr mf))))), (mo, Sum.inr (8, [Value.ref ka, Value.ref oo, Value.ref o2])), (ka, Sum.inl (cI, n, Sum.inl kf))] H := ⟨hP, hD⟩
  have hP := hPD.1
  have hD := hPD.2
  refine lv_if_ne (tgt := 20) hx hb d_RC_put_15 (by decide) (fun c_1 => ?_) (fun c_1 => ?_)
  · refine lv_aload_n hx hb d_RC_put_20 rfl (lv_at hl 1 rfl) ?_
    refine va_get (D := (dC, dI)) (ci := 6) (v := .int 0) (C := "RangeCoders") (T := T_RC) (N := 8) hx hb hg in_RC hown hK hP 6 rfl rfl 4 (by decide) (hg _ k262) (fun _ h9 => h9) rfl d_RC_put_21 ?_
    refine lv_if_ne (tgt := 42) hx hb d_RC_put_24 (by decide) (fun c_2 => ?_) (fun c_2 => ?_)
    · exact absurd rfl c_2
    · refine lv_aload_n hx hb d_RC_put_27 rfl (lv_at hl 1 rfl) ?_
      refine va_get (D := (dC, dI)) (ci := 6) (v := .ref co) (C := "RangeCoders") (T := T_RC) (N := 8) hx hb hg in_RC hown hK hP 6 rfl rfl 0 (by decide) (hg _ k258) (fun _ h9 => h9) rfl d_RC_put_28 ?_
      refine lv_aload_n hx hb d_RC_put_31 rfl (lv_at hl 0 rfl) ?_
      refine va_get (D := (dC, dI)) (ci := 8) (v := .ref oo) (C := "RangeCoders$Model") (T := T_Model) (N := 3) hx hb hg in_Model hown hK hP 8 rfl rfl 1 (by decide) (hg _ k343) (fun _ h9 => h9) rfl d_RC_put_32 ?_
      refine lv_iload_n hx hb d_RC_put_35 rfl (lv_at hl 3 rfl) ?_
      refine my_ci (wr := [(rw, Sum.inr (0, [Value.int (nI bs.length), Value.ref rwa])), (rwa, Sum.inl (cI, rwk, Sum.inl rwf)), (rc, Sum.inr (6, [Value.ref co, Value.ref ma, Value.int (nI k), Value.int (nI ki), Value.int 0, Value.int frd, Value.int fbd, Value.int fir])), (ma, Sum.inl (cM, 8, Sum.inr (Sum.inr (Sum.inr (Sum.inr mf))))), (mo, Sum.inr (8, [Value.ref ka, Value.ref oo, Value.ref o2])), (ka, Sum.inl (cI, n, Sum.inl kf))]) (va_runU (As := [Value.ref oo, Value.int (nI t)]) (rest := []) ⟨hx, hb, hml, hown, hts⟩ (f_NoCarries_canWrite l dC dI cI cM cO H.size co (lN L) (lN Rg) xcode xreadLow xreadRange ri ro rw xasked oo osg ofc oca opa n ocf opl opf F (nI (ns F n)) t (by first | assumption | omega) (by first | assumption | omega) (by first | assumption | omega) (by first | assumption | omega) (by first | assumption | omega) (by omega)) (va_cwU 2 hts (my_gU k424 k426 k431 k425 k3 k434) rfl rfl rfl rfl (by decide +kernel) ⟨by rw [hR]; exact Nat.le_of_ble_eq_true rfl, by rw [hR]; exact Nat.le_of_ble_eq_true rfl⟩) (my_preV hK hN (hP.sub [0, 3, 4, 5] rfl) (hD.sub [0, 3, 4, 5] (by decide +kernel) rfl) 0 rfl rfl) rfl rfl hl.1 rfl (lv_room (Nat.le_of_ble_eq_true rfl)) d_RC_put_36 ⟨by rw [hR]; exact (show 0 + 0 ≤ (rPh rwk) by omega), by rw [hR]; exact (show 0 + 0 ≤ (rPh rwk) by omega)⟩) hP hD hS hA [0, 3, 4, 5] [1, 2, 6, 7, 8, 9] rfl rfl (by decide +kernel) (by decide +kernel) (fun r_36 u9 H locs hw_36 hP hD hS => ?_)
      have hr_36 : r_36 = if 0 < F t then 1 else 0 := hw_36
      have hPD : my_PD (dC, dI) vwCl A [(rw, Sum.inr (0, [Value.int (nI bs.length), Value.ref rwa])), (rwa, Sum.inl (cI, rwk, Sum.inl rwf)), (rc, Sum.inr (6, [Value.ref co, Value.ref ma, Value.int (nI k), Value.int (nI ki), Value.int 0, Value.int frd, Value.int fbd, Value.int fir])), (ma, Sum.inl (cM, 8, Sum.inr (Sum.inr (Sum.inr (Sum.inr mf))))), (mo, Sum.inr (8, [Value.ref ka, Value.ref oo, Value.ref o2])), (ka, Sum.inl (cI, n, Sum.inl kf)), (co, Sum.inr (2, [Value.long (lN L), Value.long (lN Rg), Value.long xcode, Value.long xreadLow, Value.long xreadRange, Value.ref ri, Value.ref ro, Value.ref rw, Value.int xasked])), (oo, Sum.inr (7, [Value.int osg, Value.int (nI (ns F n)), Value.int ofc, Value.ref oca, Value.ref opa])), (oca, Sum.inl (cI, n, Sum.inl ocf)), (opa, Sum.inl (cI, opl, Sum.inl opf))] H := ⟨hP, hD⟩
      have hP := hPD.1
      have hD := hPD.2
      refine lv_if_ne (tgt := 45) hx hb d_RC_put_39 (by decide) (fun c_3 => ?_) (fun c_3 => ?_)
      · refine lv_aload_n hx hb d_RC_put_45 rfl (lv_at hl 1 rfl) ?_
        refine va_get (D := (dC, dI)) (ci := 6) (v := .int (nI ki)) (C := "RangeCoders") (T := T_RC) (N := 8) hx hb hg in_RC hown hK hP 2 rfl rfl 3 (by decide) (hg _ k261) (fun _ h9 => h9) rfl d_RC_put_46 ?_
        refine lv_sipush (v := 600) hx hb d_RC_put_49 (by decide) ?_
        refine lv_icmp_lt (tgt := 58) hx hb d_RC_put_52 (by decide) (fun c_4 => ?_) (fun c_4 => ?_)
        · refine lv_aload_n hx hb d_RC_put_58 rfl (lv_at hl 1 rfl) ?_
          refine va_get (D := (dC, dI)) (ci := 6) (v := .ref co) (C := "RangeCoders") (T := T_RC) (N := 8) hx hb hg in_RC hown hK hP 2 rfl rfl 0 (by decide) (hg _ k258) (fun _ h9 => h9) rfl d_RC_put_59 ?_
          refine lv_aload_n hx hb d_RC_put_62 rfl (lv_at hl 0 rfl) ?_
          refine va_get (D := (dC, dI)) (ci := 8) (v := .ref oo) (C := "RangeCoders$Model") (T := T_Model) (N := 3) hx hb hg in_Model hown hK hP 4 rfl rfl 1 (by decide) (hg _ k343) (fun _ h9 => h9) rfl d_RC_put_63 ?_
          refine lv_iload_n hx hb d_RC_put_66 rfl (lv_at hl 3 rfl) ?_
          refine my_cvg (wr := [(rc, Sum.inr (6, [Value.ref co, Value.ref ma, Value.int (nI k), Value.int (nI ki), Value.int 0, Value.int frd, Value.int fbd, Value.int fir])), (ma, Sum.inl (cM, 8, Sum.inr (Sum.inr (Sum.inr (Sum.inr mf))))), (mo, Sum.inr (8, [Value.ref ka, Value.ref oo, Value.ref o2])), (ka, Sum.inl (cI, n, Sum.inl kf))]) (va_runU (As := [Value.ref oo, Value.int (nI t)]) (rest := []) ⟨hx, hb, hml, hown, hts⟩ (f_NoCarries_writeSign l dC dI cI cM cO H.size (hSl H) co xcode xreadLow xreadRange ri ro rw xasked Rg L rwa rwk rwf bs oo osg ofc oca opa n ocf opl opf F t (by first | assumption | omega) (by first | assumption | omega) (by first | assumption | omega) (by first | assumption | omega) (by first | assumption | omega) (by first | assumption | omega) (by first | assumption | omega) (by first | assumption | omega) (by first | assumption | omega) (by first | assumption | omega) (by first | assumption | omega) (by first | assumption | omega)) (va_cwA 2 hts (my_gU k439 k441 k530 k491 k4 k492) rfl rfl rfl (hN.1 _ j440 rfl) (by decide +kernel) ⟨by rw [hR]; exact Nat.le_of_ble_eq_true rfl, by rw [hR]; exact Nat.le_of_ble_eq_true rfl⟩) (my_preVg hK hN (hP.sub [6, 0, 1, 7, 8, 9] rfl) (hD.sub [6, 0, 1, 7, 8, 9] (by decide +kernel) rfl) 0 rfl rfl) rfl rfl hl.1 rfl (lv_room (Nat.le_of_ble_eq_true rfl)) d_RC_put_67 ⟨by rw [hR]; exact (show 0 + (rPh rwk) ≤ (rPh rwk) by omega), by rw [hR]; exact (show 0 + (rPh rwk) ≤ (rPh rwk) by omega)⟩) hP hD hS hA [6, 0, 1, 7, 8, 9] [2, 3, 4, 5] rfl rfl (by decide +kernel) (by decide +kernel) (fun u9 d_67 H locs hd_67 hw_67 hP hD hS => ?_)
          obtain ⟨rwaq_67, rwkq_67, rwfq_67, ocfq_67⟩ := u9
          obtain ⟨hrw_67, hGrw_67, hf_67⟩ : rOk (nI ((plS (Rg / ns F n * F t, L + Rg / ns F n * ns F t, bs)).2.2).length) rwkq_67 ∧ gIs rwfq_67 ((plS (Rg / ns F n * F t, L + Rg / ns F n * ns F t, bs)).2.2) ∧ tbI ocfq_67 n (lrn n t F) := hw_67
          have hd_67 : d_67 + (rPh rwkq_67) ≤ (rPh rwk) := hd_67
          have hPD : my_PD (dC, dI) vwCl A [(rc, Sum.inr (6, [Value.ref co, Value.ref ma, Value.int (nI k), Value.int (nI ki), Value.int 0, Value.int frd, Value.int fbd, Value.int fir])), (ma, Sum.inl (cM, 8, Sum.inr (Sum.inr (Sum.inr (Sum.inr mf))))), (mo, Sum.inr (8, [Value.ref ka, Value.ref oo, Value.ref o2])), (ka, Sum.inl (cI, n, Sum.inl kf)), (co, Sum.inr (2, [Value.long (lN (plS (Rg / ns F n * F t, L + Rg / ns F n * ns F t, bs)).2.1), Value.long (lN (plS (Rg / ns F n * F t, L + Rg / ns F n * ns F t, bs)).1), Value.long xcode, Value.long xreadLow, Value.long xreadRange, Value.ref ri, Value.ref ro, Value.ref rw, Value.int xasked])), (rw, Sum.inr (0, [Value.int (nI (plS (Rg / ns F n * F t, L + Rg / ns F n * ns F t, bs)).2.2.length), Value.ref rwaq_67])), (rwaq_67, Sum.inl (cI, rwkq_67, Sum.inl rwfq_67)), (oo, Sum.inr (7, [Value.int osg, Value.int (nI (ns (lrn n t F) n)), Value.int ofc, Value.ref oca, Value.ref opa])), (oca, Sum.inl (cI, n, Sum.inl ocfq_67)), (opa, Sum.inl (cI, opl, Sum.inl opf))] H := ⟨hP, hD⟩
          have hP := hPD.1
          have hD := hPD.2
          refine lv_aload_n hx hb d_RC_put_70 rfl (lv_at hl 1 rfl) ?_
          refine lv_dup hx hb d_RC_put_71 rfl ?_
          refine va_get (D := (dC, dI)) (ci := 6) (v := .int (nI ki)) (C := "RangeCoders") (T := T_RC) (N := 8) hx hb hg in_RC hown hK hP 0 rfl rfl 3 (by decide) (hg _ k261) (fun _ h9 => h9) rfl d_RC_put_72 ?_
          refine lv_iconst (v := 1) hx hb d_RC_put_75 (by decide) ?_
          refine lv_iadd hx hb d_RC_put_76 ?_
          refine lv_topi (fun v_5 ev_5 => ?_)
          have z9 : v_5 = nI (ki + 1) := by rw [ev_5]; exact nI_1 _
          subst z9
          refine va_put (D := (dC, dI)) (ci := 6) (v := .int (nI (ki + 1))) (ty := .int) (C := "RangeCoders") (T := T_RC) (N := 8) hx hb hg in_RC t_RC o_RC n_RC hown hK hP hD hS 0 rfl rfl 3 (by decide) (hg _ k261) (fun _ h9 => h9) rfl (o_RC 3 (by decide)) rfl rfl (Nat.le_of_ble_eq_true rfl) d_RC_put_77 (fun H locs hP hD hS => ?_)
          have hPD : my_PD (dC, dI) vwCl A [(rc, Sum.inr (6, [Value.ref co, Value.ref ma, Value.int (nI k), Value.int (nI (ki + 1)), Value.int 0, Value.int frd, Value.int fbd, Value.int fir])), (ma, Sum.inl (cM, 8, Sum.inr (Sum.inr (Sum.inr (Sum.inr mf))))), (mo, Sum.inr (8, [Value.ref ka, Value.ref oo, Value.ref o2])), (ka, Sum.inl (cI, n, Sum.inl kf)), (co, Sum.inr (2, [Value.long (lN (plS (Rg / ns F n * F t, L + Rg / ns F n * ns F t, bs)).2.1), Value.long (lN (plS (Rg / ns F n * F t, L + Rg / ns F n * ns F t, bs)).1), Value.long xcode, Value.long xreadLow, Value.long xreadRange, Value.ref ri, Value.ref ro, Value.ref rw, Value.int xasked])), (rw, Sum.inr (0, [Value.int (nI (plS (Rg / ns F n * F t, L + Rg / ns F n * ns F t, bs)).2.2.length), Value.ref rwaq_67])), (rwaq_67, Sum.inl (cI, rwkq_67, Sum.inl rwfq_67)), (oo, Sum.inr (7, [Value.int osg, Value.int (nI (ns (lrn n t F) n)), Value.int ofc, Value.ref oca, Value.ref opa])), (oca, Sum.inl (cI, n, Sum.inl ocfq_67)), (opa, Sum.inl (cI, opl, Sum.inl opf))] H := ⟨hP, hD⟩
          have hP := hPD.1
          have hD := hPD.2
          refine lv_aload_n hx hb d_RC_put_80 rfl (lv_at hl 1 rfl) ?_
          refine va_get (D := (dC, dI)) (ci := 6) (v := .int (nI (ki + 1))) (C := "RangeCoders") (T := T_RC) (N := 8) hx hb hg in_RC hown hK hP 0 rfl rfl 3 (by decide) (hg _ k261) (fun _ h9 => h9) rfl d_RC_put_81 ?_
          exact my_iretg (v := (nI (ki + 1))) hx hb hr (rfl) hlocks hQ hK hS (rwaq_67, rwkq_67, rwfq_67, ocfq_67) (show (0 + d_67) + (rPh rwkq_67) ≤ (rPh rwk) by omega) (show (0 + d_67) + (rPh rwkq_67) ≤ (rPh rwk) by omega) (⟨rfl, hrw_67, hGrw_67, hf_67⟩) (hP.sub [0, 1, 4, 5, 6, 2, 3, 7, 8, 9] rfl) (hD.sub [0, 1, 4, 5, 6, 2, 3, 7, 8, 9] (by decide +kernel) rfl) d_RC_put_84
        · exact absurd (nI_lt (b := 600) hki (by decide)) c_4
      · exact absurd hFt (one_eq hr_36 c_3)
  · exact absurd (has_in ht (by omega)) (one_eq hr_12 c_1)
set_option maxHeartbeats 2000000 in
set_option maxRecDepth 100000 in
theorem f_RC_countL_NoCarries (l : Launch) (dC : Nat → ClassId) (dI : Nat → Nat → Nat) (cI cM cO : ClassId) (sz : Nat) (rc : Nat) (ma : Nat) (k : Nat) (fit : Int32) (frd : Int32) (fbd : Int32) (fir : Int32) (mf : Nat → Option Nat) (co : Nat) (xlow : Int64) (xrange : Int64) (xcode : Int64) (xreadLow : Int64) (xreadRange : Int64) (ri : Nat) (ro : Nat) (rw : Nat) (xasked : Int32) (j : Nat) (mo : Nat) (o2 : Nat) (ka : Nat) (kf : Nat → Int32) (oo : Nat) (osg : Int32) (ofc : Int32) (oca : Nat) (opa : Nat) (n : Nat) (ocf : Nat → Int32) (opl : Nat) (opf : Nat → Int32) (osm : Int32) (C : Nat → Nat) (c9 : Nat) (t : Nat) (hk8 : k ≤ 8) (hj : j < k) (hmf : mf j = some mo) (hkl : n ≤ 64) (hn : n ≤ 64) (hpl : opl ≤ 512) (ht : t < n) (hc : c9 ≤ 4095) (hfi : ¬ 0 < fit) (hrd : frd = 0) (hk : tbI kf n C) (hB : bd C n 4095) : MetI l y_RC_count (Cond.code y_RC_count prog_1_method_3_code 6 (some .int) :: gw) ({ frames := 3, cells := 0, slots := 0, locals := 66 } : Room) (dC, dI) vwCl (kT cI cM cO) [Value.ref rc, Value.int (nI j), Value.int (nI t), Value.int (nI c9)] [(rc, Sum.inr (6, [Value.ref co, Value.ref ma, Value.int (nI k), Value.int fit, Value.int 0, Value.int frd, Value.int fbd, Value.int fir])), (ma, Sum.inl (cM, 8, Sum.inr (Sum.inr (Sum.inr (Sum.inr mf))))), (co, Sum.inr (2, [Value.long xlow, Value.long xrange, Value.long xcode, Value.long xreadLow, Value.long xreadRange, Value.ref ri, Value.ref ro, Value.ref rw, Value.int xasked])), (mo, Sum.inr (8, [Value.ref ka, Value.ref oo, Value.ref o2])), (ka, Sum.inl (cI, n, Sum.inl kf)), (oo, Sum.inr (7, [Value.int osg, Value.int osm, Value.int ofc, Value.ref oca, Value.ref opa])), (oca, Sum.inl (cI, n, Sum.inl ocf)), (opa, Sum.inl (cI, opl, Sum.inl opf))] sz (fun (r : Int32) (u : (Nat → Int32) × (Nat → Int32)) => r = nI (C t) ∧ u.1 = upd kf t (nI c9) ∧ tbI u.2 n (les n (upN C t c9))) (fun (u : (Nat → Int32) × (Nat → Int32)) => [(rc, Sum.inr (6, [Value.ref co, Value.ref ma, Value.int (nI k), Value.int fit, Value.int 0, Value.int frd, Value.int fbd, Value.int fir])), (ma, Sum.inl (cM, 8, Sum.inr (Sum.inr (Sum.inr (Sum.inr mf))))), (co, Sum.inr (2, [Value.long xlow, Value.long xrange, Value.long xcode, Value.long xreadLow, Value.long xreadRange, Value.ref ri, Value.ref ro, Value.ref rw, Value.int xasked])), (mo, Sum.inr (8, [Value.ref ka, Value.ref oo, Value.ref o2])), (ka, Sum.inl (cI, n, Sum.inl u.1)), (oo, Sum.inr (7, [Value.int osg, Value.int (nI (ns (les n (upN C t c9)) n)), Value.int ofc, Value.ref oca, Value.ref opa])), (oca, Sum.inl (cI, n, Sum.inl u.2)), (opa, Sum.inl (cI, opl, Sum.inl opf))]) 0 0 := by
  refine my_ofI (cc := prog_1_method_3_code) (n := 6) (ret := (some .int)) (by decide) rfl (Nat.le_of_ble_eq_true rfl) ?_
  intro p e s m args below meth c R Q A ls H locs hx hb hr hts hown hlocks hml hnm hR hQ hA hl hP hK hN hD hS
  have hg : ∀ w ∈ gw, w.before args s = true := fun w h => hts w (List.mem_cons_of_mem _ h)
  have hown : s.vm.findClass "RangeCoders" = some m.cls := hown
  have hl : lv_has ls 6 [(0, Value.ref rc), (1, Value.int (nI j)), (2, Value.int (nI t)), (3, Value.int (nI c9))] := hl
  refine lv_aload_n hx hb d_RC_count_0 rfl (lv_at hl 0 rfl) ?_
  refine lv_iload_n hx hb d_RC_count_1 rfl (lv_at hl 1 rfl) ?_
  refine my_cq (wr := [(co, Sum.inr (2, [Value.long xlow, Value.long xrange, Value.long xcode, Value.long xreadLow, Value.long xreadRange, Value.ref ri, Value.ref ro, Value.ref rw, Value.int xasked])), (mo, Sum.inr (8, [Value.ref ka, Value.ref oo, Value.ref o2])), (ka, Sum.inl (cI, n, Sum.inl kf)), (oo, Sum.inr (7, [Value.int osg, Value.int osm, Value.int ofc, Value.ref oca, Value.ref opa])), (oca, Sum.inl (cI, n, Sum.inl ocf)), (opa, Sum.inl (cI, opl, Sum.inl opf))]) (va_runV (As := [Value.int (nI j)]) (rest := []) ⟨hx, hb, hml, hown, hts⟩ (c_RC_modelAtB l dC dI cI cM cO H.size rc ma k fit 0 frd fbd fir mf co j mo (by first | assumption | omega) (by first | assumption | omega) (by first | assumption | omega)) (cwV 1 hts (my_gV k412 k414 ks3 k1 k415) rfl rfl rfl cu_RC_modelAt_1 ⟨by rw [hR]; exact Nat.le_of_ble_eq_true rfl, by rw [hR]; exact Nat.le_of_ble_eq_true rfl⟩) (my_preV hK hN (hP.sub [0, 1] rfl) (hD.sub [0, 1] (by decide +kernel) rfl) 0 rfl rfl) rfl rfl hl.1 rfl (lv_room (Nat.le_of_ble_eq_true rfl)) d_RC_count_2 ⟨by rw [hR]; exact Nat.le_of_ble_eq_true rfl, by rw [hR]; exact Nat.le_of_ble_eq_true rfl⟩) hP hD hS hA [0, 1] [2, 3, 4, 5, 6, 7] rfl rfl (by decide +kernel) (by decide +kernel) (fun r_2 u9 H locs hw_2 hP hD hS => ?_)
  have hr_2 : r_2 = some mo := hw_2
  have hPD : my_PD (dC, dI) vwCl A [(co, Sum.inr (2, [Value.long xlow, Value.long xrange, Value.long xcode, Value.long xreadLow, Value.long xreadRange, Value.ref ri, Value.ref ro, Value.ref rw, Value.int xasked])), (mo, Sum.inr (8, [Value.ref ka, Value.ref oo, Value.ref o2])), (ka, Sum.inl (cI, n, Sum.inl kf)), (oo, Sum.inr (7, [Value.int osg, Value.int osm, Value.int ofc, Value.ref oca, Value.ref opa])), (oca, Sum.inl (cI, n, Sum.inl ocf)), (opa, Sum.inl (cI, opl, Sum.inl opf)), (rc, Sum.inr (6, [Value.ref co, Value.ref ma, Value.int (nI k), Value.int fit, Value.int 0, Value.int frd, Value.int fbd, Value.int fir])), (ma, Sum.inl (cM, 8, Sum.inr (Sum.inr (Sum.inr (Sum.inr mf)))))] H := ⟨hP, hD⟩
  have hP := hPD.1
  have hD := hPD.2
  subst hr_2
  refine W.eq (g2 := F0 m 5 ls [Value.ref mo]) rfl ?_
  refine lv_astore (lv' := [(4, Value.ref mo), (0, Value.ref rc), (1, Value.int (nI j)), (2, Value.int (nI t)), (3, Value.int (nI c9))]) hx hb d_RC_count_5 hl (by decide) rfl (fun ls hl => ?_)
  refine lv_aload hx hb d_RC_count_7 (lv_at hl 0 rfl) ?_
  refine lv_ifnull hx hb d_RC_count_9 ?_
  refine lv_aload hx hb d_RC_count_12 (lv_at hl 0 rfl) ?_
  refine lv_iload_n hx hb d_RC_count_14 rfl (lv_at hl 3 rfl) ?_
  refine my_ci (wr := [(co, Sum.inr (2, [Value.long xlow, Value.long xrange, Value.long xcode, Value.long xreadLow, Value.long xreadRange, Value.ref ri, Value.ref ro, Value.ref rw, Value.int xasked])), (oo, Sum.inr (7, [Value.int osg, Value.int osm, Value.int ofc, Value.ref oca, Value.ref opa])), (oca, Sum.inl (cI, n, Sum.inl ocf)), (opa, Sum.inl (cI, opl, Sum.inl opf)), (rc, Sum.inr (6, [Value.ref co, Value.ref ma, Value.int (nI k), Value.int fit, Value.int 0, Value.int frd, Value.int fbd, Value.int fir])), (ma, Sum.inl (cM, 8, Sum.inr (Sum.inr (Sum.inr (Sum.inr mf)))))]) (va_runV (As := [Value.int (nI t)]) (rest := []) ⟨hx, hb, hml, hown, hts⟩ (f_Model_hasSign l dC dI cI cM cO H.size mo ka oo o2 n kf (nI t) (by first | assumption | omega)) (cwV 1 hts (my_gV k416 k417 k418 k13 k419) rfl rfl rfl cu_Model_hasSign_1 ⟨by rw [hR]; exact Nat.le_of_ble_eq_true rfl, by rw [hR]; exact Nat.le_of_ble_eq_true rfl⟩) (my_preV hK hN (hP.sub [1, 2] rfl) (hD.sub [1, 2] (by decide +kernel) rfl) 0 rfl rfl) rfl rfl hl.1 rfl (lv_room (Nat.le_of_ble_eq_true rfl)) d_RC_count_15 ⟨by rw [hR]; exact Nat.le_of_ble_eq_true rfl, by rw [hR]; exact Nat.le_of_ble_eq_true rfl⟩) hP hD hS hA [1, 2] [0, 3, 4, 5, 6, 7] rfl rfl (by decide +kernel) (by decide +kernel) (fun r_15 u9 H locs hw_15 hP hD hS => ?_)
  have hr_15 : r_15 = if 0 ≤ (nI t) ∧ (nI t) < nI n then 1 else 0 := hw_15
  have hPD : my_PD (dC, dI) vwCl A [(co, Sum.inr (2, [Value.long xlow, Value.long xrange, Value.long xcode, Value.long xreadLow, Value.long xreadRange, Value.ref ri, Value.ref ro, Value.ref rw, Value.int xasked])), (oo, Sum.inr (7, [Value.int osg, Value.int osm, Value.int ofc, Value.ref oca, Value.ref opa])), (oca, Sum.inl (cI, n, Sum.inl ocf)), (opa, Sum.inl (cI, opl, Sum.inl opf)), (rc, Sum.inr (6, [Value.ref co, Value.ref ma, Value.int (nI k), Value.int fit, Value.int 0, Value.int frd, Value.int fbd, Value.int fir])), (ma, Sum.inl (cM, 8, Sum.inr (Sum.inr (Sum.inr (Sum.inr mf))))), (mo, Sum.inr (8, [Value.ref ka, Value.ref oo, Value.ref o2])), (ka, Sum.inl (cI, n, Sum.inl kf))] H := ⟨hP, hD⟩
  have hP := hPD.1
  have hD := hPD.2
  refine lv_if_ne (tgt := 23) hx hb d_RC_count_18 (by decide) (fun c_1 => ?_) (fun c_1 => ?_)
  · refine lv_iload_n hx hb d_RC_count_23 rfl (lv_at hl 4 rfl) ?_
    refine lv_if_lt (tgt := 34) hx hb d_RC_count_24 (by decide) (fun c_2 => ?_) (fun c_2 => ?_)
    · exact absurd c_2 (nI_pos (by omega))
    · refine lv_iload_n hx hb d_RC_count_27 rfl (lv_at hl 4 rfl) ?_
      refine lv_sipush (v := 4095) hx hb d_RC_count_28 (by decide) ?_
      refine lv_icmp_le (tgt := 37) hx hb d_RC_count_31 (by decide) (fun c_3 => ?_) (fun c_3 => ?_)
      · refine lv_aload_n hx hb d_RC_count_37 rfl (lv_at hl 1 rfl) ?_
        refine va_get (D := (dC, dI)) (ci := 6) (v := .int fit) (C := "RangeCoders") (T := T_RC) (N := 8) hx hb hg in_RC hown hK hP 4 rfl rfl 3 (by decide) (hg _ k261) (fun _ h9 => h9) rfl d_RC_count_38 ?_
        refine lv_if_le (tgt := 51) hx hb d_RC_count_41 (by decide) (fun c_4 => ?_) (fun c_4 => ?_)
        · refine lv_aload_n hx hb d_RC_count_51 rfl (lv_at hl 1 rfl) ?_
          refine va_get (D := (dC, dI)) (ci := 6) (v := .int frd) (C := "RangeCoders") (T := T_RC) (N := 8) hx hb hg in_RC hown hK hP 4 rfl rfl 5 (by decide) (hg _ k263) (fun _ h9 => h9) rfl d_RC_count_52 ?_
          refine lv_if_eq (tgt := 61) hx hb d_RC_count_55 (by decide) (fun c_5 => ?_) (fun c_5 => ?_)
          · refine lv_aload hx hb d_RC_count_61 (lv_at hl 0 rfl) ?_
            refine va_get (D := (dC, dI)) (ci := 8) (v := .ref ka) (C := "RangeCoders$Model") (T := T_Model) (N := 3) hx hb hg in_Model hown hK hP 6 rfl rfl 0 (by decide) (hg _ k341) (fun _ h9 => h9) rfl d_RC_count_63 ?_
            refine lv_iload_n hx hb d_RC_count_66 rfl (lv_at hl 3 rfl) ?_
            refine va_iald hx hb hK hP 7 0 rfl rfl (vp_in_nI ht (by omega)) d_RC_count_67 ?_
            refine lv_topi (fun v_6 ev_6 => ?_)
            refine lv_istore (lv' := [(5, Value.int v_6), (4, Value.ref mo), (0, Value.ref rc), (1, Value.int (nI j)), (2, Value.int (nI t)), (3, Value.int (nI c9))]) hx hb d_RC_count_68 hl (by decide) rfl (fun ls hl => ?_)
            refine lv_aload hx hb d_RC_count_70 (lv_at hl 1 rfl) ?_
            refine va_get (D := (dC, dI)) (ci := 8) (v := .ref ka) (C := "RangeCoders$Model") (T := T_Model) (N := 3) hx hb hg in_Model hown hK hP 6 rfl rfl 0 (by decide) (hg _ k341) (fun _ h9 => h9) rfl d_RC_count_72 ?_
            refine lv_iload_n hx hb d_RC_count_75 rfl (lv_at hl 4 rfl) ?_
            refine lv_iload_n hx hb d_RC_count_76 rfl (lv_at hl 5 rfl) ?_
            refine va_iast hx hb hK hP hD hS 7 0 rfl rfl (vp_in_nI ht (by omega)) d_RC_count_77 (fun H locs hP hD hS => ?_)
            have hPD : my_PD (dC, dI) vwCl A [(co, Sum.inr (2, [Value.long xlow, Value.long xrange, Value.long xcode, Value.long xreadLow, Value.long xreadRange, Value.ref ri, Value.ref ro, Value.ref rw, Value.int xasked])), (oo, Sum.inr (7, [Value.int osg, Value.int osm, Value.int ofc, Value.ref oca, Value.ref opa])), (oca, Sum.inl (cI, n, Sum.inl ocf)), (opa, Sum.inl (cI, opl, Sum.inl opf)), (rc, Sum.inr (6, [Value.ref co, Value.ref ma, Value.int (nI k), Value.int fit, Value.int 0, Value.int frd, Value.int fbd, Value.int fir])), (ma, Sum.inl (cM, 8, Sum.inr (Sum.inr (Sum.inr (Sum.inr mf))))), (mo, Sum.inr (8, [Value.ref ka, Value.ref oo, Value.ref o2])), (ka, Sum.inl (cI, n, Sum.inl (upd kf (nI t).toNatClampNeg (nI c9))))] H := ⟨hP, hD⟩
            have hP := hPD.1
            have hD := hPD.2
            have hk2 : tbI (upd kf (nI t).toNatClampNeg (nI c9)) n (upN C t c9) := tb_up hk (nI_clamp (by omega)) rfl
            have hB2 : bd (upN C t c9) n 4095 := bd_up hB hc
            refine lv_aload_n hx hb d_RC_count_78 rfl (lv_at hl 2 rfl) ?_
            refine va_get (D := (dC, dI)) (ci := 6) (v := .int 0) (C := "RangeCoders") (T := T_RC) (N := 8) hx hb hg in_RC hown hK hP 4 rfl rfl 4 (by decide) (hg _ k262) (fun _ h9 => h9) rfl d_RC_count_79 ?_
            refine lv_if_ne (tgt := 102) hx hb d_RC_count_82 (by decide) (fun c_7 => ?_) (fun c_7 => ?_)
            · exact absurd rfl c_7
            · refine lv_aload_n hx hb d_RC_count_85 rfl (lv_at hl 2 rfl) ?_
              refine va_get (D := (dC, dI)) (ci := 6) (v := .ref co) (C := "RangeCoders") (T := T_RC) (N := 8) hx hb hg in_RC hown hK hP 4 rfl rfl 0 (by decide) (hg _ k258) (fun _ h9 => h9) rfl d_RC_count_86 ?_
              refine lv_aload hx hb d_RC_count_89 (lv_at hl 1 rfl) ?_
              refine va_get (D := (dC, dI)) (ci := 8) (v := .ref oo) (C := "RangeCoders$Model") (T := T_Model) (N := 3) hx hb hg in_Model hown hK hP 6 rfl rfl 1 (by decide) (hg _ k343) (fun _ h9 => h9) rfl d_RC_count_91 ?_
              refine lv_aload hx hb d_RC_count_94 (lv_at hl 1 rfl) ?_
              refine va_get (D := (dC, dI)) (ci := 8) (v := .ref ka) (C := "RangeCoders$Model") (T := T_Model) (N := 3) hx hb hg in_Model hown hK hP 6 rfl rfl 0 (by decide) (hg _ k341) (fun _ h9 => h9) rfl d_RC_count_96 ?_
              refine my_cv (wr := [(rc, Sum.inr (6, [Value.ref co, Value.ref ma, Value.int (nI k), Value.int fit, Value.int 0, Value.int frd, Value.int fbd, Value.int fir])), (ma, Sum.inl (cM, 8, Sum.inr (Sum.inr (Sum.inr (Sum.inr mf))))), (mo, Sum.inr (8, [Value.ref ka, Value.ref oo, Value.ref o2]))]) (va_runU (As := [Value.ref oo, Value.ref ka]) (rest := []) ⟨hx, hb, hml, hown, hts⟩ (f_NoCarries_prepare l dC dI cI cM cO H.size co xlow xrange xcode xreadLow xreadRange ri ro rw xasked oo osg ofc oca opa n ocf opl opf osm ka (upd kf (nI t).toNatClampNeg (nI c9)) (upN C t c9) (by first | assumption | omega) (by first | assumption | omega) (hk2) (hB2)) (va_cwA 2 hts (my_gU k353 k355 k379 k365 k4 k366) rfl rfl rfl (hN.1 _ j354 rfl) (by decide +kernel) ⟨by rw [hR]; exact Nat.le_of_ble_eq_true rfl, by rw [hR]; exact Nat.le_of_ble_eq_true rfl⟩) (my_preV hK hN (hP.sub [0, 1, 2, 3, 7] rfl) (hD.sub [0, 1, 2, 3, 7] (by decide +kernel) rfl) 0 rfl rfl) rfl rfl hl.1 rfl (lv_room (Nat.le_of_ble_eq_true rfl)) d_RC_count_99 ⟨by rw [hR]; exact Nat.le_of_ble_eq_true rfl, by rw [hR]; exact Nat.le_of_ble_eq_true rfl⟩) hP hD hS hA [0, 1, 2, 3, 7] [4, 5, 6] rfl rfl (by decide +kernel) (by decide +kernel) (fun u9 H locs hw_99 hP hD hS => ?_)
              obtain ⟨ocfq_99, rfl⟩ : ∃ z, z = u9 := ⟨_, rfl⟩
              have hf_99 : tbI ocfq_99 n (les n (upN C t c9)) := hw_99
              have hPD : my_PD (dC, dI) vwCl A [(rc, Sum.inr (6, [Value.ref co, Value.ref ma, Value.int (nI k), Value.int fit, Value.int 0, Value.int frd, Value.int fbd, Value.int fir])), (ma, Sum.inl (cM, 8, Sum.inr (Sum.inr (Sum.inr (Sum.inr mf))))), (mo, Sum.inr (8, [Value.ref ka, Value.ref oo, Value.ref o2])), (co, Sum.inr (2, [Value.long xlow, Value.long xrange, Value.long xcode, Value.long xreadLow, Value.long xreadRange, Value.ref ri, Value.ref ro, Value.ref rw, Value.int xasked])), (oo, Sum.inr (7, [Value.int osg, Value.int (nI (ns (les n (upN C t c9)) n)), Value.int ofc, Value.ref oca, Value.ref opa])), (oca, Sum.inl (cI, n, Sum.inl ocfq_99)), (opa, Sum.inl (cI, opl, Sum.inl opf)), (ka, Sum.inl (cI, n, Sum.inl (upd kf (nI t).toNatClampNeg (nI c9))))] H := ⟨hP, hD⟩
              have hP := hPD.1
              have hD := hPD.2
              refine lv_iload hx hb d_RC_count_102 (lv_at hl 0 rfl) ?_
              exact my_iret (v := v_6) hx hb hr (rfl) hlocks hQ hK hS (Nat.le_refl _) (Nat.le_refl _) ((upd kf (nI t).toNatClampNeg (nI c9)), ocfq_99) (⟨by rw [ev_6]; exact tb_rd hk ht (by omega), by rw [nI_clamp (by omega)], hf_99⟩) (hP.sub [0, 1, 3, 2, 7, 4, 5, 6] rfl) (hD.sub [0, 1, 3, 2, 7, 4, 5, 6] (by decide +kernel) rfl) d_RC_count_104
          · exact absurd hrd c_5
        · exact absurd (Int32.not_le.mp c_4) hfi
      · exact absurd (nI_le (b := 4095) hc (by decide)) c_3
  · exact absurd (has_in ht (by omega)) (one_eq hr_15 c_1)
end
section
set_option maxHeartbeats 2000000 in
set_option maxRecDepth 100000 in
theorem f_Stack_hasWidth (l : Launch) (dC : Nat → ClassId) (dI : Nat → Nat → Nat) (cI cM cO : ClassId) (sz : Nat) (co : Nat) (xx : Int64) (xreadX : Int64) (soa : Nat) (sna : Nat) (swa : Nat) (xkept : Int32) (ri : Nat) (ro : Nat) (rw : Nat) (xasked : Int32) (wd : Int32) : MetI l y_Coder_hasWidth (Cond.code y_Coder_hasWidth prog_4_method_13_code 2 (some .boolean) :: gw) ({ frames := 0, cells := 0, slots := 0, locals := 0 } : Room) (dC, dI) vwCl (kT cI cM cO) [Value.ref co, Value.int wd] [(co, Sum.inr (4, [Value.long xx, Value.long xreadX, Value.ref soa, Value.ref sna, Value.ref swa, Value.int xkept, Value.ref ri, Value.ref ro, Value.ref rw, Value.int xasked]))] sz (fun (r : Int32) (u : Unit) => r = if 1 ≤ wd ∧ wd ≤ nI 12 then 1 else 0) (fun (u : Unit) => [(co, Sum.inr (4, [Value.long xx, Value.long xreadX, Value.ref soa, Value.ref sna, Value.ref swa, Value.int xkept, Value.ref ri, Value.ref ro, Value.ref rw, Value.int xasked]))]) 0 0 := by
  refine my_ofI (cc := prog_4_method_13_code) (n := 2) (ret := (some .boolean)) (by decide) rfl (Nat.le_of_ble_eq_true rfl) ?_
  intro p e s m args below meth c R Q A ls H locs hx hb hr hts hown hlocks hml hnm hR hQ hA hl hP hK hN hD hS
  have hg : ∀ w ∈ gw, w.before args s = true := fun w h => hts w (List.mem_cons_of_mem _ h)
  have hown : s.vm.findClass "RangeCoders$Coder" = some m.cls := hown
  have hl : lv_has ls 2 [(0, Value.ref co), (1, Value.int wd)] := hl
  refine lv_iload_n hx hb d_Coder_hasWidth_0 rfl (lv_at hl 1 rfl) ?_
  refine lv_iconst (v := 1) hx hb d_Coder_hasWidth_1 (by decide) ?_
  refine lv_icmp_lt (tgt := 15) hx hb d_Coder_hasWidth_2 (by decide) (fun c_1 => ?_) (fun c_1 => ?_)
  · refine lv_iconst (v := 0) hx hb d_Coder_hasWidth_15 (by decide) ?_
    exact my_iret (v := 0) hx hb hr (rfl) hlocks hQ hK hS (Nat.le_refl _) (Nat.le_refl _) () (wid_0a c_1) (hP.sub [0] rfl) (hD.sub [0] (by decide +kernel) rfl) d_Coder_hasWidth_16
  · refine lv_iload_n hx hb d_Coder_hasWidth_5 rfl (lv_at hl 1 rfl) ?_
    refine lv_bipush (v := 12) hx hb d_Coder_hasWidth_6 (by decide) ?_
    refine lv_icmp_gt (tgt := 15) hx hb d_Coder_hasWidth_8 (by decide) (fun c_2 => ?_) (fun c_2 => ?_)
    · refine lv_iconst (v := 0) hx hb d_Coder_hasWidth_15 (by decide) ?_
      exact my_iret (v := 0) hx hb hr (rfl) hlocks hQ hK hS (Nat.le_refl _) (Nat.le_refl _) () (wid_0b c_2) (hP.sub [0] rfl) (hD.sub [0] (by decide +kernel) rfl) d_Coder_hasWidth_16
    · refine lv_iconst (v := 1) hx hb d_Coder_hasWidth_11 (by decide) ?_
      refine lv_goto (tgt := 16) hx hb d_Coder_hasWidth_12 (by decide) ?_
      exact my_iret (v := 1) hx hb hr (rfl) hlocks hQ hK hS (Nat.le_refl _) (Nat.le_refl _) () (wid_1 c_1 c_2) (hP.sub [0] rfl) (hD.sub [0] (by decide +kernel) rfl) d_Coder_hasWidth_16
set_option maxHeartbeats 2000000 in
set_option maxRecDepth 100000 in
theorem f_RC_bitsW_Stack (l : Launch) (dC : Nat → ClassId) (dI : Nat → Nat → Nat) (cI cM cO : ClassId) (sz : Nat) (rc : Nat) (ma : Nat) (k : Nat) (fit : Int32) (fen : Int32) (frd : Int32) (fbd : Int32) (fir : Int32) (mf : Nat → Option Nat) (co : Nat) (xx : Int64) (xreadX : Int64) (soa : Nat) (sna : Nat) (swa : Nat) (xkept : Int32) (ri : Nat) (ro : Nat) (rw : Nat) (xasked : Int32) (vv : Int32) (wd : Int32) (hbad : ¬ okB 12 vv wd) : MetI l y_RC_bits (Cond.code y_RC_bits prog_1_method_5_code 3 (some .int) :: gw) ({ frames := 1, cells := 0, slots := 0, locals := 21 } : Room) (dC, dI) vwCl (kT cI cM cO) [Value.ref rc, Value.int vv, Value.int wd] [(rc, Sum.inr (6, [Value.ref co, Value.ref ma, Value.int (nI k), Value.int fit, Value.int fen, Value.int frd, Value.int fbd, Value.int fir])), (co, Sum.inr (4, [Value.long xx, Value.long xreadX, Value.ref soa, Value.ref sna, Value.ref swa, Value.int xkept, Value.ref ri, Value.ref ro, Value.ref rw, Value.int xasked]))] sz (fun (r : Int32) (u : Unit) => r = -2) (fun (u : Unit) => [(rc, Sum.inr (6, [Value.ref co, Value.ref ma, Value.int (nI k), Value.int fit, Value.int fen, Value.int frd, Value.int fbd, Value.int fir])), (co, Sum.inr (4, [Value.long xx, Value.long xreadX, Value.ref soa, Value.ref sna, Value.ref swa, Value.int xkept, Value.ref ri, Value.ref ro, Value.ref rw, Value.int xasked]))]) 0 0 := by
  refine my_ofI (cc := prog_1_method_5_code) (n := 3) (ret := (some .int)) (by decide) rfl (Nat.le_of_ble_eq_true rfl) ?_
  intro p e s m args below meth c R Q A ls H locs hx hb hr hts hown hlocks hml hnm hR hQ hA hl hP hK hN hD hS
  have hg : ∀ w ∈ gw, w.before args s = true := fun w h => hts w (List.mem_cons_of_mem _ h)
  have hown : s.vm.findClass "RangeCoders" = some m.cls := hown
  have hl : lv_has ls 3 [(0, Value.ref rc), (1, Value.int vv), (2, Value.int wd)] := hl
  refine lv_aload_n hx hb d_RC_bits_0 rfl (lv_at hl 0 rfl) ?_
  refine va_get (D := (dC, dI)) (ci := 6) (v := .ref co) (C := "RangeCoders") (T := T_RC) (N := 8) hx hb hg in_RC hown hK hP 0 rfl rfl 0 (by decide) (hg _ k258) (fun _ h9 => h9) rfl d_RC_bits_1 ?_
  refine lv_iload_n hx hb d_RC_bits_4 rfl (lv_at hl 2 rfl) ?_
  refine my_ci (wr := [(rc, Sum.inr (6, [Value.ref co, Value.ref ma, Value.int (nI k), Value.int fit, Value.int fen, Value.int frd, Value.int fbd, Value.int fir]))]) (va_runU (As := [Value.int wd]) (rest := []) ⟨hx, hb, hml, hown, hts⟩ (f_Stack_hasWidth l dC dI cI cM cO H.size co xx xreadX soa sna swa xkept ri ro rw xasked wd) (va_cwU 1 hts (my_gU k543 k545 k549 k544 k3 k553) rfl rfl rfl rfl (by decide +kernel) ⟨by rw [hR]; exact Nat.le_of_ble_eq_true rfl, by rw [hR]; exact Nat.le_of_ble_eq_true rfl⟩) (my_preV hK hN (hP.sub [1] rfl) (hD.sub [1] (by decide +kernel) rfl) 0 rfl rfl) rfl rfl hl.1 rfl (lv_room (Nat.le_of_ble_eq_true rfl)) d_RC_bits_5 ⟨by rw [hR]; exact Nat.le_of_ble_eq_true rfl, by rw [hR]; exact Nat.le_of_ble_eq_true rfl⟩) hP hD hS hA [1] [0] rfl rfl (by decide +kernel) (by decide +kernel) (fun r_5 u9 H locs hw_5 hP hD hS => ?_)
  have hr_5 : r_5 = if 1 ≤ wd ∧ wd ≤ nI 12 then 1 else 0 := hw_5
  have hPD : my_PD (dC, dI) vwCl A [(rc, Sum.inr (6, [Value.ref co, Value.ref ma, Value.int (nI k), Value.int fit, Value.int fen, Value.int frd, Value.int fbd, Value.int fir])), (co, Sum.inr (4, [Value.long xx, Value.long xreadX, Value.ref soa, Value.ref sna, Value.ref swa, Value.int xkept, Value.ref ri, Value.ref ro, Value.ref rw, Value.int xasked]))] H := ⟨hP, hD⟩
  have hP := hPD.1
  have hD := hPD.2
  refine lv_if_eq (tgt := 22) hx hb d_RC_bits_8 (by decide) (fun c_1 => ?_) (fun c_1 => ?_)
  · refine lv_bipush (v := (-2)) hx hb d_RC_bits_22 (by decide) ?_
    exact my_iret (v := (-2)) hx hb hr (rfl) hlocks hQ hK hS (Nat.le_refl _) (Nat.le_refl _) () (rfl) (hP.sub [0, 1] rfl) (hD.sub [0, 1] (by decide +kernel) rfl) d_RC_bits_24
  · refine lv_iload_n hx hb d_RC_bits_11 rfl (lv_at hl 1 rfl) ?_
    refine lv_if_lt (tgt := 22) hx hb d_RC_bits_12 (by decide) (fun c_2 => ?_) (fun c_2 => ?_)
    · refine lv_bipush (v := (-2)) hx hb d_RC_bits_22 (by decide) ?_
      exact my_iret (v := (-2)) hx hb hr (rfl) hlocks hQ hK hS (Nat.le_refl _) (Nat.le_refl _) () (rfl) (hP.sub [0, 1] rfl) (hD.sub [0, 1] (by decide +kernel) rfl) d_RC_bits_24
    · refine lv_iload_n hx hb d_RC_bits_15 rfl (lv_at hl 1 rfl) ?_
      refine lv_iconst (v := 1) hx hb d_RC_bits_16 (by decide) ?_
      refine lv_iload_n hx hb d_RC_bits_17 rfl (lv_at hl 2 rfl) ?_
      refine lv_ishl hx hb d_RC_bits_18 ?_
      refine lv_topi (fun v_3 ev_3 => ?_)
      refine lv_icmp_lt (tgt := 25) hx hb d_RC_bits_19 (by decide) (fun c_4 => ?_) (fun c_4 => ?_)
      · exact absurd (okB_of (by decide) (one_ne hr_5 c_1) c_2 ev_3 c_4) hbad
      · refine lv_bipush (v := (-2)) hx hb d_RC_bits_22 (by decide) ?_
        exact my_iret (v := (-2)) hx hb hr (rfl) hlocks hQ hK hS (Nat.le_refl _) (Nat.le_refl _) () (rfl) (hP.sub [0, 1] rfl) (hD.sub [0, 1] (by decide +kernel) rfl) d_RC_bits_24
set_option maxHeartbeats 2000000 in
set_option maxRecDepth 100000 in
theorem f_RC_bitsE_Stack (l : Launch) (dC : Nat → ClassId) (dI : Nat → Nat → Nat) (cI cM cO : ClassId) (sz : Nat) (rc : Nat) (ma : Nat) (k : Nat) (fit : Int32) (fen : Int32) (frd : Int32) (fbd : Int32) (fir : Int32) (mf : Nat → Option Nat) (co : Nat) (xx : Int64) (xreadX : Int64) (soa : Nat) (sna : Nat) (swa : Nat) (xkept : Int32) (ri : Nat) (ro : Nat) (rw : Nat) (xasked : Int32) (v : Nat) (b : Nat) (hb1 : 1 ≤ b) (hb2 : b ≤ 12) (hv : v < 2 ^ b) (hen : ¬ fen = 0) : MetI l y_RC_bits (Cond.code y_RC_bits prog_1_method_5_code 3 (some .int) :: gw) ({ frames := 1, cells := 0, slots := 0, locals := 21 } : Room) (dC, dI) vwCl (kT cI cM cO) [Value.ref rc, Value.int (nI v), Value.int (nI b)] [(rc, Sum.inr (6, [Value.ref co, Value.ref ma, Value.int (nI k), Value.int fit, Value.int fen, Value.int frd, Value.int fbd, Value.int fir])), (co, Sum.inr (4, [Value.long xx, Value.long xreadX, Value.ref soa, Value.ref sna, Value.ref swa, Value.int xkept, Value.ref ri, Value.ref ro, Value.ref rw, Value.int xasked]))] sz (fun (r : Int32) (u : Unit) => r = -3) (fun (u : Unit) => [(rc, Sum.inr (6, [Value.ref co, Value.ref ma, Value.int (nI k), Value.int fit, Value.int fen, Value.int frd, Value.int fbd, Value.int fir])), (co, Sum.inr (4, [Value.long xx, Value.long xreadX, Value.ref soa, Value.ref sna, Value.ref swa, Value.int xkept, Value.ref ri, Value.ref ro, Value.ref rw, Value.int xasked]))]) 0 0 := by
  refine my_ofI (cc := prog_1_method_5_code) (n := 3) (ret := (some .int)) (by decide) rfl (Nat.le_of_ble_eq_true rfl) ?_
  intro p e s m args below meth c R Q A ls H locs hx hb hr hts hown hlocks hml hnm hR hQ hA hl hP hK hN hD hS
  have hg : ∀ w ∈ gw, w.before args s = true := fun w h => hts w (List.mem_cons_of_mem _ h)
  have hown : s.vm.findClass "RangeCoders" = some m.cls := hown
  have hl : lv_has ls 3 [(0, Value.ref rc), (1, Value.int (nI v)), (2, Value.int (nI b))] := hl
  have hpw : 2 ^ b ≤ 2 ^ 12 := Nat.pow_le_pow_right (by decide) (by omega)
  have hpw0 : 0 < 2 ^ b := Nat.pow_pos (by decide)
  refine lv_aload_n hx hb d_RC_bits_0 rfl (lv_at hl 0 rfl) ?_
  refine va_get (D := (dC, dI)) (ci := 6) (v := .ref co) (C := "RangeCoders") (T := T_RC) (N := 8) hx hb hg in_RC hown hK hP 0 rfl rfl 0 (by decide) (hg _ k258) (fun _ h9 => h9) rfl d_RC_bits_1 ?_
  refine lv_iload_n hx hb d_RC_bits_4 rfl (lv_at hl 2 rfl) ?_
  refine my_ci (wr := [(rc, Sum.inr (6, [Value.ref co, Value.ref ma, Value.int (nI k), Value.int fit, Value.int fen, Value.int frd, Value.int fbd, Value.int fir]))]) (va_runU (As := [Value.int (nI b)]) (rest := []) ⟨hx, hb, hml, hown, hts⟩ (f_Stack_hasWidth l dC dI cI cM cO H.size co xx xreadX soa sna swa xkept ri ro rw xasked (nI b)) (va_cwU 1 hts (my_gU k543 k545 k549 k544 k3 k553) rfl rfl rfl rfl (by decide +kernel) ⟨by rw [hR]; exact Nat.le_of_ble_eq_true rfl, by rw [hR]; exact Nat.le_of_ble_eq_true rfl⟩) (my_preV hK hN (hP.sub [1] rfl) (hD.sub [1] (by decide +kernel) rfl) 0 rfl rfl) rfl rfl hl.1 rfl (lv_room (Nat.le_of_ble_eq_true rfl)) d_RC_bits_5 ⟨by rw [hR]; exact Nat.le_of_ble_eq_true rfl, by rw [hR]; exact Nat.le_of_ble_eq_true rfl⟩) hP hD hS hA [1] [0] rfl rfl (by decide +kernel) (by decide +kernel) (fun r_5 u9 H locs hw_5 hP hD hS => ?_)
  have hr_5 : r_5 = if 1 ≤ (nI b) ∧ (nI b) ≤ nI 12 then 1 else 0 := hw_5
  have hPD : my_PD (dC, dI) vwCl A [(rc, Sum.inr (6, [Value.ref co, Value.ref ma, Value.int (nI k), Value.int fit, Value.int fen, Value.int frd, Value.int fbd, Value.int fir])), (co, Sum.inr (4, [Value.long xx, Value.long xreadX, Value.ref soa, Value.ref sna, Value.ref swa, Value.int xkept, Value.ref ri, Value.ref ro, Value.ref rw, Value.int xasked]))] H := ⟨hP, hD⟩
  have hP := hPD.1
  have hD := hPD.2
  refine lv_if_eq (tgt := 22) hx hb d_RC_bits_8 (by decide) (fun c_1 => ?_) (fun c_1 => ?_)
  · exact absurd (show 1 ≤ nI b ∧ nI b ≤ nI 12 from ⟨nI_le (a := 1) hb1 (by omega), nI_le hb2 (by decide)⟩) (one_eq hr_5 c_1)
  · refine lv_iload_n hx hb d_RC_bits_11 rfl (lv_at hl 1 rfl) ?_
    refine lv_if_lt (tgt := 22) hx hb d_RC_bits_12 (by decide) (fun c_2 => ?_) (fun c_2 => ?_)
    · exact absurd c_2 (nI_pos (by omega))
    · refine lv_iload_n hx hb d_RC_bits_15 rfl (lv_at hl 1 rfl) ?_
      refine lv_iconst (v := 1) hx hb d_RC_bits_16 (by decide) ?_
      refine lv_iload_n hx hb d_RC_bits_17 rfl (lv_at hl 2 rfl) ?_
      refine lv_ishl hx hb d_RC_bits_18 ?_
      refine lv_topi (fun v_3 ev_3 => ?_)
      have z9 : v_3 = nI (2 ^ b) := by rw [ev_3]; exact shl1 b (by omega)
      subst z9
      refine lv_icmp_lt (tgt := 25) hx hb d_RC_bits_19 (by decide) (fun c_4 => ?_) (fun c_4 => ?_)
      · refine lv_aload_n hx hb d_RC_bits_25 rfl (lv_at hl 0 rfl) ?_
        refine va_get (D := (dC, dI)) (ci := 6) (v := .int fen) (C := "RangeCoders") (T := T_RC) (N := 8) hx hb hg in_RC hown hK hP 0 rfl rfl 4 (by decide) (hg _ k262) (fun _ h9 => h9) rfl d_RC_bits_26 ?_
        refine lv_if_eq (tgt := 35) hx hb d_RC_bits_29 (by decide) (fun c_5 => ?_) (fun c_5 => ?_)
        · exact absurd c_5 hen
        · refine lv_bipush (v := (-3)) hx hb d_RC_bits_32 (by decide) ?_
          exact my_iret (v := (-3)) hx hb hr (rfl) hlocks hQ hK hS (Nat.le_refl _) (Nat.le_refl _) () (rfl) (hP.sub [0, 1] rfl) (hD.sub [0, 1] (by decide +kernel) rfl) d_RC_bits_34
      · exact absurd (nI_lt hv (by omega)) c_4
set_option maxHeartbeats 2000000 in
set_option maxRecDepth 100000 in
theorem f_RC_bitsR_Stack (l : Launch) (dC : Nat → ClassId) (dI : Nat → Nat → Nat) (cI cM cO : ClassId) (sz : Nat) (rc : Nat) (ma : Nat) (k : Nat) (frd : Int32) (fbd : Int32) (fir : Int32) (mf : Nat → Option Nat) (co : Nat) (xx : Int64) (xreadX : Int64) (soa : Nat) (sna : Nat) (swa : Nat) (xkept : Int32) (ri : Nat) (ro : Nat) (rw : Nat) (xasked : Int32) (v : Nat) (b : Nat) (ki : Nat) (hb1 : 1 ≤ b) (hb2 : b ≤ 12) (hv : v < 2 ^ b) (hk6 : ki = 600) : MetI l y_RC_bits (Cond.code y_RC_bits prog_1_method_5_code 3 (some .int) :: gw) ({ frames := 1, cells := 0, slots := 0, locals := 21 } : Room) (dC, dI) vwCl (kT cI cM cO) [Value.ref rc, Value.int (nI v), Value.int (nI b)] [(rc, Sum.inr (6, [Value.ref co, Value.ref ma, Value.int (nI k), Value.int (nI ki), Value.int 0, Value.int frd, Value.int fbd, Value.int fir])), (co, Sum.inr (4, [Value.long xx, Value.long xreadX, Value.ref soa, Value.ref sna, Value.ref swa, Value.int xkept, Value.ref ri, Value.ref ro, Value.ref rw, Value.int xasked]))] sz (fun (r : Int32) (u : Unit) => r = -4) (fun (u : Unit) => [(rc, Sum.inr (6, [Value.ref co, Value.ref ma, Value.int (nI k), Value.int (nI ki), Value.int 0, Value.int frd, Value.int fbd, Value.int fir])), (co, Sum.inr (4, [Value.long xx, Value.long xreadX, Value.ref soa, Value.ref sna, Value.ref swa, Value.int xkept, Value.ref ri, Value.ref ro, Value.ref rw, Value.int xasked]))]) 0 0 := by
  refine my_ofI (cc := prog_1_method_5_code) (n := 3) (ret := (some .int)) (by decide) rfl (Nat.le_of_ble_eq_true rfl) ?_
  intro p e s m args below meth c R Q A ls H locs hx hb hr hts hown hlocks hml hnm hR hQ hA hl hP hK hN hD hS
  have hg : ∀ w ∈ gw, w.before args s = true := fun w h => hts w (List.mem_cons_of_mem _ h)
  have hown : s.vm.findClass "RangeCoders" = some m.cls := hown
  have hl : lv_has ls 3 [(0, Value.ref rc), (1, Value.int (nI v)), (2, Value.int (nI b))] := hl
  have hpw : 2 ^ b ≤ 2 ^ 12 := Nat.pow_le_pow_right (by decide) (by omega)
  have hpw0 : 0 < 2 ^ b := Nat.pow_pos (by decide)
  refine lv_aload_n hx hb d_RC_bits_0 rfl (lv_at hl 0 rfl) ?_
  refine va_get (D := (dC, dI)) (ci := 6) (v := .ref co) (C := "RangeCoders") (T := T_RC) (N := 8) hx hb hg in_RC hown hK hP 0 rfl rfl 0 (by decide) (hg _ k258) (fun _ h9 => h9) rfl d_RC_bits_1 ?_
  refine lv_iload_n hx hb d_RC_bits_4 rfl (lv_at hl 2 rfl) ?_
  refine my_ci (wr := [(rc, Sum.inr (6, [Value.ref co, Value.ref ma, Value.int (nI k), Value.int (nI ki), Value.int 0, Value.int frd, Value.int fbd, Value.int fir]))]) (va_runU (As := [Value.int (nI b)]) (rest := []) ⟨hx, hb, hml, hown, hts⟩ (f_Stack_hasWidth l dC dI cI cM cO H.size co xx xreadX soa sna swa xkept ri ro rw xasked (nI b)) (va_cwU 1 hts (my_gU k543 k545 k549 k544 k3 k553) rfl rfl rfl rfl (by decide +kernel) ⟨by rw [hR]; exact Nat.le_of_ble_eq_true rfl, by rw [hR]; exact Nat.le_of_ble_eq_true rfl⟩) (my_preV hK hN (hP.sub [1] rfl) (hD.sub [1] (by decide +kernel) rfl) 0 rfl rfl) rfl rfl hl.1 rfl (lv_room (Nat.le_of_ble_eq_true rfl)) d_RC_bits_5 ⟨by rw [hR]; exact Nat.le_of_ble_eq_true rfl, by rw [hR]; exact Nat.le_of_ble_eq_true rfl⟩) hP hD hS hA [1] [0] rfl rfl (by decide +kernel) (by decide +kernel) (fun r_5 u9 H locs hw_5 hP hD hS => ?_)
  have hr_5 : r_5 = if 1 ≤ (nI b) ∧ (nI b) ≤ nI 12 then 1 else 0 := hw_5
  have hPD : my_PD (dC, dI) vwCl A [(rc, Sum.inr (6, [Value.ref co, Value.ref ma, Value.int (nI k), Value.int (nI ki), Value.int 0, Value.int frd, Value.int fbd, Value.int fir])), (co, Sum.inr (4, [Value.long xx, Value.long xreadX, Value.ref soa, Value.ref sna, Value.ref swa, Value.int xkept, Value.ref ri, Value.ref ro, Value.ref rw, Value.int xasked]))] H := ⟨hP, hD⟩
  have hP := hPD.1
  have hD := hPD.2
  refine lv_if_eq (tgt := 22) hx hb d_RC_bits_8 (by decide) (fun c_1 => ?_) (fun c_1 => ?_)
  · exact absurd (show 1 ≤ nI b ∧ nI b ≤ nI 12 from ⟨nI_le (a := 1) hb1 (by omega), nI_le hb2 (by decide)⟩) (one_eq hr_5 c_1)
  · refine lv_iload_n hx hb d_RC_bits_11 rfl (lv_at hl 1 rfl) ?_
    refine lv_if_lt (tgt := 22) hx hb d_RC_bits_12 (by decide) (fun c_2 => ?_) (fun c_2 => ?_)
    · exact absurd c_2 (nI_pos (by omega))
    · refine lv_iload_n hx hb d_RC_bits_15 rfl (lv_at hl 1 rfl) ?_
      refine lv_iconst (v := 1) hx hb d_RC_bits_16 (by decide) ?_
      refine lv_iload_n hx hb d_RC_bits_17 rfl (lv_at hl 2 rfl) ?_
      refine lv_ishl hx hb d_RC_bits_18 ?_
      refine lv_topi (fun v_3 ev_3 => ?_)
      have z9 : v_3 = nI (2 ^ b) := by rw [ev_3]; exact shl1 b (by omega)
      subst z9
      refine lv_icmp_lt (tgt := 25) hx hb d_RC_bits_19 (by decide) (fun c_4 => ?_) (fun c_4 => ?_)
      · refine lv_aload_n hx hb d_RC_bits_25 rfl (lv_at hl 0 rfl) ?_
        refine va_get (D := (dC, dI)) (ci := 6) (v := .int 0) (C := "RangeCoders") (T := T_RC) (N := 8) hx hb hg in_RC hown hK hP 0 rfl rfl 4 (by decide) (hg _ k262) (fun _ h9 => h9) rfl d_RC_bits_26 ?_
        refine lv_if_eq (tgt := 35) hx hb d_RC_bits_29 (by decide) (fun c_5 => ?_) (fun c_5 => ?_)
        · refine lv_aload_n hx hb d_RC_bits_35 rfl (lv_at hl 0 rfl) ?_
          refine va_get (D := (dC, dI)) (ci := 6) (v := .int (nI ki)) (C := "RangeCoders") (T := T_RC) (N := 8) hx hb hg in_RC hown hK hP 0 rfl rfl 3 (by decide) (hg _ k261) (fun _ h9 => h9) rfl d_RC_bits_36 ?_
          refine lv_sipush (v := 600) hx hb d_RC_bits_39 (by decide) ?_
          refine lv_icmp_lt (tgt := 48) hx hb d_RC_bits_42 (by decide) (fun c_6 => ?_) (fun c_6 => ?_)
          · exact absurd c_6 (by rw [hk6]; decide)
          · refine lv_bipush (v := (-4)) hx hb d_RC_bits_45 (by decide) ?_
            exact my_iret (v := (-4)) hx hb hr (rfl) hlocks hQ hK hS (Nat.le_refl _) (Nat.le_refl _) () (rfl) (hP.sub [0, 1] rfl) (hD.sub [0, 1] (by decide +kernel) rfl) d_RC_bits_47
        · exact absurd (by decide) c_5
      · exact absurd (nI_lt hv (by omega)) c_4
set_option maxHeartbeats 2000000 in
set_option maxRecDepth 100000 in
theorem f_RC_bitsL_Stack (l : Launch) (dC : Nat → ClassId) (dI : Nat → Nat → Nat) (cI cM cO : ClassId) (sz : Nat) (rc : Nat) (ma : Nat) (k : Nat) (frd : Int32) (fbd : Int32) (fir : Int32) (mf : Nat → Option Nat) (co : Nat) (xx : Int64) (xreadX : Int64) (soa : Nat) (sna : Nat) (swa : Nat) (ri : Nat) (ro : Nat) (rw : Nat) (xasked : Int32) (sof : Nat → Option Nat) (snf : Nat → Int32) (swf : Nat → Int32) (v : Nat) (b : Nat) (ki : Nat) (hki : ki < 600) (hb1 : 1 ≤ b) (hb2 : b ≤ 12) (hv : v < 2 ^ b) : MetI l y_RC_bits (Cond.code y_RC_bits prog_1_method_5_code 3 (some .int) :: gw) ({ frames := 2, cells := 0, slots := 0, locals := 45 } : Room) (dC, dI) vwCl (kT cI cM cO) [Value.ref rc, Value.int (nI v), Value.int (nI b)] [(rc, Sum.inr (6, [Value.ref co, Value.ref ma, Value.int (nI k), Value.int (nI ki), Value.int 0, Value.int frd, Value.int fbd, Value.int fir])), (co, Sum.inr (4, [Value.long xx, Value.long xreadX, Value.ref soa, Value.ref sna, Value.ref swa, Value.int (nI ki), Value.ref ri, Value.ref ro, Value.ref rw, Value.int xasked])), (soa, Sum.inl (cO, 600, Sum.inr (Sum.inr (Sum.inr (Sum.inr sof))))), (sna, Sum.inl (cI, 600, Sum.inl snf)), (swa, Sum.inl (cI, 600, Sum.inl swf))] sz (fun (r : Int32) (u : (Nat → Option Nat) × (Nat → Int32) × (Nat → Int32)) => r = nI (ki + 1) ∧ u.1 = va_up sof ki none ∧ u.2.1 = upd snf ki (nI v) ∧ u.2.2 = upd swf ki (nI b)) (fun (u : (Nat → Option Nat) × (Nat → Int32) × (Nat → Int32)) => [(rc, Sum.inr (6, [Value.ref co, Value.ref ma, Value.int (nI k), Value.int (nI (ki + 1)), Value.int 0, Value.int frd, Value.int fbd, Value.int fir])), (co, Sum.inr (4, [Value.long xx, Value.long xreadX, Value.ref soa, Value.ref sna, Value.ref swa, Value.int (nI (ki + 1)), Value.ref ri, Value.ref ro, Value.ref rw, Value.int xasked])), (soa, Sum.inl (cO, 600, Sum.inr (Sum.inr (Sum.inr (Sum.inr u.1))))), (sna, Sum.inl (cI, 600, Sum.inl u.2.1)), (swa, Sum.inl (cI, 600, Sum.inl u.2.2))]) 0 0 := by
  refine my_ofI (cc := prog_1_method_5_code) (n := 3) (ret := (some .int)) (by decide) rfl (Nat.le_of_ble_eq_true rfl) ?_
  intro p e s m args below meth c R Q A ls H locs hx hb hr hts hown hlocks hml hnm hR hQ hA hl hP hK hN hD hS
  have hg : ∀ w ∈ gw, w.before args s = true := fun w h => hts w (List.mem_cons_of_mem _ h)
  have hown : s.vm.findClass "RangeCoders" = some m.cls := hown
  have hl : lv_has ls 3 [(0, Value.ref rc), (1, Value.int (nI v)), (2, Value.int (nI b))] := hl
  have hpw : 2 ^ b ≤ 2 ^ 12 := Nat.pow_le_pow_right (by decide) (by omega)
  have hpw0 : 0 < 2 ^ b := Nat.pow_pos (by decide)
  refine lv_aload_n hx hb d_RC_bits_0 rfl (lv_at hl 0 rfl) ?_
  refine va_get (D := (dC, dI)) (ci := 6) (v := .ref co) (C := "RangeCoders") (T := T_RC) (N := 8) hx hb hg in_RC hown hK hP 0 rfl rfl 0 (by decide) (hg _ k258) (fun _ h9 => h9) rfl d_RC_bits_1 ?_
  refine lv_iload_n hx hb d_RC_bits_4 rfl (lv_at hl 2 rfl) ?_
  refine my_ci (wr := [(rc, Sum.inr (6, [Value.ref co, Value.ref ma, Value.int (nI k), Value.int (nI ki), Value.int 0, Value.int frd, Value.int fbd, Value.int fir])), (soa, Sum.inl (cO, 600, Sum.inr (Sum.inr (Sum.inr (Sum.inr sof))))), (sna, Sum.inl (cI, 600, Sum.inl snf)), (swa, Sum.inl (cI, 600, Sum.inl swf))]) (va_runU (As := [Value.int (nI b)]) (rest := []) ⟨hx, hb, hml, hown, hts⟩ (f_Stack_hasWidth l dC dI cI cM cO H.size co xx xreadX soa sna swa (nI ki) ri ro rw xasked (nI b)) (va_cwU 1 hts (my_gU k543 k545 k549 k544 k3 k553) rfl rfl rfl rfl (by decide +kernel) ⟨by rw [hR]; exact Nat.le_of_ble_eq_true rfl, by rw [hR]; exact Nat.le_of_ble_eq_true rfl⟩) (my_preV hK hN (hP.sub [1] rfl) (hD.sub [1] (by decide +kernel) rfl) 0 rfl rfl) rfl rfl hl.1 rfl (lv_room (Nat.le_of_ble_eq_true rfl)) d_RC_bits_5 ⟨by rw [hR]; exact Nat.le_of_ble_eq_true rfl, by rw [hR]; exact Nat.le_of_ble_eq_true rfl⟩) hP hD hS hA [1] [0, 2, 3, 4] rfl rfl (by decide +kernel) (by decide +kernel) (fun r_5 u9 H locs hw_5 hP hD hS => ?_)
  have hr_5 : r_5 = if 1 ≤ (nI b) ∧ (nI b) ≤ nI 12 then 1 else 0 := hw_5
  have hPD : my_PD (dC, dI) vwCl A [(rc, Sum.inr (6, [Value.ref co, Value.ref ma, Value.int (nI k), Value.int (nI ki), Value.int 0, Value.int frd, Value.int fbd, Value.int fir])), (soa, Sum.inl (cO, 600, Sum.inr (Sum.inr (Sum.inr (Sum.inr sof))))), (sna, Sum.inl (cI, 600, Sum.inl snf)), (swa, Sum.inl (cI, 600, Sum.inl swf)), (co, Sum.inr (4, [Value.long xx, Value.long xreadX, Value.ref soa, Value.ref sna, Value.ref swa, Value.int (nI ki), Value.ref ri, Value.ref ro, Value.ref rw, Value.int xasked]))] H := ⟨hP, hD⟩
  have hP := hPD.1
  have hD := hPD.2
  refine lv_if_eq (tgt := 22) hx hb d_RC_bits_8 (by decide) (fun c_1 => ?_) (fun c_1 => ?_)
  · exact absurd (show 1 ≤ nI b ∧ nI b ≤ nI 12 from ⟨nI_le (a := 1) hb1 (by omega), nI_le hb2 (by decide)⟩) (one_eq hr_5 c_1)
  · refine lv_iload_n hx hb d_RC_bits_11 rfl (lv_at hl 1 rfl) ?_
    refine lv_if_lt (tgt := 22) hx hb d_RC_bits_12 (by decide) (fun c_2 => ?_) (fun c_2 => ?_)
    · exact absurd c_2 (nI_pos (by omega))
    · refine lv_iload_n hx hb d_RC_bits_15 rfl (lv_at hl 1 rfl) ?_
      refine lv_iconst (v := 1) hx hb d_RC_bits_16 (by decide) ?_
      refine lv_iload_n hx hb d_RC_bits_17 rfl (lv_at hl 2 rfl) ?_
      refine lv_ishl hx hb d_RC_bits_18 ?_
      refine lv_topi (fun v_3 ev_3 => ?_)
      have z9 : v_3 = nI (2 ^ b) := by rw [ev_3]; exact shl1 b (by omega)
      subst z9
      refine lv_icmp_lt (tgt := 25) hx hb d_RC_bits_19 (by decide) (fun c_4 => ?_) (fun c_4 => ?_)
      · refine lv_aload_n hx hb d_RC_bits_25 rfl (lv_at hl 0 rfl) ?_
        refine va_get (D := (dC, dI)) (ci := 6) (v := .int 0) (C := "RangeCoders") (T := T_RC) (N := 8) hx hb hg in_RC hown hK hP 0 rfl rfl 4 (by decide) (hg _ k262) (fun _ h9 => h9) rfl d_RC_bits_26 ?_
        refine lv_if_eq (tgt := 35) hx hb d_RC_bits_29 (by decide) (fun c_5 => ?_) (fun c_5 => ?_)
        · refine lv_aload_n hx hb d_RC_bits_35 rfl (lv_at hl 0 rfl) ?_
          refine va_get (D := (dC, dI)) (ci := 6) (v := .int (nI ki)) (C := "RangeCoders") (T := T_RC) (N := 8) hx hb hg in_RC hown hK hP 0 rfl rfl 3 (by decide) (hg _ k261) (fun _ h9 => h9) rfl d_RC_bits_36 ?_
          refine lv_sipush (v := 600) hx hb d_RC_bits_39 (by decide) ?_
          refine lv_icmp_lt (tgt := 48) hx hb d_RC_bits_42 (by decide) (fun c_6 => ?_) (fun c_6 => ?_)
          · refine lv_aload_n hx hb d_RC_bits_48 rfl (lv_at hl 0 rfl) ?_
            refine va_get (D := (dC, dI)) (ci := 6) (v := .ref co) (C := "RangeCoders") (T := T_RC) (N := 8) hx hb hg in_RC hown hK hP 0 rfl rfl 0 (by decide) (hg _ k258) (fun _ h9 => h9) rfl d_RC_bits_49 ?_
            refine lv_iload_n hx hb d_RC_bits_52 rfl (lv_at hl 1 rfl) ?_
            refine lv_iload_n hx hb d_RC_bits_53 rfl (lv_at hl 2 rfl) ?_
            refine my_cv (wr := [(rc, Sum.inr (6, [Value.ref co, Value.ref ma, Value.int (nI k), Value.int (nI ki), Value.int 0, Value.int frd, Value.int fbd, Value.int fir]))]) (va_runU (As := [Value.int (nI v), Value.int (nI b)]) (rest := []) ⟨hx, hb, hml, hown, hts⟩ (f_Stack_writeValue l dC dI cI cM cO H.size co xx xreadX soa sna swa ri ro rw xasked sof snf swf ki v b (by first | assumption | omega)) (va_cwA 2 hts (my_gU k554 k556 k564 k565 k9 k566) rfl rfl rfl (hN.1 _ j555 rfl) (by decide +kernel) ⟨by rw [hR]; exact Nat.le_of_ble_eq_true rfl, by rw [hR]; exact Nat.le_of_ble_eq_true rfl⟩) (my_preV hK hN (hP.sub [4, 1, 2, 3] rfl) (hD.sub [4, 1, 2, 3] (by decide +kernel) rfl) 0 rfl rfl) rfl rfl hl.1 rfl (lv_room (Nat.le_of_ble_eq_true rfl)) d_RC_bits_54 ⟨by rw [hR]; exact Nat.le_of_ble_eq_true rfl, by rw [hR]; exact Nat.le_of_ble_eq_true rfl⟩) hP hD hS hA [4, 1, 2, 3] [0] rfl rfl (by decide +kernel) (by decide +kernel) (fun u9 H locs hw_54 hP hD hS => ?_)
            obtain ⟨sofq_54, snfq_54, swfq_54⟩ := u9
            obtain ⟨h1_54, h2_54, h3_54⟩ : sofq_54 = va_up sof ki (none) ∧ snfq_54 = upd snf ki (nI v) ∧ swfq_54 = upd swf ki (nI b) := hw_54
            have hPD : my_PD (dC, dI) vwCl A [(rc, Sum.inr (6, [Value.ref co, Value.ref ma, Value.int (nI k), Value.int (nI ki), Value.int 0, Value.int frd, Value.int fbd, Value.int fir])), (co, Sum.inr (4, [Value.long xx, Value.long xreadX, Value.ref soa, Value.ref sna, Value.ref swa, Value.int (nI (ki + 1)), Value.ref ri, Value.ref ro, Value.ref rw, Value.int xasked])), (soa, Sum.inl (cO, 600, Sum.inr (Sum.inr (Sum.inr (Sum.inr sofq_54))))), (sna, Sum.inl (cI, 600, Sum.inl snfq_54)), (swa, Sum.inl (cI, 600, Sum.inl swfq_54))] H := ⟨hP, hD⟩
            have hP := hPD.1
            have hD := hPD.2
            refine lv_aload_n hx hb d_RC_bits_57 rfl (lv_at hl 0 rfl) ?_
            refine lv_dup hx hb d_RC_bits_58 rfl ?_
            refine va_get (D := (dC, dI)) (ci := 6) (v := .int (nI ki)) (C := "RangeCoders") (T := T_RC) (N := 8) hx hb hg in_RC hown hK hP 0 rfl rfl 3 (by decide) (hg _ k261) (fun _ h9 => h9) rfl d_RC_bits_59 ?_
            refine lv_iconst (v := 1) hx hb d_RC_bits_62 (by decide) ?_
            refine lv_iadd hx hb d_RC_bits_63 ?_
            refine lv_topi (fun v_7 ev_7 => ?_)
            have z9 : v_7 = nI (ki + 1) := by rw [ev_7]; exact nI_1 _
            subst z9
            refine va_put (D := (dC, dI)) (ci := 6) (v := .int (nI (ki + 1))) (ty := .int) (C := "RangeCoders") (T := T_RC) (N := 8) hx hb hg in_RC t_RC o_RC n_RC hown hK hP hD hS 0 rfl rfl 3 (by decide) (hg _ k261) (fun _ h9 => h9) rfl (o_RC 3 (by decide)) rfl rfl (Nat.le_of_ble_eq_true rfl) d_RC_bits_64 (fun H locs hP hD hS => ?_)
            have hPD : my_PD (dC, dI) vwCl A [(rc, Sum.inr (6, [Value.ref co, Value.ref ma, Value.int (nI k), Value.int (nI (ki + 1)), Value.int 0, Value.int frd, Value.int fbd, Value.int fir])), (co, Sum.inr (4, [Value.long xx, Value.long xreadX, Value.ref soa, Value.ref sna, Value.ref swa, Value.int (nI (ki + 1)), Value.ref ri, Value.ref ro, Value.ref rw, Value.int xasked])), (soa, Sum.inl (cO, 600, Sum.inr (Sum.inr (Sum.inr (Sum.inr sofq_54))))), (sna, Sum.inl (cI, 600, Sum.inl snfq_54)), (swa, Sum.inl (cI, 600, Sum.inl swfq_54))] H := ⟨hP, hD⟩
            have hP := hPD.1
            have hD := hPD.2
            refine lv_aload_n hx hb d_RC_bits_67 rfl (lv_at hl 0 rfl) ?_
            refine va_get (D := (dC, dI)) (ci := 6) (v := .int (nI (ki + 1))) (C := "RangeCoders") (T := T_RC) (N := 8) hx hb hg in_RC hown hK hP 0 rfl rfl 3 (by decide) (hg _ k261) (fun _ h9 => h9) rfl d_RC_bits_68 ?_
            exact my_iret (v := (nI (ki + 1))) hx hb hr (rfl) hlocks hQ hK hS (Nat.le_refl _) (Nat.le_refl _) (sofq_54, snfq_54, swfq_54) (⟨rfl, h1_54, h2_54, h3_54⟩) (hP.sub [0, 1, 2, 3, 4] rfl) (hD.sub [0, 1, 2, 3, 4] (by decide +kernel) rfl) d_RC_bits_71
          · exact absurd (nI_lt (b := 600) hki (by decide)) c_6
        · exact absurd (by decide) c_5
      · exact absurd (nI_lt hv (by omega)) c_4
set_option maxHeartbeats 2000000 in
set_option maxRecDepth 100000 in
theorem f_RC_putZ_Stack (l : Launch) (dC : Nat → ClassId) (dI : Nat → Nat → Nat) (cI cM cO : ClassId) (sz : Nat) (rc : Nat) (ma : Nat) (k : Nat) (fit : Int32) (frd : Int32) (fbd : Int32) (fir : Int32) (mf : Nat → Option Nat) (co : Nat) (xx : Int64) (xreadX : Int64) (soa : Nat) (sna : Nat) (swa : Nat) (xkept : Int32) (ri : Nat) (ro : Nat) (rw : Nat) (xasked : Int32) (j : Nat) (mo : Nat) (o2 : Nat) (ka : Nat) (kf : Nat → Int32) (oo : Nat) (osg : Int32) (ofc : Int32) (oca : Nat) (opa : Nat) (n : Nat) (ocf : Nat → Int32) (opl : Nat) (opf : Nat → Int32) (F : Nat → Nat) (osm : Int32) (t : Nat) (hk8 : k ≤ 8) (hj : j < k) (hmf : mf j = some mo) (hkl : n ≤ 64) (hn : n ≤ 64) (hpl : opl ≤ 512) (hf : tbI ocf n F) (ht : t < n) (hfc : ofc ≤ nI t) (hFb : F t < 2 ^ 31) (hz : F t = 0) : MetI l y_RC_put (Cond.code y_RC_put prog_1_method_4_code 4 (some .int) :: gw) ({ frames := 3, cells := 0, slots := 0, locals := 64 } : Room) (dC, dI) vwCl (kT cI cM cO) [Value.ref rc, Value.int (nI j), Value.int (nI t)] [(rc, Sum.inr (6, [Value.ref co, Value.ref ma, Value.int (nI k), Value.int fit, Value.int 0, Value.int frd, Value.int fbd, Value.int fir])), (ma, Sum.inl (cM, 8, Sum.inr (Sum.inr (Sum.inr (Sum.inr mf))))), (co, Sum.inr (4, [Value.long xx, Value.long xreadX, Value.ref soa, Value.ref sna, Value.ref swa, Value.int xkept, Value.ref ri, Value.ref ro, Value.ref rw, Value.int xasked])), (mo, Sum.inr (8, [Value.ref ka, Value.ref oo, Value.ref o2])), (ka, Sum.inl (cI, n, Sum.inl kf)), (oo, Sum.inr (7, [Value.int osg, Value.int osm, Value.int ofc, Value.ref oca, Value.ref opa])), (oca, Sum.inl (cI, n, Sum.inl ocf)), (opa, Sum.inl (cI, opl, Sum.inl opf))] sz (fun (r : Int32) (u : Unit) => r = -3) (fun (u : Unit) => [(rc, Sum.inr (6, [Value.ref co, Value.ref ma, Value.int (nI k), Value.int fit, Value.int 0, Value.int frd, Value.int fbd, Value.int fir])), (ma, Sum.inl (cM, 8, Sum.inr (Sum.inr (Sum.inr (Sum.inr mf))))), (co, Sum.inr (4, [Value.long xx, Value.long xreadX, Value.ref soa, Value.ref sna, Value.ref swa, Value.int xkept, Value.ref ri, Value.ref ro, Value.ref rw, Value.int xasked])), (mo, Sum.inr (8, [Value.ref ka, Value.ref oo, Value.ref o2])), (ka, Sum.inl (cI, n, Sum.inl kf)), (oo, Sum.inr (7, [Value.int osg, Value.int osm, Value.int ofc, Value.ref oca, Value.ref opa])), (oca, Sum.inl (cI, n, Sum.inl ocf)), (opa, Sum.inl (cI, opl, Sum.inl opf))]) 0 0 := by
  refine my_ofI (cc := prog_1_method_4_code) (n := 4) (ret := (some .int)) (by decide) rfl (Nat.le_of_ble_eq_true rfl) ?_
  intro p e s m args below meth c R Q A ls H locs hx hb hr hts hown hlocks hml hnm hR hQ hA hl hP hK hN hD hS
  have hg : ∀ w ∈ gw, w.before args s = true := fun w h => hts w (List.mem_cons_of_mem _ h)
  have hown : s.vm.findClass "RangeCoders" = some m.cls := hown
  have hl : lv_has ls 4 [(0, Value.ref rc), (1, Value.int (nI j)), (2, Value.int (nI t))] := hl
  refine lv_aload_n hx hb d_RC_put_0 rfl (lv_at hl 0 rfl) ?_
  refine lv_iload_n hx hb d_RC_put_1 rfl (lv_at hl 1 rfl) ?_
  refine my_cq (wr := [(co, Sum.inr (4, [Value.long xx, Value.long xreadX, Value.ref soa, Value.ref sna, Value.ref swa, Value.int xkept, Value.ref ri, Value.ref ro, Value.ref rw, Value.int xasked])), (mo, Sum.inr (8, [Value.ref ka, Value.ref oo, Value.ref o2])), (ka, Sum.inl (cI, n, Sum.inl kf)), (oo, Sum.inr (7, [Value.int osg, Value.int osm, Value.int ofc, Value.ref oca, Value.ref opa])), (oca, Sum.inl (cI, n, Sum.inl ocf)), (opa, Sum.inl (cI, opl, Sum.inl opf))]) (va_runV (As := [Value.int (nI j)]) (rest := []) ⟨hx, hb, hml, hown, hts⟩ (c_RC_modelAtB l dC dI cI cM cO H.size rc ma k fit 0 frd fbd fir mf co j mo (by first | assumption | omega) (by first | assumption | omega) (by first | assumption | omega)) (cwV 1 hts (my_gV k412 k414 ks3 k1 k415) rfl rfl rfl cu_RC_modelAt_1 ⟨by rw [hR]; exact Nat.le_of_ble_eq_true rfl, by rw [hR]; exact Nat.le_of_ble_eq_true rfl⟩) (my_preV hK hN (hP.sub [0, 1] rfl) (hD.sub [0, 1] (by decide +kernel) rfl) 0 rfl rfl) rfl rfl hl.1 rfl (lv_room (Nat.le_of_ble_eq_true rfl)) d_RC_put_2 ⟨by rw [hR]; exact Nat.le_of_ble_eq_true rfl, by rw [hR]; exact Nat.le_of_ble_eq_true rfl⟩) hP hD hS hA [0, 1] [2, 3, 4, 5, 6, 7] rfl rfl (by decide +kernel) (by decide +kernel) (fun r_2 u9 H locs hw_2 hP hD hS => ?_)
  have hr_2 : r_2 = some mo := hw_2
  have hPD : my_PD (dC, dI) vwCl A [(co, Sum.inr (4, [Value.long xx, Value.long xreadX, Value.ref soa, Value.ref sna, Value.ref swa, Value.int xkept, Value.ref ri, Value.ref ro, Value.ref rw, Value.int xasked])), (mo, Sum.inr (8, [Value.ref ka, Value.ref oo, Value.ref o2])), (ka, Sum.inl (cI, n, Sum.inl kf)), (oo, Sum.inr (7, [Value.int osg, Value.int osm, Value.int ofc, Value.ref oca, Value.ref opa])), (oca, Sum.inl (cI, n, Sum.inl ocf)), (opa, Sum.inl (cI, opl, Sum.inl opf)), (rc, Sum.inr (6, [Value.ref co, Value.ref ma, Value.int (nI k), Value.int fit, Value.int 0, Value.int frd, Value.int fbd, Value.int fir])), (ma, Sum.inl (cM, 8, Sum.inr (Sum.inr (Sum.inr (Sum.inr mf)))))] H := ⟨hP, hD⟩
  have hP := hPD.1
  have hD := hPD.2
  subst hr_2
  refine W.eq (g2 := F0 m 5 ls [Value.ref mo]) rfl ?_
  refine lv_astore_n (lv' := [(3, Value.ref mo), (0, Value.ref rc), (1, Value.int (nI j)), (2, Value.int (nI t))]) hx hb d_RC_put_5 rfl hl (by decide) rfl (fun ls hl => ?_)
  refine lv_aload_n hx hb d_RC_put_6 rfl (lv_at hl 0 rfl) ?_
  refine lv_ifnull hx hb d_RC_put_7 ?_
  refine lv_aload_n hx hb d_RC_put_10 rfl (lv_at hl 0 rfl) ?_
  refine lv_iload_n hx hb d_RC_put_11 rfl (lv_at hl 3 rfl) ?_
  refine my_ci (wr := [(co, Sum.inr (4, [Value.long xx, Value.long xreadX, Value.ref soa, Value.ref sna, Value.ref swa, Value.int xkept, Value.ref ri, Value.ref ro, Value.ref rw, Value.int xasked])), (oo, Sum.inr (7, [Value.int osg, Value.int osm, Value.int ofc, Value.ref oca, Value.ref opa])), (oca, Sum.inl (cI, n, Sum.inl ocf)), (opa, Sum.inl (cI, opl, Sum.inl opf)), (rc, Sum.inr (6, [Value.ref co, Value.ref ma, Value.int (nI k), Value.int fit, Value.int 0, Value.int frd, Value.int fbd, Value.int fir])), (ma, Sum.inl (cM, 8, Sum.inr (Sum.inr (Sum.inr (Sum.inr mf)))))]) (va_runV (As := [Value.int (nI t)]) (rest := []) ⟨hx, hb, hml, hown, hts⟩ (f_Model_hasSign l dC dI cI cM cO H.size mo ka oo o2 n kf (nI t) (by first | assumption | omega)) (cwV 1 hts (my_gV k416 k417 k418 k13 k419) rfl rfl rfl cu_Model_hasSign_1 ⟨by rw [hR]; exact Nat.le_of_ble_eq_true rfl, by rw [hR]; exact Nat.le_of_ble_eq_true rfl⟩) (my_preV hK hN (hP.sub [1, 2] rfl) (hD.sub [1, 2] (by decide +kernel) rfl) 0 rfl rfl) rfl rfl hl.1 rfl (lv_room (Nat.le_of_ble_eq_true rfl)) d_RC_put_12 ⟨by rw [hR]; exact Nat.le_of_ble_eq_true rfl, by rw [hR]; exact Nat.le_of_ble_eq_true rfl⟩) hP hD hS hA [1, 2] [0, 3, 4, 5, 6, 7] rfl rfl (by decide +kernel) (by decide +kernel) (fun r_12 u9 H locs hw_12 hP hD hS => ?_)
  have hr_12 : r_12 = if 0 ≤ (nI t) ∧ (nI t) < nI n then 1 else 0 := hw_12
  have hPD : my_PD (dC, dI) vwCl A [(co, Sum.inr (4, [Value.long xx, Value.long xreadX, Value.ref soa, Value.ref sna, Value.ref swa, Value.int xkept, Value.ref ri, Value.ref ro, Value.ref rw, Value.int xasked])), (oo, Sum.inr (7, [Value.int osg, Value.int osm, Value.int ofc, Value.ref oca, Value.ref opa])), (oca, Sum.inl (cI, n, Sum.inl ocf)), (opa, Sum.inl (cI, opl, Sum.inl opf)), (rc, Sum.inr (6, [Value.ref co, Value.ref ma, Value.int (nI k), Value.int fit, Value.int 0, Value.int frd, Value.int fbd, Value.int fir])), (ma, Sum.inl (cM, 8, Sum.inr (Sum.inr (Sum.inr (Sum.inr mf))))), (mo, Sum.inr (8, [Value.ref ka, Value.ref oo, Value.ref o2])), (ka, Sum.inl (cI, n, Sum.inl kf))] H := ⟨hP, hD⟩
  have hP := hPD.1
  have hD := hPD.2
  refine lv_if_ne (tgt := 20) hx hb d_RC_put_15 (by decide) (fun c_1 => ?_) (fun c_1 => ?_)
  · refine lv_aload_n hx hb d_RC_put_20 rfl (lv_at hl 1 rfl) ?_
    refine va_get (D := (dC, dI)) (ci := 6) (v := .int 0) (C := "RangeCoders") (T := T_RC) (N := 8) hx hb hg in_RC hown hK hP 4 rfl rfl 4 (by decide) (hg _ k262) (fun _ h9 => h9) rfl d_RC_put_21 ?_
    refine lv_if_ne (tgt := 42) hx hb d_RC_put_24 (by decide) (fun c_2 => ?_) (fun c_2 => ?_)
    · exact absurd rfl c_2
    · refine lv_aload_n hx hb d_RC_put_27 rfl (lv_at hl 1 rfl) ?_
      refine va_get (D := (dC, dI)) (ci := 6) (v := .ref co) (C := "RangeCoders") (T := T_RC) (N := 8) hx hb hg in_RC hown hK hP 4 rfl rfl 0 (by decide) (hg _ k258) (fun _ h9 => h9) rfl d_RC_put_28 ?_
      refine lv_aload_n hx hb d_RC_put_31 rfl (lv_at hl 0 rfl) ?_
      refine va_get (D := (dC, dI)) (ci := 8) (v := .ref oo) (C := "RangeCoders$Model") (T := T_Model) (N := 3) hx hb hg in_Model hown hK hP 6 rfl rfl 1 (by decide) (hg _ k343) (fun _ h9 => h9) rfl d_RC_put_32 ?_
      refine lv_iload_n hx hb d_RC_put_35 rfl (lv_at hl 3 rfl) ?_
      refine my_ci (wr := [(rc, Sum.inr (6, [Value.ref co, Value.ref ma, Value.int (nI k), Value.int fit, Value.int 0, Value.int frd, Value.int fbd, Value.int fir])), (ma, Sum.inl (cM, 8, Sum.inr (Sum.inr (Sum.inr (Sum.inr mf))))), (mo, Sum.inr (8, [Value.ref ka, Value.ref oo, Value.ref o2])), (ka, Sum.inl (cI, n, Sum.inl kf))]) (va_runU (As := [Value.ref oo, Value.int (nI t)]) (rest := []) ⟨hx, hb, hml, hown, hts⟩ (f_Stack_canWrite l dC dI cI cM cO H.size co xx xreadX soa sna swa xkept ri ro rw xasked oo osg ofc oca opa n ocf opl opf F osm t (by first | assumption | omega) (by first | assumption | omega) (by first | assumption | omega) (by first | assumption | omega) (by first | assumption | omega) (by first | assumption | omega)) (va_cwU 2 hts (my_gU k424 k426 k432 k425 k3 k434) rfl rfl rfl rfl (by decide +kernel) ⟨by rw [hR]; exact Nat.le_of_ble_eq_true rfl, by rw [hR]; exact Nat.le_of_ble_eq_true rfl⟩) (my_preV hK hN (hP.sub [0, 1, 2, 3] rfl) (hD.sub [0, 1, 2, 3] (by decide +kernel) rfl) 0 rfl rfl) rfl rfl hl.1 rfl (lv_room (Nat.le_of_ble_eq_true rfl)) d_RC_put_36 ⟨by rw [hR]; exact Nat.le_of_ble_eq_true rfl, by rw [hR]; exact Nat.le_of_ble_eq_true rfl⟩) hP hD hS hA [0, 1, 2, 3] [4, 5, 6, 7] rfl rfl (by decide +kernel) (by decide +kernel) (fun r_36 u9 H locs hw_36 hP hD hS => ?_)
      have hr_36 : r_36 = if 0 < F t then 1 else 0 := hw_36
      have hPD : my_PD (dC, dI) vwCl A [(rc, Sum.inr (6, [Value.ref co, Value.ref ma, Value.int (nI k), Value.int fit, Value.int 0, Value.int frd, Value.int fbd, Value.int fir])), (ma, Sum.inl (cM, 8, Sum.inr (Sum.inr (Sum.inr (Sum.inr mf))))), (mo, Sum.inr (8, [Value.ref ka, Value.ref oo, Value.ref o2])), (ka, Sum.inl (cI, n, Sum.inl kf)), (co, Sum.inr (4, [Value.long xx, Value.long xreadX, Value.ref soa, Value.ref sna, Value.ref swa, Value.int xkept, Value.ref ri, Value.ref ro, Value.ref rw, Value.int xasked])), (oo, Sum.inr (7, [Value.int osg, Value.int osm, Value.int ofc, Value.ref oca, Value.ref opa])), (oca, Sum.inl (cI, n, Sum.inl ocf)), (opa, Sum.inl (cI, opl, Sum.inl opf))] H := ⟨hP, hD⟩
      have hP := hPD.1
      have hD := hPD.2
      refine lv_if_ne (tgt := 45) hx hb d_RC_put_39 (by decide) (fun c_3 => ?_) (fun c_3 => ?_)
      · exact absurd (one_ne hr_36 c_3) (by omega)
      · refine lv_bipush (v := (-3)) hx hb d_RC_put_42 (by decide) ?_
        exact my_iret (v := (-3)) hx hb hr (rfl) hlocks hQ hK hS (Nat.le_refl _) (Nat.le_refl _) () (rfl) (hP.sub [0, 1, 4, 2, 3, 5, 6, 7] rfl) (hD.sub [0, 1, 4, 2, 3, 5, 6, 7] (by decide +kernel) rfl) d_RC_put_44
  · exact absurd (has_in ht (by omega)) (one_eq hr_12 c_1)
set_option maxHeartbeats 2000000 in
set_option maxRecDepth 100000 in
theorem f_RC_putR_Stack (l : Launch) (dC : Nat → ClassId) (dI : Nat → Nat → Nat) (cI cM cO : ClassId) (sz : Nat) (rc : Nat) (ma : Nat) (k : Nat) (frd : Int32) (fbd : Int32) (fir : Int32) (mf : Nat → Option Nat) (co : Nat) (xx : Int64) (xreadX : Int64) (soa : Nat) (sna : Nat) (swa : Nat) (xkept : Int32) (ri : Nat) (ro : Nat) (rw : Nat) (xasked : Int32) (j : Nat) (mo : Nat) (o2 : Nat) (ka : Nat) (kf : Nat → Int32) (oo : Nat) (osg : Int32) (ofc : Int32) (oca : Nat) (opa : Nat) (n : Nat) (ocf : Nat → Int32) (opl : Nat) (opf : Nat → Int32) (F : Nat → Nat) (osm : Int32) (ki : Nat) (t : Nat) (hk8 : k ≤ 8) (hj : j < k) (hmf : mf j = some mo) (hkl : n ≤ 64) (hn : n ≤ 64) (hpl : opl ≤ 512) (hf : tbI ocf n F) (ht : t < n) (hfc : ofc ≤ nI t) (hFb : F t < 2 ^ 31) (hz : 0 < F t) (hk6 : ki = 600) : MetI l y_RC_put (Cond.code y_RC_put prog_1_method_4_code 4 (some .int) :: gw) ({ frames := 3, cells := 0, slots := 0, locals := 64 } : Room) (dC, dI) vwCl (kT cI cM cO) [Value.ref rc, Value.int (nI j), Value.int (nI t)] [(rc, Sum.inr (6, [Value.ref co, Value.ref ma, Value.int (nI k), Value.int (nI ki), Value.int 0, Value.int frd, Value.int fbd, Value.int fir])), (ma, Sum.inl (cM, 8, Sum.inr (Sum.inr (Sum.inr (Sum.inr mf))))), (co, Sum.inr (4, [Value.long xx, Value.long xreadX, Value.ref soa, Value.ref sna, Value.ref swa, Value.int xkept, Value.ref ri, Value.ref ro, Value.ref rw, Value.int xasked])), (mo, Sum.inr (8, [Value.ref ka, Value.ref oo, Value.ref o2])), (ka, Sum.inl (cI, n, Sum.inl kf)), (oo, Sum.inr (7, [Value.int osg, Value.int osm, Value.int ofc, Value.ref oca, Value.ref opa])), (oca, Sum.inl (cI, n, Sum.inl ocf)), (opa, Sum.inl (cI, opl, Sum.inl opf))] sz (fun (r : Int32) (u : Unit) => r = -4) (fun (u : Unit) => [(rc, Sum.inr (6, [Value.ref co, Value.ref ma, Value.int (nI k), Value.int (nI ki), Value.int 0, Value.int frd, Value.int fbd, Value.int fir])), (ma, Sum.inl (cM, 8, Sum.inr (Sum.inr (Sum.inr (Sum.inr mf))))), (co, Sum.inr (4, [Value.long xx, Value.long xreadX, Value.ref soa, Value.ref sna, Value.ref swa, Value.int xkept, Value.ref ri, Value.ref ro, Value.ref rw, Value.int xasked])), (mo, Sum.inr (8, [Value.ref ka, Value.ref oo, Value.ref o2])), (ka, Sum.inl (cI, n, Sum.inl kf)), (oo, Sum.inr (7, [Value.int osg, Value.int osm, Value.int ofc, Value.ref oca, Value.ref opa])), (oca, Sum.inl (cI, n, Sum.inl ocf)), (opa, Sum.inl (cI, opl, Sum.inl opf))]) 0 0 := by
  refine my_ofI (cc := prog_1_method_4_code) (n := 4) (ret := (some .int)) (by decide) rfl (Nat.le_of_ble_eq_true rfl) ?_
  intro p e s m args below meth c R Q A ls H locs hx hb hr hts hown hlocks hml hnm hR hQ hA hl hP hK hN hD hS
  have hg : ∀ w ∈ gw, w.before args s = true := fun w h => hts w (List.mem_cons_of_mem _ h)
  have hown : s.vm.findClass "RangeCoders" = some m.cls := hown
  have hl : lv_has ls 4 [(0, Value.ref rc), (1, Value.int (nI j)), (2, Value.int (nI t))] := hl
  refine lv_aload_n hx hb d_RC_put_0 rfl (lv_at hl 0 rfl) ?_
  refine lv_iload_n hx hb d_RC_put_1 rfl (lv_at hl 1 rfl) ?_
  refine my_cq (wr := [(co, Sum.inr (4, [Value.long xx, Value.long xreadX, Value.ref soa, Value.ref sna, Value.ref swa, Value.int xkept, Value.ref ri, Value.ref ro, Value.ref rw, Value.int xasked])), (mo, Sum.inr (8, [Value.ref ka, Value.ref oo, Value.ref o2])), (ka, Sum.inl (cI, n, Sum.inl kf)), (oo, Sum.inr (7, [Value.int osg, Value.int osm, Value.int ofc, Value.ref oca, Value.ref opa])), (oca, Sum.inl (cI, n, Sum.inl ocf)), (opa, Sum.inl (cI, opl, Sum.inl opf))]) (va_runV (As := [Value.int (nI j)]) (rest := []) ⟨hx, hb, hml, hown, hts⟩ (c_RC_modelAtB l dC dI cI cM cO H.size rc ma k (nI ki) 0 frd fbd fir mf co j mo (by first | assumption | omega) (by first | assumption | omega) (by first | assumption | omega)) (cwV 1 hts (my_gV k412 k414 ks3 k1 k415) rfl rfl rfl cu_RC_modelAt_1 ⟨by rw [hR]; exact Nat.le_of_ble_eq_true rfl, by rw [hR]; exact Nat.le_of_ble_eq_true rfl⟩) (my_preV hK hN (hP.sub [0, 1] rfl) (hD.sub [0, 1] (by decide +kernel) rfl) 0 rfl rfl) rfl rfl hl.1 rfl (lv_room (Nat.le_of_ble_eq_true rfl)) d_RC_put_2 ⟨by rw [hR]; exact Nat.le_of_ble_eq_true rfl, by rw [hR]; exact Nat.le_of_ble_eq_true rfl⟩) hP hD hS hA [0, 1] [2, 3, 4, 5, 6, 7] rfl rfl (by decide +kernel) (by decide +kernel) (fun r_2 u9 H locs hw_2 hP hD hS => ?_)
  have hr_2 : r_2 = some mo := hw_2
  have hPD : my_PD (dC, dI) vwCl A [(co, Sum.inr (4, [Value.long xx, Value.long xreadX, Value.ref soa, Value.ref sna, Value.ref swa, Value.int xkept, Value.ref ri, Value.ref ro, Value.ref rw, Value.int xasked])), (mo, Sum.inr (8, [Value.ref ka, Value.ref oo, Value.ref o2])), (ka, Sum.inl (cI, n, Sum.inl kf)), (oo, Sum.inr (7, [Value.int osg, Value.int osm, Value.int ofc, Value.ref oca, Value.ref opa])), (oca, Sum.inl (cI, n, Sum.inl ocf)), (opa, Sum.inl (cI, opl, Sum.inl opf)), (rc, Sum.inr (6, [Value.ref co, Value.ref ma, Value.int (nI k), Value.int (nI ki), Value.int 0, Value.int frd, Value.int fbd, Value.int fir])), (ma, Sum.inl (cM, 8, Sum.inr (Sum.inr (Sum.inr (Sum.inr mf)))))] H := ⟨hP, hD⟩
  have hP := hPD.1
  have hD := hPD.2
  subst hr_2
  refine W.eq (g2 := F0 m 5 ls [Value.ref mo]) rfl ?_
  refine lv_astore_n (lv' := [(3, Value.ref mo), (0, Value.ref rc), (1, Value.int (nI j)), (2, Value.int (nI t))]) hx hb d_RC_put_5 rfl hl (by decide) rfl (fun ls hl => ?_)
  refine lv_aload_n hx hb d_RC_put_6 rfl (lv_at hl 0 rfl) ?_
  refine lv_ifnull hx hb d_RC_put_7 ?_
  refine lv_aload_n hx hb d_RC_put_10 rfl (lv_at hl 0 rfl) ?_
  refine lv_iload_n hx hb d_RC_put_11 rfl (lv_at hl 3 rfl) ?_
  refine my_ci (wr := [(co, Sum.inr (4, [Value.long xx, Value.long xreadX, Value.ref soa, Value.ref sna, Value.ref swa, Value.int xkept, Value.ref ri, Value.ref ro, Value.ref rw, Value.int xasked])), (oo, Sum.inr (7, [Value.int osg, Value.int osm, Value.int ofc, Value.ref oca, Value.ref opa])), (oca, Sum.inl (cI, n, Sum.inl ocf)), (opa, Sum.inl (cI, opl, Sum.inl opf)), (rc, Sum.inr (6, [Value.ref co, Value.ref ma, Value.int (nI k), Value.int (nI ki), Value.int 0, Value.int frd, Value.int fbd, Value.int fir])), (ma, Sum.inl (cM, 8, Sum.inr (Sum.inr (Sum.inr (Sum.inr mf)))))]) (va_runV (As := [Value.int (nI t)]) (rest := []) ⟨hx, hb, hml, hown, hts⟩ (f_Model_hasSign l dC dI cI cM cO H.size mo ka oo o2 n kf (nI t) (by first | assumption | omega)) (cwV 1 hts (my_gV k416 k417 k418 k13 k419) rfl rfl rfl cu_Model_hasSign_1 ⟨by rw [hR]; exact Nat.le_of_ble_eq_true rfl, by rw [hR]; exact Nat.le_of_ble_eq_true rfl⟩) (my_preV hK hN (hP.sub [1, 2] rfl) (hD.sub [1, 2] (by decide +kernel) rfl) 0 rfl rfl) rfl rfl hl.1 rfl (lv_room (Nat.le_of_ble_eq_true rfl)) d_RC_put_12 ⟨by rw [hR]; exact Nat.le_of_ble_eq_true rfl, by rw [hR]; exact Nat.le_of_ble_eq_true rfl⟩) hP hD hS hA [1, 2] [0, 3, 4, 5, 6, 7] rfl rfl (by decide +kernel) (by decide +kernel) (fun r_12 u9 H locs hw_12 hP hD hS => ?_)
  have hr_12 : r_12 = if 0 ≤ (nI t) ∧ (nI t) < nI n then 1 else 0 := hw_12
  have hPD : my_PD (dC, dI) vwCl A [(co, Sum.inr (4, [Value.long xx, Value.long xreadX, Value.ref soa, Value.ref sna, Value.ref swa, Value.int xkept, Value.ref ri, Value.ref ro, Value.ref rw, Value.int xasked])), (oo, Sum.inr (7, [Value.int osg, Value.int osm, Value.int ofc, Value.ref oca, Value.ref opa])), (oca, Sum.inl (cI, n, Sum.inl ocf)), (opa, Sum.inl (cI, opl, Sum.inl opf)), (rc, Sum.inr (6, [Value.ref co, Value.ref ma, Value.int (nI k), Value.int (nI ki), Value.int 0, Value.int frd, Value.int fbd, Value.int fir])), (ma, Sum.inl (cM, 8, Sum.inr (Sum.inr (Sum.inr (Sum.inr mf))))), (mo, Sum.inr (8, [Value.ref ka, Value.ref oo, Value.ref o2])), (ka, Sum.inl (cI, n, Sum.inl kf))] H := ⟨hP, hD⟩
  have hP := hPD.1
  have hD := hPD.2
  refine lv_if_ne (tgt := 20) hx hb d_RC_put_15 (by decide) (fun c_1 => ?_) (fun c_1 => ?_)
  · refine lv_aload_n hx hb d_RC_put_20 rfl (lv_at hl 1 rfl) ?_
    refine va_get (D := (dC, dI)) (ci := 6) (v := .int 0) (C := "RangeCoders") (T := T_RC) (N := 8) hx hb hg in_RC hown hK hP 4 rfl rfl 4 (by decide) (hg _ k262) (fun _ h9 => h9) rfl d_RC_put_21 ?_
    refine lv_if_ne (tgt := 42) hx hb d_RC_put_24 (by decide) (fun c_2 => ?_) (fun c_2 => ?_)
    · exact absurd rfl c_2
    · refine lv_aload_n hx hb d_RC_put_27 rfl (lv_at hl 1 rfl) ?_
      refine va_get (D := (dC, dI)) (ci := 6) (v := .ref co) (C := "RangeCoders") (T := T_RC) (N := 8) hx hb hg in_RC hown hK hP 4 rfl rfl 0 (by decide) (hg _ k258) (fun _ h9 => h9) rfl d_RC_put_28 ?_
      refine lv_aload_n hx hb d_RC_put_31 rfl (lv_at hl 0 rfl) ?_
      refine va_get (D := (dC, dI)) (ci := 8) (v := .ref oo) (C := "RangeCoders$Model") (T := T_Model) (N := 3) hx hb hg in_Model hown hK hP 6 rfl rfl 1 (by decide) (hg _ k343) (fun _ h9 => h9) rfl d_RC_put_32 ?_
      refine lv_iload_n hx hb d_RC_put_35 rfl (lv_at hl 3 rfl) ?_
      refine my_ci (wr := [(rc, Sum.inr (6, [Value.ref co, Value.ref ma, Value.int (nI k), Value.int (nI ki), Value.int 0, Value.int frd, Value.int fbd, Value.int fir])), (ma, Sum.inl (cM, 8, Sum.inr (Sum.inr (Sum.inr (Sum.inr mf))))), (mo, Sum.inr (8, [Value.ref ka, Value.ref oo, Value.ref o2])), (ka, Sum.inl (cI, n, Sum.inl kf))]) (va_runU (As := [Value.ref oo, Value.int (nI t)]) (rest := []) ⟨hx, hb, hml, hown, hts⟩ (f_Stack_canWrite l dC dI cI cM cO H.size co xx xreadX soa sna swa xkept ri ro rw xasked oo osg ofc oca opa n ocf opl opf F osm t (by first | assumption | omega) (by first | assumption | omega) (by first | assumption | omega) (by first | assumption | omega) (by first | assumption | omega) (by first | assumption | omega)) (va_cwU 2 hts (my_gU k424 k426 k432 k425 k3 k434) rfl rfl rfl rfl (by decide +kernel) ⟨by rw [hR]; exact Nat.le_of_ble_eq_true rfl, by rw [hR]; exact Nat.le_of_ble_eq_true rfl⟩) (my_preV hK hN (hP.sub [0, 1, 2, 3] rfl) (hD.sub [0, 1, 2, 3] (by decide +kernel) rfl) 0 rfl rfl) rfl rfl hl.1 rfl (lv_room (Nat.le_of_ble_eq_true rfl)) d_RC_put_36 ⟨by rw [hR]; exact Nat.le_of_ble_eq_true rfl, by rw [hR]; exact Nat.le_of_ble_eq_true rfl⟩) hP hD hS hA [0, 1, 2, 3] [4, 5, 6, 7] rfl rfl (by decide +kernel) (by decide +kernel) (fun r_36 u9 H locs hw_36 hP hD hS => ?_)
      have hr_36 : r_36 = if 0 < F t then 1 else 0 := hw_36
      have hPD : my_PD (dC, dI) vwCl A [(rc, Sum.inr (6, [Value.ref co, Value.ref ma, Value.int (nI k), Value.int (nI ki), Value.int 0, Value.int frd, Value.int fbd, Value.int fir])), (ma, Sum.inl (cM, 8, Sum.inr (Sum.inr (Sum.inr (Sum.inr mf))))), (mo, Sum.inr (8, [Value.ref ka, Value.ref oo, Value.ref o2])), (ka, Sum.inl (cI, n, Sum.inl kf)), (co, Sum.inr (4, [Value.long xx, Value.long xreadX, Value.ref soa, Value.ref sna, Value.ref swa, Value.int xkept, Value.ref ri, Value.ref ro, Value.ref rw, Value.int xasked])), (oo, Sum.inr (7, [Value.int osg, Value.int osm, Value.int ofc, Value.ref oca, Value.ref opa])), (oca, Sum.inl (cI, n, Sum.inl ocf)), (opa, Sum.inl (cI, opl, Sum.inl opf))] H := ⟨hP, hD⟩
      have hP := hPD.1
      have hD := hPD.2
      refine lv_if_ne (tgt := 45) hx hb d_RC_put_39 (by decide) (fun c_3 => ?_) (fun c_3 => ?_)
      · refine lv_aload_n hx hb d_RC_put_45 rfl (lv_at hl 1 rfl) ?_
        refine va_get (D := (dC, dI)) (ci := 6) (v := .int (nI ki)) (C := "RangeCoders") (T := T_RC) (N := 8) hx hb hg in_RC hown hK hP 0 rfl rfl 3 (by decide) (hg _ k261) (fun _ h9 => h9) rfl d_RC_put_46 ?_
        refine lv_sipush (v := 600) hx hb d_RC_put_49 (by decide) ?_
        refine lv_icmp_lt (tgt := 58) hx hb d_RC_put_52 (by decide) (fun c_4 => ?_) (fun c_4 => ?_)
        · exact absurd c_4 (by rw [hk6]; decide)
        · refine lv_bipush (v := (-4)) hx hb d_RC_put_55 (by decide) ?_
          exact my_iret (v := (-4)) hx hb hr (rfl) hlocks hQ hK hS (Nat.le_refl _) (Nat.le_refl _) () (rfl) (hP.sub [0, 1, 4, 2, 3, 5, 6, 7] rfl) (hD.sub [0, 1, 4, 2, 3, 5, 6, 7] (by decide +kernel) rfl) d_RC_put_57
      · exact absurd hz (one_eq hr_36 c_3)
  · exact absurd (has_in ht (by omega)) (one_eq hr_12 c_1)
set_option maxHeartbeats 2000000 in
set_option maxRecDepth 100000 in
theorem f_RC_putL_Stack (l : Launch) (dC : Nat → ClassId) (dI : Nat → Nat → Nat) (cI cM cO : ClassId) (sz : Nat) (rc : Nat) (ma : Nat) (k : Nat) (frd : Int32) (fbd : Int32) (fir : Int32) (mf : Nat → Option Nat) (co : Nat) (xx : Int64) (xreadX : Int64) (soa : Nat) (sna : Nat) (swa : Nat) (ri : Nat) (ro : Nat) (rw : Nat) (xasked : Int32) (sof : Nat → Option Nat) (snf : Nat → Int32) (swf : Nat → Int32) (j : Nat) (mo : Nat) (o2 : Nat) (ka : Nat) (kf : Nat → Int32) (oo : Nat) (osg : Int32) (ofc : Int32) (oca : Nat) (opa : Nat) (n : Nat) (ocf : Nat → Int32) (opl : Nat) (opf : Nat → Int32) (F : Nat → Nat) (osm : Int32) (t : Nat) (ki : Nat) (hki : ki < 600) (hk8 : k ≤ 8) (hj : j < k) (hmf : mf j = some mo) (hkl : n ≤ 64) (hn : n ≤ 64) (hpl : opl ≤ 512) (hf : tbI ocf n F) (ht : t < n) (hfc : ofc ≤ nI t) (hFb : F t < 2 ^ 31) (hFt : 0 < F t) : MetI l y_RC_put (Cond.code y_RC_put prog_1_method_4_code 4 (some .int) :: gw) ({ frames := 3, cells := 0, slots := 0, locals := 64 } : Room) (dC, dI) vwCl (kT cI cM cO) [Value.ref rc, Value.int (nI j), Value.int (nI t)] [(rc, Sum.inr (6, [Value.ref co, Value.ref ma, Value.int (nI k), Value.int (nI ki), Value.int 0, Value.int frd, Value.int fbd, Value.int fir])), (ma, Sum.inl (cM, 8, Sum.inr (Sum.inr (Sum.inr (Sum.inr mf))))), (co, Sum.inr (4, [Value.long xx, Value.long xreadX, Value.ref soa, Value.ref sna, Value.ref swa, Value.int (nI ki), Value.ref ri, Value.ref ro, Value.ref rw, Value.int xasked])), (soa, Sum.inl (cO, 600, Sum.inr (Sum.inr (Sum.inr (Sum.inr sof))))), (sna, Sum.inl (cI, 600, Sum.inl snf)), (swa, Sum.inl (cI, 600, Sum.inl swf)), (mo, Sum.inr (8, [Value.ref ka, Value.ref oo, Value.ref o2])), (ka, Sum.inl (cI, n, Sum.inl kf)), (oo, Sum.inr (7, [Value.int osg, Value.int osm, Value.int ofc, Value.ref oca, Value.ref opa])), (oca, Sum.inl (cI, n, Sum.inl ocf)), (opa, Sum.inl (cI, opl, Sum.inl opf))] sz (fun (r : Int32) (u : (Nat → Option Nat) × (Nat → Int32) × (Nat → Int32)) => r = nI (ki + 1) ∧ u.1 = va_up sof ki (some oo) ∧ u.2.1 = upd snf ki (nI t) ∧ u.2.2 = upd swf ki 0) (fun (u : (Nat → Option Nat) × (Nat → Int32) × (Nat → Int32)) => [(rc, Sum.inr (6, [Value.ref co, Value.ref ma, Value.int (nI k), Value.int (nI (ki + 1)), Value.int 0, Value.int frd, Value.int fbd, Value.int fir])), (ma, Sum.inl (cM, 8, Sum.inr (Sum.inr (Sum.inr (Sum.inr mf))))), (co, Sum.inr (4, [Value.long xx, Value.long xreadX, Value.ref soa, Value.ref sna, Value.ref swa, Value.int (nI (ki + 1)), Value.ref ri, Value.ref ro, Value.ref rw, Value.int xasked])), (soa, Sum.inl (cO, 600, Sum.inr (Sum.inr (Sum.inr (Sum.inr u.1))))), (sna, Sum.inl (cI, 600, Sum.inl u.2.1)), (swa, Sum.inl (cI, 600, Sum.inl u.2.2)), (mo, Sum.inr (8, [Value.ref ka, Value.ref oo, Value.ref o2])), (ka, Sum.inl (cI, n, Sum.inl kf)), (oo, Sum.inr (7, [Value.int osg, Value.int osm, Value.int ofc, Value.ref oca, Value.ref opa])), (oca, Sum.inl (cI, n, Sum.inl ocf)), (opa, Sum.inl (cI, opl, Sum.inl opf))]) 0 0 := by
  refine my_ofI (cc := prog_1_method_4_code) (n := 4) (ret := (some .int)) (by decide) rfl (Nat.le_of_ble_eq_true rfl) ?_
  intro p e s m args below meth c R Q A ls H locs hx hb hr hts hown hlocks hml hnm hR hQ hA hl hP hK hN hD hS
  have hg : ∀ w ∈ gw, w.before args s = true := fun w h => hts w (List.mem_cons_of_mem _ h)
  have hown : s.vm.findClass "RangeCoders" = some m.cls := hown
  have hl : lv_has ls 4 [(0, Value.ref rc), (1, Value.int (nI j)), (2, Value.int (nI t))] := hl
  refine lv_aload_n hx hb d_RC_put_0 rfl (lv_at hl 0 rfl) ?_
  refine lv_iload_n hx hb d_RC_put_1 rfl (lv_at hl 1 rfl) ?_
  refine my_cq (wr := [(co, Sum.inr (4, [Value.long xx, Value.long xreadX, Value.ref soa, Value.ref sna, Value.ref swa, Value.int (nI ki), Value.ref ri, Value.ref ro, Value.ref rw, Value.int xasked])), (soa, Sum.inl (cO, 600, Sum.inr (Sum.inr (Sum.inr (Sum.inr sof))))), (sna, Sum.inl (cI, 600, Sum.inl snf)), (swa, Sum.inl (cI, 600, Sum.inl swf)), (mo, Sum.inr (8, [Value.ref ka, Value.ref oo, Value.ref o2])), (ka, Sum.inl (cI, n, Sum.inl kf)), (oo, Sum.inr (7, [Value.int osg, Value.int osm, Value.int ofc, Value.ref oca, Value.ref opa])), (oca, Sum.inl (cI, n, Sum.inl ocf)), (opa, Sum.inl (cI, opl, Sum.inl opf))]) (va_runV (As := [Value.int (nI j)]) (rest := []) ⟨hx, hb, hml, hown, hts⟩ (c_RC_modelAtB l dC dI cI cM cO H.size rc ma k (nI ki) 0 frd fbd fir mf co j mo (by first | assumption | omega) (by first | assumption | omega) (by first | assumption | omega)) (cwV 1 hts (my_gV k412 k414 ks3 k1 k415) rfl rfl rfl cu_RC_modelAt_1 ⟨by rw [hR]; exact Nat.le_of_ble_eq_true rfl, by rw [hR]; exact Nat.le_of_ble_eq_true rfl⟩) (my_preV hK hN (hP.sub [0, 1] rfl) (hD.sub [0, 1] (by decide +kernel) rfl) 0 rfl rfl) rfl rfl hl.1 rfl (lv_room (Nat.le_of_ble_eq_true rfl)) d_RC_put_2 ⟨by rw [hR]; exact Nat.le_of_ble_eq_true rfl, by rw [hR]; exact Nat.le_of_ble_eq_true rfl⟩) hP hD hS hA [0, 1] [2, 3, 4, 5, 6, 7, 8, 9, 10] rfl rfl (by decide +kernel) (by decide +kernel) (fun r_2 u9 H locs hw_2 hP hD hS => ?_)
  have hr_2 : r_2 = some mo := hw_2
  have hPD : my_PD (dC, dI) vwCl A [(co, Sum.inr (4, [Value.long xx, Value.long xreadX, Value.ref soa, Value.ref sna, Value.ref swa, Value.int (nI ki), Value.ref ri, Value.ref ro, Value.ref rw, Value.int xasked])), (soa, Sum.inl (cO, 600, Sum.inr (Sum.inr (Sum.inr (Sum.inr sof))))), (sna, Sum.inl (cI, 600, Sum.inl snf)), (swa, Sum.inl (cI, 600, Sum.inl swf)), (mo, Sum.inr (8, [Value.ref ka, Value.ref oo, Value.ref o2])), (ka, Sum.inl (cI, n, Sum.inl kf)), (oo, Sum.inr (7, [Value.int osg, Value.int osm, Value.int ofc, Value.ref oca, Value.ref opa])), (oca, Sum.inl (cI, n, Sum.inl ocf)), (opa, Sum.inl (cI, opl, Sum.inl opf)), (rc, Sum.inr (6, [Value.ref co, Value.ref ma, Value.int (nI k), Value.int (nI ki), Value.int 0, Value.int frd, Value.int fbd, Value.int fir])), (ma, Sum.inl (cM, 8, Sum.inr (Sum.inr (Sum.inr (Sum.inr mf)))))] H := ⟨hP, hD⟩
  have hP := hPD.1
  have hD := hPD.2
  subst hr_2
  refine W.eq (g2 := F0 m 5 ls [Value.ref mo]) rfl ?_
  refine lv_astore_n (lv' := [(3, Value.ref mo), (0, Value.ref rc), (1, Value.int (nI j)), (2, Value.int (nI t))]) hx hb d_RC_put_5 rfl hl (by decide) rfl (fun ls hl => ?_)
  refine lv_aload_n hx hb d_RC_put_6 rfl (lv_at hl 0 rfl) ?_
  refine lv_ifnull hx hb d_RC_put_7 ?_
  refine lv_aload_n hx hb d_RC_put_10 rfl (lv_at hl 0 rfl) ?_
  refine lv_iload_n hx hb d_RC_put_11 rfl (lv_at hl 3 rfl) ?_
  refine my_ci (wr := [(co, Sum.inr (4, [Value.long xx, Value.long xreadX, Value.ref soa, Value.ref sna, Value.ref swa, Value.int (nI ki), Value.ref ri, Value.ref ro, Value.ref rw, Value.int xasked])), (soa, Sum.inl (cO, 600, Sum.inr (Sum.inr (Sum.inr (Sum.inr sof))))), (sna, Sum.inl (cI, 600, Sum.inl snf)), (swa, Sum.inl (cI, 600, Sum.inl swf)), (oo, Sum.inr (7, [Value.int osg, Value.int osm, Value.int ofc, Value.ref oca, Value.ref opa])), (oca, Sum.inl (cI, n, Sum.inl ocf)), (opa, Sum.inl (cI, opl, Sum.inl opf)), (rc, Sum.inr (6, [Value.ref co, Value.ref ma, Value.int (nI k), Value.int (nI ki), Value.int 0, Value.int frd, Value.int fbd, Value.int fir])), (ma, Sum.inl (cM, 8, Sum.inr (Sum.inr (Sum.inr (Sum.inr mf)))))]) (va_runV (As := [Value.int (nI t)]) (rest := []) ⟨hx, hb, hml, hown, hts⟩ (f_Model_hasSign l dC dI cI cM cO H.size mo ka oo o2 n kf (nI t) (by first | assumption | omega)) (cwV 1 hts (my_gV k416 k417 k418 k13 k419) rfl rfl rfl cu_Model_hasSign_1 ⟨by rw [hR]; exact Nat.le_of_ble_eq_true rfl, by rw [hR]; exact Nat.le_of_ble_eq_true rfl⟩) (my_preV hK hN (hP.sub [4, 5] rfl) (hD.sub [4, 5] (by decide +kernel) rfl) 0 rfl rfl) rfl rfl hl.1 rfl (lv_room (Nat.le_of_ble_eq_true rfl)) d_RC_put_12 ⟨by rw [hR]; exact Nat.le_of_ble_eq_true rfl, by rw [hR]; exact Nat.le_of_ble_eq_true rfl⟩) hP hD hS hA [4, 5] [0, 1, 2, 3, 6, 7, 8, 9, 10] rfl rfl (by decide +kernel) (by decide +kernel) (fun r_12 u9 H locs hw_12 hP hD hS => ?_)
  have hr_12 : r_12 = if 0 ≤ (nI t) ∧ (nI t) < nI n then 1 else 0 := hw_12
  have hPD : my_PD (dC, dI) vwCl A [(co, Sum.inr (4, [Value.long xx, Value.long xreadX, Value.ref soa, Value.ref sna, Value.ref swa, Value.int (nI ki), Value.ref ri, Value.ref ro, Value.ref rw, Value.int xasked])), (soa, Sum.inl (cO, 600, Sum.inr (Sum.inr (Sum.inr (Sum.inr sof))))), (sna, Sum.inl (cI, 600, Sum.inl snf)), (swa, Sum.inl (cI, 600, Sum.inl swf)), (oo, Sum.inr (7, [Value.int osg, Value.int osm, Value.int ofc, Value.ref oca, Value.ref opa])), (oca, Sum.inl (cI, n, Sum.inl ocf)), (opa, Sum.inl (cI, opl, Sum.inl opf)), (rc, Sum.inr (6, [Value.ref co, Value.ref ma, Value.int (nI k), Value.int (nI ki), Value.int 0, Value.int frd, Value.int fbd, Value.int fir])), (ma, Sum.inl (cM, 8, Sum.inr (Sum.inr (Sum.inr (Sum.inr mf))))), (mo, Sum.inr (8, [Value.ref ka, Value.ref oo, Value.ref o2])), (ka, Sum.inl (cI, n, Sum.inl kf))] H := ⟨hP, hD⟩
  have hP := hPD.1
  have hD := hPD.2
  refine lv_if_ne (tgt := 20) hx hb d_RC_put_15 (by decide) (fun c_1 => ?_) (fun c_1 => ?_)
  · refine lv_aload_n hx hb d_RC_put_20 rfl (lv_at hl 1 rfl) ?_
    refine va_get (D := (dC, dI)) (ci := 6) (v := .int 0) (C := "RangeCoders") (T := T_RC) (N := 8) hx hb hg in_RC hown hK hP 7 rfl rfl 4 (by decide) (hg _ k262) (fun _ h9 => h9) rfl d_RC_put_21 ?_
    refine lv_if_ne (tgt := 42) hx hb d_RC_put_24 (by decide) (fun c_2 => ?_) (fun c_2 => ?_)
    · exact absurd rfl c_2
    · refine lv_aload_n hx hb d_RC_put_27 rfl (lv_at hl 1 rfl) ?_
      refine va_get (D := (dC, dI)) (ci := 6) (v := .ref co) (C := "RangeCoders") (T := T_RC) (N := 8) hx hb hg in_RC hown hK hP 7 rfl rfl 0 (by decide) (hg _ k258) (fun _ h9 => h9) rfl d_RC_put_28 ?_
      refine lv_aload_n hx hb d_RC_put_31 rfl (lv_at hl 0 rfl) ?_
      refine va_get (D := (dC, dI)) (ci := 8) (v := .ref oo) (C := "RangeCoders$Model") (T := T_Model) (N := 3) hx hb hg in_Model hown hK hP 9 rfl rfl 1 (by decide) (hg _ k343) (fun _ h9 => h9) rfl d_RC_put_32 ?_
      refine lv_iload_n hx hb d_RC_put_35 rfl (lv_at hl 3 rfl) ?_
      refine my_ci (wr := [(soa, Sum.inl (cO, 600, Sum.inr (Sum.inr (Sum.inr (Sum.inr sof))))), (sna, Sum.inl (cI, 600, Sum.inl snf)), (swa, Sum.inl (cI, 600, Sum.inl swf)), (rc, Sum.inr (6, [Value.ref co, Value.ref ma, Value.int (nI k), Value.int (nI ki), Value.int 0, Value.int frd, Value.int fbd, Value.int fir])), (ma, Sum.inl (cM, 8, Sum.inr (Sum.inr (Sum.inr (Sum.inr mf))))), (mo, Sum.inr (8, [Value.ref ka, Value.ref oo, Value.ref o2])), (ka, Sum.inl (cI, n, Sum.inl kf))]) (va_runU (As := [Value.ref oo, Value.int (nI t)]) (rest := []) ⟨hx, hb, hml, hown, hts⟩ (f_Stack_canWrite l dC dI cI cM cO H.size co xx xreadX soa sna swa (nI ki) ri ro rw xasked oo osg ofc oca opa n ocf opl opf F osm t (by first | assumption | omega) (by first | assumption | omega) (by first | assumption | omega) (by first | assumption | omega) (by first | assumption | omega) (by first | assumption | omega)) (va_cwU 2 hts (my_gU k424 k426 k432 k425 k3 k434) rfl rfl rfl rfl (by decide +kernel) ⟨by rw [hR]; exact Nat.le_of_ble_eq_true rfl, by rw [hR]; exact Nat.le_of_ble_eq_true rfl⟩) (my_preV hK hN (hP.sub [0, 4, 5, 6] rfl) (hD.sub [0, 4, 5, 6] (by decide +kernel) rfl) 0 rfl rfl) rfl rfl hl.1 rfl (lv_room (Nat.le_of_ble_eq_true rfl)) d_RC_put_36 ⟨by rw [hR]; exact Nat.le_of_ble_eq_true rfl, by rw [hR]; exact Nat.le_of_ble_eq_true rfl⟩) hP hD hS hA [0, 4, 5, 6] [1, 2, 3, 7, 8, 9, 10] rfl rfl (by decide +kernel) (by decide +kernel) (fun r_36 u9 H locs hw_36 hP hD hS => ?_)
      have hr_36 : r_36 = if 0 < F t then 1 else 0 := hw_36
      have hPD : my_PD (dC, dI) vwCl A [(soa, Sum.inl (cO, 600, Sum.inr (Sum.inr (Sum.inr (Sum.inr sof))))), (sna, Sum.inl (cI, 600, Sum.inl snf)), (swa, Sum.inl (cI, 600, Sum.inl swf)), (rc, Sum.inr (6, [Value.ref co, Value.ref ma, Value.int (nI k), Value.int (nI ki), Value.int 0, Value.int frd, Value.int fbd, Value.int fir])), (ma, Sum.inl (cM, 8, Sum.inr (Sum.inr (Sum.inr (Sum.inr mf))))), (mo, Sum.inr (8, [Value.ref ka, Value.ref oo, Value.ref o2])), (ka, Sum.inl (cI, n, Sum.inl kf)), (co, Sum.inr (4, [Value.long xx, Value.long xreadX, Value.ref soa, Value.ref sna, Value.ref swa, Value.int (nI ki), Value.ref ri, Value.ref ro, Value.ref rw, Value.int xasked])), (oo, Sum.inr (7, [Value.int osg, Value.int osm, Value.int ofc, Value.ref oca, Value.ref opa])), (oca, Sum.inl (cI, n, Sum.inl ocf)), (opa, Sum.inl (cI, opl, Sum.inl opf))] H := ⟨hP, hD⟩
      have hP := hPD.1
      have hD := hPD.2
      refine lv_if_ne (tgt := 45) hx hb d_RC_put_39 (by decide) (fun c_3 => ?_) (fun c_3 => ?_)
      · refine lv_aload_n hx hb d_RC_put_45 rfl (lv_at hl 1 rfl) ?_
        refine va_get (D := (dC, dI)) (ci := 6) (v := .int (nI ki)) (C := "RangeCoders") (T := T_RC) (N := 8) hx hb hg in_RC hown hK hP 3 rfl rfl 3 (by decide) (hg _ k261) (fun _ h9 => h9) rfl d_RC_put_46 ?_
        refine lv_sipush (v := 600) hx hb d_RC_put_49 (by decide) ?_
        refine lv_icmp_lt (tgt := 58) hx hb d_RC_put_52 (by decide) (fun c_4 => ?_) (fun c_4 => ?_)
        · refine lv_aload_n hx hb d_RC_put_58 rfl (lv_at hl 1 rfl) ?_
          refine va_get (D := (dC, dI)) (ci := 6) (v := .ref co) (C := "RangeCoders") (T := T_RC) (N := 8) hx hb hg in_RC hown hK hP 3 rfl rfl 0 (by decide) (hg _ k258) (fun _ h9 => h9) rfl d_RC_put_59 ?_
          refine lv_aload_n hx hb d_RC_put_62 rfl (lv_at hl 0 rfl) ?_
          refine va_get (D := (dC, dI)) (ci := 8) (v := .ref oo) (C := "RangeCoders$Model") (T := T_Model) (N := 3) hx hb hg in_Model hown hK hP 5 rfl rfl 1 (by decide) (hg _ k343) (fun _ h9 => h9) rfl d_RC_put_63 ?_
          refine lv_iload_n hx hb d_RC_put_66 rfl (lv_at hl 3 rfl) ?_
          refine my_cv (wr := [(rc, Sum.inr (6, [Value.ref co, Value.ref ma, Value.int (nI k), Value.int (nI ki), Value.int 0, Value.int frd, Value.int fbd, Value.int fir])), (ma, Sum.inl (cM, 8, Sum.inr (Sum.inr (Sum.inr (Sum.inr mf))))), (mo, Sum.inr (8, [Value.ref ka, Value.ref oo, Value.ref o2])), (ka, Sum.inl (cI, n, Sum.inl kf))]) (va_runU (As := [Value.ref oo, Value.int (nI t)]) (rest := []) ⟨hx, hb, hml, hown, hts⟩ (f_Stack_writeSign l dC dI cI cM cO H.size co xx xreadX soa sna swa ri ro rw xasked sof snf swf oo osg ofc oca opa n ocf opl opf osm ki t (by first | assumption | omega)) (va_cwA 2 hts (my_gU k439 k441 k531 k532 k9 k533) rfl rfl rfl (hN.1 _ j440 rfl) (by decide +kernel) ⟨by rw [hR]; exact Nat.le_of_ble_eq_true rfl, by rw [hR]; exact Nat.le_of_ble_eq_true rfl⟩) (my_preV hK hN (hP.sub [7, 0, 1, 2, 8, 9, 10] rfl) (hD.sub [7, 0, 1, 2, 8, 9, 10] (by decide +kernel) rfl) 0 rfl rfl) rfl rfl hl.1 rfl (lv_room (Nat.le_of_ble_eq_true rfl)) d_RC_put_67 ⟨by rw [hR]; exact Nat.le_of_ble_eq_true rfl, by rw [hR]; exact Nat.le_of_ble_eq_true rfl⟩) hP hD hS hA [7, 0, 1, 2, 8, 9, 10] [3, 4, 5, 6] rfl rfl (by decide +kernel) (by decide +kernel) (fun u9 H locs hw_67 hP hD hS => ?_)
          obtain ⟨sofq_67, snfq_67, swfq_67⟩ := u9
          obtain ⟨h1_67, h2_67, h3_67⟩ : sofq_67 = va_up sof ki (some oo) ∧ snfq_67 = upd snf ki (nI t) ∧ swfq_67 = upd swf ki 0 := hw_67
          have hPD : my_PD (dC, dI) vwCl A [(rc, Sum.inr (6, [Value.ref co, Value.ref ma, Value.int (nI k), Value.int (nI ki), Value.int 0, Value.int frd, Value.int fbd, Value.int fir])), (ma, Sum.inl (cM, 8, Sum.inr (Sum.inr (Sum.inr (Sum.inr mf))))), (mo, Sum.inr (8, [Value.ref ka, Value.ref oo, Value.ref o2])), (ka, Sum.inl (cI, n, Sum.inl kf)), (co, Sum.inr (4, [Value.long xx, Value.long xreadX, Value.ref soa, Value.ref sna, Value.ref swa, Value.int (nI (ki + 1)), Value.ref ri, Value.ref ro, Value.ref rw, Value.int xasked])), (soa, Sum.inl (cO, 600, Sum.inr (Sum.inr (Sum.inr (Sum.inr sofq_67))))), (sna, Sum.inl (cI, 600, Sum.inl snfq_67)), (swa, Sum.inl (cI, 600, Sum.inl swfq_67)), (oo, Sum.inr (7, [Value.int osg, Value.int osm, Value.int ofc, Value.ref oca, Value.ref opa])), (oca, Sum.inl (cI, n, Sum.inl ocf)), (opa, Sum.inl (cI, opl, Sum.inl opf))] H := ⟨hP, hD⟩
          have hP := hPD.1
          have hD := hPD.2
          refine lv_aload_n hx hb d_RC_put_70 rfl (lv_at hl 1 rfl) ?_
          refine lv_dup hx hb d_RC_put_71 rfl ?_
          refine va_get (D := (dC, dI)) (ci := 6) (v := .int (nI ki)) (C := "RangeCoders") (T := T_RC) (N := 8) hx hb hg in_RC hown hK hP 0 rfl rfl 3 (by decide) (hg _ k261) (fun _ h9 => h9) rfl d_RC_put_72 ?_
          refine lv_iconst (v := 1) hx hb d_RC_put_75 (by decide) ?_
          refine lv_iadd hx hb d_RC_put_76 ?_
          refine lv_topi (fun v_5 ev_5 => ?_)
          have z9 : v_5 = nI (ki + 1) := by rw [ev_5]; exact nI_1 _
          subst z9
          refine va_put (D := (dC, dI)) (ci := 6) (v := .int (nI (ki + 1))) (ty := .int) (C := "RangeCoders") (T := T_RC) (N := 8) hx hb hg in_RC t_RC o_RC n_RC hown hK hP hD hS 0 rfl rfl 3 (by decide) (hg _ k261) (fun _ h9 => h9) rfl (o_RC 3 (by decide)) rfl rfl (Nat.le_of_ble_eq_true rfl) d_RC_put_77 (fun H locs hP hD hS => ?_)
          have hPD : my_PD (dC, dI) vwCl A [(rc, Sum.inr (6, [Value.ref co, Value.ref ma, Value.int (nI k), Value.int (nI (ki + 1)), Value.int 0, Value.int frd, Value.int fbd, Value.int fir])), (ma, Sum.inl (cM, 8, Sum.inr (Sum.inr (Sum.inr (Sum.inr mf))))), (mo, Sum.inr (8, [Value.ref ka, Value.ref oo, Value.ref o2])), (ka, Sum.inl (cI, n, Sum.inl kf)), (co, Sum.inr (4, [Value.long xx, Value.long xreadX, Value.ref soa, Value.ref sna, Value.ref swa, Value.int (nI (ki + 1)), Value.ref ri, Value.ref ro, Value.ref rw, Value.int xasked])), (soa, Sum.inl (cO, 600, Sum.inr (Sum.inr (Sum.inr (Sum.inr sofq_67))))), (sna, Sum.inl (cI, 600, Sum.inl snfq_67)), (swa, Sum.inl (cI, 600, Sum.inl swfq_67)), (oo, Sum.inr (7, [Value.int osg, Value.int osm, Value.int ofc, Value.ref oca, Value.ref opa])), (oca, Sum.inl (cI, n, Sum.inl ocf)), (opa, Sum.inl (cI, opl, Sum.inl opf))] H := ⟨hP, hD⟩
          have hP := hPD.1
          have hD := hPD.2
          refine lv_aload_n hx hb d_RC_put_80 rfl (lv_at hl 1 rfl) ?_
          refine va_get (D := (dC, dI)) (ci := 6) (v := .int (nI (ki + 1))) (C := "RangeCoders") (T := T_RC) (N := 8) hx hb hg in_RC hown hK hP 0 rfl rfl 3 (by decide) (hg _ k261) (fun _ h9 => h9) rfl d_RC_put_81 ?_
          exact my_iret (v := (nI (ki + 1))) hx hb hr (rfl) hlocks hQ hK hS (Nat.le_refl _) (Nat.le_refl _) (sofq_67, snfq_67, swfq_67) (⟨rfl, h1_67, h2_67, h3_67⟩) (hP.sub [0, 1, 4, 5, 6, 7, 2, 3, 8, 9, 10] rfl) (hD.sub [0, 1, 4, 5, 6, 7, 2, 3, 8, 9, 10] (by decide +kernel) rfl) d_RC_put_84
        · exact absurd (nI_lt (b := 600) hki (by decide)) c_4
      · exact absurd hFt (one_eq hr_36 c_3)
  · exact absurd (has_in ht (by omega)) (one_eq hr_12 c_1)
set_option maxHeartbeats 2000000 in
set_option maxRecDepth 100000 in
theorem f_RC_countL_Stack (l : Launch) (dC : Nat → ClassId) (dI : Nat → Nat → Nat) (cI cM cO : ClassId) (sz : Nat) (rc : Nat) (ma : Nat) (k : Nat) (fit : Int32) (frd : Int32) (fbd : Int32) (fir : Int32) (mf : Nat → Option Nat) (co : Nat) (xx : Int64) (xreadX : Int64) (soa : Nat) (sna : Nat) (swa : Nat) (xkept : Int32) (ri : Nat) (ro : Nat) (rw : Nat) (xasked : Int32) (j : Nat) (mo : Nat) (o2 : Nat) (ka : Nat) (kf : Nat → Int32) (oo : Nat) (osg : Int32) (ofc : Int32) (oca : Nat) (opa : Nat) (n : Nat) (ocf : Nat → Int32) (opl : Nat) (opf : Nat → Int32) (osm : Int32) (C : Nat → Nat) (c9 : Nat) (t : Nat) (hk8 : k ≤ 8) (hj : j < k) (hmf : mf j = some mo) (hkl : n ≤ 64) (hn : n ≤ 64) (hpl : opl ≤ 512) (ht : t < n) (hc : c9 ≤ 4095) (hfi : ¬ 0 < fit) (hrd : frd = 0) (hk : tbI kf n C) (hB : bd C n 4095) (hn1 : 1 ≤ n) (hfc0 : ofc = 0) : MetI l y_RC_count (Cond.code y_RC_count prog_1_method_3_code 6 (some .int) :: gw) ({ frames := 4, cells := 0, slots := 0, locals := 89 } : Room) (dC, dI) vwCl (kT cI cM cO) [Value.ref rc, Value.int (nI j), Value.int (nI t), Value.int (nI c9)] [(rc, Sum.inr (6, [Value.ref co, Value.ref ma, Value.int (nI k), Value.int fit, Value.int 0, Value.int frd, Value.int fbd, Value.int fir])), (ma, Sum.inl (cM, 8, Sum.inr (Sum.inr (Sum.inr (Sum.inr mf))))), (co, Sum.inr (4, [Value.long xx, Value.long xreadX, Value.ref soa, Value.ref sna, Value.ref swa, Value.int xkept, Value.ref ri, Value.ref ro, Value.ref rw, Value.int xasked])), (mo, Sum.inr (8, [Value.ref ka, Value.ref oo, Value.ref o2])), (ka, Sum.inl (cI, n, Sum.inl kf)), (oo, Sum.inr (7, [Value.int osg, Value.int osm, Value.int ofc, Value.ref oca, Value.ref opa])), (oca, Sum.inl (cI, n, Sum.inl ocf)), (opa, Sum.inl (cI, opl, Sum.inl opf))] sz (fun (r : Int32) (u : (Nat → Int32) × (Nat → Int32)) => r = nI (C t) ∧ u.1 = upd kf t (nI c9) ∧ tbI u.2 n (sc n 4096 (upN C t c9))) (fun (u : (Nat → Int32) × (Nat → Int32)) => [(rc, Sum.inr (6, [Value.ref co, Value.ref ma, Value.int (nI k), Value.int fit, Value.int 0, Value.int frd, Value.int fbd, Value.int fir])), (ma, Sum.inl (cM, 8, Sum.inr (Sum.inr (Sum.inr (Sum.inr mf))))), (co, Sum.inr (4, [Value.long xx, Value.long xreadX, Value.ref soa, Value.ref sna, Value.ref swa, Value.int xkept, Value.ref ri, Value.ref ro, Value.ref rw, Value.int xasked])), (mo, Sum.inr (8, [Value.ref ka, Value.ref oo, Value.ref o2])), (ka, Sum.inl (cI, n, Sum.inl u.1)), (oo, Sum.inr (7, [Value.int osg, Value.int (nI (ns (sc n 4096 (upN C t c9)) n)), Value.int ofc, Value.ref oca, Value.ref opa])), (oca, Sum.inl (cI, n, Sum.inl u.2)), (opa, Sum.inl (cI, opl, Sum.inl opf))]) 0 0 := by
  refine my_ofI (cc := prog_1_method_3_code) (n := 6) (ret := (some .int)) (by decide) rfl (Nat.le_of_ble_eq_true rfl) ?_
  intro p e s m args below meth c R Q A ls H locs hx hb hr hts hown hlocks hml hnm hR hQ hA hl hP hK hN hD hS
  have hg : ∀ w ∈ gw, w.before args s = true := fun w h => hts w (List.mem_cons_of_mem _ h)
  have hown : s.vm.findClass "RangeCoders" = some m.cls := hown
  have hl : lv_has ls 6 [(0, Value.ref rc), (1, Value.int (nI j)), (2, Value.int (nI t)), (3, Value.int (nI c9))] := hl
  refine lv_aload_n hx hb d_RC_count_0 rfl (lv_at hl 0 rfl) ?_
  refine lv_iload_n hx hb d_RC_count_1 rfl (lv_at hl 1 rfl) ?_
  refine my_cq (wr := [(co, Sum.inr (4, [Value.long xx, Value.long xreadX, Value.ref soa, Value.ref sna, Value.ref swa, Value.int xkept, Value.ref ri, Value.ref ro, Value.ref rw, Value.int xasked])), (mo, Sum.inr (8, [Value.ref ka, Value.ref oo, Value.ref o2])), (ka, Sum.inl (cI, n, Sum.inl kf)), (oo, Sum.inr (7, [Value.int osg, Value.int osm, Value.int ofc, Value.ref oca, Value.ref opa])), (oca, Sum.inl (cI, n, Sum.inl ocf)), (opa, Sum.inl (cI, opl, Sum.inl opf))]) (va_runV (As := [Value.int (nI j)]) (rest := []) ⟨hx, hb, hml, hown, hts⟩ (c_RC_modelAtB l dC dI cI cM cO H.size rc ma k fit 0 frd fbd fir mf co j mo (by first | assumption | omega) (by first | assumption | omega) (by first | assumption | omega)) (cwV 1 hts (my_gV k412 k414 ks3 k1 k415) rfl rfl rfl cu_RC_modelAt_1 ⟨by rw [hR]; exact Nat.le_of_ble_eq_true rfl, by rw [hR]; exact Nat.le_of_ble_eq_true rfl⟩) (my_preV hK hN (hP.sub [0, 1] rfl) (hD.sub [0, 1] (by decide +kernel) rfl) 0 rfl rfl) rfl rfl hl.1 rfl (lv_room (Nat.le_of_ble_eq_true rfl)) d_RC_count_2 ⟨by rw [hR]; exact Nat.le_of_ble_eq_true rfl, by rw [hR]; exact Nat.le_of_ble_eq_true rfl⟩) hP hD hS hA [0, 1] [2, 3, 4, 5, 6, 7] rfl rfl (by decide +kernel) (by decide +kernel) (fun r_2 u9 H locs hw_2 hP hD hS => ?_)
  have hr_2 : r_2 = some mo := hw_2
  have hPD : my_PD (dC, dI) vwCl A [(co, Sum.inr (4, [Value.long xx, Value.long xreadX, Value.ref soa, Value.ref sna, Value.ref swa, Value.int xkept, Value.ref ri, Value.ref ro, Value.ref rw, Value.int xasked])), (mo, Sum.inr (8, [Value.ref ka, Value.ref oo, Value.ref o2])), (ka, Sum.inl (cI, n, Sum.inl kf)), (oo, Sum.inr (7, [Value.int osg, Value.int osm, Value.int ofc, Value.ref oca, Value.ref opa])), (oca, Sum.inl (cI, n, Sum.inl ocf)), (opa, Sum.inl (cI, opl, Sum.inl opf)), (rc, Sum.inr (6, [Value.ref co, Value.ref ma, Value.int (nI k), Value.int fit, Value.int 0, Value.int frd, Value.int fbd, Value.int fir])), (ma, Sum.inl (cM, 8, Sum.inr (Sum.inr (Sum.inr (Sum.inr mf)))))] H := ⟨hP, hD⟩
  have hP := hPD.1
  have hD := hPD.2
  subst hr_2
  refine W.eq (g2 := F0 m 5 ls [Value.ref mo]) rfl ?_
  refine lv_astore (lv' := [(4, Value.ref mo), (0, Value.ref rc), (1, Value.int (nI j)), (2, Value.int (nI t)), (3, Value.int (nI c9))]) hx hb d_RC_count_5 hl (by decide) rfl (fun ls hl => ?_)
  refine lv_aload hx hb d_RC_count_7 (lv_at hl 0 rfl) ?_
  refine lv_ifnull hx hb d_RC_count_9 ?_
  refine lv_aload hx hb d_RC_count_12 (lv_at hl 0 rfl) ?_
  refine lv_iload_n hx hb d_RC_count_14 rfl (lv_at hl 3 rfl) ?_
  refine my_ci (wr := [(co, Sum.inr (4, [Value.long xx, Value.long xreadX, Value.ref soa, Value.ref sna, Value.ref swa, Value.int xkept, Value.ref ri, Value.ref ro, Value.ref rw, Value.int xasked])), (oo, Sum.inr (7, [Value.int osg, Value.int osm, Value.int ofc, Value.ref oca, Value.ref opa])), (oca, Sum.inl (cI, n, Sum.inl ocf)), (opa, Sum.inl (cI, opl, Sum.inl opf)), (rc, Sum.inr (6, [Value.ref co, Value.ref ma, Value.int (nI k), Value.int fit, Value.int 0, Value.int frd, Value.int fbd, Value.int fir])), (ma, Sum.inl (cM, 8, Sum.inr (Sum.inr (Sum.inr (Sum.inr mf)))))]) (va_runV (As := [Value.int (nI t)]) (rest := []) ⟨hx, hb, hml, hown, hts⟩ (f_Model_hasSign l dC dI cI cM cO H.size mo ka oo o2 n kf (nI t) (by first | assumption | omega)) (cwV 1 hts (my_gV k416 k417 k418 k13 k419) rfl rfl rfl cu_Model_hasSign_1 ⟨by rw [hR]; exact Nat.le_of_ble_eq_true rfl, by rw [hR]; exact Nat.le_of_ble_eq_true rfl⟩) (my_preV hK hN (hP.sub [1, 2] rfl) (hD.sub [1, 2] (by decide +kernel) rfl) 0 rfl rfl) rfl rfl hl.1 rfl (lv_room (Nat.le_of_ble_eq_true rfl)) d_RC_count_15 ⟨by rw [hR]; exact Nat.le_of_ble_eq_true rfl, by rw [hR]; exact Nat.le_of_ble_eq_true rfl⟩) hP hD hS hA [1, 2] [0, 3, 4, 5, 6, 7] rfl rfl (by decide +kernel) (by decide +kernel) (fun r_15 u9 H locs hw_15 hP hD hS => ?_)
  have hr_15 : r_15 = if 0 ≤ (nI t) ∧ (nI t) < nI n then 1 else 0 := hw_15
  have hPD : my_PD (dC, dI) vwCl A [(co, Sum.inr (4, [Value.long xx, Value.long xreadX, Value.ref soa, Value.ref sna, Value.ref swa, Value.int xkept, Value.ref ri, Value.ref ro, Value.ref rw, Value.int xasked])), (oo, Sum.inr (7, [Value.int osg, Value.int osm, Value.int ofc, Value.ref oca, Value.ref opa])), (oca, Sum.inl (cI, n, Sum.inl ocf)), (opa, Sum.inl (cI, opl, Sum.inl opf)), (rc, Sum.inr (6, [Value.ref co, Value.ref ma, Value.int (nI k), Value.int fit, Value.int 0, Value.int frd, Value.int fbd, Value.int fir])), (ma, Sum.inl (cM, 8, Sum.inr (Sum.inr (Sum.inr (Sum.inr mf))))), (mo, Sum.inr (8, [Value.ref ka, Value.ref oo, Value.ref o2])), (ka, Sum.inl (cI, n, Sum.inl kf))] H := ⟨hP, hD⟩
  have hP := hPD.1
  have hD := hPD.2
  refine lv_if_ne (tgt := 23) hx hb d_RC_count_18 (by decide) (fun c_1 => ?_) (fun c_1 => ?_)
  · refine lv_iload_n hx hb d_RC_count_23 rfl (lv_at hl 4 rfl) ?_
    refine lv_if_lt (tgt := 34) hx hb d_RC_count_24 (by decide) (fun c_2 => ?_) (fun c_2 => ?_)
    · exact absurd c_2 (nI_pos (by omega))
    · refine lv_iload_n hx hb d_RC_count_27 rfl (lv_at hl 4 rfl) ?_
      refine lv_sipush (v := 4095) hx hb d_RC_count_28 (by decide) ?_
      refine lv_icmp_le (tgt := 37) hx hb d_RC_count_31 (by decide) (fun c_3 => ?_) (fun c_3 => ?_)
      · refine lv_aload_n hx hb d_RC_count_37 rfl (lv_at hl 1 rfl) ?_
        refine va_get (D := (dC, dI)) (ci := 6) (v := .int fit) (C := "RangeCoders") (T := T_RC) (N := 8) hx hb hg in_RC hown hK hP 4 rfl rfl 3 (by decide) (hg _ k261) (fun _ h9 => h9) rfl d_RC_count_38 ?_
        refine lv_if_le (tgt := 51) hx hb d_RC_count_41 (by decide) (fun c_4 => ?_) (fun c_4 => ?_)
        · refine lv_aload_n hx hb d_RC_count_51 rfl (lv_at hl 1 rfl) ?_
          refine va_get (D := (dC, dI)) (ci := 6) (v := .int frd) (C := "RangeCoders") (T := T_RC) (N := 8) hx hb hg in_RC hown hK hP 4 rfl rfl 5 (by decide) (hg _ k263) (fun _ h9 => h9) rfl d_RC_count_52 ?_
          refine lv_if_eq (tgt := 61) hx hb d_RC_count_55 (by decide) (fun c_5 => ?_) (fun c_5 => ?_)
          · refine lv_aload hx hb d_RC_count_61 (lv_at hl 0 rfl) ?_
            refine va_get (D := (dC, dI)) (ci := 8) (v := .ref ka) (C := "RangeCoders$Model") (T := T_Model) (N := 3) hx hb hg in_Model hown hK hP 6 rfl rfl 0 (by decide) (hg _ k341) (fun _ h9 => h9) rfl d_RC_count_63 ?_
            refine lv_iload_n hx hb d_RC_count_66 rfl (lv_at hl 3 rfl) ?_
            refine va_iald hx hb hK hP 7 0 rfl rfl (vp_in_nI ht (by omega)) d_RC_count_67 ?_
            refine lv_topi (fun v_6 ev_6 => ?_)
            refine lv_istore (lv' := [(5, Value.int v_6), (4, Value.ref mo), (0, Value.ref rc), (1, Value.int (nI j)), (2, Value.int (nI t)), (3, Value.int (nI c9))]) hx hb d_RC_count_68 hl (by decide) rfl (fun ls hl => ?_)
            refine lv_aload hx hb d_RC_count_70 (lv_at hl 1 rfl) ?_
            refine va_get (D := (dC, dI)) (ci := 8) (v := .ref ka) (C := "RangeCoders$Model") (T := T_Model) (N := 3) hx hb hg in_Model hown hK hP 6 rfl rfl 0 (by decide) (hg _ k341) (fun _ h9 => h9) rfl d_RC_count_72 ?_
            refine lv_iload_n hx hb d_RC_count_75 rfl (lv_at hl 4 rfl) ?_
            refine lv_iload_n hx hb d_RC_count_76 rfl (lv_at hl 5 rfl) ?_
            refine va_iast hx hb hK hP hD hS 7 0 rfl rfl (vp_in_nI ht (by omega)) d_RC_count_77 (fun H locs hP hD hS => ?_)
            have hPD : my_PD (dC, dI) vwCl A [(co, Sum.inr (4, [Value.long xx, Value.long xreadX, Value.ref soa, Value.ref sna, Value.ref swa, Value.int xkept, Value.ref ri, Value.ref ro, Value.ref rw, Value.int xasked])), (oo, Sum.inr (7, [Value.int osg, Value.int osm, Value.int ofc, Value.ref oca, Value.ref opa])), (oca, Sum.inl (cI, n, Sum.inl ocf)), (opa, Sum.inl (cI, opl, Sum.inl opf)), (rc, Sum.inr (6, [Value.ref co, Value.ref ma, Value.int (nI k), Value.int fit, Value.int 0, Value.int frd, Value.int fbd, Value.int fir])), (ma, Sum.inl (cM, 8, Sum.inr (Sum.inr (Sum.inr (Sum.inr mf))))), (mo, Sum.inr (8, [Value.ref ka, Value.ref oo, Value.ref o2])), (ka, Sum.inl (cI, n, Sum.inl (upd kf (nI t).toNatClampNeg (nI c9))))] H := ⟨hP, hD⟩
            have hP := hPD.1
            have hD := hPD.2
            have hk2 : tbI (upd kf (nI t).toNatClampNeg (nI c9)) n (upN C t c9) := tb_up hk (nI_clamp (by omega)) rfl
            have hB2 : bd (upN C t c9) n 4095 := bd_up hB hc
            refine lv_aload_n hx hb d_RC_count_78 rfl (lv_at hl 2 rfl) ?_
            refine va_get (D := (dC, dI)) (ci := 6) (v := .int 0) (C := "RangeCoders") (T := T_RC) (N := 8) hx hb hg in_RC hown hK hP 4 rfl rfl 4 (by decide) (hg _ k262) (fun _ h9 => h9) rfl d_RC_count_79 ?_
            refine lv_if_ne (tgt := 102) hx hb d_RC_count_82 (by decide) (fun c_7 => ?_) (fun c_7 => ?_)
            · exact absurd rfl c_7
            · refine lv_aload_n hx hb d_RC_count_85 rfl (lv_at hl 2 rfl) ?_
              refine va_get (D := (dC, dI)) (ci := 6) (v := .ref co) (C := "RangeCoders") (T := T_RC) (N := 8) hx hb hg in_RC hown hK hP 4 rfl rfl 0 (by decide) (hg _ k258) (fun _ h9 => h9) rfl d_RC_count_86 ?_
              refine lv_aload hx hb d_RC_count_89 (lv_at hl 1 rfl) ?_
              refine va_get (D := (dC, dI)) (ci := 8) (v := .ref oo) (C := "RangeCoders$Model") (T := T_Model) (N := 3) hx hb hg in_Model hown hK hP 6 rfl rfl 1 (by decide) (hg _ k343) (fun _ h9 => h9) rfl d_RC_count_91 ?_
              refine lv_aload hx hb d_RC_count_94 (lv_at hl 1 rfl) ?_
              refine va_get (D := (dC, dI)) (ci := 8) (v := .ref ka) (C := "RangeCoders$Model") (T := T_Model) (N := 3) hx hb hg in_Model hown hK hP 6 rfl rfl 0 (by decide) (hg _ k341) (fun _ h9 => h9) rfl d_RC_count_96 ?_
              refine my_cv (wr := [(rc, Sum.inr (6, [Value.ref co, Value.ref ma, Value.int (nI k), Value.int fit, Value.int 0, Value.int frd, Value.int fbd, Value.int fir])), (ma, Sum.inl (cM, 8, Sum.inr (Sum.inr (Sum.inr (Sum.inr mf))))), (mo, Sum.inr (8, [Value.ref ka, Value.ref oo, Value.ref o2]))]) (va_runU (As := [Value.ref oo, Value.ref ka]) (rest := []) ⟨hx, hb, hml, hown, hts⟩ (f_Stack_prepare l dC dI cI cM cO H.size co xx xreadX soa sna swa xkept ri ro rw xasked oo osg ofc oca opa n ocf opl opf osm ka (upd kf (nI t).toNatClampNeg (nI c9)) (upN C t c9) (by first | assumption | omega) (by first | assumption | omega) (hk2) (hB2) (by first | assumption | omega) (by first | assumption | omega)) (va_cwA 2 hts (my_gU k353 k355 k380 k381 k10 k382) rfl rfl rfl (hN.1 _ j354 rfl) (by decide +kernel) ⟨by rw [hR]; exact Nat.le_of_ble_eq_true rfl, by rw [hR]; exact Nat.le_of_ble_eq_true rfl⟩) (my_preV hK hN (hP.sub [0, 1, 2, 3, 7] rfl) (hD.sub [0, 1, 2, 3, 7] (by decide +kernel) rfl) 0 rfl rfl) rfl rfl hl.1 rfl (lv_room (Nat.le_of_ble_eq_true rfl)) d_RC_count_99 ⟨by rw [hR]; exact Nat.le_of_ble_eq_true rfl, by rw [hR]; exact Nat.le_of_ble_eq_true rfl⟩) hP hD hS hA [0, 1, 2, 3, 7] [4, 5, 6] rfl rfl (by decide +kernel) (by decide +kernel) (fun u9 H locs hw_99 hP hD hS => ?_)
              obtain ⟨ocfq_99, rfl⟩ : ∃ z, z = u9 := ⟨_, rfl⟩
              have hf_99 : tbI ocfq_99 n (sc n 4096 (upN C t c9)) := hw_99
              have hPD : my_PD (dC, dI) vwCl A [(rc, Sum.inr (6, [Value.ref co, Value.ref ma, Value.int (nI k), Value.int fit, Value.int 0, Value.int frd, Value.int fbd, Value.int fir])), (ma, Sum.inl (cM, 8, Sum.inr (Sum.inr (Sum.inr (Sum.inr mf))))), (mo, Sum.inr (8, [Value.ref ka, Value.ref oo, Value.ref o2])), (co, Sum.inr (4, [Value.long xx, Value.long xreadX, Value.ref soa, Value.ref sna, Value.ref swa, Value.int xkept, Value.ref ri, Value.ref ro, Value.ref rw, Value.int xasked])), (oo, Sum.inr (7, [Value.int osg, Value.int (nI (ns (sc n 4096 (upN C t c9)) n)), Value.int ofc, Value.ref oca, Value.ref opa])), (oca, Sum.inl (cI, n, Sum.inl ocfq_99)), (opa, Sum.inl (cI, opl, Sum.inl opf)), (ka, Sum.inl (cI, n, Sum.inl (upd kf (nI t).toNatClampNeg (nI c9))))] H := ⟨hP, hD⟩
              have hP := hPD.1
              have hD := hPD.2
              refine lv_iload hx hb d_RC_count_102 (lv_at hl 0 rfl) ?_
              exact my_iret (v := v_6) hx hb hr (rfl) hlocks hQ hK hS (Nat.le_refl _) (Nat.le_refl _) ((upd kf (nI t).toNatClampNeg (nI c9)), ocfq_99) (⟨by rw [ev_6]; exact tb_rd hk ht (by omega), by rw [nI_clamp (by omega)], hf_99⟩) (hP.sub [0, 1, 3, 2, 7, 4, 5, 6] rfl) (hD.sub [0, 1, 3, 2, 7, 4, 5, 6] (by decide +kernel) rfl) d_RC_count_104
          · exact absurd hrd c_5
        · exact absurd (Int32.not_le.mp c_4) hfi
      · exact absurd (nI_le (b := 4095) hc (by decide)) c_3
  · exact absurd (has_in ht (by omega)) (one_eq hr_15 c_1)
end
section
set_option maxHeartbeats 2000000 in
set_option maxRecDepth 100000 in
theorem f_Table_hasWidth (l : Launch) (dC : Nat → ClassId) (dI : Nat → Nat → Nat) (cI cM cO : ClassId) (sz : Nat) (co : Nat) (xx : Int64) (xreadX : Int64) (soa : Nat) (sna : Nat) (swa : Nat) (xkept : Int32) (ri : Nat) (ro : Nat) (rw : Nat) (xasked : Int32) (wd : Int32) : MetI l y_Table_hasWidth (Cond.code y_Table_hasWidth prog_12_method_4_code 2 (some .boolean) :: gw) ({ frames := 0, cells := 0, slots := 0, locals := 0 } : Room) (dC, dI) vwCl (kT cI cM cO) [Value.ref co, Value.int wd] [(co, Sum.inr (5, [Value.long xx, Value.long xreadX, Value.ref soa, Value.ref sna, Value.ref swa, Value.int xkept, Value.ref ri, Value.ref ro, Value.ref rw, Value.int xasked]))] sz (fun (r : Int32) (u : Unit) => r = if 1 ≤ wd ∧ wd ≤ nI 9 then 1 else 0) (fun (u : Unit) => [(co, Sum.inr (5, [Value.long xx, Value.long xreadX, Value.ref soa, Value.ref sna, Value.ref swa, Value.int xkept, Value.ref ri, Value.ref ro, Value.ref rw, Value.int xasked]))]) 0 0 := by
  refine my_ofI (cc := prog_12_method_4_code) (n := 2) (ret := (some .boolean)) (by decide) rfl (Nat.le_of_ble_eq_true rfl) ?_
  intro p e s m args below meth c R Q A ls H locs hx hb hr hts hown hlocks hml hnm hR hQ hA hl hP hK hN hD hS
  have hg : ∀ w ∈ gw, w.before args s = true := fun w h => hts w (List.mem_cons_of_mem _ h)
  have hown : s.vm.findClass "RangeCoders$Table" = some m.cls := hown
  have hl : lv_has ls 2 [(0, Value.ref co), (1, Value.int wd)] := hl
  refine lv_iload_n hx hb d_Table_hasWidth_0 rfl (lv_at hl 1 rfl) ?_
  refine lv_iconst (v := 1) hx hb d_Table_hasWidth_1 (by decide) ?_
  refine lv_icmp_lt (tgt := 15) hx hb d_Table_hasWidth_2 (by decide) (fun c_1 => ?_) (fun c_1 => ?_)
  · refine lv_iconst (v := 0) hx hb d_Table_hasWidth_15 (by decide) ?_
    exact my_iret (v := 0) hx hb hr (rfl) hlocks hQ hK hS (Nat.le_refl _) (Nat.le_refl _) () (wid_0a c_1) (hP.sub [0] rfl) (hD.sub [0] (by decide +kernel) rfl) d_Table_hasWidth_16
  · refine lv_iload_n hx hb d_Table_hasWidth_5 rfl (lv_at hl 1 rfl) ?_
    refine lv_bipush (v := 9) hx hb d_Table_hasWidth_6 (by decide) ?_
    refine lv_icmp_gt (tgt := 15) hx hb d_Table_hasWidth_8 (by decide) (fun c_2 => ?_) (fun c_2 => ?_)
    · refine lv_iconst (v := 0) hx hb d_Table_hasWidth_15 (by decide) ?_
      exact my_iret (v := 0) hx hb hr (rfl) hlocks hQ hK hS (Nat.le_refl _) (Nat.le_refl _) () (wid_0b c_2) (hP.sub [0] rfl) (hD.sub [0] (by decide +kernel) rfl) d_Table_hasWidth_16
    · refine lv_iconst (v := 1) hx hb d_Table_hasWidth_11 (by decide) ?_
      refine lv_goto (tgt := 16) hx hb d_Table_hasWidth_12 (by decide) ?_
      exact my_iret (v := 1) hx hb hr (rfl) hlocks hQ hK hS (Nat.le_refl _) (Nat.le_refl _) () (wid_1 c_1 c_2) (hP.sub [0] rfl) (hD.sub [0] (by decide +kernel) rfl) d_Table_hasWidth_16
set_option maxHeartbeats 2000000 in
set_option maxRecDepth 100000 in
theorem f_RC_bitsW_Table (l : Launch) (dC : Nat → ClassId) (dI : Nat → Nat → Nat) (cI cM cO : ClassId) (sz : Nat) (rc : Nat) (ma : Nat) (k : Nat) (fit : Int32) (fen : Int32) (frd : Int32) (fbd : Int32) (fir : Int32) (mf : Nat → Option Nat) (co : Nat) (xx : Int64) (xreadX : Int64) (soa : Nat) (sna : Nat) (swa : Nat) (xkept : Int32) (ri : Nat) (ro : Nat) (rw : Nat) (xasked : Int32) (vv : Int32) (wd : Int32) (hbad : ¬ okB 9 vv wd) : MetI l y_RC_bits (Cond.code y_RC_bits prog_1_method_5_code 3 (some .int) :: gw) ({ frames := 1, cells := 0, slots := 0, locals := 21 } : Room) (dC, dI) vwCl (kT cI cM cO) [Value.ref rc, Value.int vv, Value.int wd] [(rc, Sum.inr (6, [Value.ref co, Value.ref ma, Value.int (nI k), Value.int fit, Value.int fen, Value.int frd, Value.int fbd, Value.int fir])), (co, Sum.inr (5, [Value.long xx, Value.long xreadX, Value.ref soa, Value.ref sna, Value.ref swa, Value.int xkept, Value.ref ri, Value.ref ro, Value.ref rw, Value.int xasked]))] sz (fun (r : Int32) (u : Unit) => r = -2) (fun (u : Unit) => [(rc, Sum.inr (6, [Value.ref co, Value.ref ma, Value.int (nI k), Value.int fit, Value.int fen, Value.int frd, Value.int fbd, Value.int fir])), (co, Sum.inr (5, [Value.long xx, Value.long xreadX, Value.ref soa, Value.ref sna, Value.ref swa, Value.int xkept, Value.ref ri, Value.ref ro, Value.ref rw, Value.int xasked]))]) 0 0 := by
  refine my_ofI (cc := prog_1_method_5_code) (n := 3) (ret := (some .int)) (by decide) rfl (Nat.le_of_ble_eq_true rfl) ?_
  intro p e s m args below meth c R Q A ls H locs hx hb hr hts hown hlocks hml hnm hR hQ hA hl hP hK hN hD hS
  have hg : ∀ w ∈ gw, w.before args s = true := fun w h => hts w (List.mem_cons_of_mem _ h)
  have hown : s.vm.findClass "RangeCoders" = some m.cls := hown
  have hl : lv_has ls 3 [(0, Value.ref rc), (1, Value.int vv), (2, Value.int wd)] := hl
  refine lv_aload_n hx hb d_RC_bits_0 rfl (lv_at hl 0 rfl) ?_
  refine va_get (D := (dC, dI)) (ci := 6) (v := .ref co) (C := "RangeCoders") (T := T_RC) (N := 8) hx hb hg in_RC hown hK hP 0 rfl rfl 0 (by decide) (hg _ k258) (fun _ h9 => h9) rfl d_RC_bits_1 ?_
  refine lv_iload_n hx hb d_RC_bits_4 rfl (lv_at hl 2 rfl) ?_
  refine my_ci (wr := [(rc, Sum.inr (6, [Value.ref co, Value.ref ma, Value.int (nI k), Value.int fit, Value.int fen, Value.int frd, Value.int fbd, Value.int fir]))]) (va_runU (As := [Value.int wd]) (rest := []) ⟨hx, hb, hml, hown, hts⟩ (f_Table_hasWidth l dC dI cI cM cO H.size co xx xreadX soa sna swa xkept ri ro rw xasked wd) (va_cwO 1 hts (my_gO k543 k545 k544 k550 k551 k11 k552) rfl rfl rfl (List.mem_cons_of_mem _ k553) (by decide +kernel) ⟨by rw [hR]; exact Nat.le_of_ble_eq_true rfl, by rw [hR]; exact Nat.le_of_ble_eq_true rfl⟩) (my_preV hK hN (hP.sub [1] rfl) (hD.sub [1] (by decide +kernel) rfl) 0 rfl rfl) rfl rfl hl.1 rfl (lv_room (Nat.le_of_ble_eq_true rfl)) d_RC_bits_5 ⟨by rw [hR]; exact Nat.le_of_ble_eq_true rfl, by rw [hR]; exact Nat.le_of_ble_eq_true rfl⟩) hP hD hS hA [1] [0] rfl rfl (by decide +kernel) (by decide +kernel) (fun r_5 u9 H locs hw_5 hP hD hS => ?_)
  have hr_5 : r_5 = if 1 ≤ wd ∧ wd ≤ nI 9 then 1 else 0 := hw_5
  have hPD : my_PD (dC, dI) vwCl A [(rc, Sum.inr (6, [Value.ref co, Value.ref ma, Value.int (nI k), Value.int fit, Value.int fen, Value.int frd, Value.int fbd, Value.int fir])), (co, Sum.inr (5, [Value.long xx, Value.long xreadX, Value.ref soa, Value.ref sna, Value.ref swa, Value.int xkept, Value.ref ri, Value.ref ro, Value.ref rw, Value.int xasked]))] H := ⟨hP, hD⟩
  have hP := hPD.1
  have hD := hPD.2
  refine lv_if_eq (tgt := 22) hx hb d_RC_bits_8 (by decide) (fun c_1 => ?_) (fun c_1 => ?_)
  · refine lv_bipush (v := (-2)) hx hb d_RC_bits_22 (by decide) ?_
    exact my_iret (v := (-2)) hx hb hr (rfl) hlocks hQ hK hS (Nat.le_refl _) (Nat.le_refl _) () (rfl) (hP.sub [0, 1] rfl) (hD.sub [0, 1] (by decide +kernel) rfl) d_RC_bits_24
  · refine lv_iload_n hx hb d_RC_bits_11 rfl (lv_at hl 1 rfl) ?_
    refine lv_if_lt (tgt := 22) hx hb d_RC_bits_12 (by decide) (fun c_2 => ?_) (fun c_2 => ?_)
    · refine lv_bipush (v := (-2)) hx hb d_RC_bits_22 (by decide) ?_
      exact my_iret (v := (-2)) hx hb hr (rfl) hlocks hQ hK hS (Nat.le_refl _) (Nat.le_refl _) () (rfl) (hP.sub [0, 1] rfl) (hD.sub [0, 1] (by decide +kernel) rfl) d_RC_bits_24
    · refine lv_iload_n hx hb d_RC_bits_15 rfl (lv_at hl 1 rfl) ?_
      refine lv_iconst (v := 1) hx hb d_RC_bits_16 (by decide) ?_
      refine lv_iload_n hx hb d_RC_bits_17 rfl (lv_at hl 2 rfl) ?_
      refine lv_ishl hx hb d_RC_bits_18 ?_
      refine lv_topi (fun v_3 ev_3 => ?_)
      refine lv_icmp_lt (tgt := 25) hx hb d_RC_bits_19 (by decide) (fun c_4 => ?_) (fun c_4 => ?_)
      · exact absurd (okB_of (by decide) (one_ne hr_5 c_1) c_2 ev_3 c_4) hbad
      · refine lv_bipush (v := (-2)) hx hb d_RC_bits_22 (by decide) ?_
        exact my_iret (v := (-2)) hx hb hr (rfl) hlocks hQ hK hS (Nat.le_refl _) (Nat.le_refl _) () (rfl) (hP.sub [0, 1] rfl) (hD.sub [0, 1] (by decide +kernel) rfl) d_RC_bits_24
set_option maxHeartbeats 2000000 in
set_option maxRecDepth 100000 in
theorem f_RC_bitsE_Table (l : Launch) (dC : Nat → ClassId) (dI : Nat → Nat → Nat) (cI cM cO : ClassId) (sz : Nat) (rc : Nat) (ma : Nat) (k : Nat) (fit : Int32) (fen : Int32) (frd : Int32) (fbd : Int32) (fir : Int32) (mf : Nat → Option Nat) (co : Nat) (xx : Int64) (xreadX : Int64) (soa : Nat) (sna : Nat) (swa : Nat) (xkept : Int32) (ri : Nat) (ro : Nat) (rw : Nat) (xasked : Int32) (v : Nat) (b : Nat) (hb1 : 1 ≤ b) (hb2 : b ≤ 9) (hv : v < 2 ^ b) (hen : ¬ fen = 0) : MetI l y_RC_bits (Cond.code y_RC_bits prog_1_method_5_code 3 (some .int) :: gw) ({ frames := 1, cells := 0, slots := 0, locals := 21 } : Room) (dC, dI) vwCl (kT cI cM cO) [Value.ref rc, Value.int (nI v), Value.int (nI b)] [(rc, Sum.inr (6, [Value.ref co, Value.ref ma, Value.int (nI k), Value.int fit, Value.int fen, Value.int frd, Value.int fbd, Value.int fir])), (co, Sum.inr (5, [Value.long xx, Value.long xreadX, Value.ref soa, Value.ref sna, Value.ref swa, Value.int xkept, Value.ref ri, Value.ref ro, Value.ref rw, Value.int xasked]))] sz (fun (r : Int32) (u : Unit) => r = -3) (fun (u : Unit) => [(rc, Sum.inr (6, [Value.ref co, Value.ref ma, Value.int (nI k), Value.int fit, Value.int fen, Value.int frd, Value.int fbd, Value.int fir])), (co, Sum.inr (5, [Value.long xx, Value.long xreadX, Value.ref soa, Value.ref sna, Value.ref swa, Value.int xkept, Value.ref ri, Value.ref ro, Value.ref rw, Value.int xasked]))]) 0 0 := by
  refine my_ofI (cc := prog_1_method_5_code) (n := 3) (ret := (some .int)) (by decide) rfl (Nat.le_of_ble_eq_true rfl) ?_
  intro p e s m args below meth c R Q A ls H locs hx hb hr hts hown hlocks hml hnm hR hQ hA hl hP hK hN hD hS
  have hg : ∀ w ∈ gw, w.before args s = true := fun w h => hts w (List.mem_cons_of_mem _ h)
  have hown : s.vm.findClass "RangeCoders" = some m.cls := hown
  have hl : lv_has ls 3 [(0, Value.ref rc), (1, Value.int (nI v)), (2, Value.int (nI b))] := hl
  have hpw : 2 ^ b ≤ 2 ^ 12 := Nat.pow_le_pow_right (by decide) (by omega)
  have hpw0 : 0 < 2 ^ b := Nat.pow_pos (by decide)
  refine lv_aload_n hx hb d_RC_bits_0 rfl (lv_at hl 0 rfl) ?_
  refine va_get (D := (dC, dI)) (ci := 6) (v := .ref co) (C := "RangeCoders") (T := T_RC) (N := 8) hx hb hg in_RC hown hK hP 0 rfl rfl 0 (by decide) (hg _ k258) (fun _ h9 => h9) rfl d_RC_bits_1 ?_
  refine lv_iload_n hx hb d_RC_bits_4 rfl (lv_at hl 2 rfl) ?_
  refine my_ci (wr := [(rc, Sum.inr (6, [Value.ref co, Value.ref ma, Value.int (nI k), Value.int fit, Value.int fen, Value.int frd, Value.int fbd, Value.int fir]))]) (va_runU (As := [Value.int (nI b)]) (rest := []) ⟨hx, hb, hml, hown, hts⟩ (f_Table_hasWidth l dC dI cI cM cO H.size co xx xreadX soa sna swa xkept ri ro rw xasked (nI b)) (va_cwO 1 hts (my_gO k543 k545 k544 k550 k551 k11 k552) rfl rfl rfl (List.mem_cons_of_mem _ k553) (by decide +kernel) ⟨by rw [hR]; exact Nat.le_of_ble_eq_true rfl, by rw [hR]; exact Nat.le_of_ble_eq_true rfl⟩) (my_preV hK hN (hP.sub [1] rfl) (hD.sub [1] (by decide +kernel) rfl) 0 rfl rfl) rfl rfl hl.1 rfl (lv_room (Nat.le_of_ble_eq_true rfl)) d_RC_bits_5 ⟨by rw [hR]; exact Nat.le_of_ble_eq_true rfl, by rw [hR]; exact Nat.le_of_ble_eq_true rfl⟩) hP hD hS hA [1] [0] rfl rfl (by decide +kernel) (by decide +kernel) (fun r_5 u9 H locs hw_5 hP hD hS => ?_)
  have hr_5 : r_5 = if 1 ≤ (nI b) ∧ (nI b) ≤ nI 9 then 1 else 0 := hw_5
  have hPD : my_PD (dC, dI) vwCl A [(rc, Sum.inr (6, [Value.ref co, Value.ref ma, Value.int (nI k), Value.int fit, Value.int fen, Value.int frd, Value.int fbd, Value.int fir])), (co, Sum.inr (5, [Value.long xx, Value.long xreadX, Value.ref soa, Value.ref sna, Value.ref swa, Value.int xkept, Value.ref ri, Value.ref ro, Value.ref rw, Value.int xasked]))] H := ⟨hP, hD⟩
  have hP := hPD.1
  have hD := hPD.2
  refine lv_if_eq (tgt := 22) hx hb d_RC_bits_8 (by decide) (fun c_1 => ?_) (fun c_1 => ?_)
  · exact absurd (show 1 ≤ nI b ∧ nI b ≤ nI 9 from ⟨nI_le (a := 1) hb1 (by omega), nI_le hb2 (by decide)⟩) (one_eq hr_5 c_1)
  · refine lv_iload_n hx hb d_RC_bits_11 rfl (lv_at hl 1 rfl) ?_
    refine lv_if_lt (tgt := 22) hx hb d_RC_bits_12 (by decide) (fun c_2 => ?_) (fun c_2 => ?_)
    · exact absurd c_2 (nI_pos (by omega))
    · refine lv_iload_n hx hb d_RC_bits_15 rfl (lv_at hl 1 rfl) ?_
      refine lv_iconst (v := 1) hx hb d_RC_bits_16 (by decide) ?_
      refine lv_iload_n hx hb d_RC_bits_17 rfl (lv_at hl 2 rfl) ?_
      refine lv_ishl hx hb d_RC_bits_18 ?_
      refine lv_topi (fun v_3 ev_3 => ?_)
      have z9 : v_3 = nI (2 ^ b) := by rw [ev_3]; exact shl1 b (by omega)
      subst z9
      refine lv_icmp_lt (tgt := 25) hx hb d_RC_bits_19 (by decide) (fun c_4 => ?_) (fun c_4 => ?_)
      · refine lv_aload_n hx hb d_RC_bits_25 rfl (lv_at hl 0 rfl) ?_
        refine va_get (D := (dC, dI)) (ci := 6) (v := .int fen) (C := "RangeCoders") (T := T_RC) (N := 8) hx hb hg in_RC hown hK hP 0 rfl rfl 4 (by decide) (hg _ k262) (fun _ h9 => h9) rfl d_RC_bits_26 ?_
        refine lv_if_eq (tgt := 35) hx hb d_RC_bits_29 (by decide) (fun c_5 => ?_) (fun c_5 => ?_)
        · exact absurd c_5 hen
        · refine lv_bipush (v := (-3)) hx hb d_RC_bits_32 (by decide) ?_
          exact my_iret (v := (-3)) hx hb hr (rfl) hlocks hQ hK hS (Nat.le_refl _) (Nat.le_refl _) () (rfl) (hP.sub [0, 1] rfl) (hD.sub [0, 1] (by decide +kernel) rfl) d_RC_bits_34
      · exact absurd (nI_lt hv (by omega)) c_4
set_option maxHeartbeats 2000000 in
set_option maxRecDepth 100000 in
theorem f_RC_bitsR_Table (l : Launch) (dC : Nat → ClassId) (dI : Nat → Nat → Nat) (cI cM cO : ClassId) (sz : Nat) (rc : Nat) (ma : Nat) (k : Nat) (frd : Int32) (fbd : Int32) (fir : Int32) (mf : Nat → Option Nat) (co : Nat) (xx : Int64) (xreadX : Int64) (soa : Nat) (sna : Nat) (swa : Nat) (xkept : Int32) (ri : Nat) (ro : Nat) (rw : Nat) (xasked : Int32) (v : Nat) (b : Nat) (ki : Nat) (hb1 : 1 ≤ b) (hb2 : b ≤ 9) (hv : v < 2 ^ b) (hk6 : ki = 600) : MetI l y_RC_bits (Cond.code y_RC_bits prog_1_method_5_code 3 (some .int) :: gw) ({ frames := 1, cells := 0, slots := 0, locals := 21 } : Room) (dC, dI) vwCl (kT cI cM cO) [Value.ref rc, Value.int (nI v), Value.int (nI b)] [(rc, Sum.inr (6, [Value.ref co, Value.ref ma, Value.int (nI k), Value.int (nI ki), Value.int 0, Value.int frd, Value.int fbd, Value.int fir])), (co, Sum.inr (5, [Value.long xx, Value.long xreadX, Value.ref soa, Value.ref sna, Value.ref swa, Value.int xkept, Value.ref ri, Value.ref ro, Value.ref rw, Value.int xasked]))] sz (fun (r : Int32) (u : Unit) => r = -4) (fun (u : Unit) => [(rc, Sum.inr (6, [Value.ref co, Value.ref ma, Value.int (nI k), Value.int (nI ki), Value.int 0, Value.int frd, Value.int fbd, Value.int fir])), (co, Sum.inr (5, [Value.long xx, Value.long xreadX, Value.ref soa, Value.ref sna, Value.ref swa, Value.int xkept, Value.ref ri, Value.ref ro, Value.ref rw, Value.int xasked]))]) 0 0 := by
  refine my_ofI (cc := prog_1_method_5_code) (n := 3) (ret := (some .int)) (by decide) rfl (Nat.le_of_ble_eq_true rfl) ?_
  intro p e s m args below meth c R Q A ls H locs hx hb hr hts hown hlocks hml hnm hR hQ hA hl hP hK hN hD hS
  have hg : ∀ w ∈ gw, w.before args s = true := fun w h => hts w (List.mem_cons_of_mem _ h)
  have hown : s.vm.findClass "RangeCoders" = some m.cls := hown
  have hl : lv_has ls 3 [(0, Value.ref rc), (1, Value.int (nI v)), (2, Value.int (nI b))] := hl
  have hpw : 2 ^ b ≤ 2 ^ 12 := Nat.pow_le_pow_right (by decide) (by omega)
  have hpw0 : 0 < 2 ^ b := Nat.pow_pos (by decide)
  refine lv_aload_n hx hb d_RC_bits_0 rfl (lv_at hl 0 rfl) ?_
  refine va_get (D := (dC, dI)) (ci := 6) (v := .ref co) (C := "RangeCoders") (T := T_RC) (N := 8) hx hb hg in_RC hown hK hP 0 rfl rfl 0 (by decide) (hg _ k258) (fun _ h9 => h9) rfl d_RC_bits_1 ?_
  refine lv_iload_n hx hb d_RC_bits_4 rfl (lv_at hl 2 rfl) ?_
  refine my_ci (wr := [(rc, Sum.inr (6, [Value.ref co, Value.ref ma, Value.int (nI k), Value.int (nI ki), Value.int 0, Value.int frd, Value.int fbd, Value.int fir]))]) (va_runU (As := [Value.int (nI b)]) (rest := []) ⟨hx, hb, hml, hown, hts⟩ (f_Table_hasWidth l dC dI cI cM cO H.size co xx xreadX soa sna swa xkept ri ro rw xasked (nI b)) (va_cwO 1 hts (my_gO k543 k545 k544 k550 k551 k11 k552) rfl rfl rfl (List.mem_cons_of_mem _ k553) (by decide +kernel) ⟨by rw [hR]; exact Nat.le_of_ble_eq_true rfl, by rw [hR]; exact Nat.le_of_ble_eq_true rfl⟩) (my_preV hK hN (hP.sub [1] rfl) (hD.sub [1] (by decide +kernel) rfl) 0 rfl rfl) rfl rfl hl.1 rfl (lv_room (Nat.le_of_ble_eq_true rfl)) d_RC_bits_5 ⟨by rw [hR]; exact Nat.le_of_ble_eq_true rfl, by rw [hR]; exact Nat.le_of_ble_eq_true rfl⟩) hP hD hS hA [1] [0] rfl rfl (by decide +kernel) (by decide +kernel) (fun r_5 u9 H locs hw_5 hP hD hS => ?_)
  have hr_5 : r_5 = if 1 ≤ (nI b) ∧ (nI b) ≤ nI 9 then 1 else 0 := hw_5
  have hPD : my_PD (dC, dI) vwCl A [(rc, Sum.inr (6, [Value.ref co, Value.ref ma, Value.int (nI k), Value.int (nI ki), Value.int 0, Value.int frd, Value.int fbd, Value.int fir])), (co, Sum.inr (5, [Value.long xx, Value.long xreadX, Value.ref soa, Value.ref sna, Value.ref swa, Value.int xkept, Value.ref ri, Value.ref ro, Value.ref rw, Value.int xasked]))] H := ⟨hP, hD⟩
  have hP := hPD.1
  have hD := hPD.2
  refine lv_if_eq (tgt := 22) hx hb d_RC_bits_8 (by decide) (fun c_1 => ?_) (fun c_1 => ?_)
  · exact absurd (show 1 ≤ nI b ∧ nI b ≤ nI 9 from ⟨nI_le (a := 1) hb1 (by omega), nI_le hb2 (by decide)⟩) (one_eq hr_5 c_1)
  · refine lv_iload_n hx hb d_RC_bits_11 rfl (lv_at hl 1 rfl) ?_
    refine lv_if_lt (tgt := 22) hx hb d_RC_bits_12 (by decide) (fun c_2 => ?_) (fun c_2 => ?_)
    · exact absurd c_2 (nI_pos (by omega))
    · refine lv_iload_n hx hb d_RC_bits_15 rfl (lv_at hl 1 rfl) ?_
      refine lv_iconst (v := 1) hx hb d_RC_bits_16 (by decide) ?_
      refine lv_iload_n hx hb d_RC_bits_17 rfl (lv_at hl 2 rfl) ?_
      refine lv_ishl hx hb d_RC_bits_18 ?_
      refine lv_topi (fun v_3 ev_3 => ?_)
      have z9 : v_3 = nI (2 ^ b) := by rw [ev_3]; exact shl1 b (by omega)
      subst z9
      refine lv_icmp_lt (tgt := 25) hx hb d_RC_bits_19 (by decide) (fun c_4 => ?_) (fun c_4 => ?_)
      · refine lv_aload_n hx hb d_RC_bits_25 rfl (lv_at hl 0 rfl) ?_
        refine va_get (D := (dC, dI)) (ci := 6) (v := .int 0) (C := "RangeCoders") (T := T_RC) (N := 8) hx hb hg in_RC hown hK hP 0 rfl rfl 4 (by decide) (hg _ k262) (fun _ h9 => h9) rfl d_RC_bits_26 ?_
        refine lv_if_eq (tgt := 35) hx hb d_RC_bits_29 (by decide) (fun c_5 => ?_) (fun c_5 => ?_)
        · refine lv_aload_n hx hb d_RC_bits_35 rfl (lv_at hl 0 rfl) ?_
          refine va_get (D := (dC, dI)) (ci := 6) (v := .int (nI ki)) (C := "RangeCoders") (T := T_RC) (N := 8) hx hb hg in_RC hown hK hP 0 rfl rfl 3 (by decide) (hg _ k261) (fun _ h9 => h9) rfl d_RC_bits_36 ?_
          refine lv_sipush (v := 600) hx hb d_RC_bits_39 (by decide) ?_
          refine lv_icmp_lt (tgt := 48) hx hb d_RC_bits_42 (by decide) (fun c_6 => ?_) (fun c_6 => ?_)
          · exact absurd c_6 (by rw [hk6]; decide)
          · refine lv_bipush (v := (-4)) hx hb d_RC_bits_45 (by decide) ?_
            exact my_iret (v := (-4)) hx hb hr (rfl) hlocks hQ hK hS (Nat.le_refl _) (Nat.le_refl _) () (rfl) (hP.sub [0, 1] rfl) (hD.sub [0, 1] (by decide +kernel) rfl) d_RC_bits_47
        · exact absurd (by decide) c_5
      · exact absurd (nI_lt hv (by omega)) c_4
set_option maxHeartbeats 2000000 in
set_option maxRecDepth 100000 in
theorem f_RC_bitsL_Table (l : Launch) (dC : Nat → ClassId) (dI : Nat → Nat → Nat) (cI cM cO : ClassId) (sz : Nat) (rc : Nat) (ma : Nat) (k : Nat) (frd : Int32) (fbd : Int32) (fir : Int32) (mf : Nat → Option Nat) (co : Nat) (xx : Int64) (xreadX : Int64) (soa : Nat) (sna : Nat) (swa : Nat) (ri : Nat) (ro : Nat) (rw : Nat) (xasked : Int32) (sof : Nat → Option Nat) (snf : Nat → Int32) (swf : Nat → Int32) (v : Nat) (b : Nat) (ki : Nat) (hki : ki < 600) (hb1 : 1 ≤ b) (hb2 : b ≤ 9) (hv : v < 2 ^ b) : MetI l y_RC_bits (Cond.code y_RC_bits prog_1_method_5_code 3 (some .int) :: gw) ({ frames := 2, cells := 0, slots := 0, locals := 45 } : Room) (dC, dI) vwCl (kT cI cM cO) [Value.ref rc, Value.int (nI v), Value.int (nI b)] [(rc, Sum.inr (6, [Value.ref co, Value.ref ma, Value.int (nI k), Value.int (nI ki), Value.int 0, Value.int frd, Value.int fbd, Value.int fir])), (co, Sum.inr (5, [Value.long xx, Value.long xreadX, Value.ref soa, Value.ref sna, Value.ref swa, Value.int (nI ki), Value.ref ri, Value.ref ro, Value.ref rw, Value.int xasked])), (soa, Sum.inl (cO, 600, Sum.inr (Sum.inr (Sum.inr (Sum.inr sof))))), (sna, Sum.inl (cI, 600, Sum.inl snf)), (swa, Sum.inl (cI, 600, Sum.inl swf))] sz (fun (r : Int32) (u : (Nat → Option Nat) × (Nat → Int32) × (Nat → Int32)) => r = nI (ki + 1) ∧ u.1 = va_up sof ki none ∧ u.2.1 = upd snf ki (nI v) ∧ u.2.2 = upd swf ki (nI b)) (fun (u : (Nat → Option Nat) × (Nat → Int32) × (Nat → Int32)) => [(rc, Sum.inr (6, [Value.ref co, Value.ref ma, Value.int (nI k), Value.int (nI (ki + 1)), Value.int 0, Value.int frd, Value.int fbd, Value.int fir])), (co, Sum.inr (5, [Value.long xx, Value.long xreadX, Value.ref soa, Value.ref sna, Value.ref swa, Value.int (nI (ki + 1)), Value.ref ri, Value.ref ro, Value.ref rw, Value.int xasked])), (soa, Sum.inl (cO, 600, Sum.inr (Sum.inr (Sum.inr (Sum.inr u.1))))), (sna, Sum.inl (cI, 600, Sum.inl u.2.1)), (swa, Sum.inl (cI, 600, Sum.inl u.2.2))]) 0 0 := by
  refine my_ofI (cc := prog_1_method_5_code) (n := 3) (ret := (some .int)) (by decide) rfl (Nat.le_of_ble_eq_true rfl) ?_
  intro p e s m args below meth c R Q A ls H locs hx hb hr hts hown hlocks hml hnm hR hQ hA hl hP hK hN hD hS
  have hg : ∀ w ∈ gw, w.before args s = true := fun w h => hts w (List.mem_cons_of_mem _ h)
  have hown : s.vm.findClass "RangeCoders" = some m.cls := hown
  have hl : lv_has ls 3 [(0, Value.ref rc), (1, Value.int (nI v)), (2, Value.int (nI b))] := hl
  have hpw : 2 ^ b ≤ 2 ^ 12 := Nat.pow_le_pow_right (by decide) (by omega)
  have hpw0 : 0 < 2 ^ b := Nat.pow_pos (by decide)
  refine lv_aload_n hx hb d_RC_bits_0 rfl (lv_at hl 0 rfl) ?_
  refine va_get (D := (dC, dI)) (ci := 6) (v := .ref co) (C := "RangeCoders") (T := T_RC) (N := 8) hx hb hg in_RC hown hK hP 0 rfl rfl 0 (by decide) (hg _ k258) (fun _ h9 => h9) rfl d_RC_bits_1 ?_
  refine lv_iload_n hx hb d_RC_bits_4 rfl (lv_at hl 2 rfl) ?_
  refine my_ci (wr := [(rc, Sum.inr (6, [Value.ref co, Value.ref ma, Value.int (nI k), Value.int (nI ki), Value.int 0, Value.int frd, Value.int fbd, Value.int fir])), (soa, Sum.inl (cO, 600, Sum.inr (Sum.inr (Sum.inr (Sum.inr sof))))), (sna, Sum.inl (cI, 600, Sum.inl snf)), (swa, Sum.inl (cI, 600, Sum.inl swf))]) (va_runU (As := [Value.int (nI b)]) (rest := []) ⟨hx, hb, hml, hown, hts⟩ (f_Table_hasWidth l dC dI cI cM cO H.size co xx xreadX soa sna swa (nI ki) ri ro rw xasked (nI b)) (va_cwO 1 hts (my_gO k543 k545 k544 k550 k551 k11 k552) rfl rfl rfl (List.mem_cons_of_mem _ k553) (by decide +kernel) ⟨by rw [hR]; exact Nat.le_of_ble_eq_true rfl, by rw [hR]; exact Nat.le_of_ble_eq_true rfl⟩) (my_preV hK hN (hP.sub [1] rfl) (hD.sub [1] (by decide +kernel) rfl) 0 rfl rfl) rfl rfl hl.1 rfl (lv_room (Nat.le_of_ble_eq_true rfl)) d_RC_bits_5 ⟨by rw [hR]; exact Nat.le_of_ble_eq_true rfl, by rw [hR]; exact Nat.le_of_ble_eq_true rfl⟩) hP hD hS hA [1] [0, 2, 3, 4] rfl rfl (by decide +kernel) (by decide +kernel) (fun r_5 u9 H locs hw_5 hP hD hS => ?_)
  have hr_5 : r_5 = if 1 ≤ (nI b) ∧ (nI b) ≤ nI 9 then 1 else 0 := hw_5
  have hPD : my_PD (dC, dI) vwCl A [(rc, Sum.inr (6, [Value.ref co, Value.ref ma, Value.int (nI k), Value.int (nI ki), Value.int 0, Value.int frd, Value.int fbd, Value.int fir])), (soa, Sum.inl (cO, 600, Sum.inr (Sum.inr (Sum.inr (Sum.inr sof))))), (sna, Sum.inl (cI, 600, Sum.inl snf)), (swa, Sum.inl (cI, 600, Sum.inl swf)), (co, Sum.inr (5, [Value.long xx, Value.long xreadX, Value.ref soa, Value.ref sna, Value.ref swa, Value.int (nI ki), Value.ref ri, Value.ref ro, Value.ref rw, Value.int xasked]))] H := ⟨hP, hD⟩
  have hP := hPD.1
  have hD := hPD.2
  refine lv_if_eq (tgt := 22) hx hb d_RC_bits_8 (by decide) (fun c_1 => ?_) (fun c_1 => ?_)
  · exact absurd (show 1 ≤ nI b ∧ nI b ≤ nI 9 from ⟨nI_le (a := 1) hb1 (by omega), nI_le hb2 (by decide)⟩) (one_eq hr_5 c_1)
  · refine lv_iload_n hx hb d_RC_bits_11 rfl (lv_at hl 1 rfl) ?_
    refine lv_if_lt (tgt := 22) hx hb d_RC_bits_12 (by decide) (fun c_2 => ?_) (fun c_2 => ?_)
    · exact absurd c_2 (nI_pos (by omega))
    · refine lv_iload_n hx hb d_RC_bits_15 rfl (lv_at hl 1 rfl) ?_
      refine lv_iconst (v := 1) hx hb d_RC_bits_16 (by decide) ?_
      refine lv_iload_n hx hb d_RC_bits_17 rfl (lv_at hl 2 rfl) ?_
      refine lv_ishl hx hb d_RC_bits_18 ?_
      refine lv_topi (fun v_3 ev_3 => ?_)
      have z9 : v_3 = nI (2 ^ b) := by rw [ev_3]; exact shl1 b (by omega)
      subst z9
      refine lv_icmp_lt (tgt := 25) hx hb d_RC_bits_19 (by decide) (fun c_4 => ?_) (fun c_4 => ?_)
      · refine lv_aload_n hx hb d_RC_bits_25 rfl (lv_at hl 0 rfl) ?_
        refine va_get (D := (dC, dI)) (ci := 6) (v := .int 0) (C := "RangeCoders") (T := T_RC) (N := 8) hx hb hg in_RC hown hK hP 0 rfl rfl 4 (by decide) (hg _ k262) (fun _ h9 => h9) rfl d_RC_bits_26 ?_
        refine lv_if_eq (tgt := 35) hx hb d_RC_bits_29 (by decide) (fun c_5 => ?_) (fun c_5 => ?_)
        · refine lv_aload_n hx hb d_RC_bits_35 rfl (lv_at hl 0 rfl) ?_
          refine va_get (D := (dC, dI)) (ci := 6) (v := .int (nI ki)) (C := "RangeCoders") (T := T_RC) (N := 8) hx hb hg in_RC hown hK hP 0 rfl rfl 3 (by decide) (hg _ k261) (fun _ h9 => h9) rfl d_RC_bits_36 ?_
          refine lv_sipush (v := 600) hx hb d_RC_bits_39 (by decide) ?_
          refine lv_icmp_lt (tgt := 48) hx hb d_RC_bits_42 (by decide) (fun c_6 => ?_) (fun c_6 => ?_)
          · refine lv_aload_n hx hb d_RC_bits_48 rfl (lv_at hl 0 rfl) ?_
            refine va_get (D := (dC, dI)) (ci := 6) (v := .ref co) (C := "RangeCoders") (T := T_RC) (N := 8) hx hb hg in_RC hown hK hP 0 rfl rfl 0 (by decide) (hg _ k258) (fun _ h9 => h9) rfl d_RC_bits_49 ?_
            refine lv_iload_n hx hb d_RC_bits_52 rfl (lv_at hl 1 rfl) ?_
            refine lv_iload_n hx hb d_RC_bits_53 rfl (lv_at hl 2 rfl) ?_
            refine my_cv (wr := [(rc, Sum.inr (6, [Value.ref co, Value.ref ma, Value.int (nI k), Value.int (nI ki), Value.int 0, Value.int frd, Value.int fbd, Value.int fir]))]) (va_runU (As := [Value.int (nI v), Value.int (nI b)]) (rest := []) ⟨hx, hb, hml, hown, hts⟩ (f_Table_writeValue l dC dI cI cM cO H.size co xx xreadX soa sna swa ri ro rw xasked sof snf swf ki v b (by first | assumption | omega)) (va_cwA 2 hts (my_gU k554 k556 k567 k565 k9 k566) rfl rfl rfl (hN.1 _ j555 rfl) (by decide +kernel) ⟨by rw [hR]; exact Nat.le_of_ble_eq_true rfl, by rw [hR]; exact Nat.le_of_ble_eq_true rfl⟩) (my_preV hK hN (hP.sub [4, 1, 2, 3] rfl) (hD.sub [4, 1, 2, 3] (by decide +kernel) rfl) 0 rfl rfl) rfl rfl hl.1 rfl (lv_room (Nat.le_of_ble_eq_true rfl)) d_RC_bits_54 ⟨by rw [hR]; exact Nat.le_of_ble_eq_true rfl, by rw [hR]; exact Nat.le_of_ble_eq_true rfl⟩) hP hD hS hA [4, 1, 2, 3] [0] rfl rfl (by decide +kernel) (by decide +kernel) (fun u9 H locs hw_54 hP hD hS => ?_)
            obtain ⟨sofq_54, snfq_54, swfq_54⟩ := u9
            obtain ⟨h1_54, h2_54, h3_54⟩ : sofq_54 = va_up sof ki (none) ∧ snfq_54 = upd snf ki (nI v) ∧ swfq_54 = upd swf ki (nI b) := hw_54
            have hPD : my_PD (dC, dI) vwCl A [(rc, Sum.inr (6, [Value.ref co, Value.ref ma, Value.int (nI k), Value.int (nI ki), Value.int 0, Value.int frd, Value.int fbd, Value.int fir])), (co, Sum.inr (5, [Value.long xx, Value.long xreadX, Value.ref soa, Value.ref sna, Value.ref swa, Value.int (nI (ki + 1)), Value.ref ri, Value.ref ro, Value.ref rw, Value.int xasked])), (soa, Sum.inl (cO, 600, Sum.inr (Sum.inr (Sum.inr (Sum.inr sofq_54))))), (sna, Sum.inl (cI, 600, Sum.inl snfq_54)), (swa, Sum.inl (cI, 600, Sum.inl swfq_54))] H := ⟨hP, hD⟩
            have hP := hPD.1
            have hD := hPD.2
            refine lv_aload_n hx hb d_RC_bits_57 rfl (lv_at hl 0 rfl) ?_
            refine lv_dup hx hb d_RC_bits_58 rfl ?_
            refine va_get (D := (dC, dI)) (ci := 6) (v := .int (nI ki)) (C := "RangeCoders") (T := T_RC) (N := 8) hx hb hg in_RC hown hK hP 0 rfl rfl 3 (by decide) (hg _ k261) (fun _ h9 => h9) rfl d_RC_bits_59 ?_
            refine lv_iconst (v := 1) hx hb d_RC_bits_62 (by decide) ?_
            refine lv_iadd hx hb d_RC_bits_63 ?_
            refine lv_topi (fun v_7 ev_7 => ?_)
            have z9 : v_7 = nI (ki + 1) := by rw [ev_7]; exact nI_1 _
            subst z9
            refine va_put (D := (dC, dI)) (ci := 6) (v := .int (nI (ki + 1))) (ty := .int) (C := "RangeCoders") (T := T_RC) (N := 8) hx hb hg in_RC t_RC o_RC n_RC hown hK hP hD hS 0 rfl rfl 3 (by decide) (hg _ k261) (fun _ h9 => h9) rfl (o_RC 3 (by decide)) rfl rfl (Nat.le_of_ble_eq_true rfl) d_RC_bits_64 (fun H locs hP hD hS => ?_)
            have hPD : my_PD (dC, dI) vwCl A [(rc, Sum.inr (6, [Value.ref co, Value.ref ma, Value.int (nI k), Value.int (nI (ki + 1)), Value.int 0, Value.int frd, Value.int fbd, Value.int fir])), (co, Sum.inr (5, [Value.long xx, Value.long xreadX, Value.ref soa, Value.ref sna, Value.ref swa, Value.int (nI (ki + 1)), Value.ref ri, Value.ref ro, Value.ref rw, Value.int xasked])), (soa, Sum.inl (cO, 600, Sum.inr (Sum.inr (Sum.inr (Sum.inr sofq_54))))), (sna, Sum.inl (cI, 600, Sum.inl snfq_54)), (swa, Sum.inl (cI, 600, Sum.inl swfq_54))] H := ⟨hP, hD⟩
            have hP := hPD.1
            have hD := hPD.2
            refine lv_aload_n hx hb d_RC_bits_67 rfl (lv_at hl 0 rfl) ?_
            refine va_get (D := (dC, dI)) (ci := 6) (v := .int (nI (ki + 1))) (C := "RangeCoders") (T := T_RC) (N := 8) hx hb hg in_RC hown hK hP 0 rfl rfl 3 (by decide) (hg _ k261) (fun _ h9 => h9) rfl d_RC_bits_68 ?_
            exact my_iret (v := (nI (ki + 1))) hx hb hr (rfl) hlocks hQ hK hS (Nat.le_refl _) (Nat.le_refl _) (sofq_54, snfq_54, swfq_54) (⟨rfl, h1_54, h2_54, h3_54⟩) (hP.sub [0, 1, 2, 3, 4] rfl) (hD.sub [0, 1, 2, 3, 4] (by decide +kernel) rfl) d_RC_bits_71
          · exact absurd (nI_lt (b := 600) hki (by decide)) c_6
        · exact absurd (by decide) c_5
      · exact absurd (nI_lt hv (by omega)) c_4
set_option maxHeartbeats 2000000 in
set_option maxRecDepth 100000 in
theorem f_RC_putZ_Table (l : Launch) (dC : Nat → ClassId) (dI : Nat → Nat → Nat) (cI cM cO : ClassId) (sz : Nat) (rc : Nat) (ma : Nat) (k : Nat) (fit : Int32) (frd : Int32) (fbd : Int32) (fir : Int32) (mf : Nat → Option Nat) (co : Nat) (xx : Int64) (xreadX : Int64) (soa : Nat) (sna : Nat) (swa : Nat) (xkept : Int32) (ri : Nat) (ro : Nat) (rw : Nat) (xasked : Int32) (j : Nat) (mo : Nat) (o2 : Nat) (ka : Nat) (kf : Nat → Int32) (oo : Nat) (osg : Int32) (ofc : Int32) (oca : Nat) (opa : Nat) (n : Nat) (ocf : Nat → Int32) (opl : Nat) (opf : Nat → Int32) (F : Nat → Nat) (osm : Int32) (t : Nat) (hk8 : k ≤ 8) (hj : j < k) (hmf : mf j = some mo) (hkl : n ≤ 64) (hn : n ≤ 64) (hpl : opl ≤ 512) (hf : tbI ocf n F) (ht : t < n) (hfc : ofc ≤ nI t) (hFb : F t < 2 ^ 31) (hz : F t = 0) : MetI l y_RC_put (Cond.code y_RC_put prog_1_method_4_code 4 (some .int) :: gw) ({ frames := 3, cells := 0, slots := 0, locals := 64 } : Room) (dC, dI) vwCl (kT cI cM cO) [Value.ref rc, Value.int (nI j), Value.int (nI t)] [(rc, Sum.inr (6, [Value.ref co, Value.ref ma, Value.int (nI k), Value.int fit, Value.int 0, Value.int frd, Value.int fbd, Value.int fir])), (ma, Sum.inl (cM, 8, Sum.inr (Sum.inr (Sum.inr (Sum.inr mf))))), (co, Sum.inr (5, [Value.long xx, Value.long xreadX, Value.ref soa, Value.ref sna, Value.ref swa, Value.int xkept, Value.ref ri, Value.ref ro, Value.ref rw, Value.int xasked])), (mo, Sum.inr (8, [Value.ref ka, Value.ref oo, Value.ref o2])), (ka, Sum.inl (cI, n, Sum.inl kf)), (oo, Sum.inr (7, [Value.int osg, Value.int osm, Value.int ofc, Value.ref oca, Value.ref opa])), (oca, Sum.inl (cI, n, Sum.inl ocf)), (opa, Sum.inl (cI, opl, Sum.inl opf))] sz (fun (r : Int32) (u : Unit) => r = -3) (fun (u : Unit) => [(rc, Sum.inr (6, [Value.ref co, Value.ref ma, Value.int (nI k), Value.int fit, Value.int 0, Value.int frd, Value.int fbd, Value.int fir])), (ma, Sum.inl (cM, 8, Sum.inr (Sum.inr (Sum.inr (Sum.inr mf))))), (co, Sum.inr (5, [Value.long xx, Value.long xreadX, Value.ref soa, Value.ref sna, Value.ref swa, Value.int xkept, Value.ref ri, Value.ref ro, Value.ref rw, Value.int xasked])), (mo, Sum.inr (8, [Value.ref ka, Value.ref oo, Value.ref o2])), (ka, Sum.inl (cI, n, Sum.inl kf)), (oo, Sum.inr (7, [Value.int osg, Value.int osm, Value.int ofc, Value.ref oca, Value.ref opa])), (oca, Sum.inl (cI, n, Sum.inl ocf)), (opa, Sum.inl (cI, opl, Sum.inl opf))]) 0 0 := by
  refine my_ofI (cc := prog_1_method_4_code) (n := 4) (ret := (some .int)) (by decide) rfl (Nat.le_of_ble_eq_true rfl) ?_
  intro p e s m args below meth c R Q A ls H locs hx hb hr hts hown hlocks hml hnm hR hQ hA hl hP hK hN hD hS
  have hg : ∀ w ∈ gw, w.before args s = true := fun w h => hts w (List.mem_cons_of_mem _ h)
  have hown : s.vm.findClass "RangeCoders" = some m.cls := hown
  have hl : lv_has ls 4 [(0, Value.ref rc), (1, Value.int (nI j)), (2, Value.int (nI t))] := hl
  refine lv_aload_n hx hb d_RC_put_0 rfl (lv_at hl 0 rfl) ?_
  refine lv_iload_n hx hb d_RC_put_1 rfl (lv_at hl 1 rfl) ?_
  refine my_cq (wr := [(co, Sum.inr (5, [Value.long xx, Value.long xreadX, Value.ref soa, Value.ref sna, Value.ref swa, Value.int xkept, Value.ref ri, Value.ref ro, Value.ref rw, Value.int xasked])), (mo, Sum.inr (8, [Value.ref ka, Value.ref oo, Value.ref o2])), (ka, Sum.inl (cI, n, Sum.inl kf)), (oo, Sum.inr (7, [Value.int osg, Value.int osm, Value.int ofc, Value.ref oca, Value.ref opa])), (oca, Sum.inl (cI, n, Sum.inl ocf)), (opa, Sum.inl (cI, opl, Sum.inl opf))]) (va_runV (As := [Value.int (nI j)]) (rest := []) ⟨hx, hb, hml, hown, hts⟩ (c_RC_modelAtB l dC dI cI cM cO H.size rc ma k fit 0 frd fbd fir mf co j mo (by first | assumption | omega) (by first | assumption | omega) (by first | assumption | omega)) (cwV 1 hts (my_gV k412 k414 ks3 k1 k415) rfl rfl rfl cu_RC_modelAt_1 ⟨by rw [hR]; exact Nat.le_of_ble_eq_true rfl, by rw [hR]; exact Nat.le_of_ble_eq_true rfl⟩) (my_preV hK hN (hP.sub [0, 1] rfl) (hD.sub [0, 1] (by decide +kernel) rfl) 0 rfl rfl) rfl rfl hl.1 rfl (lv_room (Nat.le_of_ble_eq_true rfl)) d_RC_put_2 ⟨by rw [hR]; exact Nat.le_of_ble_eq_true rfl, by rw [hR]; exact Nat.le_of_ble_eq_true rfl⟩) hP hD hS hA [0, 1] [2, 3, 4, 5, 6, 7] rfl rfl (by decide +kernel) (by decide +kernel) (fun r_2 u9 H locs hw_2 hP hD hS => ?_)
  have hr_2 : r_2 = some mo := hw_2
  have hPD : my_PD (dC, dI) vwCl A [(co, Sum.inr (5, [Value.long xx, Value.long xreadX, Value.ref soa, Value.ref sna, Value.ref swa, Value.int xkept, Value.ref ri, Value.ref ro, Value.ref rw, Value.int xasked])), (mo, Sum.inr (8, [Value.ref ka, Value.ref oo, Value.ref o2])), (ka, Sum.inl (cI, n, Sum.inl kf)), (oo, Sum.inr (7, [Value.int osg, Value.int osm, Value.int ofc, Value.ref oca, Value.ref opa])), (oca, Sum.inl (cI, n, Sum.inl ocf)), (opa, Sum.inl (cI, opl, Sum.inl opf)), (rc, Sum.inr (6, [Value.ref co, Value.ref ma, Value.int (nI k), Value.int fit, Value.int 0, Value.int frd, Value.int fbd, Value.int fir])), (ma, Sum.inl (cM, 8, Sum.inr (Sum.inr (Sum.inr (Sum.inr mf)))))] H := ⟨hP, hD⟩
  have hP := hPD.1
  have hD := hPD.2
  subst hr_2
  refine W.eq (g2 := F0 m 5 ls [Value.ref mo]) rfl ?_
  refine lv_astore_n (lv' := [(3, Value.ref mo), (0, Value.ref rc), (1, Value.int (nI j)), (2, Value.int (nI t))]) hx hb d_RC_put_5 rfl hl (by decide) rfl (fun ls hl => ?_)
  refine lv_aload_n hx hb d_RC_put_6 rfl (lv_at hl 0 rfl) ?_
  refine lv_ifnull hx hb d_RC_put_7 ?_
  refine lv_aload_n hx hb d_RC_put_10 rfl (lv_at hl 0 rfl) ?_
  refine lv_iload_n hx hb d_RC_put_11 rfl (lv_at hl 3 rfl) ?_
  refine my_ci (wr := [(co, Sum.inr (5, [Value.long xx, Value.long xreadX, Value.ref soa, Value.ref sna, Value.ref swa, Value.int xkept, Value.ref ri, Value.ref ro, Value.ref rw, Value.int xasked])), (oo, Sum.inr (7, [Value.int osg, Value.int osm, Value.int ofc, Value.ref oca, Value.ref opa])), (oca, Sum.inl (cI, n, Sum.inl ocf)), (opa, Sum.inl (cI, opl, Sum.inl opf)), (rc, Sum.inr (6, [Value.ref co, Value.ref ma, Value.int (nI k), Value.int fit, Value.int 0, Value.int frd, Value.int fbd, Value.int fir])), (ma, Sum.inl (cM, 8, Sum.inr (Sum.inr (Sum.inr (Sum.inr mf)))))]) (va_runV (As := [Value.int (nI t)]) (rest := []) ⟨hx, hb, hml, hown, hts⟩ (f_Model_hasSign l dC dI cI cM cO H.size mo ka oo o2 n kf (nI t) (by first | assumption | omega)) (cwV 1 hts (my_gV k416 k417 k418 k13 k419) rfl rfl rfl cu_Model_hasSign_1 ⟨by rw [hR]; exact Nat.le_of_ble_eq_true rfl, by rw [hR]; exact Nat.le_of_ble_eq_true rfl⟩) (my_preV hK hN (hP.sub [1, 2] rfl) (hD.sub [1, 2] (by decide +kernel) rfl) 0 rfl rfl) rfl rfl hl.1 rfl (lv_room (Nat.le_of_ble_eq_true rfl)) d_RC_put_12 ⟨by rw [hR]; exact Nat.le_of_ble_eq_true rfl, by rw [hR]; exact Nat.le_of_ble_eq_true rfl⟩) hP hD hS hA [1, 2] [0, 3, 4, 5, 6, 7] rfl rfl (by decide +kernel) (by decide +kernel) (fun r_12 u9 H locs hw_12 hP hD hS => ?_)
  have hr_12 : r_12 = if 0 ≤ (nI t) ∧ (nI t) < nI n then 1 else 0 := hw_12
  have hPD : my_PD (dC, dI) vwCl A [(co, Sum.inr (5, [Value.long xx, Value.long xreadX, Value.ref soa, Value.ref sna, Value.ref swa, Value.int xkept, Value.ref ri, Value.ref ro, Value.ref rw, Value.int xasked])), (oo, Sum.inr (7, [Value.int osg, Value.int osm, Value.int ofc, Value.ref oca, Value.ref opa])), (oca, Sum.inl (cI, n, Sum.inl ocf)), (opa, Sum.inl (cI, opl, Sum.inl opf)), (rc, Sum.inr (6, [Value.ref co, Value.ref ma, Value.int (nI k), Value.int fit, Value.int 0, Value.int frd, Value.int fbd, Value.int fir])), (ma, Sum.inl (cM, 8, Sum.inr (Sum.inr (Sum.inr (Sum.inr mf))))), (mo, Sum.inr (8, [Value.ref ka, Value.ref oo, Value.ref o2])), (ka, Sum.inl (cI, n, Sum.inl kf))] H := ⟨hP, hD⟩
  have hP := hPD.1
  have hD := hPD.2
  refine lv_if_ne (tgt := 20) hx hb d_RC_put_15 (by decide) (fun c_1 => ?_) (fun c_1 => ?_)
  · refine lv_aload_n hx hb d_RC_put_20 rfl (lv_at hl 1 rfl) ?_
    refine va_get (D := (dC, dI)) (ci := 6) (v := .int 0) (C := "RangeCoders") (T := T_RC) (N := 8) hx hb hg in_RC hown hK hP 4 rfl rfl 4 (by decide) (hg _ k262) (fun _ h9 => h9) rfl d_RC_put_21 ?_
    refine lv_if_ne (tgt := 42) hx hb d_RC_put_24 (by decide) (fun c_2 => ?_) (fun c_2 => ?_)
    · exact absurd rfl c_2
    · refine lv_aload_n hx hb d_RC_put_27 rfl (lv_at hl 1 rfl) ?_
      refine va_get (D := (dC, dI)) (ci := 6) (v := .ref co) (C := "RangeCoders") (T := T_RC) (N := 8) hx hb hg in_RC hown hK hP 4 rfl rfl 0 (by decide) (hg _ k258) (fun _ h9 => h9) rfl d_RC_put_28 ?_
      refine lv_aload_n hx hb d_RC_put_31 rfl (lv_at hl 0 rfl) ?_
      refine va_get (D := (dC, dI)) (ci := 8) (v := .ref oo) (C := "RangeCoders$Model") (T := T_Model) (N := 3) hx hb hg in_Model hown hK hP 6 rfl rfl 1 (by decide) (hg _ k343) (fun _ h9 => h9) rfl d_RC_put_32 ?_
      refine lv_iload_n hx hb d_RC_put_35 rfl (lv_at hl 3 rfl) ?_
      refine my_ci (wr := [(rc, Sum.inr (6, [Value.ref co, Value.ref ma, Value.int (nI k), Value.int fit, Value.int 0, Value.int frd, Value.int fbd, Value.int fir])), (ma, Sum.inl (cM, 8, Sum.inr (Sum.inr (Sum.inr (Sum.inr mf))))), (mo, Sum.inr (8, [Value.ref ka, Value.ref oo, Value.ref o2])), (ka, Sum.inl (cI, n, Sum.inl kf))]) (va_runU (As := [Value.ref oo, Value.int (nI t)]) (rest := []) ⟨hx, hb, hml, hown, hts⟩ (f_Table_canWrite l dC dI cI cM cO H.size co xx xreadX soa sna swa xkept ri ro rw xasked oo osg ofc oca opa n ocf opl opf F osm t (by first | assumption | omega) (by first | assumption | omega) (by first | assumption | omega) (by first | assumption | omega) (by first | assumption | omega) (by first | assumption | omega)) (va_cwU 2 hts (my_gU k424 k426 k433 k425 k3 k434) rfl rfl rfl rfl (by decide +kernel) ⟨by rw [hR]; exact Nat.le_of_ble_eq_true rfl, by rw [hR]; exact Nat.le_of_ble_eq_true rfl⟩) (my_preV hK hN (hP.sub [0, 1, 2, 3] rfl) (hD.sub [0, 1, 2, 3] (by decide +kernel) rfl) 0 rfl rfl) rfl rfl hl.1 rfl (lv_room (Nat.le_of_ble_eq_true rfl)) d_RC_put_36 ⟨by rw [hR]; exact Nat.le_of_ble_eq_true rfl, by rw [hR]; exact Nat.le_of_ble_eq_true rfl⟩) hP hD hS hA [0, 1, 2, 3] [4, 5, 6, 7] rfl rfl (by decide +kernel) (by decide +kernel) (fun r_36 u9 H locs hw_36 hP hD hS => ?_)
      have hr_36 : r_36 = if 0 < F t then 1 else 0 := hw_36
      have hPD : my_PD (dC, dI) vwCl A [(rc, Sum.inr (6, [Value.ref co, Value.ref ma, Value.int (nI k), Value.int fit, Value.int 0, Value.int frd, Value.int fbd, Value.int fir])), (ma, Sum.inl (cM, 8, Sum.inr (Sum.inr (Sum.inr (Sum.inr mf))))), (mo, Sum.inr (8, [Value.ref ka, Value.ref oo, Value.ref o2])), (ka, Sum.inl (cI, n, Sum.inl kf)), (co, Sum.inr (5, [Value.long xx, Value.long xreadX, Value.ref soa, Value.ref sna, Value.ref swa, Value.int xkept, Value.ref ri, Value.ref ro, Value.ref rw, Value.int xasked])), (oo, Sum.inr (7, [Value.int osg, Value.int osm, Value.int ofc, Value.ref oca, Value.ref opa])), (oca, Sum.inl (cI, n, Sum.inl ocf)), (opa, Sum.inl (cI, opl, Sum.inl opf))] H := ⟨hP, hD⟩
      have hP := hPD.1
      have hD := hPD.2
      refine lv_if_ne (tgt := 45) hx hb d_RC_put_39 (by decide) (fun c_3 => ?_) (fun c_3 => ?_)
      · exact absurd (one_ne hr_36 c_3) (by omega)
      · refine lv_bipush (v := (-3)) hx hb d_RC_put_42 (by decide) ?_
        exact my_iret (v := (-3)) hx hb hr (rfl) hlocks hQ hK hS (Nat.le_refl _) (Nat.le_refl _) () (rfl) (hP.sub [0, 1, 4, 2, 3, 5, 6, 7] rfl) (hD.sub [0, 1, 4, 2, 3, 5, 6, 7] (by decide +kernel) rfl) d_RC_put_44
  · exact absurd (has_in ht (by omega)) (one_eq hr_12 c_1)
set_option maxHeartbeats 2000000 in
set_option maxRecDepth 100000 in
theorem f_RC_putR_Table (l : Launch) (dC : Nat → ClassId) (dI : Nat → Nat → Nat) (cI cM cO : ClassId) (sz : Nat) (rc : Nat) (ma : Nat) (k : Nat) (frd : Int32) (fbd : Int32) (fir : Int32) (mf : Nat → Option Nat) (co : Nat) (xx : Int64) (xreadX : Int64) (soa : Nat) (sna : Nat) (swa : Nat) (xkept : Int32) (ri : Nat) (ro : Nat) (rw : Nat) (xasked : Int32) (j : Nat) (mo : Nat) (o2 : Nat) (ka : Nat) (kf : Nat → Int32) (oo : Nat) (osg : Int32) (ofc : Int32) (oca : Nat) (opa : Nat) (n : Nat) (ocf : Nat → Int32) (opl : Nat) (opf : Nat → Int32) (F : Nat → Nat) (osm : Int32) (ki : Nat) (t : Nat) (hk8 : k ≤ 8) (hj : j < k) (hmf : mf j = some mo) (hkl : n ≤ 64) (hn : n ≤ 64) (hpl : opl ≤ 512) (hf : tbI ocf n F) (ht : t < n) (hfc : ofc ≤ nI t) (hFb : F t < 2 ^ 31) (hz : 0 < F t) (hk6 : ki = 600) : MetI l y_RC_put (Cond.code y_RC_put prog_1_method_4_code 4 (some .int) :: gw) ({ frames := 3, cells := 0, slots := 0, locals := 64 } : Room) (dC, dI) vwCl (kT cI cM cO) [Value.ref rc, Value.int (nI j), Value.int (nI t)] [(rc, Sum.inr (6, [Value.ref co, Value.ref ma, Value.int (nI k), Value.int (nI ki), Value.int 0, Value.int frd, Value.int fbd, Value.int fir])), (ma, Sum.inl (cM, 8, Sum.inr (Sum.inr (Sum.inr (Sum.inr mf))))), (co, Sum.inr (5, [Value.long xx, Value.long xreadX, Value.ref soa, Value.ref sna, Value.ref swa, Value.int xkept, Value.ref ri, Value.ref ro, Value.ref rw, Value.int xasked])), (mo, Sum.inr (8, [Value.ref ka, Value.ref oo, Value.ref o2])), (ka, Sum.inl (cI, n, Sum.inl kf)), (oo, Sum.inr (7, [Value.int osg, Value.int osm, Value.int ofc, Value.ref oca, Value.ref opa])), (oca, Sum.inl (cI, n, Sum.inl ocf)), (opa, Sum.inl (cI, opl, Sum.inl opf))] sz (fun (r : Int32) (u : Unit) => r = -4) (fun (u : Unit) => [(rc, Sum.inr (6, [Value.ref co, Value.ref ma, Value.int (nI k), Value.int (nI ki), Value.int 0, Value.int frd, Value.int fbd, Value.int fir])), (ma, Sum.inl (cM, 8, Sum.inr (Sum.inr (Sum.inr (Sum.inr mf))))), (co, Sum.inr (5, [Value.long xx, Value.long xreadX, Value.ref soa, Value.ref sna, Value.ref swa, Value.int xkept, Value.ref ri, Value.ref ro, Value.ref rw, Value.int xasked])), (mo, Sum.inr (8, [Value.ref ka, Value.ref oo, Value.ref o2])), (ka, Sum.inl (cI, n, Sum.inl kf)), (oo, Sum.inr (7, [Value.int osg, Value.int osm, Value.int ofc, Value.ref oca, Value.ref opa])), (oca, Sum.inl (cI, n, Sum.inl ocf)), (opa, Sum.inl (cI, opl, Sum.inl opf))]) 0 0 := by
  refine my_ofI (cc := prog_1_method_4_code) (n := 4) (ret := (some .int)) (by decide) rfl (Nat.le_of_ble_eq_true rfl) ?_
  intro p e s m args below meth c R Q A ls H locs hx hb hr hts hown hlocks hml hnm hR hQ hA hl hP hK hN hD hS
  have hg : ∀ w ∈ gw, w.before args s = true := fun w h => hts w (List.mem_cons_of_mem _ h)
  have hown : s.vm.findClass "RangeCoders" = some m.cls := hown
  have hl : lv_has ls 4 [(0, Value.ref rc), (1, Value.int (nI j)), (2, Value.int (nI t))] := hl
  refine lv_aload_n hx hb d_RC_put_0 rfl (lv_at hl 0 rfl) ?_
  refine lv_iload_n hx hb d_RC_put_1 rfl (lv_at hl 1 rfl) ?_
  refine my_cq (wr := [(co, Sum.inr (5, [Value.long xx, Value.long xreadX, Value.ref soa, Value.ref sna, Value.ref swa, Value.int xkept, Value.ref ri, Value.ref ro, Value.ref rw, Value.int xasked])), (mo, Sum.inr (8, [Value.ref ka, Value.ref oo, Value.ref o2])), (ka, Sum.inl (cI, n, Sum.inl kf)), (oo, Sum.inr (7, [Value.int osg, Value.int osm, Value.int ofc, Value.ref oca, Value.ref opa])), (oca, Sum.inl (cI, n, Sum.inl ocf)), (opa, Sum.inl (cI, opl, Sum.inl opf))]) (va_runV (As := [Value.int (nI j)]) (rest := []) ⟨hx, hb, hml, hown, hts⟩ (c_RC_modelAtB l dC dI cI cM cO H.size rc ma k (nI ki) 0 frd fbd fir mf co j mo (by first | assumption | omega) (by first | assumption | omega) (by first | assumption | omega)) (cwV 1 hts (my_gV k412 k414 ks3 k1 k415) rfl rfl rfl cu_RC_modelAt_1 ⟨by rw [hR]; exact Nat.le_of_ble_eq_true rfl, by rw [hR]; exact Nat.le_of_ble_eq_true rfl⟩) (my_preV hK hN (hP.sub [0, 1] rfl) (hD.sub [0, 1] (by decide +kernel) rfl) 0 rfl rfl) rfl rfl hl.1 rfl (lv_room (Nat.le_of_ble_eq_true rfl)) d_RC_put_2 ⟨by rw [hR]; exact Nat.le_of_ble_eq_true rfl, by rw [hR]; exact Nat.le_of_ble_eq_true rfl⟩) hP hD hS hA [0, 1] [2, 3, 4, 5, 6, 7] rfl rfl (by decide +kernel) (by decide +kernel) (fun r_2 u9 H locs hw_2 hP hD hS => ?_)
  have hr_2 : r_2 = some mo := hw_2
  have hPD : my_PD (dC, dI) vwCl A [(co, Sum.inr (5, [Value.long xx, Value.long xreadX, Value.ref soa, Value.ref sna, Value.ref swa, Value.int xkept, Value.ref ri, Value.ref ro, Value.ref rw, Value.int xasked])), (mo, Sum.inr (8, [Value.ref ka, Value.ref oo, Value.ref o2])), (ka, Sum.inl (cI, n, Sum.inl kf)), (oo, Sum.inr (7, [Value.int osg, Value.int osm, Value.int ofc, Value.ref oca, Value.ref opa])), (oca, Sum.inl (cI, n, Sum.inl ocf)), (opa, Sum.inl (cI, opl, Sum.inl opf)), (rc, Sum.inr (6, [Value.ref co, Value.ref ma, Value.int (nI k), Value.int (nI ki), Value.int 0, Value.int frd, Value.int fbd, Value.int fir])), (ma, Sum.inl (cM, 8, Sum.inr (Sum.inr (Sum.inr (Sum.inr mf)))))] H := ⟨hP, hD⟩
  have hP := hPD.1
  have hD := hPD.2
  subst hr_2
  refine W.eq (g2 := F0 m 5 ls [Value.ref mo]) rfl ?_
  refine lv_astore_n (lv' := [(3, Value.ref mo), (0, Value.ref rc), (1, Value.int (nI j)), (2, Value.int (nI t))]) hx hb d_RC_put_5 rfl hl (by decide) rfl (fun ls hl => ?_)
  refine lv_aload_n hx hb d_RC_put_6 rfl (lv_at hl 0 rfl) ?_
  refine lv_ifnull hx hb d_RC_put_7 ?_
  refine lv_aload_n hx hb d_RC_put_10 rfl (lv_at hl 0 rfl) ?_
  refine lv_iload_n hx hb d_RC_put_11 rfl (lv_at hl 3 rfl) ?_
  refine my_ci (wr := [(co, Sum.inr (5, [Value.long xx, Value.long xreadX, Value.ref soa, Value.ref sna, Value.ref swa, Value.int xkept, Value.ref ri, Value.ref ro, Value.ref rw, Value.int xasked])), (oo, Sum.inr (7, [Value.int osg, Value.int osm, Value.int ofc, Value.ref oca, Value.ref opa])), (oca, Sum.inl (cI, n, Sum.inl ocf)), (opa, Sum.inl (cI, opl, Sum.inl opf)), (rc, Sum.inr (6, [Value.ref co, Value.ref ma, Value.int (nI k), Value.int (nI ki), Value.int 0, Value.int frd, Value.int fbd, Value.int fir])), (ma, Sum.inl (cM, 8, Sum.inr (Sum.inr (Sum.inr (Sum.inr mf)))))]) (va_runV (As := [Value.int (nI t)]) (rest := []) ⟨hx, hb, hml, hown, hts⟩ (f_Model_hasSign l dC dI cI cM cO H.size mo ka oo o2 n kf (nI t) (by first | assumption | omega)) (cwV 1 hts (my_gV k416 k417 k418 k13 k419) rfl rfl rfl cu_Model_hasSign_1 ⟨by rw [hR]; exact Nat.le_of_ble_eq_true rfl, by rw [hR]; exact Nat.le_of_ble_eq_true rfl⟩) (my_preV hK hN (hP.sub [1, 2] rfl) (hD.sub [1, 2] (by decide +kernel) rfl) 0 rfl rfl) rfl rfl hl.1 rfl (lv_room (Nat.le_of_ble_eq_true rfl)) d_RC_put_12 ⟨by rw [hR]; exact Nat.le_of_ble_eq_true rfl, by rw [hR]; exact Nat.le_of_ble_eq_true rfl⟩) hP hD hS hA [1, 2] [0, 3, 4, 5, 6, 7] rfl rfl (by decide +kernel) (by decide +kernel) (fun r_12 u9 H locs hw_12 hP hD hS => ?_)
  have hr_12 : r_12 = if 0 ≤ (nI t) ∧ (nI t) < nI n then 1 else 0 := hw_12
  have hPD : my_PD (dC, dI) vwCl A [(co, Sum.inr (5, [Value.long xx, Value.long xreadX, Value.ref soa, Value.ref sna, Value.ref swa, Value.int xkept, Value.ref ri, Value.ref ro, Value.ref rw, Value.int xasked])), (oo, Sum.inr (7, [Value.int osg, Value.int osm, Value.int ofc, Value.ref oca, Value.ref opa])), (oca, Sum.inl (cI, n, Sum.inl ocf)), (opa, Sum.inl (cI, opl, Sum.inl opf)), (rc, Sum.inr (6, [Value.ref co, Value.ref ma, Value.int (nI k), Value.int (nI ki), Value.int 0, Value.int frd, Value.int fbd, Value.int fir])), (ma, Sum.inl (cM, 8, Sum.inr (Sum.inr (Sum.inr (Sum.inr mf))))), (mo, Sum.inr (8, [Value.ref ka, Value.ref oo, Value.ref o2])), (ka, Sum.inl (cI, n, Sum.inl kf))] H := ⟨hP, hD⟩
  have hP := hPD.1
  have hD := hPD.2
  refine lv_if_ne (tgt := 20) hx hb d_RC_put_15 (by decide) (fun c_1 => ?_) (fun c_1 => ?_)
  · refine lv_aload_n hx hb d_RC_put_20 rfl (lv_at hl 1 rfl) ?_
    refine va_get (D := (dC, dI)) (ci := 6) (v := .int 0) (C := "RangeCoders") (T := T_RC) (N := 8) hx hb hg in_RC hown hK hP 4 rfl rfl 4 (by decide) (hg _ k262) (fun _ h9 => h9) rfl d_RC_put_21 ?_
    refine lv_if_ne (tgt := 42) hx hb d_RC_put_24 (by decide) (fun c_2 => ?_) (fun c_2 => ?_)
    · exact absurd rfl c_2
    · refine lv_aload_n hx hb d_RC_put_27 rfl (lv_at hl 1 rfl) ?_
      refine va_get (D := (dC, dI)) (ci := 6) (v := .ref co) (C := "RangeCoders") (T := T_RC) (N := 8) hx hb hg in_RC hown hK hP 4 rfl rfl 0 (by decide) (hg _ k258) (fun _ h9 => h9) rfl d_RC_put_28 ?_
      refine lv_aload_n hx hb d_RC_put_31 rfl (lv_at hl 0 rfl) ?_
      refine va_get (D := (dC, dI)) (ci := 8) (v := .ref oo) (C := "RangeCoders$Model") (T := T_Model) (N := 3) hx hb hg in_Model hown hK hP 6 rfl rfl 1 (by decide) (hg _ k343) (fun _ h9 => h9) rfl d_RC_put_32 ?_
      refine lv_iload_n hx hb d_RC_put_35 rfl (lv_at hl 3 rfl) ?_
      refine my_ci (wr := [(rc, Sum.inr (6, [Value.ref co, Value.ref ma, Value.int (nI k), Value.int (nI ki), Value.int 0, Value.int frd, Value.int fbd, Value.int fir])), (ma, Sum.inl (cM, 8, Sum.inr (Sum.inr (Sum.inr (Sum.inr mf))))), (mo, Sum.inr (8, [Value.ref ka, Value.ref oo, Value.ref o2])), (ka, Sum.inl (cI, n, Sum.inl kf))]) (va_runU (As := [Value.ref oo, Value.int (nI t)]) (rest := []) ⟨hx, hb, hml, hown, hts⟩ (f_Table_canWrite l dC dI cI cM cO H.size co xx xreadX soa sna swa xkept ri ro rw xasked oo osg ofc oca opa n ocf opl opf F osm t (by first | assumption | omega) (by first | assumption | omega) (by first | assumption | omega) (by first | assumption | omega) (by first | assumption | omega) (by first | assumption | omega)) (va_cwU 2 hts (my_gU k424 k426 k433 k425 k3 k434) rfl rfl rfl rfl (by decide +kernel) ⟨by rw [hR]; exact Nat.le_of_ble_eq_true rfl, by rw [hR]; exact Nat.le_of_ble_eq_true rfl⟩) (my_preV hK hN (hP.sub [0, 1, 2, 3] rfl) (hD.sub [0, 1, 2, 3] (by decide +kernel) rfl) 0 rfl rfl) rfl rfl hl.1 rfl (lv_room (Nat.le_of_ble_eq_true rfl)) d_RC_put_36 ⟨by rw [hR]; exact Nat.le_of_ble_eq_true rfl, by rw [hR]; exact Nat.le_of_ble_eq_true rfl⟩) hP hD hS hA [0, 1, 2, 3] [4, 5, 6, 7] rfl rfl (by decide +kernel) (by decide +kernel) (fun r_36 u9 H locs hw_36 hP hD hS => ?_)
      have hr_36 : r_36 = if 0 < F t then 1 else 0 := hw_36
      have hPD : my_PD (dC, dI) vwCl A [(rc, Sum.inr (6, [Value.ref co, Value.ref ma, Value.int (nI k), Value.int (nI ki), Value.int 0, Value.int frd, Value.int fbd, Value.int fir])), (ma, Sum.inl (cM, 8, Sum.inr (Sum.inr (Sum.inr (Sum.inr mf))))), (mo, Sum.inr (8, [Value.ref ka, Value.ref oo, Value.ref o2])), (ka, Sum.inl (cI, n, Sum.inl kf)), (co, Sum.inr (5, [Value.long xx, Value.long xreadX, Value.ref soa, Value.ref sna, Value.ref swa, Value.int xkept, Value.ref ri, Value.ref ro, Value.ref rw, Value.int xasked])), (oo, Sum.inr (7, [Value.int osg, Value.int osm, Value.int ofc, Value.ref oca, Value.ref opa])), (oca, Sum.inl (cI, n, Sum.inl ocf)), (opa, Sum.inl (cI, opl, Sum.inl opf))] H := ⟨hP, hD⟩
      have hP := hPD.1
      have hD := hPD.2
      refine lv_if_ne (tgt := 45) hx hb d_RC_put_39 (by decide) (fun c_3 => ?_) (fun c_3 => ?_)
      · refine lv_aload_n hx hb d_RC_put_45 rfl (lv_at hl 1 rfl) ?_
        refine va_get (D := (dC, dI)) (ci := 6) (v := .int (nI ki)) (C := "RangeCoders") (T := T_RC) (N := 8) hx hb hg in_RC hown hK hP 0 rfl rfl 3 (by decide) (hg _ k261) (fun _ h9 => h9) rfl d_RC_put_46 ?_
        refine lv_sipush (v := 600) hx hb d_RC_put_49 (by decide) ?_
        refine lv_icmp_lt (tgt := 58) hx hb d_RC_put_52 (by decide) (fun c_4 => ?_) (fun c_4 => ?_)
        · exact absurd c_4 (by rw [hk6]; decide)
        · refine lv_bipush (v := (-4)) hx hb d_RC_put_55 (by decide) ?_
          exact my_iret (v := (-4)) hx hb hr (rfl) hlocks hQ hK hS (Nat.le_refl _) (Nat.le_refl _) () (rfl) (hP.sub [0, 1, 4, 2, 3, 5, 6, 7] rfl) (hD.sub [0, 1, 4, 2, 3, 5, 6, 7] (by decide +kernel) rfl) d_RC_put_57
      · exact absurd hz (one_eq hr_36 c_3)
  · exact absurd (has_in ht (by omega)) (one_eq hr_12 c_1)
set_option maxHeartbeats 2000000 in
set_option maxRecDepth 100000 in
theorem f_RC_putL_Table (l : Launch) (dC : Nat → ClassId) (dI : Nat → Nat → Nat) (cI cM cO : ClassId) (sz : Nat) (rc : Nat) (ma : Nat) (k : Nat) (frd : Int32) (fbd : Int32) (fir : Int32) (mf : Nat → Option Nat) (co : Nat) (xx : Int64) (xreadX : Int64) (soa : Nat) (sna : Nat) (swa : Nat) (ri : Nat) (ro : Nat) (rw : Nat) (xasked : Int32) (sof : Nat → Option Nat) (snf : Nat → Int32) (swf : Nat → Int32) (j : Nat) (mo : Nat) (o2 : Nat) (ka : Nat) (kf : Nat → Int32) (oo : Nat) (osg : Int32) (ofc : Int32) (oca : Nat) (opa : Nat) (n : Nat) (ocf : Nat → Int32) (opl : Nat) (opf : Nat → Int32) (F : Nat → Nat) (osm : Int32) (t : Nat) (ki : Nat) (hki : ki < 600) (hk8 : k ≤ 8) (hj : j < k) (hmf : mf j = some mo) (hkl : n ≤ 64) (hn : n ≤ 64) (hpl : opl ≤ 512) (hf : tbI ocf n F) (ht : t < n) (hfc : ofc ≤ nI t) (hFb : F t < 2 ^ 31) (hFt : 0 < F t) : MetI l y_RC_put (Cond.code y_RC_put prog_1_method_4_code 4 (some .int) :: gw) ({ frames := 3, cells := 0, slots := 0, locals := 64 } : Room) (dC, dI) vwCl (kT cI cM cO) [Value.ref rc, Value.int (nI j), Value.int (nI t)] [(rc, Sum.inr (6, [Value.ref co, Value.ref ma, Value.int (nI k), Value.int (nI ki), Value.int 0, Value.int frd, Value.int fbd, Value.int fir])), (ma, Sum.inl (cM, 8, Sum.inr (Sum.inr (Sum.inr (Sum.inr mf))))), (co, Sum.inr (5, [Value.long xx, Value.long xreadX, Value.ref soa, Value.ref sna, Value.ref swa, Value.int (nI ki), Value.ref ri, Value.ref ro, Value.ref rw, Value.int xasked])), (soa, Sum.inl (cO, 600, Sum.inr (Sum.inr (Sum.inr (Sum.inr sof))))), (sna, Sum.inl (cI, 600, Sum.inl snf)), (swa, Sum.inl (cI, 600, Sum.inl swf)), (mo, Sum.inr (8, [Value.ref ka, Value.ref oo, Value.ref o2])), (ka, Sum.inl (cI, n, Sum.inl kf)), (oo, Sum.inr (7, [Value.int osg, Value.int osm, Value.int ofc, Value.ref oca, Value.ref opa])), (oca, Sum.inl (cI, n, Sum.inl ocf)), (opa, Sum.inl (cI, opl, Sum.inl opf))] sz (fun (r : Int32) (u : (Nat → Option Nat) × (Nat → Int32) × (Nat → Int32)) => r = nI (ki + 1) ∧ u.1 = va_up sof ki (some oo) ∧ u.2.1 = upd snf ki (nI t) ∧ u.2.2 = upd swf ki 0) (fun (u : (Nat → Option Nat) × (Nat → Int32) × (Nat → Int32)) => [(rc, Sum.inr (6, [Value.ref co, Value.ref ma, Value.int (nI k), Value.int (nI (ki + 1)), Value.int 0, Value.int frd, Value.int fbd, Value.int fir])), (ma, Sum.inl (cM, 8, Sum.inr (Sum.inr (Sum.inr (Sum.inr mf))))), (co, Sum.inr (5, [Value.long xx, Value.long xreadX, Value.ref soa, Value.ref sna, Value.ref swa, Value.int (nI (ki + 1)), Value.ref ri, Value.ref ro, Value.ref rw, Value.int xasked])), (soa, Sum.inl (cO, 600, Sum.inr (Sum.inr (Sum.inr (Sum.inr u.1))))), (sna, Sum.inl (cI, 600, Sum.inl u.2.1)), (swa, Sum.inl (cI, 600, Sum.inl u.2.2)), (mo, Sum.inr (8, [Value.ref ka, Value.ref oo, Value.ref o2])), (ka, Sum.inl (cI, n, Sum.inl kf)), (oo, Sum.inr (7, [Value.int osg, Value.int osm, Value.int ofc, Value.ref oca, Value.ref opa])), (oca, Sum.inl (cI, n, Sum.inl ocf)), (opa, Sum.inl (cI, opl, Sum.inl opf))]) 0 0 := by
  refine my_ofI (cc := prog_1_method_4_code) (n := 4) (ret := (some .int)) (by decide) rfl (Nat.le_of_ble_eq_true rfl) ?_
  intro p e s m args below meth c R Q A ls H locs hx hb hr hts hown hlocks hml hnm hR hQ hA hl hP hK hN hD hS
  have hg : ∀ w ∈ gw, w.before args s = true := fun w h => hts w (List.mem_cons_of_mem _ h)
  have hown : s.vm.findClass "RangeCoders" = some m.cls := hown
  have hl : lv_has ls 4 [(0, Value.ref rc), (1, Value.int (nI j)), (2, Value.int (nI t))] := hl
  refine lv_aload_n hx hb d_RC_put_0 rfl (lv_at hl 0 rfl) ?_
  refine lv_iload_n hx hb d_RC_put_1 rfl (lv_at hl 1 rfl) ?_
  refine my_cq (wr := [(co, Sum.inr (5, [Value.long xx, Value.long xreadX, Value.ref soa, Value.ref sna, Value.ref swa, Value.int (nI ki), Value.ref ri, Value.ref ro, Value.ref rw, Value.int xasked])), (soa, Sum.inl (cO, 600, Sum.inr (Sum.inr (Sum.inr (Sum.inr sof))))), (sna, Sum.inl (cI, 600, Sum.inl snf)), (swa, Sum.inl (cI, 600, Sum.inl swf)), (mo, Sum.inr (8, [Value.ref ka, Value.ref oo, Value.ref o2])), (ka, Sum.inl (cI, n, Sum.inl kf)), (oo, Sum.inr (7, [Value.int osg, Value.int osm, Value.int ofc, Value.ref oca, Value.ref opa])), (oca, Sum.inl (cI, n, Sum.inl ocf)), (opa, Sum.inl (cI, opl, Sum.inl opf))]) (va_runV (As := [Value.int (nI j)]) (rest := []) ⟨hx, hb, hml, hown, hts⟩ (c_RC_modelAtB l dC dI cI cM cO H.size rc ma k (nI ki) 0 frd fbd fir mf co j mo (by first | assumption | omega) (by first | assumption | omega) (by first | assumption | omega)) (cwV 1 hts (my_gV k412 k414 ks3 k1 k415) rfl rfl rfl cu_RC_modelAt_1 ⟨by rw [hR]; exact Nat.le_of_ble_eq_true rfl, by rw [hR]; exact Nat.le_of_ble_eq_true rfl⟩) (my_preV hK hN (hP.sub [0, 1] rfl) (hD.sub [0, 1] (by decide +kernel) rfl) 0 rfl rfl) rfl rfl hl.1 rfl (lv_room (Nat.le_of_ble_eq_true rfl)) d_RC_put_2 ⟨by rw [hR]; exact Nat.le_of_ble_eq_true rfl, by rw [hR]; exact Nat.le_of_ble_eq_true rfl⟩) hP hD hS hA [0, 1] [2, 3, 4, 5, 6, 7, 8, 9, 10] rfl rfl (by decide +kernel) (by decide +kernel) (fun r_2 u9 H locs hw_2 hP hD hS => ?_)
  have hr_2 : r_2 = some mo := hw_2
  have hPD : my_PD (dC, dI) vwCl A [(co, Sum.inr (5, [Value.long xx, Value.long xreadX, Value.ref soa, Value.ref sna, Value.ref swa, Value.int (nI ki), Value.ref ri, Value.ref ro, Value.ref rw, Value.int xasked])), (soa, Sum.inl (cO, 600, Sum.inr (Sum.inr (Sum.inr (Sum.inr sof))))), (sna, Sum.inl (cI, 600, Sum.inl snf)), (swa, Sum.inl (cI, 600, Sum.inl swf)), (mo, Sum.inr (8, [Value.ref ka, Value.ref oo, Value.ref o2])), (ka, Sum.inl (cI, n, Sum.inl kf)), (oo, Sum.inr (7, [Value.int osg, Value.int osm, Value.int ofc, Value.ref oca, Value.ref opa])), (oca, Sum.inl (cI, n, Sum.inl ocf)), (opa, Sum.inl (cI, opl, Sum.inl opf)), (rc, Sum.inr (6, [Value.ref co, Value.ref ma, Value.int (nI k), Value.int (nI ki), Value.int 0, Value.int frd, Value.int fbd, Value.int fir])), (ma, Sum.inl (cM, 8, Sum.inr (Sum.inr (Sum.inr (Sum.inr mf)))))] H := ⟨hP, hD⟩
  have hP := hPD.1
  have hD := hPD.2
  subst hr_2
  refine W.eq (g2 := F0 m 5 ls [Value.ref mo]) rfl ?_
  refine lv_astore_n (lv' := [(3, Value.ref mo), (0, Value.ref rc), (1, Value.int (nI j)), (2, Value.int (nI t))]) hx hb d_RC_put_5 rfl hl (by decide) rfl (fun ls hl => ?_)
  refine lv_aload_n hx hb d_RC_put_6 rfl (lv_at hl 0 rfl) ?_
  refine lv_ifnull hx hb d_RC_put_7 ?_
  refine lv_aload_n hx hb d_RC_put_10 rfl (lv_at hl 0 rfl) ?_
  refine lv_iload_n hx hb d_RC_put_11 rfl (lv_at hl 3 rfl) ?_
  refine my_ci (wr := [(co, Sum.inr (5, [Value.long xx, Value.long xreadX, Value.ref soa, Value.ref sna, Value.ref swa, Value.int (nI ki), Value.ref ri, Value.ref ro, Value.ref rw, Value.int xasked])), (soa, Sum.inl (cO, 600, Sum.inr (Sum.inr (Sum.inr (Sum.inr sof))))), (sna, Sum.inl (cI, 600, Sum.inl snf)), (swa, Sum.inl (cI, 600, Sum.inl swf)), (oo, Sum.inr (7, [Value.int osg, Value.int osm, Value.int ofc, Value.ref oca, Value.ref opa])), (oca, Sum.inl (cI, n, Sum.inl ocf)), (opa, Sum.inl (cI, opl, Sum.inl opf)), (rc, Sum.inr (6, [Value.ref co, Value.ref ma, Value.int (nI k), Value.int (nI ki), Value.int 0, Value.int frd, Value.int fbd, Value.int fir])), (ma, Sum.inl (cM, 8, Sum.inr (Sum.inr (Sum.inr (Sum.inr mf)))))]) (va_runV (As := [Value.int (nI t)]) (rest := []) ⟨hx, hb, hml, hown, hts⟩ (f_Model_hasSign l dC dI cI cM cO H.size mo ka oo o2 n kf (nI t) (by first | assumption | omega)) (cwV 1 hts (my_gV k416 k417 k418 k13 k419) rfl rfl rfl cu_Model_hasSign_1 ⟨by rw [hR]; exact Nat.le_of_ble_eq_true rfl, by rw [hR]; exact Nat.le_of_ble_eq_true rfl⟩) (my_preV hK hN (hP.sub [4, 5] rfl) (hD.sub [4, 5] (by decide +kernel) rfl) 0 rfl rfl) rfl rfl hl.1 rfl (lv_room (Nat.le_of_ble_eq_true rfl)) d_RC_put_12 ⟨by rw [hR]; exact Nat.le_of_ble_eq_true rfl, by rw [hR]; exact Nat.le_of_ble_eq_true rfl⟩) hP hD hS hA [4, 5] [0, 1, 2, 3, 6, 7, 8, 9, 10] rfl rfl (by decide +kernel) (by decide +kernel) (fun r_12 u9 H locs hw_12 hP hD hS => ?_)
  have hr_12 : r_12 = if 0 ≤ (nI t) ∧ (nI t) < nI n then 1 else 0 := hw_12
  have hPD : my_PD (dC, dI) vwCl A [(co, Sum.inr (5, [Value.long xx, Value.long xreadX, Value.ref soa, Value.ref sna, Value.ref swa, Value.int (nI ki), Value.ref ri, Value.ref ro, Value.ref rw, Value.int xasked])), (soa, Sum.inl (cO, 600, Sum.inr (Sum.inr (Sum.inr (Sum.inr sof))))), (sna, Sum.inl (cI, 600, Sum.inl snf)), (swa, Sum.inl (cI, 600, Sum.inl swf)), (oo, Sum.inr (7, [Value.int osg, Value.int osm, Value.int ofc, Value.ref oca, Value.ref opa])), (oca, Sum.inl (cI, n, Sum.inl ocf)), (opa, Sum.inl (cI, opl, Sum.inl opf)), (rc, Sum.inr (6, [Value.ref co, Value.ref ma, Value.int (nI k), Value.int (nI ki), Value.int 0, Value.int frd, Value.int fbd, Value.int fir])), (ma, Sum.inl (cM, 8, Sum.inr (Sum.inr (Sum.inr (Sum.inr mf))))), (mo, Sum.inr (8, [Value.ref ka, Value.ref oo, Value.ref o2])), (ka, Sum.inl (cI, n, Sum.inl kf))] H := ⟨hP, hD⟩
  have hP := hPD.1
  have hD := hPD.2
  refine lv_if_ne (tgt := 20) hx hb d_RC_put_15 (by decide) (fun c_1 => ?_) (fun c_1 => ?_)
  · refine lv_aload_n hx hb d_RC_put_20 rfl (lv_at hl 1 rfl) ?_
    refine va_get (D := (dC, dI)) (ci := 6) (v := .int 0) (C := "RangeCoders") (T := T_RC) (N := 8) hx hb hg in_RC hown hK hP 7 rfl rfl 4 (by decide) (hg _ k262) (fun _ h9 => h9) rfl d_RC_put_21 ?_
    refine lv_if_ne (tgt := 42) hx hb d_RC_put_24 (by decide) (fun c_2 => ?_) (fun c_2 => ?_)
    · exact absurd rfl c_2
    · refine lv_aload_n hx hb d_RC_put_27 rfl (lv_at hl 1 rfl) ?_
      refine va_get (D := (dC, dI)) (ci := 6) (v := .ref co) (C := "RangeCoders") (T := T_RC) (N := 8) hx hb hg in_RC hown hK hP 7 rfl rfl 0 (by decide) (hg _ k258) (fun _ h9 => h9) rfl d_RC_put_28 ?_
      refine lv_aload_n hx hb d_RC_put_31 rfl (lv_at hl 0 rfl) ?_
      refine va_get (D := (dC, dI)) (ci := 8) (v := .ref oo) (C := "RangeCoders$Model") (T := T_Model) (N := 3) hx hb hg in_Model hown hK hP 9 rfl rfl 1 (by decide) (hg _ k343) (fun _ h9 => h9) rfl d_RC_put_32 ?_
      refine lv_iload_n hx hb d_RC_put_35 rfl (lv_at hl 3 rfl) ?_
      refine my_ci (wr := [(soa, Sum.inl (cO, 600, Sum.inr (Sum.inr (Sum.inr (Sum.inr sof))))), (sna, Sum.inl (cI, 600, Sum.inl snf)), (swa, Sum.inl (cI, 600, Sum.inl swf)), (rc, Sum.inr (6, [Value.ref co, Value.ref ma, Value.int (nI k), Value.int (nI ki), Value.int 0, Value.int frd, Value.int fbd, Value.int fir])), (ma, Sum.inl (cM, 8, Sum.inr (Sum.inr (Sum.inr (Sum.inr mf))))), (mo, Sum.inr (8, [Value.ref ka, Value.ref oo, Value.ref o2])), (ka, Sum.inl (cI, n, Sum.inl kf))]) (va_runU (As := [Value.ref oo, Value.int (nI t)]) (rest := []) ⟨hx, hb, hml, hown, hts⟩ (f_Table_canWrite l dC dI cI cM cO H.size co xx xreadX soa sna swa (nI ki) ri ro rw xasked oo osg ofc oca opa n ocf opl opf F osm t (by first | assumption | omega) (by first | assumption | omega) (by first | assumption | omega) (by first | assumption | omega) (by first | assumption | omega) (by first | assumption | omega)) (va_cwU 2 hts (my_gU k424 k426 k433 k425 k3 k434) rfl rfl rfl rfl (by decide +kernel) ⟨by rw [hR]; exact Nat.le_of_ble_eq_true rfl, by rw [hR]; exact Nat.le_of_ble_eq_true rfl⟩) (my_preV hK hN (hP.sub [0, 4, 5, 6] rfl) (hD.sub [0, 4, 5, 6] (by decide +kernel) rfl) 0 rfl rfl) rfl rfl hl.1 rfl (lv_room (Nat.le_of_ble_eq_true rfl)) d_RC_put_36 ⟨by rw [hR]; exact Nat.le_of_ble_eq_true rfl, by rw [hR]; exact Nat.le_of_ble_eq_true rfl⟩) hP hD hS hA [0, 4, 5, 6] [1, 2, 3, 7, 8, 9, 10] rfl rfl (by decide +kernel) (by decide +kernel) (fun r_36 u9 H locs hw_36 hP hD hS => ?_)
      have hr_36 : r_36 = if 0 < F t then 1 else 0 := hw_36
      have hPD : my_PD (dC, dI) vwCl A [(soa, Sum.inl (cO, 600, Sum.inr (Sum.inr (Sum.inr (Sum.inr sof))))), (sna, Sum.inl (cI, 600, Sum.inl snf)), (swa, Sum.inl (cI, 600, Sum.inl swf)), (rc, Sum.inr (6, [Value.ref co, Value.ref ma, Value.int (nI k), Value.int (nI ki), Value.int 0, Value.int frd, Value.int fbd, Value.int fir])), (ma, Sum.inl (cM, 8, Sum.inr (Sum.inr (Sum.inr (Sum.inr mf))))), (mo, Sum.inr (8, [Value.ref ka, Value.ref oo, Value.ref o2])), (ka, Sum.inl (cI, n, Sum.inl kf)), (co, Sum.inr (5, [Value.long xx, Value.long xreadX, Value.ref soa, Value.ref sna, Value.ref swa, Value.int (nI ki), Value.ref ri, Value.ref ro, Value.ref rw, Value.int xasked])), (oo, Sum.inr (7, [Value.int osg, Value.int osm, Value.int ofc, Value.ref oca, Value.ref opa])), (oca, Sum.inl (cI, n, Sum.inl ocf)), (opa, Sum.inl (cI, opl, Sum.inl opf))] H := ⟨hP, hD⟩
      have hP := hPD.1
      have hD := hPD.2
      refine lv_if_ne (tgt := 45) hx hb d_RC_put_39 (by decide) (fun c_3 => ?_) (fun c_3 => ?_)
      · refine lv_aload_n hx hb d_RC_put_45 rfl (lv_at hl 1 rfl) ?_
        refine va_get (D := (dC, dI)) (ci := 6) (v := .int (nI ki)) (C := "RangeCoders") (T := T_RC) (N := 8) hx hb hg in_RC hown hK hP 3 rfl rfl 3 (by decide) (hg _ k261) (fun _ h9 => h9) rfl d_RC_put_46 ?_
        refine lv_sipush (v := 600) hx hb d_RC_put_49 (by decide) ?_
        refine lv_icmp_lt (tgt := 58) hx hb d_RC_put_52 (by decide) (fun c_4 => ?_) (fun c_4 => ?_)
        · refine lv_aload_n hx hb d_RC_put_58 rfl (lv_at hl 1 rfl) ?_
          refine va_get (D := (dC, dI)) (ci := 6) (v := .ref co) (C := "RangeCoders") (T := T_RC) (N := 8) hx hb hg in_RC hown hK hP 3 rfl rfl 0 (by decide) (hg _ k258) (fun _ h9 => h9) rfl d_RC_put_59 ?_
          refine lv_aload_n hx hb d_RC_put_62 rfl (lv_at hl 0 rfl) ?_
          refine va_get (D := (dC, dI)) (ci := 8) (v := .ref oo) (C := "RangeCoders$Model") (T := T_Model) (N := 3) hx hb hg in_Model hown hK hP 5 rfl rfl 1 (by decide) (hg _ k343) (fun _ h9 => h9) rfl d_RC_put_63 ?_
          refine lv_iload_n hx hb d_RC_put_66 rfl (lv_at hl 3 rfl) ?_
          refine my_cv (wr := [(rc, Sum.inr (6, [Value.ref co, Value.ref ma, Value.int (nI k), Value.int (nI ki), Value.int 0, Value.int frd, Value.int fbd, Value.int fir])), (ma, Sum.inl (cM, 8, Sum.inr (Sum.inr (Sum.inr (Sum.inr mf))))), (mo, Sum.inr (8, [Value.ref ka, Value.ref oo, Value.ref o2])), (ka, Sum.inl (cI, n, Sum.inl kf))]) (va_runU (As := [Value.ref oo, Value.int (nI t)]) (rest := []) ⟨hx, hb, hml, hown, hts⟩ (f_Table_writeSign l dC dI cI cM cO H.size co xx xreadX soa sna swa ri ro rw xasked sof snf swf oo osg ofc oca opa n ocf opl opf osm ki t (by first | assumption | omega)) (va_cwA 2 hts (my_gU k439 k441 k538 k532 k9 k533) rfl rfl rfl (hN.1 _ j440 rfl) (by decide +kernel) ⟨by rw [hR]; exact Nat.le_of_ble_eq_true rfl, by rw [hR]; exact Nat.le_of_ble_eq_true rfl⟩) (my_preV hK hN (hP.sub [7, 0, 1, 2, 8, 9, 10] rfl) (hD.sub [7, 0, 1, 2, 8, 9, 10] (by decide +kernel) rfl) 0 rfl rfl) rfl rfl hl.1 rfl (lv_room (Nat.le_of_ble_eq_true rfl)) d_RC_put_67 ⟨by rw [hR]; exact Nat.le_of_ble_eq_true rfl, by rw [hR]; exact Nat.le_of_ble_eq_true rfl⟩) hP hD hS hA [7, 0, 1, 2, 8, 9, 10] [3, 4, 5, 6] rfl rfl (by decide +kernel) (by decide +kernel) (fun u9 H locs hw_67 hP hD hS => ?_)
          obtain ⟨sofq_67, snfq_67, swfq_67⟩ := u9
          obtain ⟨h1_67, h2_67, h3_67⟩ : sofq_67 = va_up sof ki (some oo) ∧ snfq_67 = upd snf ki (nI t) ∧ swfq_67 = upd swf ki 0 := hw_67
          have hPD : my_PD (dC, dI) vwCl A [(rc, Sum.inr (6, [Value.ref co, Value.ref ma, Value.int (nI k), Value.int (nI ki), Value.int 0, Value.int frd, Value.int fbd, Value.int fir])), (ma, Sum.inl (cM, 8, Sum.inr (Sum.inr (Sum.inr (Sum.inr mf))))), (mo, Sum.inr (8, [Value.ref ka, Value.ref oo, Value.ref o2])), (ka, Sum.inl (cI, n, Sum.inl kf)), (co, Sum.inr (5, [Value.long xx, Value.long xreadX, Value.ref soa, Value.ref sna, Value.ref swa, Value.int (nI (ki + 1)), Value.ref ri, Value.ref ro, Value.ref rw, Value.int xasked])), (soa, Sum.inl (cO, 600, Sum.inr (Sum.inr (Sum.inr (Sum.inr sofq_67))))), (sna, Sum.inl (cI, 600, Sum.inl snfq_67)), (swa, Sum.inl (cI, 600, Sum.inl swfq_67)), (oo, Sum.inr (7, [Value.int osg, Value.int osm, Value.int ofc, Value.ref oca, Value.ref opa])), (oca, Sum.inl (cI, n, Sum.inl ocf)), (opa, Sum.inl (cI, opl, Sum.inl opf))] H := ⟨hP, hD⟩
          have hP := hPD.1
          have hD := hPD.2
          refine lv_aload_n hx hb d_RC_put_70 rfl (lv_at hl 1 rfl) ?_
          refine lv_dup hx hb d_RC_put_71 rfl ?_
          refine va_get (D := (dC, dI)) (ci := 6) (v := .int (nI ki)) (C := "RangeCoders") (T := T_RC) (N := 8) hx hb hg in_RC hown hK hP 0 rfl rfl 3 (by decide) (hg _ k261) (fun _ h9 => h9) rfl d_RC_put_72 ?_
          refine lv_iconst (v := 1) hx hb d_RC_put_75 (by decide) ?_
          refine lv_iadd hx hb d_RC_put_76 ?_
          refine lv_topi (fun v_5 ev_5 => ?_)
          have z9 : v_5 = nI (ki + 1) := by rw [ev_5]; exact nI_1 _
          subst z9
          refine va_put (D := (dC, dI)) (ci := 6) (v := .int (nI (ki + 1))) (ty := .int) (C := "RangeCoders") (T := T_RC) (N := 8) hx hb hg in_RC t_RC o_RC n_RC hown hK hP hD hS 0 rfl rfl 3 (by decide) (hg _ k261) (fun _ h9 => h9) rfl (o_RC 3 (by decide)) rfl rfl (Nat.le_of_ble_eq_true rfl) d_RC_put_77 (fun H locs hP hD hS => ?_)
          have hPD : my_PD (dC, dI) vwCl A [(rc, Sum.inr (6, [Value.ref co, Value.ref ma, Value.int (nI k), Value.int (nI (ki + 1)), Value.int 0, Value.int frd, Value.int fbd, Value.int fir])), (ma, Sum.inl (cM, 8, Sum.inr (Sum.inr (Sum.inr (Sum.inr mf))))), (mo, Sum.inr (8, [Value.ref ka, Value.ref oo, Value.ref o2])), (ka, Sum.inl (cI, n, Sum.inl kf)), (co, Sum.inr (5, [Value.long xx, Value.long xreadX, Value.ref soa, Value.ref sna, Value.ref swa, Value.int (nI (ki + 1)), Value.ref ri, Value.ref ro, Value.ref rw, Value.int xasked])), (soa, Sum.inl (cO, 600, Sum.inr (Sum.inr (Sum.inr (Sum.inr sofq_67))))), (sna, Sum.inl (cI, 600, Sum.inl snfq_67)), (swa, Sum.inl (cI, 600, Sum.inl swfq_67)), (oo, Sum.inr (7, [Value.int osg, Value.int osm, Value.int ofc, Value.ref oca, Value.ref opa])), (oca, Sum.inl (cI, n, Sum.inl ocf)), (opa, Sum.inl (cI, opl, Sum.inl opf))] H := ⟨hP, hD⟩
          have hP := hPD.1
          have hD := hPD.2
          refine lv_aload_n hx hb d_RC_put_80 rfl (lv_at hl 1 rfl) ?_
          refine va_get (D := (dC, dI)) (ci := 6) (v := .int (nI (ki + 1))) (C := "RangeCoders") (T := T_RC) (N := 8) hx hb hg in_RC hown hK hP 0 rfl rfl 3 (by decide) (hg _ k261) (fun _ h9 => h9) rfl d_RC_put_81 ?_
          exact my_iret (v := (nI (ki + 1))) hx hb hr (rfl) hlocks hQ hK hS (Nat.le_refl _) (Nat.le_refl _) (sofq_67, snfq_67, swfq_67) (⟨rfl, h1_67, h2_67, h3_67⟩) (hP.sub [0, 1, 4, 5, 6, 7, 2, 3, 8, 9, 10] rfl) (hD.sub [0, 1, 4, 5, 6, 7, 2, 3, 8, 9, 10] (by decide +kernel) rfl) d_RC_put_84
        · exact absurd (nI_lt (b := 600) hki (by decide)) c_4
      · exact absurd hFt (one_eq hr_36 c_3)
  · exact absurd (has_in ht (by omega)) (one_eq hr_12 c_1)
set_option maxHeartbeats 2000000 in
set_option maxRecDepth 100000 in
theorem f_RC_countL_Table (l : Launch) (dC : Nat → ClassId) (dI : Nat → Nat → Nat) (cI cM cO : ClassId) (sz : Nat) (rc : Nat) (ma : Nat) (k : Nat) (fit : Int32) (frd : Int32) (fbd : Int32) (fir : Int32) (mf : Nat → Option Nat) (co : Nat) (xx : Int64) (xreadX : Int64) (soa : Nat) (sna : Nat) (swa : Nat) (xkept : Int32) (ri : Nat) (ro : Nat) (rw : Nat) (xasked : Int32) (j : Nat) (mo : Nat) (o2 : Nat) (ka : Nat) (kf : Nat → Int32) (oo : Nat) (osg : Int32) (ofc : Int32) (oca : Nat) (opa : Nat) (n : Nat) (ocf : Nat → Int32) (opf : Nat → Int32) (osm : Int32) (C : Nat → Nat) (c9 : Nat) (t : Nat) (hk8 : k ≤ 8) (hj : j < k) (hmf : mf j = some mo) (hkl : n ≤ 64) (hn : n ≤ 64) (ht : t < n) (hc : c9 ≤ 4095) (hfi : ¬ 0 < fit) (hrd : frd = 0) (hk : tbI kf n C) (hB : bd C n 4095) (hn1 : 1 ≤ n) (hfc0 : ofc = 0) : MetI l y_RC_count (Cond.code y_RC_count prog_1_method_3_code 6 (some .int) :: gw) ({ frames := 4, cells := 0, slots := 0, locals := 89 } : Room) (dC, dI) vwCl (kT cI cM cO) [Value.ref rc, Value.int (nI j), Value.int (nI t), Value.int (nI c9)] [(rc, Sum.inr (6, [Value.ref co, Value.ref ma, Value.int (nI k), Value.int fit, Value.int 0, Value.int frd, Value.int fbd, Value.int fir])), (ma, Sum.inl (cM, 8, Sum.inr (Sum.inr (Sum.inr (Sum.inr mf))))), (co, Sum.inr (5, [Value.long xx, Value.long xreadX, Value.ref soa, Value.ref sna, Value.ref swa, Value.int xkept, Value.ref ri, Value.ref ro, Value.ref rw, Value.int xasked])), (mo, Sum.inr (8, [Value.ref ka, Value.ref oo, Value.ref o2])), (ka, Sum.inl (cI, n, Sum.inl kf)), (oo, Sum.inr (7, [Value.int osg, Value.int osm, Value.int ofc, Value.ref oca, Value.ref opa])), (oca, Sum.inl (cI, n, Sum.inl ocf)), (opa, Sum.inl (cI, 512, Sum.inl opf))] sz (fun (r : Int32) (u : (Nat → Int32) × (Nat → Int32) × (Nat → Int32)) => r = nI (C t) ∧ u.1 = upd kf t (nI c9) ∧ tbI u.2.1 n (sc n 512 (upN C t c9)) ∧ layt u.2.2 (sc n 512 (upN C t c9)) n (ns (sc n 512 (upN C t c9)) n)) (fun (u : (Nat → Int32) × (Nat → Int32) × (Nat → Int32)) => [(rc, Sum.inr (6, [Value.ref co, Value.ref ma, Value.int (nI k), Value.int fit, Value.int 0, Value.int frd, Value.int fbd, Value.int fir])), (ma, Sum.inl (cM, 8, Sum.inr (Sum.inr (Sum.inr (Sum.inr mf))))), (co, Sum.inr (5, [Value.long xx, Value.long xreadX, Value.ref soa, Value.ref sna, Value.ref swa, Value.int xkept, Value.ref ri, Value.ref ro, Value.ref rw, Value.int xasked])), (mo, Sum.inr (8, [Value.ref ka, Value.ref oo, Value.ref o2])), (ka, Sum.inl (cI, n, Sum.inl u.1)), (oo, Sum.inr (7, [Value.int osg, Value.int (nI (ns (sc n 512 (upN C t c9)) n)), Value.int ofc, Value.ref oca, Value.ref opa])), (oca, Sum.inl (cI, n, Sum.inl u.2.1)), (opa, Sum.inl (cI, 512, Sum.inl u.2.2))]) 0 0 := by
  refine my_ofI (cc := prog_1_method_3_code) (n := 6) (ret := (some .int)) (by decide) rfl (Nat.le_of_ble_eq_true rfl) ?_
  intro p e s m args below meth c R Q A ls H locs hx hb hr hts hown hlocks hml hnm hR hQ hA hl hP hK hN hD hS
  have hg : ∀ w ∈ gw, w.before args s = true := fun w h => hts w (List.mem_cons_of_mem _ h)
  have hown : s.vm.findClass "RangeCoders" = some m.cls := hown
  have hl : lv_has ls 6 [(0, Value.ref rc), (1, Value.int (nI j)), (2, Value.int (nI t)), (3, Value.int (nI c9))] := hl
  refine lv_aload_n hx hb d_RC_count_0 rfl (lv_at hl 0 rfl) ?_
  refine lv_iload_n hx hb d_RC_count_1 rfl (lv_at hl 1 rfl) ?_
  refine my_cq (wr := [(co, Sum.inr (5, [Value.long xx, Value.long xreadX, Value.ref soa, Value.ref sna, Value.ref swa, Value.int xkept, Value.ref ri, Value.ref ro, Value.ref rw, Value.int xasked])), (mo, Sum.inr (8, [Value.ref ka, Value.ref oo, Value.ref o2])), (ka, Sum.inl (cI, n, Sum.inl kf)), (oo, Sum.inr (7, [Value.int osg, Value.int osm, Value.int ofc, Value.ref oca, Value.ref opa])), (oca, Sum.inl (cI, n, Sum.inl ocf)), (opa, Sum.inl (cI, 512, Sum.inl opf))]) (va_runV (As := [Value.int (nI j)]) (rest := []) ⟨hx, hb, hml, hown, hts⟩ (c_RC_modelAtB l dC dI cI cM cO H.size rc ma k fit 0 frd fbd fir mf co j mo (by first | assumption | omega) (by first | assumption | omega) (by first | assumption | omega)) (cwV 1 hts (my_gV k412 k414 ks3 k1 k415) rfl rfl rfl cu_RC_modelAt_1 ⟨by rw [hR]; exact Nat.le_of_ble_eq_true rfl, by rw [hR]; exact Nat.le_of_ble_eq_true rfl⟩) (my_preV hK hN (hP.sub [0, 1] rfl) (hD.sub [0, 1] (by decide +kernel) rfl) 0 rfl rfl) rfl rfl hl.1 rfl (lv_room (Nat.le_of_ble_eq_true rfl)) d_RC_count_2 ⟨by rw [hR]; exact Nat.le_of_ble_eq_true rfl, by rw [hR]; exact Nat.le_of_ble_eq_true rfl⟩) hP hD hS hA [0, 1] [2, 3, 4, 5, 6, 7] rfl rfl (by decide +kernel) (by decide +kernel) (fun r_2 u9 H locs hw_2 hP hD hS => ?_)
  have hr_2 : r_2 = some mo := hw_2
  have hPD : my_PD (dC, dI) vwCl A [(co, Sum.inr (5, [Value.long xx, Value.long xreadX, Value.ref soa, Value.ref sna, Value.ref swa, Value.int xkept, Value.ref ri, Value.ref ro, Value.ref rw, Value.int xasked])), (mo, Sum.inr (8, [Value.ref ka, Value.ref oo, Value.ref o2])), (ka, Sum.inl (cI, n, Sum.inl kf)), (oo, Sum.inr (7, [Value.int osg, Value.int osm, Value.int ofc, Value.ref oca, Value.ref opa])), (oca, Sum.inl (cI, n, Sum.inl ocf)), (opa, Sum.inl (cI, 512, Sum.inl opf)), (rc, Sum.inr (6, [Value.ref co, Value.ref ma, Value.int (nI k), Value.int fit, Value.int 0, Value.int frd, Value.int fbd, Value.int fir])), (ma, Sum.inl (cM, 8, Sum.inr (Sum.inr (Sum.inr (Sum.inr mf)))))] H := ⟨hP, hD⟩
  have hP := hPD.1
  have hD := hPD.2
  subst hr_2
  refine W.eq (g2 := F0 m 5 ls [Value.ref mo]) rfl ?_
  refine lv_astore (lv' := [(4, Value.ref mo), (0, Value.ref rc), (1, Value.int (nI j)), (2, Value.int (nI t)), (3, Value.int (nI c9))]) hx hb d_RC_count_5 hl (by decide) rfl (fun ls hl => ?_)
  refine lv_aload hx hb d_RC_count_7 (lv_at hl 0 rfl) ?_
  refine lv_ifnull hx hb d_RC_count_9 ?_
  refine lv_aload hx hb d_RC_count_12 (lv_at hl 0 rfl) ?_
  refine lv_iload_n hx hb d_RC_count_14 rfl (lv_at hl 3 rfl) ?_
  refine my_ci (wr := [(co, Sum.inr (5, [Value.long xx, Value.long xreadX, Value.ref soa, Value.ref sna, Value.ref swa, Value.int xkept, Value.ref ri, Value.ref ro, Value.ref rw, Value.int xasked])), (oo, Sum.inr (7, [Value.int osg, Value.int osm, Value.int ofc, Value.ref oca, Value.ref opa])), (oca, Sum.inl (cI, n, Sum.inl ocf)), (opa, Sum.inl (cI, 512, Sum.inl opf)), (rc, Sum.inr (6, [Value.ref co, Value.ref ma, Value.int (nI k), Value.int fit, Value.int 0, Value.int frd, Value.int fbd, Value.int fir])), (ma, Sum.inl (cM, 8, Sum.inr (Sum.inr (Sum.inr (Sum.inr mf)))))]) (va_runV (As := [Value.int (nI t)]) (rest := []) ⟨hx, hb, hml, hown, hts⟩ (f_Model_hasSign l dC dI cI cM cO H.size mo ka oo o2 n kf (nI t) (by first | assumption | omega)) (cwV 1 hts (my_gV k416 k417 k418 k13 k419) rfl rfl rfl cu_Model_hasSign_1 ⟨by rw [hR]; exact Nat.le_of_ble_eq_true rfl, by rw [hR]; exact Nat.le_of_ble_eq_true rfl⟩) (my_preV hK hN (hP.sub [1, 2] rfl) (hD.sub [1, 2] (by decide +kernel) rfl) 0 rfl rfl) rfl rfl hl.1 rfl (lv_room (Nat.le_of_ble_eq_true rfl)) d_RC_count_15 ⟨by rw [hR]; exact Nat.le_of_ble_eq_true rfl, by rw [hR]; exact Nat.le_of_ble_eq_true rfl⟩) hP hD hS hA [1, 2] [0, 3, 4, 5, 6, 7] rfl rfl (by decide +kernel) (by decide +kernel) (fun r_15 u9 H locs hw_15 hP hD hS => ?_)
  have hr_15 : r_15 = if 0 ≤ (nI t) ∧ (nI t) < nI n then 1 else 0 := hw_15
  have hPD : my_PD (dC, dI) vwCl A [(co, Sum.inr (5, [Value.long xx, Value.long xreadX, Value.ref soa, Value.ref sna, Value.ref swa, Value.int xkept, Value.ref ri, Value.ref ro, Value.ref rw, Value.int xasked])), (oo, Sum.inr (7, [Value.int osg, Value.int osm, Value.int ofc, Value.ref oca, Value.ref opa])), (oca, Sum.inl (cI, n, Sum.inl ocf)), (opa, Sum.inl (cI, 512, Sum.inl opf)), (rc, Sum.inr (6, [Value.ref co, Value.ref ma, Value.int (nI k), Value.int fit, Value.int 0, Value.int frd, Value.int fbd, Value.int fir])), (ma, Sum.inl (cM, 8, Sum.inr (Sum.inr (Sum.inr (Sum.inr mf))))), (mo, Sum.inr (8, [Value.ref ka, Value.ref oo, Value.ref o2])), (ka, Sum.inl (cI, n, Sum.inl kf))] H := ⟨hP, hD⟩
  have hP := hPD.1
  have hD := hPD.2
  refine lv_if_ne (tgt := 23) hx hb d_RC_count_18 (by decide) (fun c_1 => ?_) (fun c_1 => ?_)
  · refine lv_iload_n hx hb d_RC_count_23 rfl (lv_at hl 4 rfl) ?_
    refine lv_if_lt (tgt := 34) hx hb d_RC_count_24 (by decide) (fun c_2 => ?_) (fun c_2 => ?_)
    · exact absurd c_2 (nI_pos (by omega))
    · refine lv_iload_n hx hb d_RC_count_27 rfl (lv_at hl 4 rfl) ?_
      refine lv_sipush (v := 4095) hx hb d_RC_count_28 (by decide) ?_
      refine lv_icmp_le (tgt := 37) hx hb d_RC_count_31 (by decide) (fun c_3 => ?_) (fun c_3 => ?_)
      · refine lv_aload_n hx hb d_RC_count_37 rfl (lv_at hl 1 rfl) ?_
        refine va_get (D := (dC, dI)) (ci := 6) (v := .int fit) (C := "RangeCoders") (T := T_RC) (N := 8) hx hb hg in_RC hown hK hP 4 rfl rfl 3 (by decide) (hg _ k261) (fun _ h9 => h9) rfl d_RC_count_38 ?_
        refine lv_if_le (tgt := 51) hx hb d_RC_count_41 (by decide) (fun c_4 => ?_) (fun c_4 => ?_)
        · refine lv_aload_n hx hb d_RC_count_51 rfl (lv_at hl 1 rfl) ?_
          refine va_get (D := (dC, dI)) (ci := 6) (v := .int frd) (C := "RangeCoders") (T := T_RC) (N := 8) hx hb hg in_RC hown hK hP 4 rfl rfl 5 (by decide) (hg _ k263) (fun _ h9 => h9) rfl d_RC_count_52 ?_
          refine lv_if_eq (tgt := 61) hx hb d_RC_count_55 (by decide) (fun c_5 => ?_) (fun c_5 => ?_)
          · refine lv_aload hx hb d_RC_count_61 (lv_at hl 0 rfl) ?_
            refine va_get (D := (dC, dI)) (ci := 8) (v := .ref ka) (C := "RangeCoders$Model") (T := T_Model) (N := 3) hx hb hg in_Model hown hK hP 6 rfl rfl 0 (by decide) (hg _ k341) (fun _ h9 => h9) rfl d_RC_count_63 ?_
            refine lv_iload_n hx hb d_RC_count_66 rfl (lv_at hl 3 rfl) ?_
            refine va_iald hx hb hK hP 7 0 rfl rfl (vp_in_nI ht (by omega)) d_RC_count_67 ?_
            refine lv_topi (fun v_6 ev_6 => ?_)
            refine lv_istore (lv' := [(5, Value.int v_6), (4, Value.ref mo), (0, Value.ref rc), (1, Value.int (nI j)), (2, Value.int (nI t)), (3, Value.int (nI c9))]) hx hb d_RC_count_68 hl (by decide) rfl (fun ls hl => ?_)
            refine lv_aload hx hb d_RC_count_70 (lv_at hl 1 rfl) ?_
            refine va_get (D := (dC, dI)) (ci := 8) (v := .ref ka) (C := "RangeCoders$Model") (T := T_Model) (N := 3) hx hb hg in_Model hown hK hP 6 rfl rfl 0 (by decide) (hg _ k341) (fun _ h9 => h9) rfl d_RC_count_72 ?_
            refine lv_iload_n hx hb d_RC_count_75 rfl (lv_at hl 4 rfl) ?_
            refine lv_iload_n hx hb d_RC_count_76 rfl (lv_at hl 5 rfl) ?_
            refine va_iast hx hb hK hP hD hS 7 0 rfl rfl (vp_in_nI ht (by omega)) d_RC_count_77 (fun H locs hP hD hS => ?_)
            have hPD : my_PD (dC, dI) vwCl A [(co, Sum.inr (5, [Value.long xx, Value.long xreadX, Value.ref soa, Value.ref sna, Value.ref swa, Value.int xkept, Value.ref ri, Value.ref ro, Value.ref rw, Value.int xasked])), (oo, Sum.inr (7, [Value.int osg, Value.int osm, Value.int ofc, Value.ref oca, Value.ref opa])), (oca, Sum.inl (cI, n, Sum.inl ocf)), (opa, Sum.inl (cI, 512, Sum.inl opf)), (rc, Sum.inr (6, [Value.ref co, Value.ref ma, Value.int (nI k), Value.int fit, Value.int 0, Value.int frd, Value.int fbd, Value.int fir])), (ma, Sum.inl (cM, 8, Sum.inr (Sum.inr (Sum.inr (Sum.inr mf))))), (mo, Sum.inr (8, [Value.ref ka, Value.ref oo, Value.ref o2])), (ka, Sum.inl (cI, n, Sum.inl (upd kf (nI t).toNatClampNeg (nI c9))))] H := ⟨hP, hD⟩
            have hP := hPD.1
            have hD := hPD.2
            have hk2 : tbI (upd kf (nI t).toNatClampNeg (nI c9)) n (upN C t c9) := tb_up hk (nI_clamp (by omega)) rfl
            have hB2 : bd (upN C t c9) n 4095 := bd_up hB hc
            refine lv_aload_n hx hb d_RC_count_78 rfl (lv_at hl 2 rfl) ?_
            refine va_get (D := (dC, dI)) (ci := 6) (v := .int 0) (C := "RangeCoders") (T := T_RC) (N := 8) hx hb hg in_RC hown hK hP 4 rfl rfl 4 (by decide) (hg _ k262) (fun _ h9 => h9) rfl d_RC_count_79 ?_
            refine lv_if_ne (tgt := 102) hx hb d_RC_count_82 (by decide) (fun c_7 => ?_) (fun c_7 => ?_)
            · exact absurd rfl c_7
            · refine lv_aload_n hx hb d_RC_count_85 rfl (lv_at hl 2 rfl) ?_
              refine va_get (D := (dC, dI)) (ci := 6) (v := .ref co) (C := "RangeCoders") (T := T_RC) (N := 8) hx hb hg in_RC hown hK hP 4 rfl rfl 0 (by decide) (hg _ k258) (fun _ h9 => h9) rfl d_RC_count_86 ?_
              refine lv_aload hx hb d_RC_count_89 (lv_at hl 1 rfl) ?_
              refine va_get (D := (dC, dI)) (ci := 8) (v := .ref oo) (C := "RangeCoders$Model") (T := T_Model) (N := 3) hx hb hg in_Model hown hK hP 6 rfl rfl 1 (by decide) (hg _ k343) (fun _ h9 => h9) rfl d_RC_count_91 ?_
              refine lv_aload hx hb d_RC_count_94 (lv_at hl 1 rfl) ?_
              refine va_get (D := (dC, dI)) (ci := 8) (v := .ref ka) (C := "RangeCoders$Model") (T := T_Model) (N := 3) hx hb hg in_Model hown hK hP 6 rfl rfl 0 (by decide) (hg _ k341) (fun _ h9 => h9) rfl d_RC_count_96 ?_
              refine my_cv (wr := [(rc, Sum.inr (6, [Value.ref co, Value.ref ma, Value.int (nI k), Value.int fit, Value.int 0, Value.int frd, Value.int fbd, Value.int fir])), (ma, Sum.inl (cM, 8, Sum.inr (Sum.inr (Sum.inr (Sum.inr mf))))), (mo, Sum.inr (8, [Value.ref ka, Value.ref oo, Value.ref o2]))]) (va_runU (As := [Value.ref oo, Value.ref ka]) (rest := []) ⟨hx, hb, hml, hown, hts⟩ (f_Table_prepare l dC dI cI cM cO H.size co xx xreadX soa sna swa xkept ri ro rw xasked oo osg ofc oca opa n ocf opf osm ka (upd kf (nI t).toNatClampNeg (nI c9)) (upN C t c9) (by first | assumption | omega) (hk2) (hB2) (by first | assumption | omega) (by first | assumption | omega)) (va_cwA 2 hts (my_gU k353 k355 k400 k401 k11 k402) rfl rfl rfl (hN.1 _ j354 rfl) (by decide +kernel) ⟨by rw [hR]; exact Nat.le_of_ble_eq_true rfl, by rw [hR]; exact Nat.le_of_ble_eq_true rfl⟩) (my_preV hK hN (hP.sub [0, 1, 2, 3, 7] rfl) (hD.sub [0, 1, 2, 3, 7] (by decide +kernel) rfl) 0 rfl rfl) rfl rfl hl.1 rfl (lv_room (Nat.le_of_ble_eq_true rfl)) d_RC_count_99 ⟨by rw [hR]; exact Nat.le_of_ble_eq_true rfl, by rw [hR]; exact Nat.le_of_ble_eq_true rfl⟩) hP hD hS hA [0, 1, 2, 3, 7] [4, 5, 6] rfl rfl (by decide +kernel) (by decide +kernel) (fun u9 H locs hw_99 hP hD hS => ?_)
              obtain ⟨ocfq_99, opfq_99⟩ := u9
              obtain ⟨hf_99, hl_99⟩ : tbI ocfq_99 n (sc n 512 (upN C t c9)) ∧ layt opfq_99 (sc n 512 (upN C t c9)) n (ns (sc n 512 (upN C t c9)) n) := hw_99
              have hPD : my_PD (dC, dI) vwCl A [(rc, Sum.inr (6, [Value.ref co, Value.ref ma, Value.int (nI k), Value.int fit, Value.int 0, Value.int frd, Value.int fbd, Value.int fir])), (ma, Sum.inl (cM, 8, Sum.inr (Sum.inr (Sum.inr (Sum.inr mf))))), (mo, Sum.inr (8, [Value.ref ka, Value.ref oo, Value.ref o2])), (co, Sum.inr (5, [Value.long xx, Value.long xreadX, Value.ref soa, Value.ref sna, Value.ref swa, Value.int xkept, Value.ref ri, Value.ref ro, Value.ref rw, Value.int xasked])), (oo, Sum.inr (7, [Value.int osg, Value.int (nI (ns (sc n 512 (upN C t c9)) n)), Value.int ofc, Value.ref oca, Value.ref opa])), (oca, Sum.inl (cI, n, Sum.inl ocfq_99)), (opa, Sum.inl (cI, 512, Sum.inl opfq_99)), (ka, Sum.inl (cI, n, Sum.inl (upd kf (nI t).toNatClampNeg (nI c9))))] H := ⟨hP, hD⟩
              have hP := hPD.1
              have hD := hPD.2
              refine lv_iload hx hb d_RC_count_102 (lv_at hl 0 rfl) ?_
              exact my_iret (v := v_6) hx hb hr (rfl) hlocks hQ hK hS (Nat.le_refl _) (Nat.le_refl _) ((upd kf (nI t).toNatClampNeg (nI c9)), ocfq_99, opfq_99) (⟨by rw [ev_6]; exact tb_rd hk ht (by omega), by rw [nI_clamp (by omega)], hf_99, hl_99⟩) (hP.sub [0, 1, 3, 2, 7, 4, 5, 6] rfl) (hD.sub [0, 1, 3, 2, 7, 4, 5, 6] (by decide +kernel) rfl) d_RC_count_104
          · exact absurd hrd c_5
        · exact absurd (Int32.not_le.mp c_4) hfi
      · exact absurd (nI_le (b := 4095) hc (by decide)) c_3
  · exact absurd (has_in ht (by omega)) (one_eq hr_15 c_1)
end
section
set_option maxHeartbeats 2000000 in
set_option maxRecDepth 100000 in
theorem f_RC_out_Bits (l : Launch) (dC : Nat → ClassId) (dI : Nat → Nat → Nat) (cI cM cO : ClassId) (sz : Nat) (rc : Nat) (ma : Nat) (k : Nat) (fit : Int32) (fen : Int32) (frd : Int32) (fbd : Int32) (fir : Int32) (mf : Nat → Option Nat) (co : Nat) (xshift : Int32) (xkeptCode : Int64) (xkeptRange : Int64) (xkeptAsked : Int32) (xcache : Int32) (xpending : Int32) (xlow : Int64) (xrange : Int64) (xcode : Int64) (xreadLow : Int64) (xreadRange : Int64) (ri : Nat) (ro : Nat) (rw : Nat) (xasked : Int32) (roa : Nat) (rok : Nat) (rof : Nat → Int32) (os : List Nat) (ii : Int32) (hro : rOk (nI os.length) rok) (hGro : gIs rof os) (hLro : os.length ≤ 8192) : MetI l y_RC_out (Cond.code y_RC_out prog_1_method_8_code 2 (some .int) :: gw) ({ frames := 2, cells := 0, slots := 0, locals := 42 } : Room) (dC, dI) vwCl (kT cI cM cO) [Value.ref rc, Value.int ii] [(rc, Sum.inr (6, [Value.ref co, Value.ref ma, Value.int (nI k), Value.int fit, Value.int fen, Value.int frd, Value.int fbd, Value.int fir])), (co, Sum.inr (3, [Value.int xshift, Value.long xkeptCode, Value.long xkeptRange, Value.int xkeptAsked, Value.int xcache, Value.int xpending, Value.long xlow, Value.long xrange, Value.long xcode, Value.long xreadLow, Value.long xreadRange, Value.ref ri, Value.ref ro, Value.ref rw, Value.int xasked])), (ro, Sum.inr (0, [Value.int (nI os.length), Value.ref roa])), (roa, Sum.inl (cI, rok, Sum.inl rof))] sz (fun (r : Int32) (u : Unit) => r = rAt os ii) (fun (u : Unit) => [(rc, Sum.inr (6, [Value.ref co, Value.ref ma, Value.int (nI k), Value.int fit, Value.int fen, Value.int frd, Value.int fbd, Value.int fir])), (co, Sum.inr (3, [Value.int xshift, Value.long xkeptCode, Value.long xkeptRange, Value.int xkeptAsked, Value.int xcache, Value.int xpending, Value.long xlow, Value.long xrange, Value.long xcode, Value.long xreadLow, Value.long xreadRange, Value.ref ri, Value.ref ro, Value.ref rw, Value.int xasked])), (ro, Sum.inr (0, [Value.int (nI os.length), Value.ref roa])), (roa, Sum.inl (cI, rok, Sum.inl rof))]) 0 0 := by
  refine my_ofI (cc := prog_1_method_8_code) (n := 2) (ret := (some .int)) (by decide) rfl (Nat.le_of_ble_eq_true rfl) ?_
  intro p e s m args below meth c R Q A ls H locs hx hb hr hts hown hlocks hml hnm hR hQ hA hl hP hK hN hD hS
  have hg : ∀ w ∈ gw, w.before args s = true := fun w h => hts w (List.mem_cons_of_mem _ h)
  have hown : s.vm.findClass "RangeCoders" = some m.cls := hown
  have hl : lv_has ls 2 [(0, Value.ref rc), (1, Value.int ii)] := hl
  refine lv_aload_n hx hb d_RC_out_0 rfl (lv_at hl 0 rfl) ?_
  refine va_get (D := (dC, dI)) (ci := 6) (v := .ref co) (C := "RangeCoders") (T := T_RC) (N := 8) hx hb hg in_RC hown hK hP 0 rfl rfl 0 (by decide) (hg _ k258) (fun _ h9 => h9) rfl d_RC_out_1 ?_
  refine va_get (D := (dC, dI)) (ci := 3) (v := .ref ro) (C := "RangeCoders$Bits") (T := T_Bits) (N := 15) hx hb hg in_Bits hown hK hP 1 rfl rfl 12 (by decide) (hg _ k108) (fun _ h9 => h9) rfl d_RC_out_4 ?_
  refine lv_iload_n hx hb d_RC_out_7 rfl (lv_at hl 1 rfl) ?_
  refine my_ci (wr := [(rc, Sum.inr (6, [Value.ref co, Value.ref ma, Value.int (nI k), Value.int fit, Value.int fen, Value.int frd, Value.int fbd, Value.int fir])), (co, Sum.inr (3, [Value.int xshift, Value.long xkeptCode, Value.long xkeptRange, Value.int xkeptAsked, Value.int xcache, Value.int xpending, Value.long xlow, Value.long xrange, Value.long xcode, Value.long xreadLow, Value.long xreadRange, Value.ref ri, Value.ref ro, Value.ref rw, Value.int xasked]))]) (va_runV (As := [Value.int ii]) (rest := []) ⟨hx, hb, hml, hown, hts⟩ (f_Row_at l dC dI cI cM cO H.size ro roa rok rof os ii (hro) (hGro) (hLro)) (cwV 1 hts (my_gV k703 k659 k660 k6 k661) rfl rfl rfl cu_Row_at_1 ⟨by rw [hR]; exact Nat.le_of_ble_eq_true rfl, by rw [hR]; exact Nat.le_of_ble_eq_true rfl⟩) (my_preV hK hN (hP.sub [2, 3] rfl) (hD.sub [2, 3] (by decide +kernel) rfl) 0 rfl rfl) rfl rfl hl.1 rfl (lv_room (Nat.le_of_ble_eq_true rfl)) d_RC_out_8 ⟨by rw [hR]; exact Nat.le_of_ble_eq_true rfl, by rw [hR]; exact Nat.le_of_ble_eq_true rfl⟩) hP hD hS hA [2, 3] [0, 1] rfl rfl (by decide +kernel) (by decide +kernel) (fun r_8 u9 H locs hw_8 hP hD hS => ?_)
  have hr_8 : r_8 = rAt os ii := hw_8
  have hPD : my_PD (dC, dI) vwCl A [(rc, Sum.inr (6, [Value.ref co, Value.ref ma, Value.int (nI k), Value.int fit, Value.int fen, Value.int frd, Value.int fbd, Value.int fir])), (co, Sum.inr (3, [Value.int xshift, Value.long xkeptCode, Value.long xkeptRange, Value.int xkeptAsked, Value.int xcache, Value.int xpending, Value.long xlow, Value.long xrange, Value.long xcode, Value.long xreadLow, Value.long xreadRange, Value.ref ri, Value.ref ro, Value.ref rw, Value.int xasked])), (ro, Sum.inr (0, [Value.int (nI os.length), Value.ref roa])), (roa, Sum.inl (cI, rok, Sum.inl rof))] H := ⟨hP, hD⟩
  have hP := hPD.1
  have hD := hPD.2
  exact my_iret (v := r_8) hx hb hr (rfl) hlocks hQ hK hS (Nat.le_refl _) (Nat.le_refl _) () (hr_8) (hP.sub [0, 1, 2, 3] rfl) (hD.sub [0, 1, 2, 3] (by decide +kernel) rfl) d_RC_out_11
set_option maxHeartbeats 2000000 in
set_option maxRecDepth 100000 in
theorem f_RC_octetsR_Bits (l : Launch) (dC : Nat → ClassId) (dI : Nat → Nat → Nat) (cI cM cO : ClassId) (sz : Nat) (rc : Nat) (ma : Nat) (k : Nat) (fit : Int32) (fen : Int32) (frd : Int32) (fbd : Int32) (fir : Int32) (mf : Nat → Option Nat) (co : Nat) (xshift : Int32) (xkeptCode : Int64) (xkeptRange : Int64) (xkeptAsked : Int32) (xcache : Int32) (xpending : Int32) (xlow : Int64) (xrange : Int64) (xcode : Int64) (xreadLow : Int64) (xreadRange : Int64) (ri : Nat) (ro : Nat) (rw : Nat) (xasked : Int32) (ria : Nat) (rik : Nat) (rif : Nat → Int32) (is : List Nat) (vv : Int32) (hri : rOk (nI is.length) rik) (hGri : gIs rif is) (hLri : is.length ≤ 6000) (hfl : 6000 < is.length + 4) : MetI l y_RC_octets (Cond.code y_RC_octets prog_1_method_9_code 3 (some .int) :: gw) ({ frames := 0, cells := 0, slots := 0, locals := 0 } : Room) (dC, dI) vwCl (kT cI cM cO) [Value.ref rc, Value.int vv] [(rc, Sum.inr (6, [Value.ref co, Value.ref ma, Value.int (nI k), Value.int fit, Value.int fen, Value.int frd, Value.int fbd, Value.int fir])), (co, Sum.inr (3, [Value.int xshift, Value.long xkeptCode, Value.long xkeptRange, Value.int xkeptAsked, Value.int xcache, Value.int xpending, Value.long xlow, Value.long xrange, Value.long xcode, Value.long xreadLow, Value.long xreadRange, Value.ref ri, Value.ref ro, Value.ref rw, Value.int xasked])), (ri, Sum.inr (0, [Value.int (nI is.length), Value.ref ria])), (ria, Sum.inl (cI, rik, Sum.inl rif))] sz (fun (r : Int32) (u : Unit) => r = -4) (fun (u : Unit) => [(rc, Sum.inr (6, [Value.ref co, Value.ref ma, Value.int (nI k), Value.int fit, Value.int fen, Value.int frd, Value.int fbd, Value.int fir])), (co, Sum.inr (3, [Value.int xshift, Value.long xkeptCode, Value.long xkeptRange, Value.int xkeptAsked, Value.int xcache, Value.int xpending, Value.long xlow, Value.long xrange, Value.long xcode, Value.long xreadLow, Value.long xreadRange, Value.ref ri, Value.ref ro, Value.ref rw, Value.int xasked])), (ri, Sum.inr (0, [Value.int (nI is.length), Value.ref ria])), (ria, Sum.inl (cI, rik, Sum.inl rif))]) 0 0 := by
  refine my_ofI (cc := prog_1_method_9_code) (n := 3) (ret := (some .int)) (by decide) rfl (Nat.le_of_ble_eq_true rfl) ?_
  intro p e s m args below meth c R Q A ls H locs hx hb hr hts hown hlocks hml hnm hR hQ hA hl hP hK hN hD hS
  have hg : ∀ w ∈ gw, w.before args s = true := fun w h => hts w (List.mem_cons_of_mem _ h)
  have hown : s.vm.findClass "RangeCoders" = some m.cls := hown
  have hl : lv_has ls 3 [(0, Value.ref rc), (1, Value.int vv)] := hl
  refine lv_aload_n hx hb d_RC_octets_0 rfl (lv_at hl 0 rfl) ?_
  refine va_get (D := (dC, dI)) (ci := 6) (v := .ref co) (C := "RangeCoders") (T := T_RC) (N := 8) hx hb hg in_RC hown hK hP 0 rfl rfl 0 (by decide) (hg _ k258) (fun _ h9 => h9) rfl d_RC_octets_1 ?_
  refine va_get (D := (dC, dI)) (ci := 3) (v := .ref ri) (C := "RangeCoders$Bits") (T := T_Bits) (N := 15) hx hb hg in_Bits hown hK hP 1 rfl rfl 11 (by decide) (hg _ k102) (fun _ h9 => h9) rfl d_RC_octets_4 ?_
  refine va_get (D := (dC, dI)) (ci := 0) (v := .int (nI is.length)) (C := "RangeCoders$Row") (T := T_Row) (N := 2) hx hb hg in_Row hown hK hP 2 rfl rfl 0 (by decide) (hg _ k58) (fun _ h9 => h9) rfl d_RC_octets_7 ?_
  refine lv_iconst (v := 4) hx hb d_RC_octets_10 (by decide) ?_
  refine lv_iadd hx hb d_RC_octets_11 ?_
  refine lv_topi (fun v_1 ev_1 => ?_)
  refine lv_sipush (v := 6000) hx hb d_RC_octets_12 (by decide) ?_
  have z9 : v_1 = nI (is.length + 4) := by rw [ev_1]; exact nI_add _ 4
  subst z9
  refine lv_icmp_le (tgt := 21) hx hb d_RC_octets_15 (by decide) (fun c_2 => ?_) (fun c_2 => ?_)
  · exact absurd ((nI_cmp (b := 6000) (by omega) (by decide)).mp c_2) (by omega)
  · refine lv_bipush (v := (-4)) hx hb d_RC_octets_18 (by decide) ?_
    exact my_iret (v := (-4)) hx hb hr (rfl) hlocks hQ hK hS (Nat.le_refl _) (Nat.le_refl _) () (rfl) (hP.sub [0, 1, 2, 3] rfl) (hD.sub [0, 1, 2, 3] (by decide +kernel) rfl) d_RC_octets_20
set_option maxHeartbeats 2000000 in
set_option maxRecDepth 100000 in
theorem f_RC_octetsL_Bits (l : Launch) (dC : Nat → ClassId) (dI : Nat → Nat → Nat) (cI cM cO : ClassId) (sz : Nat) (sl : Nat) (rc : Nat) (ma : Nat) (k : Nat) (fit : Int32) (fen : Int32) (frd : Int32) (fbd : Int32) (fir : Int32) (mf : Nat → Option Nat) (co : Nat) (xshift : Int32) (xkeptCode : Int64) (xkeptRange : Int64) (xkeptAsked : Int32) (xcache : Int32) (xpending : Int32) (xlow : Int64) (xrange : Int64) (xcode : Int64) (xreadLow : Int64) (xreadRange : Int64) (ri : Nat) (ro : Nat) (rw : Nat) (xasked : Int32) (ria : Nat) (rik : Nat) (rif : Nat → Int32) (is : List Nat) (vv : Int32) (hri : rOk (nI is.length) rik) (hGri : gIs rif is) (hLri : is.length ≤ 6000) (hfl : is.length + 4 ≤ 6000) : MetIg l y_RC_octets (Cond.code y_RC_octets prog_1_method_9_code 3 (some .int) :: gw) ({ frames := 3, cells := rPh rik, slots := rPh rik, locals := 83 } : Room) (dC, dI) vwCl (kT cI cM cO) [Value.ref rc, Value.int vv] [(rc, Sum.inr (6, [Value.ref co, Value.ref ma, Value.int (nI k), Value.int fit, Value.int fen, Value.int frd, Value.int fbd, Value.int fir])), (co, Sum.inr (3, [Value.int xshift, Value.long xkeptCode, Value.long xkeptRange, Value.int xkeptAsked, Value.int xcache, Value.int xpending, Value.long xlow, Value.long xrange, Value.long xcode, Value.long xreadLow, Value.long xreadRange, Value.ref ri, Value.ref ro, Value.ref rw, Value.int xasked])), (ri, Sum.inr (0, [Value.int (nI is.length), Value.ref ria])), (ria, Sum.inl (cI, rik, Sum.inl rif))] sz sl (fun (r : Int32) (u : Nat × Nat × (Nat → Int32)) => r = nI (is ++ [oB vv 3, oB vv 2, oB vv 1, oB vv 0]).length ∧ rOk (nI (is ++ [oB vv 3, oB vv 2, oB vv 1, oB vv 0]).length) u.2.1 ∧ gIs u.2.2 (is ++ [oB vv 3, oB vv 2, oB vv 1, oB vv 0])) (fun (u : Nat × Nat × (Nat → Int32)) => [(rc, Sum.inr (6, [Value.ref co, Value.ref ma, Value.int (nI k), Value.int fit, Value.int fen, Value.int frd, Value.int fbd, Value.int fir])), (co, Sum.inr (3, [Value.int xshift, Value.long xkeptCode, Value.long xkeptRange, Value.int xkeptAsked, Value.int xcache, Value.int xpending, Value.long xlow, Value.long xrange, Value.long xcode, Value.long xreadLow, Value.long xreadRange, Value.ref ri, Value.ref ro, Value.ref rw, Value.int xasked])), (ri, Sum.inr (0, [Value.int (nI (is ++ [oB vv 3, oB vv 2, oB vv 1, oB vv 0]).length), Value.ref u.1])), (u.1, Sum.inl (cI, u.2.1, Sum.inl u.2.2))]) (rPh rik) (fun (u : Nat × Nat × (Nat → Int32)) => rPh u.2.1) := by
  refine my_ofIg (cc := prog_1_method_9_code) (n := 3) (ret := (some .int)) (by decide) rfl (Nat.le_of_ble_eq_true rfl) ?_
  intro p e s m args below meth c R Q A ls H locs hx hb hr hts hown hlocks hml hnm hR hQ hA hl hP hK hN hD hS
  have hg : ∀ w ∈ gw, w.before args s = true := fun w h => hts w (List.mem_cons_of_mem _ h)
  have hown : s.vm.findClass "RangeCoders" = some m.cls := hown
  have hl : lv_has ls 3 [(0, Value.ref rc), (1, Value.int vv)] := hl
  have hlti := rOk_lt hri
  refine lv_aload_n hx hb d_RC_octets_0 rfl (lv_at hl 0 rfl) ?_
  refine va_get (D := (dC, dI)) (ci := 6) (v := .ref co) (C := "RangeCoders") (T := T_RC) (N := 8) hx hb hg in_RC hown hK hP 0 rfl rfl 0 (by decide) (hg _ k258) (fun _ h9 => h9) rfl d_RC_octets_1 ?_
  refine va_get (D := (dC, dI)) (ci := 3) (v := .ref ri) (C := "RangeCoders$Bits") (T := T_Bits) (N := 15) hx hb hg in_Bits hown hK hP 1 rfl rfl 11 (by decide) (hg _ k102) (fun _ h9 => h9) rfl d_RC_octets_4 ?_
  refine va_get (D := (dC, dI)) (ci := 0) (v := .int (nI is.length)) (C := "RangeCoders$Row") (T := T_Row) (N := 2) hx hb hg in_Row hown hK hP 2 rfl rfl 0 (by decide) (hg _ k58) (fun _ h9 => h9) rfl d_RC_octets_7 ?_
  refine lv_iconst (v := 4) hx hb d_RC_octets_10 (by decide) ?_
  refine lv_iadd hx hb d_RC_octets_11 ?_
  refine lv_topi (fun v_1 ev_1 => ?_)
  refine lv_sipush (v := 6000) hx hb d_RC_octets_12 (by decide) ?_
  have z9 : v_1 = nI (is.length + 4) := by rw [ev_1]; exact nI_add _ 4
  subst z9
  refine lv_icmp_le (tgt := 21) hx hb d_RC_octets_15 (by decide) (fun c_2 => ?_) (fun c_2 => ?_)
  · refine lv_bipush (v := 24) hx hb d_RC_octets_21 (by decide) ?_
    refine lv_istore_n (lv' := [(2, Value.int 24), (0, Value.ref rc), (1, Value.int vv)]) hx hb d_RC_octets_23 rfl hl (by decide) rfl (fun ls hl => ?_)
    have J_24 : ∀ (n9_24 : Nat) (i9 : Int32) (j : Nat) (b9 : List Nat) (ria9 : Nat) (rik9 : Nat) (rif9 : Nat → Int32) (d9 : Nat) (hn9_24 : j = n9_24) (hi : i9.toInt = 8 * (j : Int) - 8) (hj : j ≤ 4) (hb9 : is ++ [oB vv 3, oB vv 2, oB vv 1, oB vv 0] = b9 ++ (List.range j).reverse.map (oB vv)) (hM9 : b9.length + j = is.length + 4) (hr9 : rOk (nI b9.length) rik9) (hg9 : gIs rif9 b9) (hd9 : d9 + rPh rik9 ≤ rPh rik) (H : Heap) (locs : List Loc) (ls : Array Slot), va_P (dC, dI) vwCl [(rc, Sum.inr (6, [Value.ref co, Value.ref ma, Value.int (nI k), Value.int fit, Value.int fen, Value.int frd, Value.int fbd, Value.int fir])), (co, Sum.inr (3, [Value.int xshift, Value.long xkeptCode, Value.long xkeptRange, Value.int xkeptAsked, Value.int xcache, Value.int xpending, Value.long xlow, Value.long xrange, Value.long xcode, Value.long xreadLow, Value.long xreadRange, Value.ref ri, Value.ref ro, Value.ref rw, Value.int xasked])), (ri, Sum.inr (0, [Value.int (nI b9.length), Value.ref ria9])), (ria9, Sum.inl (cI, rik9, Sum.inl rif9))] H → va_D A [(rc, Sum.inr (6, [Value.ref co, Value.ref ma, Value.int (nI k), Value.int fit, Value.int fen, Value.int frd, Value.int fbd, Value.int fir])), (co, Sum.inr (3, [Value.int xshift, Value.long xkeptCode, Value.long xkeptRange, Value.int xkeptAsked, Value.int xcache, Value.int xpending, Value.long xlow, Value.long xrange, Value.long xcode, Value.long xreadLow, Value.long xreadRange, Value.ref ri, Value.ref ro, Value.ref rw, Value.int xasked])), (ri, Sum.inr (0, [Value.int (nI b9.length), Value.ref ria9])), (ria9, Sum.inl (cI, rik9, Sum.inl rif9))] → va_S A s.heap H locs → lv_has ls 3 [(2, Value.int i9), (0, Value.ref rc), (1, Value.int vv)] → W p l e R s m args below meth c H locs d9 d9 Q (F0 m 24 ls []) := by
      intro n9_24
      induction n9_24 using Nat.strongRecOn with
      | ind n9_24 ih9_24 =>
        intro i9 j b9 ria9 rik9 rif9 d9 hn9_24 hi hj hb9 hM9 hr9 hg9 hd9 H locs ls hP hD hS hl
        refine lv_iload_n hx hb d_RC_octets_24 rfl (lv_at hl 0 rfl) ?_
        refine lv_if_lt (tgt := 51) hx hb d_RC_octets_25 (by decide) (fun c_3 => ?_) (fun c_3 => ?_)
        · have z9 := I_ng c_3
          have hj0 : j = 0 := by omega
          have z9 : b9 = is ++ [oB vv 3, oB vv 2, oB vv 1, oB vv 0] := by rw [hb9, hj0]; simp
          subst z9
          refine lv_aload_n hx hb d_RC_octets_51 rfl (lv_at hl 1 rfl) ?_
          refine va_get (D := (dC, dI)) (ci := 6) (v := .ref co) (C := "RangeCoders") (T := T_RC) (N := 8) hx hb hg in_RC hown hK hP 0 rfl rfl 0 (by decide) (hg _ k258) (fun _ h9 => h9) rfl d_RC_octets_52 ?_
          refine va_get (D := (dC, dI)) (ci := 3) (v := .ref ri) (C := "RangeCoders$Bits") (T := T_Bits) (N := 15) hx hb hg in_Bits hown hK hP 1 rfl rfl 11 (by decide) (hg _ k102) (fun _ h9 => h9) rfl d_RC_octets_55 ?_
          refine va_get (D := (dC, dI)) (ci := 0) (v := .int (nI (is ++ [oB vv 3, oB vv 2, oB vv 1, oB vv 0]).length)) (C := "RangeCoders$Row") (T := T_Row) (N := 2) hx hb hg in_Row hown hK hP 2 rfl rfl 0 (by decide) (hg _ k58) (fun _ h9 => h9) rfl d_RC_octets_58 ?_
          exact my_iretg (v := nI (is ++ [oB vv 3, oB vv 2, oB vv 1, oB vv 0]).length) hx hb hr (rfl) hlocks hQ hK hS (ria9, rik9, rif9) (show d9 + (rPh rik9) ≤ (rPh rik) by omega) (show d9 + (rPh rik9) ≤ (rPh rik) by omega) (⟨rfl, hr9, hg9⟩) (hP.sub [0, 1, 2, 3] rfl) (hD.sub [0, 1, 2, 3] (by decide +kernel) rfl) d_RC_octets_61
        · have z9 := I_nn c_3
          have hj0 : 1 ≤ j := by omega
          have hi9 : i9 = nI (8 * (j - 1)) := Int32.toInt_inj.mp (by rw [nI_toInt (by omega)]; omega)
          refine lv_aload_n hx hb d_RC_octets_28 rfl (lv_at hl 1 rfl) ?_
          refine va_get (D := (dC, dI)) (ci := 6) (v := .ref co) (C := "RangeCoders") (T := T_RC) (N := 8) hx hb hg in_RC hown hK hP 0 rfl rfl 0 (by decide) (hg _ k258) (fun _ h9 => h9) rfl d_RC_octets_29 ?_
          refine va_get (D := (dC, dI)) (ci := 3) (v := .ref ri) (C := "RangeCoders$Bits") (T := T_Bits) (N := 15) hx hb hg in_Bits hown hK hP 1 rfl rfl 11 (by decide) (hg _ k102) (fun _ h9 => h9) rfl d_RC_octets_32 ?_
          refine lv_iload_n hx hb d_RC_octets_35 rfl (lv_at hl 2 rfl) ?_
          refine lv_iload_n hx hb d_RC_octets_36 rfl (lv_at hl 0 rfl) ?_
          refine lv_iushr hx hb d_RC_octets_37 rfl ?_
          refine lv_topi (fun v_4 ev_4 => ?_)
          refine lv_sipush (v := 255) hx hb d_RC_octets_38 (by decide) ?_
          refine lv_iand hx hb d_RC_octets_41 ?_
          refine lv_topi (fun v_5 ev_5 => ?_)
          have z9 : v_5 = nI (oB vv (j - 1)) := by rw [ev_5, ev_4]; exact oB_u vv (j - 1) (by omega) _ hi9
          subst z9
          refine my_cvg (wr := [(rc, Sum.inr (6, [Value.ref co, Value.ref ma, Value.int (nI k), Value.int fit, Value.int fen, Value.int frd, Value.int fbd, Value.int fir])), (co, Sum.inr (3, [Value.int xshift, Value.long xkeptCode, Value.long xkeptRange, Value.int xkeptAsked, Value.int xcache, Value.int xpending, Value.long xlow, Value.long xrange, Value.long xcode, Value.long xreadLow, Value.long xreadRange, Value.ref ri, Value.ref ro, Value.ref rw, Value.int xasked]))]) (va_runV (As := [Value.int (nI (oB vv (j - 1)))]) (rest := []) ⟨hx, hb, hml, hown, hts⟩ (f_Row_add l dC dI cI cM cO H.size (hSl H) ri ria9 rik9 rif9 b9 (oB vv (j - 1)) (hr9) (hg9) (by omega)) (cwV 1 hts (my_gV k708 k473 k474 k6 k475) rfl rfl rfl cu_Row_add_1 ⟨by rw [hR]; exact Nat.le_of_ble_eq_true rfl, by rw [hR]; exact Nat.le_of_ble_eq_true rfl⟩) (my_preVg hK hN (hP.sub [2, 3] rfl) (hD.sub [2, 3] (by decide +kernel) rfl) 0 rfl rfl) rfl rfl hl.1 rfl (lv_room (Nat.le_of_ble_eq_true rfl)) d_RC_octets_42 ⟨by rw [hR]; exact (show d9 + (rPh rik9) ≤ (rPh rik) by omega), by rw [hR]; exact (show d9 + (rPh rik9) ≤ (rPh rik) by omega)⟩) hP hD hS hA [2, 3] [0, 1] rfl rfl (by decide +kernel) (by decide +kernel) (fun u9 d_42 H locs hd_42 hw_42 hP hD hS => ?_)
          obtain ⟨rraq_42, rrkq_42, rrfq_42⟩ := u9
          obtain ⟨hrr_42, hGrr_42⟩ : rOk (nI (b9 ++ [(oB vv (j - 1))]).length) rrkq_42 ∧ gIs rrfq_42 (b9 ++ [(oB vv (j - 1))]) := hw_42
          have hd_42 : d_42 + (rPh rrkq_42) ≤ (rPh rik9) := hd_42
          have hPD : my_PD (dC, dI) vwCl A [(rc, Sum.inr (6, [Value.ref co, Value.ref ma, Value.int (nI k), Value.int fit, Value.int fen, Value.int frd, Value.int fbd, Value.int fir])), (co, Sum.inr (3, [Value.int xshift, Value.long xkeptCode, Value.long xkeptRange, Value.int xkeptAsked, Value.int xcache, Value.int xpending, Value.long xlow, Value.long xrange, Value.long xcode, Value.long xreadLow, Value.long xreadRange, Value.ref ri, Value.ref ro, Value.ref rw, Value.int xasked])), (ri, Sum.inr (0, [Value.int (nI (b9 ++ [(oB vv (j - 1))]).length), Value.ref rraq_42])), (rraq_42, Sum.inl (cI, rrkq_42, Sum.inl rrfq_42))] H := ⟨hP, hD⟩
          have hP := hPD.1
          have hD := hPD.2
          obtain ⟨v_6, ev_6⟩ : ∃ y : Int32, y = i9 + (-8) := ⟨_, rfl⟩
          refine lv_iinc (v := v_6) (lv' := [(2, Value.int v_6), (0, Value.ref rc), (1, Value.int vv)]) hx hb d_RC_octets_45 hl (k := 0) rfl (by rw [ev_6]; rfl) (by decide) rfl (fun ls hl => ?_)
          refine lv_goto (tgt := 24) hx hb d_RC_octets_48 (by decide) ?_
          exact ih9_24 _ (by first | omega | (omega)) v_6 (j - 1) (b9 ++ [oB vv (j - 1)]) rraq_42 rrkq_42 rrfq_42 (d9 + d_42) rfl (by have z9 := I_dn8 c_3 ev_6; omega) (by omega) (by rw [hb9, show j = (j - 1) + 1 by omega, List.range_succ, List.reverse_append]; simp) (by rw [List.length_append, List.length_singleton]; omega) (hrr_42) (hGrr_42) (by omega) H locs ls (hP.sub [0, 1, 2, 3] rfl) (hD.sub [0, 1, 2, 3] (by decide +kernel) rfl) hS (lv_sub hl [0, 1, 2] rfl)
    exact J_24 _ (24 : Int32) (4 : Nat) is ria rik rif (0 : Nat) rfl (by decide) (by decide) (rfl) (rfl) (hri) (hGri) (by omega) H locs ls (hP.sub [0, 1, 2, 3] rfl) (hD.sub [0, 1, 2, 3] (by decide +kernel) rfl) hS (lv_sub hl [0, 1, 2] rfl)
  · exact absurd ((nI_cmp (b := 6000) (by omega) (by decide)).mpr (by omega)) c_2
set_option maxHeartbeats 2000000 in
set_option maxRecDepth 100000 in
theorem f_RC_takeA_Bits (l : Launch) (dC : Nat → ClassId) (dI : Nat → Nat → Nat) (cI cM cO : ClassId) (sz : Nat) (rc : Nat) (ma : Nat) (k : Nat) (fit : Int32) (fen : Int32) (frd : Int32) (fbd : Int32) (fir : Int32) (mf : Nat → Option Nat) (co : Nat) (xshift : Int32) (xkeptCode : Int64) (xkeptRange : Int64) (xkeptAsked : Int32) (xcache : Int32) (xpending : Int32) (xlow : Int64) (xrange : Int64) (xcode : Int64) (xreadLow : Int64) (xreadRange : Int64) (ri : Nat) (ro : Nat) (rw : Nat) (xasked : Int32) (roa : Nat) (rok : Nat) (rof : Nat → Int32) (os : List Nat) (nn : Int32) (hro : rOk (nI os.length) rok) (hGro : gIs rof os) (hLro : os.length ≤ 8192) (hno : nn < 0 ∨ nI os.length < nn - 2) : MetI l y_RC_take (Cond.code y_RC_take prog_1_method_10_code 4 (some .int) :: gw) ({ frames := 0, cells := 0, slots := 0, locals := 0 } : Room) (dC, dI) vwCl (kT cI cM cO) [Value.ref rc, Value.int nn] [(rc, Sum.inr (6, [Value.ref co, Value.ref ma, Value.int (nI k), Value.int fit, Value.int fen, Value.int frd, Value.int fbd, Value.int fir])), (co, Sum.inr (3, [Value.int xshift, Value.long xkeptCode, Value.long xkeptRange, Value.int xkeptAsked, Value.int xcache, Value.int xpending, Value.long xlow, Value.long xrange, Value.long xcode, Value.long xreadLow, Value.long xreadRange, Value.ref ri, Value.ref ro, Value.ref rw, Value.int xasked])), (ro, Sum.inr (0, [Value.int (nI os.length), Value.ref roa])), (roa, Sum.inl (cI, rok, Sum.inl rof))] sz (fun (r : Int32) (u : Unit) => r = -2) (fun (u : Unit) => [(rc, Sum.inr (6, [Value.ref co, Value.ref ma, Value.int (nI k), Value.int fit, Value.int fen, Value.int frd, Value.int fbd, Value.int fir])), (co, Sum.inr (3, [Value.int xshift, Value.long xkeptCode, Value.long xkeptRange, Value.int xkeptAsked, Value.int xcache, Value.int xpending, Value.long xlow, Value.long xrange, Value.long xcode, Value.long xreadLow, Value.long xreadRange, Value.ref ri, Value.ref ro, Value.ref rw, Value.int xasked])), (ro, Sum.inr (0, [Value.int (nI os.length), Value.ref roa])), (roa, Sum.inl (cI, rok, Sum.inl rof))]) 0 0 := by
  refine my_ofI (cc := prog_1_method_10_code) (n := 4) (ret := (some .int)) (by decide) rfl (Nat.le_of_ble_eq_true rfl) ?_
  intro p e s m args below meth c R Q A ls H locs hx hb hr hts hown hlocks hml hnm hR hQ hA hl hP hK hN hD hS
  have hg : ∀ w ∈ gw, w.before args s = true := fun w h => hts w (List.mem_cons_of_mem _ h)
  have hown : s.vm.findClass "RangeCoders" = some m.cls := hown
  have hl : lv_has ls 4 [(0, Value.ref rc), (1, Value.int nn)] := hl
  refine lv_iload_n hx hb d_RC_take_0 rfl (lv_at hl 1 rfl) ?_
  refine lv_if_lt (tgt := 20) hx hb d_RC_take_1 (by decide) (fun c_1 => ?_) (fun c_1 => ?_)
  · refine lv_bipush (v := (-2)) hx hb d_RC_take_20 (by decide) ?_
    exact my_iret (v := (-2)) hx hb hr (rfl) hlocks hQ hK hS (Nat.le_refl _) (Nat.le_refl _) () (rfl) (hP.sub [0, 1, 2, 3] rfl) (hD.sub [0, 1, 2, 3] (by decide +kernel) rfl) d_RC_take_22
  · refine lv_iload_n hx hb d_RC_take_4 rfl (lv_at hl 1 rfl) ?_
    refine lv_iconst (v := 2) hx hb d_RC_take_5 (by decide) ?_
    refine lv_isub hx hb d_RC_take_6 ?_
    refine lv_topi (fun v_2 ev_2 => ?_)
    refine lv_aload_n hx hb d_RC_take_7 rfl (lv_at hl 0 rfl) ?_
    refine va_get (D := (dC, dI)) (ci := 6) (v := .ref co) (C := "RangeCoders") (T := T_RC) (N := 8) hx hb hg in_RC hown hK hP 0 rfl rfl 0 (by decide) (hg _ k258) (fun _ h9 => h9) rfl d_RC_take_8 ?_
    refine va_get (D := (dC, dI)) (ci := 3) (v := .ref ro) (C := "RangeCoders$Bits") (T := T_Bits) (N := 15) hx hb hg in_Bits hown hK hP 1 rfl rfl 12 (by decide) (hg _ k108) (fun _ h9 => h9) rfl d_RC_take_11 ?_
    refine va_get (D := (dC, dI)) (ci := 0) (v := .int (nI os.length)) (C := "RangeCoders$Row") (T := T_Row) (N := 2) hx hb hg in_Row hown hK hP 2 rfl rfl 0 (by decide) (hg _ k58) (fun _ h9 => h9) rfl d_RC_take_14 ?_
    refine lv_icmp_le (tgt := 23) hx hb d_RC_take_17 (by decide) (fun c_3 => ?_) (fun c_3 => ?_)
    · exact absurd hno (fun h9 => h9.elim c_1 (fun q9 => absurd (by rw [← ev_2]; exact c_3) (Int32.not_le.mpr q9)))
    · refine lv_bipush (v := (-2)) hx hb d_RC_take_20 (by decide) ?_
      exact my_iret (v := (-2)) hx hb hr (rfl) hlocks hQ hK hS (Nat.le_refl _) (Nat.le_refl _) () (rfl) (hP.sub [0, 1, 2, 3] rfl) (hD.sub [0, 1, 2, 3] (by decide +kernel) rfl) d_RC_take_22
set_option maxHeartbeats 2000000 in
set_option maxRecDepth 100000 in
theorem f_RC_takeB_Bits (l : Launch) (dC : Nat → ClassId) (dI : Nat → Nat → Nat) (cI cM cO : ClassId) (sz : Nat) (sl : Nat) (rc : Nat) (ma : Nat) (k : Nat) (fit : Int32) (fen : Int32) (frd : Int32) (fbd : Int32) (fir : Int32) (mf : Nat → Option Nat) (co : Nat) (xshift : Int32) (xkeptCode : Int64) (xkeptRange : Int64) (xkeptAsked : Int32) (xcache : Int32) (xpending : Int32) (xlow : Int64) (xrange : Int64) (xcode : Int64) (xreadLow : Int64) (xreadRange : Int64) (ri : Nat) (ro : Nat) (rw : Nat) (xasked : Int32) (roa : Nat) (rok : Nat) (rof : Nat → Int32) (os : List Nat) (rin : Int32) (ria : Nat) (rik : Nat) (rif : Nat → Int32) (nn : Int32) (ll : Nat) (hro : rOk (nI os.length) rok) (hGro : gIs rof os) (hLro : os.length ≤ 8192) (hri : rOk rin rik) (hn0 : ¬ nn < 0) (hn2 : nn - 2 ≤ nI os.length) (hll : ll ≤ os.length) (hl1 : nn = 1 → ll = os.length) (hl2 : ¬ nn = 1 → (if (0 : Int32) < nn - 2 then nn - 2 else 0) = nI ll) : MetIg l y_RC_take (Cond.code y_RC_take prog_1_method_10_code 4 (some .int) :: gw) ({ frames := 3, cells := rPh rik, slots := rPh rik, locals := 83 } : Room) (dC, dI) vwCl (kT cI cM cO) [Value.ref rc, Value.int nn] [(rc, Sum.inr (6, [Value.ref co, Value.ref ma, Value.int (nI k), Value.int fit, Value.int fen, Value.int frd, Value.int fbd, Value.int fir])), (co, Sum.inr (3, [Value.int xshift, Value.long xkeptCode, Value.long xkeptRange, Value.int xkeptAsked, Value.int xcache, Value.int xpending, Value.long xlow, Value.long xrange, Value.long xcode, Value.long xreadLow, Value.long xreadRange, Value.ref ri, Value.ref ro, Value.ref rw, Value.int xasked])), (ro, Sum.inr (0, [Value.int (nI os.length), Value.ref roa])), (roa, Sum.inl (cI, rok, Sum.inl rof)), (ri, Sum.inr (0, [Value.int rin, Value.ref ria])), (ria, Sum.inl (cI, rik, Sum.inl rif))] sz sl (fun (r : Int32) (u : Nat × Nat × (Nat → Int32)) => r = nI (os.take ll).length ∧ rOk (nI (os.take ll).length) u.2.1 ∧ gIs u.2.2 (os.take ll)) (fun (u : Nat × Nat × (Nat → Int32)) => [(rc, Sum.inr (6, [Value.ref co, Value.ref ma, Value.int (nI k), Value.int fit, Value.int fen, Value.int 0, Value.int 0, Value.int 0])), (co, Sum.inr (3, [Value.int xshift, Value.long xkeptCode, Value.long xkeptRange, Value.int xkeptAsked, Value.int xcache, Value.int xpending, Value.long xlow, Value.long xrange, Value.long xcode, Value.long xreadLow, Value.long xreadRange, Value.ref ri, Value.ref ro, Value.ref rw, Value.int xasked])), (ro, Sum.inr (0, [Value.int (nI os.length), Value.ref roa])), (roa, Sum.inl (cI, rok, Sum.inl rof)), (ri, Sum.inr (0, [Value.int (nI (os.take ll).length), Value.ref u.1])), (u.1, Sum.inl (cI, u.2.1, Sum.inl u.2.2))]) (rPh rik) (fun (u : Nat × Nat × (Nat → Int32)) => rPh u.2.1) := by
  refine my_ofIg (cc := prog_1_method_10_code) (n := 4) (ret := (some .int)) (by decide) rfl (Nat.le_of_ble_eq_true rfl) ?_
  intro p e s m args below meth c R Q A ls H locs hx hb hr hts hown hlocks hml hnm hR hQ hA hl hP hK hN hD hS
  have hg : ∀ w ∈ gw, w.before args s = true := fun w h => hts w (List.mem_cons_of_mem _ h)
  have hown : s.vm.findClass "RangeCoders" = some m.cls := hown
  have hl : lv_has ls 4 [(0, Value.ref rc), (1, Value.int nn)] := hl
  have hlti := rOk_lt hri
  have hlto := rOk_lt hro
  refine lv_iload_n hx hb d_RC_take_0 rfl (lv_at hl 1 rfl) ?_
  refine lv_if_lt (tgt := 20) hx hb d_RC_take_1 (by decide) (fun c_1 => ?_) (fun c_1 => ?_)
  · exact absurd c_1 hn0
  · refine lv_iload_n hx hb d_RC_take_4 rfl (lv_at hl 1 rfl) ?_
    refine lv_iconst (v := 2) hx hb d_RC_take_5 (by decide) ?_
    refine lv_isub hx hb d_RC_take_6 ?_
    refine lv_topi (fun v_2 ev_2 => ?_)
    refine lv_aload_n hx hb d_RC_take_7 rfl (lv_at hl 0 rfl) ?_
    refine va_get (D := (dC, dI)) (ci := 6) (v := .ref co) (C := "RangeCoders") (T := T_RC) (N := 8) hx hb hg in_RC hown hK hP 0 rfl rfl 0 (by decide) (hg _ k258) (fun _ h9 => h9) rfl d_RC_take_8 ?_
    refine va_get (D := (dC, dI)) (ci := 3) (v := .ref ro) (C := "RangeCoders$Bits") (T := T_Bits) (N := 15) hx hb hg in_Bits hown hK hP 1 rfl rfl 12 (by decide) (hg _ k108) (fun _ h9 => h9) rfl d_RC_take_11 ?_
    refine va_get (D := (dC, dI)) (ci := 0) (v := .int (nI os.length)) (C := "RangeCoders$Row") (T := T_Row) (N := 2) hx hb hg in_Row hown hK hP 2 rfl rfl 0 (by decide) (hg _ k58) (fun _ h9 => h9) rfl d_RC_take_14 ?_
    refine lv_icmp_le (tgt := 23) hx hb d_RC_take_17 (by decide) (fun c_3 => ?_) (fun c_3 => ?_)
    · refine lv_iload_n hx hb d_RC_take_23 rfl (lv_at hl 1 rfl) ?_
      refine lv_iconst (v := 1) hx hb d_RC_take_24 (by decide) ?_
      refine lv_icmp_ne (tgt := 41) hx hb d_RC_take_25 (by decide) (fun c_4 => ?_) (fun c_4 => ?_)
      · refine lv_iconst (v := 0) hx hb d_RC_take_41 (by decide) ?_
        refine lv_iload_n hx hb d_RC_take_42 rfl (lv_at hl 1 rfl) ?_
        refine lv_iconst (v := 2) hx hb d_RC_take_43 (by decide) ?_
        refine lv_isub hx hb d_RC_take_44 ?_
        refine lv_topi (fun v_5 ev_5 => ?_)
        refine va_mmax hx hb (by rw [hml]; exact hl.1.symm) hown (hg _ k33) (hg _ k34) (hg _ k2) (hg _ k35) (by rw [hR]; exact Nat.le_of_ble_eq_true rfl) (by rw [hR]; exact Nat.le_of_ble_eq_true rfl) (Nat.zero_le _) (Nat.zero_le _) d_RC_take_45 ?_
        refine lv_topi (fun v_6 ev_6 => ?_)
        have z9 : v_6 = nI ll := by rw [← hl2 c_4]; subst_vars; rfl
        subst z9
        refine lv_istore_n (lv' := [(2, Value.int (nI ll)), (0, Value.ref rc), (1, Value.int nn)]) hx hb d_RC_take_48 rfl hl (by decide) rfl (fun ls hl => ?_)
        refine lv_aload_n hx hb d_RC_take_49 rfl (lv_at hl 1 rfl) ?_
        refine va_get (D := (dC, dI)) (ci := 6) (v := .ref co) (C := "RangeCoders") (T := T_RC) (N := 8) hx hb hg in_RC hown hK hP 0 rfl rfl 0 (by decide) (hg _ k258) (fun _ h9 => h9) rfl d_RC_take_50 ?_
        refine va_get (D := (dC, dI)) (ci := 3) (v := .ref ri) (C := "RangeCoders$Bits") (T := T_Bits) (N := 15) hx hb hg in_Bits hown hK hP 1 rfl rfl 11 (by decide) (hg _ k102) (fun _ h9 => h9) rfl d_RC_take_53 ?_
        refine my_cv (wr := [(rc, Sum.inr (6, [Value.ref co, Value.ref ma, Value.int (nI k), Value.int fit, Value.int fen, Value.int frd, Value.int fbd, Value.int fir])), (co, Sum.inr (3, [Value.int xshift, Value.long xkeptCode, Value.long xkeptRange, Value.int xkeptAsked, Value.int xcache, Value.int xpending, Value.long xlow, Value.long xrange, Value.long xcode, Value.long xreadLow, Value.long xreadRange, Value.ref ri, Value.ref ro, Value.ref rw, Value.int xasked])), (ro, Sum.inr (0, [Value.int (nI os.length), Value.ref roa])), (roa, Sum.inl (cI, rok, Sum.inl rof))]) (va_runV (As := []) (rest := []) ⟨hx, hb, hml, hown, hts⟩ (c_Row_clear l dC dI cI cM cO H.size ri rin ria rik rif (hri)) (cwV 0 hts (my_gV k713 k594 k595 k6 k596) rfl rfl rfl cu_Row_clear_0 ⟨by rw [hR]; exact Nat.le_of_ble_eq_true rfl, by rw [hR]; exact Nat.le_of_ble_eq_true rfl⟩) (my_preV hK hN (hP.sub [4, 5] rfl) (hD.sub [4, 5] (by decide +kernel) rfl) 0 rfl rfl) rfl rfl hl.1 rfl (lv_room (Nat.le_of_ble_eq_true rfl)) d_RC_take_56 ⟨by rw [hR]; exact (show 0 + 0 ≤ (rPh rik) by omega), by rw [hR]; exact (show 0 + 0 ≤ (rPh rik) by omega)⟩) hP hD hS hA [4, 5] [0, 1, 2, 3] rfl rfl (by decide +kernel) (by decide +kernel) (fun u9 H locs hw_56 hP hD hS => ?_)
        have hr_56 : rOk 0 rik := hw_56
        have hPD : my_PD (dC, dI) vwCl A [(rc, Sum.inr (6, [Value.ref co, Value.ref ma, Value.int (nI k), Value.int fit, Value.int fen, Value.int frd, Value.int fbd, Value.int fir])), (co, Sum.inr (3, [Value.int xshift, Value.long xkeptCode, Value.long xkeptRange, Value.int xkeptAsked, Value.int xcache, Value.int xpending, Value.long xlow, Value.long xrange, Value.long xcode, Value.long xreadLow, Value.long xreadRange, Value.ref ri, Value.ref ro, Value.ref rw, Value.int xasked])), (ro, Sum.inr (0, [Value.int (nI os.length), Value.ref roa])), (roa, Sum.inl (cI, rok, Sum.inl rof)), (ri, Sum.inr (0, [Value.int 0, Value.ref ria])), (ria, Sum.inl (cI, rik, Sum.inl rif))] H := ⟨hP, hD⟩
        have hP := hPD.1
        have hD := hPD.2
        refine lv_iconst (v := 0) hx hb d_RC_take_59 (by decide) ?_
        refine lv_istore_n (lv' := [(3, Value.int 0), (2, Value.int (nI ll)), (0, Value.ref rc), (1, Value.int nn)]) hx hb d_RC_take_60 rfl hl (by decide) rfl (fun ls hl => ?_)
        have J_61 : ∀ (n9_61 : Nat) (j : Nat) (b9 : List Nat) (ria9 : Nat) (rik9 : Nat) (rif9 : Nat → Int32) (d9 : Nat) (hn9_61 : ll - j = n9_61) (hj : j ≤ ll) (hb9 : b9 = os.take j) (hr9 : rOk (nI b9.length) rik9) (hg9 : gIs rif9 b9) (hd9 : d9 + rPh rik9 ≤ rPh rik) (H : Heap) (locs : List Loc) (ls : Array Slot), va_P (dC, dI) vwCl [(rc, Sum.inr (6, [Value.ref co, Value.ref ma, Value.int (nI k), Value.int fit, Value.int fen, Value.int frd, Value.int fbd, Value.int fir])), (co, Sum.inr (3, [Value.int xshift, Value.long xkeptCode, Value.long xkeptRange, Value.int xkeptAsked, Value.int xcache, Value.int xpending, Value.long xlow, Value.long xrange, Value.long xcode, Value.long xreadLow, Value.long xreadRange, Value.ref ri, Value.ref ro, Value.ref rw, Value.int xasked])), (ro, Sum.inr (0, [Value.int (nI os.length), Value.ref roa])), (roa, Sum.inl (cI, rok, Sum.inl rof)), (ri, Sum.inr (0, [Value.int (nI b9.length), Value.ref ria9])), (ria9, Sum.inl (cI, rik9, Sum.inl rif9))] H → va_D A [(rc, Sum.inr (6, [Value.ref co, Value.ref ma, Value.int (nI k), Value.int fit, Value.int fen, Value.int frd, Value.int fbd, Value.int fir])), (co, Sum.inr (3, [Value.int xshift, Value.long xkeptCode, Value.long xkeptRange, Value.int xkeptAsked, Value.int xcache, Value.int xpending, Value.long xlow, Value.long xrange, Value.long xcode, Value.long xreadLow, Value.long xreadRange, Value.ref ri, Value.ref ro, Value.ref rw, Value.int xasked])), (ro, Sum.inr (0, [Value.int (nI os.length), Value.ref roa])), (roa, Sum.inl (cI, rok, Sum.inl rof)), (ri, Sum.inr (0, [Value.int (nI b9.length), Value.ref ria9])), (ria9, Sum.inl (cI, rik9, Sum.inl rif9))] → va_S A s.heap H locs → lv_has ls 4 [(3, Value.int (nI j)), (2, Value.int (nI ll)), (0, Value.ref rc), (1, Value.int nn)] → W p l e R s m args below meth c H locs d9 d9 Q (F0 m 61 ls []) := by
          intro n9_61
          induction n9_61 using Nat.strongRecOn with
          | ind n9_61 ih9_61 =>
            intro j b9 ria9 rik9 rif9 d9 hn9_61 hj hb9 hr9 hg9 hd9 H locs ls hP hD hS hl
            have hbl : b9.length = j := by rw [hb9, List.length_take]; omega
            refine lv_iload_n hx hb d_RC_take_61 rfl (lv_at hl 0 rfl) ?_
            refine lv_iload_n hx hb d_RC_take_62 rfl (lv_at hl 1 rfl) ?_
            refine lv_icmp_ge (tgt := 93) hx hb d_RC_take_63 (by decide) (fun c_7 => ?_) (fun c_7 => ?_)
            · have hj3 : ll = j := by have := nI_ge' (by omega) (by omega) c_7; omega
              subst hj3
              have hPD : my_PD (dC, dI) vwCl A [(rc, Sum.inr (6, [Value.ref co, Value.ref ma, Value.int (nI k), Value.int fit, Value.int fen, Value.int frd, Value.int fbd, Value.int fir])), (co, Sum.inr (3, [Value.int xshift, Value.long xkeptCode, Value.long xkeptRange, Value.int xkeptAsked, Value.int xcache, Value.int xpending, Value.long xlow, Value.long xrange, Value.long xcode, Value.long xreadLow, Value.long xreadRange, Value.ref ri, Value.ref ro, Value.ref rw, Value.int xasked])), (ro, Sum.inr (0, [Value.int (nI os.length), Value.ref roa])), (roa, Sum.inl (cI, rok, Sum.inl rof)), (ri, Sum.inr (0, [Value.int (nI b9.length), Value.ref ria9])), (ria9, Sum.inl (cI, rik9, Sum.inl rif9))] H := ⟨hP, hD⟩
              have hP := hPD.1
              have hD := hPD.2
              have z9 : b9 = os.take ll := hb9
              subst z9
              refine lv_aload_n hx hb d_RC_take_93 rfl (lv_at hl 2 rfl) ?_
              refine lv_iconst (v := 0) hx hb d_RC_take_94 (by decide) ?_
              refine va_put (D := (dC, dI)) (ci := 6) (v := .int 0) (ty := .boolean) (C := "RangeCoders") (T := T_RC) (N := 8) hx hb hg in_RC t_RC o_RC n_RC hown hK hP hD hS 0 rfl rfl 5 (by decide) (hg _ k263) (fun _ h9 => h9) rfl (o_RC 5 (by decide)) rfl rfl (Nat.le_of_ble_eq_true rfl) d_RC_take_95 (fun H locs hP hD hS => ?_)
              have hPD : my_PD (dC, dI) vwCl A [(rc, Sum.inr (6, [Value.ref co, Value.ref ma, Value.int (nI k), Value.int fit, Value.int fen, Value.int 0, Value.int fbd, Value.int fir])), (co, Sum.inr (3, [Value.int xshift, Value.long xkeptCode, Value.long xkeptRange, Value.int xkeptAsked, Value.int xcache, Value.int xpending, Value.long xlow, Value.long xrange, Value.long xcode, Value.long xreadLow, Value.long xreadRange, Value.ref ri, Value.ref ro, Value.ref rw, Value.int xasked])), (ro, Sum.inr (0, [Value.int (nI os.length), Value.ref roa])), (roa, Sum.inl (cI, rok, Sum.inl rof)), (ri, Sum.inr (0, [Value.int (nI (os.take ll).length), Value.ref ria9])), (ria9, Sum.inl (cI, rik9, Sum.inl rif9))] H := ⟨hP, hD⟩
              have hP := hPD.1
              have hD := hPD.2
              refine lv_aload_n hx hb d_RC_take_98 rfl (lv_at hl 2 rfl) ?_
              refine lv_iconst (v := 0) hx hb d_RC_take_99 (by decide) ?_
              refine va_put (D := (dC, dI)) (ci := 6) (v := .int 0) (ty := .boolean) (C := "RangeCoders") (T := T_RC) (N := 8) hx hb hg in_RC t_RC o_RC n_RC hown hK hP hD hS 0 rfl rfl 6 (by decide) (hg _ k264) (fun _ h9 => h9) rfl (o_RC 6 (by decide)) rfl rfl (Nat.le_of_ble_eq_true rfl) d_RC_take_100 (fun H locs hP hD hS => ?_)
              have hPD : my_PD (dC, dI) vwCl A [(rc, Sum.inr (6, [Value.ref co, Value.ref ma, Value.int (nI k), Value.int fit, Value.int fen, Value.int 0, Value.int 0, Value.int fir])), (co, Sum.inr (3, [Value.int xshift, Value.long xkeptCode, Value.long xkeptRange, Value.int xkeptAsked, Value.int xcache, Value.int xpending, Value.long xlow, Value.long xrange, Value.long xcode, Value.long xreadLow, Value.long xreadRange, Value.ref ri, Value.ref ro, Value.ref rw, Value.int xasked])), (ro, Sum.inr (0, [Value.int (nI os.length), Value.ref roa])), (roa, Sum.inl (cI, rok, Sum.inl rof)), (ri, Sum.inr (0, [Value.int (nI (os.take ll).length), Value.ref ria9])), (ria9, Sum.inl (cI, rik9, Sum.inl rif9))] H := ⟨hP, hD⟩
              have hP := hPD.1
              have hD := hPD.2
              refine lv_aload_n hx hb d_RC_take_103 rfl (lv_at hl 2 rfl) ?_
              refine lv_iconst (v := 0) hx hb d_RC_take_104 (by decide) ?_
              refine va_put (D := (dC, dI)) (ci := 6) (v := .int 0) (ty := .int) (C := "RangeCoders") (T := T_RC) (N := 8) hx hb hg in_RC t_RC o_RC n_RC hown hK hP hD hS 0 rfl rfl 7 (by decide) (hg _ k265) (fun _ h9 => h9) rfl (o_RC 7 (by decide)) rfl rfl (Nat.le_of_ble_eq_true rfl) d_RC_take_105 (fun H locs hP hD hS => ?_)
              have hPD : my_PD (dC, dI) vwCl A [(rc, Sum.inr (6, [Value.ref co, Value.ref ma, Value.int (nI k), Value.int fit, Value.int fen, Value.int 0, Value.int 0, Value.int 0])), (co, Sum.inr (3, [Value.int xshift, Value.long xkeptCode, Value.long xkeptRange, Value.int xkeptAsked, Value.int xcache, Value.int xpending, Value.long xlow, Value.long xrange, Value.long xcode, Value.long xreadLow, Value.long xreadRange, Value.ref ri, Value.ref ro, Value.ref rw, Value.int xasked])), (ro, Sum.inr (0, [Value.int (nI os.length), Value.ref roa])), (roa, Sum.inl (cI, rok, Sum.inl rof)), (ri, Sum.inr (0, [Value.int (nI (os.take ll).length), Value.ref ria9])), (ria9, Sum.inl (cI, rik9, Sum.inl rif9))] H := ⟨hP, hD⟩
              have hP := hPD.1
              have hD := hPD.2
              refine lv_aload_n hx hb d_RC_take_108 rfl (lv_at hl 2 rfl) ?_
              refine va_get (D := (dC, dI)) (ci := 6) (v := .ref co) (C := "RangeCoders") (T := T_RC) (N := 8) hx hb hg in_RC hown hK hP 0 rfl rfl 0 (by decide) (hg _ k258) (fun _ h9 => h9) rfl d_RC_take_109 ?_
              refine va_get (D := (dC, dI)) (ci := 3) (v := .ref ri) (C := "RangeCoders$Bits") (T := T_Bits) (N := 15) hx hb hg in_Bits hown hK hP 1 rfl rfl 11 (by decide) (hg _ k102) (fun _ h9 => h9) rfl d_RC_take_112 ?_
              refine va_get (D := (dC, dI)) (ci := 0) (v := .int (nI (os.take ll).length)) (C := "RangeCoders$Row") (T := T_Row) (N := 2) hx hb hg in_Row hown hK hP 4 rfl rfl 0 (by decide) (hg _ k58) (fun _ h9 => h9) rfl d_RC_take_115 ?_
              exact my_iretg (v := nI (os.take ll).length) hx hb hr (rfl) hlocks hQ hK hS (ria9, rik9, rif9) (show d9 + (rPh rik9) ≤ (rPh rik) by omega) (show d9 + (rPh rik9) ≤ (rPh rik) by omega) (⟨rfl, hr9, hg9⟩) (hP.sub [0, 1, 2, 3, 4, 5] rfl) (hD.sub [0, 1, 2, 3, 4, 5] (by decide +kernel) rfl) d_RC_take_118
            · have hj2 : j < ll := nI_lt' (by omega) c_7
              refine lv_aload_n hx hb d_RC_take_66 rfl (lv_at hl 2 rfl) ?_
              refine va_get (D := (dC, dI)) (ci := 6) (v := .ref co) (C := "RangeCoders") (T := T_RC) (N := 8) hx hb hg in_RC hown hK hP 0 rfl rfl 0 (by decide) (hg _ k258) (fun _ h9 => h9) rfl d_RC_take_67 ?_
              refine va_get (D := (dC, dI)) (ci := 3) (v := .ref ri) (C := "RangeCoders$Bits") (T := T_Bits) (N := 15) hx hb hg in_Bits hown hK hP 1 rfl rfl 11 (by decide) (hg _ k102) (fun _ h9 => h9) rfl d_RC_take_70 ?_
              refine lv_aload_n hx hb d_RC_take_73 rfl (lv_at hl 2 rfl) ?_
              refine va_get (D := (dC, dI)) (ci := 6) (v := .ref co) (C := "RangeCoders") (T := T_RC) (N := 8) hx hb hg in_RC hown hK hP 0 rfl rfl 0 (by decide) (hg _ k258) (fun _ h9 => h9) rfl d_RC_take_74 ?_
              refine va_get (D := (dC, dI)) (ci := 3) (v := .ref ro) (C := "RangeCoders$Bits") (T := T_Bits) (N := 15) hx hb hg in_Bits hown hK hP 1 rfl rfl 12 (by decide) (hg _ k108) (fun _ h9 => h9) rfl d_RC_take_77 ?_
              refine lv_iload_n hx hb d_RC_take_80 rfl (lv_at hl 0 rfl) ?_
              refine my_ci (wr := [(rc, Sum.inr (6, [Value.ref co, Value.ref ma, Value.int (nI k), Value.int fit, Value.int fen, Value.int frd, Value.int fbd, Value.int fir])), (co, Sum.inr (3, [Value.int xshift, Value.long xkeptCode, Value.long xkeptRange, Value.int xkeptAsked, Value.int xcache, Value.int xpending, Value.long xlow, Value.long xrange, Value.long xcode, Value.long xreadLow, Value.long xreadRange, Value.ref ri, Value.ref ro, Value.ref rw, Value.int xasked])), (ri, Sum.inr (0, [Value.int (nI b9.length), Value.ref ria9])), (ria9, Sum.inl (cI, rik9, Sum.inl rif9))]) (va_runV (As := [Value.int (nI j)]) (rest := [Value.ref ri]) ⟨hx, hb, hml, hown, hts⟩ (f_Row_at l dC dI cI cM cO H.size ro roa rok rof os (nI j) (hro) (hGro) (hLro)) (cwV 1 hts (my_gV k703 k659 k660 k6 k661) rfl rfl rfl cu_Row_at_1 ⟨by rw [hR]; exact Nat.le_of_ble_eq_true rfl, by rw [hR]; exact Nat.le_of_ble_eq_true rfl⟩) (my_preV hK hN (hP.sub [2, 3] rfl) (hD.sub [2, 3] (by decide +kernel) rfl) 0 rfl rfl) rfl rfl hl.1 rfl (lv_room (Nat.le_of_ble_eq_true rfl)) d_RC_take_81 ⟨by rw [hR]; exact (show d9 + 0 ≤ (rPh rik) by omega), by rw [hR]; exact (show d9 + 0 ≤ (rPh rik) by omega)⟩) hP hD hS hA [2, 3] [0, 1, 4, 5] rfl rfl (by decide +kernel) (by decide +kernel) (fun r_81 u9 H locs hw_81 hP hD hS => ?_)
              have hr_81 : r_81 = rAt os (nI j) := hw_81
              have hPD : my_PD (dC, dI) vwCl A [(rc, Sum.inr (6, [Value.ref co, Value.ref ma, Value.int (nI k), Value.int fit, Value.int fen, Value.int frd, Value.int fbd, Value.int fir])), (co, Sum.inr (3, [Value.int xshift, Value.long xkeptCode, Value.long xkeptRange, Value.int xkeptAsked, Value.int xcache, Value.int xpending, Value.long xlow, Value.long xrange, Value.long xcode, Value.long xreadLow, Value.long xreadRange, Value.ref ri, Value.ref ro, Value.ref rw, Value.int xasked])), (ri, Sum.inr (0, [Value.int (nI b9.length), Value.ref ria9])), (ria9, Sum.inl (cI, rik9, Sum.inl rif9)), (ro, Sum.inr (0, [Value.int (nI os.length), Value.ref roa])), (roa, Sum.inl (cI, rok, Sum.inl rof))] H := ⟨hP, hD⟩
              have hP := hPD.1
              have hD := hPD.2
              have z9 : r_81 = nI (os.getD j 0) := by rw [hr_81]; exact rAt_nI (by omega) (by omega)
              subst z9
              refine my_cvg (wr := [(rc, Sum.inr (6, [Value.ref co, Value.ref ma, Value.int (nI k), Value.int fit, Value.int fen, Value.int frd, Value.int fbd, Value.int fir])), (co, Sum.inr (3, [Value.int xshift, Value.long xkeptCode, Value.long xkeptRange, Value.int xkeptAsked, Value.int xcache, Value.int xpending, Value.long xlow, Value.long xrange, Value.long xcode, Value.long xreadLow, Value.long xreadRange, Value.ref ri, Value.ref ro, Value.ref rw, Value.int xasked])), (ro, Sum.inr (0, [Value.int (nI os.length), Value.ref roa])), (roa, Sum.inl (cI, rok, Sum.inl rof))]) (va_runV (As := [Value.int (nI (os.getD j 0))]) (rest := []) ⟨hx, hb, hml, hown, hts⟩ (f_Row_add l dC dI cI cM cO H.size (hSl H) ri ria9 rik9 rif9 b9 (os.getD j 0) (hr9) (hg9) (by omega)) (cwV 1 hts (my_gV k708 k473 k474 k6 k475) rfl rfl rfl cu_Row_add_1 ⟨by rw [hR]; exact Nat.le_of_ble_eq_true rfl, by rw [hR]; exact Nat.le_of_ble_eq_true rfl⟩) (my_preVg hK hN (hP.sub [2, 3] rfl) (hD.sub [2, 3] (by decide +kernel) rfl) 0 rfl rfl) rfl rfl hl.1 rfl (lv_room (Nat.le_of_ble_eq_true rfl)) d_RC_take_84 ⟨by rw [hR]; exact (show d9 + (rPh rik9) ≤ (rPh rik) by omega), by rw [hR]; exact (show d9 + (rPh rik9) ≤ (rPh rik) by omega)⟩) hP hD hS hA [2, 3] [0, 1, 4, 5] rfl rfl (by decide +kernel) (by decide +kernel) (fun u9 d_84 H locs hd_84 hw_84 hP hD hS => ?_)
              obtain ⟨rraq_84, rrkq_84, rrfq_84⟩ := u9
              obtain ⟨hrr_84, hGrr_84⟩ : rOk (nI (b9 ++ [(os.getD j 0)]).length) rrkq_84 ∧ gIs rrfq_84 (b9 ++ [(os.getD j 0)]) := hw_84
              have hd_84 : d_84 + (rPh rrkq_84) ≤ (rPh rik9) := hd_84
              have hPD : my_PD (dC, dI) vwCl A [(rc, Sum.inr (6, [Value.ref co, Value.ref ma, Value.int (nI k), Value.int fit, Value.int fen, Value.int frd, Value.int fbd, Value.int fir])), (co, Sum.inr (3, [Value.int xshift, Value.long xkeptCode, Value.long xkeptRange, Value.int xkeptAsked, Value.int xcache, Value.int xpending, Value.long xlow, Value.long xrange, Value.long xcode, Value.long xreadLow, Value.long xreadRange, Value.ref ri, Value.ref ro, Value.ref rw, Value.int xasked])), (ro, Sum.inr (0, [Value.int (nI os.length), Value.ref roa])), (roa, Sum.inl (cI, rok, Sum.inl rof)), (ri, Sum.inr (0, [Value.int (nI (b9 ++ [(os.getD j 0)]).length), Value.ref rraq_84])), (rraq_84, Sum.inl (cI, rrkq_84, Sum.inl rrfq_84))] H := ⟨hP, hD⟩
              have hP := hPD.1
              have hD := hPD.2
              obtain ⟨v_8, ev_8⟩ : ∃ y : Int32, y = (nI j) + (1) := ⟨_, rfl⟩
              refine lv_iinc (v := v_8) (lv' := [(3, Value.int v_8), (2, Value.int (nI ll)), (0, Value.ref rc), (1, Value.int nn)]) hx hb d_RC_take_87 hl (k := 0) rfl (by rw [ev_8]; rfl) (by decide) rfl (fun ls hl => ?_)
              have z9 : v_8 = nI (j + 1) := by rw [ev_8]; exact nI_1 _
              subst z9
              refine lv_goto (tgt := 61) hx hb d_RC_take_90 (by decide) ?_
              exact ih9_61 _ (by first | omega | (omega)) (j + 1) (b9 ++ [os.getD j 0]) rraq_84 rrkq_84 rrfq_84 (d9 + d_84) rfl (by omega) (by rw [hb9]; exact tk_st (by omega)) (hrr_84) (hGrr_84) (by omega) H locs ls (hP.sub [0, 1, 2, 3, 4, 5] rfl) (hD.sub [0, 1, 2, 3, 4, 5] (by decide +kernel) rfl) hS (lv_sub hl [0, 1, 2, 3] rfl)
        exact J_61 _ (0 : Nat) ([]) ria rik rif (0 : Nat) rfl (Nat.zero_le _) (rfl) (hr_56) (fun i h => absurd h (Nat.not_lt_zero i)) (by omega) H locs ls (hP.sub [0, 1, 2, 3, 4, 5] rfl) (hD.sub [0, 1, 2, 3, 4, 5] (by decide +kernel) rfl) hS (lv_sub hl [0, 1, 2, 3] rfl)
      · refine lv_aload_n hx hb d_RC_take_28 rfl (lv_at hl 0 rfl) ?_
        refine va_get (D := (dC, dI)) (ci := 6) (v := .ref co) (C := "RangeCoders") (T := T_RC) (N := 8) hx hb hg in_RC hown hK hP 0 rfl rfl 0 (by decide) (hg _ k258) (fun _ h9 => h9) rfl d_RC_take_29 ?_
        refine va_get (D := (dC, dI)) (ci := 3) (v := .ref ro) (C := "RangeCoders$Bits") (T := T_Bits) (N := 15) hx hb hg in_Bits hown hK hP 1 rfl rfl 12 (by decide) (hg _ k108) (fun _ h9 => h9) rfl d_RC_take_32 ?_
        refine va_get (D := (dC, dI)) (ci := 0) (v := .int (nI os.length)) (C := "RangeCoders$Row") (T := T_Row) (N := 2) hx hb hg in_Row hown hK hP 2 rfl rfl 0 (by decide) (hg _ k58) (fun _ h9 => h9) rfl d_RC_take_35 ?_
        refine lv_goto (tgt := 48) hx hb d_RC_take_38 (by decide) ?_
        refine W.eq (g2 := F0 m 48 ls [Value.int (nI ll)]) (by rw [hl1 c_4]) ?_
        refine lv_istore_n (lv' := [(2, Value.int (nI ll)), (0, Value.ref rc), (1, Value.int nn)]) hx hb d_RC_take_48 rfl hl (by decide) rfl (fun ls hl => ?_)
        refine lv_aload_n hx hb d_RC_take_49 rfl (lv_at hl 1 rfl) ?_
        refine va_get (D := (dC, dI)) (ci := 6) (v := .ref co) (C := "RangeCoders") (T := T_RC) (N := 8) hx hb hg in_RC hown hK hP 0 rfl rfl 0 (by decide) (hg _ k258) (fun _ h9 => h9) rfl d_RC_take_50 ?_
        refine va_get (D := (dC, dI)) (ci := 3) (v := .ref ri) (C := "RangeCoders$Bits") (T := T_Bits) (N := 15) hx hb hg in_Bits hown hK hP 1 rfl rfl 11 (by decide) (hg _ k102) (fun _ h9 => h9) rfl d_RC_take_53 ?_
        refine my_cv (wr := [(rc, Sum.inr (6, [Value.ref co, Value.ref ma, Value.int (nI k), Value.int fit, Value.int fen, Value.int frd, Value.int fbd, Value.int fir])), (co, Sum.inr (3, [Value.int xshift, Value.long xkeptCode, Value.long xkeptRange, Value.int xkeptAsked, Value.int xcache, Value.int xpending, Value.long xlow, Value.long xrange, Value.long xcode, Value.long xreadLow, Value.long xreadRange, Value.ref ri, Value.ref ro, Value.ref rw, Value.int xasked])), (ro, Sum.inr (0, [Value.int (nI os.length), Value.ref roa])), (roa, Sum.inl (cI, rok, Sum.inl rof))]) (va_runV (As := []) (rest := []) ⟨hx, hb, hml, hown, hts⟩ (c_Row_clear l dC dI cI cM cO H.size ri rin ria rik rif (hri)) (cwV 0 hts (my_gV k713 k594 k595 k6 k596) rfl rfl rfl cu_Row_clear_0 ⟨by rw [hR]; exact Nat.le_of_ble_eq_true rfl, by rw [hR]; exact Nat.le_of_ble_eq_true rfl⟩) (my_preV hK hN (hP.sub [4, 5] rfl) (hD.sub [4, 5] (by decide +kernel) rfl) 0 rfl rfl) rfl rfl hl.1 rfl (lv_room (Nat.le_of_ble_eq_true rfl)) d_RC_take_56 ⟨by rw [hR]; exact (show 0 + 0 ≤ (rPh rik) by omega), by rw [hR]; exact (show 0 + 0 ≤ (rPh rik) by omega)⟩) hP hD hS hA [4, 5] [0, 1, 2, 3] rfl rfl (by decide +kernel) (by decide +kernel) (fun u9 H locs hw_56 hP hD hS => ?_)
        have hr_56 : rOk 0 rik := hw_56
        have hPD : my_PD (dC, dI) vwCl A [(rc, Sum.inr (6, [Value.ref co, Value.ref ma, Value.int (nI k), Value.int fit, Value.int fen, Value.int frd, Value.int fbd, Value.int fir])), (co, Sum.inr (3, [Value.int xshift, Value.long xkeptCode, Value.long xkeptRange, Value.int xkeptAsked, Value.int xcache, Value.int xpending, Value.long xlow, Value.long xrange, Value.long xcode, Value.long xreadLow, Value.long xreadRange, Value.ref ri, Value.ref ro, Value.ref rw, Value.int xasked])), (ro, Sum.inr (0, [Value.int (nI os.length), Value.ref roa])), (roa, Sum.inl (cI, rok, Sum.inl rof)), (ri, Sum.inr (0, [Value.int 0, Value.ref ria])), (ria, Sum.inl (cI, rik, Sum.inl rif))] H := ⟨hP, hD⟩
        have hP := hPD.1
        have hD := hPD.2
        refine lv_iconst (v := 0) hx hb d_RC_take_59 (by decide) ?_
        refine lv_istore_n (lv' := [(3, Value.int 0), (2, Value.int (nI ll)), (0, Value.ref rc), (1, Value.int nn)]) hx hb d_RC_take_60 rfl hl (by decide) rfl (fun ls hl => ?_)
        have J_61 : ∀ (n9_61 : Nat) (j : Nat) (b9 : List Nat) (ria9 : Nat) (rik9 : Nat) (rif9 : Nat → Int32) (d9 : Nat) (hn9_61 : ll - j = n9_61) (hj : j ≤ ll) (hb9 : b9 = os.take j) (hr9 : rOk (nI b9.length) rik9) (hg9 : gIs rif9 b9) (hd9 : d9 + rPh rik9 ≤ rPh rik) (H : Heap) (locs : List Loc) (ls : Array Slot), va_P (dC, dI) vwCl [(rc, Sum.inr (6, [Value.ref co, Value.ref ma, Value.int (nI k), Value.int fit, Value.int fen, Value.int frd, Value.int fbd, Value.int fir])), (co, Sum.inr (3, [Value.int xshift, Value.long xkeptCode, Value.long xkeptRange, Value.int xkeptAsked, Value.int xcache, Value.int xpending, Value.long xlow, Value.long xrange, Value.long xcode, Value.long xreadLow, Value.long xreadRange, Value.ref ri, Value.ref ro, Value.ref rw, Value.int xasked])), (ro, Sum.inr (0, [Value.int (nI os.length), Value.ref roa])), (roa, Sum.inl (cI, rok, Sum.inl rof)), (ri, Sum.inr (0, [Value.int (nI b9.length), Value.ref ria9])), (ria9, Sum.inl (cI, rik9, Sum.inl rif9))] H → va_D A [(rc, Sum.inr (6, [Value.ref co, Value.ref ma, Value.int (nI k), Value.int fit, Value.int fen, Value.int frd, Value.int fbd, Value.int fir])), (co, Sum.inr (3, [Value.int xshift, Value.long xkeptCode, Value.long xkeptRange, Value.int xkeptAsked, Value.int xcache, Value.int xpending, Value.long xlow, Value.long xrange, Value.long xcode, Value.long xreadLow, Value.long xreadRange, Value.ref ri, Value.ref ro, Value.ref rw, Value.int xasked])), (ro, Sum.inr (0, [Value.int (nI os.length), Value.ref roa])), (roa, Sum.inl (cI, rok, Sum.inl rof)), (ri, Sum.inr (0, [Value.int (nI b9.length), Value.ref ria9])), (ria9, Sum.inl (cI, rik9, Sum.inl rif9))] → va_S A s.heap H locs → lv_has ls 4 [(3, Value.int (nI j)), (2, Value.int (nI ll)), (0, Value.ref rc), (1, Value.int nn)] → W p l e R s m args below meth c H locs d9 d9 Q (F0 m 61 ls []) := by
          intro n9_61
          induction n9_61 using Nat.strongRecOn with
          | ind n9_61 ih9_61 =>
            intro j b9 ria9 rik9 rif9 d9 hn9_61 hj hb9 hr9 hg9 hd9 H locs ls hP hD hS hl
            have hbl : b9.length = j := by rw [hb9, List.length_take]; omega
            refine lv_iload_n hx hb d_RC_take_61 rfl (lv_at hl 0 rfl) ?_
            refine lv_iload_n hx hb d_RC_take_62 rfl (lv_at hl 1 rfl) ?_
            refine lv_icmp_ge (tgt := 93) hx hb d_RC_take_63 (by decide) (fun c_9 => ?_) (fun c_9 => ?_)
            · have hj3 : ll = j := by have := nI_ge' (by omega) (by omega) c_9; omega
              subst hj3
              have hPD : my_PD (dC, dI) vwCl A [(rc, Sum.inr (6, [Value.ref co, Value.ref ma, Value.int (nI k), Value.int fit, Value.int fen, Value.int frd, Value.int fbd, Value.int fir])), (co, Sum.inr (3, [Value.int xshift, Value.long xkeptCode, Value.long xkeptRange, Value.int xkeptAsked, Value.int xcache, Value.int xpending, Value.long xlow, Value.long xrange, Value.long xcode, Value.long xreadLow, Value.long xreadRange, Value.ref ri, Value.ref ro, Value.ref rw, Value.int xasked])), (ro, Sum.inr (0, [Value.int (nI os.length), Value.ref roa])), (roa, Sum.inl (cI, rok, Sum.inl rof)), (ri, Sum.inr (0, [Value.int (nI b9.length), Value.ref ria9])), (ria9, Sum.inl (cI, rik9, Sum.inl rif9))] H := ⟨hP, hD⟩
              have hP := hPD.1
              have hD := hPD.2
              have z9 : b9 = os.take ll := hb9
              subst z9
              refine lv_aload_n hx hb d_RC_take_93 rfl (lv_at hl 2 rfl) ?_
              refine lv_iconst (v := 0) hx hb d_RC_take_94 (by decide) ?_
              refine va_put (D := (dC, dI)) (ci := 6) (v := .int 0) (ty := .boolean) (C := "RangeCoders") (T := T_RC) (N := 8) hx hb hg in_RC t_RC o_RC n_RC hown hK hP hD hS 0 rfl rfl 5 (by decide) (hg _ k263) (fun _ h9 => h9) rfl (o_RC 5 (by decide)) rfl rfl (Nat.le_of_ble_eq_true rfl) d_RC_take_95 (fun H locs hP hD hS => ?_)
              have hPD : my_PD (dC, dI) vwCl A [(rc, Sum.inr (6, [Value.ref co, Value.ref ma, Value.int (nI k), Value.int fit, Value.int fen, Value.int 0, Value.int fbd, Value.int fir])), (co, Sum.inr (3, [Value.int xshift, Value.long xkeptCode, Value.long xkeptRange, Value.int xkeptAsked, Value.int xcache, Value.int xpending, Value.long xlow, Value.long xrange, Value.long xcode, Value.long xreadLow, Value.long xreadRange, Value.ref ri, Value.ref ro, Value.ref rw, Value.int xasked])), (ro, Sum.inr (0, [Value.int (nI os.length), Value.ref roa])), (roa, Sum.inl (cI, rok, Sum.inl rof)), (ri, Sum.inr (0, [Value.int (nI (os.take ll).length), Value.ref ria9])), (ria9, Sum.inl (cI, rik9, Sum.inl rif9))] H := ⟨hP, hD⟩
              have hP := hPD.1
              have hD := hPD.2
              refine lv_aload_n hx hb d_RC_take_98 rfl (lv_at hl 2 rfl) ?_
              refine lv_iconst (v := 0) hx hb d_RC_take_99 (by decide) ?_
              refine va_put (D := (dC, dI)) (ci := 6) (v := .int 0) (ty := .boolean) (C := "RangeCoders") (T := T_RC) (N := 8) hx hb hg in_RC t_RC o_RC n_RC hown hK hP hD hS 0 rfl rfl 6 (by decide) (hg _ k264) (fun _ h9 => h9) rfl (o_RC 6 (by decide)) rfl rfl (Nat.le_of_ble_eq_true rfl) d_RC_take_100 (fun H locs hP hD hS => ?_)
              have hPD : my_PD (dC, dI) vwCl A [(rc, Sum.inr (6, [Value.ref co, Value.ref ma, Value.int (nI k), Value.int fit, Value.int fen, Value.int 0, Value.int 0, Value.int fir])), (co, Sum.inr (3, [Value.int xshift, Value.long xkeptCode, Value.long xkeptRange, Value.int xkeptAsked, Value.int xcache, Value.int xpending, Value.long xlow, Value.long xrange, Value.long xcode, Value.long xreadLow, Value.long xreadRange, Value.ref ri, Value.ref ro, Value.ref rw, Value.int xasked])), (ro, Sum.inr (0, [Value.int (nI os.length), Value.ref roa])), (roa, Sum.inl (cI, rok, Sum.inl rof)), (ri, Sum.inr (0, [Value.int (nI (os.take ll).length), Value.ref ria9])), (ria9, Sum.inl (cI, rik9, Sum.inl rif9))] H := ⟨hP, hD⟩
              have hP := hPD.1
              have hD := hPD.2
              refine lv_aload_n hx hb d_RC_take_103 rfl (lv_at hl 2 rfl) ?_
              refine lv_iconst (v := 0) hx hb d_RC_take_104 (by decide) ?_
              refine va_put (D := (dC, dI)) (ci := 6) (v := .int 0) (ty := .int) (C := "RangeCoders") (T := T_RC) (N := 8) hx hb hg in_RC t_RC o_RC n_RC hown hK hP hD hS 0 rfl rfl 7 (by decide) (hg _ k265) (fun _ h9 => h9) rfl (o_RC 7 (by decide)) rfl rfl (Nat.le_of_ble_eq_true rfl) d_RC_take_105 (fun H locs hP hD hS => ?_)
              have hPD : my_PD (dC, dI) vwCl A [(rc, Sum.inr (6, [Value.ref co, Value.ref ma, Value.int (nI k), Value.int fit, Value.int fen, Value.int 0, Value.int 0, Value.int 0])), (co, Sum.inr (3, [Value.int xshift, Value.long xkeptCode, Value.long xkeptRange, Value.int xkeptAsked, Value.int xcache, Value.int xpending, Value.long xlow, Value.long xrange, Value.long xcode, Value.long xreadLow, Value.long xreadRange, Value.ref ri, Value.ref ro, Value.ref rw, Value.int xasked])), (ro, Sum.inr (0, [Value.int (nI os.length), Value.ref roa])), (roa, Sum.inl (cI, rok, Sum.inl rof)), (ri, Sum.inr (0, [Value.int (nI (os.take ll).length), Value.ref ria9])), (ria9, Sum.inl (cI, rik9, Sum.inl rif9))] H := ⟨hP, hD⟩
              have hP := hPD.1
              have hD := hPD.2
              refine lv_aload_n hx hb d_RC_take_108 rfl (lv_at hl 2 rfl) ?_
              refine va_get (D := (dC, dI)) (ci := 6) (v := .ref co) (C := "RangeCoders") (T := T_RC) (N := 8) hx hb hg in_RC hown hK hP 0 rfl rfl 0 (by decide) (hg _ k258) (fun _ h9 => h9) rfl d_RC_take_109 ?_
              refine va_get (D := (dC, dI)) (ci := 3) (v := .ref ri) (C := "RangeCoders$Bits") (T := T_Bits) (N := 15) hx hb hg in_Bits hown hK hP 1 rfl rfl 11 (by decide) (hg _ k102) (fun _ h9 => h9) rfl d_RC_take_112 ?_
              refine va_get (D := (dC, dI)) (ci := 0) (v := .int (nI (os.take ll).length)) (C := "RangeCoders$Row") (T := T_Row) (N := 2) hx hb hg in_Row hown hK hP 4 rfl rfl 0 (by decide) (hg _ k58) (fun _ h9 => h9) rfl d_RC_take_115 ?_
              exact my_iretg (v := nI (os.take ll).length) hx hb hr (rfl) hlocks hQ hK hS (ria9, rik9, rif9) (show d9 + (rPh rik9) ≤ (rPh rik) by omega) (show d9 + (rPh rik9) ≤ (rPh rik) by omega) (⟨rfl, hr9, hg9⟩) (hP.sub [0, 1, 2, 3, 4, 5] rfl) (hD.sub [0, 1, 2, 3, 4, 5] (by decide +kernel) rfl) d_RC_take_118
            · have hj2 : j < ll := nI_lt' (by omega) c_9
              refine lv_aload_n hx hb d_RC_take_66 rfl (lv_at hl 2 rfl) ?_
              refine va_get (D := (dC, dI)) (ci := 6) (v := .ref co) (C := "RangeCoders") (T := T_RC) (N := 8) hx hb hg in_RC hown hK hP 0 rfl rfl 0 (by decide) (hg _ k258) (fun _ h9 => h9) rfl d_RC_take_67 ?_
              refine va_get (D := (dC, dI)) (ci := 3) (v := .ref ri) (C := "RangeCoders$Bits") (T := T_Bits) (N := 15) hx hb hg in_Bits hown hK hP 1 rfl rfl 11 (by decide) (hg _ k102) (fun _ h9 => h9) rfl d_RC_take_70 ?_
              refine lv_aload_n hx hb d_RC_take_73 rfl (lv_at hl 2 rfl) ?_
              refine va_get (D := (dC, dI)) (ci := 6) (v := .ref co) (C := "RangeCoders") (T := T_RC) (N := 8) hx hb hg in_RC hown hK hP 0 rfl rfl 0 (by decide) (hg _ k258) (fun _ h9 => h9) rfl d_RC_take_74 ?_
              refine va_get (D := (dC, dI)) (ci := 3) (v := .ref ro) (C := "RangeCoders$Bits") (T := T_Bits) (N := 15) hx hb hg in_Bits hown hK hP 1 rfl rfl 12 (by decide) (hg _ k108) (fun _ h9 => h9) rfl d_RC_take_77 ?_
              refine lv_iload_n hx hb d_RC_take_80 rfl (lv_at hl 0 rfl) ?_
              refine my_ci (wr := [(rc, Sum.inr (6, [Value.ref co, Value.ref ma, Value.int (nI k), Value.int fit, Value.int fen, Value.int frd, Value.int fbd, Value.int fir])), (co, Sum.inr (3, [Value.int xshift, Value.long xkeptCode, Value.long xkeptRange, Value.int xkeptAsked, Value.int xcache, Value.int xpending, Value.long xlow, Value.long xrange, Value.long xcode, Value.long xreadLow, Value.long xreadRange, Value.ref ri, Value.ref ro, Value.ref rw, Value.int xasked])), (ri, Sum.inr (0, [Value.int (nI b9.length), Value.ref ria9])), (ria9, Sum.inl (cI, rik9, Sum.inl rif9))]) (va_runV (As := [Value.int (nI j)]) (rest := [Value.ref ri]) ⟨hx, hb, hml, hown, hts⟩ (f_Row_at l dC dI cI cM cO H.size ro roa rok rof os (nI j) (hro) (hGro) (hLro)) (cwV 1 hts (my_gV k703 k659 k660 k6 k661) rfl rfl rfl cu_Row_at_1 ⟨by rw [hR]; exact Nat.le_of_ble_eq_true rfl, by rw [hR]; exact Nat.le_of_ble_eq_true rfl⟩) (my_preV hK hN (hP.sub [2, 3] rfl) (hD.sub [2, 3] (by decide +kernel) rfl) 0 rfl rfl) rfl rfl hl.1 rfl (lv_room (Nat.le_of_ble_eq_true rfl)) d_RC_take_81 ⟨by rw [hR]; exact (show d9 + 0 ≤ (rPh rik) by omega), by rw [hR]; exact (show d9 + 0 ≤ (rPh rik) by omega)⟩) hP hD hS hA [2, 3] [0, 1, 4, 5] rfl rfl (by decide +kernel) (by decide +kernel) (fun r_81 u9 H locs hw_81 hP hD hS => ?_)
              have hr_81 : r_81 = rAt os (nI j) := hw_81
              have hPD : my_PD (dC, dI) vwCl A [(rc, Sum.inr (6, [Value.ref co, Value.ref ma, Value.int (nI k), Value.int fit, Value.int fen, Value.int frd, Value.int fbd, Value.int fir])), (co, Sum.inr (3, [Value.int xshift, Value.long xkeptCode, Value.long xkeptRange, Value.int xkeptAsked, Value.int xcache, Value.int xpending, Value.long xlow, Value.long xrange, Value.long xcode, Value.long xreadLow, Value.long xreadRange, Value.ref ri, Value.ref ro, Value.ref rw, Value.int xasked])), (ri, Sum.inr (0, [Value.int (nI b9.length), Value.ref ria9])), (ria9, Sum.inl (cI, rik9, Sum.inl rif9)), (ro, Sum.inr (0, [Value.int (nI os.length), Value.ref roa])), (roa, Sum.inl (cI, rok, Sum.inl rof))] H := ⟨hP, hD⟩
              have hP := hPD.1
              have hD := hPD.2
              have z9 : r_81 = nI (os.getD j 0) := by rw [hr_81]; exact rAt_nI (by omega) (by omega)
              subst z9
              refine my_cvg (wr := [(rc, Sum.inr (6, [Value.ref co, Value.ref ma, Value.int (nI k), Value.int fit, Value.int fen, Value.int frd, Value.int fbd, Value.int fir])), (co, Sum.inr (3, [Value.int xshift, Value.long xkeptCode, Value.long xkeptRange, Value.int xkeptAsked, Value.int xcache, Value.int xpending, Value.long xlow, Value.long xrange, Value.long xcode, Value.long xreadLow, Value.long xreadRange, Value.ref ri, Value.ref ro, Value.ref rw, Value.int xasked])), (ro, Sum.inr (0, [Value.int (nI os.length), Value.ref roa])), (roa, Sum.inl (cI, rok, Sum.inl rof))]) (va_runV (As := [Value.int (nI (os.getD j 0))]) (rest := []) ⟨hx, hb, hml, hown, hts⟩ (f_Row_add l dC dI cI cM cO H.size (hSl H) ri ria9 rik9 rif9 b9 (os.getD j 0) (hr9) (hg9) (by omega)) (cwV 1 hts (my_gV k708 k473 k474 k6 k475) rfl rfl rfl cu_Row_add_1 ⟨by rw [hR]; exact Nat.le_of_ble_eq_true rfl, by rw [hR]; exact Nat.le_of_ble_eq_true rfl⟩) (my_preVg hK hN (hP.sub [2, 3] rfl) (hD.sub [2, 3] (by decide +kernel) rfl) 0 rfl rfl) rfl rfl hl.1 rfl (lv_room (Nat.le_of_ble_eq_true rfl)) d_RC_take_84 ⟨by rw [hR]; exact (show d9 + (rPh rik9) ≤ (rPh rik) by omega), by rw [hR]; exact (show d9 + (rPh rik9) ≤ (rPh rik) by omega)⟩) hP hD hS hA [2, 3] [0, 1, 4, 5] rfl rfl (by decide +kernel) (by decide +kernel) (fun u9 d_84 H locs hd_84 hw_84 hP hD hS => ?_)
              obtain ⟨rraq_84, rrkq_84, rrfq_84⟩ := u9
              obtain ⟨hrr_84, hGrr_84⟩ : rOk (nI (b9 ++ [(os.getD j 0)]).length) rrkq_84 ∧ gIs rrfq_84 (b9 ++ [(os.getD j 0)]) := hw_84
              have hd_84 : d_84 + (rPh rrkq_84) ≤ (rPh rik9) := hd_84
              have hPD : my_PD (dC, dI) vwCl A [(rc, Sum.inr (6, [Value.ref co, Value.ref ma, Value.int (nI k), Value.int fit, Value.int fen, Value.int frd, Value.int fbd, Value.int fir])), (co, Sum.inr (3, [Value.int xshift, Value.long xkeptCode, Value.long xkeptRange, Value.int xkeptAsked, Value.int xcache, Value.int xpending, Value.long xlow, Value.long xrange, Value.long xcode, Value.long xreadLow, Value.long xreadRange, Value.ref ri, Value.ref ro, Value.ref rw, Value.int xasked])), (ro, Sum.inr (0, [Value.int (nI os.length), Value.ref roa])), (roa, Sum.inl (cI, rok, Sum.inl rof)), (ri, Sum.inr (0, [Value.int (nI (b9 ++ [(os.getD j 0)]).length), Value.ref rraq_84])), (rraq_84, Sum.inl (cI, rrkq_84, Sum.inl rrfq_84))] H := ⟨hP, hD⟩
              have hP := hPD.1
              have hD := hPD.2
              obtain ⟨v_10, ev_10⟩ : ∃ y : Int32, y = (nI j) + (1) := ⟨_, rfl⟩
              refine lv_iinc (v := v_10) (lv' := [(3, Value.int v_10), (2, Value.int (nI ll)), (0, Value.ref rc), (1, Value.int nn)]) hx hb d_RC_take_87 hl (k := 0) rfl (by rw [ev_10]; rfl) (by decide) rfl (fun ls hl => ?_)
              have z9 : v_10 = nI (j + 1) := by rw [ev_10]; exact nI_1 _
              subst z9
              refine lv_goto (tgt := 61) hx hb d_RC_take_90 (by decide) ?_
              exact ih9_61 _ (by first | omega | (omega)) (j + 1) (b9 ++ [os.getD j 0]) rraq_84 rrkq_84 rrfq_84 (d9 + d_84) rfl (by omega) (by rw [hb9]; exact tk_st (by omega)) (hrr_84) (hGrr_84) (by omega) H locs ls (hP.sub [0, 1, 2, 3, 4, 5] rfl) (hD.sub [0, 1, 2, 3, 4, 5] (by decide +kernel) rfl) hS (lv_sub hl [0, 1, 2, 3] rfl)
        exact J_61 _ (0 : Nat) ([]) ria rik rif (0 : Nat) rfl (Nat.zero_le _) (rfl) (hr_56) (fun i h => absurd h (Nat.not_lt_zero i)) (by omega) H locs ls (hP.sub [0, 1, 2, 3, 4, 5] rfl) (hD.sub [0, 1, 2, 3, 4, 5] (by decide +kernel) rfl) hS (lv_sub hl [0, 1, 2, 3] rfl)
    · exact absurd (by rw [ev_2]; exact hn2) c_3
set_option maxHeartbeats 2000000 in
set_option maxRecDepth 100000 in
theorem f_RC_spoilA_Bits (l : Launch) (dC : Nat → ClassId) (dI : Nat → Nat → Nat) (cI cM cO : ClassId) (sz : Nat) (rc : Nat) (ma : Nat) (k : Nat) (fit : Int32) (fen : Int32) (frd : Int32) (fbd : Int32) (fir : Int32) (mf : Nat → Option Nat) (co : Nat) (xshift : Int32) (xkeptCode : Int64) (xkeptRange : Int64) (xkeptAsked : Int32) (xcache : Int32) (xpending : Int32) (xlow : Int64) (xrange : Int64) (xcode : Int64) (xreadLow : Int64) (xreadRange : Int64) (ri : Nat) (ro : Nat) (rw : Nat) (xasked : Int32) (ria : Nat) (rik : Nat) (rif : Nat → Int32) (is : List Nat) (ii : Int32) (vv : Int32) (hri : rOk (nI is.length) rik) (hGri : gIs rif is) (hLri : is.length ≤ 6000) (hno : ¬ (0 ≤ ii ∧ ii < nI is.length)) : MetI l y_RC_spoil (Cond.code y_RC_spoil prog_1_method_11_code 3 (some .int) :: gw) ({ frames := 1, cells := 0, slots := 0, locals := 21 } : Room) (dC, dI) vwCl (kT cI cM cO) [Value.ref rc, Value.int ii, Value.int vv] [(rc, Sum.inr (6, [Value.ref co, Value.ref ma, Value.int (nI k), Value.int fit, Value.int fen, Value.int frd, Value.int fbd, Value.int fir])), (co, Sum.inr (3, [Value.int xshift, Value.long xkeptCode, Value.long xkeptRange, Value.int xkeptAsked, Value.int xcache, Value.int xpending, Value.long xlow, Value.long xrange, Value.long xcode, Value.long xreadLow, Value.long xreadRange, Value.ref ri, Value.ref ro, Value.ref rw, Value.int xasked])), (ri, Sum.inr (0, [Value.int (nI is.length), Value.ref ria])), (ria, Sum.inl (cI, rik, Sum.inl rif))] sz (fun (r : Int32) (u : Unit) => r = -1) (fun (u : Unit) => [(rc, Sum.inr (6, [Value.ref co, Value.ref ma, Value.int (nI k), Value.int fit, Value.int fen, Value.int frd, Value.int fbd, Value.int fir])), (co, Sum.inr (3, [Value.int xshift, Value.long xkeptCode, Value.long xkeptRange, Value.int xkeptAsked, Value.int xcache, Value.int xpending, Value.long xlow, Value.long xrange, Value.long xcode, Value.long xreadLow, Value.long xreadRange, Value.ref ri, Value.ref ro, Value.ref rw, Value.int xasked])), (ri, Sum.inr (0, [Value.int (nI is.length), Value.ref ria])), (ria, Sum.inl (cI, rik, Sum.inl rif))]) 0 0 := by
  refine my_ofI (cc := prog_1_method_11_code) (n := 3) (ret := (some .int)) (by decide) rfl (Nat.le_of_ble_eq_true rfl) ?_
  intro p e s m args below meth c R Q A ls H locs hx hb hr hts hown hlocks hml hnm hR hQ hA hl hP hK hN hD hS
  have hg : ∀ w ∈ gw, w.before args s = true := fun w h => hts w (List.mem_cons_of_mem _ h)
  have hown : s.vm.findClass "RangeCoders" = some m.cls := hown
  have hl : lv_has ls 3 [(0, Value.ref rc), (1, Value.int ii), (2, Value.int vv)] := hl
  refine lv_aload_n hx hb d_RC_spoil_0 rfl (lv_at hl 0 rfl) ?_
  refine va_get (D := (dC, dI)) (ci := 6) (v := .ref co) (C := "RangeCoders") (T := T_RC) (N := 8) hx hb hg in_RC hown hK hP 0 rfl rfl 0 (by decide) (hg _ k258) (fun _ h9 => h9) rfl d_RC_spoil_1 ?_
  refine va_get (D := (dC, dI)) (ci := 3) (v := .ref ri) (C := "RangeCoders$Bits") (T := T_Bits) (N := 15) hx hb hg in_Bits hown hK hP 1 rfl rfl 11 (by decide) (hg _ k102) (fun _ h9 => h9) rfl d_RC_spoil_4 ?_
  refine lv_iload_n hx hb d_RC_spoil_7 rfl (lv_at hl 1 rfl) ?_
  refine my_ci (wr := [(rc, Sum.inr (6, [Value.ref co, Value.ref ma, Value.int (nI k), Value.int fit, Value.int fen, Value.int frd, Value.int fbd, Value.int fir])), (co, Sum.inr (3, [Value.int xshift, Value.long xkeptCode, Value.long xkeptRange, Value.int xkeptAsked, Value.int xcache, Value.int xpending, Value.long xlow, Value.long xrange, Value.long xcode, Value.long xreadLow, Value.long xreadRange, Value.ref ri, Value.ref ro, Value.ref rw, Value.int xasked]))]) (va_runV (As := [Value.int ii]) (rest := []) ⟨hx, hb, hml, hown, hts⟩ (f_Row_has l dC dI cI cM cO H.size ri ria rik rif is ii (hri) (hGri) (by omega)) (cwV 1 hts (my_gV k718 k663 k664 k6 k665) rfl rfl rfl cu_Row_has_1 ⟨by rw [hR]; exact Nat.le_of_ble_eq_true rfl, by rw [hR]; exact Nat.le_of_ble_eq_true rfl⟩) (my_preV hK hN (hP.sub [2, 3] rfl) (hD.sub [2, 3] (by decide +kernel) rfl) 0 rfl rfl) rfl rfl hl.1 rfl (lv_room (Nat.le_of_ble_eq_true rfl)) d_RC_spoil_8 ⟨by rw [hR]; exact Nat.le_of_ble_eq_true rfl, by rw [hR]; exact Nat.le_of_ble_eq_true rfl⟩) hP hD hS hA [2, 3] [0, 1] rfl rfl (by decide +kernel) (by decide +kernel) (fun r_8 u9 H locs hw_8 hP hD hS => ?_)
  obtain ⟨hr_8, hv_8⟩ : (r_8 = if 0 ≤ ii ∧ ii < nI is.length then 1 else 0) ∧ (r_8 ≠ 0 → vp_in ii rik) := hw_8
  have hPD : my_PD (dC, dI) vwCl A [(rc, Sum.inr (6, [Value.ref co, Value.ref ma, Value.int (nI k), Value.int fit, Value.int fen, Value.int frd, Value.int fbd, Value.int fir])), (co, Sum.inr (3, [Value.int xshift, Value.long xkeptCode, Value.long xkeptRange, Value.int xkeptAsked, Value.int xcache, Value.int xpending, Value.long xlow, Value.long xrange, Value.long xcode, Value.long xreadLow, Value.long xreadRange, Value.ref ri, Value.ref ro, Value.ref rw, Value.int xasked])), (ri, Sum.inr (0, [Value.int (nI is.length), Value.ref ria])), (ria, Sum.inl (cI, rik, Sum.inl rif))] H := ⟨hP, hD⟩
  have hP := hPD.1
  have hD := hPD.2
  refine lv_if_ne (tgt := 16) hx hb d_RC_spoil_11 (by decide) (fun c_1 => ?_) (fun c_1 => ?_)
  · exact absurd (one_ne hr_8 c_1) hno
  · refine lv_iconst (v := (-1)) hx hb d_RC_spoil_14 (by decide) ?_
    exact my_iret (v := (-1)) hx hb hr (rfl) hlocks hQ hK hS (Nat.le_refl _) (Nat.le_refl _) () (rfl) (hP.sub [0, 1, 2, 3] rfl) (hD.sub [0, 1, 2, 3] (by decide +kernel) rfl) d_RC_spoil_15
set_option maxHeartbeats 2000000 in
set_option maxRecDepth 100000 in
theorem f_RC_spoilV_Bits (l : Launch) (dC : Nat → ClassId) (dI : Nat → Nat → Nat) (cI cM cO : ClassId) (sz : Nat) (rc : Nat) (ma : Nat) (k : Nat) (fit : Int32) (fen : Int32) (frd : Int32) (fbd : Int32) (fir : Int32) (mf : Nat → Option Nat) (co : Nat) (xshift : Int32) (xkeptCode : Int64) (xkeptRange : Int64) (xkeptAsked : Int32) (xcache : Int32) (xpending : Int32) (xlow : Int64) (xrange : Int64) (xcode : Int64) (xreadLow : Int64) (xreadRange : Int64) (ri : Nat) (ro : Nat) (rw : Nat) (xasked : Int32) (ria : Nat) (rik : Nat) (rif : Nat → Int32) (is : List Nat) (i7 : Nat) (vv : Int32) (hri : rOk (nI is.length) rik) (hGri : gIs rif is) (hLri : is.length ≤ 6000) (hi7 : i7 < is.length) (hno : vv < 0 ∨ 255 < vv) : MetI l y_RC_spoil (Cond.code y_RC_spoil prog_1_method_11_code 3 (some .int) :: gw) ({ frames := 1, cells := 0, slots := 0, locals := 21 } : Room) (dC, dI) vwCl (kT cI cM cO) [Value.ref rc, Value.int (nI i7), Value.int vv] [(rc, Sum.inr (6, [Value.ref co, Value.ref ma, Value.int (nI k), Value.int fit, Value.int fen, Value.int frd, Value.int fbd, Value.int fir])), (co, Sum.inr (3, [Value.int xshift, Value.long xkeptCode, Value.long xkeptRange, Value.int xkeptAsked, Value.int xcache, Value.int xpending, Value.long xlow, Value.long xrange, Value.long xcode, Value.long xreadLow, Value.long xreadRange, Value.ref ri, Value.ref ro, Value.ref rw, Value.int xasked])), (ri, Sum.inr (0, [Value.int (nI is.length), Value.ref ria])), (ria, Sum.inl (cI, rik, Sum.inl rif))] sz (fun (r : Int32) (u : Unit) => r = -2) (fun (u : Unit) => [(rc, Sum.inr (6, [Value.ref co, Value.ref ma, Value.int (nI k), Value.int fit, Value.int fen, Value.int frd, Value.int fbd, Value.int fir])), (co, Sum.inr (3, [Value.int xshift, Value.long xkeptCode, Value.long xkeptRange, Value.int xkeptAsked, Value.int xcache, Value.int xpending, Value.long xlow, Value.long xrange, Value.long xcode, Value.long xreadLow, Value.long xreadRange, Value.ref ri, Value.ref ro, Value.ref rw, Value.int xasked])), (ri, Sum.inr (0, [Value.int (nI is.length), Value.ref ria])), (ria, Sum.inl (cI, rik, Sum.inl rif))]) 0 0 := by
  refine my_ofI (cc := prog_1_method_11_code) (n := 3) (ret := (some .int)) (by decide) rfl (Nat.le_of_ble_eq_true rfl) ?_
  intro p e s m args below meth c R Q A ls H locs hx hb hr hts hown hlocks hml hnm hR hQ hA hl hP hK hN hD hS
  have hg : ∀ w ∈ gw, w.before args s = true := fun w h => hts w (List.mem_cons_of_mem _ h)
  have hown : s.vm.findClass "RangeCoders" = some m.cls := hown
  have hl : lv_has ls 3 [(0, Value.ref rc), (1, Value.int (nI i7)), (2, Value.int vv)] := hl
  refine lv_aload_n hx hb d_RC_spoil_0 rfl (lv_at hl 0 rfl) ?_
  refine va_get (D := (dC, dI)) (ci := 6) (v := .ref co) (C := "RangeCoders") (T := T_RC) (N := 8) hx hb hg in_RC hown hK hP 0 rfl rfl 0 (by decide) (hg _ k258) (fun _ h9 => h9) rfl d_RC_spoil_1 ?_
  refine va_get (D := (dC, dI)) (ci := 3) (v := .ref ri) (C := "RangeCoders$Bits") (T := T_Bits) (N := 15) hx hb hg in_Bits hown hK hP 1 rfl rfl 11 (by decide) (hg _ k102) (fun _ h9 => h9) rfl d_RC_spoil_4 ?_
  refine lv_iload_n hx hb d_RC_spoil_7 rfl (lv_at hl 1 rfl) ?_
  refine my_ci (wr := [(rc, Sum.inr (6, [Value.ref co, Value.ref ma, Value.int (nI k), Value.int fit, Value.int fen, Value.int frd, Value.int fbd, Value.int fir])), (co, Sum.inr (3, [Value.int xshift, Value.long xkeptCode, Value.long xkeptRange, Value.int xkeptAsked, Value.int xcache, Value.int xpending, Value.long xlow, Value.long xrange, Value.long xcode, Value.long xreadLow, Value.long xreadRange, Value.ref ri, Value.ref ro, Value.ref rw, Value.int xasked]))]) (va_runV (As := [Value.int (nI i7)]) (rest := []) ⟨hx, hb, hml, hown, hts⟩ (f_Row_has l dC dI cI cM cO H.size ri ria rik rif is (nI i7) (hri) (hGri) (by omega)) (cwV 1 hts (my_gV k718 k663 k664 k6 k665) rfl rfl rfl cu_Row_has_1 ⟨by rw [hR]; exact Nat.le_of_ble_eq_true rfl, by rw [hR]; exact Nat.le_of_ble_eq_true rfl⟩) (my_preV hK hN (hP.sub [2, 3] rfl) (hD.sub [2, 3] (by decide +kernel) rfl) 0 rfl rfl) rfl rfl hl.1 rfl (lv_room (Nat.le_of_ble_eq_true rfl)) d_RC_spoil_8 ⟨by rw [hR]; exact Nat.le_of_ble_eq_true rfl, by rw [hR]; exact Nat.le_of_ble_eq_true rfl⟩) hP hD hS hA [2, 3] [0, 1] rfl rfl (by decide +kernel) (by decide +kernel) (fun r_8 u9 H locs hw_8 hP hD hS => ?_)
  obtain ⟨hr_8, hv_8⟩ : (r_8 = if 0 ≤ (nI i7) ∧ (nI i7) < nI is.length then 1 else 0) ∧ (r_8 ≠ 0 → vp_in (nI i7) rik) := hw_8
  have hPD : my_PD (dC, dI) vwCl A [(rc, Sum.inr (6, [Value.ref co, Value.ref ma, Value.int (nI k), Value.int fit, Value.int fen, Value.int frd, Value.int fbd, Value.int fir])), (co, Sum.inr (3, [Value.int xshift, Value.long xkeptCode, Value.long xkeptRange, Value.int xkeptAsked, Value.int xcache, Value.int xpending, Value.long xlow, Value.long xrange, Value.long xcode, Value.long xreadLow, Value.long xreadRange, Value.ref ri, Value.ref ro, Value.ref rw, Value.int xasked])), (ri, Sum.inr (0, [Value.int (nI is.length), Value.ref ria])), (ria, Sum.inl (cI, rik, Sum.inl rif))] H := ⟨hP, hD⟩
  have hP := hPD.1
  have hD := hPD.2
  refine lv_if_ne (tgt := 16) hx hb d_RC_spoil_11 (by decide) (fun c_1 => ?_) (fun c_1 => ?_)
  · refine lv_iload_n hx hb d_RC_spoil_16 rfl (lv_at hl 2 rfl) ?_
    refine lv_if_lt (tgt := 27) hx hb d_RC_spoil_17 (by decide) (fun c_2 => ?_) (fun c_2 => ?_)
    · refine lv_bipush (v := (-2)) hx hb d_RC_spoil_27 (by decide) ?_
      exact my_iret (v := (-2)) hx hb hr (rfl) hlocks hQ hK hS (Nat.le_refl _) (Nat.le_refl _) () (rfl) (hP.sub [0, 1, 2, 3] rfl) (hD.sub [0, 1, 2, 3] (by decide +kernel) rfl) d_RC_spoil_29
    · refine lv_iload_n hx hb d_RC_spoil_20 rfl (lv_at hl 2 rfl) ?_
      refine lv_sipush (v := 255) hx hb d_RC_spoil_21 (by decide) ?_
      refine lv_icmp_le (tgt := 30) hx hb d_RC_spoil_24 (by decide) (fun c_3 => ?_) (fun c_3 => ?_)
      · exact absurd hno (fun h9 => h9.elim c_2 (fun q9 => absurd c_3 (Int32.not_le.mpr q9)))
      · refine lv_bipush (v := (-2)) hx hb d_RC_spoil_27 (by decide) ?_
        exact my_iret (v := (-2)) hx hb hr (rfl) hlocks hQ hK hS (Nat.le_refl _) (Nat.le_refl _) () (rfl) (hP.sub [0, 1, 2, 3] rfl) (hD.sub [0, 1, 2, 3] (by decide +kernel) rfl) d_RC_spoil_29
  · exact absurd (has_in hi7 (by omega)) (one_eq hr_8 c_1)
set_option maxHeartbeats 2000000 in
set_option maxRecDepth 100000 in
theorem f_RC_spoilL_Bits (l : Launch) (dC : Nat → ClassId) (dI : Nat → Nat → Nat) (cI cM cO : ClassId) (sz : Nat) (rc : Nat) (ma : Nat) (k : Nat) (fit : Int32) (fen : Int32) (frd : Int32) (fbd : Int32) (fir : Int32) (mf : Nat → Option Nat) (co : Nat) (xshift : Int32) (xkeptCode : Int64) (xkeptRange : Int64) (xkeptAsked : Int32) (xcache : Int32) (xpending : Int32) (xlow : Int64) (xrange : Int64) (xcode : Int64) (xreadLow : Int64) (xreadRange : Int64) (ri : Nat) (ro : Nat) (rw : Nat) (xasked : Int32) (ria : Nat) (rik : Nat) (rif : Nat → Int32) (is : List Nat) (i7 : Nat) (t7 : Nat) (hri : rOk (nI is.length) rik) (hGri : gIs rif is) (hLri : is.length ≤ 6000) (hi7 : i7 < is.length) (ht7 : t7 ≤ 255) : MetI l y_RC_spoil (Cond.code y_RC_spoil prog_1_method_11_code 3 (some .int) :: gw) ({ frames := 2, cells := 0, slots := 0, locals := 43 } : Room) (dC, dI) vwCl (kT cI cM cO) [Value.ref rc, Value.int (nI i7), Value.int (nI t7)] [(rc, Sum.inr (6, [Value.ref co, Value.ref ma, Value.int (nI k), Value.int fit, Value.int fen, Value.int frd, Value.int fbd, Value.int fir])), (co, Sum.inr (3, [Value.int xshift, Value.long xkeptCode, Value.long xkeptRange, Value.int xkeptAsked, Value.int xcache, Value.int xpending, Value.long xlow, Value.long xrange, Value.long xcode, Value.long xreadLow, Value.long xreadRange, Value.ref ri, Value.ref ro, Value.ref rw, Value.int xasked])), (ri, Sum.inr (0, [Value.int (nI is.length), Value.ref ria])), (ria, Sum.inl (cI, rik, Sum.inl rif))] sz (fun (r : Int32) (u : (Nat → Int32)) => r = nI (is.getD i7 0 ^^^ t7) ∧ gIs u (is.set i7 (is.getD i7 0 ^^^ t7))) (fun (u : (Nat → Int32)) => [(rc, Sum.inr (6, [Value.ref co, Value.ref ma, Value.int (nI k), Value.int fit, Value.int fen, Value.int frd, Value.int fbd, Value.int fir])), (co, Sum.inr (3, [Value.int xshift, Value.long xkeptCode, Value.long xkeptRange, Value.int xkeptAsked, Value.int xcache, Value.int xpending, Value.long xlow, Value.long xrange, Value.long xcode, Value.long xreadLow, Value.long xreadRange, Value.ref ri, Value.ref ro, Value.ref rw, Value.int xasked])), (ri, Sum.inr (0, [Value.int (nI is.length), Value.ref ria])), (ria, Sum.inl (cI, rik, Sum.inl u))]) 0 0 := by
  refine my_ofI (cc := prog_1_method_11_code) (n := 3) (ret := (some .int)) (by decide) rfl (Nat.le_of_ble_eq_true rfl) ?_
  intro p e s m args below meth c R Q A ls H locs hx hb hr hts hown hlocks hml hnm hR hQ hA hl hP hK hN hD hS
  have hg : ∀ w ∈ gw, w.before args s = true := fun w h => hts w (List.mem_cons_of_mem _ h)
  have hown : s.vm.findClass "RangeCoders" = some m.cls := hown
  have hl : lv_has ls 3 [(0, Value.ref rc), (1, Value.int (nI i7)), (2, Value.int (nI t7))] := hl
  refine lv_aload_n hx hb d_RC_spoil_0 rfl (lv_at hl 0 rfl) ?_
  refine va_get (D := (dC, dI)) (ci := 6) (v := .ref co) (C := "RangeCoders") (T := T_RC) (N := 8) hx hb hg in_RC hown hK hP 0 rfl rfl 0 (by decide) (hg _ k258) (fun _ h9 => h9) rfl d_RC_spoil_1 ?_
  refine va_get (D := (dC, dI)) (ci := 3) (v := .ref ri) (C := "RangeCoders$Bits") (T := T_Bits) (N := 15) hx hb hg in_Bits hown hK hP 1 rfl rfl 11 (by decide) (hg _ k102) (fun _ h9 => h9) rfl d_RC_spoil_4 ?_
  refine lv_iload_n hx hb d_RC_spoil_7 rfl (lv_at hl 1 rfl) ?_
  refine my_ci (wr := [(rc, Sum.inr (6, [Value.ref co, Value.ref ma, Value.int (nI k), Value.int fit, Value.int fen, Value.int frd, Value.int fbd, Value.int fir])), (co, Sum.inr (3, [Value.int xshift, Value.long xkeptCode, Value.long xkeptRange, Value.int xkeptAsked, Value.int xcache, Value.int xpending, Value.long xlow, Value.long xrange, Value.long xcode, Value.long xreadLow, Value.long xreadRange, Value.ref ri, Value.ref ro, Value.ref rw, Value.int xasked]))]) (va_runV (As := [Value.int (nI i7)]) (rest := []) ⟨hx, hb, hml, hown, hts⟩ (f_Row_has l dC dI cI cM cO H.size ri ria rik rif is (nI i7) (hri) (hGri) (by omega)) (cwV 1 hts (my_gV k718 k663 k664 k6 k665) rfl rfl rfl cu_Row_has_1 ⟨by rw [hR]; exact Nat.le_of_ble_eq_true rfl, by rw [hR]; exact Nat.le_of_ble_eq_true rfl⟩) (my_preV hK hN (hP.sub [2, 3] rfl) (hD.sub [2, 3] (by decide +kernel) rfl) 0 rfl rfl) rfl rfl hl.1 rfl (lv_room (Nat.le_of_ble_eq_true rfl)) d_RC_spoil_8 ⟨by rw [hR]; exact Nat.le_of_ble_eq_true rfl, by rw [hR]; exact Nat.le_of_ble_eq_true rfl⟩) hP hD hS hA [2, 3] [0, 1] rfl rfl (by decide +kernel) (by decide +kernel) (fun r_8 u9 H locs hw_8 hP hD hS => ?_)
  obtain ⟨hr_8, hv_8⟩ : (r_8 = if 0 ≤ (nI i7) ∧ (nI i7) < nI is.length then 1 else 0) ∧ (r_8 ≠ 0 → vp_in (nI i7) rik) := hw_8
  have hPD : my_PD (dC, dI) vwCl A [(rc, Sum.inr (6, [Value.ref co, Value.ref ma, Value.int (nI k), Value.int fit, Value.int fen, Value.int frd, Value.int fbd, Value.int fir])), (co, Sum.inr (3, [Value.int xshift, Value.long xkeptCode, Value.long xkeptRange, Value.int xkeptAsked, Value.int xcache, Value.int xpending, Value.long xlow, Value.long xrange, Value.long xcode, Value.long xreadLow, Value.long xreadRange, Value.ref ri, Value.ref ro, Value.ref rw, Value.int xasked])), (ri, Sum.inr (0, [Value.int (nI is.length), Value.ref ria])), (ria, Sum.inl (cI, rik, Sum.inl rif))] H := ⟨hP, hD⟩
  have hP := hPD.1
  have hD := hPD.2
  refine lv_if_ne (tgt := 16) hx hb d_RC_spoil_11 (by decide) (fun c_1 => ?_) (fun c_1 => ?_)
  · refine lv_iload_n hx hb d_RC_spoil_16 rfl (lv_at hl 2 rfl) ?_
    refine lv_if_lt (tgt := 27) hx hb d_RC_spoil_17 (by decide) (fun c_2 => ?_) (fun c_2 => ?_)
    · exact absurd c_2 (nI_pos (by omega))
    · refine lv_iload_n hx hb d_RC_spoil_20 rfl (lv_at hl 2 rfl) ?_
      refine lv_sipush (v := 255) hx hb d_RC_spoil_21 (by decide) ?_
      refine lv_icmp_le (tgt := 30) hx hb d_RC_spoil_24 (by decide) (fun c_3 => ?_) (fun c_3 => ?_)
      · refine lv_aload_n hx hb d_RC_spoil_30 rfl (lv_at hl 0 rfl) ?_
        refine va_get (D := (dC, dI)) (ci := 6) (v := .ref co) (C := "RangeCoders") (T := T_RC) (N := 8) hx hb hg in_RC hown hK hP 0 rfl rfl 0 (by decide) (hg _ k258) (fun _ h9 => h9) rfl d_RC_spoil_31 ?_
        refine va_get (D := (dC, dI)) (ci := 3) (v := .ref ri) (C := "RangeCoders$Bits") (T := T_Bits) (N := 15) hx hb hg in_Bits hown hK hP 1 rfl rfl 11 (by decide) (hg _ k102) (fun _ h9 => h9) rfl d_RC_spoil_34 ?_
        refine lv_iload_n hx hb d_RC_spoil_37 rfl (lv_at hl 1 rfl) ?_
        refine lv_aload_n hx hb d_RC_spoil_38 rfl (lv_at hl 0 rfl) ?_
        refine va_get (D := (dC, dI)) (ci := 6) (v := .ref co) (C := "RangeCoders") (T := T_RC) (N := 8) hx hb hg in_RC hown hK hP 0 rfl rfl 0 (by decide) (hg _ k258) (fun _ h9 => h9) rfl d_RC_spoil_39 ?_
        refine va_get (D := (dC, dI)) (ci := 3) (v := .ref ri) (C := "RangeCoders$Bits") (T := T_Bits) (N := 15) hx hb hg in_Bits hown hK hP 1 rfl rfl 11 (by decide) (hg _ k102) (fun _ h9 => h9) rfl d_RC_spoil_42 ?_
        refine lv_iload_n hx hb d_RC_spoil_45 rfl (lv_at hl 1 rfl) ?_
        refine my_ci (wr := [(rc, Sum.inr (6, [Value.ref co, Value.ref ma, Value.int (nI k), Value.int fit, Value.int fen, Value.int frd, Value.int fbd, Value.int fir])), (co, Sum.inr (3, [Value.int xshift, Value.long xkeptCode, Value.long xkeptRange, Value.int xkeptAsked, Value.int xcache, Value.int xpending, Value.long xlow, Value.long xrange, Value.long xcode, Value.long xreadLow, Value.long xreadRange, Value.ref ri, Value.ref ro, Value.ref rw, Value.int xasked]))]) (va_runV (As := [Value.int (nI i7)]) (rest := [Value.int (nI i7), Value.ref ri]) ⟨hx, hb, hml, hown, hts⟩ (f_Row_at l dC dI cI cM cO H.size ri ria rik rif is (nI i7) (hri) (hGri) (by omega)) (cwV 1 hts (my_gV k703 k659 k660 k6 k661) rfl rfl rfl cu_Row_at_1 ⟨by rw [hR]; exact Nat.le_of_ble_eq_true rfl, by rw [hR]; exact Nat.le_of_ble_eq_true rfl⟩) (my_preV hK hN (hP.sub [2, 3] rfl) (hD.sub [2, 3] (by decide +kernel) rfl) 0 rfl rfl) rfl rfl hl.1 rfl (lv_room (Nat.le_of_ble_eq_true rfl)) d_RC_spoil_46 ⟨by rw [hR]; exact Nat.le_of_ble_eq_true rfl, by rw [hR]; exact Nat.le_of_ble_eq_true rfl⟩) hP hD hS hA [2, 3] [0, 1] rfl rfl (by decide +kernel) (by decide +kernel) (fun r_46 u9 H locs hw_46 hP hD hS => ?_)
        have hr_46 : r_46 = rAt is (nI i7) := hw_46
        have hPD : my_PD (dC, dI) vwCl A [(rc, Sum.inr (6, [Value.ref co, Value.ref ma, Value.int (nI k), Value.int fit, Value.int fen, Value.int frd, Value.int fbd, Value.int fir])), (co, Sum.inr (3, [Value.int xshift, Value.long xkeptCode, Value.long xkeptRange, Value.int xkeptAsked, Value.int xcache, Value.int xpending, Value.long xlow, Value.long xrange, Value.long xcode, Value.long xreadLow, Value.long xreadRange, Value.ref ri, Value.ref ro, Value.ref rw, Value.int xasked])), (ri, Sum.inr (0, [Value.int (nI is.length), Value.ref ria])), (ria, Sum.inl (cI, rik, Sum.inl rif))] H := ⟨hP, hD⟩
        have hP := hPD.1
        have hD := hPD.2
        have z9 : r_46 = nI (is.getD i7 0) := by rw [hr_46]; exact rAt_nI hi7 (by omega)
        subst z9
        refine lv_iload_n hx hb d_RC_spoil_49 rfl (lv_at hl 2 rfl) ?_
        refine lv_ixor hx hb d_RC_spoil_50 ?_
        refine lv_topi (fun v_4 ev_4 => ?_)
        have z9 : v_4 = nI (is.getD i7 0 ^^^ t7) := by rw [ev_4]; exact nx_xor _ _
        subst z9
        refine my_cv (wr := [(rc, Sum.inr (6, [Value.ref co, Value.ref ma, Value.int (nI k), Value.int fit, Value.int fen, Value.int frd, Value.int fbd, Value.int fir])), (co, Sum.inr (3, [Value.int xshift, Value.long xkeptCode, Value.long xkeptRange, Value.int xkeptAsked, Value.int xcache, Value.int xpending, Value.long xlow, Value.long xrange, Value.long xcode, Value.long xreadLow, Value.long xreadRange, Value.ref ri, Value.ref ro, Value.ref rw, Value.int xasked]))]) (va_runV (As := [Value.int (nI i7), Value.int (nI (is.getD i7 0 ^^^ t7))]) (rest := []) ⟨hx, hb, hml, hown, hts⟩ (f_Row_set l dC dI cI cM cO H.size ri ria rik rif is i7 (is.getD i7 0 ^^^ t7) (hri) (hGri) (by omega) (hi7)) (cwV 2 hts (my_gV k719 k720 k721 k6 k722) rfl rfl rfl cu_Row_set_2 ⟨by rw [hR]; exact Nat.le_of_ble_eq_true rfl, by rw [hR]; exact Nat.le_of_ble_eq_true rfl⟩) (my_preV hK hN (hP.sub [2, 3] rfl) (hD.sub [2, 3] (by decide +kernel) rfl) 0 rfl rfl) rfl rfl hl.1 rfl (lv_room (Nat.le_of_ble_eq_true rfl)) d_RC_spoil_51 ⟨by rw [hR]; exact Nat.le_of_ble_eq_true rfl, by rw [hR]; exact Nat.le_of_ble_eq_true rfl⟩) hP hD hS hA [2, 3] [0, 1] rfl rfl (by decide +kernel) (by decide +kernel) (fun u9 H locs hw_51 hP hD hS => ?_)
        obtain ⟨rrfq_51, rfl⟩ : ∃ z, z = u9 := ⟨_, rfl⟩
        have hGrr_51 : gIs rrfq_51 (is.set i7 (is.getD i7 0 ^^^ t7)) := hw_51
        have hPD : my_PD (dC, dI) vwCl A [(rc, Sum.inr (6, [Value.ref co, Value.ref ma, Value.int (nI k), Value.int fit, Value.int fen, Value.int frd, Value.int fbd, Value.int fir])), (co, Sum.inr (3, [Value.int xshift, Value.long xkeptCode, Value.long xkeptRange, Value.int xkeptAsked, Value.int xcache, Value.int xpending, Value.long xlow, Value.long xrange, Value.long xcode, Value.long xreadLow, Value.long xreadRange, Value.ref ri, Value.ref ro, Value.ref rw, Value.int xasked])), (ri, Sum.inr (0, [Value.int (nI is.length), Value.ref ria])), (ria, Sum.inl (cI, rik, Sum.inl rrfq_51))] H := ⟨hP, hD⟩
        have hP := hPD.1
        have hD := hPD.2
        refine lv_aload_n hx hb d_RC_spoil_54 rfl (lv_at hl 0 rfl) ?_
        refine va_get (D := (dC, dI)) (ci := 6) (v := .ref co) (C := "RangeCoders") (T := T_RC) (N := 8) hx hb hg in_RC hown hK hP 0 rfl rfl 0 (by decide) (hg _ k258) (fun _ h9 => h9) rfl d_RC_spoil_55 ?_
        refine va_get (D := (dC, dI)) (ci := 3) (v := .ref ri) (C := "RangeCoders$Bits") (T := T_Bits) (N := 15) hx hb hg in_Bits hown hK hP 1 rfl rfl 11 (by decide) (hg _ k102) (fun _ h9 => h9) rfl d_RC_spoil_58 ?_
        refine lv_iload_n hx hb d_RC_spoil_61 rfl (lv_at hl 1 rfl) ?_
        have hsu : (nI is.length : Int32) = nI (is.set i7 (is.getD i7 0 ^^^ t7)).length := by rw [List.length_set]
        rw [hsu] at hP hD
        have hPD : my_PD (dC, dI) vwCl A [(rc, Sum.inr (6, [Value.ref co, Value.ref ma, Value.int (nI k), Value.int fit, Value.int fen, Value.int frd, Value.int fbd, Value.int fir])), (co, Sum.inr (3, [Value.int xshift, Value.long xkeptCode, Value.long xkeptRange, Value.int xkeptAsked, Value.int xcache, Value.int xpending, Value.long xlow, Value.long xrange, Value.long xcode, Value.long xreadLow, Value.long xreadRange, Value.ref ri, Value.ref ro, Value.ref rw, Value.int xasked])), (ri, Sum.inr (0, [Value.int (nI (is.set i7 (is.getD i7 0 ^^^ t7)).length), Value.ref ria])), (ria, Sum.inl (cI, rik, Sum.inl rrfq_51))] H := ⟨hP, hD⟩
        have hP := hPD.1
        have hD := hPD.2
        refine my_ci (wr := [(rc, Sum.inr (6, [Value.ref co, Value.ref ma, Value.int (nI k), Value.int fit, Value.int fen, Value.int frd, Value.int fbd, Value.int fir])), (co, Sum.inr (3, [Value.int xshift, Value.long xkeptCode, Value.long xkeptRange, Value.int xkeptAsked, Value.int xcache, Value.int xpending, Value.long xlow, Value.long xrange, Value.long xcode, Value.long xreadLow, Value.long xreadRange, Value.ref ri, Value.ref ro, Value.ref rw, Value.int xasked]))]) (va_runV (As := [Value.int (nI i7)]) (rest := []) ⟨hx, hb, hml, hown, hts⟩ (f_Row_at l dC dI cI cM cO H.size ri ria rik rrfq_51 (is.set i7 (is.getD i7 0 ^^^ t7)) (nI i7) (by rw [List.length_set]; exact hri) (hGrr_51) (by rw [List.length_set]; omega)) (cwV 1 hts (my_gV k703 k659 k660 k6 k661) rfl rfl rfl cu_Row_at_1 ⟨by rw [hR]; exact Nat.le_of_ble_eq_true rfl, by rw [hR]; exact Nat.le_of_ble_eq_true rfl⟩) (my_preV hK hN (hP.sub [2, 3] rfl) (hD.sub [2, 3] (by decide +kernel) rfl) 0 rfl rfl) rfl rfl hl.1 rfl (lv_room (Nat.le_of_ble_eq_true rfl)) d_RC_spoil_62 ⟨by rw [hR]; exact Nat.le_of_ble_eq_true rfl, by rw [hR]; exact Nat.le_of_ble_eq_true rfl⟩) hP hD hS hA [2, 3] [0, 1] rfl rfl (by decide +kernel) (by decide +kernel) (fun r_62 u9 H locs hw_62 hP hD hS => ?_)
        have hr_62 : r_62 = rAt (is.set i7 (is.getD i7 0 ^^^ t7)) (nI i7) := hw_62
        have hPD : my_PD (dC, dI) vwCl A [(rc, Sum.inr (6, [Value.ref co, Value.ref ma, Value.int (nI k), Value.int fit, Value.int fen, Value.int frd, Value.int fbd, Value.int fir])), (co, Sum.inr (3, [Value.int xshift, Value.long xkeptCode, Value.long xkeptRange, Value.int xkeptAsked, Value.int xcache, Value.int xpending, Value.long xlow, Value.long xrange, Value.long xcode, Value.long xreadLow, Value.long xreadRange, Value.ref ri, Value.ref ro, Value.ref rw, Value.int xasked])), (ri, Sum.inr (0, [Value.int (nI (is.set i7 (is.getD i7 0 ^^^ t7)).length), Value.ref ria])), (ria, Sum.inl (cI, rik, Sum.inl rrfq_51))] H := ⟨hP, hD⟩
        have hP := hPD.1
        have hD := hPD.2
        have hsu : (nI (is.set i7 (is.getD i7 0 ^^^ t7)).length : Int32) = nI is.length := by rw [List.length_set]
        rw [hsu] at hP hD
        have hPD : my_PD (dC, dI) vwCl A [(rc, Sum.inr (6, [Value.ref co, Value.ref ma, Value.int (nI k), Value.int fit, Value.int fen, Value.int frd, Value.int fbd, Value.int fir])), (co, Sum.inr (3, [Value.int xshift, Value.long xkeptCode, Value.long xkeptRange, Value.int xkeptAsked, Value.int xcache, Value.int xpending, Value.long xlow, Value.long xrange, Value.long xcode, Value.long xreadLow, Value.long xreadRange, Value.ref ri, Value.ref ro, Value.ref rw, Value.int xasked])), (ri, Sum.inr (0, [Value.int (nI is.length), Value.ref ria])), (ria, Sum.inl (cI, rik, Sum.inl rrfq_51))] H := ⟨hP, hD⟩
        have hP := hPD.1
        have hD := hPD.2
        exact my_iret (v := r_62) hx hb hr (rfl) hlocks hQ hK hS (Nat.le_refl _) (Nat.le_refl _) (rrfq_51) (⟨by rw [hr_62, rAt_nI (by rw [List.length_set]; exact hi7) (by rw [List.length_set]; omega), List.getD_eq_getElem?_getD, List.getElem?_set_self hi7]; rfl, hGrr_51⟩) (hP.sub [0, 1, 2, 3] rfl) (hD.sub [0, 1, 2, 3] (by decide +kernel) rfl) d_RC_spoil_65
      · exact absurd (nI_le (b := 255) ht7 (by decide)) c_3
  · exact absurd (has_in hi7 (by omega)) (one_eq hr_8 c_1)
set_option maxHeartbeats 2000000 in
set_option maxRecDepth 100000 in
theorem f_RC_endB_Bits (l : Launch) (dC : Nat → ClassId) (dI : Nat → Nat → Nat) (cI cM cO : ClassId) (sz : Nat) (sl : Nat) (rc : Nat) (ma : Nat) (k : Nat) (fit : Int32) (frd : Int32) (fbd : Int32) (fir : Int32) (mf : Nat → Option Nat) (co : Nat) (xshift : Int32) (xkeptCode : Int64) (xkeptRange : Int64) (xkeptAsked : Int32) (xcode : Int64) (xreadLow : Int64) (xreadRange : Int64) (ri : Nat) (ro : Nat) (rw : Nat) (xasked : Int32) (Rg : Nat) (L : Nat) (ca : Option Nat) (Pn : Nat) (rwa : Nat) (rwk : Nat) (rwf : Nat → Int32) (bs : List Nat) (ron : Int32) (roa : Nat) (rok : Nat) (rof : Nat → Int32) (hE : eOk (Rg, L, ca, Pn, bs)) (hrw : rOk (nI bs.length) rwk) (hGrw : gIs rwf bs) (hN9 : bs.length + 20 + Pn ≤ 7900) : MetIg l y_RC_end (Cond.code y_RC_end prog_1_method_6_code 1 (some .int) :: gw) ({ frames := 7, cells := rPh rwk, slots := rPh rwk, locals := 167 } : Room) (dC, dI) vwCl (kT cI cM cO) [Value.ref rc] [(rc, Sum.inr (6, [Value.ref co, Value.ref ma, Value.int (nI k), Value.int fit, Value.int 0, Value.int frd, Value.int fbd, Value.int fir])), (co, Sum.inr (3, [Value.int xshift, Value.long xkeptCode, Value.long xkeptRange, Value.int xkeptAsked, Value.int (caI ca), Value.int (nI Pn), Value.long (lN L), Value.long (lN Rg), Value.long xcode, Value.long xreadLow, Value.long xreadRange, Value.ref ri, Value.ref ro, Value.ref rw, Value.int xasked])), (rw, Sum.inr (0, [Value.int (nI bs.length), Value.ref rwa])), (rwa, Sum.inl (cI, rwk, Sum.inl rwf)), (ro, Sum.inr (0, [Value.int ron, Value.ref roa])), (roa, Sum.inl (cI, rok, Sum.inl rof))] sz sl (fun (r : Int32) (u : Nat × Nat × (Nat → Int32)) => r = nI (eB (shK 5 (Rg, L, ca, Pn, bs))).length ∧ rOk (nI ((eB (shK 5 (Rg, L, ca, Pn, bs)))).length) u.2.1 ∧ gIs u.2.2 ((eB (shK 5 (Rg, L, ca, Pn, bs))))) (fun (u : Nat × Nat × (Nat → Int32)) => [(rc, Sum.inr (6, [Value.ref co, Value.ref ma, Value.int (nI k), Value.int fit, Value.int 1, Value.int frd, Value.int fbd, Value.int fir])), (co, Sum.inr (3, [Value.int xshift, Value.long xkeptCode, Value.long xkeptRange, Value.int xkeptAsked, Value.int (caI (eC (shK 5 (Rg, L, ca, Pn, bs)))), Value.int (nI (eP (shK 5 (Rg, L, ca, Pn, bs)))), Value.long (lN (eL (shK 5 (Rg, L, ca, Pn, bs)))), Value.long (lN (eR (shK 5 (Rg, L, ca, Pn, bs)))), Value.long xcode, Value.long xreadLow, Value.long xreadRange, Value.ref ri, Value.ref rw, Value.ref ro, Value.int xasked])), (rw, Sum.inr (0, [Value.int (nI (eB (shK 5 (Rg, L, ca, Pn, bs))).length), Value.ref u.1])), (u.1, Sum.inl (cI, u.2.1, Sum.inl u.2.2)), (ro, Sum.inr (0, [Value.int ron, Value.ref roa])), (roa, Sum.inl (cI, rok, Sum.inl rof))]) (rPh rwk) (fun (u : Nat × Nat × (Nat → Int32)) => rPh u.2.1) := by
  refine my_ofIg (cc := prog_1_method_6_code) (n := 1) (ret := (some .int)) (by decide) rfl (Nat.le_of_ble_eq_true rfl) ?_
  intro p e s m args below meth c R Q A ls H locs hx hb hr hts hown hlocks hml hnm hR hQ hA hl hP hK hN hD hS
  have hg : ∀ w ∈ gw, w.before args s = true := fun w h => hts w (List.mem_cons_of_mem _ h)
  have hown : s.vm.findClass "RangeCoders" = some m.cls := hown
  have hl : lv_has ls 1 [(0, Value.ref rc)] := hl
  refine lv_aload_n hx hb d_RC_end_0 rfl (lv_at hl 0 rfl) ?_
  refine va_get (D := (dC, dI)) (ci := 6) (v := .int 0) (C := "RangeCoders") (T := T_RC) (N := 8) hx hb hg in_RC hown hK hP 0 rfl rfl 4 (by decide) (hg _ k262) (fun _ h9 => h9) rfl d_RC_end_1 ?_
  refine lv_if_eq (tgt := 10) hx hb d_RC_end_4 (by decide) (fun c_1 => ?_) (fun c_1 => ?_)
  · refine lv_aload_n hx hb d_RC_end_10 rfl (lv_at hl 0 rfl) ?_
    refine va_get (D := (dC, dI)) (ci := 6) (v := .ref co) (C := "RangeCoders") (T := T_RC) (N := 8) hx hb hg in_RC hown hK hP 0 rfl rfl 0 (by decide) (hg _ k258) (fun _ h9 => h9) rfl d_RC_end_11 ?_
    refine my_cvg (wr := [(rc, Sum.inr (6, [Value.ref co, Value.ref ma, Value.int (nI k), Value.int fit, Value.int 0, Value.int frd, Value.int fbd, Value.int fir]))]) (va_runU (As := []) (rest := []) ⟨hx, hb, hml, hown, hts⟩ (f_Bits_close l dC dI cI cM cO H.size (hSl H) co xshift xkeptCode xkeptRange xkeptAsked xcode xreadLow xreadRange ri ro rw xasked Rg L ca Pn rwa rwk rwf bs ron roa rok rof (by first | assumption | omega) (by first | assumption | omega) (by first | assumption | omega) (by first | assumption | omega)) (va_cwA 0 hts (my_gU k572 k574 k575 k576 k4 k577) rfl rfl rfl (hN.1 _ j573 rfl) (by decide +kernel) ⟨by rw [hR]; exact Nat.le_of_ble_eq_true rfl, by rw [hR]; exact Nat.le_of_ble_eq_true rfl⟩) (my_preVg hK hN (hP.sub [1, 2, 3, 4, 5] rfl) (hD.sub [1, 2, 3, 4, 5] (by decide +kernel) rfl) 0 rfl rfl) rfl rfl hl.1 rfl (lv_room (Nat.le_of_ble_eq_true rfl)) d_RC_end_14 ⟨by rw [hR]; exact (show 0 + (rPh rwk) ≤ (rPh rwk) by omega), by rw [hR]; exact (show 0 + (rPh rwk) ≤ (rPh rwk) by omega)⟩) hP hD hS hA [1, 2, 3, 4, 5] [0] rfl rfl (by decide +kernel) (by decide +kernel) (fun u9 d_14 H locs hd_14 hw_14 hP hD hS => ?_)
    obtain ⟨rwaq_14, rwkq_14, rwfq_14⟩ := u9
    obtain ⟨hrw_14, hGrw_14⟩ : rOk (nI ((eB (shK 5 (Rg, L, ca, Pn, bs)))).length) rwkq_14 ∧ gIs rwfq_14 ((eB (shK 5 (Rg, L, ca, Pn, bs)))) := hw_14
    have hd_14 : d_14 + (rPh rwkq_14) ≤ (rPh rwk) := hd_14
    have hPD : my_PD (dC, dI) vwCl A [(rc, Sum.inr (6, [Value.ref co, Value.ref ma, Value.int (nI k), Value.int fit, Value.int 0, Value.int frd, Value.int fbd, Value.int fir])), (co, Sum.inr (3, [Value.int xshift, Value.long xkeptCode, Value.long xkeptRange, Value.int xkeptAsked, Value.int (caI (eC (shK 5 (Rg, L, ca, Pn, bs)))), Value.int (nI (eP (shK 5 (Rg, L, ca, Pn, bs)))), Value.long (lN (eL (shK 5 (Rg, L, ca, Pn, bs)))), Value.long (lN (eR (shK 5 (Rg, L, ca, Pn, bs)))), Value.long xcode, Value.long xreadLow, Value.long xreadRange, Value.ref ri, Value.ref rw, Value.ref ro, Value.int xasked])), (rw, Sum.inr (0, [Value.int (nI (eB (shK 5 (Rg, L, ca, Pn, bs))).length), Value.ref rwaq_14])), (rwaq_14, Sum.inl (cI, rwkq_14, Sum.inl rwfq_14)), (ro, Sum.inr (0, [Value.int ron, Value.ref roa])), (roa, Sum.inl (cI, rok, Sum.inl rof))] H := ⟨hP, hD⟩
    have hP := hPD.1
    have hD := hPD.2
    refine lv_aload_n hx hb d_RC_end_17 rfl (lv_at hl 0 rfl) ?_
    refine lv_iconst (v := 1) hx hb d_RC_end_18 (by decide) ?_
    refine va_put (D := (dC, dI)) (ci := 6) (v := .int 1) (ty := .boolean) (C := "RangeCoders") (T := T_RC) (N := 8) hx hb hg in_RC t_RC o_RC n_RC hown hK hP hD hS 0 rfl rfl 4 (by decide) (hg _ k262) (fun _ h9 => h9) rfl (o_RC 4 (by decide)) rfl rfl (Nat.le_of_ble_eq_true rfl) d_RC_end_19 (fun H locs hP hD hS => ?_)
    have hPD : my_PD (dC, dI) vwCl A [(rc, Sum.inr (6, [Value.ref co, Value.ref ma, Value.int (nI k), Value.int fit, Value.int 1, Value.int frd, Value.int fbd, Value.int fir])), (co, Sum.inr (3, [Value.int xshift, Value.long xkeptCode, Value.long xkeptRange, Value.int xkeptAsked, Value.int (caI (eC (shK 5 (Rg, L, ca, Pn, bs)))), Value.int (nI (eP (shK 5 (Rg, L, ca, Pn, bs)))), Value.long (lN (eL (shK 5 (Rg, L, ca, Pn, bs)))), Value.long (lN (eR (shK 5 (Rg, L, ca, Pn, bs)))), Value.long xcode, Value.long xreadLow, Value.long xreadRange, Value.ref ri, Value.ref rw, Value.ref ro, Value.int xasked])), (rw, Sum.inr (0, [Value.int (nI (eB (shK 5 (Rg, L, ca, Pn, bs))).length), Value.ref rwaq_14])), (rwaq_14, Sum.inl (cI, rwkq_14, Sum.inl rwfq_14)), (ro, Sum.inr (0, [Value.int ron, Value.ref roa])), (roa, Sum.inl (cI, rok, Sum.inl rof))] H := ⟨hP, hD⟩
    have hP := hPD.1
    have hD := hPD.2
    refine lv_aload_n hx hb d_RC_end_22 rfl (lv_at hl 0 rfl) ?_
    refine va_get (D := (dC, dI)) (ci := 6) (v := .ref co) (C := "RangeCoders") (T := T_RC) (N := 8) hx hb hg in_RC hown hK hP 0 rfl rfl 0 (by decide) (hg _ k258) (fun _ h9 => h9) rfl d_RC_end_23 ?_
    refine va_get (D := (dC, dI)) (ci := 3) (v := .ref rw) (C := "RangeCoders$Bits") (T := T_Bits) (N := 15) hx hb hg in_Bits hown hK hP 1 rfl rfl 12 (by decide) (hg _ k108) (fun _ h9 => h9) rfl d_RC_end_26 ?_
    refine va_get (D := (dC, dI)) (ci := 0) (v := .int (nI (eB (shK 5 (Rg, L, ca, Pn, bs))).length)) (C := "RangeCoders$Row") (T := T_Row) (N := 2) hx hb hg in_Row hown hK hP 2 rfl rfl 0 (by decide) (hg _ k58) (fun _ h9 => h9) rfl d_RC_end_29 ?_
    exact my_iretg (v := nI (eB (shK 5 (Rg, L, ca, Pn, bs))).length) hx hb hr (rfl) hlocks hQ hK hS (rwaq_14, rwkq_14, rwfq_14) (show (0 + d_14) + (rPh rwkq_14) ≤ (rPh rwk) by omega) (show (0 + d_14) + (rPh rwkq_14) ≤ (rPh rwk) by omega) (⟨rfl, hrw_14, hGrw_14⟩) (hP.sub [0, 1, 2, 3, 4, 5] rfl) (hD.sub [0, 1, 2, 3, 4, 5] (by decide +kernel) rfl) d_RC_end_32
  · exact absurd (by decide) c_1
end
section
set_option maxHeartbeats 2000000 in
set_option maxRecDepth 100000 in
theorem f_RC_out_Carries (l : Launch) (dC : Nat → ClassId) (dI : Nat → Nat → Nat) (cI cM cO : ClassId) (sz : Nat) (rc : Nat) (ma : Nat) (k : Nat) (fit : Int32) (fen : Int32) (frd : Int32) (fbd : Int32) (fir : Int32) (mf : Nat → Option Nat) (co : Nat) (xcache : Int32) (xpending : Int32) (xlow : Int64) (xrange : Int64) (xcode : Int64) (xreadLow : Int64) (xreadRange : Int64) (ri : Nat) (ro : Nat) (rw : Nat) (xasked : Int32) (roa : Nat) (rok : Nat) (rof : Nat → Int32) (os : List Nat) (ii : Int32) (hro : rOk (nI os.length) rok) (hGro : gIs rof os) (hLro : os.length ≤ 8192) : MetI l y_RC_out (Cond.code y_RC_out prog_1_method_8_code 2 (some .int) :: gw) ({ frames := 2, cells := 0, slots := 0, locals := 42 } : Room) (dC, dI) vwCl (kT cI cM cO) [Value.ref rc, Value.int ii] [(rc, Sum.inr (6, [Value.ref co, Value.ref ma, Value.int (nI k), Value.int fit, Value.int fen, Value.int frd, Value.int fbd, Value.int fir])), (co, Sum.inr (1, [Value.int xcache, Value.int xpending, Value.long xlow, Value.long xrange, Value.long xcode, Value.long xreadLow, Value.long xreadRange, Value.ref ri, Value.ref ro, Value.ref rw, Value.int xasked])), (ro, Sum.inr (0, [Value.int (nI os.length), Value.ref roa])), (roa, Sum.inl (cI, rok, Sum.inl rof))] sz (fun (r : Int32) (u : Unit) => r = rAt os ii) (fun (u : Unit) => [(rc, Sum.inr (6, [Value.ref co, Value.ref ma, Value.int (nI k), Value.int fit, Value.int fen, Value.int frd, Value.int fbd, Value.int fir])), (co, Sum.inr (1, [Value.int xcache, Value.int xpending, Value.long xlow, Value.long xrange, Value.long xcode, Value.long xreadLow, Value.long xreadRange, Value.ref ri, Value.ref ro, Value.ref rw, Value.int xasked])), (ro, Sum.inr (0, [Value.int (nI os.length), Value.ref roa])), (roa, Sum.inl (cI, rok, Sum.inl rof))]) 0 0 := by
  refine my_ofI (cc := prog_1_method_8_code) (n := 2) (ret := (some .int)) (by decide) rfl (Nat.le_of_ble_eq_true rfl) ?_
  intro p e s m args below meth c R Q A ls H locs hx hb hr hts hown hlocks hml hnm hR hQ hA hl hP hK hN hD hS
  have hg : ∀ w ∈ gw, w.before args s = true := fun w h => hts w (List.mem_cons_of_mem _ h)
  have hown : s.vm.findClass "RangeCoders" = some m.cls := hown
  have hl : lv_has ls 2 [(0, Value.ref rc), (1, Value.int ii)] := hl
  refine lv_aload_n hx hb d_RC_out_0 rfl (lv_at hl 0 rfl) ?_
  refine va_get (D := (dC, dI)) (ci := 6) (v := .ref co) (C := "RangeCoders") (T := T_RC) (N := 8) hx hb hg in_RC hown hK hP 0 rfl rfl 0 (by decide) (hg _ k258) (fun _ h9 => h9) rfl d_RC_out_1 ?_
  refine va_get (D := (dC, dI)) (ci := 1) (v := .ref ro) (C := "RangeCoders$Carries") (T := T_Carries) (N := 11) hx hb hg in_Carries hown hK hP 1 rfl rfl 8 (by decide) (hg _ k108) (fun _ h9 => h9) rfl d_RC_out_4 ?_
  refine lv_iload_n hx hb d_RC_out_7 rfl (lv_at hl 1 rfl) ?_
  refine my_ci (wr := [(rc, Sum.inr (6, [Value.ref co, Value.ref ma, Value.int (nI k), Value.int fit, Value.int fen, Value.int frd, Value.int fbd, Value.int fir])), (co, Sum.inr (1, [Value.int xcache, Value.int xpending, Value.long xlow, Value.long xrange, Value.long xcode, Value.long xreadLow, Value.long xreadRange, Value.ref ri, Value.ref ro, Value.ref rw, Value.int xasked]))]) (va_runV (As := [Value.int ii]) (rest := []) ⟨hx, hb, hml, hown, hts⟩ (f_Row_at l dC dI cI cM cO H.size ro roa rok rof os ii (hro) (hGro) (hLro)) (cwV 1 hts (my_gV k703 k659 k660 k6 k661) rfl rfl rfl cu_Row_at_1 ⟨by rw [hR]; exact Nat.le_of_ble_eq_true rfl, by rw [hR]; exact Nat.le_of_ble_eq_true rfl⟩) (my_preV hK hN (hP.sub [2, 3] rfl) (hD.sub [2, 3] (by decide +kernel) rfl) 0 rfl rfl) rfl rfl hl.1 rfl (lv_room (Nat.le_of_ble_eq_true rfl)) d_RC_out_8 ⟨by rw [hR]; exact Nat.le_of_ble_eq_true rfl, by rw [hR]; exact Nat.le_of_ble_eq_true rfl⟩) hP hD hS hA [2, 3] [0, 1] rfl rfl (by decide +kernel) (by decide +kernel) (fun r_8 u9 H locs hw_8 hP hD hS => ?_)
  have hr_8 : r_8 = rAt os ii := hw_8
  have hPD : my_PD (dC, dI) vwCl A [(rc, Sum.inr (6, [Value.ref co, Value.ref ma, Value.int (nI k), Value.int fit, Value.int fen, Value.int frd, Value.int fbd, Value.int fir])), (co, Sum.inr (1, [Value.int xcache, Value.int xpending, Value.long xlow, Value.long xrange, Value.long xcode, Value.long xreadLow, Value.long xreadRange, Value.ref ri, Value.ref ro, Value.ref rw, Value.int xasked])), (ro, Sum.inr (0, [Value.int (nI os.length), Value.ref roa])), (roa, Sum.inl (cI, rok, Sum.inl rof))] H := ⟨hP, hD⟩
  have hP := hPD.1
  have hD := hPD.2
  exact my_iret (v := r_8) hx hb hr (rfl) hlocks hQ hK hS (Nat.le_refl _) (Nat.le_refl _) () (hr_8) (hP.sub [0, 1, 2, 3] rfl) (hD.sub [0, 1, 2, 3] (by decide +kernel) rfl) d_RC_out_11
set_option maxHeartbeats 2000000 in
set_option maxRecDepth 100000 in
theorem f_RC_octetsR_Carries (l : Launch) (dC : Nat → ClassId) (dI : Nat → Nat → Nat) (cI cM cO : ClassId) (sz : Nat) (rc : Nat) (ma : Nat) (k : Nat) (fit : Int32) (fen : Int32) (frd : Int32) (fbd : Int32) (fir : Int32) (mf : Nat → Option Nat) (co : Nat) (xcache : Int32) (xpending : Int32) (xlow : Int64) (xrange : Int64) (xcode : Int64) (xreadLow : Int64) (xreadRange : Int64) (ri : Nat) (ro : Nat) (rw : Nat) (xasked : Int32) (ria : Nat) (rik : Nat) (rif : Nat → Int32) (is : List Nat) (vv : Int32) (hri : rOk (nI is.length) rik) (hGri : gIs rif is) (hLri : is.length ≤ 6000) (hfl : 6000 < is.length + 4) : MetI l y_RC_octets (Cond.code y_RC_octets prog_1_method_9_code 3 (some .int) :: gw) ({ frames := 0, cells := 0, slots := 0, locals := 0 } : Room) (dC, dI) vwCl (kT cI cM cO) [Value.ref rc, Value.int vv] [(rc, Sum.inr (6, [Value.ref co, Value.ref ma, Value.int (nI k), Value.int fit, Value.int fen, Value.int frd, Value.int fbd, Value.int fir])), (co, Sum.inr (1, [Value.int xcache, Value.int xpending, Value.long xlow, Value.long xrange, Value.long xcode, Value.long xreadLow, Value.long xreadRange, Value.ref ri, Value.ref ro, Value.ref rw, Value.int xasked])), (ri, Sum.inr (0, [Value.int (nI is.length), Value.ref ria])), (ria, Sum.inl (cI, rik, Sum.inl rif))] sz (fun (r : Int32) (u : Unit) => r = -4) (fun (u : Unit) => [(rc, Sum.inr (6, [Value.ref co, Value.ref ma, Value.int (nI k), Value.int fit, Value.int fen, Value.int frd, Value.int fbd, Value.int fir])), (co, Sum.inr (1, [Value.int xcache, Value.int xpending, Value.long xlow, Value.long xrange, Value.long xcode, Value.long xreadLow, Value.long xreadRange, Value.ref ri, Value.ref ro, Value.ref rw, Value.int xasked])), (ri, Sum.inr (0, [Value.int (nI is.length), Value.ref ria])), (ria, Sum.inl (cI, rik, Sum.inl rif))]) 0 0 := by
  refine my_ofI (cc := prog_1_method_9_code) (n := 3) (ret := (some .int)) (by decide) rfl (Nat.le_of_ble_eq_true rfl) ?_
  intro p e s m args below meth c R Q A ls H locs hx hb hr hts hown hlocks hml hnm hR hQ hA hl hP hK hN hD hS
  have hg : ∀ w ∈ gw, w.before args s = true := fun w h => hts w (List.mem_cons_of_mem _ h)
  have hown : s.vm.findClass "RangeCoders" = some m.cls := hown
  have hl : lv_has ls 3 [(0, Value.ref rc), (1, Value.int vv)] := hl
  refine lv_aload_n hx hb d_RC_octets_0 rfl (lv_at hl 0 rfl) ?_
  refine va_get (D := (dC, dI)) (ci := 6) (v := .ref co) (C := "RangeCoders") (T := T_RC) (N := 8) hx hb hg in_RC hown hK hP 0 rfl rfl 0 (by decide) (hg _ k258) (fun _ h9 => h9) rfl d_RC_octets_1 ?_
  refine va_get (D := (dC, dI)) (ci := 1) (v := .ref ri) (C := "RangeCoders$Carries") (T := T_Carries) (N := 11) hx hb hg in_Carries hown hK hP 1 rfl rfl 7 (by decide) (hg _ k102) (fun _ h9 => h9) rfl d_RC_octets_4 ?_
  refine va_get (D := (dC, dI)) (ci := 0) (v := .int (nI is.length)) (C := "RangeCoders$Row") (T := T_Row) (N := 2) hx hb hg in_Row hown hK hP 2 rfl rfl 0 (by decide) (hg _ k58) (fun _ h9 => h9) rfl d_RC_octets_7 ?_
  refine lv_iconst (v := 4) hx hb d_RC_octets_10 (by decide) ?_
  refine lv_iadd hx hb d_RC_octets_11 ?_
  refine lv_topi (fun v_1 ev_1 => ?_)
  refine lv_sipush (v := 6000) hx hb d_RC_octets_12 (by decide) ?_
  have z9 : v_1 = nI (is.length + 4) := by rw [ev_1]; exact nI_add _ 4
  subst z9
  refine lv_icmp_le (tgt := 21) hx hb d_RC_octets_15 (by decide) (fun c_2 => ?_) (fun c_2 => ?_)
  · exact absurd ((nI_cmp (b := 6000) (by omega) (by decide)).mp c_2) (by omega)
  · refine lv_bipush (v := (-4)) hx hb d_RC_octets_18 (by decide) ?_
    exact my_iret (v := (-4)) hx hb hr (rfl) hlocks hQ hK hS (Nat.le_refl _) (Nat.le_refl _) () (rfl) (hP.sub [0, 1, 2, 3] rfl) (hD.sub [0, 1, 2, 3] (by decide +kernel) rfl) d_RC_octets_20
set_option maxHeartbeats 2000000 in
set_option maxRecDepth 100000 in
theorem f_RC_octetsL_Carries (l : Launch) (dC : Nat → ClassId) (dI : Nat → Nat → Nat) (cI cM cO : ClassId) (sz : Nat) (sl : Nat) (rc : Nat) (ma : Nat) (k : Nat) (fit : Int32) (fen : Int32) (frd : Int32) (fbd : Int32) (fir : Int32) (mf : Nat → Option Nat) (co : Nat) (xcache : Int32) (xpending : Int32) (xlow : Int64) (xrange : Int64) (xcode : Int64) (xreadLow : Int64) (xreadRange : Int64) (ri : Nat) (ro : Nat) (rw : Nat) (xasked : Int32) (ria : Nat) (rik : Nat) (rif : Nat → Int32) (is : List Nat) (vv : Int32) (hri : rOk (nI is.length) rik) (hGri : gIs rif is) (hLri : is.length ≤ 6000) (hfl : is.length + 4 ≤ 6000) : MetIg l y_RC_octets (Cond.code y_RC_octets prog_1_method_9_code 3 (some .int) :: gw) ({ frames := 3, cells := rPh rik, slots := rPh rik, locals := 83 } : Room) (dC, dI) vwCl (kT cI cM cO) [Value.ref rc, Value.int vv] [(rc, Sum.inr (6, [Value.ref co, Value.ref ma, Value.int (nI k), Value.int fit, Value.int fen, Value.int frd, Value.int fbd, Value.int fir])), (co, Sum.inr (1, [Value.int xcache, Value.int xpending, Value.long xlow, Value.long xrange, Value.long xcode, Value.long xreadLow, Value.long xreadRange, Value.ref ri, Value.ref ro, Value.ref rw, Value.int xasked])), (ri, Sum.inr (0, [Value.int (nI is.length), Value.ref ria])), (ria, Sum.inl (cI, rik, Sum.inl rif))] sz sl (fun (r : Int32) (u : Nat × Nat × (Nat → Int32)) => r = nI (is ++ [oB vv 3, oB vv 2, oB vv 1, oB vv 0]).length ∧ rOk (nI (is ++ [oB vv 3, oB vv 2, oB vv 1, oB vv 0]).length) u.2.1 ∧ gIs u.2.2 (is ++ [oB vv 3, oB vv 2, oB vv 1, oB vv 0])) (fun (u : Nat × Nat × (Nat → Int32)) => [(rc, Sum.inr (6, [Value.ref co, Value.ref ma, Value.int (nI k), Value.int fit, Value.int fen, Value.int frd, Value.int fbd, Value.int fir])), (co, Sum.inr (1, [Value.int xcache, Value.int xpending, Value.long xlow, Value.long xrange, Value.long xcode, Value.long xreadLow, Value.long xreadRange, Value.ref ri, Value.ref ro, Value.ref rw, Value.int xasked])), (ri, Sum.inr (0, [Value.int (nI (is ++ [oB vv 3, oB vv 2, oB vv 1, oB vv 0]).length), Value.ref u.1])), (u.1, Sum.inl (cI, u.2.1, Sum.inl u.2.2))]) (rPh rik) (fun (u : Nat × Nat × (Nat → Int32)) => rPh u.2.1) := by
  refine my_ofIg (cc := prog_1_method_9_code) (n := 3) (ret := (some .int)) (by decide) rfl (Nat.le_of_ble_eq_true rfl) ?_
  intro p e s m args below meth c R Q A ls H locs hx hb hr hts hown hlocks hml hnm hR hQ hA hl hP hK hN hD hS
  have hg : ∀ w ∈ gw, w.before args s = true := fun w h => hts w (List.mem_cons_of_mem _ h)
  have hown : s.vm.findClass "RangeCoders" = some m.cls := hown
  have hl : lv_has ls 3 [(0, Value.ref rc), (1, Value.int vv)] := hl
  have hlti := rOk_lt hri
  refine lv_aload_n hx hb d_RC_octets_0 rfl (lv_at hl 0 rfl) ?_
  refine va_get (D := (dC, dI)) (ci := 6) (v := .ref co) (C := "RangeCoders") (T := T_RC) (N := 8) hx hb hg in_RC hown hK hP 0 rfl rfl 0 (by decide) (hg _ k258) (fun _ h9 => h9) rfl d_RC_octets_1 ?_
  refine va_get (D := (dC, dI)) (ci := 1) (v := .ref ri) (C := "RangeCoders$Carries") (T := T_Carries) (N := 11) hx hb hg in_Carries hown hK hP 1 rfl rfl 7 (by decide) (hg _ k102) (fun _ h9 => h9) rfl d_RC_octets_4 ?_
  refine va_get (D := (dC, dI)) (ci := 0) (v := .int (nI is.length)) (C := "RangeCoders$Row") (T := T_Row) (N := 2) hx hb hg in_Row hown hK hP 2 rfl rfl 0 (by decide) (hg _ k58) (fun _ h9 => h9) rfl d_RC_octets_7 ?_
  refine lv_iconst (v := 4) hx hb d_RC_octets_10 (by decide) ?_
  refine lv_iadd hx hb d_RC_octets_11 ?_
  refine lv_topi (fun v_1 ev_1 => ?_)
  refine lv_sipush (v := 6000) hx hb d_RC_octets_12 (by decide) ?_
  have z9 : v_1 = nI (is.length + 4) := by rw [ev_1]; exact nI_add _ 4
  subst z9
  refine lv_icmp_le (tgt := 21) hx hb d_RC_octets_15 (by decide) (fun c_2 => ?_) (fun c_2 => ?_)
  · refine lv_bipush (v := 24) hx hb d_RC_octets_21 (by decide) ?_
    refine lv_istore_n (lv' := [(2, Value.int 24), (0, Value.ref rc), (1, Value.int vv)]) hx hb d_RC_octets_23 rfl hl (by decide) rfl (fun ls hl => ?_)
    have J_24 : ∀ (n9_24 : Nat) (i9 : Int32) (j : Nat) (b9 : List Nat) (ria9 : Nat) (rik9 : Nat) (rif9 : Nat → Int32) (d9 : Nat) (hn9_24 : j = n9_24) (hi : i9.toInt = 8 * (j : Int) - 8) (hj : j ≤ 4) (hb9 : is ++ [oB vv 3, oB vv 2, oB vv 1, oB vv 0] = b9 ++ (List.range j).reverse.map (oB vv)) (hM9 : b9.length + j = is.length + 4) (hr9 : rOk (nI b9.length) rik9) (hg9 : gIs rif9 b9) (hd9 : d9 + rPh rik9 ≤ rPh rik) (H : Heap) (locs : List Loc) (ls : Array Slot), va_P (dC, dI) vwCl [(rc, Sum.inr (6, [Value.ref co, Value.ref ma, Value.int (nI k), Value.int fit, Value.int fen, Value.int frd, Value.int fbd, Value.int fir])), (co, Sum.inr (1, [Value.int xcache, Value.int xpending, Value.long xlow, Value.long xrange, Value.long xcode, Value.long xreadLow, Value.long xreadRange, Value.ref ri, Value.ref ro, Value.ref rw, Value.int xasked])), (ri, Sum.inr (0, [Value.int (nI b9.length), Value.ref ria9])), (ria9, Sum.inl (cI, rik9, Sum.inl rif9))] H → va_D A [(rc, Sum.inr (6, [Value.ref co, Value.ref ma, Value.int (nI k), Value.int fit, Value.int fen, Value.int frd, Value.int fbd, Value.int fir])), (co, Sum.inr (1, [Value.int xcache, Value.int xpending, Value.long xlow, Value.long xrange, Value.long xcode, Value.long xreadLow, Value.long xreadRange, Value.ref ri, Value.ref ro, Value.ref rw, Value.int xasked])), (ri, Sum.inr (0, [Value.int (nI b9.length), Value.ref ria9])), (ria9, Sum.inl (cI, rik9, Sum.inl rif9))] → va_S A s.heap H locs → lv_has ls 3 [(2, Value.int i9), (0, Value.ref rc), (1, Value.int vv)] → W p l e R s m args below meth c H locs d9 d9 Q (F0 m 24 ls []) := by
      intro n9_24
      induction n9_24 using Nat.strongRecOn with
      | ind n9_24 ih9_24 =>
        intro i9 j b9 ria9 rik9 rif9 d9 hn9_24 hi hj hb9 hM9 hr9 hg9 hd9 H locs ls hP hD hS hl
        refine lv_iload_n hx hb d_RC_octets_24 rfl (lv_at hl 0 rfl) ?_
        refine lv_if_lt (tgt := 51) hx hb d_RC_octets_25 (by decide) (fun c_3 => ?_) (fun c_3 => ?_)
        · have z9 := I_ng c_3
          have hj0 : j = 0 := by omega
          have z9 : b9 = is ++ [oB vv 3, oB vv 2, oB vv 1, oB vv 0] := by rw [hb9, hj0]; simp
          subst z9
          refine lv_aload_n hx hb d_RC_octets_51 rfl (lv_at hl 1 rfl) ?_
          refine va_get (D := (dC, dI)) (ci := 6) (v := .ref co) (C := "RangeCoders") (T := T_RC) (N := 8) hx hb hg in_RC hown hK hP 0 rfl rfl 0 (by decide) (hg _ k258) (fun _ h9 => h9) rfl d_RC_octets_52 ?_
          refine va_get (D := (dC, dI)) (ci := 1) (v := .ref ri) (C := "RangeCoders$Carries") (T := T_Carries) (N := 11) hx hb hg in_Carries hown hK hP 1 rfl rfl 7 (by decide) (hg _ k102) (fun _ h9 => h9) rfl d_RC_octets_55 ?_
          refine va_get (D := (dC, dI)) (ci := 0) (v := .int (nI (is ++ [oB vv 3, oB vv 2, oB vv 1, oB vv 0]).length)) (C := "RangeCoders$Row") (T := T_Row) (N := 2) hx hb hg in_Row hown hK hP 2 rfl rfl 0 (by decide) (hg _ k58) (fun _ h9 => h9) rfl d_RC_octets_58 ?_
          exact my_iretg (v := nI (is ++ [oB vv 3, oB vv 2, oB vv 1, oB vv 0]).length) hx hb hr (rfl) hlocks hQ hK hS (ria9, rik9, rif9) (show d9 + (rPh rik9) ≤ (rPh rik) by omega) (show d9 + (rPh rik9) ≤ (rPh rik) by omega) (⟨rfl, hr9, hg9⟩) (hP.sub [0, 1, 2, 3] rfl) (hD.sub [0, 1, 2, 3] (by decide +kernel) rfl) d_RC_octets_61
        · have z9 := I_nn c_3
          have hj0 : 1 ≤ j := by omega
          have hi9 : i9 = nI (8 * (j - 1)) := Int32.toInt_inj.mp (by rw [nI_toInt (by omega)]; omega)
          refine lv_aload_n hx hb d_RC_octets_28 rfl (lv_at hl 1 rfl) ?_
          refine va_get (D := (dC, dI)) (ci := 6) (v := .ref co) (C := "RangeCoders") (T := T_RC) (N := 8) hx hb hg in_RC hown hK hP 0 rfl rfl 0 (by decide) (hg _ k258) (fun _ h9 => h9) rfl d_RC_octets_29 ?_
          refine va_get (D := (dC, dI)) (ci := 1) (v := .ref ri) (C := "RangeCoders$Carries") (T := T_Carries) (N := 11) hx hb hg in_Carries hown hK hP 1 rfl rfl 7 (by decide) (hg _ k102) (fun _ h9 => h9) rfl d_RC_octets_32 ?_
          refine lv_iload_n hx hb d_RC_octets_35 rfl (lv_at hl 2 rfl) ?_
          refine lv_iload_n hx hb d_RC_octets_36 rfl (lv_at hl 0 rfl) ?_
          refine lv_iushr hx hb d_RC_octets_37 rfl ?_
          refine lv_topi (fun v_4 ev_4 => ?_)
          refine lv_sipush (v := 255) hx hb d_RC_octets_38 (by decide) ?_
          refine lv_iand hx hb d_RC_octets_41 ?_
          refine lv_topi (fun v_5 ev_5 => ?_)
          have z9 : v_5 = nI (oB vv (j - 1)) := by rw [ev_5, ev_4]; exact oB_u vv (j - 1) (by omega) _ hi9
          subst z9
          refine my_cvg (wr := [(rc, Sum.inr (6, [Value.ref co, Value.ref ma, Value.int (nI k), Value.int fit, Value.int fen, Value.int frd, Value.int fbd, Value.int fir])), (co, Sum.inr (1, [Value.int xcache, Value.int xpending, Value.long xlow, Value.long xrange, Value.long xcode, Value.long xreadLow, Value.long xreadRange, Value.ref ri, Value.ref ro, Value.ref rw, Value.int xasked]))]) (va_runV (As := [Value.int (nI (oB vv (j - 1)))]) (rest := []) ⟨hx, hb, hml, hown, hts⟩ (f_Row_add l dC dI cI cM cO H.size (hSl H) ri ria9 rik9 rif9 b9 (oB vv (j - 1)) (hr9) (hg9) (by omega)) (cwV 1 hts (my_gV k708 k473 k474 k6 k475) rfl rfl rfl cu_Row_add_1 ⟨by rw [hR]; exact Nat.le_of_ble_eq_true rfl, by rw [hR]; exact Nat.le_of_ble_eq_true rfl⟩) (my_preVg hK hN (hP.sub [2, 3] rfl) (hD.sub [2, 3] (by decide +kernel) rfl) 0 rfl rfl) rfl rfl hl.1 rfl (lv_room (Nat.le_of_ble_eq_true rfl)) d_RC_octets_42 ⟨by rw [hR]; exact (show d9 + (rPh rik9) ≤ (rPh rik) by omega), by rw [hR]; exact (show d9 + (rPh rik9) ≤ (rPh rik) by omega)⟩) hP hD hS hA [2, 3] [0, 1] rfl rfl (by decide +kernel) (by decide +kernel) (fun u9 d_42 H locs hd_42 hw_42 hP hD hS => ?_)
          obtain ⟨rraq_42, rrkq_42, rrfq_42⟩ := u9
          obtain ⟨hrr_42, hGrr_42⟩ : rOk (nI (b9 ++ [(oB vv (j - 1))]).length) rrkq_42 ∧ gIs rrfq_42 (b9 ++ [(oB vv (j - 1))]) := hw_42
          have hd_42 : d_42 + (rPh rrkq_42) ≤ (rPh rik9) := hd_42
          have hPD : my_PD (dC, dI) vwCl A [(rc, Sum.inr (6, [Value.ref co, Value.ref ma, Value.int (nI k), Value.int fit, Value.int fen, Value.int frd, Value.int fbd, Value.int fir])), (co, Sum.inr (1, [Value.int xcache, Value.int xpending, Value.long xlow, Value.long xrange, Value.long xcode, Value.long xreadLow, Value.long xreadRange, Value.ref ri, Value.ref ro, Value.ref rw, Value.int xasked])), (ri, Sum.inr (0, [Value.int (nI (b9 ++ [(oB vv (j - 1))]).length), Value.ref rraq_42])), (rraq_42, Sum.inl (cI, rrkq_42, Sum.inl rrfq_42))] H := ⟨hP, hD⟩
          have hP := hPD.1
          have hD := hPD.2
          obtain ⟨v_6, ev_6⟩ : ∃ y : Int32, y = i9 + (-8) := ⟨_, rfl⟩
          refine lv_iinc (v := v_6) (lv' := [(2, Value.int v_6), (0, Value.ref rc), (1, Value.int vv)]) hx hb d_RC_octets_45 hl (k := 0) rfl (by rw [ev_6]; rfl) (by decide) rfl (fun ls hl => ?_)
          refine lv_goto (tgt := 24) hx hb d_RC_octets_48 (by decide) ?_
          exact ih9_24 _ (by first | omega | (omega)) v_6 (j - 1) (b9 ++ [oB vv (j - 1)]) rraq_42 rrkq_42 rrfq_42 (d9 + d_42) rfl (by have z9 := I_dn8 c_3 ev_6; omega) (by omega) (by rw [hb9, show j = (j - 1) + 1 by omega, List.range_succ, List.reverse_append]; simp) (by rw [List.length_append, List.length_singleton]; omega) (hrr_42) (hGrr_42) (by omega) H locs ls (hP.sub [0, 1, 2, 3] rfl) (hD.sub [0, 1, 2, 3] (by decide +kernel) rfl) hS (lv_sub hl [0, 1, 2] rfl)
    exact J_24 _ (24 : Int32) (4 : Nat) is ria rik rif (0 : Nat) rfl (by decide) (by decide) (rfl) (rfl) (hri) (hGri) (by omega) H locs ls (hP.sub [0, 1, 2, 3] rfl) (hD.sub [0, 1, 2, 3] (by decide +kernel) rfl) hS (lv_sub hl [0, 1, 2] rfl)
  · exact absurd ((nI_cmp (b := 6000) (by omega) (by decide)).mpr (by omega)) c_2
set_option maxHeartbeats 2000000 in
set_option maxRecDepth 100000 in
theorem f_RC_takeA_Carries (l : Launch) (dC : Nat → ClassId) (dI : Nat → Nat → Nat) (cI cM cO : ClassId) (sz : Nat) (rc : Nat) (ma : Nat) (k : Nat) (fit : Int32) (fen : Int32) (frd : Int32) (fbd : Int32) (fir : Int32) (mf : Nat → Option Nat) (co : Nat) (xcache : Int32) (xpending : Int32) (xlow : Int64) (xrange : Int64) (xcode : Int64) (xreadLow : Int64) (xreadRange : Int64) (ri : Nat) (ro : Nat) (rw : Nat) (xasked : Int32) (roa : Nat) (rok : Nat) (rof : Nat → Int32) (os : List Nat) (nn : Int32) (hro : rOk (nI os.length) rok) (hGro : gIs rof os) (hLro : os.length ≤ 8192) (hno : nn < 0 ∨ nI os.length < nn - 2) : MetI l y_RC_take (Cond.code y_RC_take prog_1_method_10_code 4 (some .int) :: gw) ({ frames := 0, cells := 0, slots := 0, locals := 0 } : Room) (dC, dI) vwCl (kT cI cM cO) [Value.ref rc, Value.int nn] [(rc, Sum.inr (6, [Value.ref co, Value.ref ma, Value.int (nI k), Value.int fit, Value.int fen, Value.int frd, Value.int fbd, Value.int fir])), (co, Sum.inr (1, [Value.int xcache, Value.int xpending, Value.long xlow, Value.long xrange, Value.long xcode, Value.long xreadLow, Value.long xreadRange, Value.ref ri, Value.ref ro, Value.ref rw, Value.int xasked])), (ro, Sum.inr (0, [Value.int (nI os.length), Value.ref roa])), (roa, Sum.inl (cI, rok, Sum.inl rof))] sz (fun (r : Int32) (u : Unit) => r = -2) (fun (u : Unit) => [(rc, Sum.inr (6, [Value.ref co, Value.ref ma, Value.int (nI k), Value.int fit, Value.int fen, Value.int frd, Value.int fbd, Value.int fir])), (co, Sum.inr (1, [Value.int xcache, Value.int xpending, Value.long xlow, Value.long xrange, Value.long xcode, Value.long xreadLow, Value.long xreadRange, Value.ref ri, Value.ref ro, Value.ref rw, Value.int xasked])), (ro, Sum.inr (0, [Value.int (nI os.length), Value.ref roa])), (roa, Sum.inl (cI, rok, Sum.inl rof))]) 0 0 := by
  refine my_ofI (cc := prog_1_method_10_code) (n := 4) (ret := (some .int)) (by decide) rfl (Nat.le_of_ble_eq_true rfl) ?_
  intro p e s m args below meth c R Q A ls H locs hx hb hr hts hown hlocks hml hnm hR hQ hA hl hP hK hN hD hS
  have hg : ∀ w ∈ gw, w.before args s = true := fun w h => hts w (List.mem_cons_of_mem _ h)
  have hown : s.vm.findClass "RangeCoders" = some m.cls := hown
  have hl : lv_has ls 4 [(0, Value.ref rc), (1, Value.int nn)] := hl
  refine lv_iload_n hx hb d_RC_take_0 rfl (lv_at hl 1 rfl) ?_
  refine lv_if_lt (tgt := 20) hx hb d_RC_take_1 (by decide) (fun c_1 => ?_) (fun c_1 => ?_)
  · refine lv_bipush (v := (-2)) hx hb d_RC_take_20 (by decide) ?_
    exact my_iret (v := (-2)) hx hb hr (rfl) hlocks hQ hK hS (Nat.le_refl _) (Nat.le_refl _) () (rfl) (hP.sub [0, 1, 2, 3] rfl) (hD.sub [0, 1, 2, 3] (by decide +kernel) rfl) d_RC_take_22
  · refine lv_iload_n hx hb d_RC_take_4 rfl (lv_at hl 1 rfl) ?_
    refine lv_iconst (v := 2) hx hb d_RC_take_5 (by decide) ?_
    refine lv_isub hx hb d_RC_take_6 ?_
    refine lv_topi (fun v_2 ev_2 => ?_)
    refine lv_aload_n hx hb d_RC_take_7 rfl (lv_at hl 0 rfl) ?_
    refine va_get (D := (dC, dI)) (ci := 6) (v := .ref co) (C := "RangeCoders") (T := T_RC) (N := 8) hx hb hg in_RC hown hK hP 0 rfl rfl 0 (by decide) (hg _ k258) (fun _ h9 => h9) rfl d_RC_take_8 ?_
    refine va_get (D := (dC, dI)) (ci := 1) (v := .ref ro) (C := "RangeCoders$Carries") (T := T_Carries) (N := 11) hx hb hg in_Carries hown hK hP 1 rfl rfl 8 (by decide) (hg _ k108) (fun _ h9 => h9) rfl d_RC_take_11 ?_
    refine va_get (D := (dC, dI)) (ci := 0) (v := .int (nI os.length)) (C := "RangeCoders$Row") (T := T_Row) (N := 2) hx hb hg in_Row hown hK hP 2 rfl rfl 0 (by decide) (hg _ k58) (fun _ h9 => h9) rfl d_RC_take_14 ?_
    refine lv_icmp_le (tgt := 23) hx hb d_RC_take_17 (by decide) (fun c_3 => ?_) (fun c_3 => ?_)
    · exact absurd hno (fun h9 => h9.elim c_1 (fun q9 => absurd (by rw [← ev_2]; exact c_3) (Int32.not_le.mpr q9)))
    · refine lv_bipush (v := (-2)) hx hb d_RC_take_20 (by decide) ?_
      exact my_iret (v := (-2)) hx hb hr (rfl) hlocks hQ hK hS (Nat.le_refl _) (Nat.le_refl _) () (rfl) (hP.sub [0, 1, 2, 3] rfl) (hD.sub [0, 1, 2, 3] (by decide +kernel) rfl) d_RC_take_22
set_option maxHeartbeats 2000000 in
set_option maxRecDepth 100000 in
theorem f_RC_takeB_Carries (l : Launch) (dC : Nat → ClassId) (dI : Nat → Nat → Nat) (cI cM cO : ClassId) (sz : Nat) (sl : Nat) (rc : Nat) (ma : Nat) (k : Nat) (fit : Int32) (fen : Int32) (frd : Int32) (fbd : Int32) (fir : Int32) (mf : Nat → Option Nat) (co : Nat) (xcache : Int32) (xpending : Int32) (xlow : Int64) (xrange : Int64) (xcode : Int64) (xreadLow : Int64) (xreadRange : Int64) (ri : Nat) (ro : Nat) (rw : Nat) (xasked : Int32) (roa : Nat) (rok : Nat) (rof : Nat → Int32) (os : List Nat) (rin : Int32) (ria : Nat) (rik : Nat) (rif : Nat → Int32) (nn : Int32) (ll : Nat) (hro : rOk (nI os.length) rok) (hGro : gIs rof os) (hLro : os.length ≤ 8192) (hri : rOk rin rik) (hn0 : ¬ nn < 0) (hn2 : nn - 2 ≤ nI os.length) (hll : ll ≤ os.length) (hl1 : nn = 1 → ll = os.length) (hl2 : ¬ nn = 1 → (if (0 : Int32) < nn - 2 then nn - 2 else 0) = nI ll) : MetIg l y_RC_take (Cond.code y_RC_take prog_1_method_10_code 4 (some .int) :: gw) ({ frames := 3, cells := rPh rik, slots := rPh rik, locals := 83 } : Room) (dC, dI) vwCl (kT cI cM cO) [Value.ref rc, Value.int nn] [(rc, Sum.inr (6, [Value.ref co, Value.ref ma, Value.int (nI k), Value.int fit, Value.int fen, Value.int frd, Value.int fbd, Value.int fir])), (co, Sum.inr (1, [Value.int xcache, Value.int xpending, Value.long xlow, Value.long xrange, Value.long xcode, Value.long xreadLow, Value.long xreadRange, Value.ref ri, Value.ref ro, Value.ref rw, Value.int xasked])), (ro, Sum.inr (0, [Value.int (nI os.length), Value.ref roa])), (roa, Sum.inl (cI, rok, Sum.inl rof)), (ri, Sum.inr (0, [Value.int rin, Value.ref ria])), (ria, Sum.inl (cI, rik, Sum.inl rif))] sz sl (fun (r : Int32) (u : Nat × Nat × (Nat → Int32)) => r = nI (os.take ll).length ∧ rOk (nI (os.take ll).length) u.2.1 ∧ gIs u.2.2 (os.take ll)) (fun (u : Nat × Nat × (Nat → Int32)) => [(rc, Sum.inr (6, [Value.ref co, Value.ref ma, Value.int (nI k), Value.int fit, Value.int fen, Value.int 0, Value.int 0, Value.int 0])), (co, Sum.inr (1, [Value.int xcache, Value.int xpending, Value.long xlow, Value.long xrange, Value.long xcode, Value.long xreadLow, Value.long xreadRange, Value.ref ri, Value.ref ro, Value.ref rw, Value.int xasked])), (ro, Sum.inr (0, [Value.int (nI os.length), Value.ref roa])), (roa, Sum.inl (cI, rok, Sum.inl rof)), (ri, Sum.inr (0, [Value.int (nI (os.take ll).length), Value.ref u.1])), (u.1, Sum.inl (cI, u.2.1, Sum.inl u.2.2))]) (rPh rik) (fun (u : Nat × Nat × (Nat → Int32)) => rPh u.2.1) := by
  refine my_ofIg (cc := prog_1_method_10_code) (n := 4) (ret := (some .int)) (by decide) rfl (Nat.le_of_ble_eq_true rfl) ?_
  intro p e s m args below meth c R Q A ls H locs hx hb hr hts hown hlocks hml hnm hR hQ hA hl hP hK hN hD hS
  have hg : ∀ w ∈ gw, w.before args s = true := fun w h => hts w (List.mem_cons_of_mem _ h)
  have hown : s.vm.findClass "RangeCoders" = some m.cls := hown
  have hl : lv_has ls 4 [(0, Value.ref rc), (1, Value.int nn)] := hl
  have hlti := rOk_lt hri
  have hlto := rOk_lt hro
  refine lv_iload_n hx hb d_RC_take_0 rfl (lv_at hl 1 rfl) ?_
  refine lv_if_lt (tgt := 20) hx hb d_RC_take_1 (by decide) (fun c_1 => ?_) (fun c_1 => ?_)
  · exact absurd c_1 hn0
  · refine lv_iload_n hx hb d_RC_take_4 rfl (lv_at hl 1 rfl) ?_
    refine lv_iconst (v := 2) hx hb d_RC_take_5 (by decide) ?_
    refine lv_isub hx hb d_RC_take_6 ?_
    refine lv_topi (fun v_2 ev_2 => ?_)
    refine lv_aload_n hx hb d_RC_take_7 rfl (lv_at hl 0 rfl) ?_
    refine va_get (D := (dC, dI)) (ci := 6) (v := .ref co) (C := "RangeCoders") (T := T_RC) (N := 8) hx hb hg in_RC hown hK hP 0 rfl rfl 0 (by decide) (hg _ k258) (fun _ h9 => h9) rfl d_RC_take_8 ?_
    refine va_get (D := (dC, dI)) (ci := 1) (v := .ref ro) (C := "RangeCoders$Carries") (T := T_Carries) (N := 11) hx hb hg in_Carries hown hK hP 1 rfl rfl 8 (by decide) (hg _ k108) (fun _ h9 => h9) rfl d_RC_take_11 ?_
    refine va_get (D := (dC, dI)) (ci := 0) (v := .int (nI os.length)) (C := "RangeCoders$Row") (T := T_Row) (N := 2) hx hb hg in_Row hown hK hP 2 rfl rfl 0 (by decide) (hg _ k58) (fun _ h9 => h9) rfl d_RC_take_14 ?_
    refine lv_icmp_le (tgt := 23) hx hb d_RC_take_17 (by decide) (fun c_3 => ?_) (fun c_3 => ?_)
    · refine lv_iload_n hx hb d_RC_take_23 rfl (lv_at hl 1 rfl) ?_
      refine lv_iconst (v := 1) hx hb d_RC_take_24 (by decide) ?_
      refine lv_icmp_ne (tgt := 41) hx hb d_RC_take_25 (by decide) (fun c_4 => ?_) (fun c_4 => ?_)
      · refine lv_iconst (v := 0) hx hb d_RC_take_41 (by decide) ?_
        refine lv_iload_n hx hb d_RC_take_42 rfl (lv_at hl 1 rfl) ?_
        refine lv_iconst (v := 2) hx hb d_RC_take_43 (by decide) ?_
        refine lv_isub hx hb d_RC_take_44 ?_
        refine lv_topi (fun v_5 ev_5 => ?_)
        refine va_mmax hx hb (by rw [hml]; exact hl.1.symm) hown (hg _ k33) (hg _ k34) (hg _ k2) (hg _ k35) (by rw [hR]; exact Nat.le_of_ble_eq_true rfl) (by rw [hR]; exact Nat.le_of_ble_eq_true rfl) (Nat.zero_le _) (Nat.zero_le _) d_RC_take_45 ?_
        refine lv_topi (fun v_6 ev_6 => ?_)
        have z9 : v_6 = nI ll := by rw [← hl2 c_4]; subst_vars; rfl
        subst z9
        refine lv_istore_n (lv' := [(2, Value.int (nI ll)), (0, Value.ref rc), (1, Value.int nn)]) hx hb d_RC_take_48 rfl hl (by decide) rfl (fun ls hl => ?_)
        refine lv_aload_n hx hb d_RC_take_49 rfl (lv_at hl 1 rfl) ?_
        refine va_get (D := (dC, dI)) (ci := 6) (v := .ref co) (C := "RangeCoders") (T := T_RC) (N := 8) hx hb hg in_RC hown hK hP 0 rfl rfl 0 (by decide) (hg _ k258) (fun _ h9 => h9) rfl d_RC_take_50 ?_
        refine va_get (D := (dC, dI)) (ci := 1) (v := .ref ri) (C := "RangeCoders$Carries") (T := T_Carries) (N := 11) hx hb hg in_Carries hown hK hP 1 rfl rfl 7 (by decide) (hg _ k102) (fun _ h9 => h9) rfl d_RC_take_53 ?_
        refine my_cv (wr := [(rc, Sum.inr (6, [Value.ref co, Value.ref ma, Value.int (nI k), Value.int fit, Value.int fen, Value.int frd, Value.int fbd, Value.int fir])), (co, Sum.inr (1, [Value.int xcache, Value.int xpending, Value.long xlow, Value.long xrange, Value.long xcode, Value.long xreadLow, Value.long xreadRange, Value.ref ri, Value.ref ro, Value.ref rw, Value.int xasked])), (ro, Sum.inr (0, [Value.int (nI os.length), Value.ref roa])), (roa, Sum.inl (cI, rok, Sum.inl rof))]) (va_runV (As := []) (rest := []) ⟨hx, hb, hml, hown, hts⟩ (c_Row_clear l dC dI cI cM cO H.size ri rin ria rik rif (hri)) (cwV 0 hts (my_gV k713 k594 k595 k6 k596) rfl rfl rfl cu_Row_clear_0 ⟨by rw [hR]; exact Nat.le_of_ble_eq_true rfl, by rw [hR]; exact Nat.le_of_ble_eq_true rfl⟩) (my_preV hK hN (hP.sub [4, 5] rfl) (hD.sub [4, 5] (by decide +kernel) rfl) 0 rfl rfl) rfl rfl hl.1 rfl (lv_room (Nat.le_of_ble_eq_true rfl)) d_RC_take_56 ⟨by rw [hR]; exact (show 0 + 0 ≤ (rPh rik) by omega), by rw [hR]; exact (show 0 + 0 ≤ (rPh rik) by omega)⟩) hP hD hS hA [4, 5] [0, 1, 2, 3] rfl rfl (by decide +kernel) (by decide +kernel) (fun u9 H locs hw_56 hP hD hS => ?_)
        have hr_56 : rOk 0 rik := hw_56
        have hPD : my_PD (dC, dI) vwCl A [(rc, Sum.inr (6, [Value.ref co, Value.ref ma, Value.int (nI k), Value.int fit, Value.int fen, Value.int frd, Value.int fbd, Value.int fir])), (co, Sum.inr (1, [Value.int xcache, Value.int xpending, Value.long xlow, Value.long xrange, Value.long xcode, Value.long xreadLow, Value.long xreadRange, Value.ref ri, Value.ref ro, Value.ref rw, Value.int xasked])), (ro, Sum.inr (0, [Value.int (nI os.length), Value.ref roa])), (roa, Sum.inl (cI, rok, Sum.inl rof)), (ri, Sum.inr (0, [Value.int 0, Value.ref ria])), (ria, Sum.inl (cI, rik, Sum.inl rif))] H := ⟨hP, hD⟩
        have hP := hPD.1
        have hD := hPD.2
        refine lv_iconst (v := 0) hx hb d_RC_take_59 (by decide) ?_
        refine lv_istore_n (lv' := [(3, Value.int 0), (2, Value.int (nI ll)), (0, Value.ref rc), (1, Value.int nn)]) hx hb d_RC_take_60 rfl hl (by decide) rfl (fun ls hl => ?_)
        have J_61 : ∀ (n9_61 : Nat) (j : Nat) (b9 : List Nat) (ria9 : Nat) (rik9 : Nat) (rif9 : Nat → Int32) (d9 : Nat) (hn9_61 : ll - j = n9_61) (hj : j ≤ ll) (hb9 : b9 = os.take j) (hr9 : rOk (nI b9.length) rik9) (hg9 : gIs rif9 b9) (hd9 : d9 + rPh rik9 ≤ rPh rik) (H : Heap) (locs : List Loc) (ls : Array Slot), va_P (dC, dI) vwCl [(rc, Sum.inr (6, [Value.ref co, Value.ref ma, Value.int (nI k), Value.int fit, Value.int fen, Value.int frd, Value.int fbd, Value.int fir])), (co, Sum.inr (1, [Value.int xcache, Value.int xpending, Value.long xlow, Value.long xrange, Value.long xcode, Value.long xreadLow, Value.long xreadRange, Value.ref ri, Value.ref ro, Value.ref rw, Value.int xasked])), (ro, Sum.inr (0, [Value.int (nI os.length), Value.ref roa])), (roa, Sum.inl (cI, rok, Sum.inl rof)), (ri, Sum.inr (0, [Value.int (nI b9.length), Value.ref ria9])), (ria9, Sum.inl (cI, rik9, Sum.inl rif9))] H → va_D A [(rc, Sum.inr (6, [Value.ref co, Value.ref ma, Value.int (nI k), Value.int fit, Value.int fen, Value.int frd, Value.int fbd, Value.int fir])), (co, Sum.inr (1, [Value.int xcache, Value.int xpending, Value.long xlow, Value.long xrange, Value.long xcode, Value.long xreadLow, Value.long xreadRange, Value.ref ri, Value.ref ro, Value.ref rw, Value.int xasked])), (ro, Sum.inr (0, [Value.int (nI os.length), Value.ref roa])), (roa, Sum.inl (cI, rok, Sum.inl rof)), (ri, Sum.inr (0, [Value.int (nI b9.length), Value.ref ria9])), (ria9, Sum.inl (cI, rik9, Sum.inl rif9))] → va_S A s.heap H locs → lv_has ls 4 [(3, Value.int (nI j)), (2, Value.int (nI ll)), (0, Value.ref rc), (1, Value.int nn)] → W p l e R s m args below meth c H locs d9 d9 Q (F0 m 61 ls []) := by
          intro n9_61
          induction n9_61 using Nat.strongRecOn with
          | ind n9_61 ih9_61 =>
            intro j b9 ria9 rik9 rif9 d9 hn9_61 hj hb9 hr9 hg9 hd9 H locs ls hP hD hS hl
            have hbl : b9.length = j := by rw [hb9, List.length_take]; omega
            refine lv_iload_n hx hb d_RC_take_61 rfl (lv_at hl 0 rfl) ?_
            refine lv_iload_n hx hb d_RC_take_62 rfl (lv_at hl 1 rfl) ?_
            refine lv_icmp_ge (tgt := 93) hx hb d_RC_take_63 (by decide) (fun c_7 => ?_) (fun c_7 => ?_)
            · have hj3 : ll = j := by have := nI_ge' (by omega) (by omega) c_7; omega
              subst hj3
              have hPD : my_PD (dC, dI) vwCl A [(rc, Sum.inr (6, [Value.ref co, Value.ref ma, Value.int (nI k), Value.int fit, Value.int fen, Value.int frd, Value.int fbd, Value.int fir])), (co, Sum.inr (1, [Value.int xcache, Value.int xpending, Value.long xlow, Value.long xrange, Value.long xcode, Value.long xreadLow, Value.long xreadRange, Value.ref ri, Value.ref ro, Value.ref rw, Value.int xasked])), (ro, Sum.inr (0, [Value.int (nI os.length), Value.ref roa])), (roa, Sum.inl (cI, rok, Sum.inl rof)), (ri, Sum.inr (0, [Value.int (nI b9.length), Value.ref ria9])), (ria9, Sum.inl (cI, rik9, Sum.inl rif9))] H := ⟨hP, hD⟩
              have hP := hPD.1
              have hD := hPD.2
              have z9 : b9 = os.take ll := hb9
              subst z9
              refine lv_aload_n hx hb d_RC_take_93 rfl (lv_at hl 2 rfl) ?_
              refine lv_iconst (v := 0) hx hb d_RC_take_94 (by decide) ?_
              refine va_put (D := (dC, dI)) (ci := 6) (v := .int 0) (ty := .boolean) (C := "RangeCoders") (T := T_RC) (N := 8) hx hb hg in_RC t_RC o_RC n_RC hown hK hP hD hS 0 rfl rfl 5 (by decide) (hg _ k263) (fun _ h9 => h9) rfl (o_RC 5 (by decide)) rfl rfl (Nat.le_of_ble_eq_true rfl) d_RC_take_95 (fun H locs hP hD hS => ?_)
              have hPD : my_PD (dC, dI) vwCl A [(rc, Sum.inr (6, [Value.ref co, Value.ref ma, Value.int (nI k), Value.int fit, Value.int fen, Value.int 0, Value.int fbd, Value.int fir])), (co, Sum.inr (1, [Value.int xcache, Value.int xpending, Value.long xlow, Value.long xrange, Value.long xcode, Value.long xreadLow, Value.long xreadRange, Value.ref ri, Value.ref ro, Value.ref rw, Value.int xasked])), (ro, Sum.inr (0, [Value.int (nI os.length), Value.ref roa])), (roa, Sum.inl (cI, rok, Sum.inl rof)), (ri, Sum.inr (0, [Value.int (nI (os.take ll).length), Value.ref ria9])), (ria9, Sum.inl (cI, rik9, Sum.inl rif9))] H := ⟨hP, hD⟩
              have hP := hPD.1
              have hD := hPD.2
              refine lv_aload_n hx hb d_RC_take_98 rfl (lv_at hl 2 rfl) ?_
              refine lv_iconst (v := 0) hx hb d_RC_take_99 (by decide) ?_
              refine va_put (D := (dC, dI)) (ci := 6) (v := .int 0) (ty := .boolean) (C := "RangeCoders") (T := T_RC) (N := 8) hx hb hg in_RC t_RC o_RC n_RC hown hK hP hD hS 0 rfl rfl 6 (by decide) (hg _ k264) (fun _ h9 => h9) rfl (o_RC 6 (by decide)) rfl rfl (Nat.le_of_ble_eq_true rfl) d_RC_take_100 (fun H locs hP hD hS => ?_)
              have hPD : my_PD (dC, dI) vwCl A [(rc, Sum.inr (6, [Value.ref co, Value.ref ma, Value.int (nI k), Value.int fit, Value.int fen, Value.int 0, Value.int 0, Value.int fir])), (co, Sum.inr (1, [Value.int xcache, Value.int xpending, Value.long xlow, Value.long xrange, Value.long xcode, Value.long xreadLow, Value.long xreadRange, Value.ref ri, Value.ref ro, Value.ref rw, Value.int xasked])), (ro, Sum.inr (0, [Value.int (nI os.length), Value.ref roa])), (roa, Sum.inl (cI, rok, Sum.inl rof)), (ri, Sum.inr (0, [Value.int (nI (os.take ll).length), Value.ref ria9])), (ria9, Sum.inl (cI, rik9, Sum.inl rif9))] H := ⟨hP, hD⟩
              have hP := hPD.1
              have hD := hPD.2
              refine lv_aload_n hx hb d_RC_take_103 rfl (lv_at hl 2 rfl) ?_
              refine lv_iconst (v := 0) hx hb d_RC_take_104 (by decide) ?_
              refine va_put (D := (dC, dI)) (ci := 6) (v := .int 0) (ty := .int) (C := "RangeCoders") (T := T_RC) (N := 8) hx hb hg in_RC t_RC o_RC n_RC hown hK hP hD hS 0 rfl rfl 7 (by decide) (hg _ k265) (fun _ h9 => h9) rfl (o_RC 7 (by decide)) rfl rfl (Nat.le_of_ble_eq_true rfl) d_RC_take_105 (fun H locs hP hD hS => ?_)
              have hPD : my_PD (dC, dI) vwCl A [(rc, Sum.inr (6, [Value.ref co, Value.ref ma, Value.int (nI k), Value.int fit, Value.int fen, Value.int 0, Value.int 0, Value.int 0])), (co, Sum.inr (1, [Value.int xcache, Value.int xpending, Value.long xlow, Value.long xrange, Value.long xcode, Value.long xreadLow, Value.long xreadRange, Value.ref ri, Value.ref ro, Value.ref rw, Value.int xasked])), (ro, Sum.inr (0, [Value.int (nI os.length), Value.ref roa])), (roa, Sum.inl (cI, rok, Sum.inl rof)), (ri, Sum.inr (0, [Value.int (nI (os.take ll).length), Value.ref ria9])), (ria9, Sum.inl (cI, rik9, Sum.inl rif9))] H := ⟨hP, hD⟩
              have hP := hPD.1
              have hD := hPD.2
              refine lv_aload_n hx hb d_RC_take_108 rfl (lv_at hl 2 rfl) ?_
              refine va_get (D := (dC, dI)) (ci := 6) (v := .ref co) (C := "RangeCoders") (T := T_RC) (N := 8) hx hb hg in_RC hown hK hP 0 rfl rfl 0 (by decide) (hg _ k258) (fun _ h9 => h9) rfl d_RC_take_109 ?_
              refine va_get (D := (dC, dI)) (ci := 1) (v := .ref ri) (C := "RangeCoders$Carries") (T := T_Carries) (N := 11) hx hb hg in_Carries hown hK hP 1 rfl rfl 7 (by decide) (hg _ k102) (fun _ h9 => h9) rfl d_RC_take_112 ?_
              refine va_get (D := (dC, dI)) (ci := 0) (v := .int (nI (os.take ll).length)) (C := "RangeCoders$Row") (T := T_Row) (N := 2) hx hb hg in_Row hown hK hP 4 rfl rfl 0 (by decide) (hg _ k58) (fun _ h9 => h9) rfl d_RC_take_115 ?_
              exact my_iretg (v := nI (os.take ll).length) hx hb hr (rfl) hlocks hQ hK hS (ria9, rik9, rif9) (show d9 + (rPh rik9) ≤ (rPh rik) by omega) (show d9 + (rPh rik9) ≤ (rPh rik) by omega) (⟨rfl, hr9, hg9⟩) (hP.sub [0, 1, 2, 3, 4, 5] rfl) (hD.sub [0, 1, 2, 3, 4, 5] (by decide +kernel) rfl) d_RC_take_118
            · have hj2 : j < ll := nI_lt' (by omega) c_7
              refine lv_aload_n hx hb d_RC_take_66 rfl (lv_at hl 2 rfl) ?_
              refine va_get (D := (dC, dI)) (ci := 6) (v := .ref co) (C := "RangeCoders") (T := T_RC) (N := 8) hx hb hg in_RC hown hK hP 0 rfl rfl 0 (by decide) (hg _ k258) (fun _ h9 => h9) rfl d_RC_take_67 ?_
              refine va_get (D := (dC, dI)) (ci := 1) (v := .ref ri) (C := "RangeCoders$Carries") (T := T_Carries) (N := 11) hx hb hg in_Carries hown hK hP 1 rfl rfl 7 (by decide) (hg _ k102) (fun _ h9 => h9) rfl d_RC_take_70 ?_
              refine lv_aload_n hx hb d_RC_take_73 rfl (lv_at hl 2 rfl) ?_
              refine va_get (D := (dC, dI)) (ci := 6) (v := .ref co) (C := "RangeCoders") (T := T_RC) (N := 8) hx hb hg in_RC hown hK hP 0 rfl rfl 0 (by decide) (hg _ k258) (fun _ h9 => h9) rfl d_RC_take_74 ?_
              refine va_get (D := (dC, dI)) (ci := 1) (v := .ref ro) (C := "RangeCoders$Carries") (T := T_Carries) (N := 11) hx hb hg in_Carries hown hK hP 1 rfl rfl 8 (by decide) (hg _ k108) (fun _ h9 => h9) rfl d_RC_take_77 ?_
              refine lv_iload_n hx hb d_RC_take_80 rfl (lv_at hl 0 rfl) ?_
              refine my_ci (wr := [(rc, Sum.inr (6, [Value.ref co, Value.ref ma, Value.int (nI k), Value.int fit, Value.int fen, Value.int frd, Value.int fbd, Value.int fir])), (co, Sum.inr (1, [Value.int xcache, Value.int xpending, Value.long xlow, Value.long xrange, Value.long xcode, Value.long xreadLow, Value.long xreadRange, Value.ref ri, Value.ref ro, Value.ref rw, Value.int xasked])), (ri, Sum.inr (0, [Value.int (nI b9.length), Value.ref ria9])), (ria9, Sum.inl (cI, rik9, Sum.inl rif9))]) (va_runV (As := [Value.int (nI j)]) (rest := [Value.ref ri]) ⟨hx, hb, hml, hown, hts⟩ (f_Row_at l dC dI cI cM cO H.size ro roa rok rof os (nI j) (hro) (hGro) (hLro)) (cwV 1 hts (my_gV k703 k659 k660 k6 k661) rfl rfl rfl cu_Row_at_1 ⟨by rw [hR]; exact Nat.le_of_ble_eq_true rfl, by rw [hR]; exact Nat.le_of_ble_eq_true rfl⟩) (my_preV hK hN (hP.sub [2, 3] rfl) (hD.sub [2, 3] (by decide +kernel) rfl) 0 rfl rfl) rfl rfl hl.1 rfl (lv_room (Nat.le_of_ble_eq_true rfl)) d_RC_take_81 ⟨by rw [hR]; exact (show d9 + 0 ≤ (rPh rik) by omega), by rw [hR]; exact (show d9 + 0 ≤ (rPh rik) by omega)⟩) hP hD hS hA [2, 3] [0, 1, 4, 5] rfl rfl (by decide +kernel) (by decide +kernel) (fun r_81 u9 H locs hw_81 hP hD hS => ?_)
              have hr_81 : r_81 = rAt os (nI j) := hw_81
              have hPD : my_PD (dC, dI) vwCl A [(rc, Sum.inr (6, [Value.ref co, Value.ref ma, Value.int (nI k), Value.int fit, Value.int fen, Value.int frd, Value.int fbd, Value.int fir])), (co, Sum.inr (1, [Value.int xcache, Value.int xpending, Value.long xlow, Value.long xrange, Value.long xcode, Value.long xreadLow, Value.long xreadRange, Value.ref ri, Value.ref ro, Value.ref rw, Value.int xasked])), (ri, Sum.inr (0, [Value.int (nI b9.length), Value.ref ria9])), (ria9, Sum.inl (cI, rik9, Sum.inl rif9)), (ro, Sum.inr (0, [Value.int (nI os.length), Value.ref roa])), (roa, Sum.inl (cI, rok, Sum.inl rof))] H := ⟨hP, hD⟩
              have hP := hPD.1
              have hD := hPD.2
              have z9 : r_81 = nI (os.getD j 0) := by rw [hr_81]; exact rAt_nI (by omega) (by omega)
              subst z9
              refine my_cvg (wr := [(rc, Sum.inr (6, [Value.ref co, Value.ref ma, Value.int (nI k), Value.int fit, Value.int fen, Value.int frd, Value.int fbd, Value.int fir])), (co, Sum.inr (1, [Value.int xcache, Value.int xpending, Value.long xlow, Value.long xrange, Value.long xcode, Value.long xreadLow, Value.long xreadRange, Value.ref ri, Value.ref ro, Value.ref rw, Value.int xasked])), (ro, Sum.inr (0, [Value.int (nI os.length), Value.ref roa])), (roa, Sum.inl (cI, rok, Sum.inl rof))]) (va_runV (As := [Value.int (nI (os.getD j 0))]) (rest := []) ⟨hx, hb, hml, hown, hts⟩ (f_Row_add l dC dI cI cM cO H.size (hSl H) ri ria9 rik9 rif9 b9 (os.getD j 0) (hr9) (hg9) (by omega)) (cwV 1 hts (my_gV k708 k473 k474 k6 k475) rfl rfl rfl cu_Row_add_1 ⟨by rw [hR]; exact Nat.le_of_ble_eq_true rfl, by rw [hR]; exact Nat.le_of_ble_eq_true rfl⟩) (my_preVg hK hN (hP.sub [2, 3] rfl) (hD.sub [2, 3] (by decide +kernel) rfl) 0 rfl rfl) rfl rfl hl.1 rfl (lv_room (Nat.le_of_ble_eq_true rfl)) d_RC_take_84 ⟨by rw [hR]; exact (show d9 + (rPh rik9) ≤ (rPh rik) by omega), by rw [hR]; exact (show d9 + (rPh rik9) ≤ (rPh rik) by omega)⟩) hP hD hS hA [2, 3] [0, 1, 4, 5] rfl rfl (by decide +kernel) (by decide +kernel) (fun u9 d_84 H locs hd_84 hw_84 hP hD hS => ?_)
              obtain ⟨rraq_84, rrkq_84, rrfq_84⟩ := u9
              obtain ⟨hrr_84, hGrr_84⟩ : rOk (nI (b9 ++ [(os.getD j 0)]).length) rrkq_84 ∧ gIs rrfq_84 (b9 ++ [(os.getD j 0)]) := hw_84
              have hd_84 : d_84 + (rPh rrkq_84) ≤ (rPh rik9) := hd_84
              have hPD : my_PD (dC, dI) vwCl A [(rc, Sum.inr (6, [Value.ref co, Value.ref ma, Value.int (nI k), Value.int fit, Value.int fen, Value.int frd, Value.int fbd, Value.int fir])), (co, Sum.inr (1, [Value.int xcache, Value.int xpending, Value.long xlow, Value.long xrange, Value.long xcode, Value.long xreadLow, Value.long xreadRange, Value.ref ri, Value.ref ro, Value.ref rw, Value.int xasked])), (ro, Sum.inr (0, [Value.int (nI os.length), Value.ref roa])), (roa, Sum.inl (cI, rok, Sum.inl rof)), (ri, Sum.inr (0, [Value.int (nI (b9 ++ [(os.getD j 0)]).length), Value.ref rraq_84])), (rraq_84, Sum.inl (cI, rrkq_84, Sum.inl rrfq_84))] H := ⟨hP, hD⟩
              have hP := hPD.1
              have hD := hPD.2
              obtain ⟨v_8, ev_8⟩ : ∃ y : Int32, y = (nI j) + (1) := ⟨_, rfl⟩
              refine lv_iinc (v := v_8) (lv' := [(3, Value.int v_8), (2, Value.int (nI ll)), (0, Value.ref rc), (1, Value.int nn)]) hx hb d_RC_take_87 hl (k := 0) rfl (by rw [ev_8]; rfl) (by decide) rfl (fun ls hl => ?_)
              have z9 : v_8 = nI (j + 1) := by rw [ev_8]; exact nI_1 _
              subst z9
              refine lv_goto (tgt := 61) hx hb d_RC_take_90 (by decide) ?_
              exact ih9_61 _ (by first | omega | (omega)) (j + 1) (b9 ++ [os.getD j 0]) rraq_84 rrkq_84 rrfq_84 (d9 + d_84) rfl (by omega) (by rw [hb9]; exact tk_st (by omega)) (hrr_84) (hGrr_84) (by omega) H locs ls (hP.sub [0, 1, 2, 3, 4, 5] rfl) (hD.sub [0, 1, 2, 3, 4, 5] (by decide +kernel) rfl) hS (lv_sub hl [0, 1, 2, 3] rfl)
        exact J_61 _ (0 : Nat) ([]) ria rik rif (0 : Nat) rfl (Nat.zero_le _) (rfl) (hr_56) (fun i h => absurd h (Nat.not_lt_zero i)) (by omega) H locs ls (hP.sub [0, 1, 2, 3, 4, 5] rfl) (hD.sub [0, 1, 2, 3, 4, 5] (by decide +kernel) rfl) hS (lv_sub hl [0, 1, 2, 3] rfl)
      · refine lv_aload_n hx hb d_RC_take_28 rfl (lv_at hl 0 rfl) ?_
        refine va_get (D := (dC, dI)) (ci := 6) (v := .ref co) (C := "RangeCoders") (T := T_RC) (N := 8) hx hb hg in_RC hown hK hP 0 rfl rfl 0 (by decide) (hg _ k258) (fun _ h9 => h9) rfl d_RC_take_29 ?_
        refine va_get (D := (dC, dI)) (ci := 1) (v := .ref ro) (C := "RangeCoders$Carries") (T := T_Carries) (N := 11) hx hb hg in_Carries hown hK hP 1 rfl rfl 8 (by decide) (hg _ k108) (fun _ h9 => h9) rfl d_RC_take_32 ?_
        refine va_get (D := (dC, dI)) (ci := 0) (v := .int (nI os.length)) (C := "RangeCoders$Row") (T := T_Row) (N := 2) hx hb hg in_Row hown hK hP 2 rfl rfl 0 (by decide) (hg _ k58) (fun _ h9 => h9) rfl d_RC_take_35 ?_
        refine lv_goto (tgt := 48) hx hb d_RC_take_38 (by decide) ?_
        refine W.eq (g2 := F0 m 48 ls [Value.int (nI ll)]) (by rw [hl1 c_4]) ?_
        refine lv_istore_n (lv' := [(2, Value.int (nI ll)), (0, Value.ref rc), (1, Value.int nn)]) hx hb d_RC_take_48 rfl hl (by decide) rfl (fun ls hl => ?_)
        refine lv_aload_n hx hb d_RC_take_49 rfl (lv_at hl 1 rfl) ?_
        refine va_get (D := (dC, dI)) (ci := 6) (v := .ref co) (C := "RangeCoders") (T := T_RC) (N := 8) hx hb hg in_RC hown hK hP 0 rfl rfl 0 (by decide) (hg _ k258) (fun _ h9 => h9) rfl d_RC_take_50 ?_
        refine va_get (D := (dC, dI)) (ci := 1) (v := .ref ri) (C := "RangeCoders$Carries") (T := T_Carries) (N := 11) hx hb hg in_Carries hown hK hP 1 rfl rfl 7 (by decide) (hg _ k102) (fun _ h9 => h9) rfl d_RC_take_53 ?_
        refine my_cv (wr := [(rc, Sum.inr (6, [Value.ref co, Value.ref ma, Value.int (nI k), Value.int fit, Value.int fen, Value.int frd, Value.int fbd, Value.int fir])), (co, Sum.inr (1, [Value.int xcache, Value.int xpending, Value.long xlow, Value.long xrange, Value.long xcode, Value.long xreadLow, Value.long xreadRange, Value.ref ri, Value.ref ro, Value.ref rw, Value.int xasked])), (ro, Sum.inr (0, [Value.int (nI os.length), Value.ref roa])), (roa, Sum.inl (cI, rok, Sum.inl rof))]) (va_runV (As := []) (rest := []) ⟨hx, hb, hml, hown, hts⟩ (c_Row_clear l dC dI cI cM cO H.size ri rin ria rik rif (hri)) (cwV 0 hts (my_gV k713 k594 k595 k6 k596) rfl rfl rfl cu_Row_clear_0 ⟨by rw [hR]; exact Nat.le_of_ble_eq_true rfl, by rw [hR]; exact Nat.le_of_ble_eq_true rfl⟩) (my_preV hK hN (hP.sub [4, 5] rfl) (hD.sub [4, 5] (by decide +kernel) rfl) 0 rfl rfl) rfl rfl hl.1 rfl (lv_room (Nat.le_of_ble_eq_true rfl)) d_RC_take_56 ⟨by rw [hR]; exact (show 0 + 0 ≤ (rPh rik) by omega), by rw [hR]; exact (show 0 + 0 ≤ (rPh rik) by omega)⟩) hP hD hS hA [4, 5] [0, 1, 2, 3] rfl rfl (by decide +kernel) (by decide +kernel) (fun u9 H locs hw_56 hP hD hS => ?_)
        have hr_56 : rOk 0 rik := hw_56
        have hPD : my_PD (dC, dI) vwCl A [(rc, Sum.inr (6, [Value.ref co, Value.ref ma, Value.int (nI k), Value.int fit, Value.int fen, Value.int frd, Value.int fbd, Value.int fir])), (co, Sum.inr (1, [Value.int xcache, Value.int xpending, Value.long xlow, Value.long xrange, Value.long xcode, Value.long xreadLow, Value.long xreadRange, Value.ref ri, Value.ref ro, Value.ref rw, Value.int xasked])), (ro, Sum.inr (0, [Value.int (nI os.length), Value.ref roa])), (roa, Sum.inl (cI, rok, Sum.inl rof)), (ri, Sum.inr (0, [Value.int 0, Value.ref ria])), (ria, Sum.inl (cI, rik, Sum.inl rif))] H := ⟨hP, hD⟩
        have hP := hPD.1
        have hD := hPD.2
        refine lv_iconst (v := 0) hx hb d_RC_take_59 (by decide) ?_
        refine lv_istore_n (lv' := [(3, Value.int 0), (2, Value.int (nI ll)), (0, Value.ref rc), (1, Value.int nn)]) hx hb d_RC_take_60 rfl hl (by decide) rfl (fun ls hl => ?_)
        have J_61 : ∀ (n9_61 : Nat) (j : Nat) (b9 : List Nat) (ria9 : Nat) (rik9 : Nat) (rif9 : Nat → Int32) (d9 : Nat) (hn9_61 : ll - j = n9_61) (hj : j ≤ ll) (hb9 : b9 = os.take j) (hr9 : rOk (nI b9.length) rik9) (hg9 : gIs rif9 b9) (hd9 : d9 + rPh rik9 ≤ rPh rik) (H : Heap) (locs : List Loc) (ls : Array Slot), va_P (dC, dI) vwCl [(rc, Sum.inr (6, [Value.ref co, Value.ref ma, Value.int (nI k), Value.int fit, Value.int fen, Value.int frd, Value.int fbd, Value.int fir])), (co, Sum.inr (1, [Value.int xcache, Value.int xpending, Value.long xlow, Value.long xrange, Value.long xcode, Value.long xreadLow, Value.long xreadRange, Value.ref ri, Value.ref ro, Value.ref rw, Value.int xasked])), (ro, Sum.inr (0, [Value.int (nI os.length), Value.ref roa])), (roa, Sum.inl (cI, rok, Sum.inl rof)), (ri, Sum.inr (0, [Value.int (nI b9.length), Value.ref ria9])), (ria9, Sum.inl (cI, rik9, Sum.inl rif9))] H → va_D A [(rc, Sum.inr (6, [Value.ref co, Value.ref ma, Value.int (nI k), Value.int fit, Value.int fen, Value.int frd, Value.int fbd, Value.int fir])), (co, Sum.inr (1, [Value.int xcache, Value.int xpending, Value.long xlow, Value.long xrange, Value.long xcode, Value.long xreadLow, Value.long xreadRange, Value.ref ri, Value.ref ro, Value.ref rw, Value.int xasked])), (ro, Sum.inr (0, [Value.int (nI os.length), Value.ref roa])), (roa, Sum.inl (cI, rok, Sum.inl rof)), (ri, Sum.inr (0, [Value.int (nI b9.length), Value.ref ria9])), (ria9, Sum.inl (cI, rik9, Sum.inl rif9))] → va_S A s.heap H locs → lv_has ls 4 [(3, Value.int (nI j)), (2, Value.int (nI ll)), (0, Value.ref rc), (1, Value.int nn)] → W p l e R s m args below meth c H locs d9 d9 Q (F0 m 61 ls []) := by
          intro n9_61
          induction n9_61 using Nat.strongRecOn with
          | ind n9_61 ih9_61 =>
            intro j b9 ria9 rik9 rif9 d9 hn9_61 hj hb9 hr9 hg9 hd9 H locs ls hP hD hS hl
            have hbl : b9.length = j := by rw [hb9, List.length_take]; omega
            refine lv_iload_n hx hb d_RC_take_61 rfl (lv_at hl 0 rfl) ?_
            refine lv_iload_n hx hb d_RC_take_62 rfl (lv_at hl 1 rfl) ?_
            refine lv_icmp_ge (tgt := 93) hx hb d_RC_take_63 (by decide) (fun c_9 => ?_) (fun c_9 => ?_)
            · have hj3 : ll = j := by have := nI_ge' (by omega) (by omega) c_9; omega
              subst hj3
              have hPD : my_PD (dC, dI) vwCl A [(rc, Sum.inr (6, [Value.ref co, Value.ref ma, Value.int (nI k), Value.int fit, Value.int fen, Value.int frd, Value.int fbd, Value.int fir])), (co, Sum.inr (1, [Value.int xcache, Value.int xpending, Value.long xlow, Value.long xrange, Value.long xcode, Value.long xreadLow, Value.long xreadRange, Value.ref ri, Value.ref ro, Value.ref rw, Value.int xasked])), (ro, Sum.inr (0, [Value.int (nI os.length), Value.ref roa])), (roa, Sum.inl (cI, rok, Sum.inl rof)), (ri, Sum.inr (0, [Value.int (nI b9.length), Value.ref ria9])), (ria9, Sum.inl (cI, rik9, Sum.inl rif9))] H := ⟨hP, hD⟩
              have hP := hPD.1
              have hD := hPD.2
              have z9 : b9 = os.take ll := hb9
              subst z9
              refine lv_aload_n hx hb d_RC_take_93 rfl (lv_at hl 2 rfl) ?_
              refine lv_iconst (v := 0) hx hb d_RC_take_94 (by decide) ?_
              refine va_put (D := (dC, dI)) (ci := 6) (v := .int 0) (ty := .boolean) (C := "RangeCoders") (T := T_RC) (N := 8) hx hb hg in_RC t_RC o_RC n_RC hown hK hP hD hS 0 rfl rfl 5 (by decide) (hg _ k263) (fun _ h9 => h9) rfl (o_RC 5 (by decide)) rfl rfl (Nat.le_of_ble_eq_true rfl) d_RC_take_95 (fun H locs hP hD hS => ?_)
              have hPD : my_PD (dC, dI) vwCl A [(rc, Sum.inr (6, [Value.ref co, Value.ref ma, Value.int (nI k), Value.int fit, Value.int fen, Value.int 0, Value.int fbd, Value.int fir])), (co, Sum.inr (1, [Value.int xcache, Value.int xpending, Value.long xlow, Value.long xrange, Value.long xcode, Value.long xreadLow, Value.long xreadRange, Value.ref ri, Value.ref ro, Value.ref rw, Value.int xasked])), (ro, Sum.inr (0, [Value.int (nI os.length), Value.ref roa])), (roa, Sum.inl (cI, rok, Sum.inl rof)), (ri, Sum.inr (0, [Value.int (nI (os.take ll).length), Value.ref ria9])), (ria9, Sum.inl (cI, rik9, Sum.inl rif9))] H := ⟨hP, hD⟩
              have hP := hPD.1
              have hD := hPD.2
              refine lv_aload_n hx hb d_RC_take_98 rfl (lv_at hl 2 rfl) ?_
              refine lv_iconst (v := 0) hx hb d_RC_take_99 (by decide) ?_
              refine va_put (D := (dC, dI)) (ci := 6) (v := .int 0) (ty := .boolean) (C := "RangeCoders") (T := T_RC) (N := 8) hx hb hg in_RC t_RC o_RC n_RC hown hK hP hD hS 0 rfl rfl 6 (by decide) (hg _ k264) (fun _ h9 => h9) rfl (o_RC 6 (by decide)) rfl rfl (Nat.le_of_ble_eq_true rfl) d_RC_take_100 (fun H locs hP hD hS => ?_)
              have hPD : my_PD (dC, dI) vwCl A [(rc, Sum.inr (6, [Value.ref co, Value.ref ma, Value.int (nI k), Value.int fit, Value.int fen, Value.int 0, Value.int 0, Value.int fir])), (co, Sum.inr (1, [Value.int xcache, Value.int xpending, Value.long xlow, Value.long xrange, Value.long xcode, Value.long xreadLow, Value.long xreadRange, Value.ref ri, Value.ref ro, Value.ref rw, Value.int xasked])), (ro, Sum.inr (0, [Value.int (nI os.length), Value.ref roa])), (roa, Sum.inl (cI, rok, Sum.inl rof)), (ri, Sum.inr (0, [Value.int (nI (os.take ll).length), Value.ref ria9])), (ria9, Sum.inl (cI, rik9, Sum.inl rif9))] H := ⟨hP, hD⟩
              have hP := hPD.1
              have hD := hPD.2
              refine lv_aload_n hx hb d_RC_take_103 rfl (lv_at hl 2 rfl) ?_
              refine lv_iconst (v := 0) hx hb d_RC_take_104 (by decide) ?_
              refine va_put (D := (dC, dI)) (ci := 6) (v := .int 0) (ty := .int) (C := "RangeCoders") (T := T_RC) (N := 8) hx hb hg in_RC t_RC o_RC n_RC hown hK hP hD hS 0 rfl rfl 7 (by decide) (hg _ k265) (fun _ h9 => h9) rfl (o_RC 7 (by decide)) rfl rfl (Nat.le_of_ble_eq_true rfl) d_RC_take_105 (fun H locs hP hD hS => ?_)
              have hPD : my_PD (dC, dI) vwCl A [(rc, Sum.inr (6, [Value.ref co, Value.ref ma, Value.int (nI k), Value.int fit, Value.int fen, Value.int 0, Value.int 0, Value.int 0])), (co, Sum.inr (1, [Value.int xcache, Value.int xpending, Value.long xlow, Value.long xrange, Value.long xcode, Value.long xreadLow, Value.long xreadRange, Value.ref ri, Value.ref ro, Value.ref rw, Value.int xasked])), (ro, Sum.inr (0, [Value.int (nI os.length), Value.ref roa])), (roa, Sum.inl (cI, rok, Sum.inl rof)), (ri, Sum.inr (0, [Value.int (nI (os.take ll).length), Value.ref ria9])), (ria9, Sum.inl (cI, rik9, Sum.inl rif9))] H := ⟨hP, hD⟩
              have hP := hPD.1
              have hD := hPD.2
              refine lv_aload_n hx hb d_RC_take_108 rfl (lv_at hl 2 rfl) ?_
              refine va_get (D := (dC, dI)) (ci := 6) (v := .ref co) (C := "RangeCoders") (T := T_RC) (N := 8) hx hb hg in_RC hown hK hP 0 rfl rfl 0 (by decide) (hg _ k258) (fun _ h9 => h9) rfl d_RC_take_109 ?_
              refine va_get (D := (dC, dI)) (ci := 1) (v := .ref ri) (C := "RangeCoders$Carries") (T := T_Carries) (N := 11) hx hb hg in_Carries hown hK hP 1 rfl rfl 7 (by decide) (hg _ k102) (fun _ h9 => h9) rfl d_RC_take_112 ?_
              refine va_get (D := (dC, dI)) (ci := 0) (v := .int (nI (os.take ll).length)) (C := "RangeCoders$Row") (T := T_Row) (N := 2) hx hb hg in_Row hown hK hP 4 rfl rfl 0 (by decide) (hg _ k58) (fun _ h9 => h9) rfl d_RC_take_115 ?_
              exact my_iretg (v := nI (os.take ll).length) hx hb hr (rfl) hlocks hQ hK hS (ria9, rik9, rif9) (show d9 + (rPh rik9) ≤ (rPh rik) by omega) (show d9 + (rPh rik9) ≤ (rPh rik) by omega) (⟨rfl, hr9, hg9⟩) (hP.sub [0, 1, 2, 3, 4, 5] rfl) (hD.sub [0, 1, 2, 3, 4, 5] (by decide +kernel) rfl) d_RC_take_118
            · have hj2 : j < ll := nI_lt' (by omega) c_9
              refine lv_aload_n hx hb d_RC_take_66 rfl (lv_at hl 2 rfl) ?_
              refine va_get (D := (dC, dI)) (ci := 6) (v := .ref co) (C := "RangeCoders") (T := T_RC) (N := 8) hx hb hg in_RC hown hK hP 0 rfl rfl 0 (by decide) (hg _ k258) (fun _ h9 => h9) rfl d_RC_take_67 ?_
              refine va_get (D := (dC, dI)) (ci := 1) (v := .ref ri) (C := "RangeCoders$Carries") (T := T_Carries) (N := 11) hx hb hg in_Carries hown hK hP 1 rfl rfl 7 (by decide) (hg _ k102) (fun _ h9 => h9) rfl d_RC_take_70 ?_
              refine lv_aload_n hx hb d_RC_take_73 rfl (lv_at hl 2 rfl) ?_
              refine va_get (D := (dC, dI)) (ci := 6) (v := .ref co) (C := "RangeCoders") (T := T_RC) (N := 8) hx hb hg in_RC hown hK hP 0 rfl rfl 0 (by decide) (hg _ k258) (fun _ h9 => h9) rfl d_RC_take_74 ?_
              refine va_get (D := (dC, dI)) (ci := 1) (v := .ref ro) (C := "RangeCoders$Carries") (T := T_Carries) (N := 11) hx hb hg in_Carries hown hK hP 1 rfl rfl 8 (by decide) (hg _ k108) (fun _ h9 => h9) rfl d_RC_take_77 ?_
              refine lv_iload_n hx hb d_RC_take_80 rfl (lv_at hl 0 rfl) ?_
              refine my_ci (wr := [(rc, Sum.inr (6, [Value.ref co, Value.ref ma, Value.int (nI k), Value.int fit, Value.int fen, Value.int frd, Value.int fbd, Value.int fir])), (co, Sum.inr (1, [Value.int xcache, Value.int xpending, Value.long xlow, Value.long xrange, Value.long xcode, Value.long xreadLow, Value.long xreadRange, Value.ref ri, Value.ref ro, Value.ref rw, Value.int xasked])), (ri, Sum.inr (0, [Value.int (nI b9.length), Value.ref ria9])), (ria9, Sum.inl (cI, rik9, Sum.inl rif9))]) (va_runV (As := [Value.int (nI j)]) (rest := [Value.ref ri]) ⟨hx, hb, hml, hown, hts⟩ (f_Row_at l dC dI cI cM cO H.size ro roa rok rof os (nI j) (hro) (hGro) (hLro)) (cwV 1 hts (my_gV k703 k659 k660 k6 k661) rfl rfl rfl cu_Row_at_1 ⟨by rw [hR]; exact Nat.le_of_ble_eq_true rfl, by rw [hR]; exact Nat.le_of_ble_eq_true rfl⟩) (my_preV hK hN (hP.sub [2, 3] rfl) (hD.sub [2, 3] (by decide +kernel) rfl) 0 rfl rfl) rfl rfl hl.1 rfl (lv_room (Nat.le_of_ble_eq_true rfl)) d_RC_take_81 ⟨by rw [hR]; exact (show d9 + 0 ≤ (rPh rik) by omega), by rw [hR]; exact (show d9 + 0 ≤ (rPh rik) by omega)⟩) hP hD hS hA [2, 3] [0, 1, 4, 5] rfl rfl (by decide +kernel) (by decide +kernel) (fun r_81 u9 H locs hw_81 hP hD hS => ?_)
              have hr_81 : r_81 = rAt os (nI j) := hw_81
              have hPD : my_PD (dC, dI) vwCl A [(rc, Sum.inr (6, [Value.ref co, Value.ref ma, Value.int (nI k), Value.int fit, Value.int fen, Value.int frd, Value.int fbd, Value.int fir])), (co, Sum.inr (1, [Value.int xcache, Value.int xpending, Value.long xlow, Value.long xrange, Value.long xcode, Value.long xreadLow, Value.long xreadRange, Value.ref ri, Value.ref ro, Value.ref rw, Value.int xasked])), (ri, Sum.inr (0, [Value.int (nI b9.length), Value.ref ria9])), (ria9, Sum.inl (cI, rik9, Sum.inl rif9)), (ro, Sum.inr (0, [Value.int (nI os.length), Value.ref roa])), (roa, Sum.inl (cI, rok, Sum.inl rof))] H := ⟨hP, hD⟩
              have hP := hPD.1
              have hD := hPD.2
              have z9 : r_81 = nI (os.getD j 0) := by rw [hr_81]; exact rAt_nI (by omega) (by omega)
              subst z9
              refine my_cvg (wr := [(rc, Sum.inr (6, [Value.ref co, Value.ref ma, Value.int (nI k), Value.int fit, Value.int fen, Value.int frd, Value.int fbd, Value.int fir])), (co, Sum.inr (1, [Value.int xcache, Value.int xpending, Value.long xlow, Value.long xrange, Value.long xcode, Value.long xreadLow, Value.long xreadRange, Value.ref ri, Value.ref ro, Value.ref rw, Value.int xasked])), (ro, Sum.inr (0, [Value.int (nI os.length), Value.ref roa])), (roa, Sum.inl (cI, rok, Sum.inl rof))]) (va_runV (As := [Value.int (nI (os.getD j 0))]) (rest := []) ⟨hx, hb, hml, hown, hts⟩ (f_Row_add l dC dI cI cM cO H.size (hSl H) ri ria9 rik9 rif9 b9 (os.getD j 0) (hr9) (hg9) (by omega)) (cwV 1 hts (my_gV k708 k473 k474 k6 k475) rfl rfl rfl cu_Row_add_1 ⟨by rw [hR]; exact Nat.le_of_ble_eq_true rfl, by rw [hR]; exact Nat.le_of_ble_eq_true rfl⟩) (my_preVg hK hN (hP.sub [2, 3] rfl) (hD.sub [2, 3] (by decide +kernel) rfl) 0 rfl rfl) rfl rfl hl.1 rfl (lv_room (Nat.le_of_ble_eq_true rfl)) d_RC_take_84 ⟨by rw [hR]; exact (show d9 + (rPh rik9) ≤ (rPh rik) by omega), by rw [hR]; exact (show d9 + (rPh rik9) ≤ (rPh rik) by omega)⟩) hP hD hS hA [2, 3] [0, 1, 4, 5] rfl rfl (by decide +kernel) (by decide +kernel) (fun u9 d_84 H locs hd_84 hw_84 hP hD hS => ?_)
              obtain ⟨rraq_84, rrkq_84, rrfq_84⟩ := u9
              obtain ⟨hrr_84, hGrr_84⟩ : rOk (nI (b9 ++ [(os.getD j 0)]).length) rrkq_84 ∧ gIs rrfq_84 (b9 ++ [(os.getD j 0)]) := hw_84
              have hd_84 : d_84 + (rPh rrkq_84) ≤ (rPh rik9) := hd_84
              have hPD : my_PD (dC, dI) vwCl A [(rc, Sum.inr (6, [Value.ref co, Value.ref ma, Value.int (nI k), Value.int fit, Value.int fen, Value.int frd, Value.int fbd, Value.int fir])), (co, Sum.inr (1, [Value.int xcache, Value.int xpending, Value.long xlow, Value.long xrange, Value.long xcode, Value.long xreadLow, Value.long xreadRange, Value.ref ri, Value.ref ro, Value.ref rw, Value.int xasked])), (ro, Sum.inr (0, [Value.int (nI os.length), Value.ref roa])), (roa, Sum.inl (cI, rok, Sum.inl rof)), (ri, Sum.inr (0, [Value.int (nI (b9 ++ [(os.getD j 0)]).length), Value.ref rraq_84])), (rraq_84, Sum.inl (cI, rrkq_84, Sum.inl rrfq_84))] H := ⟨hP, hD⟩
              have hP := hPD.1
              have hD := hPD.2
              obtain ⟨v_10, ev_10⟩ : ∃ y : Int32, y = (nI j) + (1) := ⟨_, rfl⟩
              refine lv_iinc (v := v_10) (lv' := [(3, Value.int v_10), (2, Value.int (nI ll)), (0, Value.ref rc), (1, Value.int nn)]) hx hb d_RC_take_87 hl (k := 0) rfl (by rw [ev_10]; rfl) (by decide) rfl (fun ls hl => ?_)
              have z9 : v_10 = nI (j + 1) := by rw [ev_10]; exact nI_1 _
              subst z9
              refine lv_goto (tgt := 61) hx hb d_RC_take_90 (by decide) ?_
              exact ih9_61 _ (by first | omega | (omega)) (j + 1) (b9 ++ [os.getD j 0]) rraq_84 rrkq_84 rrfq_84 (d9 + d_84) rfl (by omega) (by rw [hb9]; exact tk_st (by omega)) (hrr_84) (hGrr_84) (by omega) H locs ls (hP.sub [0, 1, 2, 3, 4, 5] rfl) (hD.sub [0, 1, 2, 3, 4, 5] (by decide +kernel) rfl) hS (lv_sub hl [0, 1, 2, 3] rfl)
        exact J_61 _ (0 : Nat) ([]) ria rik rif (0 : Nat) rfl (Nat.zero_le _) (rfl) (hr_56) (fun i h => absurd h (Nat.not_lt_zero i)) (by omega) H locs ls (hP.sub [0, 1, 2, 3, 4, 5] rfl) (hD.sub [0, 1, 2, 3, 4, 5] (by decide +kernel) rfl) hS (lv_sub hl [0, 1, 2, 3] rfl)
    · exact absurd (by rw [ev_2]; exact hn2) c_3
set_option maxHeartbeats 2000000 in
set_option maxRecDepth 100000 in
theorem f_RC_spoilA_Carries (l : Launch) (dC : Nat → ClassId) (dI : Nat → Nat → Nat) (cI cM cO : ClassId) (sz : Nat) (rc : Nat) (ma : Nat) (k : Nat) (fit : Int32) (fen : Int32) (frd : Int32) (fbd : Int32) (fir : Int32) (mf : Nat → Option Nat) (co : Nat) (xcache : Int32) (xpending : Int32) (xlow : Int64) (xrange : Int64) (xcode : Int64) (xreadLow : Int64) (xreadRange : Int64) (ri : Nat) (ro : Nat) (rw : Nat) (xasked : Int32) (ria : Nat) (rik : Nat) (rif : Nat → Int32) (is : List Nat) (ii : Int32) (vv : Int32) (hri : rOk (nI is.length) rik) (hGri : gIs rif is) (hLri : is.length ≤ 6000) (hno : ¬ (0 ≤ ii ∧ ii < nI is.length)) : MetI l y_RC_spoil (Cond.code y_RC_spoil prog_1_method_11_code 3 (some .int) :: gw) ({ frames := 1, cells := 0, slots := 0, locals := 21 } : Room) (dC, dI) vwCl (kT cI cM cO) [Value.ref rc, Value.int ii, Value.int vv] [(rc, Sum.inr (6, [Value.ref co, Value.ref ma, Value.int (nI k), Value.int fit, Value.int fen, Value.int frd, Value.int fbd, Value.int fir])), (co, Sum.inr (1, [Value.int xcache, Value.int xpending, Value.long xlow, Value.long xrange, Value.long xcode, Value.long xreadLow, Value.long xreadRange, Value.ref ri, Value.ref ro, Value.ref rw, Value.int xasked])), (ri, Sum.inr (0, [Value.int (nI is.length), Value.ref ria])), (ria, Sum.inl (cI, rik, Sum.inl rif))] sz (fun (r : Int32) (u : Unit) => r = -1) (fun (u : Unit) => [(rc, Sum.inr (6, [Value.ref co, Value.ref ma, Value.int (nI k), Value.int fit, Value.int fen, Value.int frd, Value.int fbd, Value.int fir])), (co, Sum.inr (1, [Value.int xcache, Value.int xpending, Value.long xlow, Value.long xrange, Value.long xcode, Value.long xreadLow, Value.long xreadRange, Value.ref ri, Value.ref ro, Value.ref rw, Value.int xasked])), (ri, Sum.inr (0, [Value.int (nI is.length), Value.ref ria])), (ria, Sum.inl (cI, rik, Sum.inl rif))]) 0 0 := by
  refine my_ofI (cc := prog_1_method_11_code) (n := 3) (ret := (some .int)) (by decide) rfl (Nat.le_of_ble_eq_true rfl) ?_
  intro p e s m args below meth c R Q A ls H locs hx hb hr hts hown hlocks hml hnm hR hQ hA hl hP hK hN hD hS
  have hg : ∀ w ∈ gw, w.before args s = true := fun w h => hts w (List.mem_cons_of_mem _ h)
  have hown : s.vm.findClass "RangeCoders" = some m.cls := hown
  have hl : lv_has ls 3 [(0, Value.ref rc), (1, Value.int ii), (2, Value.int vv)] := hl
  refine lv_aload_n hx hb d_RC_spoil_0 rfl (lv_at hl 0 rfl) ?_
  refine va_get (D := (dC, dI)) (ci := 6) (v := .ref co) (C := "RangeCoders") (T := T_RC) (N := 8) hx hb hg in_RC hown hK hP 0 rfl rfl 0 (by decide) (hg _ k258) (fun _ h9 => h9) rfl d_RC_spoil_1 ?_
  refine va_get (D := (dC, dI)) (ci := 1) (v := .ref ri) (C := "RangeCoders$Carries") (T := T_Carries) (N := 11) hx hb hg in_Carries hown hK hP 1 rfl rfl 7 (by decide) (hg _ k102) (fun _ h9 => h9) rfl d_RC_spoil_4 ?_
  refine lv_iload_n hx hb d_RC_spoil_7 rfl (lv_at hl 1 rfl) ?_
  refine my_ci (wr := [(rc, Sum.inr (6, [Value.ref co, Value.ref ma, Value.int (nI k), Value.int fit, Value.int fen, Value.int frd, Value.int fbd, Value.int fir])), (co, Sum.inr (1, [Value.int xcache, Value.int xpending, Value.long xlow, Value.long xrange, Value.long xcode, Value.long xreadLow, Value.long xreadRange, Value.ref ri, Value.ref ro, Value.ref rw, Value.int xasked]))]) (va_runV (As := [Value.int ii]) (rest := []) ⟨hx, hb, hml, hown, hts⟩ (f_Row_has l dC dI cI cM cO H.size ri ria rik rif is ii (hri) (hGri) (by omega)) (cwV 1 hts (my_gV k718 k663 k664 k6 k665) rfl rfl rfl cu_Row_has_1 ⟨by rw [hR]; exact Nat.le_of_ble_eq_true rfl, by rw [hR]; exact Nat.le_of_ble_eq_true rfl⟩) (my_preV hK hN (hP.sub [2, 3] rfl) (hD.sub [2, 3] (by decide +kernel) rfl) 0 rfl rfl) rfl rfl hl.1 rfl (lv_room (Nat.le_of_ble_eq_true rfl)) d_RC_spoil_8 ⟨by rw [hR]; exact Nat.le_of_ble_eq_true rfl, by rw [hR]; exact Nat.le_of_ble_eq_true rfl⟩) hP hD hS hA [2, 3] [0, 1] rfl rfl (by decide +kernel) (by decide +kernel) (fun r_8 u9 H locs hw_8 hP hD hS => ?_)
  obtain ⟨hr_8, hv_8⟩ : (r_8 = if 0 ≤ ii ∧ ii < nI is.length then 1 else 0) ∧ (r_8 ≠ 0 → vp_in ii rik) := hw_8
  have hPD : my_PD (dC, dI) vwCl A [(rc, Sum.inr (6, [Value.ref co, Value.ref ma, Value.int (nI k), Value.int fit, Value.int fen, Value.int frd, Value.int fbd, Value.int fir])), (co, Sum.inr (1, [Value.int xcache, Value.int xpending, Value.long xlow, Value.long xrange, Value.long xcode, Value.long xreadLow, Value.long xreadRange, Value.ref ri, Value.ref ro, Value.ref rw, Value.int xasked])), (ri, Sum.inr (0, [Value.int (nI is.length), Value.ref ria])), (ria, Sum.inl (cI, rik, Sum.inl rif))] H := ⟨hP, hD⟩
  have hP := hPD.1
  have hD := hPD.2
  refine lv_if_ne (tgt := 16) hx hb d_RC_spoil_11 (by decide) (fun c_1 => ?_) (fun c_1 => ?_)
  · exact absurd (one_ne hr_8 c_1) hno
  · refine lv_iconst (v := (-1)) hx hb d_RC_spoil_14 (by decide) ?_
    exact my_iret (v := (-1)) hx hb hr (rfl) hlocks hQ hK hS (Nat.le_refl _) (Nat.le_refl _) () (rfl) (hP.sub [0, 1, 2, 3] rfl) (hD.sub [0, 1, 2, 3] (by decide +kernel) rfl) d_RC_spoil_15
set_option maxHeartbeats 2000000 in
set_option maxRecDepth 100000 in
theorem f_RC_spoilV_Carries (l : Launch) (dC : Nat → ClassId) (dI : Nat → Nat → Nat) (cI cM cO : ClassId) (sz : Nat) (rc : Nat) (ma : Nat) (k : Nat) (fit : Int32) (fen : Int32) (frd : Int32) (fbd : Int32) (fir : Int32) (mf : Nat → Option Nat) (co : Nat) (xcache : Int32) (xpending : Int32) (xlow : Int64) (xrange : Int64) (xcode : Int64) (xreadLow : Int64) (xreadRange : Int64) (ri : Nat) (ro : Nat) (rw : Nat) (xasked : Int32) (ria : Nat) (rik : Nat) (rif : Nat → Int32) (is : List Nat) (i7 : Nat) (vv : Int32) (hri : rOk (nI is.length) rik) (hGri : gIs rif is) (hLri : is.length ≤ 6000) (hi7 : i7 < is.length) (hno : vv < 0 ∨ 255 < vv) : MetI l y_RC_spoil (Cond.code y_RC_spoil prog_1_method_11_code 3 (some .int) :: gw) ({ frames := 1, cells := 0, slots := 0, locals := 21 } : Room) (dC, dI) vwCl (kT cI cM cO) [Value.ref rc, Value.int (nI i7), Value.int vv] [(rc, Sum.inr (6, [Value.ref co, Value.ref ma, Value.int (nI k), Value.int fit, Value.int fen, Value.int frd, Value.int fbd, Value.int fir])), (co, Sum.inr (1, [Value.int xcache, Value.int xpending, Value.long xlow, Value.long xrange, Value.long xcode, Value.long xreadLow, Value.long xreadRange, Value.ref ri, Value.ref ro, Value.ref rw, Value.int xasked])), (ri, Sum.inr (0, [Value.int (nI is.length), Value.ref ria])), (ria, Sum.inl (cI, rik, Sum.inl rif))] sz (fun (r : Int32) (u : Unit) => r = -2) (fun (u : Unit) => [(rc, Sum.inr (6, [Value.ref co, Value.ref ma, Value.int (nI k), Value.int fit, Value.int fen, Value.int frd, Value.int fbd, Value.int fir])), (co, Sum.inr (1, [Value.int xcache, Value.int xpending, Value.long xlow, Value.long xrange, Value.long xcode, Value.long xreadLow, Value.long xreadRange, Value.ref ri, Value.ref ro, Value.ref rw, Value.int xasked])), (ri, Sum.inr (0, [Value.int (nI is.length), Value.ref ria])), (ria, Sum.inl (cI, rik, Sum.inl rif))]) 0 0 := by
  refine my_ofI (cc := prog_1_method_11_code) (n := 3) (ret := (some .int)) (by decide) rfl (Nat.le_of_ble_eq_true rfl) ?_
  intro p e s m args below meth c R Q A ls H locs hx hb hr hts hown hlocks hml hnm hR hQ hA hl hP hK hN hD hS
  have hg : ∀ w ∈ gw, w.before args s = true := fun w h => hts w (List.mem_cons_of_mem _ h)
  have hown : s.vm.findClass "RangeCoders" = some m.cls := hown
  have hl : lv_has ls 3 [(0, Value.ref rc), (1, Value.int (nI i7)), (2, Value.int vv)] := hl
  refine lv_aload_n hx hb d_RC_spoil_0 rfl (lv_at hl 0 rfl) ?_
  refine va_get (D := (dC, dI)) (ci := 6) (v := .ref co) (C := "RangeCoders") (T := T_RC) (N := 8) hx hb hg in_RC hown hK hP 0 rfl rfl 0 (by decide) (hg _ k258) (fun _ h9 => h9) rfl d_RC_spoil_1 ?_
  refine va_get (D := (dC, dI)) (ci := 1) (v := .ref ri) (C := "RangeCoders$Carries") (T := T_Carries) (N := 11) hx hb hg in_Carries hown hK hP 1 rfl rfl 7 (by decide) (hg _ k102) (fun _ h9 => h9) rfl d_RC_spoil_4 ?_
  refine lv_iload_n hx hb d_RC_spoil_7 rfl (lv_at hl 1 rfl) ?_
  refine my_ci (wr := [(rc, Sum.inr (6, [Value.ref co, Value.ref ma, Value.int (nI k), Value.int fit, Value.int fen, Value.int frd, Value.int fbd, Value.int fir])), (co, Sum.inr (1, [Value.int xcache, Value.int xpending, Value.long xlow, Value.long xrange, Value.long xcode, Value.long xreadLow, Value.long xreadRange, Value.ref ri, Value.ref ro, Value.ref rw, Value.int xasked]))]) (va_runV (As := [Value.int (nI i7)]) (rest := []) ⟨hx, hb, hml, hown, hts⟩ (f_Row_has l dC dI cI cM cO H.size ri ria rik rif is (nI i7) (hri) (hGri) (by omega)) (cwV 1 hts (my_gV k718 k663 k664 k6 k665) rfl rfl rfl cu_Row_has_1 ⟨by rw [hR]; exact Nat.le_of_ble_eq_true rfl, by rw [hR]; exact Nat.le_of_ble_eq_true rfl⟩) (my_preV hK hN (hP.sub [2, 3] rfl) (hD.sub [2, 3] (by decide +kernel) rfl) 0 rfl rfl) rfl rfl hl.1 rfl (lv_room (Nat.le_of_ble_eq_true rfl)) d_RC_spoil_8 ⟨by rw [hR]; exact Nat.le_of_ble_eq_true rfl, by rw [hR]; exact Nat.le_of_ble_eq_true rfl⟩) hP hD hS hA [2, 3] [0, 1] rfl rfl (by decide +kernel) (by decide +kernel) (fun r_8 u9 H locs hw_8 hP hD hS => ?_)
  obtain ⟨hr_8, hv_8⟩ : (r_8 = if 0 ≤ (nI i7) ∧ (nI i7) < nI is.length then 1 else 0) ∧ (r_8 ≠ 0 → vp_in (nI i7) rik) := hw_8
  have hPD : my_PD (dC, dI) vwCl A [(rc, Sum.inr (6, [Value.ref co, Value.ref ma, Value.int (nI k), Value.int fit, Value.int fen, Value.int frd, Value.int fbd, Value.int fir])), (co, Sum.inr (1, [Value.int xcache, Value.int xpending, Value.long xlow, Value.long xrange, Value.long xcode, Value.long xreadLow, Value.long xreadRange, Value.ref ri, Value.ref ro, Value.ref rw, Value.int xasked])), (ri, Sum.inr (0, [Value.int (nI is.length), Value.ref ria])), (ria, Sum.inl (cI, rik, Sum.inl rif))] H := ⟨hP, hD⟩
  have hP := hPD.1
  have hD := hPD.2
  refine lv_if_ne (tgt := 16) hx hb d_RC_spoil_11 (by decide) (fun c_1 => ?_) (fun c_1 => ?_)
  · refine lv_iload_n hx hb d_RC_spoil_16 rfl (lv_at hl 2 rfl) ?_
    refine lv_if_lt (tgt := 27) hx hb d_RC_spoil_17 (by decide) (fun c_2 => ?_) (fun c_2 => ?_)
    · refine lv_bipush (v := (-2)) hx hb d_RC_spoil_27 (by decide) ?_
      exact my_iret (v := (-2)) hx hb hr (rfl) hlocks hQ hK hS (Nat.le_refl _) (Nat.le_refl _) () (rfl) (hP.sub [0, 1, 2, 3] rfl) (hD.sub [0, 1, 2, 3] (by decide +kernel) rfl) d_RC_spoil_29
    · refine lv_iload_n hx hb d_RC_spoil_20 rfl (lv_at hl 2 rfl) ?_
      refine lv_sipush (v := 255) hx hb d_RC_spoil_21 (by decide) ?_
      refine lv_icmp_le (tgt := 30) hx hb d_RC_spoil_24 (by decide) (fun c_3 => ?_) (fun c_3 => ?_)
      · exact absurd hno (fun h9 => h9.elim c_2 (fun q9 => absurd c_3 (Int32.not_le.mpr q9)))
      · refine lv_bipush (v := (-2)) hx hb d_RC_spoil_27 (by decide) ?_
        exact my_iret (v := (-2)) hx hb hr (rfl) hlocks hQ hK hS (Nat.le_refl _) (Nat.le_refl _) () (rfl) (hP.sub [0, 1, 2, 3] rfl) (hD.sub [0, 1, 2, 3] (by decide +kernel) rfl) d_RC_spoil_29
  · exact absurd (has_in hi7 (by omega)) (one_eq hr_8 c_1)
set_option maxHeartbeats 2000000 in
set_option maxRecDepth 100000 in
theorem f_RC_spoilL_Carries (l : Launch) (dC : Nat → ClassId) (dI : Nat → Nat → Nat) (cI cM cO : ClassId) (sz : Nat) (rc : Nat) (ma : Nat) (k : Nat) (fit : Int32) (fen : Int32) (frd : Int32) (fbd : Int32) (fir : Int32) (mf : Nat → Option Nat) (co : Nat) (xcache : Int32) (xpending : Int32) (xlow : Int64) (xrange : Int64) (xcode : Int64) (xreadLow : Int64) (xreadRange : Int64) (ri : Nat) (ro : Nat) (rw : Nat) (xasked : Int32) (ria : Nat) (rik : Nat) (rif : Nat → Int32) (is : List Nat) (i7 : Nat) (t7 : Nat) (hri : rOk (nI is.length) rik) (hGri : gIs rif is) (hLri : is.length ≤ 6000) (hi7 : i7 < is.length) (ht7 : t7 ≤ 255) : MetI l y_RC_spoil (Cond.code y_RC_spoil prog_1_method_11_code 3 (some .int) :: gw) ({ frames := 2, cells := 0, slots := 0, locals := 43 } : Room) (dC, dI) vwCl (kT cI cM cO) [Value.ref rc, Value.int (nI i7), Value.int (nI t7)] [(rc, Sum.inr (6, [Value.ref co, Value.ref ma, Value.int (nI k), Value.int fit, Value.int fen, Value.int frd, Value.int fbd, Value.int fir])), (co, Sum.inr (1, [Value.int xcache, Value.int xpending, Value.long xlow, Value.long xrange, Value.long xcode, Value.long xreadLow, Value.long xreadRange, Value.ref ri, Value.ref ro, Value.ref rw, Value.int xasked])), (ri, Sum.inr (0, [Value.int (nI is.length), Value.ref ria])), (ria, Sum.inl (cI, rik, Sum.inl rif))] sz (fun (r : Int32) (u : (Nat → Int32)) => r = nI (is.getD i7 0 ^^^ t7) ∧ gIs u (is.set i7 (is.getD i7 0 ^^^ t7))) (fun (u : (Nat → Int32)) => [(rc, Sum.inr (6, [Value.ref co, Value.ref ma, Value.int (nI k), Value.int fit, Value.int fen, Value.int frd, Value.int fbd, Value.int fir])), (co, Sum.inr (1, [Value.int xcache, Value.int xpending, Value.long xlow, Value.long xrange, Value.long xcode, Value.long xreadLow, Value.long xreadRange, Value.ref ri, Value.ref ro, Value.ref rw, Value.int xasked])), (ri, Sum.inr (0, [Value.int (nI is.length), Value.ref ria])), (ria, Sum.inl (cI, rik, Sum.inl u))]) 0 0 := by
  refine my_ofI (cc := prog_1_method_11_code) (n := 3) (ret := (some .int)) (by decide) rfl (Nat.le_of_ble_eq_true rfl) ?_
  intro p e s m args below meth c R Q A ls H locs hx hb hr hts hown hlocks hml hnm hR hQ hA hl hP hK hN hD hS
  have hg : ∀ w ∈ gw, w.before args s = true := fun w h => hts w (List.mem_cons_of_mem _ h)
  have hown : s.vm.findClass "RangeCoders" = some m.cls := hown
  have hl : lv_has ls 3 [(0, Value.ref rc), (1, Value.int (nI i7)), (2, Value.int (nI t7))] := hl
  refine lv_aload_n hx hb d_RC_spoil_0 rfl (lv_at hl 0 rfl) ?_
  refine va_get (D := (dC, dI)) (ci := 6) (v := .ref co) (C := "RangeCoders") (T := T_RC) (N := 8) hx hb hg in_RC hown hK hP 0 rfl rfl 0 (by decide) (hg _ k258) (fun _ h9 => h9) rfl d_RC_spoil_1 ?_
  refine va_get (D := (dC, dI)) (ci := 1) (v := .ref ri) (C := "RangeCoders$Carries") (T := T_Carries) (N := 11) hx hb hg in_Carries hown hK hP 1 rfl rfl 7 (by decide) (hg _ k102) (fun _ h9 => h9) rfl d_RC_spoil_4 ?_
  refine lv_iload_n hx hb d_RC_spoil_7 rfl (lv_at hl 1 rfl) ?_
  refine my_ci (wr := [(rc, Sum.inr (6, [Value.ref co, Value.ref ma, Value.int (nI k), Value.int fit, Value.int fen, Value.int frd, Value.int fbd, Value.int fir])), (co, Sum.inr (1, [Value.int xcache, Value.int xpending, Value.long xlow, Value.long xrange, Value.long xcode, Value.long xreadLow, Value.long xreadRange, Value.ref ri, Value.ref ro, Value.ref rw, Value.int xasked]))]) (va_runV (As := [Value.int (nI i7)]) (rest := []) ⟨hx, hb, hml, hown, hts⟩ (f_Row_has l dC dI cI cM cO H.size ri ria rik rif is (nI i7) (hri) (hGri) (by omega)) (cwV 1 hts (my_gV k718 k663 k664 k6 k665) rfl rfl rfl cu_Row_has_1 ⟨by rw [hR]; exact Nat.le_of_ble_eq_true rfl, by rw [hR]; exact Nat.le_of_ble_eq_true rfl⟩) (my_preV hK hN (hP.sub [2, 3] rfl) (hD.sub [2, 3] (by decide +kernel) rfl) 0 rfl rfl) rfl rfl hl.1 rfl (lv_room (Nat.le_of_ble_eq_true rfl)) d_RC_spoil_8 ⟨by rw [hR]; exact Nat.le_of_ble_eq_true rfl, by rw [hR]; exact Nat.le_of_ble_eq_true rfl⟩) hP hD hS hA [2, 3] [0, 1] rfl rfl (by decide +kernel) (by decide +kernel) (fun r_8 u9 H locs hw_8 hP hD hS => ?_)
  obtain ⟨hr_8, hv_8⟩ : (r_8 = if 0 ≤ (nI i7) ∧ (nI i7) < nI is.length then 1 else 0) ∧ (r_8 ≠ 0 → vp_in (nI i7) rik) := hw_8
  have hPD : my_PD (dC, dI) vwCl A [(rc, Sum.inr (6, [Value.ref co, Value.ref ma, Value.int (nI k), Value.int fit, Value.int fen, Value.int frd, Value.int fbd, Value.int fir])), (co, Sum.inr (1, [Value.int xcache, Value.int xpending, Value.long xlow, Value.long xrange, Value.long xcode, Value.long xreadLow, Value.long xreadRange, Value.ref ri, Value.ref ro, Value.ref rw, Value.int xasked])), (ri, Sum.inr (0, [Value.int (nI is.length), Value.ref ria])), (ria, Sum.inl (cI, rik, Sum.inl rif))] H := ⟨hP, hD⟩
  have hP := hPD.1
  have hD := hPD.2
  refine lv_if_ne (tgt := 16) hx hb d_RC_spoil_11 (by decide) (fun c_1 => ?_) (fun c_1 => ?_)
  · refine lv_iload_n hx hb d_RC_spoil_16 rfl (lv_at hl 2 rfl) ?_
    refine lv_if_lt (tgt := 27) hx hb d_RC_spoil_17 (by decide) (fun c_2 => ?_) (fun c_2 => ?_)
    · exact absurd c_2 (nI_pos (by omega))
    · refine lv_iload_n hx hb d_RC_spoil_20 rfl (lv_at hl 2 rfl) ?_
      refine lv_sipush (v := 255) hx hb d_RC_spoil_21 (by decide) ?_
      refine lv_icmp_le (tgt := 30) hx hb d_RC_spoil_24 (by decide) (fun c_3 => ?_) (fun c_3 => ?_)
      · refine lv_aload_n hx hb d_RC_spoil_30 rfl (lv_at hl 0 rfl) ?_
        refine va_get (D := (dC, dI)) (ci := 6) (v := .ref co) (C := "RangeCoders") (T := T_RC) (N := 8) hx hb hg in_RC hown hK hP 0 rfl rfl 0 (by decide) (hg _ k258) (fun _ h9 => h9) rfl d_RC_spoil_31 ?_
        refine va_get (D := (dC, dI)) (ci := 1) (v := .ref ri) (C := "RangeCoders$Carries") (T := T_Carries) (N := 11) hx hb hg in_Carries hown hK hP 1 rfl rfl 7 (by decide) (hg _ k102) (fun _ h9 => h9) rfl d_RC_spoil_34 ?_
        refine lv_iload_n hx hb d_RC_spoil_37 rfl (lv_at hl 1 rfl) ?_
        refine lv_aload_n hx hb d_RC_spoil_38 rfl (lv_at hl 0 rfl) ?_
        refine va_get (D := (dC, dI)) (ci := 6) (v := .ref co) (C := "RangeCoders") (T := T_RC) (N := 8) hx hb hg in_RC hown hK hP 0 rfl rfl 0 (by decide) (hg _ k258) (fun _ h9 => h9) rfl d_RC_spoil_39 ?_
        refine va_get (D := (dC, dI)) (ci := 1) (v := .ref ri) (C := "RangeCoders$Carries") (T := T_Carries) (N := 11) hx hb hg in_Carries hown hK hP 1 rfl rfl 7 (by decide) (hg _ k102) (fun _ h9 => h9) rfl d_RC_spoil_42 ?_
        refine lv_iload_n hx hb d_RC_spoil_45 rfl (lv_at hl 1 rfl) ?_
        refine my_ci (wr := [(rc, Sum.inr (6, [Value.ref co, Value.ref ma, Value.int (nI k), Value.int fit, Value.int fen, Value.int frd, Value.int fbd, Value.int fir])), (co, Sum.inr (1, [Value.int xcache, Value.int xpending, Value.long xlow, Value.long xrange, Value.long xcode, Value.long xreadLow, Value.long xreadRange, Value.ref ri, Value.ref ro, Value.ref rw, Value.int xasked]))]) (va_runV (As := [Value.int (nI i7)]) (rest := [Value.int (nI i7), Value.ref ri]) ⟨hx, hb, hml, hown, hts⟩ (f_Row_at l dC dI cI cM cO H.size ri ria rik rif is (nI i7) (hri) (hGri) (by omega)) (cwV 1 hts (my_gV k703 k659 k660 k6 k661) rfl rfl rfl cu_Row_at_1 ⟨by rw [hR]; exact Nat.le_of_ble_eq_true rfl, by rw [hR]; exact Nat.le_of_ble_eq_true rfl⟩) (my_preV hK hN (hP.sub [2, 3] rfl) (hD.sub [2, 3] (by decide +kernel) rfl) 0 rfl rfl) rfl rfl hl.1 rfl (lv_room (Nat.le_of_ble_eq_true rfl)) d_RC_spoil_46 ⟨by rw [hR]; exact Nat.le_of_ble_eq_true rfl, by rw [hR]; exact Nat.le_of_ble_eq_true rfl⟩) hP hD hS hA [2, 3] [0, 1] rfl rfl (by decide +kernel) (by decide +kernel) (fun r_46 u9 H locs hw_46 hP hD hS => ?_)
        have hr_46 : r_46 = rAt is (nI i7) := hw_46
        have hPD : my_PD (dC, dI) vwCl A [(rc, Sum.inr (6, [Value.ref co, Value.ref ma, Value.int (nI k), Value.int fit, Value.int fen, Value.int frd, Value.int fbd, Value.int fir])), (co, Sum.inr (1, [Value.int xcache, Value.int xpending, Value.long xlow, Value.long xrange, Value.long xcode, Value.long xreadLow, Value.long xreadRange, Value.ref ri, Value.ref ro, Value.ref rw, Value.int xasked])), (ri, Sum.inr (0, [Value.int (nI is.length), Value.ref ria])), (ria, Sum.inl (cI, rik, Sum.inl rif))] H := ⟨hP, hD⟩
        have hP := hPD.1
        have hD := hPD.2
        have z9 : r_46 = nI (is.getD i7 0) := by rw [hr_46]; exact rAt_nI hi7 (by omega)
        subst z9
        refine lv_iload_n hx hb d_RC_spoil_49 rfl (lv_at hl 2 rfl) ?_
        refine lv_ixor hx hb d_RC_spoil_50 ?_
        refine lv_topi (fun v_4 ev_4 => ?_)
        have z9 : v_4 = nI (is.getD i7 0 ^^^ t7) := by rw [ev_4]; exact nx_xor _ _
        subst z9
        refine my_cv (wr := [(rc, Sum.inr (6, [Value.ref co, Value.ref ma, Value.int (nI k), Value.int fit, Value.int fen, Value.int frd, Value.int fbd, Value.int fir])), (co, Sum.inr (1, [Value.int xcache, Value.int xpending, Value.long xlow, Value.long xrange, Value.long xcode, Value.long xreadLow, Value.long xreadRange, Value.ref ri, Value.ref ro, Value.ref rw, Value.int xasked]))]) (va_runV (As := [Value.int (nI i7), Value.int (nI (is.getD i7 0 ^^^ t7))]) (rest := []) ⟨hx, hb, hml, hown, hts⟩ (f_Row_set l dC dI cI cM cO H.size ri ria rik rif is i7 (is.getD i7 0 ^^^ t7) (hri) (hGri) (by omega) (hi7)) (cwV 2 hts (my_gV k719 k720 k721 k6 k722) rfl rfl rfl cu_Row_set_2 ⟨by rw [hR]; exact Nat.le_of_ble_eq_true rfl, by rw [hR]; exact Nat.le_of_ble_eq_true rfl⟩) (my_preV hK hN (hP.sub [2, 3] rfl) (hD.sub [2, 3] (by decide +kernel) rfl) 0 rfl rfl) rfl rfl hl.1 rfl (lv_room (Nat.le_of_ble_eq_true rfl)) d_RC_spoil_51 ⟨by rw [hR]; exact Nat.le_of_ble_eq_true rfl, by rw [hR]; exact Nat.le_of_ble_eq_true rfl⟩) hP hD hS hA [2, 3] [0, 1] rfl rfl (by decide +kernel) (by decide +kernel) (fun u9 H locs hw_51 hP hD hS => ?_)
        obtain ⟨rrfq_51, rfl⟩ : ∃ z, z = u9 := ⟨_, rfl⟩
        have hGrr_51 : gIs rrfq_51 (is.set i7 (is.getD i7 0 ^^^ t7)) := hw_51
        have hPD : my_PD (dC, dI) vwCl A [(rc, Sum.inr (6, [Value.ref co, Value.ref ma, Value.int (nI k), Value.int fit, Value.int fen, Value.int frd, Value.int fbd, Value.int fir])), (co, Sum.inr (1, [Value.int xcache, Value.int xpending, Value.long xlow, Value.long xrange, Value.long xcode, Value.long xreadLow, Value.long xreadRange, Value.ref ri, Value.ref ro, Value.ref rw, Value.int xasked])), (ri, Sum.inr (0, [Value.int (nI is.length), Value.ref ria])), (ria, Sum.inl (cI, rik, Sum.inl rrfq_51))] H := ⟨hP, hD⟩
        have hP := hPD.1
        have hD := hPD.2
        refine lv_aload_n hx hb d_RC_spoil_54 rfl (lv_at hl 0 rfl) ?_
        refine va_get (D := (dC, dI)) (ci := 6) (v := .ref co) (C := "RangeCoders") (T := T_RC) (N := 8) hx hb hg in_RC hown hK hP 0 rfl rfl 0 (by decide) (hg _ k258) (fun _ h9 => h9) rfl d_RC_spoil_55 ?_
        refine va_get (D := (dC, dI)) (ci := 1) (v := .ref ri) (C := "RangeCoders$Carries") (T := T_Carries) (N := 11) hx hb hg in_Carries hown hK hP 1 rfl rfl 7 (by decide) (hg _ k102) (fun _ h9 => h9) rfl d_RC_spoil_58 ?_
        refine lv_iload_n hx hb d_RC_spoil_61 rfl (lv_at hl 1 rfl) ?_
        have hsu : (nI is.length : Int32) = nI (is.set i7 (is.getD i7 0 ^^^ t7)).length := by rw [List.length_set]
        rw [hsu] at hP hD
        have hPD : my_PD (dC, dI) vwCl A [(rc, Sum.inr (6, [Value.ref co, Value.ref ma, Value.int (nI k), Value.int fit, Value.int fen, Value.int frd, Value.int fbd, Value.int fir])), (co, Sum.inr (1, [Value.int xcache, Value.int xpending, Value.long xlow, Value.long xrange, Value.long xcode, Value.long xreadLow, Value.long xreadRange, Value.ref ri, Value.ref ro, Value.ref rw, Value.int xasked])), (ri, Sum.inr (0, [Value.int (nI (is.set i7 (is.getD i7 0 ^^^ t7)).length), Value.ref ria])), (ria, Sum.inl (cI, rik, Sum.inl rrfq_51))] H := ⟨hP, hD⟩
        have hP := hPD.1
        have hD := hPD.2
        refine my_ci (wr := [(rc, Sum.inr (6, [Value.ref co, Value.ref ma, Value.int (nI k), Value.int fit, Value.int fen, Value.int frd, Value.int fbd, Value.int fir])), (co, Sum.inr (1, [Value.int xcache, Value.int xpending, Value.long xlow, Value.long xrange, Value.long xcode, Value.long xreadLow, Value.long xreadRange, Value.ref ri, Value.ref ro, Value.ref rw, Value.int xasked]))]) (va_runV (As := [Value.int (nI i7)]) (rest := []) ⟨hx, hb, hml, hown, hts⟩ (f_Row_at l dC dI cI cM cO H.size ri ria rik rrfq_51 (is.set i7 (is.getD i7 0 ^^^ t7)) (nI i7) (by rw [List.length_set]; exact hri) (hGrr_51) (by rw [List.length_set]; omega)) (cwV 1 hts (my_gV k703 k659 k660 k6 k661) rfl rfl rfl cu_Row_at_1 ⟨by rw [hR]; exact Nat.le_of_ble_eq_true rfl, by rw [hR]; exact Nat.le_of_ble_eq_true rfl⟩) (my_preV hK hN (hP.sub [2, 3] rfl) (hD.sub [2, 3] (by decide +kernel) rfl) 0 rfl rfl) rfl rfl hl.1 rfl (lv_room (Nat.le_of_ble_eq_true rfl)) d_RC_spoil_62 ⟨by rw [hR]; exact Nat.le_of_ble_eq_true rfl, by rw [hR]; exact Nat.le_of_ble_eq_true rfl⟩) hP hD hS hA [2, 3] [0, 1] rfl rfl (by decide +kernel) (by decide +kernel) (fun r_62 u9 H locs hw_62 hP hD hS => ?_)
        have hr_62 : r_62 = rAt (is.set i7 (is.getD i7 0 ^^^ t7)) (nI i7) := hw_62
        have hPD : my_PD (dC, dI) vwCl A [(rc, Sum.inr (6, [Value.ref co, Value.ref ma, Value.int (nI k), Value.int fit, Value.int fen, Value.int frd, Value.int fbd, Value.int fir])), (co, Sum.inr (1, [Value.int xcache, Value.int xpending, Value.long xlow, Value.long xrange, Value.long xcode, Value.long xreadLow, Value.long xreadRange, Value.ref ri, Value.ref ro, Value.ref rw, Value.int xasked])), (ri, Sum.inr (0, [Value.int (nI (is.set i7 (is.getD i7 0 ^^^ t7)).length), Value.ref ria])), (ria, Sum.inl (cI, rik, Sum.inl rrfq_51))] H := ⟨hP, hD⟩
        have hP := hPD.1
        have hD := hPD.2
        have hsu : (nI (is.set i7 (is.getD i7 0 ^^^ t7)).length : Int32) = nI is.length := by rw [List.length_set]
        rw [hsu] at hP hD
        have hPD : my_PD (dC, dI) vwCl A [(rc, Sum.inr (6, [Value.ref co, Value.ref ma, Value.int (nI k), Value.int fit, Value.int fen, Value.int frd, Value.int fbd, Value.int fir])), (co, Sum.inr (1, [Value.int xcache, Value.int xpending, Value.long xlow, Value.long xrange, Value.long xcode, Value.long xreadLow, Value.long xreadRange, Value.ref ri, Value.ref ro, Value.ref rw, Value.int xasked])), (ri, Sum.inr (0, [Value.int (nI is.length), Value.ref ria])), (ria, Sum.inl (cI, rik, Sum.inl rrfq_51))] H := ⟨hP, hD⟩
        have hP := hPD.1
        have hD := hPD.2
        exact my_iret (v := r_62) hx hb hr (rfl) hlocks hQ hK hS (Nat.le_refl _) (Nat.le_refl _) (rrfq_51) (⟨by rw [hr_62, rAt_nI (by rw [List.length_set]; exact hi7) (by rw [List.length_set]; omega), List.getD_eq_getElem?_getD, List.getElem?_set_self hi7]; rfl, hGrr_51⟩) (hP.sub [0, 1, 2, 3] rfl) (hD.sub [0, 1, 2, 3] (by decide +kernel) rfl) d_RC_spoil_65
      · exact absurd (nI_le (b := 255) ht7 (by decide)) c_3
  · exact absurd (has_in hi7 (by omega)) (one_eq hr_8 c_1)
set_option maxHeartbeats 2000000 in
set_option maxRecDepth 100000 in
theorem f_RC_endB_Carries (l : Launch) (dC : Nat → ClassId) (dI : Nat → Nat → Nat) (cI cM cO : ClassId) (sz : Nat) (sl : Nat) (rc : Nat) (ma : Nat) (k : Nat) (fit : Int32) (frd : Int32) (fbd : Int32) (fir : Int32) (mf : Nat → Option Nat) (co : Nat) (xcode : Int64) (xreadLow : Int64) (xreadRange : Int64) (ri : Nat) (ro : Nat) (rw : Nat) (xasked : Int32) (Rg : Nat) (L : Nat) (ca : Option Nat) (Pn : Nat) (rwa : Nat) (rwk : Nat) (rwf : Nat → Int32) (bs : List Nat) (ron : Int32) (roa : Nat) (rok : Nat) (rof : Nat → Int32) (hE : eOk (Rg, L, ca, Pn, bs)) (hrw : rOk (nI bs.length) rwk) (hGrw : gIs rwf bs) (hN9 : bs.length + 20 + Pn ≤ 7900) : MetIg l y_RC_end (Cond.code y_RC_end prog_1_method_6_code 1 (some .int) :: gw) ({ frames := 7, cells := rPh rwk, slots := rPh rwk, locals := 167 } : Room) (dC, dI) vwCl (kT cI cM cO) [Value.ref rc] [(rc, Sum.inr (6, [Value.ref co, Value.ref ma, Value.int (nI k), Value.int fit, Value.int 0, Value.int frd, Value.int fbd, Value.int fir])), (co, Sum.inr (1, [Value.int (caI ca), Value.int (nI Pn), Value.long (lN L), Value.long (lN Rg), Value.long xcode, Value.long xreadLow, Value.long xreadRange, Value.ref ri, Value.ref ro, Value.ref rw, Value.int xasked])), (rw, Sum.inr (0, [Value.int (nI bs.length), Value.ref rwa])), (rwa, Sum.inl (cI, rwk, Sum.inl rwf)), (ro, Sum.inr (0, [Value.int ron, Value.ref roa])), (roa, Sum.inl (cI, rok, Sum.inl rof))] sz sl (fun (r : Int32) (u : Nat × Nat × (Nat → Int32)) => r = nI (eB (shK 5 (Rg, L, ca, Pn, bs))).length ∧ rOk (nI ((eB (shK 5 (Rg, L, ca, Pn, bs)))).length) u.2.1 ∧ gIs u.2.2 ((eB (shK 5 (Rg, L, ca, Pn, bs))))) (fun (u : Nat × Nat × (Nat → Int32)) => [(rc, Sum.inr (6, [Value.ref co, Value.ref ma, Value.int (nI k), Value.int fit, Value.int 1, Value.int frd, Value.int fbd, Value.int fir])), (co, Sum.inr (1, [Value.int (caI (eC (shK 5 (Rg, L, ca, Pn, bs)))), Value.int (nI (eP (shK 5 (Rg, L, ca, Pn, bs)))), Value.long (lN (eL (shK 5 (Rg, L, ca, Pn, bs)))), Value.long (lN (eR (shK 5 (Rg, L, ca, Pn, bs)))), Value.long xcode, Value.long xreadLow, Value.long xreadRange, Value.ref ri, Value.ref rw, Value.ref ro, Value.int xasked])), (rw, Sum.inr (0, [Value.int (nI (eB (shK 5 (Rg, L, ca, Pn, bs))).length), Value.ref u.1])), (u.1, Sum.inl (cI, u.2.1, Sum.inl u.2.2)), (ro, Sum.inr (0, [Value.int ron, Value.ref roa])), (roa, Sum.inl (cI, rok, Sum.inl rof))]) (rPh rwk) (fun (u : Nat × Nat × (Nat → Int32)) => rPh u.2.1) := by
  refine my_ofIg (cc := prog_1_method_6_code) (n := 1) (ret := (some .int)) (by decide) rfl (Nat.le_of_ble_eq_true rfl) ?_
  intro p e s m args below meth c R Q A ls H locs hx hb hr hts hown hlocks hml hnm hR hQ hA hl hP hK hN hD hS
  have hg : ∀ w ∈ gw, w.before args s = true := fun w h => hts w (List.mem_cons_of_mem _ h)
  have hown : s.vm.findClass "RangeCoders" = some m.cls := hown
  have hl : lv_has ls 1 [(0, Value.ref rc)] := hl
  refine lv_aload_n hx hb d_RC_end_0 rfl (lv_at hl 0 rfl) ?_
  refine va_get (D := (dC, dI)) (ci := 6) (v := .int 0) (C := "RangeCoders") (T := T_RC) (N := 8) hx hb hg in_RC hown hK hP 0 rfl rfl 4 (by decide) (hg _ k262) (fun _ h9 => h9) rfl d_RC_end_1 ?_
  refine lv_if_eq (tgt := 10) hx hb d_RC_end_4 (by decide) (fun c_1 => ?_) (fun c_1 => ?_)
  · refine lv_aload_n hx hb d_RC_end_10 rfl (lv_at hl 0 rfl) ?_
    refine va_get (D := (dC, dI)) (ci := 6) (v := .ref co) (C := "RangeCoders") (T := T_RC) (N := 8) hx hb hg in_RC hown hK hP 0 rfl rfl 0 (by decide) (hg _ k258) (fun _ h9 => h9) rfl d_RC_end_11 ?_
    refine my_cvg (wr := [(rc, Sum.inr (6, [Value.ref co, Value.ref ma, Value.int (nI k), Value.int fit, Value.int 0, Value.int frd, Value.int fbd, Value.int fir]))]) (va_runU (As := []) (rest := []) ⟨hx, hb, hml, hown, hts⟩ (f_Carries_close l dC dI cI cM cO H.size (hSl H) co xcode xreadLow xreadRange ri ro rw xasked Rg L ca Pn rwa rwk rwf bs ron roa rok rof (by first | assumption | omega) (by first | assumption | omega) (by first | assumption | omega) (by first | assumption | omega)) (va_cwA 0 hts (my_gU k572 k574 k588 k576 k4 k577) rfl rfl rfl (hN.1 _ j573 rfl) (by decide +kernel) ⟨by rw [hR]; exact Nat.le_of_ble_eq_true rfl, by rw [hR]; exact Nat.le_of_ble_eq_true rfl⟩) (my_preVg hK hN (hP.sub [1, 2, 3, 4, 5] rfl) (hD.sub [1, 2, 3, 4, 5] (by decide +kernel) rfl) 0 rfl rfl) rfl rfl hl.1 rfl (lv_room (Nat.le_of_ble_eq_true rfl)) d_RC_end_14 ⟨by rw [hR]; exact (show 0 + (rPh rwk) ≤ (rPh rwk) by omega), by rw [hR]; exact (show 0 + (rPh rwk) ≤ (rPh rwk) by omega)⟩) hP hD hS hA [1, 2, 3, 4, 5] [0] rfl rfl (by decide +kernel) (by decide +kernel) (fun u9 d_14 H locs hd_14 hw_14 hP hD hS => ?_)
    obtain ⟨rwaq_14, rwkq_14, rwfq_14⟩ := u9
    obtain ⟨hrw_14, hGrw_14⟩ : rOk (nI ((eB (shK 5 (Rg, L, ca, Pn, bs)))).length) rwkq_14 ∧ gIs rwfq_14 ((eB (shK 5 (Rg, L, ca, Pn, bs)))) := hw_14
    have hd_14 : d_14 + (rPh rwkq_14) ≤ (rPh rwk) := hd_14
    have hPD : my_PD (dC, dI) vwCl A [(rc, Sum.inr (6, [Value.ref co, Value.ref ma, Value.int (nI k), Value.int fit, Value.int 0, Value.int frd, Value.int fbd, Value.int fir])), (co, Sum.inr (1, [Value.int (caI (eC (shK 5 (Rg, L, ca, Pn, bs)))), Value.int (nI (eP (shK 5 (Rg, L, ca, Pn, bs)))), Value.long (lN (eL (shK 5 (Rg, L, ca, Pn, bs)))), Value.long (lN (eR (shK 5 (Rg, L, ca, Pn, bs)))), Value.long xcode, Value.long xreadLow, Value.long xreadRange, Value.ref ri, Value.ref rw, Value.ref ro, Value.int xasked])), (rw, Sum.inr (0, [Value.int (nI (eB (shK 5 (Rg, L, ca, Pn, bs))).length), Value.ref rwaq_14])), (rwaq_14, Sum.inl (cI, rwkq_14, Sum.inl rwfq_14)), (ro, Sum.inr (0, [Value.int ron, Value.ref roa])), (roa, Sum.inl (cI, rok, Sum.inl rof))] H := ⟨hP, hD⟩
    have hP := hPD.1
    have hD := hPD.2
    refine lv_aload_n hx hb d_RC_end_17 rfl (lv_at hl 0 rfl) ?_
    refine lv_iconst (v := 1) hx hb d_RC_end_18 (by decide) ?_
    refine va_put (D := (dC, dI)) (ci := 6) (v := .int 1) (ty := .boolean) (C := "RangeCoders") (T := T_RC) (N := 8) hx hb hg in_RC t_RC o_RC n_RC hown hK hP hD hS 0 rfl rfl 4 (by decide) (hg _ k262) (fun _ h9 => h9) rfl (o_RC 4 (by decide)) rfl rfl (Nat.le_of_ble_eq_true rfl) d_RC_end_19 (fun H locs hP hD hS => ?_)
    have hPD : my_PD (dC, dI) vwCl A [(rc, Sum.inr (6, [Value.ref co, Value.ref ma, Value.int (nI k), Value.int fit, Value.int 1, Value.int frd, Value.int fbd, Value.int fir])), (co, Sum.inr (1, [Value.int (caI (eC (shK 5 (Rg, L, ca, Pn, bs)))), Value.int (nI (eP (shK 5 (Rg, L, ca, Pn, bs)))), Value.long (lN (eL (shK 5 (Rg, L, ca, Pn, bs)))), Value.long (lN (eR (shK 5 (Rg, L, ca, Pn, bs)))), Value.long xcode, Value.long xreadLow, Value.long xreadRange, Value.ref ri, Value.ref rw, Value.ref ro, Value.int xasked])), (rw, Sum.inr (0, [Value.int (nI (eB (shK 5 (Rg, L, ca, Pn, bs))).length), Value.ref rwaq_14])), (rwaq_14, Sum.inl (cI, rwkq_14, Sum.inl rwfq_14)), (ro, Sum.inr (0, [Value.int ron, Value.ref roa])), (roa, Sum.inl (cI, rok, Sum.inl rof))] H := ⟨hP, hD⟩
    have hP := hPD.1
    have hD := hPD.2
    refine lv_aload_n hx hb d_RC_end_22 rfl (lv_at hl 0 rfl) ?_
    refine va_get (D := (dC, dI)) (ci := 6) (v := .ref co) (C := "RangeCoders") (T := T_RC) (N := 8) hx hb hg in_RC hown hK hP 0 rfl rfl 0 (by decide) (hg _ k258) (fun _ h9 => h9) rfl d_RC_end_23 ?_
    refine va_get (D := (dC, dI)) (ci := 1) (v := .ref rw) (C := "RangeCoders$Carries") (T := T_Carries) (N := 11) hx hb hg in_Carries hown hK hP 1 rfl rfl 8 (by decide) (hg _ k108) (fun _ h9 => h9) rfl d_RC_end_26 ?_
    refine va_get (D := (dC, dI)) (ci := 0) (v := .int (nI (eB (shK 5 (Rg, L, ca, Pn, bs))).length)) (C := "RangeCoders$Row") (T := T_Row) (N := 2) hx hb hg in_Row hown hK hP 2 rfl rfl 0 (by decide) (hg _ k58) (fun _ h9 => h9) rfl d_RC_end_29 ?_
    exact my_iretg (v := nI (eB (shK 5 (Rg, L, ca, Pn, bs))).length) hx hb hr (rfl) hlocks hQ hK hS (rwaq_14, rwkq_14, rwfq_14) (show (0 + d_14) + (rPh rwkq_14) ≤ (rPh rwk) by omega) (show (0 + d_14) + (rPh rwkq_14) ≤ (rPh rwk) by omega) (⟨rfl, hrw_14, hGrw_14⟩) (hP.sub [0, 1, 2, 3, 4, 5] rfl) (hD.sub [0, 1, 2, 3, 4, 5] (by decide +kernel) rfl) d_RC_end_32
  · exact absurd (by decide) c_1
end
