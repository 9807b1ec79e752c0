section
set_option maxHeartbeats 2000000 in
set_option maxRecDepth 100000 in
theorem m_bits0W (l : Launch) (dC : Nat → ClassId) (dI : Nat → Nat → Nat) (cI cM cO : ClassId) (sz : Nat) (o : Nat) (g : Nat → Nat) (fShift : Int32) (fModels : Int32) (fItems : Int32) (fEnded : Int32) (fLow : Int64) (fRange : Int64) (fCache : Int32) (fPend : Int32) (fGoes : Int32) (fOuts : Int32) (fIns : Int32) (fReads : Int32) (fBad : Int32) (fIR : Int32) (fAsk : Int32) (fBAsk : Int32) (fCode : Int64) (fRL : Int64) (fRR : Int64) (fX : Int64) (fWrites : Int32) (fThrown : Int32) (p1 : Int32) (p2 : Int32) (hno : ¬ okB 12 p1 p2) : MetI l y_M_bits (Cond.code y_M_bits prog_14_method_30_code 3 (some .int) :: gw) ({ frames := 1, cells := 0, slots := 0, locals := 22 } : Room) (dC, dI) vwCl (kT cI cM cO) [Value.ref o, Value.int p1, Value.int p2] [(o, Sum.inr (9, mO g 0 fShift fModels fItems fEnded fLow fRange fCache fPend fGoes fOuts fIns fReads fBad fIR fAsk fBAsk fCode fRL fRR fX fWrites fThrown))] sz (fun (r : Int32) (u : Unit) => r = -2) (fun (u : Unit) => [(o, Sum.inr (9, mO g 0 fShift fModels fItems fEnded fLow fRange fCache fPend fGoes fOuts fIns fReads fBad fIR fAsk fBAsk fCode fRL fRR fX fWrites 0))]) 0 0 := by
  refine my_ofI (cc := prog_14_method_30_code) (n := 3) (ret := (some .int)) (by decide) rfl (Nat.le_of_ble_eq_true rfl) ?_
  intro p e s m args below meth c R Q A ls H locs hx hb hr hts hown hlocks hml hnm hR hQ hA hl hP hK hN hD hS
  have hg : ∀ w ∈ gw, w.before args s = true := fun w h => hts w (List.mem_cons_of_mem _ h)
  have hown : s.vm.findClass "RangeCodersModel" = some m.cls := hown
  have hl : lv_has ls 3 [(0, Value.ref o), (1, Value.int p1), (2, Value.int p2)] := hl
  refine lv_aload_n hx hb d_M_bits_0 rfl (lv_at hl 0 rfl) ?_
  refine lv_iconst (v := 0) hx hb d_M_bits_1 (by decide) ?_
  refine va_put (D := (dC, dI)) (ci := 9) (v := .int 0) (ty := .int) (C := "RangeCodersModel") (T := T_M) (N := 35) hx hb hg in_M t_M o_M n_M hown hK hP hD hS 0 rfl rfl 34 (by decide) (hg _ k986) (fun _ h9 => h9) rfl (by decide +kernel) rfl rfl (Nat.le_of_ble_eq_true rfl) d_M_bits_2 (fun H locs hP hD hS => ?_)
  have hPD : my_PD (dC, dI) vwCl A [(o, Sum.inr (9, mO g 0 fShift fModels fItems fEnded fLow fRange fCache fPend fGoes fOuts fIns fReads fBad fIR fAsk fBAsk fCode fRL fRR fX fWrites 0))] H := ⟨hP, hD⟩
  have hP := hPD.1
  have hD := hPD.2
  refine lv_iload_n hx hb d_M_bits_5 rfl (lv_at hl 2 rfl) ?_
  refine lv_iconst (v := 1) hx hb d_M_bits_6 (by decide) ?_
  refine lv_aload_n hx hb d_M_bits_7 rfl (lv_at hl 0 rfl) ?_
  refine va_get (D := (dC, dI)) (ci := 9) (v := .int 0) (C := "RangeCodersModel") (T := T_M) (N := 35) hx hb hg in_M hown hK hP 0 rfl rfl 0 (by decide) (hg _ k952) (fun _ h9 => h9) rfl d_M_bits_8 ?_
  refine lv_iconst (v := 4) hx hb d_M_bits_11 (by decide) ?_
  refine lv_icmp_ne (tgt := 20) hx hb d_M_bits_12 (by decide) (fun c_1 => ?_) (fun c_1 => ?_)
  · refine lv_bipush (v := 12) hx hb d_M_bits_20 (by decide) ?_
    refine my_ci (wr := [(o, Sum.inr (9, mO g 0 fShift fModels fItems fEnded fLow fRange fCache fPend fGoes fOuts fIns fReads fBad fIR fAsk fBAsk fCode fRL fRR fX fWrites 0))]) (va_runS (As := [Value.int p2, Value.int 1, Value.int 12]) (rest := []) ⟨hx, hb, hml, hown, hts⟩ (c_M_in l dC dI cI cM cO H.size p2 1 12) (cwS 3 hts (my_gS k1062 k1063 k12 k1064) rfl rfl rfl (by decide +kernel) ⟨by rw [hR]; exact Nat.le_of_ble_eq_true rfl, by rw [hR]; exact Nat.le_of_ble_eq_true rfl⟩) (my_pre hK hN (hP.sub [] rfl) (hD.sub [] (by decide +kernel) rfl)) rfl rfl hl.1 rfl (lv_room (Nat.le_of_ble_eq_true rfl)) d_M_bits_22 ⟨by rw [hR]; exact Nat.le_of_ble_eq_true rfl, by rw [hR]; exact Nat.le_of_ble_eq_true rfl⟩) hP hD hS hA [] [0] rfl rfl (by decide +kernel) (by decide +kernel) (fun r_22 u9 H locs hw_22 hP hD hS => ?_)
    have hw_22 : r_22 = if 1 ≤ p2 ∧ p2 ≤ 12 then 1 else 0 := hw_22
    have hPD : my_PD (dC, dI) vwCl A [(o, Sum.inr (9, mO g 0 fShift fModels fItems fEnded fLow fRange fCache fPend fGoes fOuts fIns fReads fBad fIR fAsk fBAsk fCode fRL fRR fX fWrites 0))] H := ⟨hP, hD⟩
    have hP := hPD.1
    have hD := hPD.2
    refine lv_if_eq (tgt := 41) hx hb d_M_bits_25 (by decide) (fun c_2 => ?_) (fun c_2 => ?_)
    · refine lv_bipush (v := (-2)) hx hb d_M_bits_41 (by decide) ?_
      exact my_iret (v := (-2)) hx hb hr (rfl) hlocks hQ hK hS (Nat.le_refl _) (Nat.le_refl _) () (rfl) (hP.sub [0] rfl) (hD.sub [0] (by decide +kernel) rfl) d_M_bits_43
    · refine lv_iload_n hx hb d_M_bits_28 rfl (lv_at hl 1 rfl) ?_
      refine lv_iconst (v := 0) hx hb d_M_bits_29 (by decide) ?_
      refine lv_iconst (v := 1) hx hb d_M_bits_30 (by decide) ?_
      refine lv_iload_n hx hb d_M_bits_31 rfl (lv_at hl 2 rfl) ?_
      refine lv_ishl hx hb d_M_bits_32 ?_
      refine lv_topi (fun v_3 ev_3 => ?_)
      refine lv_iconst (v := 1) hx hb d_M_bits_33 (by decide) ?_
      refine lv_isub hx hb d_M_bits_34 ?_
      refine lv_topi (fun v_4 ev_4 => ?_)
      refine my_ci (wr := [(o, Sum.inr (9, mO g 0 fShift fModels fItems fEnded fLow fRange fCache fPend fGoes fOuts fIns fReads fBad fIR fAsk fBAsk fCode fRL fRR fX fWrites 0))]) (va_runS (As := [Value.int p1, Value.int 0, Value.int v_4]) (rest := []) ⟨hx, hb, hml, hown, hts⟩ (c_M_in l dC dI cI cM cO H.size p1 0 v_4) (cwS 3 hts (my_gS k1062 k1063 k12 k1064) rfl rfl rfl (by decide +kernel) ⟨by rw [hR]; exact Nat.le_of_ble_eq_true rfl, by rw [hR]; exact Nat.le_of_ble_eq_true rfl⟩) (my_pre hK hN (hP.sub [] rfl) (hD.sub [] (by decide +kernel) rfl)) rfl rfl hl.1 rfl (lv_room (Nat.le_of_ble_eq_true rfl)) d_M_bits_35 ⟨by rw [hR]; exact Nat.le_of_ble_eq_true rfl, by rw [hR]; exact Nat.le_of_ble_eq_true rfl⟩) hP hD hS hA [] [0] rfl rfl (by decide +kernel) (by decide +kernel) (fun r_35 u9 H locs hw_35 hP hD hS => ?_)
      have hw_35 : r_35 = if 0 ≤ p1 ∧ p1 ≤ v_4 then 1 else 0 := hw_35
      have hPD : my_PD (dC, dI) vwCl A [(o, Sum.inr (9, mO g 0 fShift fModels fItems fEnded fLow fRange fCache fPend fGoes fOuts fIns fReads fBad fIR fAsk fBAsk fCode fRL fRR fX fWrites 0))] H := ⟨hP, hD⟩
      have hP := hPD.1
      have hD := hPD.2
      refine lv_if_ne (tgt := 44) hx hb d_M_bits_38 (by decide) (fun c_5 => ?_) (fun c_5 => ?_)
      · exact absurd (one_ne hw_35 c_5) (okB_no (by decide) hno (one_ne hw_22 c_2) (by subst_vars; rfl))
      · refine lv_bipush (v := (-2)) hx hb d_M_bits_41 (by decide) ?_
        exact my_iret (v := (-2)) hx hb hr (rfl) hlocks hQ hK hS (Nat.le_refl _) (Nat.le_refl _) () (rfl) (hP.sub [0] rfl) (hD.sub [0] (by decide +kernel) rfl) d_M_bits_43
  · exact absurd c_1 (by decide)
set_option maxHeartbeats 2000000 in
set_option maxRecDepth 100000 in
theorem m_bits0E (l : Launch) (dC : Nat → ClassId) (dI : Nat → Nat → Nat) (cI cM cO : ClassId) (sz : Nat) (o : Nat) (g : Nat → Nat) (fShift : Int32) (fModels : Int32) (fItems : Int32) (fEnded : Int32) (fLow : Int64) (fRange : Int64) (fCache : Int32) (fPend : Int32) (fGoes : Int32) (fOuts : Int32) (fIns : Int32) (fReads : Int32) (fBad : Int32) (fIR : Int32) (fAsk : Int32) (fBAsk : Int32) (fCode : Int64) (fRL : Int64) (fRR : Int64) (fX : Int64) (fWrites : Int32) (fThrown : Int32) (vv : Nat) (bb : Nat) (hb1 : 1 ≤ bb) (hb2 : bb ≤ 12) (hv : vv < 2 ^ bb) (hen : ¬ fEnded = 0) : MetI l y_M_bits (Cond.code y_M_bits prog_14_method_30_code 3 (some .int) :: gw) ({ frames := 1, cells := 0, slots := 0, locals := 22 } : Room) (dC, dI) vwCl (kT cI cM cO) [Value.ref o, Value.int (nI vv), Value.int (nI bb)] [(o, Sum.inr (9, mO g 0 fShift fModels fItems fEnded fLow fRange fCache fPend fGoes fOuts fIns fReads fBad fIR fAsk fBAsk fCode fRL fRR fX fWrites fThrown))] sz (fun (r : Int32) (u : Unit) => r = -3) (fun (u : Unit) => [(o, Sum.inr (9, mO g 0 fShift fModels fItems fEnded fLow fRange fCache fPend fGoes fOuts fIns fReads fBad fIR fAsk fBAsk fCode fRL fRR fX fWrites 0))]) 0 0 := by
  refine my_ofI (cc := prog_14_method_30_code) (n := 3) (ret := (some .int)) (by decide) rfl (Nat.le_of_ble_eq_true rfl) ?_
  intro p e s m args below meth c R Q A ls H locs hx hb hr hts hown hlocks hml hnm hR hQ hA hl hP hK hN hD hS
  have hg : ∀ w ∈ gw, w.before args s = true := fun w h => hts w (List.mem_cons_of_mem _ h)
  have hown : s.vm.findClass "RangeCodersModel" = some m.cls := hown
  have hl : lv_has ls 3 [(0, Value.ref o), (1, Value.int (nI vv)), (2, Value.int (nI bb))] := hl
  have hp12 : 2 ^ bb ≤ 4096 := pw12 (by omega)
  have hp0 := Nat.two_pow_pos bb
  refine lv_aload_n hx hb d_M_bits_0 rfl (lv_at hl 0 rfl) ?_
  refine lv_iconst (v := 0) hx hb d_M_bits_1 (by decide) ?_
  refine va_put (D := (dC, dI)) (ci := 9) (v := .int 0) (ty := .int) (C := "RangeCodersModel") (T := T_M) (N := 35) hx hb hg in_M t_M o_M n_M hown hK hP hD hS 0 rfl rfl 34 (by decide) (hg _ k986) (fun _ h9 => h9) rfl (by decide +kernel) rfl rfl (Nat.le_of_ble_eq_true rfl) d_M_bits_2 (fun H locs hP hD hS => ?_)
  have hPD : my_PD (dC, dI) vwCl A [(o, Sum.inr (9, mO g 0 fShift fModels fItems fEnded fLow fRange fCache fPend fGoes fOuts fIns fReads fBad fIR fAsk fBAsk fCode fRL fRR fX fWrites 0))] H := ⟨hP, hD⟩
  have hP := hPD.1
  have hD := hPD.2
  refine lv_iload_n hx hb d_M_bits_5 rfl (lv_at hl 2 rfl) ?_
  refine lv_iconst (v := 1) hx hb d_M_bits_6 (by decide) ?_
  refine lv_aload_n hx hb d_M_bits_7 rfl (lv_at hl 0 rfl) ?_
  refine va_get (D := (dC, dI)) (ci := 9) (v := .int 0) (C := "RangeCodersModel") (T := T_M) (N := 35) hx hb hg in_M hown hK hP 0 rfl rfl 0 (by decide) (hg _ k952) (fun _ h9 => h9) rfl d_M_bits_8 ?_
  refine lv_iconst (v := 4) hx hb d_M_bits_11 (by decide) ?_
  refine lv_icmp_ne (tgt := 20) hx hb d_M_bits_12 (by decide) (fun c_1 => ?_) (fun c_1 => ?_)
  · refine lv_bipush (v := 12) hx hb d_M_bits_20 (by decide) ?_
    refine my_ci (wr := [(o, Sum.inr (9, mO g 0 fShift fModels fItems fEnded fLow fRange fCache fPend fGoes fOuts fIns fReads fBad fIR fAsk fBAsk fCode fRL fRR fX fWrites 0))]) (va_runS (As := [Value.int (nI bb), Value.int 1, Value.int 12]) (rest := []) ⟨hx, hb, hml, hown, hts⟩ (c_M_in l dC dI cI cM cO H.size (nI bb) 1 12) (cwS 3 hts (my_gS k1062 k1063 k12 k1064) rfl rfl rfl (by decide +kernel) ⟨by rw [hR]; exact Nat.le_of_ble_eq_true rfl, by rw [hR]; exact Nat.le_of_ble_eq_true rfl⟩) (my_pre hK hN (hP.sub [] rfl) (hD.sub [] (by decide +kernel) rfl)) rfl rfl hl.1 rfl (lv_room (Nat.le_of_ble_eq_true rfl)) d_M_bits_22 ⟨by rw [hR]; exact Nat.le_of_ble_eq_true rfl, by rw [hR]; exact Nat.le_of_ble_eq_true rfl⟩) hP hD hS hA [] [0] rfl rfl (by decide +kernel) (by decide +kernel) (fun r_22 u9 H locs hw_22 hP hD hS => ?_)
    have hw_22 : r_22 = if 1 ≤ (nI bb) ∧ (nI bb) ≤ 12 then 1 else 0 := hw_22
    have hPD : my_PD (dC, dI) vwCl A [(o, Sum.inr (9, mO g 0 fShift fModels fItems fEnded fLow fRange fCache fPend fGoes fOuts fIns fReads fBad fIR fAsk fBAsk fCode fRL fRR fX fWrites 0))] H := ⟨hP, hD⟩
    have hP := hPD.1
    have hD := hPD.2
    refine lv_if_eq (tgt := 41) hx hb d_M_bits_25 (by decide) (fun c_2 => ?_) (fun c_2 => ?_)
    · exact absurd (show 1 ≤ nI bb ∧ nI bb ≤ nI 12 from ⟨nI_le (a := 1) hb1 (by omega), nI_le hb2 (by decide)⟩) (one_eq hw_22 c_2)
    · refine lv_iload_n hx hb d_M_bits_28 rfl (lv_at hl 1 rfl) ?_
      refine lv_iconst (v := 0) hx hb d_M_bits_29 (by decide) ?_
      refine lv_iconst (v := 1) hx hb d_M_bits_30 (by decide) ?_
      refine lv_iload_n hx hb d_M_bits_31 rfl (lv_at hl 2 rfl) ?_
      refine lv_ishl hx hb d_M_bits_32 ?_
      refine lv_topi (fun v_3 ev_3 => ?_)
      have z9 : v_3 = nI (2 ^ bb) := by rw [ev_3]; exact shl1 _ (by omega)
      subst z9
      refine lv_iconst (v := 1) hx hb d_M_bits_33 (by decide) ?_
      refine lv_isub hx hb d_M_bits_34 ?_
      refine lv_topi (fun v_4 ev_4 => ?_)
      have z9 : v_4 = nI (2 ^ bb - 1) := by rw [ev_4]; exact nI_pred9 hp0
      subst z9
      refine my_ci (wr := [(o, Sum.inr (9, mO g 0 fShift fModels fItems fEnded fLow fRange fCache fPend fGoes fOuts fIns fReads fBad fIR fAsk fBAsk fCode fRL fRR fX fWrites 0))]) (va_runS (As := [Value.int (nI vv), Value.int 0, Value.int (nI (2 ^ bb - 1))]) (rest := []) ⟨hx, hb, hml, hown, hts⟩ (c_M_in l dC dI cI cM cO H.size (nI vv) 0 (nI (2 ^ bb - 1))) (cwS 3 hts (my_gS k1062 k1063 k12 k1064) rfl rfl rfl (by decide +kernel) ⟨by rw [hR]; exact Nat.le_of_ble_eq_true rfl, by rw [hR]; exact Nat.le_of_ble_eq_true rfl⟩) (my_pre hK hN (hP.sub [] rfl) (hD.sub [] (by decide +kernel) rfl)) rfl rfl hl.1 rfl (lv_room (Nat.le_of_ble_eq_true rfl)) d_M_bits_35 ⟨by rw [hR]; exact Nat.le_of_ble_eq_true rfl, by rw [hR]; exact Nat.le_of_ble_eq_true rfl⟩) hP hD hS hA [] [0] rfl rfl (by decide +kernel) (by decide +kernel) (fun r_35 u9 H locs hw_35 hP hD hS => ?_)
      have hw_35 : r_35 = if 0 ≤ (nI vv) ∧ (nI vv) ≤ (nI (2 ^ bb - 1)) then 1 else 0 := hw_35
      have hPD : my_PD (dC, dI) vwCl A [(o, Sum.inr (9, mO g 0 fShift fModels fItems fEnded fLow fRange fCache fPend fGoes fOuts fIns fReads fBad fIR fAsk fBAsk fCode fRL fRR fX fWrites 0))] H := ⟨hP, hD⟩
      have hP := hPD.1
      have hD := hPD.2
      refine lv_if_ne (tgt := 44) hx hb d_M_bits_38 (by decide) (fun c_5 => ?_) (fun c_5 => ?_)
      · refine lv_aload_n hx hb d_M_bits_44 rfl (lv_at hl 0 rfl) ?_
        refine va_get (D := (dC, dI)) (ci := 9) (v := .int fEnded) (C := "RangeCodersModel") (T := T_M) (N := 35) hx hb hg in_M hown hK hP 0 rfl rfl 10 (by decide) (hg _ k962) (fun _ h9 => h9) rfl d_M_bits_45 ?_
        refine lv_if_eq (tgt := 54) hx hb d_M_bits_48 (by decide) (fun c_6 => ?_) (fun c_6 => ?_)
        · exact absurd c_6 hen
        · refine lv_bipush (v := (-3)) hx hb d_M_bits_51 (by decide) ?_
          exact my_iret (v := (-3)) hx hb hr (rfl) hlocks hQ hK hS (Nat.le_refl _) (Nat.le_refl _) () (rfl) (hP.sub [0] rfl) (hD.sub [0] (by decide +kernel) rfl) d_M_bits_53
      · exact absurd ⟨nI_pos' (by omega), nI_le (by omega) (by omega)⟩ (one_eq hw_35 c_5)
  · exact absurd c_1 (by decide)
set_option maxHeartbeats 2000000 in
set_option maxRecDepth 100000 in
theorem m_bits0R (l : Launch) (dC : Nat → ClassId) (dI : Nat → Nat → Nat) (cI cM cO : ClassId) (sz : Nat) (o : Nat) (g : Nat → Nat) (fShift : Int32) (fModels : Int32) (fLow : Int64) (fRange : Int64) (fCache : Int32) (fPend : Int32) (fGoes : Int32) (fOuts : Int32) (fIns : Int32) (fReads : Int32) (fBad : Int32) (fIR : Int32) (fAsk : Int32) (fBAsk : Int32) (fCode : Int64) (fRL : Int64) (fRR : Int64) (fX : Int64) (fWrites : Int32) (fThrown : Int32) (vv : Nat) (bb : Nat) (ki : Nat) (hb1 : 1 ≤ bb) (hb2 : bb ≤ 12) (hv : vv < 2 ^ bb) (hk6 : ki = 600) : MetI l y_M_bits (Cond.code y_M_bits prog_14_method_30_code 3 (some .int) :: gw) ({ frames := 1, cells := 0, slots := 0, locals := 22 } : Room) (dC, dI) vwCl (kT cI cM cO) [Value.ref o, Value.int (nI vv), Value.int (nI bb)] [(o, Sum.inr (9, mO g 0 fShift fModels (nI ki) 0 fLow fRange fCache fPend fGoes fOuts fIns fReads fBad fIR fAsk fBAsk fCode fRL fRR fX fWrites fThrown))] sz (fun (r : Int32) (u : Unit) => r = -4) (fun (u : Unit) => [(o, Sum.inr (9, mO g 0 fShift fModels (nI ki) 0 fLow fRange fCache fPend fGoes fOuts fIns fReads fBad fIR fAsk fBAsk fCode fRL fRR fX fWrites 0))]) 0 0 := by
  refine my_ofI (cc := prog_14_method_30_code) (n := 3) (ret := (some .int)) (by decide) rfl (Nat.le_of_ble_eq_true rfl) ?_
  intro p e s m args below meth c R Q A ls H locs hx hb hr hts hown hlocks hml hnm hR hQ hA hl hP hK hN hD hS
  have hg : ∀ w ∈ gw, w.before args s = true := fun w h => hts w (List.mem_cons_of_mem _ h)
  have hown : s.vm.findClass "RangeCodersModel" = some m.cls := hown
  have hl : lv_has ls 3 [(0, Value.ref o), (1, Value.int (nI vv)), (2, Value.int (nI bb))] := hl
  have hp12 : 2 ^ bb ≤ 4096 := pw12 (by omega)
  have hp0 := Nat.two_pow_pos bb
  refine lv_aload_n hx hb d_M_bits_0 rfl (lv_at hl 0 rfl) ?_
  refine lv_iconst (v := 0) hx hb d_M_bits_1 (by decide) ?_
  refine va_put (D := (dC, dI)) (ci := 9) (v := .int 0) (ty := .int) (C := "RangeCodersModel") (T := T_M) (N := 35) hx hb hg in_M t_M o_M n_M hown hK hP hD hS 0 rfl rfl 34 (by decide) (hg _ k986) (fun _ h9 => h9) rfl (by decide +kernel) rfl rfl (Nat.le_of_ble_eq_true rfl) d_M_bits_2 (fun H locs hP hD hS => ?_)
  have hPD : my_PD (dC, dI) vwCl A [(o, Sum.inr (9, mO g 0 fShift fModels (nI ki) 0 fLow fRange fCache fPend fGoes fOuts fIns fReads fBad fIR fAsk fBAsk fCode fRL fRR fX fWrites 0))] H := ⟨hP, hD⟩
  have hP := hPD.1
  have hD := hPD.2
  refine lv_iload_n hx hb d_M_bits_5 rfl (lv_at hl 2 rfl) ?_
  refine lv_iconst (v := 1) hx hb d_M_bits_6 (by decide) ?_
  refine lv_aload_n hx hb d_M_bits_7 rfl (lv_at hl 0 rfl) ?_
  refine va_get (D := (dC, dI)) (ci := 9) (v := .int 0) (C := "RangeCodersModel") (T := T_M) (N := 35) hx hb hg in_M hown hK hP 0 rfl rfl 0 (by decide) (hg _ k952) (fun _ h9 => h9) rfl d_M_bits_8 ?_
  refine lv_iconst (v := 4) hx hb d_M_bits_11 (by decide) ?_
  refine lv_icmp_ne (tgt := 20) hx hb d_M_bits_12 (by decide) (fun c_1 => ?_) (fun c_1 => ?_)
  · refine lv_bipush (v := 12) hx hb d_M_bits_20 (by decide) ?_
    refine my_ci (wr := [(o, Sum.inr (9, mO g 0 fShift fModels (nI ki) 0 fLow fRange fCache fPend fGoes fOuts fIns fReads fBad fIR fAsk fBAsk fCode fRL fRR fX fWrites 0))]) (va_runS (As := [Value.int (nI bb), Value.int 1, Value.int 12]) (rest := []) ⟨hx, hb, hml, hown, hts⟩ (c_M_in l dC dI cI cM cO H.size (nI bb) 1 12) (cwS 3 hts (my_gS k1062 k1063 k12 k1064) rfl rfl rfl (by decide +kernel) ⟨by rw [hR]; exact Nat.le_of_ble_eq_true rfl, by rw [hR]; exact Nat.le_of_ble_eq_true rfl⟩) (my_pre hK hN (hP.sub [] rfl) (hD.sub [] (by decide +kernel) rfl)) rfl rfl hl.1 rfl (lv_room (Nat.le_of_ble_eq_true rfl)) d_M_bits_22 ⟨by rw [hR]; exact Nat.le_of_ble_eq_true rfl, by rw [hR]; exact Nat.le_of_ble_eq_true rfl⟩) hP hD hS hA [] [0] rfl rfl (by decide +kernel) (by decide +kernel) (fun r_22 u9 H locs hw_22 hP hD hS => ?_)
    have hw_22 : r_22 = if 1 ≤ (nI bb) ∧ (nI bb) ≤ 12 then 1 else 0 := hw_22
    have hPD : my_PD (dC, dI) vwCl A [(o, Sum.inr (9, mO g 0 fShift fModels (nI ki) 0 fLow fRange fCache fPend fGoes fOuts fIns fReads fBad fIR fAsk fBAsk fCode fRL fRR fX fWrites 0))] H := ⟨hP, hD⟩
    have hP := hPD.1
    have hD := hPD.2
    refine lv_if_eq (tgt := 41) hx hb d_M_bits_25 (by decide) (fun c_2 => ?_) (fun c_2 => ?_)
    · exact absurd (show 1 ≤ nI bb ∧ nI bb ≤ nI 12 from ⟨nI_le (a := 1) hb1 (by omega), nI_le hb2 (by decide)⟩) (one_eq hw_22 c_2)
    · refine lv_iload_n hx hb d_M_bits_28 rfl (lv_at hl 1 rfl) ?_
      refine lv_iconst (v := 0) hx hb d_M_bits_29 (by decide) ?_
      refine lv_iconst (v := 1) hx hb d_M_bits_30 (by decide) ?_
      refine lv_iload_n hx hb d_M_bits_31 rfl (lv_at hl 2 rfl) ?_
      refine lv_ishl hx hb d_M_bits_32 ?_
      refine lv_topi (fun v_3 ev_3 => ?_)
      have z9 : v_3 = nI (2 ^ bb) := by rw [ev_3]; exact shl1 _ (by omega)
      subst z9
      refine lv_iconst (v := 1) hx hb d_M_bits_33 (by decide) ?_
      refine lv_isub hx hb d_M_bits_34 ?_
      refine lv_topi (fun v_4 ev_4 => ?_)
      have z9 : v_4 = nI (2 ^ bb - 1) := by rw [ev_4]; exact nI_pred9 hp0
      subst z9
      refine my_ci (wr := [(o, Sum.inr (9, mO g 0 fShift fModels (nI ki) 0 fLow fRange fCache fPend fGoes fOuts fIns fReads fBad fIR fAsk fBAsk fCode fRL fRR fX fWrites 0))]) (va_runS (As := [Value.int (nI vv), Value.int 0, Value.int (nI (2 ^ bb - 1))]) (rest := []) ⟨hx, hb, hml, hown, hts⟩ (c_M_in l dC dI cI cM cO H.size (nI vv) 0 (nI (2 ^ bb - 1))) (cwS 3 hts (my_gS k1062 k1063 k12 k1064) rfl rfl rfl (by decide +kernel) ⟨by rw [hR]; exact Nat.le_of_ble_eq_true rfl, by rw [hR]; exact Nat.le_of_ble_eq_true rfl⟩) (my_pre hK hN (hP.sub [] rfl) (hD.sub [] (by decide +kernel) rfl)) rfl rfl hl.1 rfl (lv_room (Nat.le_of_ble_eq_true rfl)) d_M_bits_35 ⟨by rw [hR]; exact Nat.le_of_ble_eq_true rfl, by rw [hR]; exact Nat.le_of_ble_eq_true rfl⟩) hP hD hS hA [] [0] rfl rfl (by decide +kernel) (by decide +kernel) (fun r_35 u9 H locs hw_35 hP hD hS => ?_)
      have hw_35 : r_35 = if 0 ≤ (nI vv) ∧ (nI vv) ≤ (nI (2 ^ bb - 1)) then 1 else 0 := hw_35
      have hPD : my_PD (dC, dI) vwCl A [(o, Sum.inr (9, mO g 0 fShift fModels (nI ki) 0 fLow fRange fCache fPend fGoes fOuts fIns fReads fBad fIR fAsk fBAsk fCode fRL fRR fX fWrites 0))] H := ⟨hP, hD⟩
      have hP := hPD.1
      have hD := hPD.2
      refine lv_if_ne (tgt := 44) hx hb d_M_bits_38 (by decide) (fun c_5 => ?_) (fun c_5 => ?_)
      · refine lv_aload_n hx hb d_M_bits_44 rfl (lv_at hl 0 rfl) ?_
        refine va_get (D := (dC, dI)) (ci := 9) (v := .int 0) (C := "RangeCodersModel") (T := T_M) (N := 35) hx hb hg in_M hown hK hP 0 rfl rfl 10 (by decide) (hg _ k962) (fun _ h9 => h9) rfl d_M_bits_45 ?_
        refine lv_if_eq (tgt := 54) hx hb d_M_bits_48 (by decide) (fun c_6 => ?_) (fun c_6 => ?_)
        · refine lv_aload_n hx hb d_M_bits_54 rfl (lv_at hl 0 rfl) ?_
          refine va_get (D := (dC, dI)) (ci := 9) (v := .int (nI ki)) (C := "RangeCodersModel") (T := T_M) (N := 35) hx hb hg in_M hown hK hP 0 rfl rfl 7 (by decide) (hg _ k959) (fun _ h9 => h9) rfl d_M_bits_55 ?_
          refine lv_sipush (v := 600) hx hb d_M_bits_58 (by decide) ?_
          refine lv_icmp_ne (tgt := 67) hx hb d_M_bits_61 (by decide) (fun c_7 => ?_) (fun c_7 => ?_)
          · exact absurd (by rw [hk6]; rfl) c_7
          · refine lv_bipush (v := (-4)) hx hb d_M_bits_64 (by decide) ?_
            exact my_iret (v := (-4)) hx hb hr (rfl) hlocks hQ hK hS (Nat.le_refl _) (Nat.le_refl _) () (rfl) (hP.sub [0] rfl) (hD.sub [0] (by decide +kernel) rfl) d_M_bits_66
        · exact absurd (by decide) c_6
      · exact absurd ⟨nI_pos' (by omega), nI_le (by omega) (by omega)⟩ (one_eq hw_35 c_5)
  · exact absurd c_1 (by decide)
set_option maxHeartbeats 2000000 in
set_option maxRecDepth 100000 in
theorem m_bits1W (l : Launch) (dC : Nat → ClassId) (dI : Nat → Nat → Nat) (cI cM cO : ClassId) (sz : Nat) (o : Nat) (g : Nat → Nat) (fShift : Int32) (fModels : Int32) (fItems : Int32) (fEnded : Int32) (fLow : Int64) (fRange : Int64) (fCache : Int32) (fPend : Int32) (fGoes : Int32) (fOuts : Int32) (fIns : Int32) (fReads : Int32) (fBad : Int32) (fIR : Int32) (fAsk : Int32) (fBAsk : Int32) (fCode : Int64) (fRL : Int64) (fRR : Int64) (fX : Int64) (fWrites : Int32) (fThrown : Int32) (p1 : Int32) (p2 : Int32) (hno : ¬ okB 12 p1 p2) : MetI l y_M_bits (Cond.code y_M_bits prog_14_method_30_code 3 (some .int) :: gw) ({ frames := 1, cells := 0, slots := 0, locals := 22 } : Room) (dC, dI) vwCl (kT cI cM cO) [Value.ref o, Value.int p1, Value.int p2] [(o, Sum.inr (9, mO g 1 fShift fModels fItems fEnded fLow fRange fCache fPend fGoes fOuts fIns fReads fBad fIR fAsk fBAsk fCode fRL fRR fX fWrites fThrown))] sz (fun (r : Int32) (u : Unit) => r = -2) (fun (u : Unit) => [(o, Sum.inr (9, mO g 1 fShift fModels fItems fEnded fLow fRange fCache fPend fGoes fOuts fIns fReads fBad fIR fAsk fBAsk fCode fRL fRR fX fWrites 0))]) 0 0 := by
  refine my_ofI (cc := prog_14_method_30_code) (n := 3) (ret := (some .int)) (by decide) rfl (Nat.le_of_ble_eq_true rfl) ?_
  intro p e s m args below meth c R Q A ls H locs hx hb hr hts hown hlocks hml hnm hR hQ hA hl hP hK hN hD hS
  have hg : ∀ w ∈ gw, w.before args s = true := fun w h => hts w (List.mem_cons_of_mem _ h)
  have hown : s.vm.findClass "RangeCodersModel" = some m.cls := hown
  have hl : lv_has ls 3 [(0, Value.ref o), (1, Value.int p1), (2, Value.int p2)] := hl
  refine lv_aload_n hx hb d_M_bits_0 rfl (lv_at hl 0 rfl) ?_
  refine lv_iconst (v := 0) hx hb d_M_bits_1 (by decide) ?_
  refine va_put (D := (dC, dI)) (ci := 9) (v := .int 0) (ty := .int) (C := "RangeCodersModel") (T := T_M) (N := 35) hx hb hg in_M t_M o_M n_M hown hK hP hD hS 0 rfl rfl 34 (by decide) (hg _ k986) (fun _ h9 => h9) rfl (by decide +kernel) rfl rfl (Nat.le_of_ble_eq_true rfl) d_M_bits_2 (fun H locs hP hD hS => ?_)
  have hPD : my_PD (dC, dI) vwCl A [(o, Sum.inr (9, mO g 1 fShift fModels fItems fEnded fLow fRange fCache fPend fGoes fOuts fIns fReads fBad fIR fAsk fBAsk fCode fRL fRR fX fWrites 0))] H := ⟨hP, hD⟩
  have hP := hPD.1
  have hD := hPD.2
  refine lv_iload_n hx hb d_M_bits_5 rfl (lv_at hl 2 rfl) ?_
  refine lv_iconst (v := 1) hx hb d_M_bits_6 (by decide) ?_
  refine lv_aload_n hx hb d_M_bits_7 rfl (lv_at hl 0 rfl) ?_
  refine va_get (D := (dC, dI)) (ci := 9) (v := .int 1) (C := "RangeCodersModel") (T := T_M) (N := 35) hx hb hg in_M hown hK hP 0 rfl rfl 0 (by decide) (hg _ k952) (fun _ h9 => h9) rfl d_M_bits_8 ?_
  refine lv_iconst (v := 4) hx hb d_M_bits_11 (by decide) ?_
  refine lv_icmp_ne (tgt := 20) hx hb d_M_bits_12 (by decide) (fun c_1 => ?_) (fun c_1 => ?_)
  · refine lv_bipush (v := 12) hx hb d_M_bits_20 (by decide) ?_
    refine my_ci (wr := [(o, Sum.inr (9, mO g 1 fShift fModels fItems fEnded fLow fRange fCache fPend fGoes fOuts fIns fReads fBad fIR fAsk fBAsk fCode fRL fRR fX fWrites 0))]) (va_runS (As := [Value.int p2, Value.int 1, Value.int 12]) (rest := []) ⟨hx, hb, hml, hown, hts⟩ (c_M_in l dC dI cI cM cO H.size p2 1 12) (cwS 3 hts (my_gS k1062 k1063 k12 k1064) rfl rfl rfl (by decide +kernel) ⟨by rw [hR]; exact Nat.le_of_ble_eq_true rfl, by rw [hR]; exact Nat.le_of_ble_eq_true rfl⟩) (my_pre hK hN (hP.sub [] rfl) (hD.sub [] (by decide +kernel) rfl)) rfl rfl hl.1 rfl (lv_room (Nat.le_of_ble_eq_true rfl)) d_M_bits_22 ⟨by rw [hR]; exact Nat.le_of_ble_eq_true rfl, by rw [hR]; exact Nat.le_of_ble_eq_true rfl⟩) hP hD hS hA [] [0] rfl rfl (by decide +kernel) (by decide +kernel) (fun r_22 u9 H locs hw_22 hP hD hS => ?_)
    have hw_22 : r_22 = if 1 ≤ p2 ∧ p2 ≤ 12 then 1 else 0 := hw_22
    have hPD : my_PD (dC, dI) vwCl A [(o, Sum.inr (9, mO g 1 fShift fModels fItems fEnded fLow fRange fCache fPend fGoes fOuts fIns fReads fBad fIR fAsk fBAsk fCode fRL fRR fX fWrites 0))] H := ⟨hP, hD⟩
    have hP := hPD.1
    have hD := hPD.2
    refine lv_if_eq (tgt := 41) hx hb d_M_bits_25 (by decide) (fun c_2 => ?_) (fun c_2 => ?_)
    · refine lv_bipush (v := (-2)) hx hb d_M_bits_41 (by decide) ?_
      exact my_iret (v := (-2)) hx hb hr (rfl) hlocks hQ hK hS (Nat.le_refl _) (Nat.le_refl _) () (rfl) (hP.sub [0] rfl) (hD.sub [0] (by decide +kernel) rfl) d_M_bits_43
    · refine lv_iload_n hx hb d_M_bits_28 rfl (lv_at hl 1 rfl) ?_
      refine lv_iconst (v := 0) hx hb d_M_bits_29 (by decide) ?_
      refine lv_iconst (v := 1) hx hb d_M_bits_30 (by decide) ?_
      refine lv_iload_n hx hb d_M_bits_31 rfl (lv_at hl 2 rfl) ?_
      refine lv_ishl hx hb d_M_bits_32 ?_
      refine lv_topi (fun v_3 ev_3 => ?_)
      refine lv_iconst (v := 1) hx hb d_M_bits_33 (by decide) ?_
      refine lv_isub hx hb d_M_bits_34 ?_
      refine lv_topi (fun v_4 ev_4 => ?_)
      refine my_ci (wr := [(o, Sum.inr (9, mO g 1 fShift fModels fItems fEnded fLow fRange fCache fPend fGoes fOuts fIns fReads fBad fIR fAsk fBAsk fCode fRL fRR fX fWrites 0))]) (va_runS (As := [Value.int p1, Value.int 0, Value.int v_4]) (rest := []) ⟨hx, hb, hml, hown, hts⟩ (c_M_in l dC dI cI cM cO H.size p1 0 v_4) (cwS 3 hts (my_gS k1062 k1063 k12 k1064) rfl rfl rfl (by decide +kernel) ⟨by rw [hR]; exact Nat.le_of_ble_eq_true rfl, by rw [hR]; exact Nat.le_of_ble_eq_true rfl⟩) (my_pre hK hN (hP.sub [] rfl) (hD.sub [] (by decide +kernel) rfl)) rfl rfl hl.1 rfl (lv_room (Nat.le_of_ble_eq_true rfl)) d_M_bits_35 ⟨by rw [hR]; exact Nat.le_of_ble_eq_true rfl, by rw [hR]; exact Nat.le_of_ble_eq_true rfl⟩) hP hD hS hA [] [0] rfl rfl (by decide +kernel) (by decide +kernel) (fun r_35 u9 H locs hw_35 hP hD hS => ?_)
      have hw_35 : r_35 = if 0 ≤ p1 ∧ p1 ≤ v_4 then 1 else 0 := hw_35
      have hPD : my_PD (dC, dI) vwCl A [(o, Sum.inr (9, mO g 1 fShift fModels fItems fEnded fLow fRange fCache fPend fGoes fOuts fIns fReads fBad fIR fAsk fBAsk fCode fRL fRR fX fWrites 0))] H := ⟨hP, hD⟩
      have hP := hPD.1
      have hD := hPD.2
      refine lv_if_ne (tgt := 44) hx hb d_M_bits_38 (by decide) (fun c_5 => ?_) (fun c_5 => ?_)
      · exact absurd (one_ne hw_35 c_5) (okB_no (by decide) hno (one_ne hw_22 c_2) (by subst_vars; rfl))
      · refine lv_bipush (v := (-2)) hx hb d_M_bits_41 (by decide) ?_
        exact my_iret (v := (-2)) hx hb hr (rfl) hlocks hQ hK hS (Nat.le_refl _) (Nat.le_refl _) () (rfl) (hP.sub [0] rfl) (hD.sub [0] (by decide +kernel) rfl) d_M_bits_43
  · exact absurd c_1 (by decide)
set_option maxHeartbeats 2000000 in
set_option maxRecDepth 100000 in
theorem m_bits1E (l : Launch) (dC : Nat → ClassId) (dI : Nat → Nat → Nat) (cI cM cO : ClassId) (sz : Nat) (o : Nat) (g : Nat → Nat) (fShift : Int32) (fModels : Int32) (fItems : Int32) (fEnded : Int32) (fLow : Int64) (fRange : Int64) (fCache : Int32) (fPend : Int32) (fGoes : Int32) (fOuts : Int32) (fIns : Int32) (fReads : Int32) (fBad : Int32) (fIR : Int32) (fAsk : Int32) (fBAsk : Int32) (fCode : Int64) (fRL : Int64) (fRR : Int64) (fX : Int64) (fWrites : Int32) (fThrown : Int32) (vv : Nat) (bb : Nat) (hb1 : 1 ≤ bb) (hb2 : bb ≤ 12) (hv : vv < 2 ^ bb) (hen : ¬ fEnded = 0) : MetI l y_M_bits (Cond.code y_M_bits prog_14_method_30_code 3 (some .int) :: gw) ({ frames := 1, cells := 0, slots := 0, locals := 22 } : Room) (dC, dI) vwCl (kT cI cM cO) [Value.ref o, Value.int (nI vv), Value.int (nI bb)] [(o, Sum.inr (9, mO g 1 fShift fModels fItems fEnded fLow fRange fCache fPend fGoes fOuts fIns fReads fBad fIR fAsk fBAsk fCode fRL fRR fX fWrites fThrown))] sz (fun (r : Int32) (u : Unit) => r = -3) (fun (u : Unit) => [(o, Sum.inr (9, mO g 1 fShift fModels fItems fEnded fLow fRange fCache fPend fGoes fOuts fIns fReads fBad fIR fAsk fBAsk fCode fRL fRR fX fWrites 0))]) 0 0 := by
  refine my_ofI (cc := prog_14_method_30_code) (n := 3) (ret := (some .int)) (by decide) rfl (Nat.le_of_ble_eq_true rfl) ?_
  intro p e s m args below meth c R Q A ls H locs hx hb hr hts hown hlocks hml hnm hR hQ hA hl hP hK hN hD hS
  have hg : ∀ w ∈ gw, w.before args s = true := fun w h => hts w (List.mem_cons_of_mem _ h)
  have hown : s.vm.findClass "RangeCodersModel" = some m.cls := hown
  have hl : lv_has ls 3 [(0, Value.ref o), (1, Value.int (nI vv)), (2, Value.int (nI bb))] := hl
  have hp12 : 2 ^ bb ≤ 4096 := pw12 (by omega)
  have hp0 := Nat.two_pow_pos bb
  refine lv_aload_n hx hb d_M_bits_0 rfl (lv_at hl 0 rfl) ?_
  refine lv_iconst (v := 0) hx hb d_M_bits_1 (by decide) ?_
  refine va_put (D := (dC, dI)) (ci := 9) (v := .int 0) (ty := .int) (C := "RangeCodersModel") (T := T_M) (N := 35) hx hb hg in_M t_M o_M n_M hown hK hP hD hS 0 rfl rfl 34 (by decide) (hg _ k986) (fun _ h9 => h9) rfl (by decide +kernel) rfl rfl (Nat.le_of_ble_eq_true rfl) d_M_bits_2 (fun H locs hP hD hS => ?_)
  have hPD : my_PD (dC, dI) vwCl A [(o, Sum.inr (9, mO g 1 fShift fModels fItems fEnded fLow fRange fCache fPend fGoes fOuts fIns fReads fBad fIR fAsk fBAsk fCode fRL fRR fX fWrites 0))] H := ⟨hP, hD⟩
  have hP := hPD.1
  have hD := hPD.2
  refine lv_iload_n hx hb d_M_bits_5 rfl (lv_at hl 2 rfl) ?_
  refine lv_iconst (v := 1) hx hb d_M_bits_6 (by decide) ?_
  refine lv_aload_n hx hb d_M_bits_7 rfl (lv_at hl 0 rfl) ?_
  refine va_get (D := (dC, dI)) (ci := 9) (v := .int 1) (C := "RangeCodersModel") (T := T_M) (N := 35) hx hb hg in_M hown hK hP 0 rfl rfl 0 (by decide) (hg _ k952) (fun _ h9 => h9) rfl d_M_bits_8 ?_
  refine lv_iconst (v := 4) hx hb d_M_bits_11 (by decide) ?_
  refine lv_icmp_ne (tgt := 20) hx hb d_M_bits_12 (by decide) (fun c_1 => ?_) (fun c_1 => ?_)
  · refine lv_bipush (v := 12) hx hb d_M_bits_20 (by decide) ?_
    refine my_ci (wr := [(o, Sum.inr (9, mO g 1 fShift fModels fItems fEnded fLow fRange fCache fPend fGoes fOuts fIns fReads fBad fIR fAsk fBAsk fCode fRL fRR fX fWrites 0))]) (va_runS (As := [Value.int (nI bb), Value.int 1, Value.int 12]) (rest := []) ⟨hx, hb, hml, hown, hts⟩ (c_M_in l dC dI cI cM cO H.size (nI bb) 1 12) (cwS 3 hts (my_gS k1062 k1063 k12 k1064) rfl rfl rfl (by decide +kernel) ⟨by rw [hR]; exact Nat.le_of_ble_eq_true rfl, by rw [hR]; exact Nat.le_of_ble_eq_true rfl⟩) (my_pre hK hN (hP.sub [] rfl) (hD.sub [] (by decide +kernel) rfl)) rfl rfl hl.1 rfl (lv_room (Nat.le_of_ble_eq_true rfl)) d_M_bits_22 ⟨by rw [hR]; exact Nat.le_of_ble_eq_true rfl, by rw [hR]; exact Nat.le_of_ble_eq_true rfl⟩) hP hD hS hA [] [0] rfl rfl (by decide +kernel) (by decide +kernel) (fun r_22 u9 H locs hw_22 hP hD hS => ?_)
    have hw_22 : r_22 = if 1 ≤ (nI bb) ∧ (nI bb) ≤ 12 then 1 else 0 := hw_22
    have hPD : my_PD (dC, dI) vwCl A [(o, Sum.inr (9, mO g 1 fShift fModels fItems fEnded fLow fRange fCache fPend fGoes fOuts fIns fReads fBad fIR fAsk fBAsk fCode fRL fRR fX fWrites 0))] H := ⟨hP, hD⟩
    have hP := hPD.1
    have hD := hPD.2
    refine lv_if_eq (tgt := 41) hx hb d_M_bits_25 (by decide) (fun c_2 => ?_) (fun c_2 => ?_)
    · exact absurd (show 1 ≤ nI bb ∧ nI bb ≤ nI 12 from ⟨nI_le (a := 1) hb1 (by omega), nI_le hb2 (by decide)⟩) (one_eq hw_22 c_2)
    · refine lv_iload_n hx hb d_M_bits_28 rfl (lv_at hl 1 rfl) ?_
      refine lv_iconst (v := 0) hx hb d_M_bits_29 (by decide) ?_
      refine lv_iconst (v := 1) hx hb d_M_bits_30 (by decide) ?_
      refine lv_iload_n hx hb d_M_bits_31 rfl (lv_at hl 2 rfl) ?_
      refine lv_ishl hx hb d_M_bits_32 ?_
      refine lv_topi (fun v_3 ev_3 => ?_)
      have z9 : v_3 = nI (2 ^ bb) := by rw [ev_3]; exact shl1 _ (by omega)
      subst z9
      refine lv_iconst (v := 1) hx hb d_M_bits_33 (by decide) ?_
      refine lv_isub hx hb d_M_bits_34 ?_
      refine lv_topi (fun v_4 ev_4 => ?_)
      have z9 : v_4 = nI (2 ^ bb - 1) := by rw [ev_4]; exact nI_pred9 hp0
      subst z9
      refine my_ci (wr := [(o, Sum.inr (9, mO g 1 fShift fModels fItems fEnded fLow fRange fCache fPend fGoes fOuts fIns fReads fBad fIR fAsk fBAsk fCode fRL fRR fX fWrites 0))]) (va_runS (As := [Value.int (nI vv), Value.int 0, Value.int (nI (2 ^ bb - 1))]) (rest := []) ⟨hx, hb, hml, hown, hts⟩ (c_M_in l dC dI cI cM cO H.size (nI vv) 0 (nI (2 ^ bb - 1))) (cwS 3 hts (my_gS k1062 k1063 k12 k1064) rfl rfl rfl (by decide +kernel) ⟨by rw [hR]; exact Nat.le_of_ble_eq_true rfl, by rw [hR]; exact Nat.le_of_ble_eq_true rfl⟩) (my_pre hK hN (hP.sub [] rfl) (hD.sub [] (by decide +kernel) rfl)) rfl rfl hl.1 rfl (lv_room (Nat.le_of_ble_eq_true rfl)) d_M_bits_35 ⟨by rw [hR]; exact Nat.le_of_ble_eq_true rfl, by rw [hR]; exact Nat.le_of_ble_eq_true rfl⟩) hP hD hS hA [] [0] rfl rfl (by decide +kernel) (by decide +kernel) (fun r_35 u9 H locs hw_35 hP hD hS => ?_)
      have hw_35 : r_35 = if 0 ≤ (nI vv) ∧ (nI vv) ≤ (nI (2 ^ bb - 1)) then 1 else 0 := hw_35
      have hPD : my_PD (dC, dI) vwCl A [(o, Sum.inr (9, mO g 1 fShift fModels fItems fEnded fLow fRange fCache fPend fGoes fOuts fIns fReads fBad fIR fAsk fBAsk fCode fRL fRR fX fWrites 0))] H := ⟨hP, hD⟩
      have hP := hPD.1
      have hD := hPD.2
      refine lv_if_ne (tgt := 44) hx hb d_M_bits_38 (by decide) (fun c_5 => ?_) (fun c_5 => ?_)
      · refine lv_aload_n hx hb d_M_bits_44 rfl (lv_at hl 0 rfl) ?_
        refine va_get (D := (dC, dI)) (ci := 9) (v := .int fEnded) (C := "RangeCodersModel") (T := T_M) (N := 35) hx hb hg in_M hown hK hP 0 rfl rfl 10 (by decide) (hg _ k962) (fun _ h9 => h9) rfl d_M_bits_45 ?_
        refine lv_if_eq (tgt := 54) hx hb d_M_bits_48 (by decide) (fun c_6 => ?_) (fun c_6 => ?_)
        · exact absurd c_6 hen
        · refine lv_bipush (v := (-3)) hx hb d_M_bits_51 (by decide) ?_
          exact my_iret (v := (-3)) hx hb hr (rfl) hlocks hQ hK hS (Nat.le_refl _) (Nat.le_refl _) () (rfl) (hP.sub [0] rfl) (hD.sub [0] (by decide +kernel) rfl) d_M_bits_53
      · exact absurd ⟨nI_pos' (by omega), nI_le (by omega) (by omega)⟩ (one_eq hw_35 c_5)
  · exact absurd c_1 (by decide)
set_option maxHeartbeats 2000000 in
set_option maxRecDepth 100000 in
theorem m_bits1R (l : Launch) (dC : Nat → ClassId) (dI : Nat → Nat → Nat) (cI cM cO : ClassId) (sz : Nat) (o : Nat) (g : Nat → Nat) (fShift : Int32) (fModels : Int32) (fLow : Int64) (fRange : Int64) (fCache : Int32) (fPend : Int32) (fGoes : Int32) (fOuts : Int32) (fIns : Int32) (fReads : Int32) (fBad : Int32) (fIR : Int32) (fAsk : Int32) (fBAsk : Int32) (fCode : Int64) (fRL : Int64) (fRR : Int64) (fX : Int64) (fWrites : Int32) (fThrown : Int32) (vv : Nat) (bb : Nat) (ki : Nat) (hb1 : 1 ≤ bb) (hb2 : bb ≤ 12) (hv : vv < 2 ^ bb) (hk6 : ki = 600) : MetI l y_M_bits (Cond.code y_M_bits prog_14_method_30_code 3 (some .int) :: gw) ({ frames := 1, cells := 0, slots := 0, locals := 22 } : Room) (dC, dI) vwCl (kT cI cM cO) [Value.ref o, Value.int (nI vv), Value.int (nI bb)] [(o, Sum.inr (9, mO g 1 fShift fModels (nI ki) 0 fLow fRange fCache fPend fGoes fOuts fIns fReads fBad fIR fAsk fBAsk fCode fRL fRR fX fWrites fThrown))] sz (fun (r : Int32) (u : Unit) => r = -4) (fun (u : Unit) => [(o, Sum.inr (9, mO g 1 fShift fModels (nI ki) 0 fLow fRange fCache fPend fGoes fOuts fIns fReads fBad fIR fAsk fBAsk fCode fRL fRR fX fWrites 0))]) 0 0 := by
  refine my_ofI (cc := prog_14_method_30_code) (n := 3) (ret := (some .int)) (by decide) rfl (Nat.le_of_ble_eq_true rfl) ?_
  intro p e s m args below meth c R Q A ls H locs hx hb hr hts hown hlocks hml hnm hR hQ hA hl hP hK hN hD hS
  have hg : ∀ w ∈ gw, w.before args s = true := fun w h => hts w (List.mem_cons_of_mem _ h)
  have hown : s.vm.findClass "RangeCodersModel" = some m.cls := hown
  have hl : lv_has ls 3 [(0, Value.ref o), (1, Value.int (nI vv)), (2, Value.int (nI bb))] := hl
  have hp12 : 2 ^ bb ≤ 4096 := pw12 (by omega)
  have hp0 := Nat.two_pow_pos bb
  refine lv_aload_n hx hb d_M_bits_0 rfl (lv_at hl 0 rfl) ?_
  refine lv_iconst (v := 0) hx hb d_M_bits_1 (by decide) ?_
  refine va_put (D := (dC, dI)) (ci := 9) (v := .int 0) (ty := .int) (C := "RangeCodersModel") (T := T_M) (N := 35) hx hb hg in_M t_M o_M n_M hown hK hP hD hS 0 rfl rfl 34 (by decide) (hg _ k986) (fun _ h9 => h9) rfl (by decide +kernel) rfl rfl (Nat.le_of_ble_eq_true rfl) d_M_bits_2 (fun H locs hP hD hS => ?_)
  have hPD : my_PD (dC, dI) vwCl A [(o, Sum.inr (9, mO g 1 fShift fModels (nI ki) 0 fLow fRange fCache fPend fGoes fOuts fIns fReads fBad fIR fAsk fBAsk fCode fRL fRR fX fWrites 0))] H := ⟨hP, hD⟩
  have hP := hPD.1
  have hD := hPD.2
  refine lv_iload_n hx hb d_M_bits_5 rfl (lv_at hl 2 rfl) ?_
  refine lv_iconst (v := 1) hx hb d_M_bits_6 (by decide) ?_
  refine lv_aload_n hx hb d_M_bits_7 rfl (lv_at hl 0 rfl) ?_
  refine va_get (D := (dC, dI)) (ci := 9) (v := .int 1) (C := "RangeCodersModel") (T := T_M) (N := 35) hx hb hg in_M hown hK hP 0 rfl rfl 0 (by decide) (hg _ k952) (fun _ h9 => h9) rfl d_M_bits_8 ?_
  refine lv_iconst (v := 4) hx hb d_M_bits_11 (by decide) ?_
  refine lv_icmp_ne (tgt := 20) hx hb d_M_bits_12 (by decide) (fun c_1 => ?_) (fun c_1 => ?_)
  · refine lv_bipush (v := 12) hx hb d_M_bits_20 (by decide) ?_
    refine my_ci (wr := [(o, Sum.inr (9, mO g 1 fShift fModels (nI ki) 0 fLow fRange fCache fPend fGoes fOuts fIns fReads fBad fIR fAsk fBAsk fCode fRL fRR fX fWrites 0))]) (va_runS (As := [Value.int (nI bb), Value.int 1, Value.int 12]) (rest := []) ⟨hx, hb, hml, hown, hts⟩ (c_M_in l dC dI cI cM cO H.size (nI bb) 1 12) (cwS 3 hts (my_gS k1062 k1063 k12 k1064) rfl rfl rfl (by decide +kernel) ⟨by rw [hR]; exact Nat.le_of_ble_eq_true rfl, by rw [hR]; exact Nat.le_of_ble_eq_true rfl⟩) (my_pre hK hN (hP.sub [] rfl) (hD.sub [] (by decide +kernel) rfl)) rfl rfl hl.1 rfl (lv_room (Nat.le_of_ble_eq_true rfl)) d_M_bits_22 ⟨by rw [hR]; exact Nat.le_of_ble_eq_true rfl, by rw [hR]; exact Nat.le_of_ble_eq_true rfl⟩) hP hD hS hA [] [0] rfl rfl (by decide +kernel) (by decide +kernel) (fun r_22 u9 H locs hw_22 hP hD hS => ?_)
    have hw_22 : r_22 = if 1 ≤ (nI bb) ∧ (nI bb) ≤ 12 then 1 else 0 := hw_22
    have hPD : my_PD (dC, dI) vwCl A [(o, Sum.inr (9, mO g 1 fShift fModels (nI ki) 0 fLow fRange fCache fPend fGoes fOuts fIns fReads fBad fIR fAsk fBAsk fCode fRL fRR fX fWrites 0))] H := ⟨hP, hD⟩
    have hP := hPD.1
    have hD := hPD.2
    refine lv_if_eq (tgt := 41) hx hb d_M_bits_25 (by decide) (fun c_2 => ?_) (fun c_2 => ?_)
    · exact absurd (show 1 ≤ nI bb ∧ nI bb ≤ nI 12 from ⟨nI_le (a := 1) hb1 (by omega), nI_le hb2 (by decide)⟩) (one_eq hw_22 c_2)
    · refine lv_iload_n hx hb d_M_bits_28 rfl (lv_at hl 1 rfl) ?_
      refine lv_iconst (v := 0) hx hb d_M_bits_29 (by decide) ?_
      refine lv_iconst (v := 1) hx hb d_M_bits_30 (by decide) ?_
      refine lv_iload_n hx hb d_M_bits_31 rfl (lv_at hl 2 rfl) ?_
      refine lv_ishl hx hb d_M_bits_32 ?_
      refine lv_topi (fun v_3 ev_3 => ?_)
      have z9 : v_3 = nI (2 ^ bb) := by rw [ev_3]; exact shl1 _ (by omega)
      subst z9
      refine lv_iconst (v := 1) hx hb d_M_bits_33 (by decide) ?_
      refine lv_isub hx hb d_M_bits_34 ?_
      refine lv_topi (fun v_4 ev_4 => ?_)
      have z9 : v_4 = nI (2 ^ bb - 1) := by rw [ev_4]; exact nI_pred9 hp0
      subst z9
      refine my_ci (wr := [(o, Sum.inr (9, mO g 1 fShift fModels (nI ki) 0 fLow fRange fCache fPend fGoes fOuts fIns fReads fBad fIR fAsk fBAsk fCode fRL fRR fX fWrites 0))]) (va_runS (As := [Value.int (nI vv), Value.int 0, Value.int (nI (2 ^ bb - 1))]) (rest := []) ⟨hx, hb, hml, hown, hts⟩ (c_M_in l dC dI cI cM cO H.size (nI vv) 0 (nI (2 ^ bb - 1))) (cwS 3 hts (my_gS k1062 k1063 k12 k1064) rfl rfl rfl (by decide +kernel) ⟨by rw [hR]; exact Nat.le_of_ble_eq_true rfl, by rw [hR]; exact Nat.le_of_ble_eq_true rfl⟩) (my_pre hK hN (hP.sub [] rfl) (hD.sub [] (by decide +kernel) rfl)) rfl rfl hl.1 rfl (lv_room (Nat.le_of_ble_eq_true rfl)) d_M_bits_35 ⟨by rw [hR]; exact Nat.le_of_ble_eq_true rfl, by rw [hR]; exact Nat.le_of_ble_eq_true rfl⟩) hP hD hS hA [] [0] rfl rfl (by decide +kernel) (by decide +kernel) (fun r_35 u9 H locs hw_35 hP hD hS => ?_)
      have hw_35 : r_35 = if 0 ≤ (nI vv) ∧ (nI vv) ≤ (nI (2 ^ bb - 1)) then 1 else 0 := hw_35
      have hPD : my_PD (dC, dI) vwCl A [(o, Sum.inr (9, mO g 1 fShift fModels (nI ki) 0 fLow fRange fCache fPend fGoes fOuts fIns fReads fBad fIR fAsk fBAsk fCode fRL fRR fX fWrites 0))] H := ⟨hP, hD⟩
      have hP := hPD.1
      have hD := hPD.2
      refine lv_if_ne (tgt := 44) hx hb d_M_bits_38 (by decide) (fun c_5 => ?_) (fun c_5 => ?_)
      · refine lv_aload_n hx hb d_M_bits_44 rfl (lv_at hl 0 rfl) ?_
        refine va_get (D := (dC, dI)) (ci := 9) (v := .int 0) (C := "RangeCodersModel") (T := T_M) (N := 35) hx hb hg in_M hown hK hP 0 rfl rfl 10 (by decide) (hg _ k962) (fun _ h9 => h9) rfl d_M_bits_45 ?_
        refine lv_if_eq (tgt := 54) hx hb d_M_bits_48 (by decide) (fun c_6 => ?_) (fun c_6 => ?_)
        · refine lv_aload_n hx hb d_M_bits_54 rfl (lv_at hl 0 rfl) ?_
          refine va_get (D := (dC, dI)) (ci := 9) (v := .int (nI ki)) (C := "RangeCodersModel") (T := T_M) (N := 35) hx hb hg in_M hown hK hP 0 rfl rfl 7 (by decide) (hg _ k959) (fun _ h9 => h9) rfl d_M_bits_55 ?_
          refine lv_sipush (v := 600) hx hb d_M_bits_58 (by decide) ?_
          refine lv_icmp_ne (tgt := 67) hx hb d_M_bits_61 (by decide) (fun c_7 => ?_) (fun c_7 => ?_)
          · exact absurd (by rw [hk6]; rfl) c_7
          · refine lv_bipush (v := (-4)) hx hb d_M_bits_64 (by decide) ?_
            exact my_iret (v := (-4)) hx hb hr (rfl) hlocks hQ hK hS (Nat.le_refl _) (Nat.le_refl _) () (rfl) (hP.sub [0] rfl) (hD.sub [0] (by decide +kernel) rfl) d_M_bits_66
        · exact absurd (by decide) c_6
      · exact absurd ⟨nI_pos' (by omega), nI_le (by omega) (by omega)⟩ (one_eq hw_35 c_5)
  · exact absurd c_1 (by decide)
set_option maxHeartbeats 2000000 in
set_option maxRecDepth 100000 in
theorem m_bits2W (l : Launch) (dC : Nat → ClassId) (dI : Nat → Nat → Nat) (cI cM cO : ClassId) (sz : Nat) (o : Nat) (g : Nat → Nat) (fShift : Int32) (fModels : Int32) (fItems : Int32) (fEnded : Int32) (fLow : Int64) (fRange : Int64) (fCache : Int32) (fPend : Int32) (fGoes : Int32) (fOuts : Int32) (fIns : Int32) (fReads : Int32) (fBad : Int32) (fIR : Int32) (fAsk : Int32) (fBAsk : Int32) (fCode : Int64) (fRL : Int64) (fRR : Int64) (fX : Int64) (fWrites : Int32) (fThrown : Int32) (p1 : Int32) (p2 : Int32) (hno : ¬ okB 12 p1 p2) : MetI l y_M_bits (Cond.code y_M_bits prog_14_method_30_code 3 (some .int) :: gw) ({ frames := 1, cells := 0, slots := 0, locals := 22 } : Room) (dC, dI) vwCl (kT cI cM cO) [Value.ref o, Value.int p1, Value.int p2] [(o, Sum.inr (9, mO g 2 fShift fModels fItems fEnded fLow fRange fCache fPend fGoes fOuts fIns fReads fBad fIR fAsk fBAsk fCode fRL fRR fX fWrites fThrown))] sz (fun (r : Int32) (u : Unit) => r = -2) (fun (u : Unit) => [(o, Sum.inr (9, mO g 2 fShift fModels fItems fEnded fLow fRange fCache fPend fGoes fOuts fIns fReads fBad fIR fAsk fBAsk fCode fRL fRR fX fWrites 0))]) 0 0 := by
  refine my_ofI (cc := prog_14_method_30_code) (n := 3) (ret := (some .int)) (by decide) rfl (Nat.le_of_ble_eq_true rfl) ?_
  intro p e s m args below meth c R Q A ls H locs hx hb hr hts hown hlocks hml hnm hR hQ hA hl hP hK hN hD hS
  have hg : ∀ w ∈ gw, w.before args s = true := fun w h => hts w (List.mem_cons_of_mem _ h)
  have hown : s.vm.findClass "RangeCodersModel" = some m.cls := hown
  have hl : lv_has ls 3 [(0, Value.ref o), (1, Value.int p1), (2, Value.int p2)] := hl
  refine lv_aload_n hx hb d_M_bits_0 rfl (lv_at hl 0 rfl) ?_
  refine lv_iconst (v := 0) hx hb d_M_bits_1 (by decide) ?_
  refine va_put (D := (dC, dI)) (ci := 9) (v := .int 0) (ty := .int) (C := "RangeCodersModel") (T := T_M) (N := 35) hx hb hg in_M t_M o_M n_M hown hK hP hD hS 0 rfl rfl 34 (by decide) (hg _ k986) (fun _ h9 => h9) rfl (by decide +kernel) rfl rfl (Nat.le_of_ble_eq_true rfl) d_M_bits_2 (fun H locs hP hD hS => ?_)
  have hPD : my_PD (dC, dI) vwCl A [(o, Sum.inr (9, mO g 2 fShift fModels fItems fEnded fLow fRange fCache fPend fGoes fOuts fIns fReads fBad fIR fAsk fBAsk fCode fRL fRR fX fWrites 0))] H := ⟨hP, hD⟩
  have hP := hPD.1
  have hD := hPD.2
  refine lv_iload_n hx hb d_M_bits_5 rfl (lv_at hl 2 rfl) ?_
  refine lv_iconst (v := 1) hx hb d_M_bits_6 (by decide) ?_
  refine lv_aload_n hx hb d_M_bits_7 rfl (lv_at hl 0 rfl) ?_
  refine va_get (D := (dC, dI)) (ci := 9) (v := .int 2) (C := "RangeCodersModel") (T := T_M) (N := 35) hx hb hg in_M hown hK hP 0 rfl rfl 0 (by decide) (hg _ k952) (fun _ h9 => h9) rfl d_M_bits_8 ?_
  refine lv_iconst (v := 4) hx hb d_M_bits_11 (by decide) ?_
  refine lv_icmp_ne (tgt := 20) hx hb d_M_bits_12 (by decide) (fun c_1 => ?_) (fun c_1 => ?_)
  · refine lv_bipush (v := 12) hx hb d_M_bits_20 (by decide) ?_
    refine my_ci (wr := [(o, Sum.inr (9, mO g 2 fShift fModels fItems fEnded fLow fRange fCache fPend fGoes fOuts fIns fReads fBad fIR fAsk fBAsk fCode fRL fRR fX fWrites 0))]) (va_runS (As := [Value.int p2, Value.int 1, Value.int 12]) (rest := []) ⟨hx, hb, hml, hown, hts⟩ (c_M_in l dC dI cI cM cO H.size p2 1 12) (cwS 3 hts (my_gS k1062 k1063 k12 k1064) rfl rfl rfl (by decide +kernel) ⟨by rw [hR]; exact Nat.le_of_ble_eq_true rfl, by rw [hR]; exact Nat.le_of_ble_eq_true rfl⟩) (my_pre hK hN (hP.sub [] rfl) (hD.sub [] (by decide +kernel) rfl)) rfl rfl hl.1 rfl (lv_room (Nat.le_of_ble_eq_true rfl)) d_M_bits_22 ⟨by rw [hR]; exact Nat.le_of_ble_eq_true rfl, by rw [hR]; exact Nat.le_of_ble_eq_true rfl⟩) hP hD hS hA [] [0] rfl rfl (by decide +kernel) (by decide +kernel) (fun r_22 u9 H locs hw_22 hP hD hS => ?_)
    have hw_22 : r_22 = if 1 ≤ p2 ∧ p2 ≤ 12 then 1 else 0 := hw_22
    have hPD : my_PD (dC, dI) vwCl A [(o, Sum.inr (9, mO g 2 fShift fModels fItems fEnded fLow fRange fCache fPend fGoes fOuts fIns fReads fBad fIR fAsk fBAsk fCode fRL fRR fX fWrites 0))] H := ⟨hP, hD⟩
    have hP := hPD.1
    have hD := hPD.2
    refine lv_if_eq (tgt := 41) hx hb d_M_bits_25 (by decide) (fun c_2 => ?_) (fun c_2 => ?_)
    · refine lv_bipush (v := (-2)) hx hb d_M_bits_41 (by decide) ?_
      exact my_iret (v := (-2)) hx hb hr (rfl) hlocks hQ hK hS (Nat.le_refl _) (Nat.le_refl _) () (rfl) (hP.sub [0] rfl) (hD.sub [0] (by decide +kernel) rfl) d_M_bits_43
    · refine lv_iload_n hx hb d_M_bits_28 rfl (lv_at hl 1 rfl) ?_
      refine lv_iconst (v := 0) hx hb d_M_bits_29 (by decide) ?_
      refine lv_iconst (v := 1) hx hb d_M_bits_30 (by decide) ?_
      refine lv_iload_n hx hb d_M_bits_31 rfl (lv_at hl 2 rfl) ?_
      refine lv_ishl hx hb d_M_bits_32 ?_
      refine lv_topi (fun v_3 ev_3 => ?_)
      refine lv_iconst (v := 1) hx hb d_M_bits_33 (by decide) ?_
      refine lv_isub hx hb d_M_bits_34 ?_
      refine lv_topi (fun v_4 ev_4 => ?_)
      refine my_ci (wr := [(o, Sum.inr (9, mO g 2 fShift fModels fItems fEnded fLow fRange fCache fPend fGoes fOuts fIns fReads fBad fIR fAsk fBAsk fCode fRL fRR fX fWrites 0))]) (va_runS (As := [Value.int p1, Value.int 0, Value.int v_4]) (rest := []) ⟨hx, hb, hml, hown, hts⟩ (c_M_in l dC dI cI cM cO H.size p1 0 v_4) (cwS 3 hts (my_gS k1062 k1063 k12 k1064) rfl rfl rfl (by decide +kernel) ⟨by rw [hR]; exact Nat.le_of_ble_eq_true rfl, by rw [hR]; exact Nat.le_of_ble_eq_true rfl⟩) (my_pre hK hN (hP.sub [] rfl) (hD.sub [] (by decide +kernel) rfl)) rfl rfl hl.1 rfl (lv_room (Nat.le_of_ble_eq_true rfl)) d_M_bits_35 ⟨by rw [hR]; exact Nat.le_of_ble_eq_true rfl, by rw [hR]; exact Nat.le_of_ble_eq_true rfl⟩) hP hD hS hA [] [0] rfl rfl (by decide +kernel) (by decide +kernel) (fun r_35 u9 H locs hw_35 hP hD hS => ?_)
      have hw_35 : r_35 = if 0 ≤ p1 ∧ p1 ≤ v_4 then 1 else 0 := hw_35
      have hPD : my_PD (dC, dI) vwCl A [(o, Sum.inr (9, mO g 2 fShift fModels fItems fEnded fLow fRange fCache fPend fGoes fOuts fIns fReads fBad fIR fAsk fBAsk fCode fRL fRR fX fWrites 0))] H := ⟨hP, hD⟩
      have hP := hPD.1
      have hD := hPD.2
      refine lv_if_ne (tgt := 44) hx hb d_M_bits_38 (by decide) (fun c_5 => ?_) (fun c_5 => ?_)
      · exact absurd (one_ne hw_35 c_5) (okB_no (by decide) hno (one_ne hw_22 c_2) (by subst_vars; rfl))
      · refine lv_bipush (v := (-2)) hx hb d_M_bits_41 (by decide) ?_
        exact my_iret (v := (-2)) hx hb hr (rfl) hlocks hQ hK hS (Nat.le_refl _) (Nat.le_refl _) () (rfl) (hP.sub [0] rfl) (hD.sub [0] (by decide +kernel) rfl) d_M_bits_43
  · exact absurd c_1 (by decide)
set_option maxHeartbeats 2000000 in
set_option maxRecDepth 100000 in
theorem m_bits2E (l : Launch) (dC : Nat → ClassId) (dI : Nat → Nat → Nat) (cI cM cO : ClassId) (sz : Nat) (o : Nat) (g : Nat → Nat) (fShift : Int32) (fModels : Int32) (fItems : Int32) (fEnded : Int32) (fLow : Int64) (fRange : Int64) (fCache : Int32) (fPend : Int32) (fGoes : Int32) (fOuts : Int32) (fIns : Int32) (fReads : Int32) (fBad : Int32) (fIR : Int32) (fAsk : Int32) (fBAsk : Int32) (fCode : Int64) (fRL : Int64) (fRR : Int64) (fX : Int64) (fWrites : Int32) (fThrown : Int32) (vv : Nat) (bb : Nat) (hb1 : 1 ≤ bb) (hb2 : bb ≤ 12) (hv : vv < 2 ^ bb) (hen : ¬ fEnded = 0) : MetI l y_M_bits (Cond.code y_M_bits prog_14_method_30_code 3 (some .int) :: gw) ({ frames := 1, cells := 0, slots := 0, locals := 22 } : Room) (dC, dI) vwCl (kT cI cM cO) [Value.ref o, Value.int (nI vv), Value.int (nI bb)] [(o, Sum.inr (9, mO g 2 fShift fModels fItems fEnded fLow fRange fCache fPend fGoes fOuts fIns fReads fBad fIR fAsk fBAsk fCode fRL fRR fX fWrites fThrown))] sz (fun (r : Int32) (u : Unit) => r = -3) (fun (u : Unit) => [(o, Sum.inr (9, mO g 2 fShift fModels fItems fEnded fLow fRange fCache fPend fGoes fOuts fIns fReads fBad fIR fAsk fBAsk fCode fRL fRR fX fWrites 0))]) 0 0 := by
  refine my_ofI (cc := prog_14_method_30_code) (n := 3) (ret := (some .int)) (by decide) rfl (Nat.le_of_ble_eq_true rfl) ?_
  intro p e s m args below meth c R Q A ls H locs hx hb hr hts hown hlocks hml hnm hR hQ hA hl hP hK hN hD hS
  have hg : ∀ w ∈ gw, w.before args s = true := fun w h => hts w (List.mem_cons_of_mem _ h)
  have hown : s.vm.findClass "RangeCodersModel" = some m.cls := hown
  have hl : lv_has ls 3 [(0, Value.ref o), (1, Value.int (nI vv)), (2, Value.int (nI bb))] := hl
  have hp12 : 2 ^ bb ≤ 4096 := pw12 (by omega)
  have hp0 := Nat.two_pow_pos bb
  refine lv_aload_n hx hb d_M_bits_0 rfl (lv_at hl 0 rfl) ?_
  refine lv_iconst (v := 0) hx hb d_M_bits_1 (by decide) ?_
  refine va_put (D := (dC, dI)) (ci := 9) (v := .int 0) (ty := .int) (C := "RangeCodersModel") (T := T_M) (N := 35) hx hb hg in_M t_M o_M n_M hown hK hP hD hS 0 rfl rfl 34 (by decide) (hg _ k986) (fun _ h9 => h9) rfl (by decide +kernel) rfl rfl (Nat.le_of_ble_eq_true rfl) d_M_bits_2 (fun H locs hP hD hS => ?_)
  have hPD : my_PD (dC, dI) vwCl A [(o, Sum.inr (9, mO g 2 fShift fModels fItems fEnded fLow fRange fCache fPend fGoes fOuts fIns fReads fBad fIR fAsk fBAsk fCode fRL fRR fX fWrites 0))] H := ⟨hP, hD⟩
  have hP := hPD.1
  have hD := hPD.2
  refine lv_iload_n hx hb d_M_bits_5 rfl (lv_at hl 2 rfl) ?_
  refine lv_iconst (v := 1) hx hb d_M_bits_6 (by decide) ?_
  refine lv_aload_n hx hb d_M_bits_7 rfl (lv_at hl 0 rfl) ?_
  refine va_get (D := (dC, dI)) (ci := 9) (v := .int 2) (C := "RangeCodersModel") (T := T_M) (N := 35) hx hb hg in_M hown hK hP 0 rfl rfl 0 (by decide) (hg _ k952) (fun _ h9 => h9) rfl d_M_bits_8 ?_
  refine lv_iconst (v := 4) hx hb d_M_bits_11 (by decide) ?_
  refine lv_icmp_ne (tgt := 20) hx hb d_M_bits_12 (by decide) (fun c_1 => ?_) (fun c_1 => ?_)
  · refine lv_bipush (v := 12) hx hb d_M_bits_20 (by decide) ?_
    refine my_ci (wr := [(o, Sum.inr (9, mO g 2 fShift fModels fItems fEnded fLow fRange fCache fPend fGoes fOuts fIns fReads fBad fIR fAsk fBAsk fCode fRL fRR fX fWrites 0))]) (va_runS (As := [Value.int (nI bb), Value.int 1, Value.int 12]) (rest := []) ⟨hx, hb, hml, hown, hts⟩ (c_M_in l dC dI cI cM cO H.size (nI bb) 1 12) (cwS 3 hts (my_gS k1062 k1063 k12 k1064) rfl rfl rfl (by decide +kernel) ⟨by rw [hR]; exact Nat.le_of_ble_eq_true rfl, by rw [hR]; exact Nat.le_of_ble_eq_true rfl⟩) (my_pre hK hN (hP.sub [] rfl) (hD.sub [] (by decide +kernel) rfl)) rfl rfl hl.1 rfl (lv_room (Nat.le_of_ble_eq_true rfl)) d_M_bits_22 ⟨by rw [hR]; exact Nat.le_of_ble_eq_true rfl, by rw [hR]; exact Nat.le_of_ble_eq_true rfl⟩) hP hD hS hA [] [0] rfl rfl (by decide +kernel) (by decide +kernel) (fun r_22 u9 H locs hw_22 hP hD hS => ?_)
    have hw_22 : r_22 = if 1 ≤ (nI bb) ∧ (nI bb) ≤ 12 then 1 else 0 := hw_22
    have hPD : my_PD (dC, dI) vwCl A [(o, Sum.inr (9, mO g 2 fShift fModels fItems fEnded fLow fRange fCache fPend fGoes fOuts fIns fReads fBad fIR fAsk fBAsk fCode fRL fRR fX fWrites 0))] H := ⟨hP, hD⟩
    have hP := hPD.1
    have hD := hPD.2
    refine lv_if_eq (tgt := 41) hx hb d_M_bits_25 (by decide) (fun c_2 => ?_) (fun c_2 => ?_)
    · exact absurd (show 1 ≤ nI bb ∧ nI bb ≤ nI 12 from ⟨nI_le (a := 1) hb1 (by omega), nI_le hb2 (by decide)⟩) (one_eq hw_22 c_2)
    · refine lv_iload_n hx hb d_M_bits_28 rfl (lv_at hl 1 rfl) ?_
      refine lv_iconst (v := 0) hx hb d_M_bits_29 (by decide) ?_
      refine lv_iconst (v := 1) hx hb d_M_bits_30 (by decide) ?_
      refine lv_iload_n hx hb d_M_bits_31 rfl (lv_at hl 2 rfl) ?_
      refine lv_ishl hx hb d_M_bits_32 ?_
      refine lv_topi (fun v_3 ev_3 => ?_)
      have z9 : v_3 = nI (2 ^ bb) := by rw [ev_3]; exact shl1 _ (by omega)
      subst z9
      refine lv_iconst (v := 1) hx hb d_M_bits_33 (by decide) ?_
      refine lv_isub hx hb d_M_bits_34 ?_
      refine lv_topi (fun v_4 ev_4 => ?_)
      have z9 : v_4 = nI (2 ^ bb - 1) := by rw [ev_4]; exact nI_pred9 hp0
      subst z9
      refine my_ci (wr := [(o, Sum.inr (9, mO g 2 fShift fModels fItems fEnded fLow fRange fCache fPend fGoes fOuts fIns fReads fBad fIR fAsk fBAsk fCode fRL fRR fX fWrites 0))]) (va_runS (As := [Value.int (nI vv), Value.int 0, Value.int (nI (2 ^ bb - 1))]) (rest := []) ⟨hx, hb, hml, hown, hts⟩ (c_M_in l dC dI cI cM cO H.size (nI vv) 0 (nI (2 ^ bb - 1))) (cwS 3 hts (my_gS k1062 k1063 k12 k1064) rfl rfl rfl (by decide +kernel) ⟨by rw [hR]; exact Nat.le_of_ble_eq_true rfl, by rw [hR]; exact Nat.le_of_ble_eq_true rfl⟩) (my_pre hK hN (hP.sub [] rfl) (hD.sub [] (by decide +kernel) rfl)) rfl rfl hl.1 rfl (lv_room (Nat.le_of_ble_eq_true rfl)) d_M_bits_35 ⟨by rw [hR]; exact Nat.le_of_ble_eq_true rfl, by rw [hR]; exact Nat.le_of_ble_eq_true rfl⟩) hP hD hS hA [] [0] rfl rfl (by decide +kernel) (by decide +kernel) (fun r_35 u9 H locs hw_35 hP hD hS => ?_)
      have hw_35 : r_35 = if 0 ≤ (nI vv) ∧ (nI vv) ≤ (nI (2 ^ bb - 1)) then 1 else 0 := hw_35
      have hPD : my_PD (dC, dI) vwCl A [(o, Sum.inr (9, mO g 2 fShift fModels fItems fEnded fLow fRange fCache fPend fGoes fOuts fIns fReads fBad fIR fAsk fBAsk fCode fRL fRR fX fWrites 0))] H := ⟨hP, hD⟩
      have hP := hPD.1
      have hD := hPD.2
      refine lv_if_ne (tgt := 44) hx hb d_M_bits_38 (by decide) (fun c_5 => ?_) (fun c_5 => ?_)
      · refine lv_aload_n hx hb d_M_bits_44 rfl (lv_at hl 0 rfl) ?_
        refine va_get (D := (dC, dI)) (ci := 9) (v := .int fEnded) (C := "RangeCodersModel") (T := T_M) (N := 35) hx hb hg in_M hown hK hP 0 rfl rfl 10 (by decide) (hg _ k962) (fun _ h9 => h9) rfl d_M_bits_45 ?_
        refine lv_if_eq (tgt := 54) hx hb d_M_bits_48 (by decide) (fun c_6 => ?_) (fun c_6 => ?_)
        · exact absurd c_6 hen
        · refine lv_bipush (v := (-3)) hx hb d_M_bits_51 (by decide) ?_
          exact my_iret (v := (-3)) hx hb hr (rfl) hlocks hQ hK hS (Nat.le_refl _) (Nat.le_refl _) () (rfl) (hP.sub [0] rfl) (hD.sub [0] (by decide +kernel) rfl) d_M_bits_53
      · exact absurd ⟨nI_pos' (by omega), nI_le (by omega) (by omega)⟩ (one_eq hw_35 c_5)
  · exact absurd c_1 (by decide)
set_option maxHeartbeats 2000000 in
set_option maxRecDepth 100000 in
theorem m_bits2R (l : Launch) (dC : Nat → ClassId) (dI : Nat → Nat → Nat) (cI cM cO : ClassId) (sz : Nat) (o : Nat) (g : Nat → Nat) (fShift : Int32) (fModels : Int32) (fLow : Int64) (fRange : Int64) (fCache : Int32) (fPend : Int32) (fGoes : Int32) (fOuts : Int32) (fIns : Int32) (fReads : Int32) (fBad : Int32) (fIR : Int32) (fAsk : Int32) (fBAsk : Int32) (fCode : Int64) (fRL : Int64) (fRR : Int64) (fX : Int64) (fWrites : Int32) (fThrown : Int32) (vv : Nat) (bb : Nat) (ki : Nat) (hb1 : 1 ≤ bb) (hb2 : bb ≤ 12) (hv : vv < 2 ^ bb) (hk6 : ki = 600) : MetI l y_M_bits (Cond.code y_M_bits prog_14_method_30_code 3 (some .int) :: gw) ({ frames := 1, cells := 0, slots := 0, locals := 22 } : Room) (dC, dI) vwCl (kT cI cM cO) [Value.ref o, Value.int (nI vv), Value.int (nI bb)] [(o, Sum.inr (9, mO g 2 fShift fModels (nI ki) 0 fLow fRange fCache fPend fGoes fOuts fIns fReads fBad fIR fAsk fBAsk fCode fRL fRR fX fWrites fThrown))] sz (fun (r : Int32) (u : Unit) => r = -4) (fun (u : Unit) => [(o, Sum.inr (9, mO g 2 fShift fModels (nI ki) 0 fLow fRange fCache fPend fGoes fOuts fIns fReads fBad fIR fAsk fBAsk fCode fRL fRR fX fWrites 0))]) 0 0 := by
  refine my_ofI (cc := prog_14_method_30_code) (n := 3) (ret := (some .int)) (by decide) rfl (Nat.le_of_ble_eq_true rfl) ?_
  intro p e s m args below meth c R Q A ls H locs hx hb hr hts hown hlocks hml hnm hR hQ hA hl hP hK hN hD hS
  have hg : ∀ w ∈ gw, w.before args s = true := fun w h => hts w (List.mem_cons_of_mem _ h)
  have hown : s.vm.findClass "RangeCodersModel" = some m.cls := hown
  have hl : lv_has ls 3 [(0, Value.ref o), (1, Value.int (nI vv)), (2, Value.int (nI bb))] := hl
  have hp12 : 2 ^ bb ≤ 4096 := pw12 (by omega)
  have hp0 := Nat.two_pow_pos bb
  refine lv_aload_n hx hb d_M_bits_0 rfl (lv_at hl 0 rfl) ?_
  refine lv_iconst (v := 0) hx hb d_M_bits_1 (by decide) ?_
  refine va_put (D := (dC, dI)) (ci := 9) (v := .int 0) (ty := .int) (C := "RangeCodersModel") (T := T_M) (N := 35) hx hb hg in_M t_M o_M n_M hown hK hP hD hS 0 rfl rfl 34 (by decide) (hg _ k986) (fun _ h9 => h9) rfl (by decide +kernel) rfl rfl (Nat.le_of_ble_eq_true rfl) d_M_bits_2 (fun H locs hP hD hS => ?_)
  have hPD : my_PD (dC, dI) vwCl A [(o, Sum.inr (9, mO g 2 fShift fModels (nI ki) 0 fLow fRange fCache fPend fGoes fOuts fIns fReads fBad fIR fAsk fBAsk fCode fRL fRR fX fWrites 0))] H := ⟨hP, hD⟩
  have hP := hPD.1
  have hD := hPD.2
  refine lv_iload_n hx hb d_M_bits_5 rfl (lv_at hl 2 rfl) ?_
  refine lv_iconst (v := 1) hx hb d_M_bits_6 (by decide) ?_
  refine lv_aload_n hx hb d_M_bits_7 rfl (lv_at hl 0 rfl) ?_
  refine va_get (D := (dC, dI)) (ci := 9) (v := .int 2) (C := "RangeCodersModel") (T := T_M) (N := 35) hx hb hg in_M hown hK hP 0 rfl rfl 0 (by decide) (hg _ k952) (fun _ h9 => h9) rfl d_M_bits_8 ?_
  refine lv_iconst (v := 4) hx hb d_M_bits_11 (by decide) ?_
  refine lv_icmp_ne (tgt := 20) hx hb d_M_bits_12 (by decide) (fun c_1 => ?_) (fun c_1 => ?_)
  · refine lv_bipush (v := 12) hx hb d_M_bits_20 (by decide) ?_
    refine my_ci (wr := [(o, Sum.inr (9, mO g 2 fShift fModels (nI ki) 0 fLow fRange fCache fPend fGoes fOuts fIns fReads fBad fIR fAsk fBAsk fCode fRL fRR fX fWrites 0))]) (va_runS (As := [Value.int (nI bb), Value.int 1, Value.int 12]) (rest := []) ⟨hx, hb, hml, hown, hts⟩ (c_M_in l dC dI cI cM cO H.size (nI bb) 1 12) (cwS 3 hts (my_gS k1062 k1063 k12 k1064) rfl rfl rfl (by decide +kernel) ⟨by rw [hR]; exact Nat.le_of_ble_eq_true rfl, by rw [hR]; exact Nat.le_of_ble_eq_true rfl⟩) (my_pre hK hN (hP.sub [] rfl) (hD.sub [] (by decide +kernel) rfl)) rfl rfl hl.1 rfl (lv_room (Nat.le_of_ble_eq_true rfl)) d_M_bits_22 ⟨by rw [hR]; exact Nat.le_of_ble_eq_true rfl, by rw [hR]; exact Nat.le_of_ble_eq_true rfl⟩) hP hD hS hA [] [0] rfl rfl (by decide +kernel) (by decide +kernel) (fun r_22 u9 H locs hw_22 hP hD hS => ?_)
    have hw_22 : r_22 = if 1 ≤ (nI bb) ∧ (nI bb) ≤ 12 then 1 else 0 := hw_22
    have hPD : my_PD (dC, dI) vwCl A [(o, Sum.inr (9, mO g 2 fShift fModels (nI ki) 0 fLow fRange fCache fPend fGoes fOuts fIns fReads fBad fIR fAsk fBAsk fCode fRL fRR fX fWrites 0))] H := ⟨hP, hD⟩
    have hP := hPD.1
    have hD := hPD.2
    refine lv_if_eq (tgt := 41) hx hb d_M_bits_25 (by decide) (fun c_2 => ?_) (fun c_2 => ?_)
    · exact absurd (show 1 ≤ nI bb ∧ nI bb ≤ nI 12 from ⟨nI_le (a := 1) hb1 (by omega), nI_le hb2 (by decide)⟩) (one_eq hw_22 c_2)
    · refine lv_iload_n hx hb d_M_bits_28 rfl (lv_at hl 1 rfl) ?_
      refine lv_iconst (v := 0) hx hb d_M_bits_29 (by decide) ?_
      refine lv_iconst (v := 1) hx hb d_M_bits_30 (by decide) ?_
      refine lv_iload_n hx hb d_M_bits_31 rfl (lv_at hl 2 rfl) ?_
      refine lv_ishl hx hb d_M_bits_32 ?_
      refine lv_topi (fun v_3 ev_3 => ?_)
      have z9 : v_3 = nI (2 ^ bb) := by rw [ev_3]; exact shl1 _ (by omega)
      subst z9
      refine lv_iconst (v := 1) hx hb d_M_bits_33 (by decide) ?_
      refine lv_isub hx hb d_M_bits_34 ?_
      refine lv_topi (fun v_4 ev_4 => ?_)
      have z9 : v_4 = nI (2 ^ bb - 1) := by rw [ev_4]; exact nI_pred9 hp0
      subst z9
      refine my_ci (wr := [(o, Sum.inr (9, mO g 2 fShift fModels (nI ki) 0 fLow fRange fCache fPend fGoes fOuts fIns fReads fBad fIR fAsk fBAsk fCode fRL fRR fX fWrites 0))]) (va_runS (As := [Value.int (nI vv), Value.int 0, Value.int (nI (2 ^ bb - 1))]) (rest := []) ⟨hx, hb, hml, hown, hts⟩ (c_M_in l dC dI cI cM cO H.size (nI vv) 0 (nI (2 ^ bb - 1))) (cwS 3 hts (my_gS k1062 k1063 k12 k1064) rfl rfl rfl (by decide +kernel) ⟨by rw [hR]; exact Nat.le_of_ble_eq_true rfl, by rw [hR]; exact Nat.le_of_ble_eq_true rfl⟩) (my_pre hK hN (hP.sub [] rfl) (hD.sub [] (by decide +kernel) rfl)) rfl rfl hl.1 rfl (lv_room (Nat.le_of_ble_eq_true rfl)) d_M_bits_35 ⟨by rw [hR]; exact Nat.le_of_ble_eq_true rfl, by rw [hR]; exact Nat.le_of_ble_eq_true rfl⟩) hP hD hS hA [] [0] rfl rfl (by decide +kernel) (by decide +kernel) (fun r_35 u9 H locs hw_35 hP hD hS => ?_)
      have hw_35 : r_35 = if 0 ≤ (nI vv) ∧ (nI vv) ≤ (nI (2 ^ bb - 1)) then 1 else 0 := hw_35
      have hPD : my_PD (dC, dI) vwCl A [(o, Sum.inr (9, mO g 2 fShift fModels (nI ki) 0 fLow fRange fCache fPend fGoes fOuts fIns fReads fBad fIR fAsk fBAsk fCode fRL fRR fX fWrites 0))] H := ⟨hP, hD⟩
      have hP := hPD.1
      have hD := hPD.2
      refine lv_if_ne (tgt := 44) hx hb d_M_bits_38 (by decide) (fun c_5 => ?_) (fun c_5 => ?_)
      · refine lv_aload_n hx hb d_M_bits_44 rfl (lv_at hl 0 rfl) ?_
        refine va_get (D := (dC, dI)) (ci := 9) (v := .int 0) (C := "RangeCodersModel") (T := T_M) (N := 35) hx hb hg in_M hown hK hP 0 rfl rfl 10 (by decide) (hg _ k962) (fun _ h9 => h9) rfl d_M_bits_45 ?_
        refine lv_if_eq (tgt := 54) hx hb d_M_bits_48 (by decide) (fun c_6 => ?_) (fun c_6 => ?_)
        · refine lv_aload_n hx hb d_M_bits_54 rfl (lv_at hl 0 rfl) ?_
          refine va_get (D := (dC, dI)) (ci := 9) (v := .int (nI ki)) (C := "RangeCodersModel") (T := T_M) (N := 35) hx hb hg in_M hown hK hP 0 rfl rfl 7 (by decide) (hg _ k959) (fun _ h9 => h9) rfl d_M_bits_55 ?_
          refine lv_sipush (v := 600) hx hb d_M_bits_58 (by decide) ?_
          refine lv_icmp_ne (tgt := 67) hx hb d_M_bits_61 (by decide) (fun c_7 => ?_) (fun c_7 => ?_)
          · exact absurd (by rw [hk6]; rfl) c_7
          · refine lv_bipush (v := (-4)) hx hb d_M_bits_64 (by decide) ?_
            exact my_iret (v := (-4)) hx hb hr (rfl) hlocks hQ hK hS (Nat.le_refl _) (Nat.le_refl _) () (rfl) (hP.sub [0] rfl) (hD.sub [0] (by decide +kernel) rfl) d_M_bits_66
        · exact absurd (by decide) c_6
      · exact absurd ⟨nI_pos' (by omega), nI_le (by omega) (by omega)⟩ (one_eq hw_35 c_5)
  · exact absurd c_1 (by decide)
set_option maxHeartbeats 2000000 in
set_option maxRecDepth 100000 in
theorem m_bits3W (l : Launch) (dC : Nat → ClassId) (dI : Nat → Nat → Nat) (cI cM cO : ClassId) (sz : Nat) (o : Nat) (g : Nat → Nat) (fShift : Int32) (fModels : Int32) (fItems : Int32) (fEnded : Int32) (fLow : Int64) (fRange : Int64) (fCache : Int32) (fPend : Int32) (fGoes : Int32) (fOuts : Int32) (fIns : Int32) (fReads : Int32) (fBad : Int32) (fIR : Int32) (fAsk : Int32) (fBAsk : Int32) (fCode : Int64) (fRL : Int64) (fRR : Int64) (fX : Int64) (fWrites : Int32) (fThrown : Int32) (p1 : Int32) (p2 : Int32) (hno : ¬ okB 12 p1 p2) : MetI l y_M_bits (Cond.code y_M_bits prog_14_method_30_code 3 (some .int) :: gw) ({ frames := 1, cells := 0, slots := 0, locals := 22 } : Room) (dC, dI) vwCl (kT cI cM cO) [Value.ref o, Value.int p1, Value.int p2] [(o, Sum.inr (9, mO g 3 fShift fModels fItems fEnded fLow fRange fCache fPend fGoes fOuts fIns fReads fBad fIR fAsk fBAsk fCode fRL fRR fX fWrites fThrown))] sz (fun (r : Int32) (u : Unit) => r = -2) (fun (u : Unit) => [(o, Sum.inr (9, mO g 3 fShift fModels fItems fEnded fLow fRange fCache fPend fGoes fOuts fIns fReads fBad fIR fAsk fBAsk fCode fRL fRR fX fWrites 0))]) 0 0 := by
  refine my_ofI (cc := prog_14_method_30_code) (n := 3) (ret := (some .int)) (by decide) rfl (Nat.le_of_ble_eq_true rfl) ?_
  intro p e s m args below meth c R Q A ls H locs hx hb hr hts hown hlocks hml hnm hR hQ hA hl hP hK hN hD hS
  have hg : ∀ w ∈ gw, w.before args s = true := fun w h => hts w (List.mem_cons_of_mem _ h)
  have hown : s.vm.findClass "RangeCodersModel" = some m.cls := hown
  have hl : lv_has ls 3 [(0, Value.ref o), (1, Value.int p1), (2, Value.int p2)] := hl
  refine lv_aload_n hx hb d_M_bits_0 rfl (lv_at hl 0 rfl) ?_
  refine lv_iconst (v := 0) hx hb d_M_bits_1 (by decide) ?_
  refine va_put (D := (dC, dI)) (ci := 9) (v := .int 0) (ty := .int) (C := "RangeCodersModel") (T := T_M) (N := 35) hx hb hg in_M t_M o_M n_M hown hK hP hD hS 0 rfl rfl 34 (by decide) (hg _ k986) (fun _ h9 => h9) rfl (by decide +kernel) rfl rfl (Nat.le_of_ble_eq_true rfl) d_M_bits_2 (fun H locs hP hD hS => ?_)
  have hPD : my_PD (dC, dI) vwCl A [(o, Sum.inr (9, mO g 3 fShift fModels fItems fEnded fLow fRange fCache fPend fGoes fOuts fIns fReads fBad fIR fAsk fBAsk fCode fRL fRR fX fWrites 0))] H := ⟨hP, hD⟩
  have hP := hPD.1
  have hD := hPD.2
  refine lv_iload_n hx hb d_M_bits_5 rfl (lv_at hl 2 rfl) ?_
  refine lv_iconst (v := 1) hx hb d_M_bits_6 (by decide) ?_
  refine lv_aload_n hx hb d_M_bits_7 rfl (lv_at hl 0 rfl) ?_
  refine va_get (D := (dC, dI)) (ci := 9) (v := .int 3) (C := "RangeCodersModel") (T := T_M) (N := 35) hx hb hg in_M hown hK hP 0 rfl rfl 0 (by decide) (hg _ k952) (fun _ h9 => h9) rfl d_M_bits_8 ?_
  refine lv_iconst (v := 4) hx hb d_M_bits_11 (by decide) ?_
  refine lv_icmp_ne (tgt := 20) hx hb d_M_bits_12 (by decide) (fun c_1 => ?_) (fun c_1 => ?_)
  · refine lv_bipush (v := 12) hx hb d_M_bits_20 (by decide) ?_
    refine my_ci (wr := [(o, Sum.inr (9, mO g 3 fShift fModels fItems fEnded fLow fRange fCache fPend fGoes fOuts fIns fReads fBad fIR fAsk fBAsk fCode fRL fRR fX fWrites 0))]) (va_runS (As := [Value.int p2, Value.int 1, Value.int 12]) (rest := []) ⟨hx, hb, hml, hown, hts⟩ (c_M_in l dC dI cI cM cO H.size p2 1 12) (cwS 3 hts (my_gS k1062 k1063 k12 k1064) rfl rfl rfl (by decide +kernel) ⟨by rw [hR]; exact Nat.le_of_ble_eq_true rfl, by rw [hR]; exact Nat.le_of_ble_eq_true rfl⟩) (my_pre hK hN (hP.sub [] rfl) (hD.sub [] (by decide +kernel) rfl)) rfl rfl hl.1 rfl (lv_room (Nat.le_of_ble_eq_true rfl)) d_M_bits_22 ⟨by rw [hR]; exact Nat.le_of_ble_eq_true rfl, by rw [hR]; exact Nat.le_of_ble_eq_true rfl⟩) hP hD hS hA [] [0] rfl rfl (by decide +kernel) (by decide +kernel) (fun r_22 u9 H locs hw_22 hP hD hS => ?_)
    have hw_22 : r_22 = if 1 ≤ p2 ∧ p2 ≤ 12 then 1 else 0 := hw_22
    have hPD : my_PD (dC, dI) vwCl A [(o, Sum.inr (9, mO g 3 fShift fModels fItems fEnded fLow fRange fCache fPend fGoes fOuts fIns fReads fBad fIR fAsk fBAsk fCode fRL fRR fX fWrites 0))] H := ⟨hP, hD⟩
    have hP := hPD.1
    have hD := hPD.2
    refine lv_if_eq (tgt := 41) hx hb d_M_bits_25 (by decide) (fun c_2 => ?_) (fun c_2 => ?_)
    · refine lv_bipush (v := (-2)) hx hb d_M_bits_41 (by decide) ?_
      exact my_iret (v := (-2)) hx hb hr (rfl) hlocks hQ hK hS (Nat.le_refl _) (Nat.le_refl _) () (rfl) (hP.sub [0] rfl) (hD.sub [0] (by decide +kernel) rfl) d_M_bits_43
    · refine lv_iload_n hx hb d_M_bits_28 rfl (lv_at hl 1 rfl) ?_
      refine lv_iconst (v := 0) hx hb d_M_bits_29 (by decide) ?_
      refine lv_iconst (v := 1) hx hb d_M_bits_30 (by decide) ?_
      refine lv_iload_n hx hb d_M_bits_31 rfl (lv_at hl 2 rfl) ?_
      refine lv_ishl hx hb d_M_bits_32 ?_
      refine lv_topi (fun v_3 ev_3 => ?_)
      refine lv_iconst (v := 1) hx hb d_M_bits_33 (by decide) ?_
      refine lv_isub hx hb d_M_bits_34 ?_
      refine lv_topi (fun v_4 ev_4 => ?_)
      refine my_ci (wr := [(o, Sum.inr (9, mO g 3 fShift fModels fItems fEnded fLow fRange fCache fPend fGoes fOuts fIns fReads fBad fIR fAsk fBAsk fCode fRL fRR fX fWrites 0))]) (va_runS (As := [Value.int p1, Value.int 0, Value.int v_4]) (rest := []) ⟨hx, hb, hml, hown, hts⟩ (c_M_in l dC dI cI cM cO H.size p1 0 v_4) (cwS 3 hts (my_gS k1062 k1063 k12 k1064) rfl rfl rfl (by decide +kernel) ⟨by rw [hR]; exact Nat.le_of_ble_eq_true rfl, by rw [hR]; exact Nat.le_of_ble_eq_true rfl⟩) (my_pre hK hN (hP.sub [] rfl) (hD.sub [] (by decide +kernel) rfl)) rfl rfl hl.1 rfl (lv_room (Nat.le_of_ble_eq_true rfl)) d_M_bits_35 ⟨by rw [hR]; exact Nat.le_of_ble_eq_true rfl, by rw [hR]; exact Nat.le_of_ble_eq_true rfl⟩) hP hD hS hA [] [0] rfl rfl (by decide +kernel) (by decide +kernel) (fun r_35 u9 H locs hw_35 hP hD hS => ?_)
      have hw_35 : r_35 = if 0 ≤ p1 ∧ p1 ≤ v_4 then 1 else 0 := hw_35
      have hPD : my_PD (dC, dI) vwCl A [(o, Sum.inr (9, mO g 3 fShift fModels fItems fEnded fLow fRange fCache fPend fGoes fOuts fIns fReads fBad fIR fAsk fBAsk fCode fRL fRR fX fWrites 0))] H := ⟨hP, hD⟩
      have hP := hPD.1
      have hD := hPD.2
      refine lv_if_ne (tgt := 44) hx hb d_M_bits_38 (by decide) (fun c_5 => ?_) (fun c_5 => ?_)
      · exact absurd (one_ne hw_35 c_5) (okB_no (by decide) hno (one_ne hw_22 c_2) (by subst_vars; rfl))
      · refine lv_bipush (v := (-2)) hx hb d_M_bits_41 (by decide) ?_
        exact my_iret (v := (-2)) hx hb hr (rfl) hlocks hQ hK hS (Nat.le_refl _) (Nat.le_refl _) () (rfl) (hP.sub [0] rfl) (hD.sub [0] (by decide +kernel) rfl) d_M_bits_43
  · exact absurd c_1 (by decide)
set_option maxHeartbeats 2000000 in
set_option maxRecDepth 100000 in
theorem m_bits3E (l : Launch) (dC : Nat → ClassId) (dI : Nat → Nat → Nat) (cI cM cO : ClassId) (sz : Nat) (o : Nat) (g : Nat → Nat) (fShift : Int32) (fModels : Int32) (fItems : Int32) (fEnded : Int32) (fLow : Int64) (fRange : Int64) (fCache : Int32) (fPend : Int32) (fGoes : Int32) (fOuts : Int32) (fIns : Int32) (fReads : Int32) (fBad : Int32) (fIR : Int32) (fAsk : Int32) (fBAsk : Int32) (fCode : Int64) (fRL : Int64) (fRR : Int64) (fX : Int64) (fWrites : Int32) (fThrown : Int32) (vv : Nat) (bb : Nat) (hb1 : 1 ≤ bb) (hb2 : bb ≤ 12) (hv : vv < 2 ^ bb) (hen : ¬ fEnded = 0) : MetI l y_M_bits (Cond.code y_M_bits prog_14_method_30_code 3 (some .int) :: gw) ({ frames := 1, cells := 0, slots := 0, locals := 22 } : Room) (dC, dI) vwCl (kT cI cM cO) [Value.ref o, Value.int (nI vv), Value.int (nI bb)] [(o, Sum.inr (9, mO g 3 fShift fModels fItems fEnded fLow fRange fCache fPend fGoes fOuts fIns fReads fBad fIR fAsk fBAsk fCode fRL fRR fX fWrites fThrown))] sz (fun (r : Int32) (u : Unit) => r = -3) (fun (u : Unit) => [(o, Sum.inr (9, mO g 3 fShift fModels fItems fEnded fLow fRange fCache fPend fGoes fOuts fIns fReads fBad fIR fAsk fBAsk fCode fRL fRR fX fWrites 0))]) 0 0 := by
  refine my_ofI (cc := prog_14_method_30_code) (n := 3) (ret := (some .int)) (by decide) rfl (Nat.le_of_ble_eq_true rfl) ?_
  intro p e s m args below meth c R Q A ls H locs hx hb hr hts hown hlocks hml hnm hR hQ hA hl hP hK hN hD hS
  have hg : ∀ w ∈ gw, w.before args s = true := fun w h => hts w (List.mem_cons_of_mem _ h)
  have hown : s.vm.findClass "RangeCodersModel" = some m.cls := hown
  have hl : lv_has ls 3 [(0, Value.ref o), (1, Value.int (nI vv)), (2, Value.int (nI bb))] := hl
  have hp12 : 2 ^ bb ≤ 4096 := pw12 (by omega)
  have hp0 := Nat.two_pow_pos bb
  refine lv_aload_n hx hb d_M_bits_0 rfl (lv_at hl 0 rfl) ?_
  refine lv_iconst (v := 0) hx hb d_M_bits_1 (by decide) ?_
  refine va_put (D := (dC, dI)) (ci := 9) (v := .int 0) (ty := .int) (C := "RangeCodersModel") (T := T_M) (N := 35) hx hb hg in_M t_M o_M n_M hown hK hP hD hS 0 rfl rfl 34 (by decide) (hg _ k986) (fun _ h9 => h9) rfl (by decide +kernel) rfl rfl (Nat.le_of_ble_eq_true rfl) d_M_bits_2 (fun H locs hP hD hS => ?_)
  have hPD : my_PD (dC, dI) vwCl A [(o, Sum.inr (9, mO g 3 fShift fModels fItems fEnded fLow fRange fCache fPend fGoes fOuts fIns fReads fBad fIR fAsk fBAsk fCode fRL fRR fX fWrites 0))] H := ⟨hP, hD⟩
  have hP := hPD.1
  have hD := hPD.2
  refine lv_iload_n hx hb d_M_bits_5 rfl (lv_at hl 2 rfl) ?_
  refine lv_iconst (v := 1) hx hb d_M_bits_6 (by decide) ?_
  refine lv_aload_n hx hb d_M_bits_7 rfl (lv_at hl 0 rfl) ?_
  refine va_get (D := (dC, dI)) (ci := 9) (v := .int 3) (C := "RangeCodersModel") (T := T_M) (N := 35) hx hb hg in_M hown hK hP 0 rfl rfl 0 (by decide) (hg _ k952) (fun _ h9 => h9) rfl d_M_bits_8 ?_
  refine lv_iconst (v := 4) hx hb d_M_bits_11 (by decide) ?_
  refine lv_icmp_ne (tgt := 20) hx hb d_M_bits_12 (by decide) (fun c_1 => ?_) (fun c_1 => ?_)
  · refine lv_bipush (v := 12) hx hb d_M_bits_20 (by decide) ?_
    refine my_ci (wr := [(o, Sum.inr (9, mO g 3 fShift fModels fItems fEnded fLow fRange fCache fPend fGoes fOuts fIns fReads fBad fIR fAsk fBAsk fCode fRL fRR fX fWrites 0))]) (va_runS (As := [Value.int (nI bb), Value.int 1, Value.int 12]) (rest := []) ⟨hx, hb, hml, hown, hts⟩ (c_M_in l dC dI cI cM cO H.size (nI bb) 1 12) (cwS 3 hts (my_gS k1062 k1063 k12 k1064) rfl rfl rfl (by decide +kernel) ⟨by rw [hR]; exact Nat.le_of_ble_eq_true rfl, by rw [hR]; exact Nat.le_of_ble_eq_true rfl⟩) (my_pre hK hN (hP.sub [] rfl) (hD.sub [] (by decide +kernel) rfl)) rfl rfl hl.1 rfl (lv_room (Nat.le_of_ble_eq_true rfl)) d_M_bits_22 ⟨by rw [hR]; exact Nat.le_of_ble_eq_true rfl, by rw [hR]; exact Nat.le_of_ble_eq_true rfl⟩) hP hD hS hA [] [0] rfl rfl (by decide +kernel) (by decide +kernel) (fun r_22 u9 H locs hw_22 hP hD hS => ?_)
    have hw_22 : r_22 = if 1 ≤ (nI bb) ∧ (nI bb) ≤ 12 then 1 else 0 := hw_22
    have hPD : my_PD (dC, dI) vwCl A [(o, Sum.inr (9, mO g 3 fShift fModels fItems fEnded fLow fRange fCache fPend fGoes fOuts fIns fReads fBad fIR fAsk fBAsk fCode fRL fRR fX fWrites 0))] H := ⟨hP, hD⟩
    have hP := hPD.1
    have hD := hPD.2
    refine lv_if_eq (tgt := 41) hx hb d_M_bits_25 (by decide) (fun c_2 => ?_) (fun c_2 => ?_)
    · exact absurd (show 1 ≤ nI bb ∧ nI bb ≤ nI 12 from ⟨nI_le (a := 1) hb1 (by omega), nI_le hb2 (by decide)⟩) (one_eq hw_22 c_2)
    · refine lv_iload_n hx hb d_M_bits_28 rfl (lv_at hl 1 rfl) ?_
      refine lv_iconst (v := 0) hx hb d_M_bits_29 (by decide) ?_
      refine lv_iconst (v := 1) hx hb d_M_bits_30 (by decide) ?_
      refine lv_iload_n hx hb d_M_bits_31 rfl (lv_at hl 2 rfl) ?_
      refine lv_ishl hx hb d_M_bits_32 ?_
      refine lv_topi (fun v_3 ev_3 => ?_)
      have z9 : v_3 = nI (2 ^ bb) := by rw [ev_3]; exact shl1 _ (by omega)
      subst z9
      refine lv_iconst (v := 1) hx hb d_M_bits_33 (by decide) ?_
      refine lv_isub hx hb d_M_bits_34 ?_
      refine lv_topi (fun v_4 ev_4 => ?_)
      have z9 : v_4 = nI (2 ^ bb - 1) := by rw [ev_4]; exact nI_pred9 hp0
      subst z9
      refine my_ci (wr := [(o, Sum.inr (9, mO g 3 fShift fModels fItems fEnded fLow fRange fCache fPend fGoes fOuts fIns fReads fBad fIR fAsk fBAsk fCode fRL fRR fX fWrites 0))]) (va_runS (As := [Value.int (nI vv), Value.int 0, Value.int (nI (2 ^ bb - 1))]) (rest := []) ⟨hx, hb, hml, hown, hts⟩ (c_M_in l dC dI cI cM cO H.size (nI vv) 0 (nI (2 ^ bb - 1))) (cwS 3 hts (my_gS k1062 k1063 k12 k1064) rfl rfl rfl (by decide +kernel) ⟨by rw [hR]; exact Nat.le_of_ble_eq_true rfl, by rw [hR]; exact Nat.le_of_ble_eq_true rfl⟩) (my_pre hK hN (hP.sub [] rfl) (hD.sub [] (by decide +kernel) rfl)) rfl rfl hl.1 rfl (lv_room (Nat.le_of_ble_eq_true rfl)) d_M_bits_35 ⟨by rw [hR]; exact Nat.le_of_ble_eq_true rfl, by rw [hR]; exact Nat.le_of_ble_eq_true rfl⟩) hP hD hS hA [] [0] rfl rfl (by decide +kernel) (by decide +kernel) (fun r_35 u9 H locs hw_35 hP hD hS => ?_)
      have hw_35 : r_35 = if 0 ≤ (nI vv) ∧ (nI vv) ≤ (nI (2 ^ bb - 1)) then 1 else 0 := hw_35
      have hPD : my_PD (dC, dI) vwCl A [(o, Sum.inr (9, mO g 3 fShift fModels fItems fEnded fLow fRange fCache fPend fGoes fOuts fIns fReads fBad fIR fAsk fBAsk fCode fRL fRR fX fWrites 0))] H := ⟨hP, hD⟩
      have hP := hPD.1
      have hD := hPD.2
      refine lv_if_ne (tgt := 44) hx hb d_M_bits_38 (by decide) (fun c_5 => ?_) (fun c_5 => ?_)
      · refine lv_aload_n hx hb d_M_bits_44 rfl (lv_at hl 0 rfl) ?_
        refine va_get (D := (dC, dI)) (ci := 9) (v := .int fEnded) (C := "RangeCodersModel") (T := T_M) (N := 35) hx hb hg in_M hown hK hP 0 rfl rfl 10 (by decide) (hg _ k962) (fun _ h9 => h9) rfl d_M_bits_45 ?_
        refine lv_if_eq (tgt := 54) hx hb d_M_bits_48 (by decide) (fun c_6 => ?_) (fun c_6 => ?_)
        · exact absurd c_6 hen
        · refine lv_bipush (v := (-3)) hx hb d_M_bits_51 (by decide) ?_
          exact my_iret (v := (-3)) hx hb hr (rfl) hlocks hQ hK hS (Nat.le_refl _) (Nat.le_refl _) () (rfl) (hP.sub [0] rfl) (hD.sub [0] (by decide +kernel) rfl) d_M_bits_53
      · exact absurd ⟨nI_pos' (by omega), nI_le (by omega) (by omega)⟩ (one_eq hw_35 c_5)
  · exact absurd c_1 (by decide)
set_option maxHeartbeats 2000000 in
set_option maxRecDepth 100000 in
theorem m_bits3R (l : Launch) (dC : Nat → ClassId) (dI : Nat → Nat → Nat) (cI cM cO : ClassId) (sz : Nat) (o : Nat) (g : Nat → Nat) (fShift : Int32) (fModels : Int32) (fLow : Int64) (fRange : Int64) (fCache : Int32) (fPend : Int32) (fGoes : Int32) (fOuts : Int32) (fIns : Int32) (fReads : Int32) (fBad : Int32) (fIR : Int32) (fAsk : Int32) (fBAsk : Int32) (fCode : Int64) (fRL : Int64) (fRR : Int64) (fX : Int64) (fWrites : Int32) (fThrown : Int32) (vv : Nat) (bb : Nat) (ki : Nat) (hb1 : 1 ≤ bb) (hb2 : bb ≤ 12) (hv : vv < 2 ^ bb) (hk6 : ki = 600) : MetI l y_M_bits (Cond.code y_M_bits prog_14_method_30_code 3 (some .int) :: gw) ({ frames := 1, cells := 0, slots := 0, locals := 22 } : Room) (dC, dI) vwCl (kT cI cM cO) [Value.ref o, Value.int (nI vv), Value.int (nI bb)] [(o, Sum.inr (9, mO g 3 fShift fModels (nI ki) 0 fLow fRange fCache fPend fGoes fOuts fIns fReads fBad fIR fAsk fBAsk fCode fRL fRR fX fWrites fThrown))] sz (fun (r : Int32) (u : Unit) => r = -4) (fun (u : Unit) => [(o, Sum.inr (9, mO g 3 fShift fModels (nI ki) 0 fLow fRange fCache fPend fGoes fOuts fIns fReads fBad fIR fAsk fBAsk fCode fRL fRR fX fWrites 0))]) 0 0 := by
  refine my_ofI (cc := prog_14_method_30_code) (n := 3) (ret := (some .int)) (by decide) rfl (Nat.le_of_ble_eq_true rfl) ?_
  intro p e s m args below meth c R Q A ls H locs hx hb hr hts hown hlocks hml hnm hR hQ hA hl hP hK hN hD hS
  have hg : ∀ w ∈ gw, w.before args s = true := fun w h => hts w (List.mem_cons_of_mem _ h)
  have hown : s.vm.findClass "RangeCodersModel" = some m.cls := hown
  have hl : lv_has ls 3 [(0, Value.ref o), (1, Value.int (nI vv)), (2, Value.int (nI bb))] := hl
  have hp12 : 2 ^ bb ≤ 4096 := pw12 (by omega)
  have hp0 := Nat.two_pow_pos bb
  refine lv_aload_n hx hb d_M_bits_0 rfl (lv_at hl 0 rfl) ?_
  refine lv_iconst (v := 0) hx hb d_M_bits_1 (by decide) ?_
  refine va_put (D := (dC, dI)) (ci := 9) (v := .int 0) (ty := .int) (C := "RangeCodersModel") (T := T_M) (N := 35) hx hb hg in_M t_M o_M n_M hown hK hP hD hS 0 rfl rfl 34 (by decide) (hg _ k986) (fun _ h9 => h9) rfl (by decide +kernel) rfl rfl (Nat.le_of_ble_eq_true rfl) d_M_bits_2 (fun H locs hP hD hS => ?_)
  have hPD : my_PD (dC, dI) vwCl A [(o, Sum.inr (9, mO g 3 fShift fModels (nI ki) 0 fLow fRange fCache fPend fGoes fOuts fIns fReads fBad fIR fAsk fBAsk fCode fRL fRR fX fWrites 0))] H := ⟨hP, hD⟩
  have hP := hPD.1
  have hD := hPD.2
  refine lv_iload_n hx hb d_M_bits_5 rfl (lv_at hl 2 rfl) ?_
  refine lv_iconst (v := 1) hx hb d_M_bits_6 (by decide) ?_
  refine lv_aload_n hx hb d_M_bits_7 rfl (lv_at hl 0 rfl) ?_
  refine va_get (D := (dC, dI)) (ci := 9) (v := .int 3) (C := "RangeCodersModel") (T := T_M) (N := 35) hx hb hg in_M hown hK hP 0 rfl rfl 0 (by decide) (hg _ k952) (fun _ h9 => h9) rfl d_M_bits_8 ?_
  refine lv_iconst (v := 4) hx hb d_M_bits_11 (by decide) ?_
  refine lv_icmp_ne (tgt := 20) hx hb d_M_bits_12 (by decide) (fun c_1 => ?_) (fun c_1 => ?_)
  · refine lv_bipush (v := 12) hx hb d_M_bits_20 (by decide) ?_
    refine my_ci (wr := [(o, Sum.inr (9, mO g 3 fShift fModels (nI ki) 0 fLow fRange fCache fPend fGoes fOuts fIns fReads fBad fIR fAsk fBAsk fCode fRL fRR fX fWrites 0))]) (va_runS (As := [Value.int (nI bb), Value.int 1, Value.int 12]) (rest := []) ⟨hx, hb, hml, hown, hts⟩ (c_M_in l dC dI cI cM cO H.size (nI bb) 1 12) (cwS 3 hts (my_gS k1062 k1063 k12 k1064) rfl rfl rfl (by decide +kernel) ⟨by rw [hR]; exact Nat.le_of_ble_eq_true rfl, by rw [hR]; exact Nat.le_of_ble_eq_true rfl⟩) (my_pre hK hN (hP.sub [] rfl) (hD.sub [] (by decide +kernel) rfl)) rfl rfl hl.1 rfl (lv_room (Nat.le_of_ble_eq_true rfl)) d_M_bits_22 ⟨by rw [hR]; exact Nat.le_of_ble_eq_true rfl, by rw [hR]; exact Nat.le_of_ble_eq_true rfl⟩) hP hD hS hA [] [0] rfl rfl (by decide +kernel) (by decide +kernel) (fun r_22 u9 H locs hw_22 hP hD hS => ?_)
    have hw_22 : r_22 = if 1 ≤ (nI bb) ∧ (nI bb) ≤ 12 then 1 else 0 := hw_22
    have hPD : my_PD (dC, dI) vwCl A [(o, Sum.inr (9, mO g 3 fShift fModels (nI ki) 0 fLow fRange fCache fPend fGoes fOuts fIns fReads fBad fIR fAsk fBAsk fCode fRL fRR fX fWrites 0))] H := ⟨hP, hD⟩
    have hP := hPD.1
    have hD := hPD.2
    refine lv_if_eq (tgt := 41) hx hb d_M_bits_25 (by decide) (fun c_2 => ?_) (fun c_2 => ?_)
    · exact absurd (show 1 ≤ nI bb ∧ nI bb ≤ nI 12 from ⟨nI_le (a := 1) hb1 (by omega), nI_le hb2 (by decide)⟩) (one_eq hw_22 c_2)
    · refine lv_iload_n hx hb d_M_bits_28 rfl (lv_at hl 1 rfl) ?_
      refine lv_iconst (v := 0) hx hb d_M_bits_29 (by decide) ?_
      refine lv_iconst (v := 1) hx hb d_M_bits_30 (by decide) ?_
      refine lv_iload_n hx hb d_M_bits_31 rfl (lv_at hl 2 rfl) ?_
      refine lv_ishl hx hb d_M_bits_32 ?_
      refine lv_topi (fun v_3 ev_3 => ?_)
      have z9 : v_3 = nI (2 ^ bb) := by rw [ev_3]; exact shl1 _ (by omega)
      subst z9
      refine lv_iconst (v := 1) hx hb d_M_bits_33 (by decide) ?_
      refine lv_isub hx hb d_M_bits_34 ?_
      refine lv_topi (fun v_4 ev_4 => ?_)
      have z9 : v_4 = nI (2 ^ bb - 1) := by rw [ev_4]; exact nI_pred9 hp0
      subst z9
      refine my_ci (wr := [(o, Sum.inr (9, mO g 3 fShift fModels (nI ki) 0 fLow fRange fCache fPend fGoes fOuts fIns fReads fBad fIR fAsk fBAsk fCode fRL fRR fX fWrites 0))]) (va_runS (As := [Value.int (nI vv), Value.int 0, Value.int (nI (2 ^ bb - 1))]) (rest := []) ⟨hx, hb, hml, hown, hts⟩ (c_M_in l dC dI cI cM cO H.size (nI vv) 0 (nI (2 ^ bb - 1))) (cwS 3 hts (my_gS k1062 k1063 k12 k1064) rfl rfl rfl (by decide +kernel) ⟨by rw [hR]; exact Nat.le_of_ble_eq_true rfl, by rw [hR]; exact Nat.le_of_ble_eq_true rfl⟩) (my_pre hK hN (hP.sub [] rfl) (hD.sub [] (by decide +kernel) rfl)) rfl rfl hl.1 rfl (lv_room (Nat.le_of_ble_eq_true rfl)) d_M_bits_35 ⟨by rw [hR]; exact Nat.le_of_ble_eq_true rfl, by rw [hR]; exact Nat.le_of_ble_eq_true rfl⟩) hP hD hS hA [] [0] rfl rfl (by decide +kernel) (by decide +kernel) (fun r_35 u9 H locs hw_35 hP hD hS => ?_)
      have hw_35 : r_35 = if 0 ≤ (nI vv) ∧ (nI vv) ≤ (nI (2 ^ bb - 1)) then 1 else 0 := hw_35
      have hPD : my_PD (dC, dI) vwCl A [(o, Sum.inr (9, mO g 3 fShift fModels (nI ki) 0 fLow fRange fCache fPend fGoes fOuts fIns fReads fBad fIR fAsk fBAsk fCode fRL fRR fX fWrites 0))] H := ⟨hP, hD⟩
      have hP := hPD.1
      have hD := hPD.2
      refine lv_if_ne (tgt := 44) hx hb d_M_bits_38 (by decide) (fun c_5 => ?_) (fun c_5 => ?_)
      · refine lv_aload_n hx hb d_M_bits_44 rfl (lv_at hl 0 rfl) ?_
        refine va_get (D := (dC, dI)) (ci := 9) (v := .int 0) (C := "RangeCodersModel") (T := T_M) (N := 35) hx hb hg in_M hown hK hP 0 rfl rfl 10 (by decide) (hg _ k962) (fun _ h9 => h9) rfl d_M_bits_45 ?_
        refine lv_if_eq (tgt := 54) hx hb d_M_bits_48 (by decide) (fun c_6 => ?_) (fun c_6 => ?_)
        · refine lv_aload_n hx hb d_M_bits_54 rfl (lv_at hl 0 rfl) ?_
          refine va_get (D := (dC, dI)) (ci := 9) (v := .int (nI ki)) (C := "RangeCodersModel") (T := T_M) (N := 35) hx hb hg in_M hown hK hP 0 rfl rfl 7 (by decide) (hg _ k959) (fun _ h9 => h9) rfl d_M_bits_55 ?_
          refine lv_sipush (v := 600) hx hb d_M_bits_58 (by decide) ?_
          refine lv_icmp_ne (tgt := 67) hx hb d_M_bits_61 (by decide) (fun c_7 => ?_) (fun c_7 => ?_)
          · exact absurd (by rw [hk6]; rfl) c_7
          · refine lv_bipush (v := (-4)) hx hb d_M_bits_64 (by decide) ?_
            exact my_iret (v := (-4)) hx hb hr (rfl) hlocks hQ hK hS (Nat.le_refl _) (Nat.le_refl _) () (rfl) (hP.sub [0] rfl) (hD.sub [0] (by decide +kernel) rfl) d_M_bits_66
        · exact absurd (by decide) c_6
      · exact absurd ⟨nI_pos' (by omega), nI_le (by omega) (by omega)⟩ (one_eq hw_35 c_5)
  · exact absurd c_1 (by decide)
set_option maxHeartbeats 2000000 in
set_option maxRecDepth 100000 in
theorem m_bits4W (l : Launch) (dC : Nat → ClassId) (dI : Nat → Nat → Nat) (cI cM cO : ClassId) (sz : Nat) (o : Nat) (g : Nat → Nat) (fShift : Int32) (fModels : Int32) (fItems : Int32) (fEnded : Int32) (fLow : Int64) (fRange : Int64) (fCache : Int32) (fPend : Int32) (fGoes : Int32) (fOuts : Int32) (fIns : Int32) (fReads : Int32) (fBad : Int32) (fIR : Int32) (fAsk : Int32) (fBAsk : Int32) (fCode : Int64) (fRL : Int64) (fRR : Int64) (fX : Int64) (fWrites : Int32) (fThrown : Int32) (p1 : Int32) (p2 : Int32) (hno : ¬ okB 9 p1 p2) : MetI l y_M_bits (Cond.code y_M_bits prog_14_method_30_code 3 (some .int) :: gw) ({ frames := 1, cells := 0, slots := 0, locals := 22 } : Room) (dC, dI) vwCl (kT cI cM cO) [Value.ref o, Value.int p1, Value.int p2] [(o, Sum.inr (9, mO g 4 fShift fModels fItems fEnded fLow fRange fCache fPend fGoes fOuts fIns fReads fBad fIR fAsk fBAsk fCode fRL fRR fX fWrites fThrown))] sz (fun (r : Int32) (u : Unit) => r = -2) (fun (u : Unit) => [(o, Sum.inr (9, mO g 4 fShift fModels fItems fEnded fLow fRange fCache fPend fGoes fOuts fIns fReads fBad fIR fAsk fBAsk fCode fRL fRR fX fWrites 0))]) 0 0 := by
  refine my_ofI (cc := prog_14_method_30_code) (n := 3) (ret := (some .int)) (by decide) rfl (Nat.le_of_ble_eq_true rfl) ?_
  intro p e s m args below meth c R Q A ls H locs hx hb hr hts hown hlocks hml hnm hR hQ hA hl hP hK hN hD hS
  have hg : ∀ w ∈ gw, w.before args s = true := fun w h => hts w (List.mem_cons_of_mem _ h)
  have hown : s.vm.findClass "RangeCodersModel" = some m.cls := hown
  have hl : lv_has ls 3 [(0, Value.ref o), (1, Value.int p1), (2, Value.int p2)] := hl
  refine lv_aload_n hx hb d_M_bits_0 rfl (lv_at hl 0 rfl) ?_
  refine lv_iconst (v := 0) hx hb d_M_bits_1 (by decide) ?_
  refine va_put (D := (dC, dI)) (ci := 9) (v := .int 0) (ty := .int) (C := "RangeCodersModel") (T := T_M) (N := 35) hx hb hg in_M t_M o_M n_M hown hK hP hD hS 0 rfl rfl 34 (by decide) (hg _ k986) (fun _ h9 => h9) rfl (by decide +kernel) rfl rfl (Nat.le_of_ble_eq_true rfl) d_M_bits_2 (fun H locs hP hD hS => ?_)
  have hPD : my_PD (dC, dI) vwCl A [(o, Sum.inr (9, mO g 4 fShift fModels fItems fEnded fLow fRange fCache fPend fGoes fOuts fIns fReads fBad fIR fAsk fBAsk fCode fRL fRR fX fWrites 0))] H := ⟨hP, hD⟩
  have hP := hPD.1
  have hD := hPD.2
  refine lv_iload_n hx hb d_M_bits_5 rfl (lv_at hl 2 rfl) ?_
  refine lv_iconst (v := 1) hx hb d_M_bits_6 (by decide) ?_
  refine lv_aload_n hx hb d_M_bits_7 rfl (lv_at hl 0 rfl) ?_
  refine va_get (D := (dC, dI)) (ci := 9) (v := .int 4) (C := "RangeCodersModel") (T := T_M) (N := 35) hx hb hg in_M hown hK hP 0 rfl rfl 0 (by decide) (hg _ k952) (fun _ h9 => h9) rfl d_M_bits_8 ?_
  refine lv_iconst (v := 4) hx hb d_M_bits_11 (by decide) ?_
  refine lv_icmp_ne (tgt := 20) hx hb d_M_bits_12 (by decide) (fun c_1 => ?_) (fun c_1 => ?_)
  · exact absurd rfl c_1
  · refine lv_bipush (v := 9) hx hb d_M_bits_15 (by decide) ?_
    refine lv_goto (tgt := 22) hx hb d_M_bits_17 (by decide) ?_
    refine my_ci (wr := [(o, Sum.inr (9, mO g 4 fShift fModels fItems fEnded fLow fRange fCache fPend fGoes fOuts fIns fReads fBad fIR fAsk fBAsk fCode fRL fRR fX fWrites 0))]) (va_runS (As := [Value.int p2, Value.int 1, Value.int 9]) (rest := []) ⟨hx, hb, hml, hown, hts⟩ (c_M_in l dC dI cI cM cO H.size p2 1 9) (cwS 3 hts (my_gS k1062 k1063 k12 k1064) rfl rfl rfl (by decide +kernel) ⟨by rw [hR]; exact Nat.le_of_ble_eq_true rfl, by rw [hR]; exact Nat.le_of_ble_eq_true rfl⟩) (my_pre hK hN (hP.sub [] rfl) (hD.sub [] (by decide +kernel) rfl)) rfl rfl hl.1 rfl (lv_room (Nat.le_of_ble_eq_true rfl)) d_M_bits_22 ⟨by rw [hR]; exact Nat.le_of_ble_eq_true rfl, by rw [hR]; exact Nat.le_of_ble_eq_true rfl⟩) hP hD hS hA [] [0] rfl rfl (by decide +kernel) (by decide +kernel) (fun r_22 u9 H locs hw_22 hP hD hS => ?_)
    have hw_22 : r_22 = if 1 ≤ p2 ∧ p2 ≤ 9 then 1 else 0 := hw_22
    have hPD : my_PD (dC, dI) vwCl A [(o, Sum.inr (9, mO g 4 fShift fModels fItems fEnded fLow fRange fCache fPend fGoes fOuts fIns fReads fBad fIR fAsk fBAsk fCode fRL fRR fX fWrites 0))] H := ⟨hP, hD⟩
    have hP := hPD.1
    have hD := hPD.2
    refine lv_if_eq (tgt := 41) hx hb d_M_bits_25 (by decide) (fun c_2 => ?_) (fun c_2 => ?_)
    · refine lv_bipush (v := (-2)) hx hb d_M_bits_41 (by decide) ?_
      exact my_iret (v := (-2)) hx hb hr (rfl) hlocks hQ hK hS (Nat.le_refl _) (Nat.le_refl _) () (rfl) (hP.sub [0] rfl) (hD.sub [0] (by decide +kernel) rfl) d_M_bits_43
    · refine lv_iload_n hx hb d_M_bits_28 rfl (lv_at hl 1 rfl) ?_
      refine lv_iconst (v := 0) hx hb d_M_bits_29 (by decide) ?_
      refine lv_iconst (v := 1) hx hb d_M_bits_30 (by decide) ?_
      refine lv_iload_n hx hb d_M_bits_31 rfl (lv_at hl 2 rfl) ?_
      refine lv_ishl hx hb d_M_bits_32 ?_
      refine lv_topi (fun v_3 ev_3 => ?_)
      refine lv_iconst (v := 1) hx hb d_M_bits_33 (by decide) ?_
      refine lv_isub hx hb d_M_bits_34 ?_
      refine lv_topi (fun v_4 ev_4 => ?_)
      refine my_ci (wr := [(o, Sum.inr (9, mO g 4 fShift fModels fItems fEnded fLow fRange fCache fPend fGoes fOuts fIns fReads fBad fIR fAsk fBAsk fCode fRL fRR fX fWrites 0))]) (va_runS (As := [Value.int p1, Value.int 0, Value.int v_4]) (rest := []) ⟨hx, hb, hml, hown, hts⟩ (c_M_in l dC dI cI cM cO H.size p1 0 v_4) (cwS 3 hts (my_gS k1062 k1063 k12 k1064) rfl rfl rfl (by decide +kernel) ⟨by rw [hR]; exact Nat.le_of_ble_eq_true rfl, by rw [hR]; exact Nat.le_of_ble_eq_true rfl⟩) (my_pre hK hN (hP.sub [] rfl) (hD.sub [] (by decide +kernel) rfl)) rfl rfl hl.1 rfl (lv_room (Nat.le_of_ble_eq_true rfl)) d_M_bits_35 ⟨by rw [hR]; exact Nat.le_of_ble_eq_true rfl, by rw [hR]; exact Nat.le_of_ble_eq_true rfl⟩) hP hD hS hA [] [0] rfl rfl (by decide +kernel) (by decide +kernel) (fun r_35 u9 H locs hw_35 hP hD hS => ?_)
      have hw_35 : r_35 = if 0 ≤ p1 ∧ p1 ≤ v_4 then 1 else 0 := hw_35
      have hPD : my_PD (dC, dI) vwCl A [(o, Sum.inr (9, mO g 4 fShift fModels fItems fEnded fLow fRange fCache fPend fGoes fOuts fIns fReads fBad fIR fAsk fBAsk fCode fRL fRR fX fWrites 0))] H := ⟨hP, hD⟩
      have hP := hPD.1
      have hD := hPD.2
      refine lv_if_ne (tgt := 44) hx hb d_M_bits_38 (by decide) (fun c_5 => ?_) (fun c_5 => ?_)
      · exact absurd (one_ne hw_35 c_5) (okB_no (by decide) hno (one_ne hw_22 c_2) (by subst_vars; rfl))
      · refine lv_bipush (v := (-2)) hx hb d_M_bits_41 (by decide) ?_
        exact my_iret (v := (-2)) hx hb hr (rfl) hlocks hQ hK hS (Nat.le_refl _) (Nat.le_refl _) () (rfl) (hP.sub [0] rfl) (hD.sub [0] (by decide +kernel) rfl) d_M_bits_43
set_option maxHeartbeats 2000000 in
set_option maxRecDepth 100000 in
theorem m_bits4E (l : Launch) (dC : Nat → ClassId) (dI : Nat → Nat → Nat) (cI cM cO : ClassId) (sz : Nat) (o : Nat) (g : Nat → Nat) (fShift : Int32) (fModels : Int32) (fItems : Int32) (fEnded : Int32) (fLow : Int64) (fRange : Int64) (fCache : Int32) (fPend : Int32) (fGoes : Int32) (fOuts : Int32) (fIns : Int32) (fReads : Int32) (fBad : Int32) (fIR : Int32) (fAsk : Int32) (fBAsk : Int32) (fCode : Int64) (fRL : Int64) (fRR : Int64) (fX : Int64) (fWrites : Int32) (fThrown : Int32) (vv : Nat) (bb : Nat) (hb1 : 1 ≤ bb) (hb2 : bb ≤ 9) (hv : vv < 2 ^ bb) (hen : ¬ fEnded = 0) : MetI l y_M_bits (Cond.code y_M_bits prog_14_method_30_code 3 (some .int) :: gw) ({ frames := 1, cells := 0, slots := 0, locals := 22 } : Room) (dC, dI) vwCl (kT cI cM cO) [Value.ref o, Value.int (nI vv), Value.int (nI bb)] [(o, Sum.inr (9, mO g 4 fShift fModels fItems fEnded fLow fRange fCache fPend fGoes fOuts fIns fReads fBad fIR fAsk fBAsk fCode fRL fRR fX fWrites fThrown))] sz (fun (r : Int32) (u : Unit) => r = -3) (fun (u : Unit) => [(o, Sum.inr (9, mO g 4 fShift fModels fItems fEnded fLow fRange fCache fPend fGoes fOuts fIns fReads fBad fIR fAsk fBAsk fCode fRL fRR fX fWrites 0))]) 0 0 := by
  refine my_ofI (cc := prog_14_method_30_code) (n := 3) (ret := (some .int)) (by decide) rfl (Nat.le_of_ble_eq_true rfl) ?_
  intro p e s m args below meth c R Q A ls H locs hx hb hr hts hown hlocks hml hnm hR hQ hA hl hP hK hN hD hS
  have hg : ∀ w ∈ gw, w.before args s = true := fun w h => hts w (List.mem_cons_of_mem _ h)
  have hown : s.vm.findClass "RangeCodersModel" = some m.cls := hown
  have hl : lv_has ls 3 [(0, Value.ref o), (1, Value.int (nI vv)), (2, Value.int (nI bb))] := hl
  have hp12 : 2 ^ bb ≤ 4096 := pw12 (by omega)
  have hp0 := Nat.two_pow_pos bb
  refine lv_aload_n hx hb d_M_bits_0 rfl (lv_at hl 0 rfl) ?_
  refine lv_iconst (v := 0) hx hb d_M_bits_1 (by decide) ?_
  refine va_put (D := (dC, dI)) (ci := 9) (v := .int 0) (ty := .int) (C := "RangeCodersModel") (T := T_M) (N := 35) hx hb hg in_M t_M o_M n_M hown hK hP hD hS 0 rfl rfl 34 (by decide) (hg _ k986) (fun _ h9 => h9) rfl (by decide +kernel) rfl rfl (Nat.le_of_ble_eq_true rfl) d_M_bits_2 (fun H locs hP hD hS => ?_)
  have hPD : my_PD (dC, dI) vwCl A [(o, Sum.inr (9, mO g 4 fShift fModels fItems fEnded fLow fRange fCache fPend fGoes fOuts fIns fReads fBad fIR fAsk fBAsk fCode fRL fRR fX fWrites 0))] H := ⟨hP, hD⟩
  have hP := hPD.1
  have hD := hPD.2
  refine lv_iload_n hx hb d_M_bits_5 rfl (lv_at hl 2 rfl) ?_
  refine lv_iconst (v := 1) hx hb d_M_bits_6 (by decide) ?_
  refine lv_aload_n hx hb d_M_bits_7 rfl (lv_at hl 0 rfl) ?_
  refine va_get (D := (dC, dI)) (ci := 9) (v := .int 4) (C := "RangeCodersModel") (T := T_M) (N := 35) hx hb hg in_M hown hK hP 0 rfl rfl 0 (by decide) (hg _ k952) (fun _ h9 => h9) rfl d_M_bits_8 ?_
  refine lv_iconst (v := 4) hx hb d_M_bits_11 (by decide) ?_
  refine lv_icmp_ne (tgt := 20) hx hb d_M_bits_12 (by decide) (fun c_1 => ?_) (fun c_1 => ?_)
  · exact absurd rfl c_1
  · refine lv_bipush (v := 9) hx hb d_M_bits_15 (by decide) ?_
    refine lv_goto (tgt := 22) hx hb d_M_bits_17 (by decide) ?_
    refine my_ci (wr := [(o, Sum.inr (9, mO g 4 fShift fModels fItems fEnded fLow fRange fCache fPend fGoes fOuts fIns fReads fBad fIR fAsk fBAsk fCode fRL fRR fX fWrites 0))]) (va_runS (As := [Value.int (nI bb), Value.int 1, Value.int 9]) (rest := []) ⟨hx, hb, hml, hown, hts⟩ (c_M_in l dC dI cI cM cO H.size (nI bb) 1 9) (cwS 3 hts (my_gS k1062 k1063 k12 k1064) rfl rfl rfl (by decide +kernel) ⟨by rw [hR]; exact Nat.le_of_ble_eq_true rfl, by rw [hR]; exact Nat.le_of_ble_eq_true rfl⟩) (my_pre hK hN (hP.sub [] rfl) (hD.sub [] (by decide +kernel) rfl)) rfl rfl hl.1 rfl (lv_room (Nat.le_of_ble_eq_true rfl)) d_M_bits_22 ⟨by rw [hR]; exact Nat.le_of_ble_eq_true rfl, by rw [hR]; exact Nat.le_of_ble_eq_true rfl⟩) hP hD hS hA [] [0] rfl rfl (by decide +kernel) (by decide +kernel) (fun r_22 u9 H locs hw_22 hP hD hS => ?_)
    have hw_22 : r_22 = if 1 ≤ (nI bb) ∧ (nI bb) ≤ 9 then 1 else 0 := hw_22
    have hPD : my_PD (dC, dI) vwCl A [(o, Sum.inr (9, mO g 4 fShift fModels fItems fEnded fLow fRange fCache fPend fGoes fOuts fIns fReads fBad fIR fAsk fBAsk fCode fRL fRR fX fWrites 0))] H := ⟨hP, hD⟩
    have hP := hPD.1
    have hD := hPD.2
    refine lv_if_eq (tgt := 41) hx hb d_M_bits_25 (by decide) (fun c_2 => ?_) (fun c_2 => ?_)
    · exact absurd (show 1 ≤ nI bb ∧ nI bb ≤ nI 9 from ⟨nI_le (a := 1) hb1 (by omega), nI_le hb2 (by decide)⟩) (one_eq hw_22 c_2)
    · refine lv_iload_n hx hb d_M_bits_28 rfl (lv_at hl 1 rfl) ?_
      refine lv_iconst (v := 0) hx hb d_M_bits_29 (by decide) ?_
      refine lv_iconst (v := 1) hx hb d_M_bits_30 (by decide) ?_
      refine lv_iload_n hx hb d_M_bits_31 rfl (lv_at hl 2 rfl) ?_
      refine lv_ishl hx hb d_M_bits_32 ?_
      refine lv_topi (fun v_3 ev_3 => ?_)
      have z9 : v_3 = nI (2 ^ bb) := by rw [ev_3]; exact shl1 _ (by omega)
      subst z9
      refine lv_iconst (v := 1) hx hb d_M_bits_33 (by decide) ?_
      refine lv_isub hx hb d_M_bits_34 ?_
      refine lv_topi (fun v_4 ev_4 => ?_)
      have z9 : v_4 = nI (2 ^ bb - 1) := by rw [ev_4]; exact nI_pred9 hp0
      subst z9
      refine my_ci (wr := [(o, Sum.inr (9, mO g 4 fShift fModels fItems fEnded fLow fRange fCache fPend fGoes fOuts fIns fReads fBad fIR fAsk fBAsk fCode fRL fRR fX fWrites 0))]) (va_runS (As := [Value.int (nI vv), Value.int 0, Value.int (nI (2 ^ bb - 1))]) (rest := []) ⟨hx, hb, hml, hown, hts⟩ (c_M_in l dC dI cI cM cO H.size (nI vv) 0 (nI (2 ^ bb - 1))) (cwS 3 hts (my_gS k1062 k1063 k12 k1064) rfl rfl rfl (by decide +kernel) ⟨by rw [hR]; exact Nat.le_of_ble_eq_true rfl, by rw [hR]; exact Nat.le_of_ble_eq_true rfl⟩) (my_pre hK hN (hP.sub [] rfl) (hD.sub [] (by decide +kernel) rfl)) rfl rfl hl.1 rfl (lv_room (Nat.le_of_ble_eq_true rfl)) d_M_bits_35 ⟨by rw [hR]; exact Nat.le_of_ble_eq_true rfl, by rw [hR]; exact Nat.le_of_ble_eq_true rfl⟩) hP hD hS hA [] [0] rfl rfl (by decide +kernel) (by decide +kernel) (fun r_35 u9 H locs hw_35 hP hD hS => ?_)
      have hw_35 : r_35 = if 0 ≤ (nI vv) ∧ (nI vv) ≤ (nI (2 ^ bb - 1)) then 1 else 0 := hw_35
      have hPD : my_PD (dC, dI) vwCl A [(o, Sum.inr (9, mO g 4 fShift fModels fItems fEnded fLow fRange fCache fPend fGoes fOuts fIns fReads fBad fIR fAsk fBAsk fCode fRL fRR fX fWrites 0))] H := ⟨hP, hD⟩
      have hP := hPD.1
      have hD := hPD.2
      refine lv_if_ne (tgt := 44) hx hb d_M_bits_38 (by decide) (fun c_5 => ?_) (fun c_5 => ?_)
      · refine lv_aload_n hx hb d_M_bits_44 rfl (lv_at hl 0 rfl) ?_
        refine va_get (D := (dC, dI)) (ci := 9) (v := .int fEnded) (C := "RangeCodersModel") (T := T_M) (N := 35) hx hb hg in_M hown hK hP 0 rfl rfl 10 (by decide) (hg _ k962) (fun _ h9 => h9) rfl d_M_bits_45 ?_
        refine lv_if_eq (tgt := 54) hx hb d_M_bits_48 (by decide) (fun c_6 => ?_) (fun c_6 => ?_)
        · exact absurd c_6 hen
        · refine lv_bipush (v := (-3)) hx hb d_M_bits_51 (by decide) ?_
          exact my_iret (v := (-3)) hx hb hr (rfl) hlocks hQ hK hS (Nat.le_refl _) (Nat.le_refl _) () (rfl) (hP.sub [0] rfl) (hD.sub [0] (by decide +kernel) rfl) d_M_bits_53
      · exact absurd ⟨nI_pos' (by omega), nI_le (by omega) (by omega)⟩ (one_eq hw_35 c_5)
set_option maxHeartbeats 2000000 in
set_option maxRecDepth 100000 in
theorem m_bits4R (l : Launch) (dC : Nat → ClassId) (dI : Nat → Nat → Nat) (cI cM cO : ClassId) (sz : Nat) (o : Nat) (g : Nat → Nat) (fShift : Int32) (fModels : Int32) (fLow : Int64) (fRange : Int64) (fCache : Int32) (fPend : Int32) (fGoes : Int32) (fOuts : Int32) (fIns : Int32) (fReads : Int32) (fBad : Int32) (fIR : Int32) (fAsk : Int32) (fBAsk : Int32) (fCode : Int64) (fRL : Int64) (fRR : Int64) (fX : Int64) (fWrites : Int32) (fThrown : Int32) (vv : Nat) (bb : Nat) (ki : Nat) (hb1 : 1 ≤ bb) (hb2 : bb ≤ 9) (hv : vv < 2 ^ bb) (hk6 : ki = 600) : MetI l y_M_bits (Cond.code y_M_bits prog_14_method_30_code 3 (some .int) :: gw) ({ frames := 1, cells := 0, slots := 0, locals := 22 } : Room) (dC, dI) vwCl (kT cI cM cO) [Value.ref o, Value.int (nI vv), Value.int (nI bb)] [(o, Sum.inr (9, mO g 4 fShift fModels (nI ki) 0 fLow fRange fCache fPend fGoes fOuts fIns fReads fBad fIR fAsk fBAsk fCode fRL fRR fX fWrites fThrown))] sz (fun (r : Int32) (u : Unit) => r = -4) (fun (u : Unit) => [(o, Sum.inr (9, mO g 4 fShift fModels (nI ki) 0 fLow fRange fCache fPend fGoes fOuts fIns fReads fBad fIR fAsk fBAsk fCode fRL fRR fX fWrites 0))]) 0 0 := by
  refine my_ofI (cc := prog_14_method_30_code) (n := 3) (ret := (some .int)) (by decide) rfl (Nat.le_of_ble_eq_true rfl) ?_
  intro p e s m args below meth c R Q A ls H locs hx hb hr hts hown hlocks hml hnm hR hQ hA hl hP hK hN hD hS
  have hg : ∀ w ∈ gw, w.before args s = true := fun w h => hts w (List.mem_cons_of_mem _ h)
  have hown : s.vm.findClass "RangeCodersModel" = some m.cls := hown
  have hl : lv_has ls 3 [(0, Value.ref o), (1, Value.int (nI vv)), (2, Value.int (nI bb))] := hl
  have hp12 : 2 ^ bb ≤ 4096 := pw12 (by omega)
  have hp0 := Nat.two_pow_pos bb
  refine lv_aload_n hx hb d_M_bits_0 rfl (lv_at hl 0 rfl) ?_
  refine lv_iconst (v := 0) hx hb d_M_bits_1 (by decide) ?_
  refine va_put (D := (dC, dI)) (ci := 9) (v := .int 0) (ty := .int) (C := "RangeCodersModel") (T := T_M) (N := 35) hx hb hg in_M t_M o_M n_M hown hK hP hD hS 0 rfl rfl 34 (by decide) (hg _ k986) (fun _ h9 => h9) rfl (by decide +kernel) rfl rfl (Nat.le_of_ble_eq_true rfl) d_M_bits_2 (fun H locs hP hD hS => ?_)
  have hPD : my_PD (dC, dI) vwCl A [(o, Sum.inr (9, mO g 4 fShift fModels (nI ki) 0 fLow fRange fCache fPend fGoes fOuts fIns fReads fBad fIR fAsk fBAsk fCode fRL fRR fX fWrites 0))] H := ⟨hP, hD⟩
  have hP := hPD.1
  have hD := hPD.2
  refine lv_iload_n hx hb d_M_bits_5 rfl (lv_at hl 2 rfl) ?_
  refine lv_iconst (v := 1) hx hb d_M_bits_6 (by decide) ?_
  refine lv_aload_n hx hb d_M_bits_7 rfl (lv_at hl 0 rfl) ?_
  refine va_get (D := (dC, dI)) (ci := 9) (v := .int 4) (C := "RangeCodersModel") (T := T_M) (N := 35) hx hb hg in_M hown hK hP 0 rfl rfl 0 (by decide) (hg _ k952) (fun _ h9 => h9) rfl d_M_bits_8 ?_
  refine lv_iconst (v := 4) hx hb d_M_bits_11 (by decide) ?_
  refine lv_icmp_ne (tgt := 20) hx hb d_M_bits_12 (by decide) (fun c_1 => ?_) (fun c_1 => ?_)
  · exact absurd rfl c_1
  · refine lv_bipush (v := 9) hx hb d_M_bits_15 (by decide) ?_
    refine lv_goto (tgt := 22) hx hb d_M_bits_17 (by decide) ?_
    refine my_ci (wr := [(o, Sum.inr (9, mO g 4 fShift fModels (nI ki) 0 fLow fRange fCache fPend fGoes fOuts fIns fReads fBad fIR fAsk fBAsk fCode fRL fRR fX fWrites 0))]) (va_runS (As := [Value.int (nI bb), Value.int 1, Value.int 9]) (rest := []) ⟨hx, hb, hml, hown, hts⟩ (c_M_in l dC dI cI cM cO H.size (nI bb) 1 9) (cwS 3 hts (my_gS k1062 k1063 k12 k1064) rfl rfl rfl (by decide +kernel) ⟨by rw [hR]; exact Nat.le_of_ble_eq_true rfl, by rw [hR]; exact Nat.le_of_ble_eq_true rfl⟩) (my_pre hK hN (hP.sub [] rfl) (hD.sub [] (by decide +kernel) rfl)) rfl rfl hl.1 rfl (lv_room (Nat.le_of_ble_eq_true rfl)) d_M_bits_22 ⟨by rw [hR]; exact Nat.le_of_ble_eq_true rfl, by rw [hR]; exact Nat.le_of_ble_eq_true rfl⟩) hP hD hS hA [] [0] rfl rfl (by decide +kernel) (by decide +kernel) (fun r_22 u9 H locs hw_22 hP hD hS => ?_)
    have hw_22 : r_22 = if 1 ≤ (nI bb) ∧ (nI bb) ≤ 9 then 1 else 0 := hw_22
    have hPD : my_PD (dC, dI) vwCl A [(o, Sum.inr (9, mO g 4 fShift fModels (nI ki) 0 fLow fRange fCache fPend fGoes fOuts fIns fReads fBad fIR fAsk fBAsk fCode fRL fRR fX fWrites 0))] H := ⟨hP, hD⟩
    have hP := hPD.1
    have hD := hPD.2
    refine lv_if_eq (tgt := 41) hx hb d_M_bits_25 (by decide) (fun c_2 => ?_) (fun c_2 => ?_)
    · exact absurd (show 1 ≤ nI bb ∧ nI bb ≤ nI 9 from ⟨nI_le (a := 1) hb1 (by omega), nI_le hb2 (by decide)⟩) (one_eq hw_22 c_2)
    · refine lv_iload_n hx hb d_M_bits_28 rfl (lv_at hl 1 rfl) ?_
      refine lv_iconst (v := 0) hx hb d_M_bits_29 (by decide) ?_
      refine lv_iconst (v := 1) hx hb d_M_bits_30 (by decide) ?_
      refine lv_iload_n hx hb d_M_bits_31 rfl (lv_at hl 2 rfl) ?_
      refine lv_ishl hx hb d_M_bits_32 ?_
      refine lv_topi (fun v_3 ev_3 => ?_)
      have z9 : v_3 = nI (2 ^ bb) := by rw [ev_3]; exact shl1 _ (by omega)
      subst z9
      refine lv_iconst (v := 1) hx hb d_M_bits_33 (by decide) ?_
      refine lv_isub hx hb d_M_bits_34 ?_
      refine lv_topi (fun v_4 ev_4 => ?_)
      have z9 : v_4 = nI (2 ^ bb - 1) := by rw [ev_4]; exact nI_pred9 hp0
      subst z9
      refine my_ci (wr := [(o, Sum.inr (9, mO g 4 fShift fModels (nI ki) 0 fLow fRange fCache fPend fGoes fOuts fIns fReads fBad fIR fAsk fBAsk fCode fRL fRR fX fWrites 0))]) (va_runS (As := [Value.int (nI vv), Value.int 0, Value.int (nI (2 ^ bb - 1))]) (rest := []) ⟨hx, hb, hml, hown, hts⟩ (c_M_in l dC dI cI cM cO H.size (nI vv) 0 (nI (2 ^ bb - 1))) (cwS 3 hts (my_gS k1062 k1063 k12 k1064) rfl rfl rfl (by decide +kernel) ⟨by rw [hR]; exact Nat.le_of_ble_eq_true rfl, by rw [hR]; exact Nat.le_of_ble_eq_true rfl⟩) (my_pre hK hN (hP.sub [] rfl) (hD.sub [] (by decide +kernel) rfl)) rfl rfl hl.1 rfl (lv_room (Nat.le_of_ble_eq_true rfl)) d_M_bits_35 ⟨by rw [hR]; exact Nat.le_of_ble_eq_true rfl, by rw [hR]; exact Nat.le_of_ble_eq_true rfl⟩) hP hD hS hA [] [0] rfl rfl (by decide +kernel) (by decide +kernel) (fun r_35 u9 H locs hw_35 hP hD hS => ?_)
      have hw_35 : r_35 = if 0 ≤ (nI vv) ∧ (nI vv) ≤ (nI (2 ^ bb - 1)) then 1 else 0 := hw_35
      have hPD : my_PD (dC, dI) vwCl A [(o, Sum.inr (9, mO g 4 fShift fModels (nI ki) 0 fLow fRange fCache fPend fGoes fOuts fIns fReads fBad fIR fAsk fBAsk fCode fRL fRR fX fWrites 0))] H := ⟨hP, hD⟩
      have hP := hPD.1
      have hD := hPD.2
      refine lv_if_ne (tgt := 44) hx hb d_M_bits_38 (by decide) (fun c_5 => ?_) (fun c_5 => ?_)
      · refine lv_aload_n hx hb d_M_bits_44 rfl (lv_at hl 0 rfl) ?_
        refine va_get (D := (dC, dI)) (ci := 9) (v := .int 0) (C := "RangeCodersModel") (T := T_M) (N := 35) hx hb hg in_M hown hK hP 0 rfl rfl 10 (by decide) (hg _ k962) (fun _ h9 => h9) rfl d_M_bits_45 ?_
        refine lv_if_eq (tgt := 54) hx hb d_M_bits_48 (by decide) (fun c_6 => ?_) (fun c_6 => ?_)
        · refine lv_aload_n hx hb d_M_bits_54 rfl (lv_at hl 0 rfl) ?_
          refine va_get (D := (dC, dI)) (ci := 9) (v := .int (nI ki)) (C := "RangeCodersModel") (T := T_M) (N := 35) hx hb hg in_M hown hK hP 0 rfl rfl 7 (by decide) (hg _ k959) (fun _ h9 => h9) rfl d_M_bits_55 ?_
          refine lv_sipush (v := 600) hx hb d_M_bits_58 (by decide) ?_
          refine lv_icmp_ne (tgt := 67) hx hb d_M_bits_61 (by decide) (fun c_7 => ?_) (fun c_7 => ?_)
          · exact absurd (by rw [hk6]; rfl) c_7
          · refine lv_bipush (v := (-4)) hx hb d_M_bits_64 (by decide) ?_
            exact my_iret (v := (-4)) hx hb hr (rfl) hlocks hQ hK hS (Nat.le_refl _) (Nat.le_refl _) () (rfl) (hP.sub [0] rfl) (hD.sub [0] (by decide +kernel) rfl) d_M_bits_66
        · exact absurd (by decide) c_6
      · exact absurd ⟨nI_pos' (by omega), nI_le (by omega) (by omega)⟩ (one_eq hw_35 c_5)
end
section
set_option maxHeartbeats 2000000 in
set_option maxRecDepth 100000 in
theorem m_bits0L (l : Launch) (dC : Nat → ClassId) (dI : Nat → Nat → Nat) (cI cM cO : ClassId) (sz : Nat) (o : Nat) (g : Nat → Nat) (fShift : Int32) (fModels : Int32) (fOuts : Int32) (fIns : Int32) (fReads : Int32) (fBad : Int32) (fIR : Int32) (fAsk : Int32) (fBAsk : Int32) (fCode : Int64) (fRL : Int64) (fRR : Int64) (fX : Int64) (fWrites : Int32) (fThrown : Int32) (vIM : Nat → Int32) (vIW : Nat → Int32) (vGoing : Nat → Int32) (vv : Nat) (bb : Nat) (Rg : Nat) (L : Nat) (ca : Option Nat) (Pn : Nat) (bs : List Nat) (ki : Nat) (hb1 : 1 ≤ bb) (hb2 : bb ≤ 12) (hv : vv < 2 ^ bb) (hki : ki < 600) (hE : eInv (Rg, L, ca, Pn, bs)) (hG : gIs vGoing bs) (hN9 : bs.length + Pn + 20 ≤ 9000) : MetI l y_M_bits (Cond.code y_M_bits prog_14_method_30_code 3 (some .int) :: gw) ({ frames := 5, cells := 0, slots := 0, locals := 110 } : Room) (dC, dI) vwCl (kT cI cM cO) [Value.ref o, Value.int (nI vv), Value.int (nI bb)] [(o, Sum.inr (9, mO g 0 fShift fModels (nI ki) 0 (lN L) (lN Rg) (caI ca) (nI Pn) (nI bs.length) fOuts fIns fReads fBad fIR fAsk fBAsk fCode fRL fRR fX fWrites fThrown)), ((g 4), Sum.inl (cI, 600, Sum.inl vIM)), ((g 5), Sum.inl (cI, 600, Sum.inl vIW)), ((g 6), Sum.inl (cI, 9000, Sum.inl vGoing))] sz (fun (r : Int32) (u : (Nat → Int32) × (Nat → Int32) × (Nat → Int32)) => r = nI (ki + 1) ∧ u.1 = upd vIM ki (-nI bb) ∧ u.2.1 = upd vIW ki (nI vv) ∧ gIs u.2.2 (eB (wdS (Rg / 2 ^ bb * 1, L + Rg / 2 ^ bb * vv, ca, Pn, bs)))) (fun (u : (Nat → Int32) × (Nat → Int32) × (Nat → Int32)) => [(o, Sum.inr (9, mO g 0 fShift fModels (nI (ki + 1)) 0 (lN (eL (wdS (Rg / 2 ^ bb * 1, L + Rg / 2 ^ bb * vv, ca, Pn, bs)))) (lN (eR (wdS (Rg / 2 ^ bb * 1, L + Rg / 2 ^ bb * vv, ca, Pn, bs)))) (caI (eC (wdS (Rg / 2 ^ bb * 1, L + Rg / 2 ^ bb * vv, ca, Pn, bs)))) (nI (eP (wdS (Rg / 2 ^ bb * 1, L + Rg / 2 ^ bb * vv, ca, Pn, bs)))) (nI (eB (wdS (Rg / 2 ^ bb * 1, L + Rg / 2 ^ bb * vv, ca, Pn, bs))).length) fOuts fIns fReads fBad fIR fAsk fBAsk fCode fRL fRR fX fWrites 0)), ((g 4), Sum.inl (cI, 600, Sum.inl u.1)), ((g 5), Sum.inl (cI, 600, Sum.inl u.2.1)), ((g 6), Sum.inl (cI, 9000, Sum.inl u.2.2))]) 0 0 := by
  refine my_ofI (cc := prog_14_method_30_code) (n := 3) (ret := (some .int)) (by decide) rfl (Nat.le_of_ble_eq_true rfl) ?_
  intro p e s m args below meth c R Q A ls H locs hx hb hr hts hown hlocks hml hnm hR hQ hA hl hP hK hN hD hS
  have hg : ∀ w ∈ gw, w.before args s = true := fun w h => hts w (List.mem_cons_of_mem _ h)
  have hown : s.vm.findClass "RangeCodersModel" = some m.cls := hown
  have hl : lv_has ls 3 [(0, Value.ref o), (1, Value.int (nI vv)), (2, Value.int (nI bb))] := hl
  have hp12 : 2 ^ bb ≤ 4096 := pw12 (by omega)
  have hp0 := Nat.two_pow_pos bb
  refine lv_aload_n hx hb d_M_bits_0 rfl (lv_at hl 0 rfl) ?_
  refine lv_iconst (v := 0) hx hb d_M_bits_1 (by decide) ?_
  refine va_put (D := (dC, dI)) (ci := 9) (v := .int 0) (ty := .int) (C := "RangeCodersModel") (T := T_M) (N := 35) hx hb hg in_M t_M o_M n_M hown hK hP hD hS 0 rfl rfl 34 (by decide) (hg _ k986) (fun _ h9 => h9) rfl (by decide +kernel) rfl rfl (Nat.le_of_ble_eq_true rfl) d_M_bits_2 (fun H locs hP hD hS => ?_)
  have hPD : my_PD (dC, dI) vwCl A [(o, Sum.inr (9, mO g 0 fShift fModels (nI ki) 0 (lN L) (lN Rg) (caI ca) (nI Pn) (nI bs.length) fOuts fIns fReads fBad fIR fAsk fBAsk fCode fRL fRR fX fWrites 0)), ((g 4), Sum.inl (cI, 600, Sum.inl vIM)), ((g 5), Sum.inl (cI, 600, Sum.inl vIW)), ((g 6), Sum.inl (cI, 9000, Sum.inl vGoing))] H := ⟨hP, hD⟩
  have hP := hPD.1
  have hD := hPD.2
  refine lv_iload_n hx hb d_M_bits_5 rfl (lv_at hl 2 rfl) ?_
  refine lv_iconst (v := 1) hx hb d_M_bits_6 (by decide) ?_
  refine lv_aload_n hx hb d_M_bits_7 rfl (lv_at hl 0 rfl) ?_
  refine va_get (D := (dC, dI)) (ci := 9) (v := .int 0) (C := "RangeCodersModel") (T := T_M) (N := 35) hx hb hg in_M hown hK hP 0 rfl rfl 0 (by decide) (hg _ k952) (fun _ h9 => h9) rfl d_M_bits_8 ?_
  refine lv_iconst (v := 4) hx hb d_M_bits_11 (by decide) ?_
  refine lv_icmp_ne (tgt := 20) hx hb d_M_bits_12 (by decide) (fun c_1 => ?_) (fun c_1 => ?_)
  · refine lv_bipush (v := 12) hx hb d_M_bits_20 (by decide) ?_
    refine my_ci (wr := [(o, Sum.inr (9, mO g 0 fShift fModels (nI ki) 0 (lN L) (lN Rg) (caI ca) (nI Pn) (nI bs.length) fOuts fIns fReads fBad fIR fAsk fBAsk fCode fRL fRR fX fWrites 0)), ((g 4), Sum.inl (cI, 600, Sum.inl vIM)), ((g 5), Sum.inl (cI, 600, Sum.inl vIW)), ((g 6), Sum.inl (cI, 9000, Sum.inl vGoing))]) (va_runS (As := [Value.int (nI bb), Value.int 1, Value.int 12]) (rest := []) ⟨hx, hb, hml, hown, hts⟩ (c_M_in l dC dI cI cM cO H.size (nI bb) 1 12) (cwS 3 hts (my_gS k1062 k1063 k12 k1064) rfl rfl rfl (by decide +kernel) ⟨by rw [hR]; exact Nat.le_of_ble_eq_true rfl, by rw [hR]; exact Nat.le_of_ble_eq_true rfl⟩) (my_pre hK hN (hP.sub [] rfl) (hD.sub [] (by decide +kernel) rfl)) rfl rfl hl.1 rfl (lv_room (Nat.le_of_ble_eq_true rfl)) d_M_bits_22 ⟨by rw [hR]; exact Nat.le_of_ble_eq_true rfl, by rw [hR]; exact Nat.le_of_ble_eq_true rfl⟩) hP hD hS hA [] [0, 1, 2, 3] rfl rfl (by decide +kernel) (by decide +kernel) (fun r_22 u9 H locs hw_22 hP hD hS => ?_)
    have hw_22 : r_22 = if 1 ≤ (nI bb) ∧ (nI bb) ≤ 12 then 1 else 0 := hw_22
    have hPD : my_PD (dC, dI) vwCl A [(o, Sum.inr (9, mO g 0 fShift fModels (nI ki) 0 (lN L) (lN Rg) (caI ca) (nI Pn) (nI bs.length) fOuts fIns fReads fBad fIR fAsk fBAsk fCode fRL fRR fX fWrites 0)), ((g 4), Sum.inl (cI, 600, Sum.inl vIM)), ((g 5), Sum.inl (cI, 600, Sum.inl vIW)), ((g 6), Sum.inl (cI, 9000, Sum.inl vGoing))] H := ⟨hP, hD⟩
    have hP := hPD.1
    have hD := hPD.2
    refine lv_if_eq (tgt := 41) hx hb d_M_bits_25 (by decide) (fun c_2 => ?_) (fun c_2 => ?_)
    · exact absurd (show 1 ≤ nI bb ∧ nI bb ≤ nI 12 from ⟨nI_le (a := 1) hb1 (by omega), nI_le hb2 (by decide)⟩) (one_eq hw_22 c_2)
    · refine lv_iload_n hx hb d_M_bits_28 rfl (lv_at hl 1 rfl) ?_
      refine lv_iconst (v := 0) hx hb d_M_bits_29 (by decide) ?_
      refine lv_iconst (v := 1) hx hb d_M_bits_30 (by decide) ?_
      refine lv_iload_n hx hb d_M_bits_31 rfl (lv_at hl 2 rfl) ?_
      refine lv_ishl hx hb d_M_bits_32 ?_
      refine lv_topi (fun v_3 ev_3 => ?_)
      have z9 : v_3 = nI (2 ^ bb) := by rw [ev_3]; exact shl1 _ (by omega)
      subst z9
      refine lv_iconst (v := 1) hx hb d_M_bits_33 (by decide) ?_
      refine lv_isub hx hb d_M_bits_34 ?_
      refine lv_topi (fun v_4 ev_4 => ?_)
      have z9 : v_4 = nI (2 ^ bb - 1) := by rw [ev_4]; exact nI_pred9 hp0
      subst z9
      refine my_ci (wr := [(o, Sum.inr (9, mO g 0 fShift fModels (nI ki) 0 (lN L) (lN Rg) (caI ca) (nI Pn) (nI bs.length) fOuts fIns fReads fBad fIR fAsk fBAsk fCode fRL fRR fX fWrites 0)), ((g 4), Sum.inl (cI, 600, Sum.inl vIM)), ((g 5), Sum.inl (cI, 600, Sum.inl vIW)), ((g 6), Sum.inl (cI, 9000, Sum.inl vGoing))]) (va_runS (As := [Value.int (nI vv), Value.int 0, Value.int (nI (2 ^ bb - 1))]) (rest := []) ⟨hx, hb, hml, hown, hts⟩ (c_M_in l dC dI cI cM cO H.size (nI vv) 0 (nI (2 ^ bb - 1))) (cwS 3 hts (my_gS k1062 k1063 k12 k1064) rfl rfl rfl (by decide +kernel) ⟨by rw [hR]; exact Nat.le_of_ble_eq_true rfl, by rw [hR]; exact Nat.le_of_ble_eq_true rfl⟩) (my_pre hK hN (hP.sub [] rfl) (hD.sub [] (by decide +kernel) rfl)) rfl rfl hl.1 rfl (lv_room (Nat.le_of_ble_eq_true rfl)) d_M_bits_35 ⟨by rw [hR]; exact Nat.le_of_ble_eq_true rfl, by rw [hR]; exact Nat.le_of_ble_eq_true rfl⟩) hP hD hS hA [] [0, 1, 2, 3] rfl rfl (by decide +kernel) (by decide +kernel) (fun r_35 u9 H locs hw_35 hP hD hS => ?_)
      have hw_35 : r_35 = if 0 ≤ (nI vv) ∧ (nI vv) ≤ (nI (2 ^ bb - 1)) then 1 else 0 := hw_35
      have hPD : my_PD (dC, dI) vwCl A [(o, Sum.inr (9, mO g 0 fShift fModels (nI ki) 0 (lN L) (lN Rg) (caI ca) (nI Pn) (nI bs.length) fOuts fIns fReads fBad fIR fAsk fBAsk fCode fRL fRR fX fWrites 0)), ((g 4), Sum.inl (cI, 600, Sum.inl vIM)), ((g 5), Sum.inl (cI, 600, Sum.inl vIW)), ((g 6), Sum.inl (cI, 9000, Sum.inl vGoing))] H := ⟨hP, hD⟩
      have hP := hPD.1
      have hD := hPD.2
      refine lv_if_ne (tgt := 44) hx hb d_M_bits_38 (by decide) (fun c_5 => ?_) (fun c_5 => ?_)
      · refine lv_aload_n hx hb d_M_bits_44 rfl (lv_at hl 0 rfl) ?_
        refine va_get (D := (dC, dI)) (ci := 9) (v := .int 0) (C := "RangeCodersModel") (T := T_M) (N := 35) hx hb hg in_M hown hK hP 0 rfl rfl 10 (by decide) (hg _ k962) (fun _ h9 => h9) rfl d_M_bits_45 ?_
        refine lv_if_eq (tgt := 54) hx hb d_M_bits_48 (by decide) (fun c_6 => ?_) (fun c_6 => ?_)
        · refine lv_aload_n hx hb d_M_bits_54 rfl (lv_at hl 0 rfl) ?_
          refine va_get (D := (dC, dI)) (ci := 9) (v := .int (nI ki)) (C := "RangeCodersModel") (T := T_M) (N := 35) hx hb hg in_M hown hK hP 0 rfl rfl 7 (by decide) (hg _ k959) (fun _ h9 => h9) rfl d_M_bits_55 ?_
          refine lv_sipush (v := 600) hx hb d_M_bits_58 (by decide) ?_
          refine lv_icmp_ne (tgt := 67) hx hb d_M_bits_61 (by decide) (fun c_7 => ?_) (fun c_7 => ?_)
          · refine lv_aload_n hx hb d_M_bits_67 rfl (lv_at hl 0 rfl) ?_
            refine lv_iload_n hx hb d_M_bits_68 rfl (lv_at hl 1 rfl) ?_
            refine lv_iload_n hx hb d_M_bits_69 rfl (lv_at hl 2 rfl) ?_
            refine my_cv (wr := [((g 4), Sum.inl (cI, 600, Sum.inl vIM)), ((g 5), Sum.inl (cI, 600, Sum.inl vIW))]) (va_runV (As := [Value.int (nI vv), Value.int (nI bb)]) (rest := []) ⟨hx, hb, hml, hown, hts⟩ (c_M_putValue0 l dC dI cI cM cO H.size o g fShift fModels (nI ki) 0 fOuts fIns fReads fBad fIR fAsk fBAsk fCode fRL fRR fX fWrites 0 vGoing vv bb Rg L ca Pn bs (hb1) (hb2) (hv) (by first | assumption | omega) (by first | assumption | omega) (by first | assumption | omega)) (cwV 2 hts (my_gV k1143 k1145 ks39 k12 k1146) rfl rfl rfl (by decide +kernel) ⟨by rw [hR]; exact Nat.le_of_ble_eq_true rfl, by rw [hR]; exact Nat.le_of_ble_eq_true rfl⟩) (my_preV hK hN (hP.sub [0, 3] rfl) (hD.sub [0, 3] (by decide +kernel) rfl) 0 rfl rfl) rfl rfl hl.1 rfl (lv_room (Nat.le_of_ble_eq_true rfl)) d_M_bits_70 ⟨by rw [hR]; exact Nat.le_of_ble_eq_true rfl, by rw [hR]; exact Nat.le_of_ble_eq_true rfl⟩) hP hD hS hA [0, 3] [1, 2] rfl rfl (by decide +kernel) (by decide +kernel) (fun u9 H locs hw_70 hP hD hS => ?_)
            obtain ⟨v2_70, rfl⟩ : ∃ z, z = u9 := ⟨_, rfl⟩
            have hw_70 : gIs v2_70 (eB (wdS (Rg / 2 ^ bb * 1, L + Rg / 2 ^ bb * vv, ca, Pn, bs))) := hw_70
            have hPD : my_PD (dC, dI) vwCl A [((g 4), Sum.inl (cI, 600, Sum.inl vIM)), ((g 5), Sum.inl (cI, 600, Sum.inl vIW)), (o, Sum.inr (9, mO g 0 fShift fModels (nI ki) 0 (lN (eL (wdS (Rg / 2 ^ bb * 1, L + Rg / 2 ^ bb * vv, ca, Pn, bs)))) (lN (eR (wdS (Rg / 2 ^ bb * 1, L + Rg / 2 ^ bb * vv, ca, Pn, bs)))) (caI (eC (wdS (Rg / 2 ^ bb * 1, L + Rg / 2 ^ bb * vv, ca, Pn, bs)))) (nI (eP (wdS (Rg / 2 ^ bb * 1, L + Rg / 2 ^ bb * vv, ca, Pn, bs)))) (nI (eB (wdS (Rg / 2 ^ bb * 1, L + Rg / 2 ^ bb * vv, ca, Pn, bs))).length) fOuts fIns fReads fBad fIR fAsk fBAsk fCode fRL fRR fX fWrites 0)), ((g 6), Sum.inl (cI, 9000, Sum.inl v2_70))] H := ⟨hP, hD⟩
            have hP := hPD.1
            have hD := hPD.2
            refine lv_aload_n hx hb d_M_bits_73 rfl (lv_at hl 0 rfl) ?_
            refine lv_iload_n hx hb d_M_bits_74 rfl (lv_at hl 2 rfl) ?_
            refine lv_ineg hx hb d_M_bits_75 ?_
            refine lv_topi (fun v_8 ev_8 => ?_)
            refine lv_iload_n hx hb d_M_bits_76 rfl (lv_at hl 1 rfl) ?_
            refine my_ci (wr := [((g 6), Sum.inl (cI, 9000, Sum.inl v2_70))]) (va_runV (As := [Value.int v_8, Value.int (nI vv)]) (rest := []) ⟨hx, hb, hml, hown, hts⟩ (c_M_addItem l dC dI cI cM cO H.size o g 0 fShift fModels 0 (lN (eL (wdS (Rg / 2 ^ bb * 1, L + Rg / 2 ^ bb * vv, ca, Pn, bs)))) (lN (eR (wdS (Rg / 2 ^ bb * 1, L + Rg / 2 ^ bb * vv, ca, Pn, bs)))) (caI (eC (wdS (Rg / 2 ^ bb * 1, L + Rg / 2 ^ bb * vv, ca, Pn, bs)))) (nI (eP (wdS (Rg / 2 ^ bb * 1, L + Rg / 2 ^ bb * vv, ca, Pn, bs)))) (nI (eB (wdS (Rg / 2 ^ bb * 1, L + Rg / 2 ^ bb * vv, ca, Pn, bs))).length) fOuts fIns fReads fBad fIR fAsk fBAsk fCode fRL fRR fX fWrites 0 vIM vIW ki v_8 (nI vv) (hki)) (cwV 2 hts (my_gV k1135 k1137 ks38 k12 k1138) rfl rfl rfl (by decide +kernel) ⟨by rw [hR]; exact Nat.le_of_ble_eq_true rfl, by rw [hR]; exact Nat.le_of_ble_eq_true rfl⟩) (my_preV hK hN (hP.sub [2, 0, 1] rfl) (hD.sub [2, 0, 1] (by decide +kernel) rfl) 0 rfl rfl) rfl rfl hl.1 rfl (lv_room (Nat.le_of_ble_eq_true rfl)) d_M_bits_77 ⟨by rw [hR]; exact Nat.le_of_ble_eq_true rfl, by rw [hR]; exact Nat.le_of_ble_eq_true rfl⟩) hP hD hS hA [2, 0, 1] [3] rfl rfl (by decide +kernel) (by decide +kernel) (fun r_77 u9 H locs hw_77 hP hD hS => ?_)
            obtain ⟨f2_77, v2_77⟩ := u9
            have hw_77 : r_77 = nI (ki + 1) ∧ f2_77 = upd vIM ki v_8 ∧ v2_77 = upd vIW ki (nI vv) := hw_77
            have hPD : my_PD (dC, dI) vwCl A [((g 6), Sum.inl (cI, 9000, Sum.inl v2_70)), (o, Sum.inr (9, mO g 0 fShift fModels (nI (ki + 1)) 0 (lN (eL (wdS (Rg / 2 ^ bb * 1, L + Rg / 2 ^ bb * vv, ca, Pn, bs)))) (lN (eR (wdS (Rg / 2 ^ bb * 1, L + Rg / 2 ^ bb * vv, ca, Pn, bs)))) (caI (eC (wdS (Rg / 2 ^ bb * 1, L + Rg / 2 ^ bb * vv, ca, Pn, bs)))) (nI (eP (wdS (Rg / 2 ^ bb * 1, L + Rg / 2 ^ bb * vv, ca, Pn, bs)))) (nI (eB (wdS (Rg / 2 ^ bb * 1, L + Rg / 2 ^ bb * vv, ca, Pn, bs))).length) fOuts fIns fReads fBad fIR fAsk fBAsk fCode fRL fRR fX fWrites 0)), ((g 4), Sum.inl (cI, 600, Sum.inl f2_77)), ((g 5), Sum.inl (cI, 600, Sum.inl v2_77))] H := ⟨hP, hD⟩
            have hP := hPD.1
            have hD := hPD.2
            exact my_iret (v := r_77) hx hb hr (rfl) hlocks hQ hK hS (Nat.le_refl _) (Nat.le_refl _) (f2_77, v2_77, v2_70) (⟨hw_77.1, by rw [hw_77.2.1, ev_8], hw_77.2.2, hw_70⟩) (hP.sub [1, 2, 3, 0] rfl) (hD.sub [1, 2, 3, 0] (by decide +kernel) rfl) d_M_bits_80
          · exact absurd (nI_inj (a := ki) (b := 600) (by omega) (by decide) c_7) (by omega)
        · exact absurd (by decide) c_6
      · exact absurd ⟨nI_pos' (by omega), nI_le (by omega) (by omega)⟩ (one_eq hw_35 c_5)
  · exact absurd c_1 (by decide)
set_option maxHeartbeats 2000000 in
set_option maxRecDepth 100000 in
theorem m_bits1L (l : Launch) (dC : Nat → ClassId) (dI : Nat → Nat → Nat) (cI cM cO : ClassId) (sz : Nat) (o : Nat) (g : Nat → Nat) (fShift : Int32) (fModels : Int32) (fCache : Int32) (fPend : Int32) (fOuts : Int32) (fIns : Int32) (fReads : Int32) (fBad : Int32) (fIR : Int32) (fAsk : Int32) (fBAsk : Int32) (fCode : Int64) (fRL : Int64) (fRR : Int64) (fX : Int64) (fWrites : Int32) (fThrown : Int32) (vIM : Nat → Int32) (vIW : Nat → Int32) (vGoing : Nat → Int32) (vv : Nat) (bb : Nat) (Rg : Nat) (L : Nat) (bs : List Nat) (ki : Nat) (hb1 : 1 ≤ bb) (hb2 : bb ≤ 12) (hv : vv < 2 ^ bb) (hki : ki < 600) (hp : pOk Rg L) (hR6 : 65536 ≤ Rg) (hG : gIs vGoing bs) (hN9 : bs.length + 5 ≤ 9000) : MetI l y_M_bits (Cond.code y_M_bits prog_14_method_30_code 3 (some .int) :: gw) ({ frames := 4, cells := 0, slots := 0, locals := 91 } : Room) (dC, dI) vwCl (kT cI cM cO) [Value.ref o, Value.int (nI vv), Value.int (nI bb)] [(o, Sum.inr (9, mO g 1 fShift fModels (nI ki) 0 (lN L) (lN Rg) fCache fPend (nI bs.length) fOuts fIns fReads fBad fIR fAsk fBAsk fCode fRL fRR fX fWrites fThrown)), ((g 4), Sum.inl (cI, 600, Sum.inl vIM)), ((g 5), Sum.inl (cI, 600, Sum.inl vIW)), ((g 6), Sum.inl (cI, 9000, Sum.inl vGoing))] sz (fun (r : Int32) (u : (Nat → Int32) × (Nat → Int32) × (Nat → Int32)) => r = nI (ki + 1) ∧ u.1 = upd vIM ki (-nI bb) ∧ u.2.1 = upd vIW ki (nI vv) ∧ gIs u.2.2 ((plS (Rg / 2 ^ bb * 1, L + Rg / 2 ^ bb * vv, bs)).2.2)) (fun (u : (Nat → Int32) × (Nat → Int32) × (Nat → Int32)) => [(o, Sum.inr (9, mO g 1 fShift fModels (nI (ki + 1)) 0 (lN (plS (Rg / 2 ^ bb * 1, L + Rg / 2 ^ bb * vv, bs)).2.1) (lN (plS (Rg / 2 ^ bb * 1, L + Rg / 2 ^ bb * vv, bs)).1) fCache fPend (nI (plS (Rg / 2 ^ bb * 1, L + Rg / 2 ^ bb * vv, bs)).2.2.length) fOuts fIns fReads fBad fIR fAsk fBAsk fCode fRL fRR fX fWrites 0)), ((g 4), Sum.inl (cI, 600, Sum.inl u.1)), ((g 5), Sum.inl (cI, 600, Sum.inl u.2.1)), ((g 6), Sum.inl (cI, 9000, Sum.inl u.2.2))]) 0 0 := by
  refine my_ofI (cc := prog_14_method_30_code) (n := 3) (ret := (some .int)) (by decide) rfl (Nat.le_of_ble_eq_true rfl) ?_
  intro p e s m args below meth c R Q A ls H locs hx hb hr hts hown hlocks hml hnm hR hQ hA hl hP hK hN hD hS
  have hg : ∀ w ∈ gw, w.before args s = true := fun w h => hts w (List.mem_cons_of_mem _ h)
  have hown : s.vm.findClass "RangeCodersModel" = some m.cls := hown
  have hl : lv_has ls 3 [(0, Value.ref o), (1, Value.int (nI vv)), (2, Value.int (nI bb))] := hl
  have hp12 : 2 ^ bb ≤ 4096 := pw12 (by omega)
  have hp0 := Nat.two_pow_pos bb
  refine lv_aload_n hx hb d_M_bits_0 rfl (lv_at hl 0 rfl) ?_
  refine lv_iconst (v := 0) hx hb d_M_bits_1 (by decide) ?_
  refine va_put (D := (dC, dI)) (ci := 9) (v := .int 0) (ty := .int) (C := "RangeCodersModel") (T := T_M) (N := 35) hx hb hg in_M t_M o_M n_M hown hK hP hD hS 0 rfl rfl 34 (by decide) (hg _ k986) (fun _ h9 => h9) rfl (by decide +kernel) rfl rfl (Nat.le_of_ble_eq_true rfl) d_M_bits_2 (fun H locs hP hD hS => ?_)
  have hPD : my_PD (dC, dI) vwCl A [(o, Sum.inr (9, mO g 1 fShift fModels (nI ki) 0 (lN L) (lN Rg) fCache fPend (nI bs.length) fOuts fIns fReads fBad fIR fAsk fBAsk fCode fRL fRR fX fWrites 0)), ((g 4), Sum.inl (cI, 600, Sum.inl vIM)), ((g 5), Sum.inl (cI, 600, Sum.inl vIW)), ((g 6), Sum.inl (cI, 9000, Sum.inl vGoing))] H := ⟨hP, hD⟩
  have hP := hPD.1
  have hD := hPD.2
  refine lv_iload_n hx hb d_M_bits_5 rfl (lv_at hl 2 rfl) ?_
  refine lv_iconst (v := 1) hx hb d_M_bits_6 (by decide) ?_
  refine lv_aload_n hx hb d_M_bits_7 rfl (lv_at hl 0 rfl) ?_
  refine va_get (D := (dC, dI)) (ci := 9) (v := .int 1) (C := "RangeCodersModel") (T := T_M) (N := 35) hx hb hg in_M hown hK hP 0 rfl rfl 0 (by decide) (hg _ k952) (fun _ h9 => h9) rfl d_M_bits_8 ?_
  refine lv_iconst (v := 4) hx hb d_M_bits_11 (by decide) ?_
  refine lv_icmp_ne (tgt := 20) hx hb d_M_bits_12 (by decide) (fun c_1 => ?_) (fun c_1 => ?_)
  · refine lv_bipush (v := 12) hx hb d_M_bits_20 (by decide) ?_
    refine my_ci (wr := [(o, Sum.inr (9, mO g 1 fShift fModels (nI ki) 0 (lN L) (lN Rg) fCache fPend (nI bs.length) fOuts fIns fReads fBad fIR fAsk fBAsk fCode fRL fRR fX fWrites 0)), ((g 4), Sum.inl (cI, 600, Sum.inl vIM)), ((g 5), Sum.inl (cI, 600, Sum.inl vIW)), ((g 6), Sum.inl (cI, 9000, Sum.inl vGoing))]) (va_runS (As := [Value.int (nI bb), Value.int 1, Value.int 12]) (rest := []) ⟨hx, hb, hml, hown, hts⟩ (c_M_in l dC dI cI cM cO H.size (nI bb) 1 12) (cwS 3 hts (my_gS k1062 k1063 k12 k1064) rfl rfl rfl (by decide +kernel) ⟨by rw [hR]; exact Nat.le_of_ble_eq_true rfl, by rw [hR]; exact Nat.le_of_ble_eq_true rfl⟩) (my_pre hK hN (hP.sub [] rfl) (hD.sub [] (by decide +kernel) rfl)) rfl rfl hl.1 rfl (lv_room (Nat.le_of_ble_eq_true rfl)) d_M_bits_22 ⟨by rw [hR]; exact Nat.le_of_ble_eq_true rfl, by rw [hR]; exact Nat.le_of_ble_eq_true rfl⟩) hP hD hS hA [] [0, 1, 2, 3] rfl rfl (by decide +kernel) (by decide +kernel) (fun r_22 u9 H locs hw_22 hP hD hS => ?_)
    have hw_22 : r_22 = if 1 ≤ (nI bb) ∧ (nI bb) ≤ 12 then 1 else 0 := hw_22
    have hPD : my_PD (dC, dI) vwCl A [(o, Sum.inr (9, mO g 1 fShift fModels (nI ki) 0 (lN L) (lN Rg) fCache fPend (nI bs.length) fOuts fIns fReads fBad fIR fAsk fBAsk fCode fRL fRR fX fWrites 0)), ((g 4), Sum.inl (cI, 600, Sum.inl vIM)), ((g 5), Sum.inl (cI, 600, Sum.inl vIW)), ((g 6), Sum.inl (cI, 9000, Sum.inl vGoing))] H := ⟨hP, hD⟩
    have hP := hPD.1
    have hD := hPD.2
    refine lv_if_eq (tgt := 41) hx hb d_M_bits_25 (by decide) (fun c_2 => ?_) (fun c_2 => ?_)
    · exact absurd (show 1 ≤ nI bb ∧ nI bb ≤ nI 12 from ⟨nI_le (a := 1) hb1 (by omega), nI_le hb2 (by decide)⟩) (one_eq hw_22 c_2)
    · refine lv_iload_n hx hb d_M_bits_28 rfl (lv_at hl 1 rfl) ?_
      refine lv_iconst (v := 0) hx hb d_M_bits_29 (by decide) ?_
      refine lv_iconst (v := 1) hx hb d_M_bits_30 (by decide) ?_
      refine lv_iload_n hx hb d_M_bits_31 rfl (lv_at hl 2 rfl) ?_
      refine lv_ishl hx hb d_M_bits_32 ?_
      refine lv_topi (fun v_3 ev_3 => ?_)
      have z9 : v_3 = nI (2 ^ bb) := by rw [ev_3]; exact shl1 _ (by omega)
      subst z9
      refine lv_iconst (v := 1) hx hb d_M_bits_33 (by decide) ?_
      refine lv_isub hx hb d_M_bits_34 ?_
      refine lv_topi (fun v_4 ev_4 => ?_)
      have z9 : v_4 = nI (2 ^ bb - 1) := by rw [ev_4]; exact nI_pred9 hp0
      subst z9
      refine my_ci (wr := [(o, Sum.inr (9, mO g 1 fShift fModels (nI ki) 0 (lN L) (lN Rg) fCache fPend (nI bs.length) fOuts fIns fReads fBad fIR fAsk fBAsk fCode fRL fRR fX fWrites 0)), ((g 4), Sum.inl (cI, 600, Sum.inl vIM)), ((g 5), Sum.inl (cI, 600, Sum.inl vIW)), ((g 6), Sum.inl (cI, 9000, Sum.inl vGoing))]) (va_runS (As := [Value.int (nI vv), Value.int 0, Value.int (nI (2 ^ bb - 1))]) (rest := []) ⟨hx, hb, hml, hown, hts⟩ (c_M_in l dC dI cI cM cO H.size (nI vv) 0 (nI (2 ^ bb - 1))) (cwS 3 hts (my_gS k1062 k1063 k12 k1064) rfl rfl rfl (by decide +kernel) ⟨by rw [hR]; exact Nat.le_of_ble_eq_true rfl, by rw [hR]; exact Nat.le_of_ble_eq_true rfl⟩) (my_pre hK hN (hP.sub [] rfl) (hD.sub [] (by decide +kernel) rfl)) rfl rfl hl.1 rfl (lv_room (Nat.le_of_ble_eq_true rfl)) d_M_bits_35 ⟨by rw [hR]; exact Nat.le_of_ble_eq_true rfl, by rw [hR]; exact Nat.le_of_ble_eq_true rfl⟩) hP hD hS hA [] [0, 1, 2, 3] rfl rfl (by decide +kernel) (by decide +kernel) (fun r_35 u9 H locs hw_35 hP hD hS => ?_)
      have hw_35 : r_35 = if 0 ≤ (nI vv) ∧ (nI vv) ≤ (nI (2 ^ bb - 1)) then 1 else 0 := hw_35
      have hPD : my_PD (dC, dI) vwCl A [(o, Sum.inr (9, mO g 1 fShift fModels (nI ki) 0 (lN L) (lN Rg) fCache fPend (nI bs.length) fOuts fIns fReads fBad fIR fAsk fBAsk fCode fRL fRR fX fWrites 0)), ((g 4), Sum.inl (cI, 600, Sum.inl vIM)), ((g 5), Sum.inl (cI, 600, Sum.inl vIW)), ((g 6), Sum.inl (cI, 9000, Sum.inl vGoing))] H := ⟨hP, hD⟩
      have hP := hPD.1
      have hD := hPD.2
      refine lv_if_ne (tgt := 44) hx hb d_M_bits_38 (by decide) (fun c_5 => ?_) (fun c_5 => ?_)
      · refine lv_aload_n hx hb d_M_bits_44 rfl (lv_at hl 0 rfl) ?_
        refine va_get (D := (dC, dI)) (ci := 9) (v := .int 0) (C := "RangeCodersModel") (T := T_M) (N := 35) hx hb hg in_M hown hK hP 0 rfl rfl 10 (by decide) (hg _ k962) (fun _ h9 => h9) rfl d_M_bits_45 ?_
        refine lv_if_eq (tgt := 54) hx hb d_M_bits_48 (by decide) (fun c_6 => ?_) (fun c_6 => ?_)
        · refine lv_aload_n hx hb d_M_bits_54 rfl (lv_at hl 0 rfl) ?_
          refine va_get (D := (dC, dI)) (ci := 9) (v := .int (nI ki)) (C := "RangeCodersModel") (T := T_M) (N := 35) hx hb hg in_M hown hK hP 0 rfl rfl 7 (by decide) (hg _ k959) (fun _ h9 => h9) rfl d_M_bits_55 ?_
          refine lv_sipush (v := 600) hx hb d_M_bits_58 (by decide) ?_
          refine lv_icmp_ne (tgt := 67) hx hb d_M_bits_61 (by decide) (fun c_7 => ?_) (fun c_7 => ?_)
          · refine lv_aload_n hx hb d_M_bits_67 rfl (lv_at hl 0 rfl) ?_
            refine lv_iload_n hx hb d_M_bits_68 rfl (lv_at hl 1 rfl) ?_
            refine lv_iload_n hx hb d_M_bits_69 rfl (lv_at hl 2 rfl) ?_
            refine my_cv (wr := [((g 4), Sum.inl (cI, 600, Sum.inl vIM)), ((g 5), Sum.inl (cI, 600, Sum.inl vIW))]) (va_runV (As := [Value.int (nI vv), Value.int (nI bb)]) (rest := []) ⟨hx, hb, hml, hown, hts⟩ (c_M_putValue1 l dC dI cI cM cO H.size o g fShift fModels (nI ki) 0 fCache fPend fOuts fIns fReads fBad fIR fAsk fBAsk fCode fRL fRR fX fWrites 0 vGoing vv bb Rg L bs (hb1) (hb2) (hv) (by first | assumption | omega) (by first | assumption | omega) (by first | assumption | omega) (by first | assumption | omega)) (cwV 2 hts (my_gV k1143 k1145 ks39 k12 k1146) rfl rfl rfl (by decide +kernel) ⟨by rw [hR]; exact Nat.le_of_ble_eq_true rfl, by rw [hR]; exact Nat.le_of_ble_eq_true rfl⟩) (my_preV hK hN (hP.sub [0, 3] rfl) (hD.sub [0, 3] (by decide +kernel) rfl) 0 rfl rfl) rfl rfl hl.1 rfl (lv_room (Nat.le_of_ble_eq_true rfl)) d_M_bits_70 ⟨by rw [hR]; exact Nat.le_of_ble_eq_true rfl, by rw [hR]; exact Nat.le_of_ble_eq_true rfl⟩) hP hD hS hA [0, 3] [1, 2] rfl rfl (by decide +kernel) (by decide +kernel) (fun u9 H locs hw_70 hP hD hS => ?_)
            obtain ⟨v2_70, rfl⟩ : ∃ z, z = u9 := ⟨_, rfl⟩
            have hw_70 : gIs v2_70 (plS (Rg / 2 ^ bb * 1, L + Rg / 2 ^ bb * vv, bs)).2.2 := hw_70
            have hPD : my_PD (dC, dI) vwCl A [((g 4), Sum.inl (cI, 600, Sum.inl vIM)), ((g 5), Sum.inl (cI, 600, Sum.inl vIW)), (o, Sum.inr (9, mO g 1 fShift fModels (nI ki) 0 (lN (plS (Rg / 2 ^ bb * 1, L + Rg / 2 ^ bb * vv, bs)).2.1) (lN (plS (Rg / 2 ^ bb * 1, L + Rg / 2 ^ bb * vv, bs)).1) fCache fPend (nI (plS (Rg / 2 ^ bb * 1, L + Rg / 2 ^ bb * vv, bs)).2.2.length) fOuts fIns fReads fBad fIR fAsk fBAsk fCode fRL fRR fX fWrites 0)), ((g 6), Sum.inl (cI, 9000, Sum.inl v2_70))] H := ⟨hP, hD⟩
            have hP := hPD.1
            have hD := hPD.2
            refine lv_aload_n hx hb d_M_bits_73 rfl (lv_at hl 0 rfl) ?_
            refine lv_iload_n hx hb d_M_bits_74 rfl (lv_at hl 2 rfl) ?_
            refine lv_ineg hx hb d_M_bits_75 ?_
            refine lv_topi (fun v_8 ev_8 => ?_)
            refine lv_iload_n hx hb d_M_bits_76 rfl (lv_at hl 1 rfl) ?_
            refine my_ci (wr := [((g 6), Sum.inl (cI, 9000, Sum.inl v2_70))]) (va_runV (As := [Value.int v_8, Value.int (nI vv)]) (rest := []) ⟨hx, hb, hml, hown, hts⟩ (c_M_addItem l dC dI cI cM cO H.size o g 1 fShift fModels 0 (lN (plS (Rg / 2 ^ bb * 1, L + Rg / 2 ^ bb * vv, bs)).2.1) (lN (plS (Rg / 2 ^ bb * 1, L + Rg / 2 ^ bb * vv, bs)).1) fCache fPend (nI (plS (Rg / 2 ^ bb * 1, L + Rg / 2 ^ bb * vv, bs)).2.2.length) fOuts fIns fReads fBad fIR fAsk fBAsk fCode fRL fRR fX fWrites 0 vIM vIW ki v_8 (nI vv) (hki)) (cwV 2 hts (my_gV k1135 k1137 ks38 k12 k1138) rfl rfl rfl (by decide +kernel) ⟨by rw [hR]; exact Nat.le_of_ble_eq_true rfl, by rw [hR]; exact Nat.le_of_ble_eq_true rfl⟩) (my_preV hK hN (hP.sub [2, 0, 1] rfl) (hD.sub [2, 0, 1] (by decide +kernel) rfl) 0 rfl rfl) rfl rfl hl.1 rfl (lv_room (Nat.le_of_ble_eq_true rfl)) d_M_bits_77 ⟨by rw [hR]; exact Nat.le_of_ble_eq_true rfl, by rw [hR]; exact Nat.le_of_ble_eq_true rfl⟩) hP hD hS hA [2, 0, 1] [3] rfl rfl (by decide +kernel) (by decide +kernel) (fun r_77 u9 H locs hw_77 hP hD hS => ?_)
            obtain ⟨f2_77, v2_77⟩ := u9
            have hw_77 : r_77 = nI (ki + 1) ∧ f2_77 = upd vIM ki v_8 ∧ v2_77 = upd vIW ki (nI vv) := hw_77
            have hPD : my_PD (dC, dI) vwCl A [((g 6), Sum.inl (cI, 9000, Sum.inl v2_70)), (o, Sum.inr (9, mO g 1 fShift fModels (nI (ki + 1)) 0 (lN (plS (Rg / 2 ^ bb * 1, L + Rg / 2 ^ bb * vv, bs)).2.1) (lN (plS (Rg / 2 ^ bb * 1, L + Rg / 2 ^ bb * vv, bs)).1) fCache fPend (nI (plS (Rg / 2 ^ bb * 1, L + Rg / 2 ^ bb * vv, bs)).2.2.length) fOuts fIns fReads fBad fIR fAsk fBAsk fCode fRL fRR fX fWrites 0)), ((g 4), Sum.inl (cI, 600, Sum.inl f2_77)), ((g 5), Sum.inl (cI, 600, Sum.inl v2_77))] H := ⟨hP, hD⟩
            have hP := hPD.1
            have hD := hPD.2
            exact my_iret (v := r_77) hx hb hr (rfl) hlocks hQ hK hS (Nat.le_refl _) (Nat.le_refl _) (f2_77, v2_77, v2_70) (⟨hw_77.1, by rw [hw_77.2.1, ev_8], hw_77.2.2, hw_70⟩) (hP.sub [1, 2, 3, 0] rfl) (hD.sub [1, 2, 3, 0] (by decide +kernel) rfl) d_M_bits_80
          · exact absurd (nI_inj (a := ki) (b := 600) (by omega) (by decide) c_7) (by omega)
        · exact absurd (by decide) c_6
      · exact absurd ⟨nI_pos' (by omega), nI_le (by omega) (by omega)⟩ (one_eq hw_35 c_5)
  · exact absurd c_1 (by decide)
set_option maxHeartbeats 2000000 in
set_option maxRecDepth 100000 in
theorem m_bits2L (l : Launch) (dC : Nat → ClassId) (dI : Nat → Nat → Nat) (cI cM cO : ClassId) (sz : Nat) (o : Nat) (g : Nat → Nat) (fShift : Int32) (fModels : Int32) (fOuts : Int32) (fIns : Int32) (fReads : Int32) (fBad : Int32) (fIR : Int32) (fAsk : Int32) (fBAsk : Int32) (fCode : Int64) (fRL : Int64) (fRR : Int64) (fX : Int64) (fWrites : Int32) (fThrown : Int32) (vIM : Nat → Int32) (vIW : Nat → Int32) (vGoing : Nat → Int32) (vv : Nat) (bb : Nat) (Rg : Nat) (L : Nat) (ca : Option Nat) (Pn : Nat) (bs : List Nat) (ki : Nat) (hb1 : 1 ≤ bb) (hb2 : bb ≤ 12) (hv : vv < 2 ^ bb) (hki : ki < 600) (hE : eInv (Rg, L, ca, Pn, bs)) (hG : gIs vGoing bs) (hN9 : bs.length + Pn + 20 ≤ 9000) : MetI l y_M_bits (Cond.code y_M_bits prog_14_method_30_code 3 (some .int) :: gw) ({ frames := 4, cells := 0, slots := 0, locals := 85 } : Room) (dC, dI) vwCl (kT cI cM cO) [Value.ref o, Value.int (nI vv), Value.int (nI bb)] [(o, Sum.inr (9, mO g 2 fShift fModels (nI ki) 0 (lN L) (lN Rg) (caI ca) (nI Pn) (nI bs.length) fOuts fIns fReads fBad fIR fAsk fBAsk fCode fRL fRR fX fWrites fThrown)), ((g 4), Sum.inl (cI, 600, Sum.inl vIM)), ((g 5), Sum.inl (cI, 600, Sum.inl vIW)), ((g 6), Sum.inl (cI, 9000, Sum.inl vGoing))] sz (fun (r : Int32) (u : (Nat → Int32) × (Nat → Int32) × (Nat → Int32)) => r = nI (ki + 1) ∧ u.1 = upd vIM ki (-nI bb) ∧ u.2.1 = upd vIW ki (nI vv) ∧ gIs u.2.2 (eB (vbN vv bb (Rg, L, ca, Pn, bs)))) (fun (u : (Nat → Int32) × (Nat → Int32) × (Nat → Int32)) => [(o, Sum.inr (9, mO g 2 fShift fModels (nI (ki + 1)) 0 (lN (eL (vbN vv bb (Rg, L, ca, Pn, bs)))) (lN (eR (vbN vv bb (Rg, L, ca, Pn, bs)))) (caI (eC (vbN vv bb (Rg, L, ca, Pn, bs)))) (nI (eP (vbN vv bb (Rg, L, ca, Pn, bs)))) (nI (eB (vbN vv bb (Rg, L, ca, Pn, bs))).length) fOuts fIns fReads fBad fIR fAsk fBAsk fCode fRL fRR fX fWrites 0)), ((g 4), Sum.inl (cI, 600, Sum.inl u.1)), ((g 5), Sum.inl (cI, 600, Sum.inl u.2.1)), ((g 6), Sum.inl (cI, 9000, Sum.inl u.2.2))]) 0 0 := by
  refine my_ofI (cc := prog_14_method_30_code) (n := 3) (ret := (some .int)) (by decide) rfl (Nat.le_of_ble_eq_true rfl) ?_
  intro p e s m args below meth c R Q A ls H locs hx hb hr hts hown hlocks hml hnm hR hQ hA hl hP hK hN hD hS
  have hg : ∀ w ∈ gw, w.before args s = true := fun w h => hts w (List.mem_cons_of_mem _ h)
  have hown : s.vm.findClass "RangeCodersModel" = some m.cls := hown
  have hl : lv_has ls 3 [(0, Value.ref o), (1, Value.int (nI vv)), (2, Value.int (nI bb))] := hl
  have hp12 : 2 ^ bb ≤ 4096 := pw12 (by omega)
  have hp0 := Nat.two_pow_pos bb
  refine lv_aload_n hx hb d_M_bits_0 rfl (lv_at hl 0 rfl) ?_
  refine lv_iconst (v := 0) hx hb d_M_bits_1 (by decide) ?_
  refine va_put (D := (dC, dI)) (ci := 9) (v := .int 0) (ty := .int) (C := "RangeCodersModel") (T := T_M) (N := 35) hx hb hg in_M t_M o_M n_M hown hK hP hD hS 0 rfl rfl 34 (by decide) (hg _ k986) (fun _ h9 => h9) rfl (by decide +kernel) rfl rfl (Nat.le_of_ble_eq_true rfl) d_M_bits_2 (fun H locs hP hD hS => ?_)
  have hPD : my_PD (dC, dI) vwCl A [(o, Sum.inr (9, mO g 2 fShift fModels (nI ki) 0 (lN L) (lN Rg) (caI ca) (nI Pn) (nI bs.length) fOuts fIns fReads fBad fIR fAsk fBAsk fCode fRL fRR fX fWrites 0)), ((g 4), Sum.inl (cI, 600, Sum.inl vIM)), ((g 5), Sum.inl (cI, 600, Sum.inl vIW)), ((g 6), Sum.inl (cI, 9000, Sum.inl vGoing))] H := ⟨hP, hD⟩
  have hP := hPD.1
  have hD := hPD.2
  refine lv_iload_n hx hb d_M_bits_5 rfl (lv_at hl 2 rfl) ?_
  refine lv_iconst (v := 1) hx hb d_M_bits_6 (by decide) ?_
  refine lv_aload_n hx hb d_M_bits_7 rfl (lv_at hl 0 rfl) ?_
  refine va_get (D := (dC, dI)) (ci := 9) (v := .int 2) (C := "RangeCodersModel") (T := T_M) (N := 35) hx hb hg in_M hown hK hP 0 rfl rfl 0 (by decide) (hg _ k952) (fun _ h9 => h9) rfl d_M_bits_8 ?_
  refine lv_iconst (v := 4) hx hb d_M_bits_11 (by decide) ?_
  refine lv_icmp_ne (tgt := 20) hx hb d_M_bits_12 (by decide) (fun c_1 => ?_) (fun c_1 => ?_)
  · refine lv_bipush (v := 12) hx hb d_M_bits_20 (by decide) ?_
    refine my_ci (wr := [(o, Sum.inr (9, mO g 2 fShift fModels (nI ki) 0 (lN L) (lN Rg) (caI ca) (nI Pn) (nI bs.length) fOuts fIns fReads fBad fIR fAsk fBAsk fCode fRL fRR fX fWrites 0)), ((g 4), Sum.inl (cI, 600, Sum.inl vIM)), ((g 5), Sum.inl (cI, 600, Sum.inl vIW)), ((g 6), Sum.inl (cI, 9000, Sum.inl vGoing))]) (va_runS (As := [Value.int (nI bb), Value.int 1, Value.int 12]) (rest := []) ⟨hx, hb, hml, hown, hts⟩ (c_M_in l dC dI cI cM cO H.size (nI bb) 1 12) (cwS 3 hts (my_gS k1062 k1063 k12 k1064) rfl rfl rfl (by decide +kernel) ⟨by rw [hR]; exact Nat.le_of_ble_eq_true rfl, by rw [hR]; exact Nat.le_of_ble_eq_true rfl⟩) (my_pre hK hN (hP.sub [] rfl) (hD.sub [] (by decide +kernel) rfl)) rfl rfl hl.1 rfl (lv_room (Nat.le_of_ble_eq_true rfl)) d_M_bits_22 ⟨by rw [hR]; exact Nat.le_of_ble_eq_true rfl, by rw [hR]; exact Nat.le_of_ble_eq_true rfl⟩) hP hD hS hA [] [0, 1, 2, 3] rfl rfl (by decide +kernel) (by decide +kernel) (fun r_22 u9 H locs hw_22 hP hD hS => ?_)
    have hw_22 : r_22 = if 1 ≤ (nI bb) ∧ (nI bb) ≤ 12 then 1 else 0 := hw_22
    have hPD : my_PD (dC, dI) vwCl A [(o, Sum.inr (9, mO g 2 fShift fModels (nI ki) 0 (lN L) (lN Rg) (caI ca) (nI Pn) (nI bs.length) fOuts fIns fReads fBad fIR fAsk fBAsk fCode fRL fRR fX fWrites 0)), ((g 4), Sum.inl (cI, 600, Sum.inl vIM)), ((g 5), Sum.inl (cI, 600, Sum.inl vIW)), ((g 6), Sum.inl (cI, 9000, Sum.inl vGoing))] H := ⟨hP, hD⟩
    have hP := hPD.1
    have hD := hPD.2
    refine lv_if_eq (tgt := 41) hx hb d_M_bits_25 (by decide) (fun c_2 => ?_) (fun c_2 => ?_)
    · exact absurd (show 1 ≤ nI bb ∧ nI bb ≤ nI 12 from ⟨nI_le (a := 1) hb1 (by omega), nI_le hb2 (by decide)⟩) (one_eq hw_22 c_2)
    · refine lv_iload_n hx hb d_M_bits_28 rfl (lv_at hl 1 rfl) ?_
      refine lv_iconst (v := 0) hx hb d_M_bits_29 (by decide) ?_
      refine lv_iconst (v := 1) hx hb d_M_bits_30 (by decide) ?_
      refine lv_iload_n hx hb d_M_bits_31 rfl (lv_at hl 2 rfl) ?_
      refine lv_ishl hx hb d_M_bits_32 ?_
      refine lv_topi (fun v_3 ev_3 => ?_)
      have z9 : v_3 = nI (2 ^ bb) := by rw [ev_3]; exact shl1 _ (by omega)
      subst z9
      refine lv_iconst (v := 1) hx hb d_M_bits_33 (by decide) ?_
      refine lv_isub hx hb d_M_bits_34 ?_
      refine lv_topi (fun v_4 ev_4 => ?_)
      have z9 : v_4 = nI (2 ^ bb - 1) := by rw [ev_4]; exact nI_pred9 hp0
      subst z9
      refine my_ci (wr := [(o, Sum.inr (9, mO g 2 fShift fModels (nI ki) 0 (lN L) (lN Rg) (caI ca) (nI Pn) (nI bs.length) fOuts fIns fReads fBad fIR fAsk fBAsk fCode fRL fRR fX fWrites 0)), ((g 4), Sum.inl (cI, 600, Sum.inl vIM)), ((g 5), Sum.inl (cI, 600, Sum.inl vIW)), ((g 6), Sum.inl (cI, 9000, Sum.inl vGoing))]) (va_runS (As := [Value.int (nI vv), Value.int 0, Value.int (nI (2 ^ bb - 1))]) (rest := []) ⟨hx, hb, hml, hown, hts⟩ (c_M_in l dC dI cI cM cO H.size (nI vv) 0 (nI (2 ^ bb - 1))) (cwS 3 hts (my_gS k1062 k1063 k12 k1064) rfl rfl rfl (by decide +kernel) ⟨by rw [hR]; exact Nat.le_of_ble_eq_true rfl, by rw [hR]; exact Nat.le_of_ble_eq_true rfl⟩) (my_pre hK hN (hP.sub [] rfl) (hD.sub [] (by decide +kernel) rfl)) rfl rfl hl.1 rfl (lv_room (Nat.le_of_ble_eq_true rfl)) d_M_bits_35 ⟨by rw [hR]; exact Nat.le_of_ble_eq_true rfl, by rw [hR]; exact Nat.le_of_ble_eq_true rfl⟩) hP hD hS hA [] [0, 1, 2, 3] rfl rfl (by decide +kernel) (by decide +kernel) (fun r_35 u9 H locs hw_35 hP hD hS => ?_)
      have hw_35 : r_35 = if 0 ≤ (nI vv) ∧ (nI vv) ≤ (nI (2 ^ bb - 1)) then 1 else 0 := hw_35
      have hPD : my_PD (dC, dI) vwCl A [(o, Sum.inr (9, mO g 2 fShift fModels (nI ki) 0 (lN L) (lN Rg) (caI ca) (nI Pn) (nI bs.length) fOuts fIns fReads fBad fIR fAsk fBAsk fCode fRL fRR fX fWrites 0)), ((g 4), Sum.inl (cI, 600, Sum.inl vIM)), ((g 5), Sum.inl (cI, 600, Sum.inl vIW)), ((g 6), Sum.inl (cI, 9000, Sum.inl vGoing))] H := ⟨hP, hD⟩
      have hP := hPD.1
      have hD := hPD.2
      refine lv_if_ne (tgt := 44) hx hb d_M_bits_38 (by decide) (fun c_5 => ?_) (fun c_5 => ?_)
      · refine lv_aload_n hx hb d_M_bits_44 rfl (lv_at hl 0 rfl) ?_
        refine va_get (D := (dC, dI)) (ci := 9) (v := .int 0) (C := "RangeCodersModel") (T := T_M) (N := 35) hx hb hg in_M hown hK hP 0 rfl rfl 10 (by decide) (hg _ k962) (fun _ h9 => h9) rfl d_M_bits_45 ?_
        refine lv_if_eq (tgt := 54) hx hb d_M_bits_48 (by decide) (fun c_6 => ?_) (fun c_6 => ?_)
        · refine lv_aload_n hx hb d_M_bits_54 rfl (lv_at hl 0 rfl) ?_
          refine va_get (D := (dC, dI)) (ci := 9) (v := .int (nI ki)) (C := "RangeCodersModel") (T := T_M) (N := 35) hx hb hg in_M hown hK hP 0 rfl rfl 7 (by decide) (hg _ k959) (fun _ h9 => h9) rfl d_M_bits_55 ?_
          refine lv_sipush (v := 600) hx hb d_M_bits_58 (by decide) ?_
          refine lv_icmp_ne (tgt := 67) hx hb d_M_bits_61 (by decide) (fun c_7 => ?_) (fun c_7 => ?_)
          · refine lv_aload_n hx hb d_M_bits_67 rfl (lv_at hl 0 rfl) ?_
            refine lv_iload_n hx hb d_M_bits_68 rfl (lv_at hl 1 rfl) ?_
            refine lv_iload_n hx hb d_M_bits_69 rfl (lv_at hl 2 rfl) ?_
            refine my_cv (wr := [((g 4), Sum.inl (cI, 600, Sum.inl vIM)), ((g 5), Sum.inl (cI, 600, Sum.inl vIW))]) (va_runV (As := [Value.int (nI vv), Value.int (nI bb)]) (rest := []) ⟨hx, hb, hml, hown, hts⟩ (c_M_putValue2 l dC dI cI cM cO H.size o g fShift fModels (nI ki) 0 fOuts fIns fReads fBad fIR fAsk fBAsk fCode fRL fRR fX fWrites 0 vGoing vv bb Rg L ca Pn bs (hb1) (hb2) (by omega) (by first | assumption | omega) (by first | assumption | omega) (by first | assumption | omega)) (cwV 2 hts (my_gV k1143 k1145 ks39 k12 k1146) rfl rfl rfl (by decide +kernel) ⟨by rw [hR]; exact Nat.le_of_ble_eq_true rfl, by rw [hR]; exact Nat.le_of_ble_eq_true rfl⟩) (my_preV hK hN (hP.sub [0, 3] rfl) (hD.sub [0, 3] (by decide +kernel) rfl) 0 rfl rfl) rfl rfl hl.1 rfl (lv_room (Nat.le_of_ble_eq_true rfl)) d_M_bits_70 ⟨by rw [hR]; exact Nat.le_of_ble_eq_true rfl, by rw [hR]; exact Nat.le_of_ble_eq_true rfl⟩) hP hD hS hA [0, 3] [1, 2] rfl rfl (by decide +kernel) (by decide +kernel) (fun u9 H locs hw_70 hP hD hS => ?_)
            obtain ⟨v2_70, rfl⟩ : ∃ z, z = u9 := ⟨_, rfl⟩
            have hw_70 : gIs v2_70 (eB (vbN vv bb (Rg, L, ca, Pn, bs))) := hw_70
            have hPD : my_PD (dC, dI) vwCl A [((g 4), Sum.inl (cI, 600, Sum.inl vIM)), ((g 5), Sum.inl (cI, 600, Sum.inl vIW)), (o, Sum.inr (9, mO g 2 fShift fModels (nI ki) 0 (lN (eL (vbN vv bb (Rg, L, ca, Pn, bs)))) (lN (eR (vbN vv bb (Rg, L, ca, Pn, bs)))) (caI (eC (vbN vv bb (Rg, L, ca, Pn, bs)))) (nI (eP (vbN vv bb (Rg, L, ca, Pn, bs)))) (nI (eB (vbN vv bb (Rg, L, ca, Pn, bs))).length) fOuts fIns fReads fBad fIR fAsk fBAsk fCode fRL fRR fX fWrites 0)), ((g 6), Sum.inl (cI, 9000, Sum.inl v2_70))] H := ⟨hP, hD⟩
            have hP := hPD.1
            have hD := hPD.2
            refine lv_aload_n hx hb d_M_bits_73 rfl (lv_at hl 0 rfl) ?_
            refine lv_iload_n hx hb d_M_bits_74 rfl (lv_at hl 2 rfl) ?_
            refine lv_ineg hx hb d_M_bits_75 ?_
            refine lv_topi (fun v_8 ev_8 => ?_)
            refine lv_iload_n hx hb d_M_bits_76 rfl (lv_at hl 1 rfl) ?_
            refine my_ci (wr := [((g 6), Sum.inl (cI, 9000, Sum.inl v2_70))]) (va_runV (As := [Value.int v_8, Value.int (nI vv)]) (rest := []) ⟨hx, hb, hml, hown, hts⟩ (c_M_addItem l dC dI cI cM cO H.size o g 2 fShift fModels 0 (lN (eL (vbN vv bb (Rg, L, ca, Pn, bs)))) (lN (eR (vbN vv bb (Rg, L, ca, Pn, bs)))) (caI (eC (vbN vv bb (Rg, L, ca, Pn, bs)))) (nI (eP (vbN vv bb (Rg, L, ca, Pn, bs)))) (nI (eB (vbN vv bb (Rg, L, ca, Pn, bs))).length) fOuts fIns fReads fBad fIR fAsk fBAsk fCode fRL fRR fX fWrites 0 vIM vIW ki v_8 (nI vv) (hki)) (cwV 2 hts (my_gV k1135 k1137 ks38 k12 k1138) rfl rfl rfl (by decide +kernel) ⟨by rw [hR]; exact Nat.le_of_ble_eq_true rfl, by rw [hR]; exact Nat.le_of_ble_eq_true rfl⟩) (my_preV hK hN (hP.sub [2, 0, 1] rfl) (hD.sub [2, 0, 1] (by decide +kernel) rfl) 0 rfl rfl) rfl rfl hl.1 rfl (lv_room (Nat.le_of_ble_eq_true rfl)) d_M_bits_77 ⟨by rw [hR]; exact Nat.le_of_ble_eq_true rfl, by rw [hR]; exact Nat.le_of_ble_eq_true rfl⟩) hP hD hS hA [2, 0, 1] [3] rfl rfl (by decide +kernel) (by decide +kernel) (fun r_77 u9 H locs hw_77 hP hD hS => ?_)
            obtain ⟨f2_77, v2_77⟩ := u9
            have hw_77 : r_77 = nI (ki + 1) ∧ f2_77 = upd vIM ki v_8 ∧ v2_77 = upd vIW ki (nI vv) := hw_77
            have hPD : my_PD (dC, dI) vwCl A [((g 6), Sum.inl (cI, 9000, Sum.inl v2_70)), (o, Sum.inr (9, mO g 2 fShift fModels (nI (ki + 1)) 0 (lN (eL (vbN vv bb (Rg, L, ca, Pn, bs)))) (lN (eR (vbN vv bb (Rg, L, ca, Pn, bs)))) (caI (eC (vbN vv bb (Rg, L, ca, Pn, bs)))) (nI (eP (vbN vv bb (Rg, L, ca, Pn, bs)))) (nI (eB (vbN vv bb (Rg, L, ca, Pn, bs))).length) fOuts fIns fReads fBad fIR fAsk fBAsk fCode fRL fRR fX fWrites 0)), ((g 4), Sum.inl (cI, 600, Sum.inl f2_77)), ((g 5), Sum.inl (cI, 600, Sum.inl v2_77))] H := ⟨hP, hD⟩
            have hP := hPD.1
            have hD := hPD.2
            exact my_iret (v := r_77) hx hb hr (rfl) hlocks hQ hK hS (Nat.le_refl _) (Nat.le_refl _) (f2_77, v2_77, v2_70) (⟨hw_77.1, by rw [hw_77.2.1, ev_8], hw_77.2.2, hw_70⟩) (hP.sub [1, 2, 3, 0] rfl) (hD.sub [1, 2, 3, 0] (by decide +kernel) rfl) d_M_bits_80
          · exact absurd (nI_inj (a := ki) (b := 600) (by omega) (by decide) c_7) (by omega)
        · exact absurd (by decide) c_6
      · exact absurd ⟨nI_pos' (by omega), nI_le (by omega) (by omega)⟩ (one_eq hw_35 c_5)
  · exact absurd c_1 (by decide)
set_option maxHeartbeats 2000000 in
set_option maxRecDepth 100000 in
theorem m_bits3L (l : Launch) (dC : Nat → ClassId) (dI : Nat → Nat → Nat) (cI cM cO : ClassId) (sz : Nat) (o : Nat) (g : Nat → Nat) (fShift : Int32) (fModels : Int32) (fLow : Int64) (fRange : Int64) (fCache : Int32) (fPend : Int32) (fGoes : Int32) (fOuts : Int32) (fIns : Int32) (fReads : Int32) (fBad : Int32) (fIR : Int32) (fAsk : Int32) (fBAsk : Int32) (fCode : Int64) (fRL : Int64) (fRR : Int64) (fX : Int64) (fWrites : Int32) (fThrown : Int32) (vIM : Nat → Int32) (vIW : Nat → Int32) (vv : Nat) (bb : Nat) (ki : Nat) (hb1 : 1 ≤ bb) (hb2 : bb ≤ 12) (hv : vv < 2 ^ bb) (hki : ki < 600) : MetI l y_M_bits (Cond.code y_M_bits prog_14_method_30_code 3 (some .int) :: gw) ({ frames := 1, cells := 0, slots := 0, locals := 23 } : Room) (dC, dI) vwCl (kT cI cM cO) [Value.ref o, Value.int (nI vv), Value.int (nI bb)] [(o, Sum.inr (9, mO g 3 fShift fModels (nI ki) 0 fLow fRange fCache fPend fGoes fOuts fIns fReads fBad fIR fAsk fBAsk fCode fRL fRR fX fWrites fThrown)), ((g 4), Sum.inl (cI, 600, Sum.inl vIM)), ((g 5), Sum.inl (cI, 600, Sum.inl vIW))] sz (fun (r : Int32) (u : (Nat → Int32) × (Nat → Int32)) => r = nI (ki + 1) ∧ u.1 = upd vIM ki (-nI bb) ∧ u.2 = upd vIW ki (nI vv)) (fun (u : (Nat → Int32) × (Nat → Int32)) => [(o, Sum.inr (9, mO g 3 fShift fModels (nI (ki + 1)) 0 fLow fRange fCache fPend fGoes fOuts fIns fReads fBad fIR fAsk fBAsk fCode fRL fRR fX fWrites 0)), ((g 4), Sum.inl (cI, 600, Sum.inl u.1)), ((g 5), Sum.inl (cI, 600, Sum.inl u.2))]) 0 0 := by
  refine my_ofI (cc := prog_14_method_30_code) (n := 3) (ret := (some .int)) (by decide) rfl (Nat.le_of_ble_eq_true rfl) ?_
  intro p e s m args below meth c R Q A ls H locs hx hb hr hts hown hlocks hml hnm hR hQ hA hl hP hK hN hD hS
  have hg : ∀ w ∈ gw, w.before args s = true := fun w h => hts w (List.mem_cons_of_mem _ h)
  have hown : s.vm.findClass "RangeCodersModel" = some m.cls := hown
  have hl : lv_has ls 3 [(0, Value.ref o), (1, Value.int (nI vv)), (2, Value.int (nI bb))] := hl
  have hp12 : 2 ^ bb ≤ 4096 := pw12 (by omega)
  have hp0 := Nat.two_pow_pos bb
  refine lv_aload_n hx hb d_M_bits_0 rfl (lv_at hl 0 rfl) ?_
  refine lv_iconst (v := 0) hx hb d_M_bits_1 (by decide) ?_
  refine va_put (D := (dC, dI)) (ci := 9) (v := .int 0) (ty := .int) (C := "RangeCodersModel") (T := T_M) (N := 35) hx hb hg in_M t_M o_M n_M hown hK hP hD hS 0 rfl rfl 34 (by decide) (hg _ k986) (fun _ h9 => h9) rfl (by decide +kernel) rfl rfl (Nat.le_of_ble_eq_true rfl) d_M_bits_2 (fun H locs hP hD hS => ?_)
  have hPD : my_PD (dC, dI) vwCl A [(o, Sum.inr (9, mO g 3 fShift fModels (nI ki) 0 fLow fRange fCache fPend fGoes fOuts fIns fReads fBad fIR fAsk fBAsk fCode fRL fRR fX fWrites 0)), ((g 4), Sum.inl (cI, 600, Sum.inl vIM)), ((g 5), Sum.inl (cI, 600, Sum.inl vIW))] H := ⟨hP, hD⟩
  have hP := hPD.1
  have hD := hPD.2
  refine lv_iload_n hx hb d_M_bits_5 rfl (lv_at hl 2 rfl) ?_
  refine lv_iconst (v := 1) hx hb d_M_bits_6 (by decide) ?_
  refine lv_aload_n hx hb d_M_bits_7 rfl (lv_at hl 0 rfl) ?_
  refine va_get (D := (dC, dI)) (ci := 9) (v := .int 3) (C := "RangeCodersModel") (T := T_M) (N := 35) hx hb hg in_M hown hK hP 0 rfl rfl 0 (by decide) (hg _ k952) (fun _ h9 => h9) rfl d_M_bits_8 ?_
  refine lv_iconst (v := 4) hx hb d_M_bits_11 (by decide) ?_
  refine lv_icmp_ne (tgt := 20) hx hb d_M_bits_12 (by decide) (fun c_1 => ?_) (fun c_1 => ?_)
  · refine lv_bipush (v := 12) hx hb d_M_bits_20 (by decide) ?_
    refine my_ci (wr := [(o, Sum.inr (9, mO g 3 fShift fModels (nI ki) 0 fLow fRange fCache fPend fGoes fOuts fIns fReads fBad fIR fAsk fBAsk fCode fRL fRR fX fWrites 0)), ((g 4), Sum.inl (cI, 600, Sum.inl vIM)), ((g 5), Sum.inl (cI, 600, Sum.inl vIW))]) (va_runS (As := [Value.int (nI bb), Value.int 1, Value.int 12]) (rest := []) ⟨hx, hb, hml, hown, hts⟩ (c_M_in l dC dI cI cM cO H.size (nI bb) 1 12) (cwS 3 hts (my_gS k1062 k1063 k12 k1064) rfl rfl rfl (by decide +kernel) ⟨by rw [hR]; exact Nat.le_of_ble_eq_true rfl, by rw [hR]; exact Nat.le_of_ble_eq_true rfl⟩) (my_pre hK hN (hP.sub [] rfl) (hD.sub [] (by decide +kernel) rfl)) rfl rfl hl.1 rfl (lv_room (Nat.le_of_ble_eq_true rfl)) d_M_bits_22 ⟨by rw [hR]; exact Nat.le_of_ble_eq_true rfl, by rw [hR]; exact Nat.le_of_ble_eq_true rfl⟩) hP hD hS hA [] [0, 1, 2] rfl rfl (by decide +kernel) (by decide +kernel) (fun r_22 u9 H locs hw_22 hP hD hS => ?_)
    have hw_22 : r_22 = if 1 ≤ (nI bb) ∧ (nI bb) ≤ 12 then 1 else 0 := hw_22
    have hPD : my_PD (dC, dI) vwCl A [(o, Sum.inr (9, mO g 3 fShift fModels (nI ki) 0 fLow fRange fCache fPend fGoes fOuts fIns fReads fBad fIR fAsk fBAsk fCode fRL fRR fX fWrites 0)), ((g 4), Sum.inl (cI, 600, Sum.inl vIM)), ((g 5), Sum.inl (cI, 600, Sum.inl vIW))] H := ⟨hP, hD⟩
    have hP := hPD.1
    have hD := hPD.2
    refine lv_if_eq (tgt := 41) hx hb d_M_bits_25 (by decide) (fun c_2 => ?_) (fun c_2 => ?_)
    · exact absurd (show 1 ≤ nI bb ∧ nI bb ≤ nI 12 from ⟨nI_le (a := 1) hb1 (by omega), nI_le hb2 (by decide)⟩) (one_eq hw_22 c_2)
    · refine lv_iload_n hx hb d_M_bits_28 rfl (lv_at hl 1 rfl) ?_
      refine lv_iconst (v := 0) hx hb d_M_bits_29 (by decide) ?_
      refine lv_iconst (v := 1) hx hb d_M_bits_30 (by decide) ?_
      refine lv_iload_n hx hb d_M_bits_31 rfl (lv_at hl 2 rfl) ?_
      refine lv_ishl hx hb d_M_bits_32 ?_
      refine lv_topi (fun v_3 ev_3 => ?_)
      have z9 : v_3 = nI (2 ^ bb) := by rw [ev_3]; exact shl1 _ (by omega)
      subst z9
      refine lv_iconst (v := 1) hx hb d_M_bits_33 (by decide) ?_
      refine lv_isub hx hb d_M_bits_34 ?_
      refine lv_topi (fun v_4 ev_4 => ?_)
      have z9 : v_4 = nI (2 ^ bb - 1) := by rw [ev_4]; exact nI_pred9 hp0
      subst z9
      refine my_ci (wr := [(o, Sum.inr (9, mO g 3 fShift fModels (nI ki) 0 fLow fRange fCache fPend fGoes fOuts fIns fReads fBad fIR fAsk fBAsk fCode fRL fRR fX fWrites 0)), ((g 4), Sum.inl (cI, 600, Sum.inl vIM)), ((g 5), Sum.inl (cI, 600, Sum.inl vIW))]) (va_runS (As := [Value.int (nI vv), Value.int 0, Value.int (nI (2 ^ bb - 1))]) (rest := []) ⟨hx, hb, hml, hown, hts⟩ (c_M_in l dC dI cI cM cO H.size (nI vv) 0 (nI (2 ^ bb - 1))) (cwS 3 hts (my_gS k1062 k1063 k12 k1064) rfl rfl rfl (by decide +kernel) ⟨by rw [hR]; exact Nat.le_of_ble_eq_true rfl, by rw [hR]; exact Nat.le_of_ble_eq_true rfl⟩) (my_pre hK hN (hP.sub [] rfl) (hD.sub [] (by decide +kernel) rfl)) rfl rfl hl.1 rfl (lv_room (Nat.le_of_ble_eq_true rfl)) d_M_bits_35 ⟨by rw [hR]; exact Nat.le_of_ble_eq_true rfl, by rw [hR]; exact Nat.le_of_ble_eq_true rfl⟩) hP hD hS hA [] [0, 1, 2] rfl rfl (by decide +kernel) (by decide +kernel) (fun r_35 u9 H locs hw_35 hP hD hS => ?_)
      have hw_35 : r_35 = if 0 ≤ (nI vv) ∧ (nI vv) ≤ (nI (2 ^ bb - 1)) then 1 else 0 := hw_35
      have hPD : my_PD (dC, dI) vwCl A [(o, Sum.inr (9, mO g 3 fShift fModels (nI ki) 0 fLow fRange fCache fPend fGoes fOuts fIns fReads fBad fIR fAsk fBAsk fCode fRL fRR fX fWrites 0)), ((g 4), Sum.inl (cI, 600, Sum.inl vIM)), ((g 5), Sum.inl (cI, 600, Sum.inl vIW))] H := ⟨hP, hD⟩
      have hP := hPD.1
      have hD := hPD.2
      refine lv_if_ne (tgt := 44) hx hb d_M_bits_38 (by decide) (fun c_5 => ?_) (fun c_5 => ?_)
      · refine lv_aload_n hx hb d_M_bits_44 rfl (lv_at hl 0 rfl) ?_
        refine va_get (D := (dC, dI)) (ci := 9) (v := .int 0) (C := "RangeCodersModel") (T := T_M) (N := 35) hx hb hg in_M hown hK hP 0 rfl rfl 10 (by decide) (hg _ k962) (fun _ h9 => h9) rfl d_M_bits_45 ?_
        refine lv_if_eq (tgt := 54) hx hb d_M_bits_48 (by decide) (fun c_6 => ?_) (fun c_6 => ?_)
        · refine lv_aload_n hx hb d_M_bits_54 rfl (lv_at hl 0 rfl) ?_
          refine va_get (D := (dC, dI)) (ci := 9) (v := .int (nI ki)) (C := "RangeCodersModel") (T := T_M) (N := 35) hx hb hg in_M hown hK hP 0 rfl rfl 7 (by decide) (hg _ k959) (fun _ h9 => h9) rfl d_M_bits_55 ?_
          refine lv_sipush (v := 600) hx hb d_M_bits_58 (by decide) ?_
          refine lv_icmp_ne (tgt := 67) hx hb d_M_bits_61 (by decide) (fun c_7 => ?_) (fun c_7 => ?_)
          · refine lv_aload_n hx hb d_M_bits_67 rfl (lv_at hl 0 rfl) ?_
            refine lv_iload_n hx hb d_M_bits_68 rfl (lv_at hl 1 rfl) ?_
            refine lv_iload_n hx hb d_M_bits_69 rfl (lv_at hl 2 rfl) ?_
            refine my_cv (wr := [((g 4), Sum.inl (cI, 600, Sum.inl vIM)), ((g 5), Sum.inl (cI, 600, Sum.inl vIW))]) (va_runV (As := [Value.int (nI vv), Value.int (nI bb)]) (rest := []) ⟨hx, hb, hml, hown, hts⟩ (c_M_putValue3 l dC dI cI cM cO H.size o g fShift fModels (nI ki) 0 fLow fRange fCache fPend fGoes fOuts fIns fReads fBad fIR fAsk fBAsk fCode fRL fRR fX fWrites 0 (nI vv) (nI bb)) (cwV 2 hts (my_gV k1143 k1145 ks39 k12 k1146) rfl rfl rfl (by decide +kernel) ⟨by rw [hR]; exact Nat.le_of_ble_eq_true rfl, by rw [hR]; exact Nat.le_of_ble_eq_true rfl⟩) (my_preV hK hN (hP.sub [0] rfl) (hD.sub [0] (by decide +kernel) rfl) 0 rfl rfl) rfl rfl hl.1 rfl (lv_room (Nat.le_of_ble_eq_true rfl)) d_M_bits_70 ⟨by rw [hR]; exact Nat.le_of_ble_eq_true rfl, by rw [hR]; exact Nat.le_of_ble_eq_true rfl⟩) hP hD hS hA [0] [1, 2] rfl rfl (by decide +kernel) (by decide +kernel) (fun u9 H locs hw_70 hP hD hS => ?_)
            have hw_70 : True := hw_70
            have hPD : my_PD (dC, dI) vwCl A [((g 4), Sum.inl (cI, 600, Sum.inl vIM)), ((g 5), Sum.inl (cI, 600, Sum.inl vIW)), (o, Sum.inr (9, mO g 3 fShift fModels (nI ki) 0 fLow fRange fCache fPend fGoes fOuts fIns fReads fBad fIR fAsk fBAsk fCode fRL fRR fX fWrites 0))] H := ⟨hP, hD⟩
            have hP := hPD.1
            have hD := hPD.2
            refine lv_aload_n hx hb d_M_bits_73 rfl (lv_at hl 0 rfl) ?_
            refine lv_iload_n hx hb d_M_bits_74 rfl (lv_at hl 2 rfl) ?_
            refine lv_ineg hx hb d_M_bits_75 ?_
            refine lv_topi (fun v_8 ev_8 => ?_)
            refine lv_iload_n hx hb d_M_bits_76 rfl (lv_at hl 1 rfl) ?_
            refine my_ci (wr := []) (va_runV (As := [Value.int v_8, Value.int (nI vv)]) (rest := []) ⟨hx, hb, hml, hown, hts⟩ (c_M_addItem l dC dI cI cM cO H.size o g 3 fShift fModels 0 fLow fRange fCache fPend fGoes fOuts fIns fReads fBad fIR fAsk fBAsk fCode fRL fRR fX fWrites 0 vIM vIW ki v_8 (nI vv) (hki)) (cwV 2 hts (my_gV k1135 k1137 ks38 k12 k1138) rfl rfl rfl (by decide +kernel) ⟨by rw [hR]; exact Nat.le_of_ble_eq_true rfl, by rw [hR]; exact Nat.le_of_ble_eq_true rfl⟩) (my_preV hK hN (hP.sub [2, 0, 1] rfl) (hD.sub [2, 0, 1] (by decide +kernel) rfl) 0 rfl rfl) rfl rfl hl.1 rfl (lv_room (Nat.le_of_ble_eq_true rfl)) d_M_bits_77 ⟨by rw [hR]; exact Nat.le_of_ble_eq_true rfl, by rw [hR]; exact Nat.le_of_ble_eq_true rfl⟩) hP hD hS hA [2, 0, 1] [] rfl rfl (by decide +kernel) (by decide +kernel) (fun r_77 u9 H locs hw_77 hP hD hS => ?_)
            obtain ⟨f2_77, v2_77⟩ := u9
            have hw_77 : r_77 = nI (ki + 1) ∧ f2_77 = upd vIM ki v_8 ∧ v2_77 = upd vIW ki (nI vv) := hw_77
            have hPD : my_PD (dC, dI) vwCl A [(o, Sum.inr (9, mO g 3 fShift fModels (nI (ki + 1)) 0 fLow fRange fCache fPend fGoes fOuts fIns fReads fBad fIR fAsk fBAsk fCode fRL fRR fX fWrites 0)), ((g 4), Sum.inl (cI, 600, Sum.inl f2_77)), ((g 5), Sum.inl (cI, 600, Sum.inl v2_77))] H := ⟨hP, hD⟩
            have hP := hPD.1
            have hD := hPD.2
            exact my_iret (v := r_77) hx hb hr (rfl) hlocks hQ hK hS (Nat.le_refl _) (Nat.le_refl _) (f2_77, v2_77) (⟨hw_77.1, by rw [hw_77.2.1, ev_8], hw_77.2.2⟩) (hP.sub [0, 1, 2] rfl) (hD.sub [0, 1, 2] (by decide +kernel) rfl) d_M_bits_80
          · exact absurd (nI_inj (a := ki) (b := 600) (by omega) (by decide) c_7) (by omega)
        · exact absurd (by decide) c_6
      · exact absurd ⟨nI_pos' (by omega), nI_le (by omega) (by omega)⟩ (one_eq hw_35 c_5)
  · exact absurd c_1 (by decide)
set_option maxHeartbeats 2000000 in
set_option maxRecDepth 100000 in
theorem m_bits4L (l : Launch) (dC : Nat → ClassId) (dI : Nat → Nat → Nat) (cI cM cO : ClassId) (sz : Nat) (o : Nat) (g : Nat → Nat) (fShift : Int32) (fModels : Int32) (fLow : Int64) (fRange : Int64) (fCache : Int32) (fPend : Int32) (fGoes : Int32) (fOuts : Int32) (fIns : Int32) (fReads : Int32) (fBad : Int32) (fIR : Int32) (fAsk : Int32) (fBAsk : Int32) (fCode : Int64) (fRL : Int64) (fRR : Int64) (fX : Int64) (fWrites : Int32) (fThrown : Int32) (vIM : Nat → Int32) (vIW : Nat → Int32) (vv : Nat) (bb : Nat) (ki : Nat) (hb1 : 1 ≤ bb) (hb2 : bb ≤ 9) (hv : vv < 2 ^ bb) (hki : ki < 600) : MetI l y_M_bits (Cond.code y_M_bits prog_14_method_30_code 3 (some .int) :: gw) ({ frames := 1, cells := 0, slots := 0, locals := 23 } : Room) (dC, dI) vwCl (kT cI cM cO) [Value.ref o, Value.int (nI vv), Value.int (nI bb)] [(o, Sum.inr (9, mO g 4 fShift fModels (nI ki) 0 fLow fRange fCache fPend fGoes fOuts fIns fReads fBad fIR fAsk fBAsk fCode fRL fRR fX fWrites fThrown)), ((g 4), Sum.inl (cI, 600, Sum.inl vIM)), ((g 5), Sum.inl (cI, 600, Sum.inl vIW))] sz (fun (r : Int32) (u : (Nat → Int32) × (Nat → Int32)) => r = nI (ki + 1) ∧ u.1 = upd vIM ki (-nI bb) ∧ u.2 = upd vIW ki (nI vv)) (fun (u : (Nat → Int32) × (Nat → Int32)) => [(o, Sum.inr (9, mO g 4 fShift fModels (nI (ki + 1)) 0 fLow fRange fCache fPend fGoes fOuts fIns fReads fBad fIR fAsk fBAsk fCode fRL fRR fX fWrites 0)), ((g 4), Sum.inl (cI, 600, Sum.inl u.1)), ((g 5), Sum.inl (cI, 600, Sum.inl u.2))]) 0 0 := by
  refine my_ofI (cc := prog_14_method_30_code) (n := 3) (ret := (some .int)) (by decide) rfl (Nat.le_of_ble_eq_true rfl) ?_
  intro p e s m args below meth c R Q A ls H locs hx hb hr hts hown hlocks hml hnm hR hQ hA hl hP hK hN hD hS
  have hg : ∀ w ∈ gw, w.before args s = true := fun w h => hts w (List.mem_cons_of_mem _ h)
  have hown : s.vm.findClass "RangeCodersModel" = some m.cls := hown
  have hl : lv_has ls 3 [(0, Value.ref o), (1, Value.int (nI vv)), (2, Value.int (nI bb))] := hl
  have hp12 : 2 ^ bb ≤ 4096 := pw12 (by omega)
  have hp0 := Nat.two_pow_pos bb
  refine lv_aload_n hx hb d_M_bits_0 rfl (lv_at hl 0 rfl) ?_
  refine lv_iconst (v := 0) hx hb d_M_bits_1 (by decide) ?_
  refine va_put (D := (dC, dI)) (ci := 9) (v := .int 0) (ty := .int) (C := "RangeCodersModel") (T := T_M) (N := 35) hx hb hg in_M t_M o_M n_M hown hK hP hD hS 0 rfl rfl 34 (by decide) (hg _ k986) (fun _ h9 => h9) rfl (by decide +kernel) rfl rfl (Nat.le_of_ble_eq_true rfl) d_M_bits_2 (fun H locs hP hD hS => ?_)
  have hPD : my_PD (dC, dI) vwCl A [(o, Sum.inr (9, mO g 4 fShift fModels (nI ki) 0 fLow fRange fCache fPend fGoes fOuts fIns fReads fBad fIR fAsk fBAsk fCode fRL fRR fX fWrites 0)), ((g 4), Sum.inl (cI, 600, Sum.inl vIM)), ((g 5), Sum.inl (cI, 600, Sum.inl vIW))] H := ⟨hP, hD⟩
  have hP := hPD.1
  have hD := hPD.2
  refine lv_iload_n hx hb d_M_bits_5 rfl (lv_at hl 2 rfl) ?_
  refine lv_iconst (v := 1) hx hb d_M_bits_6 (by decide) ?_
  refine lv_aload_n hx hb d_M_bits_7 rfl (lv_at hl 0 rfl) ?_
  refine va_get (D := (dC, dI)) (ci := 9) (v := .int 4) (C := "RangeCodersModel") (T := T_M) (N := 35) hx hb hg in_M hown hK hP 0 rfl rfl 0 (by decide) (hg _ k952) (fun _ h9 => h9) rfl d_M_bits_8 ?_
  refine lv_iconst (v := 4) hx hb d_M_bits_11 (by decide) ?_
  refine lv_icmp_ne (tgt := 20) hx hb d_M_bits_12 (by decide) (fun c_1 => ?_) (fun c_1 => ?_)
  · exact absurd rfl c_1
  · refine lv_bipush (v := 9) hx hb d_M_bits_15 (by decide) ?_
    refine lv_goto (tgt := 22) hx hb d_M_bits_17 (by decide) ?_
    refine my_ci (wr := [(o, Sum.inr (9, mO g 4 fShift fModels (nI ki) 0 fLow fRange fCache fPend fGoes fOuts fIns fReads fBad fIR fAsk fBAsk fCode fRL fRR fX fWrites 0)), ((g 4), Sum.inl (cI, 600, Sum.inl vIM)), ((g 5), Sum.inl (cI, 600, Sum.inl vIW))]) (va_runS (As := [Value.int (nI bb), Value.int 1, Value.int 9]) (rest := []) ⟨hx, hb, hml, hown, hts⟩ (c_M_in l dC dI cI cM cO H.size (nI bb) 1 9) (cwS 3 hts (my_gS k1062 k1063 k12 k1064) rfl rfl rfl (by decide +kernel) ⟨by rw [hR]; exact Nat.le_of_ble_eq_true rfl, by rw [hR]; exact Nat.le_of_ble_eq_true rfl⟩) (my_pre hK hN (hP.sub [] rfl) (hD.sub [] (by decide +kernel) rfl)) rfl rfl hl.1 rfl (lv_room (Nat.le_of_ble_eq_true rfl)) d_M_bits_22 ⟨by rw [hR]; exact Nat.le_of_ble_eq_true rfl, by rw [hR]; exact Nat.le_of_ble_eq_true rfl⟩) hP hD hS hA [] [0, 1, 2] rfl rfl (by decide +kernel) (by decide +kernel) (fun r_22 u9 H locs hw_22 hP hD hS => ?_)
    have hw_22 : r_22 = if 1 ≤ (nI bb) ∧ (nI bb) ≤ 9 then 1 else 0 := hw_22
    have hPD : my_PD (dC, dI) vwCl A [(o, Sum.inr (9, mO g 4 fShift fModels (nI ki) 0 fLow fRange fCache fPend fGoes fOuts fIns fReads fBad fIR fAsk fBAsk fCode fRL fRR fX fWrites 0)), ((g 4), Sum.inl (cI, 600, Sum.inl vIM)), ((g 5), Sum.inl (cI, 600, Sum.inl vIW))] H := ⟨hP, hD⟩
    have hP := hPD.1
    have hD := hPD.2
    refine lv_if_eq (tgt := 41) hx hb d_M_bits_25 (by decide) (fun c_2 => ?_) (fun c_2 => ?_)
    · exact absurd (show 1 ≤ nI bb ∧ nI bb ≤ nI 9 from ⟨nI_le (a := 1) hb1 (by omega), nI_le hb2 (by decide)⟩) (one_eq hw_22 c_2)
    · refine lv_iload_n hx hb d_M_bits_28 rfl (lv_at hl 1 rfl) ?_
      refine lv_iconst (v := 0) hx hb d_M_bits_29 (by decide) ?_
      refine lv_iconst (v := 1) hx hb d_M_bits_30 (by decide) ?_
      refine lv_iload_n hx hb d_M_bits_31 rfl (lv_at hl 2 rfl) ?_
      refine lv_ishl hx hb d_M_bits_32 ?_
      refine lv_topi (fun v_3 ev_3 => ?_)
      have z9 : v_3 = nI (2 ^ bb) := by rw [ev_3]; exact shl1 _ (by omega)
      subst z9
      refine lv_iconst (v := 1) hx hb d_M_bits_33 (by decide) ?_
      refine lv_isub hx hb d_M_bits_34 ?_
      refine lv_topi (fun v_4 ev_4 => ?_)
      have z9 : v_4 = nI (2 ^ bb - 1) := by rw [ev_4]; exact nI_pred9 hp0
      subst z9
      refine my_ci (wr := [(o, Sum.inr (9, mO g 4 fShift fModels (nI ki) 0 fLow fRange fCache fPend fGoes fOuts fIns fReads fBad fIR fAsk fBAsk fCode fRL fRR fX fWrites 0)), ((g 4), Sum.inl (cI, 600, Sum.inl vIM)), ((g 5), Sum.inl (cI, 600, Sum.inl vIW))]) (va_runS (As := [Value.int (nI vv), Value.int 0, Value.int (nI (2 ^ bb - 1))]) (rest := []) ⟨hx, hb, hml, hown, hts⟩ (c_M_in l dC dI cI cM cO H.size (nI vv) 0 (nI (2 ^ bb - 1))) (cwS 3 hts (my_gS k1062 k1063 k12 k1064) rfl rfl rfl (by decide +kernel) ⟨by rw [hR]; exact Nat.le_of_ble_eq_true rfl, by rw [hR]; exact Nat.le_of_ble_eq_true rfl⟩) (my_pre hK hN (hP.sub [] rfl) (hD.sub [] (by decide +kernel) rfl)) rfl rfl hl.1 rfl (lv_room (Nat.le_of_ble_eq_true rfl)) d_M_bits_35 ⟨by rw [hR]; exact Nat.le_of_ble_eq_true rfl, by rw [hR]; exact Nat.le_of_ble_eq_true rfl⟩) hP hD hS hA [] [0, 1, 2] rfl rfl (by decide +kernel) (by decide +kernel) (fun r_35 u9 H locs hw_35 hP hD hS => ?_)
      have hw_35 : r_35 = if 0 ≤ (nI vv) ∧ (nI vv) ≤ (nI (2 ^ bb - 1)) then 1 else 0 := hw_35
      have hPD : my_PD (dC, dI) vwCl A [(o, Sum.inr (9, mO g 4 fShift fModels (nI ki) 0 fLow fRange fCache fPend fGoes fOuts fIns fReads fBad fIR fAsk fBAsk fCode fRL fRR fX fWrites 0)), ((g 4), Sum.inl (cI, 600, Sum.inl vIM)), ((g 5), Sum.inl (cI, 600, Sum.inl vIW))] H := ⟨hP, hD⟩
      have hP := hPD.1
      have hD := hPD.2
      refine lv_if_ne (tgt := 44) hx hb d_M_bits_38 (by decide) (fun c_5 => ?_) (fun c_5 => ?_)
      · refine lv_aload_n hx hb d_M_bits_44 rfl (lv_at hl 0 rfl) ?_
        refine va_get (D := (dC, dI)) (ci := 9) (v := .int 0) (C := "RangeCodersModel") (T := T_M) (N := 35) hx hb hg in_M hown hK hP 0 rfl rfl 10 (by decide) (hg _ k962) (fun _ h9 => h9) rfl d_M_bits_45 ?_
        refine lv_if_eq (tgt := 54) hx hb d_M_bits_48 (by decide) (fun c_6 => ?_) (fun c_6 => ?_)
        · refine lv_aload_n hx hb d_M_bits_54 rfl (lv_at hl 0 rfl) ?_
          refine va_get (D := (dC, dI)) (ci := 9) (v := .int (nI ki)) (C := "RangeCodersModel") (T := T_M) (N := 35) hx hb hg in_M hown hK hP 0 rfl rfl 7 (by decide) (hg _ k959) (fun _ h9 => h9) rfl d_M_bits_55 ?_
          refine lv_sipush (v := 600) hx hb d_M_bits_58 (by decide) ?_
          refine lv_icmp_ne (tgt := 67) hx hb d_M_bits_61 (by decide) (fun c_7 => ?_) (fun c_7 => ?_)
          · refine lv_aload_n hx hb d_M_bits_67 rfl (lv_at hl 0 rfl) ?_
            refine lv_iload_n hx hb d_M_bits_68 rfl (lv_at hl 1 rfl) ?_
            refine lv_iload_n hx hb d_M_bits_69 rfl (lv_at hl 2 rfl) ?_
            refine my_cv (wr := [((g 4), Sum.inl (cI, 600, Sum.inl vIM)), ((g 5), Sum.inl (cI, 600, Sum.inl vIW))]) (va_runV (As := [Value.int (nI vv), Value.int (nI bb)]) (rest := []) ⟨hx, hb, hml, hown, hts⟩ (c_M_putValue4 l dC dI cI cM cO H.size o g fShift fModels (nI ki) 0 fLow fRange fCache fPend fGoes fOuts fIns fReads fBad fIR fAsk fBAsk fCode fRL fRR fX fWrites 0 (nI vv) (nI bb)) (cwV 2 hts (my_gV k1143 k1145 ks39 k12 k1146) rfl rfl rfl (by decide +kernel) ⟨by rw [hR]; exact Nat.le_of_ble_eq_true rfl, by rw [hR]; exact Nat.le_of_ble_eq_true rfl⟩) (my_preV hK hN (hP.sub [0] rfl) (hD.sub [0] (by decide +kernel) rfl) 0 rfl rfl) rfl rfl hl.1 rfl (lv_room (Nat.le_of_ble_eq_true rfl)) d_M_bits_70 ⟨by rw [hR]; exact Nat.le_of_ble_eq_true rfl, by rw [hR]; exact Nat.le_of_ble_eq_true rfl⟩) hP hD hS hA [0] [1, 2] rfl rfl (by decide +kernel) (by decide +kernel) (fun u9 H locs hw_70 hP hD hS => ?_)
            have hw_70 : True := hw_70
            have hPD : my_PD (dC, dI) vwCl A [((g 4), Sum.inl (cI, 600, Sum.inl vIM)), ((g 5), Sum.inl (cI, 600, Sum.inl vIW)), (o, Sum.inr (9, mO g 4 fShift fModels (nI ki) 0 fLow fRange fCache fPend fGoes fOuts fIns fReads fBad fIR fAsk fBAsk fCode fRL fRR fX fWrites 0))] H := ⟨hP, hD⟩
            have hP := hPD.1
            have hD := hPD.2
            refine lv_aload_n hx hb d_M_bits_73 rfl (lv_at hl 0 rfl) ?_
            refine lv_iload_n hx hb d_M_bits_74 rfl (lv_at hl 2 rfl) ?_
            refine lv_ineg hx hb d_M_bits_75 ?_
            refine lv_topi (fun v_8 ev_8 => ?_)
            refine lv_iload_n hx hb d_M_bits_76 rfl (lv_at hl 1 rfl) ?_
            refine my_ci (wr := []) (va_runV (As := [Value.int v_8, Value.int (nI vv)]) (rest := []) ⟨hx, hb, hml, hown, hts⟩ (c_M_addItem l dC dI cI cM cO H.size o g 4 fShift fModels 0 fLow fRange fCache fPend fGoes fOuts fIns fReads fBad fIR fAsk fBAsk fCode fRL fRR fX fWrites 0 vIM vIW ki v_8 (nI vv) (hki)) (cwV 2 hts (my_gV k1135 k1137 ks38 k12 k1138) rfl rfl rfl (by decide +kernel) ⟨by rw [hR]; exact Nat.le_of_ble_eq_true rfl, by rw [hR]; exact Nat.le_of_ble_eq_true rfl⟩) (my_preV hK hN (hP.sub [2, 0, 1] rfl) (hD.sub [2, 0, 1] (by decide +kernel) rfl) 0 rfl rfl) rfl rfl hl.1 rfl (lv_room (Nat.le_of_ble_eq_true rfl)) d_M_bits_77 ⟨by rw [hR]; exact Nat.le_of_ble_eq_true rfl, by rw [hR]; exact Nat.le_of_ble_eq_true rfl⟩) hP hD hS hA [2, 0, 1] [] rfl rfl (by decide +kernel) (by decide +kernel) (fun r_77 u9 H locs hw_77 hP hD hS => ?_)
            obtain ⟨f2_77, v2_77⟩ := u9
            have hw_77 : r_77 = nI (ki + 1) ∧ f2_77 = upd vIM ki v_8 ∧ v2_77 = upd vIW ki (nI vv) := hw_77
            have hPD : my_PD (dC, dI) vwCl A [(o, Sum.inr (9, mO g 4 fShift fModels (nI (ki + 1)) 0 fLow fRange fCache fPend fGoes fOuts fIns fReads fBad fIR fAsk fBAsk fCode fRL fRR fX fWrites 0)), ((g 4), Sum.inl (cI, 600, Sum.inl f2_77)), ((g 5), Sum.inl (cI, 600, Sum.inl v2_77))] H := ⟨hP, hD⟩
            have hP := hPD.1
            have hD := hPD.2
            exact my_iret (v := r_77) hx hb hr (rfl) hlocks hQ hK hS (Nat.le_refl _) (Nat.le_refl _) (f2_77, v2_77) (⟨hw_77.1, by rw [hw_77.2.1, ev_8], hw_77.2.2⟩) (hP.sub [0, 1, 2] rfl) (hD.sub [0, 1, 2] (by decide +kernel) rfl) d_M_bits_80
          · exact absurd (nI_inj (a := ki) (b := 600) (by omega) (by decide) c_7) (by omega)
        · exact absurd (by decide) c_6
      · exact absurd ⟨nI_pos' (by omega), nI_le (by omega) (by omega)⟩ (one_eq hw_35 c_5)
end
