section
set_option maxHeartbeats 2000000 in
set_option maxRecDepth 100000 in
theorem c_M_get0 (l : Launch) (dC : Nat → ClassId) (dI : Nat → Nat → Nat) (cI cM cO : ClassId) (sz : Nat) (o : Nat) (g : Nat → Nat) (fForm : Int32) (fShift : Int32) (fModels : Int32) (fItems : Int32) (fEnded : Int32) (fLow : Int64) (fRange : Int64) (fCache : Int32) (fPend : Int32) (fGoes : Int32) (fOuts : Int32) (fIns : Int32) (fReads : Int32) (fBad : Int32) (fIR : Int32) (fAsk : Int32) (fBAsk : Int32) (fCode : Int64) (fRL : Int64) (fRR : Int64) (fX : Int64) (fWrites : Int32) (fThrown : Int32) (vMany : Nat → Int32) (vCounts : Nat → Int32) (vThen : Nat → Int32) (vIn : Nat → Int32) (km : Nat) (N : Nat → Nat) (cn : Nat) (p1 : Int32) (hfo : fForm = 0) (hmod : fModels = nI km) (hMD : MD km N vMany vCounts) (hIN : IN fIns vIn) (hcn : cn ≤ 1000) (hU : TB 0 km N vThen) (hRD : ¬ fReads = 0 → fBad = 0 → RD0 cn fAsk fCode fRR) : MetI l y_M_get (Cond.code y_M_get prog_14_method_56_code 3 (some .int) :: gw) ({ frames := 4, cells := 0, slots := 0, locals := 91 } : Room) (dC, dI) vwCl (kT cI cM cO) [Value.ref o, Value.int p1] [(o, Sum.inr (9, mO g fForm fShift fModels fItems fEnded fLow fRange fCache fPend fGoes fOuts fIns fReads fBad fIR fAsk fBAsk fCode fRL fRR fX fWrites fThrown)), ((g 0), Sum.inl (cI, 8, Sum.inl vMany)), ((g 1), Sum.inl (cI, 512, Sum.inl vCounts)), ((g 3), Sum.inl (cI, 512, Sum.inl vThen)), ((g 8), Sum.inl (cI, 6000, Sum.inl vIn))] sz (fun (r : Int32) (u : Int32 × Int32 × Int32 × Int64 × Int64 × Int32 × (Nat → Int32)) => (¬ fReads = 0 → u.1 = 0 → RD0 (cn + 1) u.2.2.1 u.2.2.2.1 u.2.2.2.2.1) ∧ TB 0 km N u.2.2.2.2.2.2) (fun (u : Int32 × Int32 × Int32 × Int64 × Int64 × Int32 × (Nat → Int32)) => [(o, Sum.inr (9, mO g fForm fShift fModels fItems fEnded fLow fRange fCache fPend fGoes fOuts fIns fReads u.1 u.2.1 u.2.2.1 fBAsk u.2.2.2.1 fRL u.2.2.2.2.1 fX fWrites u.2.2.2.2.2.1)), ((g 0), Sum.inl (cI, 8, Sum.inl vMany)), ((g 1), Sum.inl (cI, 512, Sum.inl vCounts)), ((g 3), Sum.inl (cI, 512, Sum.inl u.2.2.2.2.2.2)), ((g 8), Sum.inl (cI, 6000, Sum.inl vIn))]) 0 0 := by
  refine my_ofI (cc := prog_14_method_56_code) (n := 3) (ret := (some .int)) (by decide) rfl (Nat.le_of_ble_eq_true rfl) ?_
  intro p e s m args below meth c R Q A ls H locs hx hb hr hts hown hlocks hml hnm hR hQ hA hl hP hK hN hD hS
  have hg : ∀ w ∈ gw, w.before args s = true := fun w h => hts w (List.mem_cons_of_mem _ h)
  have hown : s.vm.findClass "RangeCodersModel" = some m.cls := hown
  have hl : lv_has ls 3 [(0, Value.ref o), (1, Value.int p1)] := hl
  subst hfo
  obtain ⟨is, rfl, hIn, hlen, hoct⟩ := hIN
  have hPD : my_PD (dC, dI) vwCl A [(o, Sum.inr (9, mO g 0 fShift fModels fItems fEnded fLow fRange fCache fPend fGoes fOuts (nI is.length) fReads fBad fIR fAsk fBAsk fCode fRL fRR fX fWrites fThrown)), ((g 0), Sum.inl (cI, 8, Sum.inl vMany)), ((g 1), Sum.inl (cI, 512, Sum.inl vCounts)), ((g 3), Sum.inl (cI, 512, Sum.inl vThen)), ((g 8), Sum.inl (cI, 6000, Sum.inl vIn))] H := ⟨hP, hD⟩
  have hP := hPD.1
  have hD := hPD.2
  have hl : lv_has ls 3 [(0, Value.ref o), (1, Value.int p1)] := hl
  refine lv_aload_n hx hb d_M_get_0 rfl (lv_at hl 0 rfl) ?_
  refine lv_iconst (v := 0) hx hb d_M_get_1 (by decide) ?_
  refine va_put (D := (dC, dI)) (ci := 9) (v := .int 0) (ty := .int) (C := "RangeCodersModel") (T := T_M) (N := 35) hx hb hg in_M t_M o_M n_M hown hK hP hD hS 0 rfl rfl 34 (by decide) (hg _ k986) (fun _ h9 => h9) rfl (by decide +kernel) rfl rfl (Nat.le_of_ble_eq_true rfl) d_M_get_2 (fun H locs hP hD hS => ?_)
  have hPD : my_PD (dC, dI) vwCl A [(o, Sum.inr (9, mO g 0 fShift fModels fItems fEnded fLow fRange fCache fPend fGoes fOuts (nI is.length) fReads fBad fIR fAsk fBAsk fCode fRL fRR fX fWrites 0)), ((g 0), Sum.inl (cI, 8, Sum.inl vMany)), ((g 1), Sum.inl (cI, 512, Sum.inl vCounts)), ((g 3), Sum.inl (cI, 512, Sum.inl vThen)), ((g 8), Sum.inl (cI, 6000, Sum.inl vIn))] H := ⟨hP, hD⟩
  have hP := hPD.1
  have hD := hPD.2
  refine lv_aload_n hx hb d_M_get_5 rfl (lv_at hl 0 rfl) ?_
  refine lv_iload_n hx hb d_M_get_6 rfl (lv_at hl 1 rfl) ?_
  refine my_ci (wr := [((g 0), Sum.inl (cI, 8, Sum.inl vMany)), ((g 1), Sum.inl (cI, 512, Sum.inl vCounts)), ((g 3), Sum.inl (cI, 512, Sum.inl vThen)), ((g 8), Sum.inl (cI, 6000, Sum.inl vIn))]) (va_runV (As := [Value.int p1]) (rest := []) ⟨hx, hb, hml, hown, hts⟩ (c_M_isModel l dC dI cI cM cO H.size o g 0 fShift fModels fItems fEnded fLow fRange fCache fPend fGoes fOuts (nI is.length) fReads fBad fIR fAsk fBAsk fCode fRL fRR fX fWrites 0 p1) (cwV 1 hts (my_gV k1073 k1075 ks26 k12 k1076) rfl rfl rfl (by decide +kernel) ⟨by rw [hR]; exact Nat.le_of_ble_eq_true rfl, by rw [hR]; exact Nat.le_of_ble_eq_true rfl⟩) (my_preV hK hN (hP.sub [0] rfl) (hD.sub [0] (by decide +kernel) rfl) 0 rfl rfl) rfl rfl hl.1 rfl (lv_room (Nat.le_of_ble_eq_true rfl)) d_M_get_7 ⟨by rw [hR]; exact Nat.le_of_ble_eq_true rfl, by rw [hR]; exact Nat.le_of_ble_eq_true rfl⟩) hP hD hS hA [0] [1, 2, 3, 4] rfl rfl (by decide +kernel) (by decide +kernel) (fun r_7 u9 H locs hw_7 hP hD hS => ?_)
  have hw_7 : r_7 = if 0 ≤ p1 ∧ p1 ≤ fModels - 1 then 1 else 0 := hw_7
  have hPD : my_PD (dC, dI) vwCl A [((g 0), Sum.inl (cI, 8, Sum.inl vMany)), ((g 1), Sum.inl (cI, 512, Sum.inl vCounts)), ((g 3), Sum.inl (cI, 512, Sum.inl vThen)), ((g 8), Sum.inl (cI, 6000, Sum.inl vIn)), (o, Sum.inr (9, mO g 0 fShift fModels fItems fEnded fLow fRange fCache fPend fGoes fOuts (nI is.length) fReads fBad fIR fAsk fBAsk fCode fRL fRR fX fWrites 0))] H := ⟨hP, hD⟩
  have hP := hPD.1
  have hD := hPD.2
  refine lv_if_ne (tgt := 15) hx hb d_M_get_10 (by decide) (fun c_1 => ?_) (fun c_1 => ?_)
  · refine lv_aload_n hx hb d_M_get_15 rfl (lv_at hl 0 rfl) ?_
    refine va_get (D := (dC, dI)) (ci := 9) (v := .int fReads) (C := "RangeCodersModel") (T := T_M) (N := 35) hx hb hg in_M hown hK hP 4 rfl rfl 21 (by decide) (hg _ k973) (fun _ h9 => h9) rfl d_M_get_16 ?_
    refine lv_if_ne (tgt := 25) hx hb d_M_get_19 (by decide) (fun c_2 => ?_) (fun c_2 => ?_)
    · refine lv_aload_n hx hb d_M_get_25 rfl (lv_at hl 0 rfl) ?_
      refine va_get (D := (dC, dI)) (ci := 9) (v := .int fBad) (C := "RangeCodersModel") (T := T_M) (N := 35) hx hb hg in_M hown hK hP 4 rfl rfl 22 (by decide) (hg _ k974) (fun _ h9 => h9) rfl d_M_get_26 ?_
      refine lv_if_eq (tgt := 35) hx hb d_M_get_29 (by decide) (fun c_3 => ?_) (fun c_3 => ?_)
      · have hT := hU
        rw [hmod] at hw_7
        obtain ⟨jj, hj, ej⟩ := md_of hMD.1 (one_ne hw_7 c_1)
        subst ej
        have hk8 := hMD.1
        obtain ⟨hn9, hn2, hn64, C9, hc9, hB9⟩ := hMD.2 jj hj
        obtain ⟨RR, CD, q, rfl, rfl, rfl, hR1, hC, hq⟩ := hRD c_2 c_3
        have hPD : my_PD (dC, dI) vwCl A [((g 0), Sum.inl (cI, 8, Sum.inl vMany)), ((g 1), Sum.inl (cI, 512, Sum.inl vCounts)), ((g 3), Sum.inl (cI, 512, Sum.inl vThen)), ((g 8), Sum.inl (cI, 6000, Sum.inl vIn)), (o, Sum.inr (9, mO g 0 fShift fModels fItems fEnded fLow fRange fCache fPend fGoes fOuts (nI is.length) fReads fBad fIR (nI q) fBAsk (lN CD) fRL (lN RR) fX fWrites 0))] H := ⟨hP, hD⟩
        have hP := hPD.1
        have hD := hPD.2
        obtain ⟨F9, hF⟩ := hT jj hj
        obtain ⟨hF9, hs9⟩ := tab_01 (by decide) hF
        refine lv_aload_n hx hb d_M_get_35 rfl (lv_at hl 0 rfl) ?_
        refine va_get (D := (dC, dI)) (ci := 9) (v := .int 0) (C := "RangeCodersModel") (T := T_M) (N := 35) hx hb hg in_M hown hK hP 4 rfl rfl 0 (by decide) (hg _ k952) (fun _ h9 => h9) rfl d_M_get_36 ?_
        refine lv_iconst (v := 2) hx hb d_M_get_39 (by decide) ?_
        refine lv_icmp_ge (tgt := 51) hx hb d_M_get_40 (by decide) (fun c_4 => ?_) (fun c_4 => ?_)
        · exact absurd c_4 (by decide)
        · refine lv_aload_n hx hb d_M_get_43 rfl (lv_at hl 0 rfl) ?_
          refine lv_iload_n hx hb d_M_get_44 rfl (lv_at hl 1 rfl) ?_
          refine my_ci (wr := [((g 1), Sum.inl (cI, 512, Sum.inl vCounts))]) (va_runV (As := [Value.int (nI jj)]) (rest := []) ⟨hx, hb, hml, hown, hts⟩ (c_M_getRanged0 l dC dI cI cM cO H.size o g fShift fModels fItems fEnded fLow fRange fCache fPend fGoes fOuts fReads fBad fIR fBAsk fRL fX fWrites 0 vMany vThen vIn jj (N jj) F9 RR CD is q (by omega) (hn9) (hn64) (by omega) (hIn) (hlen) (hoct) (by omega) (hF9) (hs9) (hR1) (hC)) (cwV 1 hts (my_gV k1206 k1208 ks47 k12 k1209) rfl rfl rfl (by decide +kernel) ⟨by rw [hR]; exact Nat.le_of_ble_eq_true rfl, by rw [hR]; exact Nat.le_of_ble_eq_true rfl⟩) (my_preV hK hN (hP.sub [4, 0, 2, 3] rfl) (hD.sub [4, 0, 2, 3] (by decide +kernel) rfl) 0 rfl rfl) rfl rfl hl.1 rfl (lv_room (Nat.le_of_ble_eq_true rfl)) d_M_get_45 ⟨by rw [hR]; exact Nat.le_of_ble_eq_true rfl, by rw [hR]; exact Nat.le_of_ble_eq_true rfl⟩) hP hD hS hA [4, 0, 2, 3] [1] rfl rfl (by decide +kernel) (by decide +kernel) (fun r_45 u9 H locs hw_45 hP hD hS => ?_)
          obtain ⟨f2_45, rfl⟩ : ∃ z, z = u9 := ⟨_, rfl⟩
          have hw_45 : r_45 = oI (gr0 is (N jj) F9 (RR, CD, q)).1 ∧ sgI f2_45 (64 * jj) (N jj) (gr0 is (N jj) F9 (RR, CD, q)).2.2 ∧ sgO f2_45 vThen (64 * jj) (N jj) := hw_45
          have hPD : my_PD (dC, dI) vwCl A [((g 1), Sum.inl (cI, 512, Sum.inl vCounts)), (o, Sum.inr (9, mO g 0 fShift fModels fItems fEnded fLow fRange fCache fPend fGoes fOuts (nI is.length) fReads fBad fIR (nI (gr0 is (N jj) F9 (RR, CD, q)).2.1.2.2) fBAsk (lN (gr0 is (N jj) F9 (RR, CD, q)).2.1.2.1) fRL (lN (gr0 is (N jj) F9 (RR, CD, q)).2.1.1) fX fWrites 0)), ((g 0), Sum.inl (cI, 8, Sum.inl vMany)), ((g 3), Sum.inl (cI, 512, Sum.inl f2_45)), ((g 8), Sum.inl (cI, 6000, Sum.inl vIn))] H := ⟨hP, hD⟩
          have hP := hPD.1
          have hD := hPD.2
          refine lv_goto (tgt := 88) hx hb d_M_get_48 (by decide) ?_
          have hg9 := gr0_ok (r := (RR, CD, q)) hoct hn64 hs9 hR1 hC
          have hg8 : (gr0 is (N jj) F9 (RR, CD, q)).2.1.2.2 ≤ q + 3 := hg9.2.2.1
          refine lv_istore_n (lv' := [(2, Value.int r_45), (0, Value.ref o), (1, Value.int (nI jj))]) hx hb d_M_get_88 rfl hl (by decide) rfl (fun ls hl => ?_)
          refine lv_iload_n hx hb d_M_get_89 rfl (lv_at hl 0 rfl) ?_
          refine lv_if_ge (tgt := 98) hx hb d_M_get_90 (by decide) (fun c_5 => ?_) (fun c_5 => ?_)
          · refine lv_aload_n hx hb d_M_get_98 rfl (lv_at hl 1 rfl) ?_
            refine lv_dup hx hb d_M_get_99 rfl ?_
            refine va_get (D := (dC, dI)) (ci := 9) (v := .int fIR) (C := "RangeCodersModel") (T := T_M) (N := 35) hx hb hg in_M hown hK hP 1 rfl rfl 23 (by decide) (hg _ k975) (fun _ h9 => h9) rfl d_M_get_100 ?_
            refine lv_iconst (v := 1) hx hb d_M_get_103 (by decide) ?_
            refine lv_iadd hx hb d_M_get_104 ?_
            refine lv_topi (fun v_6 ev_6 => ?_)
            refine va_put (D := (dC, dI)) (ci := 9) (v := .int v_6) (ty := .int) (C := "RangeCodersModel") (T := T_M) (N := 35) hx hb hg in_M t_M o_M n_M hown hK hP hD hS 1 rfl rfl 23 (by decide) (hg _ k975) (fun _ h9 => h9) rfl (by decide +kernel) rfl rfl (Nat.le_of_ble_eq_true rfl) d_M_get_105 (fun H locs hP hD hS => ?_)
            have hPD : my_PD (dC, dI) vwCl A [((g 1), Sum.inl (cI, 512, Sum.inl vCounts)), (o, Sum.inr (9, mO g 0 fShift fModels fItems fEnded fLow fRange fCache fPend fGoes fOuts (nI is.length) fReads fBad v_6 (nI (gr0 is (N jj) F9 (RR, CD, q)).2.1.2.2) fBAsk (lN (gr0 is (N jj) F9 (RR, CD, q)).2.1.2.1) fRL (lN (gr0 is (N jj) F9 (RR, CD, q)).2.1.1) fX fWrites 0)), ((g 0), Sum.inl (cI, 8, Sum.inl vMany)), ((g 3), Sum.inl (cI, 512, Sum.inl f2_45)), ((g 8), Sum.inl (cI, 6000, Sum.inl vIn))] H := ⟨hP, hD⟩
            have hP := hPD.1
            have hD := hPD.2
            refine lv_iload_n hx hb d_M_get_108 rfl (lv_at hl 0 rfl) ?_
            exact my_iret (v := r_45) hx hb hr (rfl) hlocks hQ hK hS (Nat.le_refl _) (Nat.le_refl _) (fBad, v_6, nI (gr0 is (N jj) F9 (RR, CD, q)).2.1.2.2, lN (gr0 is (N jj) F9 (RR, CD, q)).2.1.2.1, lN (gr0 is (N jj) F9 (RR, CD, q)).2.1.1, (0 : Int32), f2_45) (⟨fun _ _ => ⟨_, _, _, rfl, rfl, rfl, hg9.1, hg9.2.1, by omega⟩, TB_set hU (MD_N hMD) (sgO_w hw_45.2.2 hn64) (F := (gr0 is (N jj) F9 (RR, CD, q)).2.2) (Or.inl ⟨by decide, hw_45.2.1, hg9.2.2.2⟩)⟩) (hP.sub [1, 2, 0, 3, 4] rfl) (hD.sub [1, 2, 0, 3, 4] (by decide +kernel) rfl) d_M_get_109
          · refine lv_aload_n hx hb d_M_get_93 rfl (lv_at hl 1 rfl) ?_
            refine my_ci (wr := [((g 1), Sum.inl (cI, 512, Sum.inl vCounts)), ((g 0), Sum.inl (cI, 8, Sum.inl vMany)), ((g 3), Sum.inl (cI, 512, Sum.inl f2_45)), ((g 8), Sum.inl (cI, 6000, Sum.inl vIn))]) (va_runV (As := []) (rest := []) ⟨hx, hb, hml, hown, hts⟩ (c_M_spoiled l dC dI cI cM cO H.size o g 0 fShift fModels fItems fEnded fLow fRange fCache fPend fGoes fOuts (nI is.length) fReads fBad fIR (nI (gr0 is (N jj) F9 (RR, CD, q)).2.1.2.2) fBAsk (lN (gr0 is (N jj) F9 (RR, CD, q)).2.1.2.1) fRL (lN (gr0 is (N jj) F9 (RR, CD, q)).2.1.1) fX fWrites 0) (cwV 0 hts (my_gV k1252 k1254 ks58 k12 k1255) rfl rfl rfl (by decide +kernel) ⟨by rw [hR]; exact Nat.le_of_ble_eq_true rfl, by rw [hR]; exact Nat.le_of_ble_eq_true rfl⟩) (my_preV hK hN (hP.sub [1] rfl) (hD.sub [1] (by decide +kernel) rfl) 0 rfl rfl) rfl rfl hl.1 rfl (lv_room (Nat.le_of_ble_eq_true rfl)) d_M_get_94 ⟨by rw [hR]; exact Nat.le_of_ble_eq_true rfl, by rw [hR]; exact Nat.le_of_ble_eq_true rfl⟩) hP hD hS hA [1] [0, 2, 3, 4] rfl rfl (by decide +kernel) (by decide +kernel) (fun r_94 u9 H locs hw_94 hP hD hS => ?_)
            have hw_94 : r_94 = -5 := hw_94
            have hPD : my_PD (dC, dI) vwCl A [((g 1), Sum.inl (cI, 512, Sum.inl vCounts)), ((g 0), Sum.inl (cI, 8, Sum.inl vMany)), ((g 3), Sum.inl (cI, 512, Sum.inl f2_45)), ((g 8), Sum.inl (cI, 6000, Sum.inl vIn)), (o, Sum.inr (9, mO g 0 fShift fModels fItems fEnded fLow fRange fCache fPend fGoes fOuts (nI is.length) fReads 1 fIR (nI (gr0 is (N jj) F9 (RR, CD, q)).2.1.2.2) fBAsk (lN (gr0 is (N jj) F9 (RR, CD, q)).2.1.2.1) fRL (lN (gr0 is (N jj) F9 (RR, CD, q)).2.1.1) fX fWrites 0))] H := ⟨hP, hD⟩
            have hP := hPD.1
            have hD := hPD.2
            exact my_iret (v := r_94) hx hb hr (rfl) hlocks hQ hK hS (Nat.le_refl _) (Nat.le_refl _) ((1 : Int32), fIR, (nI (gr0 is (N jj) F9 (RR, CD, q)).2.1.2.2), (lN (gr0 is (N jj) F9 (RR, CD, q)).2.1.2.1), (lN (gr0 is (N jj) F9 (RR, CD, q)).2.1.1), (0 : Int32), f2_45) (⟨fun z1 z2 => absurd z2 (show ¬ (1 : Int32) = 0 by decide), TB_set hU (MD_N hMD) (sgO_w hw_45.2.2 hn64) (F := (gr0 is (N jj) F9 (RR, CD, q)).2.2) (Or.inl ⟨by decide, hw_45.2.1, hg9.2.2.2⟩)⟩) (hP.sub [4, 1, 0, 2, 3] rfl) (hD.sub [4, 1, 0, 2, 3] (by decide +kernel) rfl) d_M_get_97
      · refine lv_bipush (v := (-5)) hx hb d_M_get_32 (by decide) ?_
        exact my_iret (v := (-5)) hx hb hr (rfl) hlocks hQ hK hS (Nat.le_refl _) (Nat.le_refl _) (fBad, fIR, fAsk, fCode, fRR, (0 : Int32), vThen) (⟨fun z1 z2 => absurd z2 c_3, hU⟩) (hP.sub [4, 0, 1, 2, 3] rfl) (hD.sub [4, 0, 1, 2, 3] (by decide +kernel) rfl) d_M_get_34
    · refine lv_bipush (v := (-3)) hx hb d_M_get_22 (by decide) ?_
      exact my_iret (v := (-3)) hx hb hr (rfl) hlocks hQ hK hS (Nat.le_refl _) (Nat.le_refl _) (fBad, fIR, fAsk, fCode, fRR, (0 : Int32), vThen) (⟨fun z1 z2 => absurd c_2 z1, hU⟩) (hP.sub [4, 0, 1, 2, 3] rfl) (hD.sub [4, 0, 1, 2, 3] (by decide +kernel) rfl) d_M_get_24
  · refine lv_iconst (v := (-1)) hx hb d_M_get_13 (by decide) ?_
    exact my_iret (v := (-1)) hx hb hr (rfl) hlocks hQ hK hS (Nat.le_refl _) (Nat.le_refl _) (fBad, fIR, fAsk, fCode, fRR, (0 : Int32), vThen) (⟨fun z1 z2 => RD0_up (hRD z1 z2), hU⟩) (hP.sub [4, 0, 1, 2, 3] rfl) (hD.sub [4, 0, 1, 2, 3] (by decide +kernel) rfl) d_M_get_14
set_option maxHeartbeats 2000000 in
set_option maxRecDepth 100000 in
theorem c_M_get1 (l : Launch) (dC : Nat → ClassId) (dI : Nat → Nat → Nat) (cI cM cO : ClassId) (sz : Nat) (o : Nat) (g : Nat → Nat) (fForm : Int32) (fShift : Int32) (fModels : Int32) (fItems : Int32) (fEnded : Int32) (fLow : Int64) (fRange : Int64) (fCache : Int32) (fPend : Int32) (fGoes : Int32) (fOuts : Int32) (fIns : Int32) (fReads : Int32) (fBad : Int32) (fIR : Int32) (fAsk : Int32) (fBAsk : Int32) (fCode : Int64) (fRL : Int64) (fRR : Int64) (fX : Int64) (fWrites : Int32) (fThrown : Int32) (vMany : Nat → Int32) (vCounts : Nat → Int32) (vThen : Nat → Int32) (vIn : Nat → Int32) (km : Nat) (N : Nat → Nat) (cn : Nat) (p1 : Int32) (hfo : fForm = 1) (hmod : fModels = nI km) (hMD : MD km N vMany vCounts) (hIN : IN fIns vIn) (hcn : cn ≤ 1000) (hU : TB 1 km N vThen) (hRD : ¬ fReads = 0 → fBad = 0 → RD1 cn fAsk fCode fRL fRR) : MetI l y_M_get (Cond.code y_M_get prog_14_method_56_code 3 (some .int) :: gw) ({ frames := 4, cells := 0, slots := 0, locals := 93 } : Room) (dC, dI) vwCl (kT cI cM cO) [Value.ref o, Value.int p1] [(o, Sum.inr (9, mO g fForm fShift fModels fItems fEnded fLow fRange fCache fPend fGoes fOuts fIns fReads fBad fIR fAsk fBAsk fCode fRL fRR fX fWrites fThrown)), ((g 0), Sum.inl (cI, 8, Sum.inl vMany)), ((g 1), Sum.inl (cI, 512, Sum.inl vCounts)), ((g 3), Sum.inl (cI, 512, Sum.inl vThen)), ((g 8), Sum.inl (cI, 6000, Sum.inl vIn))] sz (fun (r : Int32) (u : Int32 × Int32 × Int32 × Int64 × Int64 × Int64 × Int32 × (Nat → Int32)) => (¬ fReads = 0 → u.1 = 0 → RD1 (cn + 1) u.2.2.1 u.2.2.2.1 u.2.2.2.2.1 u.2.2.2.2.2.1) ∧ TB 1 km N u.2.2.2.2.2.2.2) (fun (u : Int32 × Int32 × Int32 × Int64 × Int64 × Int64 × Int32 × (Nat → Int32)) => [(o, Sum.inr (9, mO g fForm fShift fModels fItems fEnded fLow fRange fCache fPend fGoes fOuts fIns fReads u.1 u.2.1 u.2.2.1 fBAsk u.2.2.2.1 u.2.2.2.2.1 u.2.2.2.2.2.1 fX fWrites u.2.2.2.2.2.2.1)), ((g 0), Sum.inl (cI, 8, Sum.inl vMany)), ((g 1), Sum.inl (cI, 512, Sum.inl vCounts)), ((g 3), Sum.inl (cI, 512, Sum.inl u.2.2.2.2.2.2.2)), ((g 8), Sum.inl (cI, 6000, Sum.inl vIn))]) 0 0 := by
  refine my_ofI (cc := prog_14_method_56_code) (n := 3) (ret := (some .int)) (by decide) rfl (Nat.le_of_ble_eq_true rfl) ?_
  intro p e s m args below meth c R Q A ls H locs hx hb hr hts hown hlocks hml hnm hR hQ hA hl hP hK hN hD hS
  have hg : ∀ w ∈ gw, w.before args s = true := fun w h => hts w (List.mem_cons_of_mem _ h)
  have hown : s.vm.findClass "RangeCodersModel" = some m.cls := hown
  have hl : lv_has ls 3 [(0, Value.ref o), (1, Value.int p1)] := hl
  subst hfo
  obtain ⟨is, rfl, hIn, hlen, hoct⟩ := hIN
  have hPD : my_PD (dC, dI) vwCl A [(o, Sum.inr (9, mO g 1 fShift fModels fItems fEnded fLow fRange fCache fPend fGoes fOuts (nI is.length) fReads fBad fIR fAsk fBAsk fCode fRL fRR fX fWrites fThrown)), ((g 0), Sum.inl (cI, 8, Sum.inl vMany)), ((g 1), Sum.inl (cI, 512, Sum.inl vCounts)), ((g 3), Sum.inl (cI, 512, Sum.inl vThen)), ((g 8), Sum.inl (cI, 6000, Sum.inl vIn))] H := ⟨hP, hD⟩
  have hP := hPD.1
  have hD := hPD.2
  have hl : lv_has ls 3 [(0, Value.ref o), (1, Value.int p1)] := hl
  refine lv_aload_n hx hb d_M_get_0 rfl (lv_at hl 0 rfl) ?_
  refine lv_iconst (v := 0) hx hb d_M_get_1 (by decide) ?_
  refine va_put (D := (dC, dI)) (ci := 9) (v := .int 0) (ty := .int) (C := "RangeCodersModel") (T := T_M) (N := 35) hx hb hg in_M t_M o_M n_M hown hK hP hD hS 0 rfl rfl 34 (by decide) (hg _ k986) (fun _ h9 => h9) rfl (by decide +kernel) rfl rfl (Nat.le_of_ble_eq_true rfl) d_M_get_2 (fun H locs hP hD hS => ?_)
  have hPD : my_PD (dC, dI) vwCl A [(o, Sum.inr (9, mO g 1 fShift fModels fItems fEnded fLow fRange fCache fPend fGoes fOuts (nI is.length) fReads fBad fIR fAsk fBAsk fCode fRL fRR fX fWrites 0)), ((g 0), Sum.inl (cI, 8, Sum.inl vMany)), ((g 1), Sum.inl (cI, 512, Sum.inl vCounts)), ((g 3), Sum.inl (cI, 512, Sum.inl vThen)), ((g 8), Sum.inl (cI, 6000, Sum.inl vIn))] H := ⟨hP, hD⟩
  have hP := hPD.1
  have hD := hPD.2
  refine lv_aload_n hx hb d_M_get_5 rfl (lv_at hl 0 rfl) ?_
  refine lv_iload_n hx hb d_M_get_6 rfl (lv_at hl 1 rfl) ?_
  refine my_ci (wr := [((g 0), Sum.inl (cI, 8, Sum.inl vMany)), ((g 1), Sum.inl (cI, 512, Sum.inl vCounts)), ((g 3), Sum.inl (cI, 512, Sum.inl vThen)), ((g 8), Sum.inl (cI, 6000, Sum.inl vIn))]) (va_runV (As := [Value.int p1]) (rest := []) ⟨hx, hb, hml, hown, hts⟩ (c_M_isModel l dC dI cI cM cO H.size o g 1 fShift fModels fItems fEnded fLow fRange fCache fPend fGoes fOuts (nI is.length) fReads fBad fIR fAsk fBAsk fCode fRL fRR fX fWrites 0 p1) (cwV 1 hts (my_gV k1073 k1075 ks26 k12 k1076) rfl rfl rfl (by decide +kernel) ⟨by rw [hR]; exact Nat.le_of_ble_eq_true rfl, by rw [hR]; exact Nat.le_of_ble_eq_true rfl⟩) (my_preV hK hN (hP.sub [0] rfl) (hD.sub [0] (by decide +kernel) rfl) 0 rfl rfl) rfl rfl hl.1 rfl (lv_room (Nat.le_of_ble_eq_true rfl)) d_M_get_7 ⟨by rw [hR]; exact Nat.le_of_ble_eq_true rfl, by rw [hR]; exact Nat.le_of_ble_eq_true rfl⟩) hP hD hS hA [0] [1, 2, 3, 4] rfl rfl (by decide +kernel) (by decide +kernel) (fun r_7 u9 H locs hw_7 hP hD hS => ?_)
  have hw_7 : r_7 = if 0 ≤ p1 ∧ p1 ≤ fModels - 1 then 1 else 0 := hw_7
  have hPD : my_PD (dC, dI) vwCl A [((g 0), Sum.inl (cI, 8, Sum.inl vMany)), ((g 1), Sum.inl (cI, 512, Sum.inl vCounts)), ((g 3), Sum.inl (cI, 512, Sum.inl vThen)), ((g 8), Sum.inl (cI, 6000, Sum.inl vIn)), (o, Sum.inr (9, mO g 1 fShift fModels fItems fEnded fLow fRange fCache fPend fGoes fOuts (nI is.length) fReads fBad fIR fAsk fBAsk fCode fRL fRR fX fWrites 0))] H := ⟨hP, hD⟩
  have hP := hPD.1
  have hD := hPD.2
  refine lv_if_ne (tgt := 15) hx hb d_M_get_10 (by decide) (fun c_1 => ?_) (fun c_1 => ?_)
  · refine lv_aload_n hx hb d_M_get_15 rfl (lv_at hl 0 rfl) ?_
    refine va_get (D := (dC, dI)) (ci := 9) (v := .int fReads) (C := "RangeCodersModel") (T := T_M) (N := 35) hx hb hg in_M hown hK hP 4 rfl rfl 21 (by decide) (hg _ k973) (fun _ h9 => h9) rfl d_M_get_16 ?_
    refine lv_if_ne (tgt := 25) hx hb d_M_get_19 (by decide) (fun c_2 => ?_) (fun c_2 => ?_)
    · refine lv_aload_n hx hb d_M_get_25 rfl (lv_at hl 0 rfl) ?_
      refine va_get (D := (dC, dI)) (ci := 9) (v := .int fBad) (C := "RangeCodersModel") (T := T_M) (N := 35) hx hb hg in_M hown hK hP 4 rfl rfl 22 (by decide) (hg _ k974) (fun _ h9 => h9) rfl d_M_get_26 ?_
      refine lv_if_eq (tgt := 35) hx hb d_M_get_29 (by decide) (fun c_3 => ?_) (fun c_3 => ?_)
      · have hT := hU
        rw [hmod] at hw_7
        obtain ⟨jj, hj, ej⟩ := md_of hMD.1 (one_ne hw_7 c_1)
        subst ej
        have hk8 := hMD.1
        obtain ⟨hn9, hn2, hn64, C9, hc9, hB9⟩ := hMD.2 jj hj
        obtain ⟨RR, L, CD, q, rfl, rfl, rfl, rfl, hp, hC, hq⟩ := hRD c_2 c_3
        have hPD : my_PD (dC, dI) vwCl A [((g 0), Sum.inl (cI, 8, Sum.inl vMany)), ((g 1), Sum.inl (cI, 512, Sum.inl vCounts)), ((g 3), Sum.inl (cI, 512, Sum.inl vThen)), ((g 8), Sum.inl (cI, 6000, Sum.inl vIn)), (o, Sum.inr (9, mO g 1 fShift fModels fItems fEnded fLow fRange fCache fPend fGoes fOuts (nI is.length) fReads fBad fIR (nI q) fBAsk (lN CD) (lN L) (lN RR) fX fWrites 0))] H := ⟨hP, hD⟩
        have hP := hPD.1
        have hD := hPD.2
        obtain ⟨F9, hF⟩ := hT jj hj
        obtain ⟨hF9, hs9⟩ := tab_01 (by decide) hF
        refine lv_aload_n hx hb d_M_get_35 rfl (lv_at hl 0 rfl) ?_
        refine va_get (D := (dC, dI)) (ci := 9) (v := .int 1) (C := "RangeCodersModel") (T := T_M) (N := 35) hx hb hg in_M hown hK hP 4 rfl rfl 0 (by decide) (hg _ k952) (fun _ h9 => h9) rfl d_M_get_36 ?_
        refine lv_iconst (v := 2) hx hb d_M_get_39 (by decide) ?_
        refine lv_icmp_ge (tgt := 51) hx hb d_M_get_40 (by decide) (fun c_4 => ?_) (fun c_4 => ?_)
        · exact absurd c_4 (by decide)
        · refine lv_aload_n hx hb d_M_get_43 rfl (lv_at hl 0 rfl) ?_
          refine lv_iload_n hx hb d_M_get_44 rfl (lv_at hl 1 rfl) ?_
          refine my_ci (wr := [((g 1), Sum.inl (cI, 512, Sum.inl vCounts))]) (va_runV (As := [Value.int (nI jj)]) (rest := []) ⟨hx, hb, hml, hown, hts⟩ (c_M_getRanged1 l dC dI cI cM cO H.size o g fShift fModels fItems fEnded fLow fRange fCache fPend fGoes fOuts fReads fBad fIR fBAsk fX fWrites 0 vMany vThen vIn jj (N jj) F9 RR L CD is q (by omega) (hn9) (hn64) (by omega) (hIn) (hlen) (hoct) (by omega) (hF9) (hs9) (hp) (hC)) (cwV 1 hts (my_gV k1206 k1208 ks47 k12 k1209) rfl rfl rfl (by decide +kernel) ⟨by rw [hR]; exact Nat.le_of_ble_eq_true rfl, by rw [hR]; exact Nat.le_of_ble_eq_true rfl⟩) (my_preV hK hN (hP.sub [4, 0, 2, 3] rfl) (hD.sub [4, 0, 2, 3] (by decide +kernel) rfl) 0 rfl rfl) rfl rfl hl.1 rfl (lv_room (Nat.le_of_ble_eq_true rfl)) d_M_get_45 ⟨by rw [hR]; exact Nat.le_of_ble_eq_true rfl, by rw [hR]; exact Nat.le_of_ble_eq_true rfl⟩) hP hD hS hA [4, 0, 2, 3] [1] rfl rfl (by decide +kernel) (by decide +kernel) (fun r_45 u9 H locs hw_45 hP hD hS => ?_)
          obtain ⟨f2_45, rfl⟩ : ∃ z, z = u9 := ⟨_, rfl⟩
          have hw_45 : r_45 = oI (gr1 is (N jj) F9 (RR, L, CD, q)).1 ∧ sgI f2_45 (64 * jj) (N jj) (gr1 is (N jj) F9 (RR, L, CD, q)).2.2 ∧ sgO f2_45 vThen (64 * jj) (N jj) := hw_45
          have hPD : my_PD (dC, dI) vwCl A [((g 1), Sum.inl (cI, 512, Sum.inl vCounts)), (o, Sum.inr (9, mO g 1 fShift fModels fItems fEnded fLow fRange fCache fPend fGoes fOuts (nI is.length) fReads fBad fIR (nI (gr1 is (N jj) F9 (RR, L, CD, q)).2.1.2.2.2) fBAsk (lN (gr1 is (N jj) F9 (RR, L, CD, q)).2.1.2.2.1) (lN (gr1 is (N jj) F9 (RR, L, CD, q)).2.1.2.1) (lN (gr1 is (N jj) F9 (RR, L, CD, q)).2.1.1) fX fWrites 0)), ((g 0), Sum.inl (cI, 8, Sum.inl vMany)), ((g 3), Sum.inl (cI, 512, Sum.inl f2_45)), ((g 8), Sum.inl (cI, 6000, Sum.inl vIn))] H := ⟨hP, hD⟩
          have hP := hPD.1
          have hD := hPD.2
          refine lv_goto (tgt := 88) hx hb d_M_get_48 (by decide) ?_
          have hg9 := gr1_ok (q := q) hoct hn64 hs9 hp hC
          refine lv_istore_n (lv' := [(2, Value.int r_45), (0, Value.ref o), (1, Value.int (nI jj))]) hx hb d_M_get_88 rfl hl (by decide) rfl (fun ls hl => ?_)
          refine lv_iload_n hx hb d_M_get_89 rfl (lv_at hl 0 rfl) ?_
          refine lv_if_ge (tgt := 98) hx hb d_M_get_90 (by decide) (fun c_5 => ?_) (fun c_5 => ?_)
          · refine lv_aload_n hx hb d_M_get_98 rfl (lv_at hl 1 rfl) ?_
            refine lv_dup hx hb d_M_get_99 rfl ?_
            refine va_get (D := (dC, dI)) (ci := 9) (v := .int fIR) (C := "RangeCodersModel") (T := T_M) (N := 35) hx hb hg in_M hown hK hP 1 rfl rfl 23 (by decide) (hg _ k975) (fun _ h9 => h9) rfl d_M_get_100 ?_
            refine lv_iconst (v := 1) hx hb d_M_get_103 (by decide) ?_
            refine lv_iadd hx hb d_M_get_104 ?_
            refine lv_topi (fun v_6 ev_6 => ?_)
            refine va_put (D := (dC, dI)) (ci := 9) (v := .int v_6) (ty := .int) (C := "RangeCodersModel") (T := T_M) (N := 35) hx hb hg in_M t_M o_M n_M hown hK hP hD hS 1 rfl rfl 23 (by decide) (hg _ k975) (fun _ h9 => h9) rfl (by decide +kernel) rfl rfl (Nat.le_of_ble_eq_true rfl) d_M_get_105 (fun H locs hP hD hS => ?_)
            have hPD : my_PD (dC, dI) vwCl A [((g 1), Sum.inl (cI, 512, Sum.inl vCounts)), (o, Sum.inr (9, mO g 1 fShift fModels fItems fEnded fLow fRange fCache fPend fGoes fOuts (nI is.length) fReads fBad v_6 (nI (gr1 is (N jj) F9 (RR, L, CD, q)).2.1.2.2.2) fBAsk (lN (gr1 is (N jj) F9 (RR, L, CD, q)).2.1.2.2.1) (lN (gr1 is (N jj) F9 (RR, L, CD, q)).2.1.2.1) (lN (gr1 is (N jj) F9 (RR, L, CD, q)).2.1.1) fX fWrites 0)), ((g 0), Sum.inl (cI, 8, Sum.inl vMany)), ((g 3), Sum.inl (cI, 512, Sum.inl f2_45)), ((g 8), Sum.inl (cI, 6000, Sum.inl vIn))] H := ⟨hP, hD⟩
            have hP := hPD.1
            have hD := hPD.2
            refine lv_iload_n hx hb d_M_get_108 rfl (lv_at hl 0 rfl) ?_
            exact my_iret (v := r_45) hx hb hr (rfl) hlocks hQ hK hS (Nat.le_refl _) (Nat.le_refl _) (fBad, v_6, nI (gr1 is (N jj) F9 (RR, L, CD, q)).2.1.2.2.2, lN (gr1 is (N jj) F9 (RR, L, CD, q)).2.1.2.2.1, lN (gr1 is (N jj) F9 (RR, L, CD, q)).2.1.2.1, lN (gr1 is (N jj) F9 (RR, L, CD, q)).2.1.1, (0 : Int32), f2_45) (⟨fun _ _ => ⟨_, _, _, _, rfl, rfl, rfl, rfl, hg9.1, hg9.2.1, by omega⟩, TB_set hU (MD_N hMD) (sgO_w hw_45.2.2 hn64) (F := (gr1 is (N jj) F9 (RR, L, CD, q)).2.2) (Or.inl ⟨by decide, hw_45.2.1, hg9.2.2.2⟩)⟩) (hP.sub [1, 2, 0, 3, 4] rfl) (hD.sub [1, 2, 0, 3, 4] (by decide +kernel) rfl) d_M_get_109
          · refine lv_aload_n hx hb d_M_get_93 rfl (lv_at hl 1 rfl) ?_
            refine my_ci (wr := [((g 1), Sum.inl (cI, 512, Sum.inl vCounts)), ((g 0), Sum.inl (cI, 8, Sum.inl vMany)), ((g 3), Sum.inl (cI, 512, Sum.inl f2_45)), ((g 8), Sum.inl (cI, 6000, Sum.inl vIn))]) (va_runV (As := []) (rest := []) ⟨hx, hb, hml, hown, hts⟩ (c_M_spoiled l dC dI cI cM cO H.size o g 1 fShift fModels fItems fEnded fLow fRange fCache fPend fGoes fOuts (nI is.length) fReads fBad fIR (nI (gr1 is (N jj) F9 (RR, L, CD, q)).2.1.2.2.2) fBAsk (lN (gr1 is (N jj) F9 (RR, L, CD, q)).2.1.2.2.1) (lN (gr1 is (N jj) F9 (RR, L, CD, q)).2.1.2.1) (lN (gr1 is (N jj) F9 (RR, L, CD, q)).2.1.1) fX fWrites 0) (cwV 0 hts (my_gV k1252 k1254 ks58 k12 k1255) rfl rfl rfl (by decide +kernel) ⟨by rw [hR]; exact Nat.le_of_ble_eq_true rfl, by rw [hR]; exact Nat.le_of_ble_eq_true rfl⟩) (my_preV hK hN (hP.sub [1] rfl) (hD.sub [1] (by decide +kernel) rfl) 0 rfl rfl) rfl rfl hl.1 rfl (lv_room (Nat.le_of_ble_eq_true rfl)) d_M_get_94 ⟨by rw [hR]; exact Nat.le_of_ble_eq_true rfl, by rw [hR]; exact Nat.le_of_ble_eq_true rfl⟩) hP hD hS hA [1] [0, 2, 3, 4] rfl rfl (by decide +kernel) (by decide +kernel) (fun r_94 u9 H locs hw_94 hP hD hS => ?_)
            have hw_94 : r_94 = -5 := hw_94
            have hPD : my_PD (dC, dI) vwCl A [((g 1), Sum.inl (cI, 512, Sum.inl vCounts)), ((g 0), Sum.inl (cI, 8, Sum.inl vMany)), ((g 3), Sum.inl (cI, 512, Sum.inl f2_45)), ((g 8), Sum.inl (cI, 6000, Sum.inl vIn)), (o, Sum.inr (9, mO g 1 fShift fModels fItems fEnded fLow fRange fCache fPend fGoes fOuts (nI is.length) fReads 1 fIR (nI (gr1 is (N jj) F9 (RR, L, CD, q)).2.1.2.2.2) fBAsk (lN (gr1 is (N jj) F9 (RR, L, CD, q)).2.1.2.2.1) (lN (gr1 is (N jj) F9 (RR, L, CD, q)).2.1.2.1) (lN (gr1 is (N jj) F9 (RR, L, CD, q)).2.1.1) fX fWrites 0))] H := ⟨hP, hD⟩
            have hP := hPD.1
            have hD := hPD.2
            exact my_iret (v := r_94) hx hb hr (rfl) hlocks hQ hK hS (Nat.le_refl _) (Nat.le_refl _) ((1 : Int32), fIR, (nI (gr1 is (N jj) F9 (RR, L, CD, q)).2.1.2.2.2), (lN (gr1 is (N jj) F9 (RR, L, CD, q)).2.1.2.2.1), (lN (gr1 is (N jj) F9 (RR, L, CD, q)).2.1.2.1), (lN (gr1 is (N jj) F9 (RR, L, CD, q)).2.1.1), (0 : Int32), f2_45) (⟨fun z1 z2 => absurd z2 (show ¬ (1 : Int32) = 0 by decide), TB_set hU (MD_N hMD) (sgO_w hw_45.2.2 hn64) (F := (gr1 is (N jj) F9 (RR, L, CD, q)).2.2) (Or.inl ⟨by decide, hw_45.2.1, hg9.2.2.2⟩)⟩) (hP.sub [4, 1, 0, 2, 3] rfl) (hD.sub [4, 1, 0, 2, 3] (by decide +kernel) rfl) d_M_get_97
      · refine lv_bipush (v := (-5)) hx hb d_M_get_32 (by decide) ?_
        exact my_iret (v := (-5)) hx hb hr (rfl) hlocks hQ hK hS (Nat.le_refl _) (Nat.le_refl _) (fBad, fIR, fAsk, fCode, fRL, fRR, (0 : Int32), vThen) (⟨fun z1 z2 => absurd z2 c_3, hU⟩) (hP.sub [4, 0, 1, 2, 3] rfl) (hD.sub [4, 0, 1, 2, 3] (by decide +kernel) rfl) d_M_get_34
    · refine lv_bipush (v := (-3)) hx hb d_M_get_22 (by decide) ?_
      exact my_iret (v := (-3)) hx hb hr (rfl) hlocks hQ hK hS (Nat.le_refl _) (Nat.le_refl _) (fBad, fIR, fAsk, fCode, fRL, fRR, (0 : Int32), vThen) (⟨fun z1 z2 => absurd c_2 z1, hU⟩) (hP.sub [4, 0, 1, 2, 3] rfl) (hD.sub [4, 0, 1, 2, 3] (by decide +kernel) rfl) d_M_get_24
  · refine lv_iconst (v := (-1)) hx hb d_M_get_13 (by decide) ?_
    exact my_iret (v := (-1)) hx hb hr (rfl) hlocks hQ hK hS (Nat.le_refl _) (Nat.le_refl _) (fBad, fIR, fAsk, fCode, fRL, fRR, (0 : Int32), vThen) (⟨fun z1 z2 => RD1_up (hRD z1 z2), hU⟩) (hP.sub [4, 0, 1, 2, 3] rfl) (hD.sub [4, 0, 1, 2, 3] (by decide +kernel) rfl) d_M_get_14
set_option maxHeartbeats 2000000 in
set_option maxRecDepth 100000 in
theorem c_M_get2 (l : Launch) (dC : Nat → ClassId) (dI : Nat → Nat → Nat) (cI cM cO : ClassId) (sz : Nat) (o : Nat) (g : Nat → Nat) (fForm : Int32) (fShift : Int32) (fModels : Int32) (fItems : Int32) (fEnded : Int32) (fLow : Int64) (fRange : Int64) (fCache : Int32) (fPend : Int32) (fGoes : Int32) (fOuts : Int32) (fIns : Int32) (fReads : Int32) (fBad : Int32) (fIR : Int32) (fAsk : Int32) (fBAsk : Int32) (fCode : Int64) (fRL : Int64) (fRR : Int64) (fX : Int64) (fWrites : Int32) (fThrown : Int32) (vMany : Nat → Int32) (vCounts : Nat → Int32) (vThen : Nat → Int32) (vIn : Nat → Int32) (km : Nat) (N : Nat → Nat) (cn : Nat) (sh : Nat) (p1 : Int32) (hfo : fForm = 2) (hsh : fShift = nI sh) (hs1 : 1 ≤ sh) (hs2 : sh ≤ 10) (hmod : fModels = nI km) (hMD : MD km N vMany vCounts) (hIN : IN fIns vIn) (hcn : cn ≤ 1000) (hU : TB 2 km N vThen) (hRD : ¬ fReads = 0 → fBad = 0 → RD2 cn fAsk fCode fRR) : MetI l y_M_get (Cond.code y_M_get prog_14_method_56_code 3 (some .int) :: gw) ({ frames := 4, cells := 0, slots := 0, locals := 90 } : Room) (dC, dI) vwCl (kT cI cM cO) [Value.ref o, Value.int p1] [(o, Sum.inr (9, mO g fForm fShift fModels fItems fEnded fLow fRange fCache fPend fGoes fOuts fIns fReads fBad fIR fAsk fBAsk fCode fRL fRR fX fWrites fThrown)), ((g 0), Sum.inl (cI, 8, Sum.inl vMany)), ((g 1), Sum.inl (cI, 512, Sum.inl vCounts)), ((g 3), Sum.inl (cI, 512, Sum.inl vThen)), ((g 8), Sum.inl (cI, 6000, Sum.inl vIn))] sz (fun (r : Int32) (u : Int32 × Int32 × Int32 × Int64 × Int64 × Int32 × (Nat → Int32)) => (¬ fReads = 0 → u.1 = 0 → RD2 (cn + 1) u.2.2.1 u.2.2.2.1 u.2.2.2.2.1) ∧ TB 2 km N u.2.2.2.2.2.2) (fun (u : Int32 × Int32 × Int32 × Int64 × Int64 × Int32 × (Nat → Int32)) => [(o, Sum.inr (9, mO g fForm fShift fModels fItems fEnded fLow fRange fCache fPend fGoes fOuts fIns fReads u.1 u.2.1 u.2.2.1 fBAsk u.2.2.2.1 fRL u.2.2.2.2.1 fX fWrites u.2.2.2.2.2.1)), ((g 0), Sum.inl (cI, 8, Sum.inl vMany)), ((g 1), Sum.inl (cI, 512, Sum.inl vCounts)), ((g 3), Sum.inl (cI, 512, Sum.inl u.2.2.2.2.2.2)), ((g 8), Sum.inl (cI, 6000, Sum.inl vIn))]) 0 0 := by
  refine my_ofI (cc := prog_14_method_56_code) (n := 3) (ret := (some .int)) (by decide) rfl (Nat.le_of_ble_eq_true rfl) ?_
  intro p e s m args below meth c R Q A ls H locs hx hb hr hts hown hlocks hml hnm hR hQ hA hl hP hK hN hD hS
  have hg : ∀ w ∈ gw, w.before args s = true := fun w h => hts w (List.mem_cons_of_mem _ h)
  have hown : s.vm.findClass "RangeCodersModel" = some m.cls := hown
  have hl : lv_has ls 3 [(0, Value.ref o), (1, Value.int p1)] := hl
  subst hfo
  subst hsh
  obtain ⟨is, rfl, hIn, hlen, hoct⟩ := hIN
  have hPD : my_PD (dC, dI) vwCl A [(o, Sum.inr (9, mO g 2 (nI sh) fModels fItems fEnded fLow fRange fCache fPend fGoes fOuts (nI is.length) fReads fBad fIR fAsk fBAsk fCode fRL fRR fX fWrites fThrown)), ((g 0), Sum.inl (cI, 8, Sum.inl vMany)), ((g 1), Sum.inl (cI, 512, Sum.inl vCounts)), ((g 3), Sum.inl (cI, 512, Sum.inl vThen)), ((g 8), Sum.inl (cI, 6000, Sum.inl vIn))] H := ⟨hP, hD⟩
  have hP := hPD.1
  have hD := hPD.2
  have hl : lv_has ls 3 [(0, Value.ref o), (1, Value.int p1)] := hl
  refine lv_aload_n hx hb d_M_get_0 rfl (lv_at hl 0 rfl) ?_
  refine lv_iconst (v := 0) hx hb d_M_get_1 (by decide) ?_
  refine va_put (D := (dC, dI)) (ci := 9) (v := .int 0) (ty := .int) (C := "RangeCodersModel") (T := T_M) (N := 35) hx hb hg in_M t_M o_M n_M hown hK hP hD hS 0 rfl rfl 34 (by decide) (hg _ k986) (fun _ h9 => h9) rfl (by decide +kernel) rfl rfl (Nat.le_of_ble_eq_true rfl) d_M_get_2 (fun H locs hP hD hS => ?_)
  have hPD : my_PD (dC, dI) vwCl A [(o, Sum.inr (9, mO g 2 (nI sh) fModels fItems fEnded fLow fRange fCache fPend fGoes fOuts (nI is.length) fReads fBad fIR fAsk fBAsk fCode fRL fRR fX fWrites 0)), ((g 0), Sum.inl (cI, 8, Sum.inl vMany)), ((g 1), Sum.inl (cI, 512, Sum.inl vCounts)), ((g 3), Sum.inl (cI, 512, Sum.inl vThen)), ((g 8), Sum.inl (cI, 6000, Sum.inl vIn))] H := ⟨hP, hD⟩
  have hP := hPD.1
  have hD := hPD.2
  refine lv_aload_n hx hb d_M_get_5 rfl (lv_at hl 0 rfl) ?_
  refine lv_iload_n hx hb d_M_get_6 rfl (lv_at hl 1 rfl) ?_
  refine my_ci (wr := [((g 0), Sum.inl (cI, 8, Sum.inl vMany)), ((g 1), Sum.inl (cI, 512, Sum.inl vCounts)), ((g 3), Sum.inl (cI, 512, Sum.inl vThen)), ((g 8), Sum.inl (cI, 6000, Sum.inl vIn))]) (va_runV (As := [Value.int p1]) (rest := []) ⟨hx, hb, hml, hown, hts⟩ (c_M_isModel l dC dI cI cM cO H.size o g 2 (nI sh) fModels fItems fEnded fLow fRange fCache fPend fGoes fOuts (nI is.length) fReads fBad fIR fAsk fBAsk fCode fRL fRR fX fWrites 0 p1) (cwV 1 hts (my_gV k1073 k1075 ks26 k12 k1076) rfl rfl rfl (by decide +kernel) ⟨by rw [hR]; exact Nat.le_of_ble_eq_true rfl, by rw [hR]; exact Nat.le_of_ble_eq_true rfl⟩) (my_preV hK hN (hP.sub [0] rfl) (hD.sub [0] (by decide +kernel) rfl) 0 rfl rfl) rfl rfl hl.1 rfl (lv_room (Nat.le_of_ble_eq_true rfl)) d_M_get_7 ⟨by rw [hR]; exact Nat.le_of_ble_eq_true rfl, by rw [hR]; exact Nat.le_of_ble_eq_true rfl⟩) hP hD hS hA [0] [1, 2, 3, 4] rfl rfl (by decide +kernel) (by decide +kernel) (fun r_7 u9 H locs hw_7 hP hD hS => ?_)
  have hw_7 : r_7 = if 0 ≤ p1 ∧ p1 ≤ fModels - 1 then 1 else 0 := hw_7
  have hPD : my_PD (dC, dI) vwCl A [((g 0), Sum.inl (cI, 8, Sum.inl vMany)), ((g 1), Sum.inl (cI, 512, Sum.inl vCounts)), ((g 3), Sum.inl (cI, 512, Sum.inl vThen)), ((g 8), Sum.inl (cI, 6000, Sum.inl vIn)), (o, Sum.inr (9, mO g 2 (nI sh) fModels fItems fEnded fLow fRange fCache fPend fGoes fOuts (nI is.length) fReads fBad fIR fAsk fBAsk fCode fRL fRR fX fWrites 0))] H := ⟨hP, hD⟩
  have hP := hPD.1
  have hD := hPD.2
  refine lv_if_ne (tgt := 15) hx hb d_M_get_10 (by decide) (fun c_1 => ?_) (fun c_1 => ?_)
  · refine lv_aload_n hx hb d_M_get_15 rfl (lv_at hl 0 rfl) ?_
    refine va_get (D := (dC, dI)) (ci := 9) (v := .int fReads) (C := "RangeCodersModel") (T := T_M) (N := 35) hx hb hg in_M hown hK hP 4 rfl rfl 21 (by decide) (hg _ k973) (fun _ h9 => h9) rfl d_M_get_16 ?_
    refine lv_if_ne (tgt := 25) hx hb d_M_get_19 (by decide) (fun c_2 => ?_) (fun c_2 => ?_)
    · refine lv_aload_n hx hb d_M_get_25 rfl (lv_at hl 0 rfl) ?_
      refine va_get (D := (dC, dI)) (ci := 9) (v := .int fBad) (C := "RangeCodersModel") (T := T_M) (N := 35) hx hb hg in_M hown hK hP 4 rfl rfl 22 (by decide) (hg _ k974) (fun _ h9 => h9) rfl d_M_get_26 ?_
      refine lv_if_eq (tgt := 35) hx hb d_M_get_29 (by decide) (fun c_3 => ?_) (fun c_3 => ?_)
      · have hT := hU
        rw [hmod] at hw_7
        obtain ⟨jj, hj, ej⟩ := md_of hMD.1 (one_ne hw_7 c_1)
        subst ej
        have hk8 := hMD.1
        obtain ⟨hn9, hn2, hn64, C9, hc9, hB9⟩ := hMD.2 jj hj
        obtain ⟨RR, CD, q, rfl, rfl, rfl, hI2, hq⟩ := hRD c_2 c_3
        have hPD : my_PD (dC, dI) vwCl A [((g 0), Sum.inl (cI, 8, Sum.inl vMany)), ((g 1), Sum.inl (cI, 512, Sum.inl vCounts)), ((g 3), Sum.inl (cI, 512, Sum.inl vThen)), ((g 8), Sum.inl (cI, 6000, Sum.inl vIn)), (o, Sum.inr (9, mO g 2 (nI sh) fModels fItems fEnded fLow fRange fCache fPend fGoes fOuts (nI is.length) fReads fBad fIR (nI q) fBAsk (lN CD) fRL (lN RR) fX fWrites 0))] H := ⟨hP, hD⟩
        have hP := hPD.1
        have hD := hPD.2
        obtain ⟨F9, hF⟩ := hT jj hj
        obtain ⟨hF9, hs9⟩ := tab_2 hF
        refine lv_aload_n hx hb d_M_get_35 rfl (lv_at hl 0 rfl) ?_
        refine va_get (D := (dC, dI)) (ci := 9) (v := .int 2) (C := "RangeCodersModel") (T := T_M) (N := 35) hx hb hg in_M hown hK hP 4 rfl rfl 0 (by decide) (hg _ k952) (fun _ h9 => h9) rfl d_M_get_36 ?_
        refine lv_iconst (v := 2) hx hb d_M_get_39 (by decide) ?_
        refine lv_icmp_ge (tgt := 51) hx hb d_M_get_40 (by decide) (fun c_4 => ?_) (fun c_4 => ?_)
        · refine lv_aload_n hx hb d_M_get_51 rfl (lv_at hl 0 rfl) ?_
          refine va_get (D := (dC, dI)) (ci := 9) (v := .int 2) (C := "RangeCodersModel") (T := T_M) (N := 35) hx hb hg in_M hown hK hP 4 rfl rfl 0 (by decide) (hg _ k952) (fun _ h9 => h9) rfl d_M_get_52 ?_
          refine lv_iconst (v := 2) hx hb d_M_get_55 (by decide) ?_
          refine lv_icmp_ne (tgt := 67) hx hb d_M_get_56 (by decide) (fun c_5 => ?_) (fun c_5 => ?_)
          · exact absurd rfl c_5
          · refine lv_aload_n hx hb d_M_get_59 rfl (lv_at hl 0 rfl) ?_
            refine lv_iload_n hx hb d_M_get_60 rfl (lv_at hl 1 rfl) ?_
            refine my_ci (wr := [((g 1), Sum.inl (cI, 512, Sum.inl vCounts))]) (va_runV (As := [Value.int (nI jj)]) (rest := []) ⟨hx, hb, hml, hown, hts⟩ (c_M_getNode l dC dI cI cM cO H.size o g 2 fModels fItems fEnded fLow fRange fCache fPend fGoes fOuts fReads fBad fIR fBAsk fRL fX fWrites 0 vMany vThen vIn jj (N jj) sh F9 RR CD is q (by omega) (hn9) (hn64) (hn2) (hIn) (hlen) (hoct) (by omega) (hF9) (hs9) (hs1) (hs2) (hI2)) (cwV 1 hts (my_gV k1231 k1233 ks53 k12 k1234) rfl rfl rfl (by decide +kernel) ⟨by rw [hR]; exact Nat.le_of_ble_eq_true rfl, by rw [hR]; exact Nat.le_of_ble_eq_true rfl⟩) (my_preV hK hN (hP.sub [4, 0, 2, 3] rfl) (hD.sub [4, 0, 2, 3] (by decide +kernel) rfl) 0 rfl rfl) rfl rfl hl.1 rfl (lv_room (Nat.le_of_ble_eq_true rfl)) d_M_get_61 ⟨by rw [hR]; exact Nat.le_of_ble_eq_true rfl, by rw [hR]; exact Nat.le_of_ble_eq_true rfl⟩) hP hD hS hA [4, 0, 2, 3] [1] rfl rfl (by decide +kernel) (by decide +kernel) (fun r_61 u9 H locs hw_61 hP hD hS => ?_)
            obtain ⟨f2_61, rfl⟩ : ∃ z, z = u9 := ⟨_, rfl⟩
            have hw_61 : r_61 = oI (gnS is sh (N jj) (RR, CD, q) F9).1 ∧ sgI f2_61 (64 * jj) 64 (gnS is sh (N jj) (RR, CD, q) F9).2.2 ∧ sgO f2_61 vThen (64 * jj) 64 := hw_61
            have hPD : my_PD (dC, dI) vwCl A [((g 1), Sum.inl (cI, 512, Sum.inl vCounts)), (o, Sum.inr (9, mO g 2 (nI sh) fModels fItems fEnded fLow fRange fCache fPend fGoes fOuts (nI is.length) fReads fBad fIR (nI (gnS is sh (N jj) (RR, CD, q) F9).2.1.2.2) fBAsk (lN (gnS is sh (N jj) (RR, CD, q) F9).2.1.2.1) fRL (lN (gnS is sh (N jj) (RR, CD, q) F9).2.1.1) fX fWrites 0)), ((g 0), Sum.inl (cI, 8, Sum.inl vMany)), ((g 3), Sum.inl (cI, 512, Sum.inl f2_61)), ((g 8), Sum.inl (cI, 6000, Sum.inl vIn))] H := ⟨hP, hD⟩
            have hP := hPD.1
            have hD := hPD.2
            refine lv_goto (tgt := 88) hx hb d_M_get_64 (by decide) ?_
            have hg9 := gn_ok hoct (n := N jj) hs1 (r := (RR, CD, q)) hI2 hs9
            have hg8 : (gnS is sh (N jj) (RR, CD, q) F9).2.1.2.2 ≤ q + 18 := hg9.2.1
            refine lv_istore_n (lv' := [(2, Value.int r_61), (0, Value.ref o), (1, Value.int (nI jj))]) hx hb d_M_get_88 rfl hl (by decide) rfl (fun ls hl => ?_)
            refine lv_iload_n hx hb d_M_get_89 rfl (lv_at hl 0 rfl) ?_
            refine lv_if_ge (tgt := 98) hx hb d_M_get_90 (by decide) (fun c_6 => ?_) (fun c_6 => ?_)
            · refine lv_aload_n hx hb d_M_get_98 rfl (lv_at hl 1 rfl) ?_
              refine lv_dup hx hb d_M_get_99 rfl ?_
              refine va_get (D := (dC, dI)) (ci := 9) (v := .int fIR) (C := "RangeCodersModel") (T := T_M) (N := 35) hx hb hg in_M hown hK hP 1 rfl rfl 23 (by decide) (hg _ k975) (fun _ h9 => h9) rfl d_M_get_100 ?_
              refine lv_iconst (v := 1) hx hb d_M_get_103 (by decide) ?_
              refine lv_iadd hx hb d_M_get_104 ?_
              refine lv_topi (fun v_7 ev_7 => ?_)
              refine va_put (D := (dC, dI)) (ci := 9) (v := .int v_7) (ty := .int) (C := "RangeCodersModel") (T := T_M) (N := 35) hx hb hg in_M t_M o_M n_M hown hK hP hD hS 1 rfl rfl 23 (by decide) (hg _ k975) (fun _ h9 => h9) rfl (by decide +kernel) rfl rfl (Nat.le_of_ble_eq_true rfl) d_M_get_105 (fun H locs hP hD hS => ?_)
              have hPD : my_PD (dC, dI) vwCl A [((g 1), Sum.inl (cI, 512, Sum.inl vCounts)), (o, Sum.inr (9, mO g 2 (nI sh) fModels fItems fEnded fLow fRange fCache fPend fGoes fOuts (nI is.length) fReads fBad v_7 (nI (gnS is sh (N jj) (RR, CD, q) F9).2.1.2.2) fBAsk (lN (gnS is sh (N jj) (RR, CD, q) F9).2.1.2.1) fRL (lN (gnS is sh (N jj) (RR, CD, q) F9).2.1.1) fX fWrites 0)), ((g 0), Sum.inl (cI, 8, Sum.inl vMany)), ((g 3), Sum.inl (cI, 512, Sum.inl f2_61)), ((g 8), Sum.inl (cI, 6000, Sum.inl vIn))] H := ⟨hP, hD⟩
              have hP := hPD.1
              have hD := hPD.2
              refine lv_iload_n hx hb d_M_get_108 rfl (lv_at hl 0 rfl) ?_
              exact my_iret (v := r_61) hx hb hr (rfl) hlocks hQ hK hS (Nat.le_refl _) (Nat.le_refl _) (fBad, v_7, nI (gnS is sh (N jj) (RR, CD, q) F9).2.1.2.2, lN (gnS is sh (N jj) (RR, CD, q) F9).2.1.2.1, lN (gnS is sh (N jj) (RR, CD, q) F9).2.1.1, (0 : Int32), f2_61) (⟨fun _ _ => ⟨_, _, _, rfl, rfl, rfl, hg9.1, by omega⟩, TB_set hU (MD_N hMD) hw_61.2.2 (F := (gnS is sh (N jj) (RR, CD, q) F9).2.2) (Or.inr (Or.inl ⟨rfl, hw_61.2.1, hg9.2.2⟩))⟩) (hP.sub [1, 2, 0, 3, 4] rfl) (hD.sub [1, 2, 0, 3, 4] (by decide +kernel) rfl) d_M_get_109
            · refine lv_aload_n hx hb d_M_get_93 rfl (lv_at hl 1 rfl) ?_
              refine my_ci (wr := [((g 1), Sum.inl (cI, 512, Sum.inl vCounts)), ((g 0), Sum.inl (cI, 8, Sum.inl vMany)), ((g 3), Sum.inl (cI, 512, Sum.inl f2_61)), ((g 8), Sum.inl (cI, 6000, Sum.inl vIn))]) (va_runV (As := []) (rest := []) ⟨hx, hb, hml, hown, hts⟩ (c_M_spoiled l dC dI cI cM cO H.size o g 2 (nI sh) fModels fItems fEnded fLow fRange fCache fPend fGoes fOuts (nI is.length) fReads fBad fIR (nI (gnS is sh (N jj) (RR, CD, q) F9).2.1.2.2) fBAsk (lN (gnS is sh (N jj) (RR, CD, q) F9).2.1.2.1) fRL (lN (gnS is sh (N jj) (RR, CD, q) F9).2.1.1) fX fWrites 0) (cwV 0 hts (my_gV k1252 k1254 ks58 k12 k1255) rfl rfl rfl (by decide +kernel) ⟨by rw [hR]; exact Nat.le_of_ble_eq_true rfl, by rw [hR]; exact Nat.le_of_ble_eq_true rfl⟩) (my_preV hK hN (hP.sub [1] rfl) (hD.sub [1] (by decide +kernel) rfl) 0 rfl rfl) rfl rfl hl.1 rfl (lv_room (Nat.le_of_ble_eq_true rfl)) d_M_get_94 ⟨by rw [hR]; exact Nat.le_of_ble_eq_true rfl, by rw [hR]; exact Nat.le_of_ble_eq_true rfl⟩) hP hD hS hA [1] [0, 2, 3, 4] rfl rfl (by decide +kernel) (by decide +kernel) (fun r_94 u9 H locs hw_94 hP hD hS => ?_)
              have hw_94 : r_94 = -5 := hw_94
              have hPD : my_PD (dC, dI) vwCl A [((g 1), Sum.inl (cI, 512, Sum.inl vCounts)), ((g 0), Sum.inl (cI, 8, Sum.inl vMany)), ((g 3), Sum.inl (cI, 512, Sum.inl f2_61)), ((g 8), Sum.inl (cI, 6000, Sum.inl vIn)), (o, Sum.inr (9, mO g 2 (nI sh) fModels fItems fEnded fLow fRange fCache fPend fGoes fOuts (nI is.length) fReads 1 fIR (nI (gnS is sh (N jj) (RR, CD, q) F9).2.1.2.2) fBAsk (lN (gnS is sh (N jj) (RR, CD, q) F9).2.1.2.1) fRL (lN (gnS is sh (N jj) (RR, CD, q) F9).2.1.1) fX fWrites 0))] H := ⟨hP, hD⟩
              have hP := hPD.1
              have hD := hPD.2
              exact my_iret (v := r_94) hx hb hr (rfl) hlocks hQ hK hS (Nat.le_refl _) (Nat.le_refl _) ((1 : Int32), fIR, (nI (gnS is sh (N jj) (RR, CD, q) F9).2.1.2.2), (lN (gnS is sh (N jj) (RR, CD, q) F9).2.1.2.1), (lN (gnS is sh (N jj) (RR, CD, q) F9).2.1.1), (0 : Int32), f2_61) (⟨fun z1 z2 => absurd z2 (show ¬ (1 : Int32) = 0 by decide), TB_set hU (MD_N hMD) hw_61.2.2 (F := (gnS is sh (N jj) (RR, CD, q) F9).2.2) (Or.inr (Or.inl ⟨rfl, hw_61.2.1, hg9.2.2⟩))⟩) (hP.sub [4, 1, 0, 2, 3] rfl) (hD.sub [4, 1, 0, 2, 3] (by decide +kernel) rfl) d_M_get_97
        · exact absurd (by decide) c_4
      · refine lv_bipush (v := (-5)) hx hb d_M_get_32 (by decide) ?_
        exact my_iret (v := (-5)) hx hb hr (rfl) hlocks hQ hK hS (Nat.le_refl _) (Nat.le_refl _) (fBad, fIR, fAsk, fCode, fRR, (0 : Int32), vThen) (⟨fun z1 z2 => absurd z2 c_3, hU⟩) (hP.sub [4, 0, 1, 2, 3] rfl) (hD.sub [4, 0, 1, 2, 3] (by decide +kernel) rfl) d_M_get_34
    · refine lv_bipush (v := (-3)) hx hb d_M_get_22 (by decide) ?_
      exact my_iret (v := (-3)) hx hb hr (rfl) hlocks hQ hK hS (Nat.le_refl _) (Nat.le_refl _) (fBad, fIR, fAsk, fCode, fRR, (0 : Int32), vThen) (⟨fun z1 z2 => absurd c_2 z1, hU⟩) (hP.sub [4, 0, 1, 2, 3] rfl) (hD.sub [4, 0, 1, 2, 3] (by decide +kernel) rfl) d_M_get_24
  · refine lv_iconst (v := (-1)) hx hb d_M_get_13 (by decide) ?_
    exact my_iret (v := (-1)) hx hb hr (rfl) hlocks hQ hK hS (Nat.le_refl _) (Nat.le_refl _) (fBad, fIR, fAsk, fCode, fRR, (0 : Int32), vThen) (⟨fun z1 z2 => RD2_up (hRD z1 z2), hU⟩) (hP.sub [4, 0, 1, 2, 3] rfl) (hD.sub [4, 0, 1, 2, 3] (by decide +kernel) rfl) d_M_get_14
set_option maxHeartbeats 2000000 in
set_option maxRecDepth 100000 in
theorem c_M_get3 (l : Launch) (dC : Nat → ClassId) (dI : Nat → Nat → Nat) (cI cM cO : ClassId) (sz : Nat) (o : Nat) (g : Nat → Nat) (fForm : Int32) (fShift : Int32) (fModels : Int32) (fItems : Int32) (fEnded : Int32) (fLow : Int64) (fRange : Int64) (fCache : Int32) (fPend : Int32) (fGoes : Int32) (fOuts : Int32) (fIns : Int32) (fReads : Int32) (fBad : Int32) (fIR : Int32) (fAsk : Int32) (fBAsk : Int32) (fCode : Int64) (fRL : Int64) (fRR : Int64) (fX : Int64) (fWrites : Int32) (fThrown : Int32) (vMany : Nat → Int32) (vCounts : Nat → Int32) (vThen : Nat → Int32) (vIn : Nat → Int32) (km : Nat) (N : Nat → Nat) (cn : Nat) (p1 : Int32) (hfo : fForm = 3) (hmod : fModels = nI km) (hMD : MD km N vMany vCounts) (hIN : IN fIns vIn) (hcn : cn ≤ 1000) (hU : TB 3 km N vThen) (hRD : ¬ fReads = 0 → fBad = 0 → RD3 cn fAsk fX) : MetI l y_M_get (Cond.code y_M_get prog_14_method_56_code 3 (some .int) :: gw) ({ frames := 3, cells := 0, slots := 0, locals := 64 } : Room) (dC, dI) vwCl (kT cI cM cO) [Value.ref o, Value.int p1] [(o, Sum.inr (9, mO g fForm fShift fModels fItems fEnded fLow fRange fCache fPend fGoes fOuts fIns fReads fBad fIR fAsk fBAsk fCode fRL fRR fX fWrites fThrown)), ((g 0), Sum.inl (cI, 8, Sum.inl vMany)), ((g 1), Sum.inl (cI, 512, Sum.inl vCounts)), ((g 3), Sum.inl (cI, 512, Sum.inl vThen)), ((g 8), Sum.inl (cI, 6000, Sum.inl vIn))] sz (fun (r : Int32) (u : Int32 × Int32 × Int32 × Int64 × Int32) => ¬ fReads = 0 → u.1 = 0 → RD3 (cn + 1) u.2.2.1 u.2.2.2.1) (fun (u : Int32 × Int32 × Int32 × Int64 × Int32) => [(o, Sum.inr (9, mO g fForm fShift fModels fItems fEnded fLow fRange fCache fPend fGoes fOuts fIns fReads u.1 u.2.1 u.2.2.1 fBAsk fCode fRL fRR u.2.2.2.1 fWrites u.2.2.2.2)), ((g 0), Sum.inl (cI, 8, Sum.inl vMany)), ((g 1), Sum.inl (cI, 512, Sum.inl vCounts)), ((g 3), Sum.inl (cI, 512, Sum.inl vThen)), ((g 8), Sum.inl (cI, 6000, Sum.inl vIn))]) 0 0 := by
  refine my_ofI (cc := prog_14_method_56_code) (n := 3) (ret := (some .int)) (by decide) rfl (Nat.le_of_ble_eq_true rfl) ?_
  intro p e s m args below meth c R Q A ls H locs hx hb hr hts hown hlocks hml hnm hR hQ hA hl hP hK hN hD hS
  have hg : ∀ w ∈ gw, w.before args s = true := fun w h => hts w (List.mem_cons_of_mem _ h)
  have hown : s.vm.findClass "RangeCodersModel" = some m.cls := hown
  have hl : lv_has ls 3 [(0, Value.ref o), (1, Value.int p1)] := hl
  subst hfo
  obtain ⟨is, rfl, hIn, hlen, hoct⟩ := hIN
  have hPD : my_PD (dC, dI) vwCl A [(o, Sum.inr (9, mO g 3 fShift fModels fItems fEnded fLow fRange fCache fPend fGoes fOuts (nI is.length) fReads fBad fIR fAsk fBAsk fCode fRL fRR fX fWrites fThrown)), ((g 0), Sum.inl (cI, 8, Sum.inl vMany)), ((g 1), Sum.inl (cI, 512, Sum.inl vCounts)), ((g 3), Sum.inl (cI, 512, Sum.inl vThen)), ((g 8), Sum.inl (cI, 6000, Sum.inl vIn))] H := ⟨hP, hD⟩
  have hP := hPD.1
  have hD := hPD.2
  have hl : lv_has ls 3 [(0, Value.ref o), (1, Value.int p1)] := hl
  refine lv_aload_n hx hb d_M_get_0 rfl (lv_at hl 0 rfl) ?_
  refine lv_iconst (v := 0) hx hb d_M_get_1 (by decide) ?_
  refine va_put (D := (dC, dI)) (ci := 9) (v := .int 0) (ty := .int) (C := "RangeCodersModel") (T := T_M) (N := 35) hx hb hg in_M t_M o_M n_M hown hK hP hD hS 0 rfl rfl 34 (by decide) (hg _ k986) (fun _ h9 => h9) rfl (by decide +kernel) rfl rfl (Nat.le_of_ble_eq_true rfl) d_M_get_2 (fun H locs hP hD hS => ?_)
  have hPD : my_PD (dC, dI) vwCl A [(o, Sum.inr (9, mO g 3 fShift fModels fItems fEnded fLow fRange fCache fPend fGoes fOuts (nI is.length) fReads fBad fIR fAsk fBAsk fCode fRL fRR fX fWrites 0)), ((g 0), Sum.inl (cI, 8, Sum.inl vMany)), ((g 1), Sum.inl (cI, 512, Sum.inl vCounts)), ((g 3), Sum.inl (cI, 512, Sum.inl vThen)), ((g 8), Sum.inl (cI, 6000, Sum.inl vIn))] H := ⟨hP, hD⟩
  have hP := hPD.1
  have hD := hPD.2
  refine lv_aload_n hx hb d_M_get_5 rfl (lv_at hl 0 rfl) ?_
  refine lv_iload_n hx hb d_M_get_6 rfl (lv_at hl 1 rfl) ?_
  refine my_ci (wr := [((g 0), Sum.inl (cI, 8, Sum.inl vMany)), ((g 1), Sum.inl (cI, 512, Sum.inl vCounts)), ((g 3), Sum.inl (cI, 512, Sum.inl vThen)), ((g 8), Sum.inl (cI, 6000, Sum.inl vIn))]) (va_runV (As := [Value.int p1]) (rest := []) ⟨hx, hb, hml, hown, hts⟩ (c_M_isModel l dC dI cI cM cO H.size o g 3 fShift fModels fItems fEnded fLow fRange fCache fPend fGoes fOuts (nI is.length) fReads fBad fIR fAsk fBAsk fCode fRL fRR fX fWrites 0 p1) (cwV 1 hts (my_gV k1073 k1075 ks26 k12 k1076) rfl rfl rfl (by decide +kernel) ⟨by rw [hR]; exact Nat.le_of_ble_eq_true rfl, by rw [hR]; exact Nat.le_of_ble_eq_true rfl⟩) (my_preV hK hN (hP.sub [0] rfl) (hD.sub [0] (by decide +kernel) rfl) 0 rfl rfl) rfl rfl hl.1 rfl (lv_room (Nat.le_of_ble_eq_true rfl)) d_M_get_7 ⟨by rw [hR]; exact Nat.le_of_ble_eq_true rfl, by rw [hR]; exact Nat.le_of_ble_eq_true rfl⟩) hP hD hS hA [0] [1, 2, 3, 4] rfl rfl (by decide +kernel) (by decide +kernel) (fun r_7 u9 H locs hw_7 hP hD hS => ?_)
  have hw_7 : r_7 = if 0 ≤ p1 ∧ p1 ≤ fModels - 1 then 1 else 0 := hw_7
  have hPD : my_PD (dC, dI) vwCl A [((g 0), Sum.inl (cI, 8, Sum.inl vMany)), ((g 1), Sum.inl (cI, 512, Sum.inl vCounts)), ((g 3), Sum.inl (cI, 512, Sum.inl vThen)), ((g 8), Sum.inl (cI, 6000, Sum.inl vIn)), (o, Sum.inr (9, mO g 3 fShift fModels fItems fEnded fLow fRange fCache fPend fGoes fOuts (nI is.length) fReads fBad fIR fAsk fBAsk fCode fRL fRR fX fWrites 0))] H := ⟨hP, hD⟩
  have hP := hPD.1
  have hD := hPD.2
  refine lv_if_ne (tgt := 15) hx hb d_M_get_10 (by decide) (fun c_1 => ?_) (fun c_1 => ?_)
  · refine lv_aload_n hx hb d_M_get_15 rfl (lv_at hl 0 rfl) ?_
    refine va_get (D := (dC, dI)) (ci := 9) (v := .int fReads) (C := "RangeCodersModel") (T := T_M) (N := 35) hx hb hg in_M hown hK hP 4 rfl rfl 21 (by decide) (hg _ k973) (fun _ h9 => h9) rfl d_M_get_16 ?_
    refine lv_if_ne (tgt := 25) hx hb d_M_get_19 (by decide) (fun c_2 => ?_) (fun c_2 => ?_)
    · refine lv_aload_n hx hb d_M_get_25 rfl (lv_at hl 0 rfl) ?_
      refine va_get (D := (dC, dI)) (ci := 9) (v := .int fBad) (C := "RangeCodersModel") (T := T_M) (N := 35) hx hb hg in_M hown hK hP 4 rfl rfl 22 (by decide) (hg _ k974) (fun _ h9 => h9) rfl d_M_get_26 ?_
      refine lv_if_eq (tgt := 35) hx hb d_M_get_29 (by decide) (fun c_3 => ?_) (fun c_3 => ?_)
      · have hT := hU
        rw [hmod] at hw_7
        obtain ⟨jj, hj, ej⟩ := md_of hMD.1 (one_ne hw_7 c_1)
        subst ej
        have hk8 := hMD.1
        obtain ⟨hn9, hn2, hn64, C9, hc9, hB9⟩ := hMD.2 jj hj
        obtain ⟨X, q, rfl, rfl, hX0, hX1, hq⟩ := hRD c_2 c_3
        have hPD : my_PD (dC, dI) vwCl A [((g 0), Sum.inl (cI, 8, Sum.inl vMany)), ((g 1), Sum.inl (cI, 512, Sum.inl vCounts)), ((g 3), Sum.inl (cI, 512, Sum.inl vThen)), ((g 8), Sum.inl (cI, 6000, Sum.inl vIn)), (o, Sum.inr (9, mO g 3 fShift fModels fItems fEnded fLow fRange fCache fPend fGoes fOuts (nI is.length) fReads fBad fIR (nI q) fBAsk fCode fRL fRR (lN X) fWrites 0))] H := ⟨hP, hD⟩
        have hP := hPD.1
        have hD := hPD.2
        obtain ⟨F9, hF⟩ := hT jj hj
        obtain ⟨hF9, hs9⟩ := tab_3 hF
        refine lv_aload_n hx hb d_M_get_35 rfl (lv_at hl 0 rfl) ?_
        refine va_get (D := (dC, dI)) (ci := 9) (v := .int 3) (C := "RangeCodersModel") (T := T_M) (N := 35) hx hb hg in_M hown hK hP 4 rfl rfl 0 (by decide) (hg _ k952) (fun _ h9 => h9) rfl d_M_get_36 ?_
        refine lv_iconst (v := 2) hx hb d_M_get_39 (by decide) ?_
        refine lv_icmp_ge (tgt := 51) hx hb d_M_get_40 (by decide) (fun c_4 => ?_) (fun c_4 => ?_)
        · refine lv_aload_n hx hb d_M_get_51 rfl (lv_at hl 0 rfl) ?_
          refine va_get (D := (dC, dI)) (ci := 9) (v := .int 3) (C := "RangeCodersModel") (T := T_M) (N := 35) hx hb hg in_M hown hK hP 4 rfl rfl 0 (by decide) (hg _ k952) (fun _ h9 => h9) rfl d_M_get_52 ?_
          refine lv_iconst (v := 2) hx hb d_M_get_55 (by decide) ?_
          refine lv_icmp_ne (tgt := 67) hx hb d_M_get_56 (by decide) (fun c_5 => ?_) (fun c_5 => ?_)
          · refine lv_aload_n hx hb d_M_get_67 rfl (lv_at hl 0 rfl) ?_
            refine va_get (D := (dC, dI)) (ci := 9) (v := .int 3) (C := "RangeCodersModel") (T := T_M) (N := 35) hx hb hg in_M hown hK hP 4 rfl rfl 0 (by decide) (hg _ k952) (fun _ h9 => h9) rfl d_M_get_68 ?_
            refine lv_iconst (v := 3) hx hb d_M_get_71 (by decide) ?_
            refine lv_icmp_ne (tgt := 83) hx hb d_M_get_72 (by decide) (fun c_6 => ?_) (fun c_6 => ?_)
            · exact absurd rfl c_6
            · refine lv_aload_n hx hb d_M_get_75 rfl (lv_at hl 0 rfl) ?_
              refine lv_iload_n hx hb d_M_get_76 rfl (lv_at hl 1 rfl) ?_
              refine my_ci (wr := [((g 1), Sum.inl (cI, 512, Sum.inl vCounts))]) (va_runV (As := [Value.int (nI jj)]) (rest := []) ⟨hx, hb, hml, hown, hts⟩ (c_M_getStacked l dC dI cI cM cO H.size o g 3 fShift fModels fItems fEnded fLow fRange fCache fPend fGoes fOuts fReads fBad fIR fBAsk fCode fRL fRR fWrites 0 vMany vThen vIn jj (N jj) F9 X is q (by omega) (hn9) (hn64) (hIn) (hlen) (hoct) (by omega) (hF9) (hs9) (hX0) (hX1)) (cwV 1 hts (my_gV k1239 k1241 ks55 k12 k1242) rfl rfl rfl (by decide +kernel) ⟨by rw [hR]; exact Nat.le_of_ble_eq_true rfl, by rw [hR]; exact Nat.le_of_ble_eq_true rfl⟩) (my_preV hK hN (hP.sub [4, 0, 2, 3] rfl) (hD.sub [4, 0, 2, 3] (by decide +kernel) rfl) 0 rfl rfl) rfl rfl hl.1 rfl (lv_room (Nat.le_of_ble_eq_true rfl)) d_M_get_77 ⟨by rw [hR]; exact Nat.le_of_ble_eq_true rfl, by rw [hR]; exact Nat.le_of_ble_eq_true rfl⟩) hP hD hS hA [4, 0, 2, 3] [1] rfl rfl (by decide +kernel) (by decide +kernel) (fun r_77 u9 H locs hw_77 hP hD hS => ?_)
              have hw_77 : r_77 = oI (gs3 is (N jj) F9 X q).1 := hw_77
              have hPD : my_PD (dC, dI) vwCl A [((g 1), Sum.inl (cI, 512, Sum.inl vCounts)), (o, Sum.inr (9, mO g 3 fShift fModels fItems fEnded fLow fRange fCache fPend fGoes fOuts (nI is.length) fReads fBad fIR (nI (gs3 is (N jj) F9 X q).2.2) fBAsk fCode fRL fRR (lN (gs3 is (N jj) F9 X q).2.1) fWrites 0)), ((g 0), Sum.inl (cI, 8, Sum.inl vMany)), ((g 3), Sum.inl (cI, 512, Sum.inl vThen)), ((g 8), Sum.inl (cI, 6000, Sum.inl vIn))] H := ⟨hP, hD⟩
              have hP := hPD.1
              have hD := hPD.2
              refine lv_goto (tgt := 88) hx hb d_M_get_80 (by decide) ?_
              have hg9 := gs3_ok (q := q) hoct hs9 hX0 hX1
              refine lv_istore_n (lv' := [(2, Value.int r_77), (0, Value.ref o), (1, Value.int (nI jj))]) hx hb d_M_get_88 rfl hl (by decide) rfl (fun ls hl => ?_)
              refine lv_iload_n hx hb d_M_get_89 rfl (lv_at hl 0 rfl) ?_
              refine lv_if_ge (tgt := 98) hx hb d_M_get_90 (by decide) (fun c_7 => ?_) (fun c_7 => ?_)
              · refine lv_aload_n hx hb d_M_get_98 rfl (lv_at hl 1 rfl) ?_
                refine lv_dup hx hb d_M_get_99 rfl ?_
                refine va_get (D := (dC, dI)) (ci := 9) (v := .int fIR) (C := "RangeCodersModel") (T := T_M) (N := 35) hx hb hg in_M hown hK hP 1 rfl rfl 23 (by decide) (hg _ k975) (fun _ h9 => h9) rfl d_M_get_100 ?_
                refine lv_iconst (v := 1) hx hb d_M_get_103 (by decide) ?_
                refine lv_iadd hx hb d_M_get_104 ?_
                refine lv_topi (fun v_8 ev_8 => ?_)
                refine va_put (D := (dC, dI)) (ci := 9) (v := .int v_8) (ty := .int) (C := "RangeCodersModel") (T := T_M) (N := 35) hx hb hg in_M t_M o_M n_M hown hK hP hD hS 1 rfl rfl 23 (by decide) (hg _ k975) (fun _ h9 => h9) rfl (by decide +kernel) rfl rfl (Nat.le_of_ble_eq_true rfl) d_M_get_105 (fun H locs hP hD hS => ?_)
                have hPD : my_PD (dC, dI) vwCl A [((g 1), Sum.inl (cI, 512, Sum.inl vCounts)), (o, Sum.inr (9, mO g 3 fShift fModels fItems fEnded fLow fRange fCache fPend fGoes fOuts (nI is.length) fReads fBad v_8 (nI (gs3 is (N jj) F9 X q).2.2) fBAsk fCode fRL fRR (lN (gs3 is (N jj) F9 X q).2.1) fWrites 0)), ((g 0), Sum.inl (cI, 8, Sum.inl vMany)), ((g 3), Sum.inl (cI, 512, Sum.inl vThen)), ((g 8), Sum.inl (cI, 6000, Sum.inl vIn))] H := ⟨hP, hD⟩
                have hP := hPD.1
                have hD := hPD.2
                refine lv_iload_n hx hb d_M_get_108 rfl (lv_at hl 0 rfl) ?_
                exact my_iret (v := r_77) hx hb hr (rfl) hlocks hQ hK hS (Nat.le_refl _) (Nat.le_refl _) (fBad, v_8, nI (gs3 is (N jj) F9 X q).2.2, lN (gs3 is (N jj) F9 X q).2.1, (0 : Int32)) (fun _ _ => ⟨_, _, rfl, rfl, hg9.1, hg9.2.1, by omega⟩) (hP.sub [1, 2, 0, 3, 4] rfl) (hD.sub [1, 2, 0, 3, 4] (by decide +kernel) rfl) d_M_get_109
              · refine lv_aload_n hx hb d_M_get_93 rfl (lv_at hl 1 rfl) ?_
                refine my_ci (wr := [((g 1), Sum.inl (cI, 512, Sum.inl vCounts)), ((g 0), Sum.inl (cI, 8, Sum.inl vMany)), ((g 3), Sum.inl (cI, 512, Sum.inl vThen)), ((g 8), Sum.inl (cI, 6000, Sum.inl vIn))]) (va_runV (As := []) (rest := []) ⟨hx, hb, hml, hown, hts⟩ (c_M_spoiled l dC dI cI cM cO H.size o g 3 fShift fModels fItems fEnded fLow fRange fCache fPend fGoes fOuts (nI is.length) fReads fBad fIR (nI (gs3 is (N jj) F9 X q).2.2) fBAsk fCode fRL fRR (lN (gs3 is (N jj) F9 X q).2.1) fWrites 0) (cwV 0 hts (my_gV k1252 k1254 ks58 k12 k1255) rfl rfl rfl (by decide +kernel) ⟨by rw [hR]; exact Nat.le_of_ble_eq_true rfl, by rw [hR]; exact Nat.le_of_ble_eq_true rfl⟩) (my_preV hK hN (hP.sub [1] rfl) (hD.sub [1] (by decide +kernel) rfl) 0 rfl rfl) rfl rfl hl.1 rfl (lv_room (Nat.le_of_ble_eq_true rfl)) d_M_get_94 ⟨by rw [hR]; exact Nat.le_of_ble_eq_true rfl, by rw [hR]; exact Nat.le_of_ble_eq_true rfl⟩) hP hD hS hA [1] [0, 2, 3, 4] rfl rfl (by decide +kernel) (by decide +kernel) (fun r_94 u9 H locs hw_94 hP hD hS => ?_)
                have hw_94 : r_94 = -5 := hw_94
                have hPD : my_PD (dC, dI) vwCl A [((g 1), Sum.inl (cI, 512, Sum.inl vCounts)), ((g 0), Sum.inl (cI, 8, Sum.inl vMany)), ((g 3), Sum.inl (cI, 512, Sum.inl vThen)), ((g 8), Sum.inl (cI, 6000, Sum.inl vIn)), (o, Sum.inr (9, mO g 3 fShift fModels fItems fEnded fLow fRange fCache fPend fGoes fOuts (nI is.length) fReads 1 fIR (nI (gs3 is (N jj) F9 X q).2.2) fBAsk fCode fRL fRR (lN (gs3 is (N jj) F9 X q).2.1) fWrites 0))] H := ⟨hP, hD⟩
                have hP := hPD.1
                have hD := hPD.2
                exact my_iret (v := r_94) hx hb hr (rfl) hlocks hQ hK hS (Nat.le_refl _) (Nat.le_refl _) ((1 : Int32), fIR, (nI (gs3 is (N jj) F9 X q).2.2), (lN (gs3 is (N jj) F9 X q).2.1), (0 : Int32)) (fun z1 z2 => absurd z2 (show ¬ (1 : Int32) = 0 by decide)) (hP.sub [4, 1, 0, 2, 3] rfl) (hD.sub [4, 1, 0, 2, 3] (by decide +kernel) rfl) d_M_get_97
          · exact absurd c_5 (by decide)
        · exact absurd (by decide) c_4
      · refine lv_bipush (v := (-5)) hx hb d_M_get_32 (by decide) ?_
        exact my_iret (v := (-5)) hx hb hr (rfl) hlocks hQ hK hS (Nat.le_refl _) (Nat.le_refl _) (fBad, fIR, fAsk, fX, (0 : Int32)) (fun z1 z2 => absurd z2 c_3) (hP.sub [4, 0, 1, 2, 3] rfl) (hD.sub [4, 0, 1, 2, 3] (by decide +kernel) rfl) d_M_get_34
    · refine lv_bipush (v := (-3)) hx hb d_M_get_22 (by decide) ?_
      exact my_iret (v := (-3)) hx hb hr (rfl) hlocks hQ hK hS (Nat.le_refl _) (Nat.le_refl _) (fBad, fIR, fAsk, fX, (0 : Int32)) (fun z1 z2 => absurd c_2 z1) (hP.sub [4, 0, 1, 2, 3] rfl) (hD.sub [4, 0, 1, 2, 3] (by decide +kernel) rfl) d_M_get_24
  · refine lv_iconst (v := (-1)) hx hb d_M_get_13 (by decide) ?_
    exact my_iret (v := (-1)) hx hb hr (rfl) hlocks hQ hK hS (Nat.le_refl _) (Nat.le_refl _) (fBad, fIR, fAsk, fX, (0 : Int32)) (fun z1 z2 => RD3_up (hRD z1 z2)) (hP.sub [4, 0, 1, 2, 3] rfl) (hD.sub [4, 0, 1, 2, 3] (by decide +kernel) rfl) d_M_get_14
set_option maxHeartbeats 2000000 in
set_option maxRecDepth 100000 in
theorem c_M_getBits0 (l : Launch) (dC : Nat → ClassId) (dI : Nat → Nat → Nat) (cI cM cO : ClassId) (sz : Nat) (o : Nat) (g : Nat → Nat) (fForm : Int32) (fShift : Int32) (fModels : Int32) (fItems : Int32) (fEnded : Int32) (fLow : Int64) (fRange : Int64) (fCache : Int32) (fPend : Int32) (fGoes : Int32) (fOuts : Int32) (fIns : Int32) (fReads : Int32) (fBad : Int32) (fIR : Int32) (fAsk : Int32) (fBAsk : Int32) (fCode : Int64) (fRL : Int64) (fRR : Int64) (fX : Int64) (fWrites : Int32) (fThrown : Int32) (vIn : Nat → Int32) (cn : Nat) (p1 : Int32) (hfo : fForm = 0) (hIN : IN fIns vIn) (hcn : cn ≤ 1000) (hRD : ¬ fReads = 0 → fBad = 0 → RD0 cn fAsk fCode fRR) : MetI l y_M_getBits (Cond.code y_M_getBits prog_14_method_57_code 3 (some .int) :: gw) ({ frames := 4, cells := 0, slots := 0, locals := 90 } : Room) (dC, dI) vwCl (kT cI cM cO) [Value.ref o, Value.int p1] [(o, Sum.inr (9, mO g fForm fShift fModels fItems fEnded fLow fRange fCache fPend fGoes fOuts fIns fReads fBad fIR fAsk fBAsk fCode fRL fRR fX fWrites fThrown)), ((g 8), Sum.inl (cI, 6000, Sum.inl vIn))] sz (fun (r : Int32) (u : Int32 × Int32 × Int32 × Int64 × Int64 × Int32) => ¬ fReads = 0 → u.1 = 0 → RD0 (cn + 1) u.2.2.1 u.2.2.2.1 u.2.2.2.2.1) (fun (u : Int32 × Int32 × Int32 × Int64 × Int64 × Int32) => [(o, Sum.inr (9, mO g fForm fShift fModels fItems fEnded fLow fRange fCache fPend fGoes fOuts fIns fReads u.1 u.2.1 u.2.2.1 fBAsk u.2.2.2.1 fRL u.2.2.2.2.1 fX fWrites u.2.2.2.2.2)), ((g 8), Sum.inl (cI, 6000, Sum.inl vIn))]) 0 0 := by
  refine my_ofI (cc := prog_14_method_57_code) (n := 3) (ret := (some .int)) (by decide) rfl (Nat.le_of_ble_eq_true rfl) ?_
  intro p e s m args below meth c R Q A ls H locs hx hb hr hts hown hlocks hml hnm hR hQ hA hl hP hK hN hD hS
  have hg : ∀ w ∈ gw, w.before args s = true := fun w h => hts w (List.mem_cons_of_mem _ h)
  have hown : s.vm.findClass "RangeCodersModel" = some m.cls := hown
  have hl : lv_has ls 3 [(0, Value.ref o), (1, Value.int p1)] := hl
  subst hfo
  obtain ⟨is, rfl, hIn, hlen, hoct⟩ := hIN
  have hPD : my_PD (dC, dI) vwCl A [(o, Sum.inr (9, mO g 0 fShift fModels fItems fEnded fLow fRange fCache fPend fGoes fOuts (nI is.length) fReads fBad fIR fAsk fBAsk fCode fRL fRR fX fWrites fThrown)), ((g 8), Sum.inl (cI, 6000, Sum.inl vIn))] H := ⟨hP, hD⟩
  have hP := hPD.1
  have hD := hPD.2
  have hl : lv_has ls 3 [(0, Value.ref o), (1, Value.int p1)] := hl
  refine lv_aload_n hx hb d_M_getBits_0 rfl (lv_at hl 0 rfl) ?_
  refine lv_iconst (v := 0) hx hb d_M_getBits_1 (by decide) ?_
  refine va_put (D := (dC, dI)) (ci := 9) (v := .int 0) (ty := .int) (C := "RangeCodersModel") (T := T_M) (N := 35) hx hb hg in_M t_M o_M n_M hown hK hP hD hS 0 rfl rfl 34 (by decide) (hg _ k986) (fun _ h9 => h9) rfl (by decide +kernel) rfl rfl (Nat.le_of_ble_eq_true rfl) d_M_getBits_2 (fun H locs hP hD hS => ?_)
  have hPD : my_PD (dC, dI) vwCl A [(o, Sum.inr (9, mO g 0 fShift fModels fItems fEnded fLow fRange fCache fPend fGoes fOuts (nI is.length) fReads fBad fIR fAsk fBAsk fCode fRL fRR fX fWrites 0)), ((g 8), Sum.inl (cI, 6000, Sum.inl vIn))] H := ⟨hP, hD⟩
  have hP := hPD.1
  have hD := hPD.2
  refine lv_iload_n hx hb d_M_getBits_5 rfl (lv_at hl 1 rfl) ?_
  refine lv_iconst (v := 1) hx hb d_M_getBits_6 (by decide) ?_
  refine lv_aload_n hx hb d_M_getBits_7 rfl (lv_at hl 0 rfl) ?_
  refine va_get (D := (dC, dI)) (ci := 9) (v := .int 0) (C := "RangeCodersModel") (T := T_M) (N := 35) hx hb hg in_M hown hK hP 0 rfl rfl 0 (by decide) (hg _ k952) (fun _ h9 => h9) rfl d_M_getBits_8 ?_
  refine lv_iconst (v := 4) hx hb d_M_getBits_11 (by decide) ?_
  refine lv_icmp_ne (tgt := 20) hx hb d_M_getBits_12 (by decide) (fun c_1 => ?_) (fun c_1 => ?_)
  · refine lv_bipush (v := 12) hx hb d_M_getBits_20 (by decide) ?_
    refine my_ci (wr := [(o, Sum.inr (9, mO g 0 fShift fModels fItems fEnded fLow fRange fCache fPend fGoes fOuts (nI is.length) fReads fBad fIR fAsk fBAsk fCode fRL fRR fX fWrites 0)), ((g 8), Sum.inl (cI, 6000, Sum.inl vIn))]) (va_runS (As := [Value.int p1, Value.int 1, Value.int 12]) (rest := []) ⟨hx, hb, hml, hown, hts⟩ (c_M_in l dC dI cI cM cO H.size p1 1 12) (cwS 3 hts (my_gS k1062 k1063 k12 k1064) rfl rfl rfl (by decide +kernel) ⟨by rw [hR]; exact Nat.le_of_ble_eq_true rfl, by rw [hR]; exact Nat.le_of_ble_eq_true rfl⟩) (my_pre hK hN (hP.sub [] rfl) (hD.sub [] (by decide +kernel) rfl)) rfl rfl hl.1 rfl (lv_room (Nat.le_of_ble_eq_true rfl)) d_M_getBits_22 ⟨by rw [hR]; exact Nat.le_of_ble_eq_true rfl, by rw [hR]; exact Nat.le_of_ble_eq_true rfl⟩) hP hD hS hA [] [0, 1] rfl rfl (by decide +kernel) (by decide +kernel) (fun r_22 u9 H locs hw_22 hP hD hS => ?_)
    have hw_22 : r_22 = if 1 ≤ p1 ∧ p1 ≤ 12 then 1 else 0 := hw_22
    have hPD : my_PD (dC, dI) vwCl A [(o, Sum.inr (9, mO g 0 fShift fModels fItems fEnded fLow fRange fCache fPend fGoes fOuts (nI is.length) fReads fBad fIR fAsk fBAsk fCode fRL fRR fX fWrites 0)), ((g 8), Sum.inl (cI, 6000, Sum.inl vIn))] H := ⟨hP, hD⟩
    have hP := hPD.1
    have hD := hPD.2
    refine lv_if_ne (tgt := 31) hx hb d_M_getBits_25 (by decide) (fun c_2 => ?_) (fun c_2 => ?_)
    · obtain ⟨bb, hb1, hb2, eb⟩ := in_of2 (a := 1) (b := 12) (by decide) (by decide) (one_ne hw_22 c_2)
      subst eb
      refine lv_aload_n hx hb d_M_getBits_31 rfl (lv_at hl 0 rfl) ?_
      refine va_get (D := (dC, dI)) (ci := 9) (v := .int fReads) (C := "RangeCodersModel") (T := T_M) (N := 35) hx hb hg in_M hown hK hP 0 rfl rfl 21 (by decide) (hg _ k973) (fun _ h9 => h9) rfl d_M_getBits_32 ?_
      refine lv_if_ne (tgt := 41) hx hb d_M_getBits_35 (by decide) (fun c_3 => ?_) (fun c_3 => ?_)
      · refine lv_aload_n hx hb d_M_getBits_41 rfl (lv_at hl 0 rfl) ?_
        refine va_get (D := (dC, dI)) (ci := 9) (v := .int fBad) (C := "RangeCodersModel") (T := T_M) (N := 35) hx hb hg in_M hown hK hP 0 rfl rfl 22 (by decide) (hg _ k974) (fun _ h9 => h9) rfl d_M_getBits_42 ?_
        refine lv_if_eq (tgt := 51) hx hb d_M_getBits_45 (by decide) (fun c_4 => ?_) (fun c_4 => ?_)
        · obtain ⟨RR, CD, q, rfl, rfl, rfl, hR1, hC, hq⟩ := hRD c_3 c_4
          have hPD : my_PD (dC, dI) vwCl A [(o, Sum.inr (9, mO g 0 fShift fModels fItems fEnded fLow fRange fCache fPend fGoes fOuts (nI is.length) fReads fBad fIR (nI q) fBAsk (lN CD) fRL (lN RR) fX fWrites 0)), ((g 8), Sum.inl (cI, 6000, Sum.inl vIn))] H := ⟨hP, hD⟩
          have hP := hPD.1
          have hD := hPD.2
          refine lv_aload_n hx hb d_M_getBits_51 rfl (lv_at hl 0 rfl) ?_
          refine lv_iload_n hx hb d_M_getBits_52 rfl (lv_at hl 1 rfl) ?_
          refine my_ci (wr := []) (va_runV (As := [Value.int (nI bb)]) (rest := []) ⟨hx, hb, hml, hown, hts⟩ (c_M_valueOf0 l dC dI cI cM cO H.size o g fShift fModels fItems fEnded fLow fRange fCache fPend fGoes fOuts fReads fBad fIR fBAsk fRL fX fWrites 0 vIn bb RR CD is q (hb1) (hb2) (hIn) (hlen) (hoct) (by omega) (hR1) (hC)) (cwV 1 hts (my_gV k1260 k1262 ks59 k12 k1263) rfl rfl rfl (by decide +kernel) ⟨by rw [hR]; exact Nat.le_of_ble_eq_true rfl, by rw [hR]; exact Nat.le_of_ble_eq_true rfl⟩) (my_preV hK hN (hP.sub [0, 1] rfl) (hD.sub [0, 1] (by decide +kernel) rfl) 0 rfl rfl) rfl rfl hl.1 rfl (lv_room (Nat.le_of_ble_eq_true rfl)) d_M_getBits_53 ⟨by rw [hR]; exact Nat.le_of_ble_eq_true rfl, by rw [hR]; exact Nat.le_of_ble_eq_true rfl⟩) hP hD hS hA [0, 1] [] rfl rfl (by decide +kernel) (by decide +kernel) (fun r_53 u9 H locs hw_53 hP hD hS => ?_)
          have hw_53 : r_53 = oI (gv0 is bb (RR, CD, q)).1 := hw_53
          have hPD : my_PD (dC, dI) vwCl A [(o, Sum.inr (9, mO g 0 fShift fModels fItems fEnded fLow fRange fCache fPend fGoes fOuts (nI is.length) fReads fBad fIR (nI (gv0 is bb (RR, CD, q)).2.2.2) fBAsk (lN (gv0 is bb (RR, CD, q)).2.2.1) fRL (lN (gv0 is bb (RR, CD, q)).2.1) fX fWrites 0)), ((g 8), Sum.inl (cI, 6000, Sum.inl vIn))] H := ⟨hP, hD⟩
          have hP := hPD.1
          have hD := hPD.2
          refine lv_istore_n (lv' := [(2, Value.int r_53), (0, Value.ref o), (1, Value.int (nI bb))]) hx hb d_M_getBits_56 rfl hl (by decide) rfl (fun ls hl => ?_)
          have hg9 := gv0_ok (b := bb) (r := (RR, CD, q)) hoct hR1 hC
          have hg8 : (gv0 is bb (RR, CD, q)).2.2.2 ≤ q + 3 := hg9.2.2
          refine lv_iload_n hx hb d_M_getBits_57 rfl (lv_at hl 0 rfl) ?_
          refine lv_if_ge (tgt := 66) hx hb d_M_getBits_58 (by decide) (fun c_5 => ?_) (fun c_5 => ?_)
          · refine lv_aload_n hx hb d_M_getBits_66 rfl (lv_at hl 1 rfl) ?_
            refine lv_dup hx hb d_M_getBits_67 rfl ?_
            refine va_get (D := (dC, dI)) (ci := 9) (v := .int fIR) (C := "RangeCodersModel") (T := T_M) (N := 35) hx hb hg in_M hown hK hP 0 rfl rfl 23 (by decide) (hg _ k975) (fun _ h9 => h9) rfl d_M_getBits_68 ?_
            refine lv_iconst (v := 1) hx hb d_M_getBits_71 (by decide) ?_
            refine lv_iadd hx hb d_M_getBits_72 ?_
            refine lv_topi (fun v_6 ev_6 => ?_)
            refine va_put (D := (dC, dI)) (ci := 9) (v := .int v_6) (ty := .int) (C := "RangeCodersModel") (T := T_M) (N := 35) hx hb hg in_M t_M o_M n_M hown hK hP hD hS 0 rfl rfl 23 (by decide) (hg _ k975) (fun _ h9 => h9) rfl (by decide +kernel) rfl rfl (Nat.le_of_ble_eq_true rfl) d_M_getBits_73 (fun H locs hP hD hS => ?_)
            have hPD : my_PD (dC, dI) vwCl A [(o, Sum.inr (9, mO g 0 fShift fModels fItems fEnded fLow fRange fCache fPend fGoes fOuts (nI is.length) fReads fBad v_6 (nI (gv0 is bb (RR, CD, q)).2.2.2) fBAsk (lN (gv0 is bb (RR, CD, q)).2.2.1) fRL (lN (gv0 is bb (RR, CD, q)).2.1) fX fWrites 0)), ((g 8), Sum.inl (cI, 6000, Sum.inl vIn))] H := ⟨hP, hD⟩
            have hP := hPD.1
            have hD := hPD.2
            refine lv_iload_n hx hb d_M_getBits_76 rfl (lv_at hl 0 rfl) ?_
            exact my_iret (v := r_53) hx hb hr (rfl) hlocks hQ hK hS (Nat.le_refl _) (Nat.le_refl _) (fBad, v_6, nI (gv0 is bb (RR, CD, q)).2.2.2, lN (gv0 is bb (RR, CD, q)).2.2.1, lN (gv0 is bb (RR, CD, q)).2.1, (0 : Int32)) (fun _ _ => ⟨_, _, _, rfl, rfl, rfl, hg9.1, hg9.2.1, by omega⟩) (hP.sub [0, 1] rfl) (hD.sub [0, 1] (by decide +kernel) rfl) d_M_getBits_77
          · refine lv_aload_n hx hb d_M_getBits_61 rfl (lv_at hl 1 rfl) ?_
            refine my_ci (wr := [((g 8), Sum.inl (cI, 6000, Sum.inl vIn))]) (va_runV (As := []) (rest := []) ⟨hx, hb, hml, hown, hts⟩ (c_M_spoiled l dC dI cI cM cO H.size o g 0 fShift fModels fItems fEnded fLow fRange fCache fPend fGoes fOuts (nI is.length) fReads fBad fIR (nI (gv0 is bb (RR, CD, q)).2.2.2) fBAsk (lN (gv0 is bb (RR, CD, q)).2.2.1) fRL (lN (gv0 is bb (RR, CD, q)).2.1) fX fWrites 0) (cwV 0 hts (my_gV k1252 k1254 ks58 k12 k1255) rfl rfl rfl (by decide +kernel) ⟨by rw [hR]; exact Nat.le_of_ble_eq_true rfl, by rw [hR]; exact Nat.le_of_ble_eq_true rfl⟩) (my_preV hK hN (hP.sub [0] rfl) (hD.sub [0] (by decide +kernel) rfl) 0 rfl rfl) rfl rfl hl.1 rfl (lv_room (Nat.le_of_ble_eq_true rfl)) d_M_getBits_62 ⟨by rw [hR]; exact Nat.le_of_ble_eq_true rfl, by rw [hR]; exact Nat.le_of_ble_eq_true rfl⟩) hP hD hS hA [0] [1] rfl rfl (by decide +kernel) (by decide +kernel) (fun r_62 u9 H locs hw_62 hP hD hS => ?_)
            have hw_62 : r_62 = -5 := hw_62
            have hPD : my_PD (dC, dI) vwCl A [((g 8), Sum.inl (cI, 6000, Sum.inl vIn)), (o, Sum.inr (9, mO g 0 fShift fModels fItems fEnded fLow fRange fCache fPend fGoes fOuts (nI is.length) fReads 1 fIR (nI (gv0 is bb (RR, CD, q)).2.2.2) fBAsk (lN (gv0 is bb (RR, CD, q)).2.2.1) fRL (lN (gv0 is bb (RR, CD, q)).2.1) fX fWrites 0))] H := ⟨hP, hD⟩
            have hP := hPD.1
            have hD := hPD.2
            exact my_iret (v := r_62) hx hb hr (rfl) hlocks hQ hK hS (Nat.le_refl _) (Nat.le_refl _) ((1 : Int32), fIR, (nI (gv0 is bb (RR, CD, q)).2.2.2), (lN (gv0 is bb (RR, CD, q)).2.2.1), (lN (gv0 is bb (RR, CD, q)).2.1), (0 : Int32)) (fun z1 z2 => absurd z2 (show ¬ (1 : Int32) = 0 by decide)) (hP.sub [1, 0] rfl) (hD.sub [1, 0] (by decide +kernel) rfl) d_M_getBits_65
        · refine lv_bipush (v := (-5)) hx hb d_M_getBits_48 (by decide) ?_
          exact my_iret (v := (-5)) hx hb hr (rfl) hlocks hQ hK hS (Nat.le_refl _) (Nat.le_refl _) (fBad, fIR, fAsk, fCode, fRR, (0 : Int32)) (fun z1 z2 => absurd z2 c_4) (hP.sub [0, 1] rfl) (hD.sub [0, 1] (by decide +kernel) rfl) d_M_getBits_50
      · refine lv_bipush (v := (-3)) hx hb d_M_getBits_38 (by decide) ?_
        exact my_iret (v := (-3)) hx hb hr (rfl) hlocks hQ hK hS (Nat.le_refl _) (Nat.le_refl _) (fBad, fIR, fAsk, fCode, fRR, (0 : Int32)) (fun z1 z2 => absurd c_3 z1) (hP.sub [0, 1] rfl) (hD.sub [0, 1] (by decide +kernel) rfl) d_M_getBits_40
    · refine lv_bipush (v := (-2)) hx hb d_M_getBits_28 (by decide) ?_
      exact my_iret (v := (-2)) hx hb hr (rfl) hlocks hQ hK hS (Nat.le_refl _) (Nat.le_refl _) (fBad, fIR, fAsk, fCode, fRR, (0 : Int32)) (fun z1 z2 => RD0_up (hRD z1 z2)) (hP.sub [0, 1] rfl) (hD.sub [0, 1] (by decide +kernel) rfl) d_M_getBits_30
  · exact absurd c_1 (by decide)
set_option maxHeartbeats 2000000 in
set_option maxRecDepth 100000 in
theorem c_M_getBits1 (l : Launch) (dC : Nat → ClassId) (dI : Nat → Nat → Nat) (cI cM cO : ClassId) (sz : Nat) (o : Nat) (g : Nat → Nat) (fForm : Int32) (fShift : Int32) (fModels : Int32) (fItems : Int32) (fEnded : Int32) (fLow : Int64) (fRange : Int64) (fCache : Int32) (fPend : Int32) (fGoes : Int32) (fOuts : Int32) (fIns : Int32) (fReads : Int32) (fBad : Int32) (fIR : Int32) (fAsk : Int32) (fBAsk : Int32) (fCode : Int64) (fRL : Int64) (fRR : Int64) (fX : Int64) (fWrites : Int32) (fThrown : Int32) (vIn : Nat → Int32) (cn : Nat) (p1 : Int32) (hfo : fForm = 1) (hIN : IN fIns vIn) (hcn : cn ≤ 1000) (hRD : ¬ fReads = 0 → fBad = 0 → RD1 cn fAsk fCode fRL fRR) : MetI l y_M_getBits (Cond.code y_M_getBits prog_14_method_57_code 3 (some .int) :: gw) ({ frames := 4, cells := 0, slots := 0, locals := 92 } : Room) (dC, dI) vwCl (kT cI cM cO) [Value.ref o, Value.int p1] [(o, Sum.inr (9, mO g fForm fShift fModels fItems fEnded fLow fRange fCache fPend fGoes fOuts fIns fReads fBad fIR fAsk fBAsk fCode fRL fRR fX fWrites fThrown)), ((g 8), Sum.inl (cI, 6000, Sum.inl vIn))] sz (fun (r : Int32) (u : Int32 × Int32 × Int32 × Int64 × Int64 × Int64 × Int32) => ¬ fReads = 0 → u.1 = 0 → RD1 (cn + 1) u.2.2.1 u.2.2.2.1 u.2.2.2.2.1 u.2.2.2.2.2.1) (fun (u : Int32 × Int32 × Int32 × Int64 × Int64 × Int64 × Int32) => [(o, Sum.inr (9, mO g fForm fShift fModels fItems fEnded fLow fRange fCache fPend fGoes fOuts fIns fReads u.1 u.2.1 u.2.2.1 fBAsk u.2.2.2.1 u.2.2.2.2.1 u.2.2.2.2.2.1 fX fWrites u.2.2.2.2.2.2)), ((g 8), Sum.inl (cI, 6000, Sum.inl vIn))]) 0 0 := by
  refine my_ofI (cc := prog_14_method_57_code) (n := 3) (ret := (some .int)) (by decide) rfl (Nat.le_of_ble_eq_true rfl) ?_
  intro p e s m args below meth c R Q A ls H locs hx hb hr hts hown hlocks hml hnm hR hQ hA hl hP hK hN hD hS
  have hg : ∀ w ∈ gw, w.before args s = true := fun w h => hts w (List.mem_cons_of_mem _ h)
  have hown : s.vm.findClass "RangeCodersModel" = some m.cls := hown
  have hl : lv_has ls 3 [(0, Value.ref o), (1, Value.int p1)] := hl
  subst hfo
  obtain ⟨is, rfl, hIn, hlen, hoct⟩ := hIN
  have hPD : my_PD (dC, dI) vwCl A [(o, Sum.inr (9, mO g 1 fShift fModels fItems fEnded fLow fRange fCache fPend fGoes fOuts (nI is.length) fReads fBad fIR fAsk fBAsk fCode fRL fRR fX fWrites fThrown)), ((g 8), Sum.inl (cI, 6000, Sum.inl vIn))] H := ⟨hP, hD⟩
  have hP := hPD.1
  have hD := hPD.2
  have hl : lv_has ls 3 [(0, Value.ref o), (1, Value.int p1)] := hl
  refine lv_aload_n hx hb d_M_getBits_0 rfl (lv_at hl 0 rfl) ?_
  refine lv_iconst (v := 0) hx hb d_M_getBits_1 (by decide) ?_
  refine va_put (D := (dC, dI)) (ci := 9) (v := .int 0) (ty := .int) (C := "RangeCodersModel") (T := T_M) (N := 35) hx hb hg in_M t_M o_M n_M hown hK hP hD hS 0 rfl rfl 34 (by decide) (hg _ k986) (fun _ h9 => h9) rfl (by decide +kernel) rfl rfl (Nat.le_of_ble_eq_true rfl) d_M_getBits_2 (fun H locs hP hD hS => ?_)
  have hPD : my_PD (dC, dI) vwCl A [(o, Sum.inr (9, mO g 1 fShift fModels fItems fEnded fLow fRange fCache fPend fGoes fOuts (nI is.length) fReads fBad fIR fAsk fBAsk fCode fRL fRR fX fWrites 0)), ((g 8), Sum.inl (cI, 6000, Sum.inl vIn))] H := ⟨hP, hD⟩
  have hP := hPD.1
  have hD := hPD.2
  refine lv_iload_n hx hb d_M_getBits_5 rfl (lv_at hl 1 rfl) ?_
  refine lv_iconst (v := 1) hx hb d_M_getBits_6 (by decide) ?_
  refine lv_aload_n hx hb d_M_getBits_7 rfl (lv_at hl 0 rfl) ?_
  refine va_get (D := (dC, dI)) (ci := 9) (v := .int 1) (C := "RangeCodersModel") (T := T_M) (N := 35) hx hb hg in_M hown hK hP 0 rfl rfl 0 (by decide) (hg _ k952) (fun _ h9 => h9) rfl d_M_getBits_8 ?_
  refine lv_iconst (v := 4) hx hb d_M_getBits_11 (by decide) ?_
  refine lv_icmp_ne (tgt := 20) hx hb d_M_getBits_12 (by decide) (fun c_1 => ?_) (fun c_1 => ?_)
  · refine lv_bipush (v := 12) hx hb d_M_getBits_20 (by decide) ?_
    refine my_ci (wr := [(o, Sum.inr (9, mO g 1 fShift fModels fItems fEnded fLow fRange fCache fPend fGoes fOuts (nI is.length) fReads fBad fIR fAsk fBAsk fCode fRL fRR fX fWrites 0)), ((g 8), Sum.inl (cI, 6000, Sum.inl vIn))]) (va_runS (As := [Value.int p1, Value.int 1, Value.int 12]) (rest := []) ⟨hx, hb, hml, hown, hts⟩ (c_M_in l dC dI cI cM cO H.size p1 1 12) (cwS 3 hts (my_gS k1062 k1063 k12 k1064) rfl rfl rfl (by decide +kernel) ⟨by rw [hR]; exact Nat.le_of_ble_eq_true rfl, by rw [hR]; exact Nat.le_of_ble_eq_true rfl⟩) (my_pre hK hN (hP.sub [] rfl) (hD.sub [] (by decide +kernel) rfl)) rfl rfl hl.1 rfl (lv_room (Nat.le_of_ble_eq_true rfl)) d_M_getBits_22 ⟨by rw [hR]; exact Nat.le_of_ble_eq_true rfl, by rw [hR]; exact Nat.le_of_ble_eq_true rfl⟩) hP hD hS hA [] [0, 1] rfl rfl (by decide +kernel) (by decide +kernel) (fun r_22 u9 H locs hw_22 hP hD hS => ?_)
    have hw_22 : r_22 = if 1 ≤ p1 ∧ p1 ≤ 12 then 1 else 0 := hw_22
    have hPD : my_PD (dC, dI) vwCl A [(o, Sum.inr (9, mO g 1 fShift fModels fItems fEnded fLow fRange fCache fPend fGoes fOuts (nI is.length) fReads fBad fIR fAsk fBAsk fCode fRL fRR fX fWrites 0)), ((g 8), Sum.inl (cI, 6000, Sum.inl vIn))] H := ⟨hP, hD⟩
    have hP := hPD.1
    have hD := hPD.2
    refine lv_if_ne (tgt := 31) hx hb d_M_getBits_25 (by decide) (fun c_2 => ?_) (fun c_2 => ?_)
    · obtain ⟨bb, hb1, hb2, eb⟩ := in_of2 (a := 1) (b := 12) (by decide) (by decide) (one_ne hw_22 c_2)
      subst eb
      refine lv_aload_n hx hb d_M_getBits_31 rfl (lv_at hl 0 rfl) ?_
      refine va_get (D := (dC, dI)) (ci := 9) (v := .int fReads) (C := "RangeCodersModel") (T := T_M) (N := 35) hx hb hg in_M hown hK hP 0 rfl rfl 21 (by decide) (hg _ k973) (fun _ h9 => h9) rfl d_M_getBits_32 ?_
      refine lv_if_ne (tgt := 41) hx hb d_M_getBits_35 (by decide) (fun c_3 => ?_) (fun c_3 => ?_)
      · refine lv_aload_n hx hb d_M_getBits_41 rfl (lv_at hl 0 rfl) ?_
        refine va_get (D := (dC, dI)) (ci := 9) (v := .int fBad) (C := "RangeCodersModel") (T := T_M) (N := 35) hx hb hg in_M hown hK hP 0 rfl rfl 22 (by decide) (hg _ k974) (fun _ h9 => h9) rfl d_M_getBits_42 ?_
        refine lv_if_eq (tgt := 51) hx hb d_M_getBits_45 (by decide) (fun c_4 => ?_) (fun c_4 => ?_)
        · obtain ⟨RR, L, CD, q, rfl, rfl, rfl, rfl, hp, hC, hq⟩ := hRD c_3 c_4
          have hPD : my_PD (dC, dI) vwCl A [(o, Sum.inr (9, mO g 1 fShift fModels fItems fEnded fLow fRange fCache fPend fGoes fOuts (nI is.length) fReads fBad fIR (nI q) fBAsk (lN CD) (lN L) (lN RR) fX fWrites 0)), ((g 8), Sum.inl (cI, 6000, Sum.inl vIn))] H := ⟨hP, hD⟩
          have hP := hPD.1
          have hD := hPD.2
          refine lv_aload_n hx hb d_M_getBits_51 rfl (lv_at hl 0 rfl) ?_
          refine lv_iload_n hx hb d_M_getBits_52 rfl (lv_at hl 1 rfl) ?_
          refine my_ci (wr := []) (va_runV (As := [Value.int (nI bb)]) (rest := []) ⟨hx, hb, hml, hown, hts⟩ (c_M_valueOf1 l dC dI cI cM cO H.size o g fShift fModels fItems fEnded fLow fRange fCache fPend fGoes fOuts fReads fBad fIR fBAsk fX fWrites 0 vIn bb RR L CD is q (hb1) (hb2) (hIn) (hlen) (hoct) (by omega) (hp) (hC)) (cwV 1 hts (my_gV k1260 k1262 ks59 k12 k1263) rfl rfl rfl (by decide +kernel) ⟨by rw [hR]; exact Nat.le_of_ble_eq_true rfl, by rw [hR]; exact Nat.le_of_ble_eq_true rfl⟩) (my_preV hK hN (hP.sub [0, 1] rfl) (hD.sub [0, 1] (by decide +kernel) rfl) 0 rfl rfl) rfl rfl hl.1 rfl (lv_room (Nat.le_of_ble_eq_true rfl)) d_M_getBits_53 ⟨by rw [hR]; exact Nat.le_of_ble_eq_true rfl, by rw [hR]; exact Nat.le_of_ble_eq_true rfl⟩) hP hD hS hA [0, 1] [] rfl rfl (by decide +kernel) (by decide +kernel) (fun r_53 u9 H locs hw_53 hP hD hS => ?_)
          have hw_53 : r_53 = oI (gv1 is bb (RR, L, CD, q)).1 := hw_53
          have hPD : my_PD (dC, dI) vwCl A [(o, Sum.inr (9, mO g 1 fShift fModels fItems fEnded fLow fRange fCache fPend fGoes fOuts (nI is.length) fReads fBad fIR (nI (gv1 is bb (RR, L, CD, q)).2.2.2.2) fBAsk (lN (gv1 is bb (RR, L, CD, q)).2.2.2.1) (lN (gv1 is bb (RR, L, CD, q)).2.2.1) (lN (gv1 is bb (RR, L, CD, q)).2.1) fX fWrites 0)), ((g 8), Sum.inl (cI, 6000, Sum.inl vIn))] H := ⟨hP, hD⟩
          have hP := hPD.1
          have hD := hPD.2
          refine lv_istore_n (lv' := [(2, Value.int r_53), (0, Value.ref o), (1, Value.int (nI bb))]) hx hb d_M_getBits_56 rfl hl (by decide) rfl (fun ls hl => ?_)
          have hg9 := gv1_ok (b := bb) (q := q) hoct hp hC
          refine lv_iload_n hx hb d_M_getBits_57 rfl (lv_at hl 0 rfl) ?_
          refine lv_if_ge (tgt := 66) hx hb d_M_getBits_58 (by decide) (fun c_5 => ?_) (fun c_5 => ?_)
          · refine lv_aload_n hx hb d_M_getBits_66 rfl (lv_at hl 1 rfl) ?_
            refine lv_dup hx hb d_M_getBits_67 rfl ?_
            refine va_get (D := (dC, dI)) (ci := 9) (v := .int fIR) (C := "RangeCodersModel") (T := T_M) (N := 35) hx hb hg in_M hown hK hP 0 rfl rfl 23 (by decide) (hg _ k975) (fun _ h9 => h9) rfl d_M_getBits_68 ?_
            refine lv_iconst (v := 1) hx hb d_M_getBits_71 (by decide) ?_
            refine lv_iadd hx hb d_M_getBits_72 ?_
            refine lv_topi (fun v_6 ev_6 => ?_)
            refine va_put (D := (dC, dI)) (ci := 9) (v := .int v_6) (ty := .int) (C := "RangeCodersModel") (T := T_M) (N := 35) hx hb hg in_M t_M o_M n_M hown hK hP hD hS 0 rfl rfl 23 (by decide) (hg _ k975) (fun _ h9 => h9) rfl (by decide +kernel) rfl rfl (Nat.le_of_ble_eq_true rfl) d_M_getBits_73 (fun H locs hP hD hS => ?_)
            have hPD : my_PD (dC, dI) vwCl A [(o, Sum.inr (9, mO g 1 fShift fModels fItems fEnded fLow fRange fCache fPend fGoes fOuts (nI is.length) fReads fBad v_6 (nI (gv1 is bb (RR, L, CD, q)).2.2.2.2) fBAsk (lN (gv1 is bb (RR, L, CD, q)).2.2.2.1) (lN (gv1 is bb (RR, L, CD, q)).2.2.1) (lN (gv1 is bb (RR, L, CD, q)).2.1) fX fWrites 0)), ((g 8), Sum.inl (cI, 6000, Sum.inl vIn))] H := ⟨hP, hD⟩
            have hP := hPD.1
            have hD := hPD.2
            refine lv_iload_n hx hb d_M_getBits_76 rfl (lv_at hl 0 rfl) ?_
            exact my_iret (v := r_53) hx hb hr (rfl) hlocks hQ hK hS (Nat.le_refl _) (Nat.le_refl _) (fBad, v_6, nI (gv1 is bb (RR, L, CD, q)).2.2.2.2, lN (gv1 is bb (RR, L, CD, q)).2.2.2.1, lN (gv1 is bb (RR, L, CD, q)).2.2.1, lN (gv1 is bb (RR, L, CD, q)).2.1, (0 : Int32)) (fun _ _ => ⟨_, _, _, _, rfl, rfl, rfl, rfl, hg9.1, hg9.2.1, by omega⟩) (hP.sub [0, 1] rfl) (hD.sub [0, 1] (by decide +kernel) rfl) d_M_getBits_77
          · refine lv_aload_n hx hb d_M_getBits_61 rfl (lv_at hl 1 rfl) ?_
            refine my_ci (wr := [((g 8), Sum.inl (cI, 6000, Sum.inl vIn))]) (va_runV (As := []) (rest := []) ⟨hx, hb, hml, hown, hts⟩ (c_M_spoiled l dC dI cI cM cO H.size o g 1 fShift fModels fItems fEnded fLow fRange fCache fPend fGoes fOuts (nI is.length) fReads fBad fIR (nI (gv1 is bb (RR, L, CD, q)).2.2.2.2) fBAsk (lN (gv1 is bb (RR, L, CD, q)).2.2.2.1) (lN (gv1 is bb (RR, L, CD, q)).2.2.1) (lN (gv1 is bb (RR, L, CD, q)).2.1) fX fWrites 0) (cwV 0 hts (my_gV k1252 k1254 ks58 k12 k1255) rfl rfl rfl (by decide +kernel) ⟨by rw [hR]; exact Nat.le_of_ble_eq_true rfl, by rw [hR]; exact Nat.le_of_ble_eq_true rfl⟩) (my_preV hK hN (hP.sub [0] rfl) (hD.sub [0] (by decide +kernel) rfl) 0 rfl rfl) rfl rfl hl.1 rfl (lv_room (Nat.le_of_ble_eq_true rfl)) d_M_getBits_62 ⟨by rw [hR]; exact Nat.le_of_ble_eq_true rfl, by rw [hR]; exact Nat.le_of_ble_eq_true rfl⟩) hP hD hS hA [0] [1] rfl rfl (by decide +kernel) (by decide +kernel) (fun r_62 u9 H locs hw_62 hP hD hS => ?_)
            have hw_62 : r_62 = -5 := hw_62
            have hPD : my_PD (dC, dI) vwCl A [((g 8), Sum.inl (cI, 6000, Sum.inl vIn)), (o, Sum.inr (9, mO g 1 fShift fModels fItems fEnded fLow fRange fCache fPend fGoes fOuts (nI is.length) fReads 1 fIR (nI (gv1 is bb (RR, L, CD, q)).2.2.2.2) fBAsk (lN (gv1 is bb (RR, L, CD, q)).2.2.2.1) (lN (gv1 is bb (RR, L, CD, q)).2.2.1) (lN (gv1 is bb (RR, L, CD, q)).2.1) fX fWrites 0))] H := ⟨hP, hD⟩
            have hP := hPD.1
            have hD := hPD.2
            exact my_iret (v := r_62) hx hb hr (rfl) hlocks hQ hK hS (Nat.le_refl _) (Nat.le_refl _) ((1 : Int32), fIR, (nI (gv1 is bb (RR, L, CD, q)).2.2.2.2), (lN (gv1 is bb (RR, L, CD, q)).2.2.2.1), (lN (gv1 is bb (RR, L, CD, q)).2.2.1), (lN (gv1 is bb (RR, L, CD, q)).2.1), (0 : Int32)) (fun z1 z2 => absurd z2 (show ¬ (1 : Int32) = 0 by decide)) (hP.sub [1, 0] rfl) (hD.sub [1, 0] (by decide +kernel) rfl) d_M_getBits_65
        · refine lv_bipush (v := (-5)) hx hb d_M_getBits_48 (by decide) ?_
          exact my_iret (v := (-5)) hx hb hr (rfl) hlocks hQ hK hS (Nat.le_refl _) (Nat.le_refl _) (fBad, fIR, fAsk, fCode, fRL, fRR, (0 : Int32)) (fun z1 z2 => absurd z2 c_4) (hP.sub [0, 1] rfl) (hD.sub [0, 1] (by decide +kernel) rfl) d_M_getBits_50
      · refine lv_bipush (v := (-3)) hx hb d_M_getBits_38 (by decide) ?_
        exact my_iret (v := (-3)) hx hb hr (rfl) hlocks hQ hK hS (Nat.le_refl _) (Nat.le_refl _) (fBad, fIR, fAsk, fCode, fRL, fRR, (0 : Int32)) (fun z1 z2 => absurd c_3 z1) (hP.sub [0, 1] rfl) (hD.sub [0, 1] (by decide +kernel) rfl) d_M_getBits_40
    · refine lv_bipush (v := (-2)) hx hb d_M_getBits_28 (by decide) ?_
      exact my_iret (v := (-2)) hx hb hr (rfl) hlocks hQ hK hS (Nat.le_refl _) (Nat.le_refl _) (fBad, fIR, fAsk, fCode, fRL, fRR, (0 : Int32)) (fun z1 z2 => RD1_up (hRD z1 z2)) (hP.sub [0, 1] rfl) (hD.sub [0, 1] (by decide +kernel) rfl) d_M_getBits_30
  · exact absurd c_1 (by decide)
set_option maxHeartbeats 2000000 in
set_option maxRecDepth 100000 in
theorem c_M_getBits2 (l : Launch) (dC : Nat → ClassId) (dI : Nat → Nat → Nat) (cI cM cO : ClassId) (sz : Nat) (o : Nat) (g : Nat → Nat) (fForm : Int32) (fShift : Int32) (fModels : Int32) (fItems : Int32) (fEnded : Int32) (fLow : Int64) (fRange : Int64) (fCache : Int32) (fPend : Int32) (fGoes : Int32) (fOuts : Int32) (fIns : Int32) (fReads : Int32) (fBad : Int32) (fIR : Int32) (fAsk : Int32) (fBAsk : Int32) (fCode : Int64) (fRL : Int64) (fRR : Int64) (fX : Int64) (fWrites : Int32) (fThrown : Int32) (vIn : Nat → Int32) (cn : Nat) (p1 : Int32) (hfo : fForm = 2) (hIN : IN fIns vIn) (hcn : cn ≤ 1000) (hRD : ¬ fReads = 0 → fBad = 0 → RD2 cn fAsk fCode fRR) : MetI l y_M_getBits (Cond.code y_M_getBits prog_14_method_57_code 3 (some .int) :: gw) ({ frames := 4, cells := 0, slots := 0, locals := 89 } : Room) (dC, dI) vwCl (kT cI cM cO) [Value.ref o, Value.int p1] [(o, Sum.inr (9, mO g fForm fShift fModels fItems fEnded fLow fRange fCache fPend fGoes fOuts fIns fReads fBad fIR fAsk fBAsk fCode fRL fRR fX fWrites fThrown)), ((g 8), Sum.inl (cI, 6000, Sum.inl vIn))] sz (fun (r : Int32) (u : Int32 × Int32 × Int32 × Int64 × Int64 × Int32) => ¬ fReads = 0 → u.1 = 0 → RD2 (cn + 1) u.2.2.1 u.2.2.2.1 u.2.2.2.2.1) (fun (u : Int32 × Int32 × Int32 × Int64 × Int64 × Int32) => [(o, Sum.inr (9, mO g fForm fShift fModels fItems fEnded fLow fRange fCache fPend fGoes fOuts fIns fReads u.1 u.2.1 u.2.2.1 fBAsk u.2.2.2.1 fRL u.2.2.2.2.1 fX fWrites u.2.2.2.2.2)), ((g 8), Sum.inl (cI, 6000, Sum.inl vIn))]) 0 0 := by
  refine my_ofI (cc := prog_14_method_57_code) (n := 3) (ret := (some .int)) (by decide) rfl (Nat.le_of_ble_eq_true rfl) ?_
  intro p e s m args below meth c R Q A ls H locs hx hb hr hts hown hlocks hml hnm hR hQ hA hl hP hK hN hD hS
  have hg : ∀ w ∈ gw, w.before args s = true := fun w h => hts w (List.mem_cons_of_mem _ h)
  have hown : s.vm.findClass "RangeCodersModel" = some m.cls := hown
  have hl : lv_has ls 3 [(0, Value.ref o), (1, Value.int p1)] := hl
  subst hfo
  obtain ⟨is, rfl, hIn, hlen, hoct⟩ := hIN
  have hPD : my_PD (dC, dI) vwCl A [(o, Sum.inr (9, mO g 2 fShift fModels fItems fEnded fLow fRange fCache fPend fGoes fOuts (nI is.length) fReads fBad fIR fAsk fBAsk fCode fRL fRR fX fWrites fThrown)), ((g 8), Sum.inl (cI, 6000, Sum.inl vIn))] H := ⟨hP, hD⟩
  have hP := hPD.1
  have hD := hPD.2
  have hl : lv_has ls 3 [(0, Value.ref o), (1, Value.int p1)] := hl
  refine lv_aload_n hx hb d_M_getBits_0 rfl (lv_at hl 0 rfl) ?_
  refine lv_iconst (v := 0) hx hb d_M_getBits_1 (by decide) ?_
  refine va_put (D := (dC, dI)) (ci := 9) (v := .int 0) (ty := .int) (C := "RangeCodersModel") (T := T_M) (N := 35) hx hb hg in_M t_M o_M n_M hown hK hP hD hS 0 rfl rfl 34 (by decide) (hg _ k986) (fun _ h9 => h9) rfl (by decide +kernel) rfl rfl (Nat.le_of_ble_eq_true rfl) d_M_getBits_2 (fun H locs hP hD hS => ?_)
  have hPD : my_PD (dC, dI) vwCl A [(o, Sum.inr (9, mO g 2 fShift fModels fItems fEnded fLow fRange fCache fPend fGoes fOuts (nI is.length) fReads fBad fIR fAsk fBAsk fCode fRL fRR fX fWrites 0)), ((g 8), Sum.inl (cI, 6000, Sum.inl vIn))] H := ⟨hP, hD⟩
  have hP := hPD.1
  have hD := hPD.2
  refine lv_iload_n hx hb d_M_getBits_5 rfl (lv_at hl 1 rfl) ?_
  refine lv_iconst (v := 1) hx hb d_M_getBits_6 (by decide) ?_
  refine lv_aload_n hx hb d_M_getBits_7 rfl (lv_at hl 0 rfl) ?_
  refine va_get (D := (dC, dI)) (ci := 9) (v := .int 2) (C := "RangeCodersModel") (T := T_M) (N := 35) hx hb hg in_M hown hK hP 0 rfl rfl 0 (by decide) (hg _ k952) (fun _ h9 => h9) rfl d_M_getBits_8 ?_
  refine lv_iconst (v := 4) hx hb d_M_getBits_11 (by decide) ?_
  refine lv_icmp_ne (tgt := 20) hx hb d_M_getBits_12 (by decide) (fun c_1 => ?_) (fun c_1 => ?_)
  · refine lv_bipush (v := 12) hx hb d_M_getBits_20 (by decide) ?_
    refine my_ci (wr := [(o, Sum.inr (9, mO g 2 fShift fModels fItems fEnded fLow fRange fCache fPend fGoes fOuts (nI is.length) fReads fBad fIR fAsk fBAsk fCode fRL fRR fX fWrites 0)), ((g 8), Sum.inl (cI, 6000, Sum.inl vIn))]) (va_runS (As := [Value.int p1, Value.int 1, Value.int 12]) (rest := []) ⟨hx, hb, hml, hown, hts⟩ (c_M_in l dC dI cI cM cO H.size p1 1 12) (cwS 3 hts (my_gS k1062 k1063 k12 k1064) rfl rfl rfl (by decide +kernel) ⟨by rw [hR]; exact Nat.le_of_ble_eq_true rfl, by rw [hR]; exact Nat.le_of_ble_eq_true rfl⟩) (my_pre hK hN (hP.sub [] rfl) (hD.sub [] (by decide +kernel) rfl)) rfl rfl hl.1 rfl (lv_room (Nat.le_of_ble_eq_true rfl)) d_M_getBits_22 ⟨by rw [hR]; exact Nat.le_of_ble_eq_true rfl, by rw [hR]; exact Nat.le_of_ble_eq_true rfl⟩) hP hD hS hA [] [0, 1] rfl rfl (by decide +kernel) (by decide +kernel) (fun r_22 u9 H locs hw_22 hP hD hS => ?_)
    have hw_22 : r_22 = if 1 ≤ p1 ∧ p1 ≤ 12 then 1 else 0 := hw_22
    have hPD : my_PD (dC, dI) vwCl A [(o, Sum.inr (9, mO g 2 fShift fModels fItems fEnded fLow fRange fCache fPend fGoes fOuts (nI is.length) fReads fBad fIR fAsk fBAsk fCode fRL fRR fX fWrites 0)), ((g 8), Sum.inl (cI, 6000, Sum.inl vIn))] H := ⟨hP, hD⟩
    have hP := hPD.1
    have hD := hPD.2
    refine lv_if_ne (tgt := 31) hx hb d_M_getBits_25 (by decide) (fun c_2 => ?_) (fun c_2 => ?_)
    · obtain ⟨bb, hb1, hb2, eb⟩ := in_of2 (a := 1) (b := 12) (by decide) (by decide) (one_ne hw_22 c_2)
      subst eb
      refine lv_aload_n hx hb d_M_getBits_31 rfl (lv_at hl 0 rfl) ?_
      refine va_get (D := (dC, dI)) (ci := 9) (v := .int fReads) (C := "RangeCodersModel") (T := T_M) (N := 35) hx hb hg in_M hown hK hP 0 rfl rfl 21 (by decide) (hg _ k973) (fun _ h9 => h9) rfl d_M_getBits_32 ?_
      refine lv_if_ne (tgt := 41) hx hb d_M_getBits_35 (by decide) (fun c_3 => ?_) (fun c_3 => ?_)
      · refine lv_aload_n hx hb d_M_getBits_41 rfl (lv_at hl 0 rfl) ?_
        refine va_get (D := (dC, dI)) (ci := 9) (v := .int fBad) (C := "RangeCodersModel") (T := T_M) (N := 35) hx hb hg in_M hown hK hP 0 rfl rfl 22 (by decide) (hg _ k974) (fun _ h9 => h9) rfl d_M_getBits_42 ?_
        refine lv_if_eq (tgt := 51) hx hb d_M_getBits_45 (by decide) (fun c_4 => ?_) (fun c_4 => ?_)
        · obtain ⟨RR, CD, q, rfl, rfl, rfl, hI2, hq⟩ := hRD c_3 c_4
          have hPD : my_PD (dC, dI) vwCl A [(o, Sum.inr (9, mO g 2 fShift fModels fItems fEnded fLow fRange fCache fPend fGoes fOuts (nI is.length) fReads fBad fIR (nI q) fBAsk (lN CD) fRL (lN RR) fX fWrites 0)), ((g 8), Sum.inl (cI, 6000, Sum.inl vIn))] H := ⟨hP, hD⟩
          have hP := hPD.1
          have hD := hPD.2
          refine lv_aload_n hx hb d_M_getBits_51 rfl (lv_at hl 0 rfl) ?_
          refine lv_iload_n hx hb d_M_getBits_52 rfl (lv_at hl 1 rfl) ?_
          refine my_ci (wr := []) (va_runV (As := [Value.int (nI bb)]) (rest := []) ⟨hx, hb, hml, hown, hts⟩ (c_M_valueOf2 l dC dI cI cM cO H.size o g fShift fModels fItems fEnded fLow fRange fCache fPend fGoes fOuts fReads fBad fIR fBAsk fRL fX fWrites 0 vIn bb RR CD is q (hIn) (hlen) (hoct) (by omega) (hb2) (hI2)) (cwV 1 hts (my_gV k1260 k1262 ks59 k12 k1263) rfl rfl rfl (by decide +kernel) ⟨by rw [hR]; exact Nat.le_of_ble_eq_true rfl, by rw [hR]; exact Nat.le_of_ble_eq_true rfl⟩) (my_preV hK hN (hP.sub [0, 1] rfl) (hD.sub [0, 1] (by decide +kernel) rfl) 0 rfl rfl) rfl rfl hl.1 rfl (lv_room (Nat.le_of_ble_eq_true rfl)) d_M_getBits_53 ⟨by rw [hR]; exact Nat.le_of_ble_eq_true rfl, by rw [hR]; exact Nat.le_of_ble_eq_true rfl⟩) hP hD hS hA [0, 1] [] rfl rfl (by decide +kernel) (by decide +kernel) (fun r_53 u9 H locs hw_53 hP hD hS => ?_)
          have hw_53 : r_53 = oI (pbS is bb (RR, CD, q)).1 := hw_53
          have hPD : my_PD (dC, dI) vwCl A [(o, Sum.inr (9, mO g 2 fShift fModels fItems fEnded fLow fRange fCache fPend fGoes fOuts (nI is.length) fReads fBad fIR (nI (pbS is bb (RR, CD, q)).2.2.2) fBAsk (lN (pbS is bb (RR, CD, q)).2.2.1) fRL (lN (pbS is bb (RR, CD, q)).2.1) fX fWrites 0)), ((g 8), Sum.inl (cI, 6000, Sum.inl vIn))] H := ⟨hP, hD⟩
          have hP := hPD.1
          have hD := hPD.2
          refine lv_istore_n (lv' := [(2, Value.int r_53), (0, Value.ref o), (1, Value.int (nI bb))]) hx hb d_M_getBits_56 rfl hl (by decide) rfl (fun ls hl => ?_)
          refine lv_iload_n hx hb d_M_getBits_57 rfl (lv_at hl 0 rfl) ?_
          refine lv_if_ge (tgt := 66) hx hb d_M_getBits_58 (by decide) (fun c_5 => ?_) (fun c_5 => ?_)
          · have hg9 := pb_ok hoct (b := bb) (r := (RR, CD, q)) hI2 (fun z9 => by rw [z9] at hw_53; rw [hw_53] at c_5; exact absurd c_5 (by decide))
            have hg8 : (pbS is bb (RR, CD, q)).2.2.2 ≤ q + 3 * bb := hg9.2
            refine lv_aload_n hx hb d_M_getBits_66 rfl (lv_at hl 1 rfl) ?_
            refine lv_dup hx hb d_M_getBits_67 rfl ?_
            refine va_get (D := (dC, dI)) (ci := 9) (v := .int fIR) (C := "RangeCodersModel") (T := T_M) (N := 35) hx hb hg in_M hown hK hP 0 rfl rfl 23 (by decide) (hg _ k975) (fun _ h9 => h9) rfl d_M_getBits_68 ?_
            refine lv_iconst (v := 1) hx hb d_M_getBits_71 (by decide) ?_
            refine lv_iadd hx hb d_M_getBits_72 ?_
            refine lv_topi (fun v_6 ev_6 => ?_)
            refine va_put (D := (dC, dI)) (ci := 9) (v := .int v_6) (ty := .int) (C := "RangeCodersModel") (T := T_M) (N := 35) hx hb hg in_M t_M o_M n_M hown hK hP hD hS 0 rfl rfl 23 (by decide) (hg _ k975) (fun _ h9 => h9) rfl (by decide +kernel) rfl rfl (Nat.le_of_ble_eq_true rfl) d_M_getBits_73 (fun H locs hP hD hS => ?_)
            have hPD : my_PD (dC, dI) vwCl A [(o, Sum.inr (9, mO g 2 fShift fModels fItems fEnded fLow fRange fCache fPend fGoes fOuts (nI is.length) fReads fBad v_6 (nI (pbS is bb (RR, CD, q)).2.2.2) fBAsk (lN (pbS is bb (RR, CD, q)).2.2.1) fRL (lN (pbS is bb (RR, CD, q)).2.1) fX fWrites 0)), ((g 8), Sum.inl (cI, 6000, Sum.inl vIn))] H := ⟨hP, hD⟩
            have hP := hPD.1
            have hD := hPD.2
            refine lv_iload_n hx hb d_M_getBits_76 rfl (lv_at hl 0 rfl) ?_
            exact my_iret (v := r_53) hx hb hr (rfl) hlocks hQ hK hS (Nat.le_refl _) (Nat.le_refl _) (fBad, v_6, nI (pbS is bb (RR, CD, q)).2.2.2, lN (pbS is bb (RR, CD, q)).2.2.1, lN (pbS is bb (RR, CD, q)).2.1, (0 : Int32)) (fun _ _ => ⟨_, _, _, rfl, rfl, rfl, hg9.1, by omega⟩) (hP.sub [0, 1] rfl) (hD.sub [0, 1] (by decide +kernel) rfl) d_M_getBits_77
          · refine lv_aload_n hx hb d_M_getBits_61 rfl (lv_at hl 1 rfl) ?_
            refine my_ci (wr := [((g 8), Sum.inl (cI, 6000, Sum.inl vIn))]) (va_runV (As := []) (rest := []) ⟨hx, hb, hml, hown, hts⟩ (c_M_spoiled l dC dI cI cM cO H.size o g 2 fShift fModels fItems fEnded fLow fRange fCache fPend fGoes fOuts (nI is.length) fReads fBad fIR (nI (pbS is bb (RR, CD, q)).2.2.2) fBAsk (lN (pbS is bb (RR, CD, q)).2.2.1) fRL (lN (pbS is bb (RR, CD, q)).2.1) fX fWrites 0) (cwV 0 hts (my_gV k1252 k1254 ks58 k12 k1255) rfl rfl rfl (by decide +kernel) ⟨by rw [hR]; exact Nat.le_of_ble_eq_true rfl, by rw [hR]; exact Nat.le_of_ble_eq_true rfl⟩) (my_preV hK hN (hP.sub [0] rfl) (hD.sub [0] (by decide +kernel) rfl) 0 rfl rfl) rfl rfl hl.1 rfl (lv_room (Nat.le_of_ble_eq_true rfl)) d_M_getBits_62 ⟨by rw [hR]; exact Nat.le_of_ble_eq_true rfl, by rw [hR]; exact Nat.le_of_ble_eq_true rfl⟩) hP hD hS hA [0] [1] rfl rfl (by decide +kernel) (by decide +kernel) (fun r_62 u9 H locs hw_62 hP hD hS => ?_)
            have hw_62 : r_62 = -5 := hw_62
            have hPD : my_PD (dC, dI) vwCl A [((g 8), Sum.inl (cI, 6000, Sum.inl vIn)), (o, Sum.inr (9, mO g 2 fShift fModels fItems fEnded fLow fRange fCache fPend fGoes fOuts (nI is.length) fReads 1 fIR (nI (pbS is bb (RR, CD, q)).2.2.2) fBAsk (lN (pbS is bb (RR, CD, q)).2.2.1) fRL (lN (pbS is bb (RR, CD, q)).2.1) fX fWrites 0))] H := ⟨hP, hD⟩
            have hP := hPD.1
            have hD := hPD.2
            exact my_iret (v := r_62) hx hb hr (rfl) hlocks hQ hK hS (Nat.le_refl _) (Nat.le_refl _) ((1 : Int32), fIR, (nI (pbS is bb (RR, CD, q)).2.2.2), (lN (pbS is bb (RR, CD, q)).2.2.1), (lN (pbS is bb (RR, CD, q)).2.1), (0 : Int32)) (fun z1 z2 => absurd z2 (show ¬ (1 : Int32) = 0 by decide)) (hP.sub [1, 0] rfl) (hD.sub [1, 0] (by decide +kernel) rfl) d_M_getBits_65
        · refine lv_bipush (v := (-5)) hx hb d_M_getBits_48 (by decide) ?_
          exact my_iret (v := (-5)) hx hb hr (rfl) hlocks hQ hK hS (Nat.le_refl _) (Nat.le_refl _) (fBad, fIR, fAsk, fCode, fRR, (0 : Int32)) (fun z1 z2 => absurd z2 c_4) (hP.sub [0, 1] rfl) (hD.sub [0, 1] (by decide +kernel) rfl) d_M_getBits_50
      · refine lv_bipush (v := (-3)) hx hb d_M_getBits_38 (by decide) ?_
        exact my_iret (v := (-3)) hx hb hr (rfl) hlocks hQ hK hS (Nat.le_refl _) (Nat.le_refl _) (fBad, fIR, fAsk, fCode, fRR, (0 : Int32)) (fun z1 z2 => absurd c_3 z1) (hP.sub [0, 1] rfl) (hD.sub [0, 1] (by decide +kernel) rfl) d_M_getBits_40
    · refine lv_bipush (v := (-2)) hx hb d_M_getBits_28 (by decide) ?_
      exact my_iret (v := (-2)) hx hb hr (rfl) hlocks hQ hK hS (Nat.le_refl _) (Nat.le_refl _) (fBad, fIR, fAsk, fCode, fRR, (0 : Int32)) (fun z1 z2 => RD2_up (hRD z1 z2)) (hP.sub [0, 1] rfl) (hD.sub [0, 1] (by decide +kernel) rfl) d_M_getBits_30
  · exact absurd c_1 (by decide)
set_option maxHeartbeats 2000000 in
set_option maxRecDepth 100000 in
theorem c_M_getBits3 (l : Launch) (dC : Nat → ClassId) (dI : Nat → Nat → Nat) (cI cM cO : ClassId) (sz : Nat) (o : Nat) (g : Nat → Nat) (fForm : Int32) (fShift : Int32) (fModels : Int32) (fItems : Int32) (fEnded : Int32) (fLow : Int64) (fRange : Int64) (fCache : Int32) (fPend : Int32) (fGoes : Int32) (fOuts : Int32) (fIns : Int32) (fReads : Int32) (fBad : Int32) (fIR : Int32) (fAsk : Int32) (fBAsk : Int32) (fCode : Int64) (fRL : Int64) (fRR : Int64) (fX : Int64) (fWrites : Int32) (fThrown : Int32) (vIn : Nat → Int32) (cn : Nat) (p1 : Int32) (hfo : fForm = 3) (hIN : IN fIns vIn) (hcn : cn ≤ 1000) (hRD : ¬ fReads = 0 → fBad = 0 → RD3 cn fAsk fX) : MetI l y_M_getBits (Cond.code y_M_getBits prog_14_method_57_code 3 (some .int) :: gw) ({ frames := 3, cells := 0, slots := 0, locals := 65 } : Room) (dC, dI) vwCl (kT cI cM cO) [Value.ref o, Value.int p1] [(o, Sum.inr (9, mO g fForm fShift fModels fItems fEnded fLow fRange fCache fPend fGoes fOuts fIns fReads fBad fIR fAsk fBAsk fCode fRL fRR fX fWrites fThrown)), ((g 8), Sum.inl (cI, 6000, Sum.inl vIn))] sz (fun (r : Int32) (u : Int32 × Int32 × Int32 × Int64 × Int32) => ¬ fReads = 0 → u.1 = 0 → RD3 (cn + 1) u.2.2.1 u.2.2.2.1) (fun (u : Int32 × Int32 × Int32 × Int64 × Int32) => [(o, Sum.inr (9, mO g fForm fShift fModels fItems fEnded fLow fRange fCache fPend fGoes fOuts fIns fReads u.1 u.2.1 u.2.2.1 fBAsk fCode fRL fRR u.2.2.2.1 fWrites u.2.2.2.2)), ((g 8), Sum.inl (cI, 6000, Sum.inl vIn))]) 0 0 := by
  refine my_ofI (cc := prog_14_method_57_code) (n := 3) (ret := (some .int)) (by decide) rfl (Nat.le_of_ble_eq_true rfl) ?_
  intro p e s m args below meth c R Q A ls H locs hx hb hr hts hown hlocks hml hnm hR hQ hA hl hP hK hN hD hS
  have hg : ∀ w ∈ gw, w.before args s = true := fun w h => hts w (List.mem_cons_of_mem _ h)
  have hown : s.vm.findClass "RangeCodersModel" = some m.cls := hown
  have hl : lv_has ls 3 [(0, Value.ref o), (1, Value.int p1)] := hl
  subst hfo
  obtain ⟨is, rfl, hIn, hlen, hoct⟩ := hIN
  have hPD : my_PD (dC, dI) vwCl A [(o, Sum.inr (9, mO g 3 fShift fModels fItems fEnded fLow fRange fCache fPend fGoes fOuts (nI is.length) fReads fBad fIR fAsk fBAsk fCode fRL fRR fX fWrites fThrown)), ((g 8), Sum.inl (cI, 6000, Sum.inl vIn))] H := ⟨hP, hD⟩
  have hP := hPD.1
  have hD := hPD.2
  have hl : lv_has ls 3 [(0, Value.ref o), (1, Value.int p1)] := hl
  refine lv_aload_n hx hb d_M_getBits_0 rfl (lv_at hl 0 rfl) ?_
  refine lv_iconst (v := 0) hx hb d_M_getBits_1 (by decide) ?_
  refine va_put (D := (dC, dI)) (ci := 9) (v := .int 0) (ty := .int) (C := "RangeCodersModel") (T := T_M) (N := 35) hx hb hg in_M t_M o_M n_M hown hK hP hD hS 0 rfl rfl 34 (by decide) (hg _ k986) (fun _ h9 => h9) rfl (by decide +kernel) rfl rfl (Nat.le_of_ble_eq_true rfl) d_M_getBits_2 (fun H locs hP hD hS => ?_)
  have hPD : my_PD (dC, dI) vwCl A [(o, Sum.inr (9, mO g 3 fShift fModels fItems fEnded fLow fRange fCache fPend fGoes fOuts (nI is.length) fReads fBad fIR fAsk fBAsk fCode fRL fRR fX fWrites 0)), ((g 8), Sum.inl (cI, 6000, Sum.inl vIn))] H := ⟨hP, hD⟩
  have hP := hPD.1
  have hD := hPD.2
  refine lv_iload_n hx hb d_M_getBits_5 rfl (lv_at hl 1 rfl) ?_
  refine lv_iconst (v := 1) hx hb d_M_getBits_6 (by decide) ?_
  refine lv_aload_n hx hb d_M_getBits_7 rfl (lv_at hl 0 rfl) ?_
  refine va_get (D := (dC, dI)) (ci := 9) (v := .int 3) (C := "RangeCodersModel") (T := T_M) (N := 35) hx hb hg in_M hown hK hP 0 rfl rfl 0 (by decide) (hg _ k952) (fun _ h9 => h9) rfl d_M_getBits_8 ?_
  refine lv_iconst (v := 4) hx hb d_M_getBits_11 (by decide) ?_
  refine lv_icmp_ne (tgt := 20) hx hb d_M_getBits_12 (by decide) (fun c_1 => ?_) (fun c_1 => ?_)
  · refine lv_bipush (v := 12) hx hb d_M_getBits_20 (by decide) ?_
    refine my_ci (wr := [(o, Sum.inr (9, mO g 3 fShift fModels fItems fEnded fLow fRange fCache fPend fGoes fOuts (nI is.length) fReads fBad fIR fAsk fBAsk fCode fRL fRR fX fWrites 0)), ((g 8), Sum.inl (cI, 6000, Sum.inl vIn))]) (va_runS (As := [Value.int p1, Value.int 1, Value.int 12]) (rest := []) ⟨hx, hb, hml, hown, hts⟩ (c_M_in l dC dI cI cM cO H.size p1 1 12) (cwS 3 hts (my_gS k1062 k1063 k12 k1064) rfl rfl rfl (by decide +kernel) ⟨by rw [hR]; exact Nat.le_of_ble_eq_true rfl, by rw [hR]; exact Nat.le_of_ble_eq_true rfl⟩) (my_pre hK hN (hP.sub [] rfl) (hD.sub [] (by decide +kernel) rfl)) rfl rfl hl.1 rfl (lv_room (Nat.le_of_ble_eq_true rfl)) d_M_getBits_22 ⟨by rw [hR]; exact Nat.le_of_ble_eq_true rfl, by rw [hR]; exact Nat.le_of_ble_eq_true rfl⟩) hP hD hS hA [] [0, 1] rfl rfl (by decide +kernel) (by decide +kernel) (fun r_22 u9 H locs hw_22 hP hD hS => ?_)
    have hw_22 : r_22 = if 1 ≤ p1 ∧ p1 ≤ 12 then 1 else 0 := hw_22
    have hPD : my_PD (dC, dI) vwCl A [(o, Sum.inr (9, mO g 3 fShift fModels fItems fEnded fLow fRange fCache fPend fGoes fOuts (nI is.length) fReads fBad fIR fAsk fBAsk fCode fRL fRR fX fWrites 0)), ((g 8), Sum.inl (cI, 6000, Sum.inl vIn))] H := ⟨hP, hD⟩
    have hP := hPD.1
    have hD := hPD.2
    refine lv_if_ne (tgt := 31) hx hb d_M_getBits_25 (by decide) (fun c_2 => ?_) (fun c_2 => ?_)
    · obtain ⟨bb, hb1, hb2, eb⟩ := in_of2 (a := 1) (b := 12) (by decide) (by decide) (one_ne hw_22 c_2)
      subst eb
      refine lv_aload_n hx hb d_M_getBits_31 rfl (lv_at hl 0 rfl) ?_
      refine va_get (D := (dC, dI)) (ci := 9) (v := .int fReads) (C := "RangeCodersModel") (T := T_M) (N := 35) hx hb hg in_M hown hK hP 0 rfl rfl 21 (by decide) (hg _ k973) (fun _ h9 => h9) rfl d_M_getBits_32 ?_
      refine lv_if_ne (tgt := 41) hx hb d_M_getBits_35 (by decide) (fun c_3 => ?_) (fun c_3 => ?_)
      · refine lv_aload_n hx hb d_M_getBits_41 rfl (lv_at hl 0 rfl) ?_
        refine va_get (D := (dC, dI)) (ci := 9) (v := .int fBad) (C := "RangeCodersModel") (T := T_M) (N := 35) hx hb hg in_M hown hK hP 0 rfl rfl 22 (by decide) (hg _ k974) (fun _ h9 => h9) rfl d_M_getBits_42 ?_
        refine lv_if_eq (tgt := 51) hx hb d_M_getBits_45 (by decide) (fun c_4 => ?_) (fun c_4 => ?_)
        · obtain ⟨X, q, rfl, rfl, hX0, hX1, hq⟩ := hRD c_3 c_4
          have hPD : my_PD (dC, dI) vwCl A [(o, Sum.inr (9, mO g 3 fShift fModels fItems fEnded fLow fRange fCache fPend fGoes fOuts (nI is.length) fReads fBad fIR (nI q) fBAsk fCode fRL fRR (lN X) fWrites 0)), ((g 8), Sum.inl (cI, 6000, Sum.inl vIn))] H := ⟨hP, hD⟩
          have hP := hPD.1
          have hD := hPD.2
          refine lv_aload_n hx hb d_M_getBits_51 rfl (lv_at hl 0 rfl) ?_
          refine lv_iload_n hx hb d_M_getBits_52 rfl (lv_at hl 1 rfl) ?_
          refine my_ci (wr := []) (va_runV (As := [Value.int (nI bb)]) (rest := []) ⟨hx, hb, hml, hown, hts⟩ (c_M_valueOf3 l dC dI cI cM cO H.size o g fShift fModels fItems fEnded fLow fRange fCache fPend fGoes fOuts fReads fBad fIR fBAsk fCode fRL fRR fWrites 0 vIn bb X is q (hb1) (hb2) (hIn) (hlen) (hoct) (by omega) (hX0) (hX1)) (cwV 1 hts (my_gV k1260 k1262 ks59 k12 k1263) rfl rfl rfl (by decide +kernel) ⟨by rw [hR]; exact Nat.le_of_ble_eq_true rfl, by rw [hR]; exact Nat.le_of_ble_eq_true rfl⟩) (my_preV hK hN (hP.sub [0, 1] rfl) (hD.sub [0, 1] (by decide +kernel) rfl) 0 rfl rfl) rfl rfl hl.1 rfl (lv_room (Nat.le_of_ble_eq_true rfl)) d_M_getBits_53 ⟨by rw [hR]; exact Nat.le_of_ble_eq_true rfl, by rw [hR]; exact Nat.le_of_ble_eq_true rfl⟩) hP hD hS hA [0, 1] [] rfl rfl (by decide +kernel) (by decide +kernel) (fun r_53 u9 H locs hw_53 hP hD hS => ?_)
          have hw_53 : r_53 = nI (X % 4096 / (4096 / 2 ^ bb)) := hw_53
          have hPD : my_PD (dC, dI) vwCl A [(o, Sum.inr (9, mO g 3 fShift fModels fItems fEnded fLow fRange fCache fPend fGoes fOuts (nI is.length) fReads fBad fIR (nI (gv3 is bb X q).2) fBAsk fCode fRL fRR (lN (gv3 is bb X q).1) fWrites 0)), ((g 8), Sum.inl (cI, 6000, Sum.inl vIn))] H := ⟨hP, hD⟩
          have hP := hPD.1
          have hD := hPD.2
          refine lv_istore_n (lv' := [(2, Value.int r_53), (0, Value.ref o), (1, Value.int (nI bb))]) hx hb d_M_getBits_56 rfl hl (by decide) rfl (fun ls hl => ?_)
          have hg9 := gv3_ok (b := bb) (q := q) hoct (by omega) hX0 hX1
          refine lv_iload_n hx hb d_M_getBits_57 rfl (lv_at hl 0 rfl) ?_
          refine lv_if_ge (tgt := 66) hx hb d_M_getBits_58 (by decide) (fun c_5 => ?_) (fun c_5 => ?_)
          · refine lv_aload_n hx hb d_M_getBits_66 rfl (lv_at hl 1 rfl) ?_
            refine lv_dup hx hb d_M_getBits_67 rfl ?_
            refine va_get (D := (dC, dI)) (ci := 9) (v := .int fIR) (C := "RangeCodersModel") (T := T_M) (N := 35) hx hb hg in_M hown hK hP 0 rfl rfl 23 (by decide) (hg _ k975) (fun _ h9 => h9) rfl d_M_getBits_68 ?_
            refine lv_iconst (v := 1) hx hb d_M_getBits_71 (by decide) ?_
            refine lv_iadd hx hb d_M_getBits_72 ?_
            refine lv_topi (fun v_6 ev_6 => ?_)
            refine va_put (D := (dC, dI)) (ci := 9) (v := .int v_6) (ty := .int) (C := "RangeCodersModel") (T := T_M) (N := 35) hx hb hg in_M t_M o_M n_M hown hK hP hD hS 0 rfl rfl 23 (by decide) (hg _ k975) (fun _ h9 => h9) rfl (by decide +kernel) rfl rfl (Nat.le_of_ble_eq_true rfl) d_M_getBits_73 (fun H locs hP hD hS => ?_)
            have hPD : my_PD (dC, dI) vwCl A [(o, Sum.inr (9, mO g 3 fShift fModels fItems fEnded fLow fRange fCache fPend fGoes fOuts (nI is.length) fReads fBad v_6 (nI (gv3 is bb X q).2) fBAsk fCode fRL fRR (lN (gv3 is bb X q).1) fWrites 0)), ((g 8), Sum.inl (cI, 6000, Sum.inl vIn))] H := ⟨hP, hD⟩
            have hP := hPD.1
            have hD := hPD.2
            refine lv_iload_n hx hb d_M_getBits_76 rfl (lv_at hl 0 rfl) ?_
            exact my_iret (v := r_53) hx hb hr (rfl) hlocks hQ hK hS (Nat.le_refl _) (Nat.le_refl _) (fBad, v_6, nI (gv3 is bb X q).2, lN (gv3 is bb X q).1, (0 : Int32)) (fun _ _ => ⟨_, _, rfl, rfl, hg9.1, hg9.2.1, by omega⟩) (hP.sub [0, 1] rfl) (hD.sub [0, 1] (by decide +kernel) rfl) d_M_getBits_77
          · refine lv_aload_n hx hb d_M_getBits_61 rfl (lv_at hl 1 rfl) ?_
            refine my_ci (wr := [((g 8), Sum.inl (cI, 6000, Sum.inl vIn))]) (va_runV (As := []) (rest := []) ⟨hx, hb, hml, hown, hts⟩ (c_M_spoiled l dC dI cI cM cO H.size o g 3 fShift fModels fItems fEnded fLow fRange fCache fPend fGoes fOuts (nI is.length) fReads fBad fIR (nI (gv3 is bb X q).2) fBAsk fCode fRL fRR (lN (gv3 is bb X q).1) fWrites 0) (cwV 0 hts (my_gV k1252 k1254 ks58 k12 k1255) rfl rfl rfl (by decide +kernel) ⟨by rw [hR]; exact Nat.le_of_ble_eq_true rfl, by rw [hR]; exact Nat.le_of_ble_eq_true rfl⟩) (my_preV hK hN (hP.sub [0] rfl) (hD.sub [0] (by decide +kernel) rfl) 0 rfl rfl) rfl rfl hl.1 rfl (lv_room (Nat.le_of_ble_eq_true rfl)) d_M_getBits_62 ⟨by rw [hR]; exact Nat.le_of_ble_eq_true rfl, by rw [hR]; exact Nat.le_of_ble_eq_true rfl⟩) hP hD hS hA [0] [1] rfl rfl (by decide +kernel) (by decide +kernel) (fun r_62 u9 H locs hw_62 hP hD hS => ?_)
            have hw_62 : r_62 = -5 := hw_62
            have hPD : my_PD (dC, dI) vwCl A [((g 8), Sum.inl (cI, 6000, Sum.inl vIn)), (o, Sum.inr (9, mO g 3 fShift fModels fItems fEnded fLow fRange fCache fPend fGoes fOuts (nI is.length) fReads 1 fIR (nI (gv3 is bb X q).2) fBAsk fCode fRL fRR (lN (gv3 is bb X q).1) fWrites 0))] H := ⟨hP, hD⟩
            have hP := hPD.1
            have hD := hPD.2
            exact my_iret (v := r_62) hx hb hr (rfl) hlocks hQ hK hS (Nat.le_refl _) (Nat.le_refl _) ((1 : Int32), fIR, (nI (gv3 is bb X q).2), (lN (gv3 is bb X q).1), (0 : Int32)) (fun z1 z2 => absurd z2 (show ¬ (1 : Int32) = 0 by decide)) (hP.sub [1, 0] rfl) (hD.sub [1, 0] (by decide +kernel) rfl) d_M_getBits_65
        · refine lv_bipush (v := (-5)) hx hb d_M_getBits_48 (by decide) ?_
          exact my_iret (v := (-5)) hx hb hr (rfl) hlocks hQ hK hS (Nat.le_refl _) (Nat.le_refl _) (fBad, fIR, fAsk, fX, (0 : Int32)) (fun z1 z2 => absurd z2 c_4) (hP.sub [0, 1] rfl) (hD.sub [0, 1] (by decide +kernel) rfl) d_M_getBits_50
      · refine lv_bipush (v := (-3)) hx hb d_M_getBits_38 (by decide) ?_
        exact my_iret (v := (-3)) hx hb hr (rfl) hlocks hQ hK hS (Nat.le_refl _) (Nat.le_refl _) (fBad, fIR, fAsk, fX, (0 : Int32)) (fun z1 z2 => absurd c_3 z1) (hP.sub [0, 1] rfl) (hD.sub [0, 1] (by decide +kernel) rfl) d_M_getBits_40
    · refine lv_bipush (v := (-2)) hx hb d_M_getBits_28 (by decide) ?_
      exact my_iret (v := (-2)) hx hb hr (rfl) hlocks hQ hK hS (Nat.le_refl _) (Nat.le_refl _) (fBad, fIR, fAsk, fX, (0 : Int32)) (fun z1 z2 => RD3_up (hRD z1 z2)) (hP.sub [0, 1] rfl) (hD.sub [0, 1] (by decide +kernel) rfl) d_M_getBits_30
  · exact absurd c_1 (by decide)
set_option maxHeartbeats 2000000 in
set_option maxRecDepth 100000 in
theorem c_M_getBits4 (l : Launch) (dC : Nat → ClassId) (dI : Nat → Nat → Nat) (cI cM cO : ClassId) (sz : Nat) (o : Nat) (g : Nat → Nat) (fForm : Int32) (fShift : Int32) (fModels : Int32) (fItems : Int32) (fEnded : Int32) (fLow : Int64) (fRange : Int64) (fCache : Int32) (fPend : Int32) (fGoes : Int32) (fOuts : Int32) (fIns : Int32) (fReads : Int32) (fBad : Int32) (fIR : Int32) (fAsk : Int32) (fBAsk : Int32) (fCode : Int64) (fRL : Int64) (fRR : Int64) (fX : Int64) (fWrites : Int32) (fThrown : Int32) (vIn : Nat → Int32) (cn : Nat) (p1 : Int32) (hfo : fForm = 4) (hIN : IN fIns vIn) (hcn : cn ≤ 1000) (hRD : ¬ fReads = 0 → fBad = 0 → RD4 cn fAsk fBAsk fX) : MetI l y_M_getBits (Cond.code y_M_getBits prog_14_method_57_code 3 (some .int) :: gw) ({ frames := 2, cells := 0, slots := 0, locals := 46 } : Room) (dC, dI) vwCl (kT cI cM cO) [Value.ref o, Value.int p1] [(o, Sum.inr (9, mO g fForm fShift fModels fItems fEnded fLow fRange fCache fPend fGoes fOuts fIns fReads fBad fIR fAsk fBAsk fCode fRL fRR fX fWrites fThrown)), ((g 8), Sum.inl (cI, 6000, Sum.inl vIn))] sz (fun (r : Int32) (u : Int32 × Int32 × Int32 × Int32 × Int64 × Int32) => ¬ fReads = 0 → u.1 = 0 → RD4 (cn + 1) u.2.2.1 u.2.2.2.1 u.2.2.2.2.1) (fun (u : Int32 × Int32 × Int32 × Int32 × Int64 × Int32) => [(o, Sum.inr (9, mO g fForm fShift fModels fItems fEnded fLow fRange fCache fPend fGoes fOuts fIns fReads u.1 u.2.1 u.2.2.1 u.2.2.2.1 fCode fRL fRR u.2.2.2.2.1 fWrites u.2.2.2.2.2)), ((g 8), Sum.inl (cI, 6000, Sum.inl vIn))]) 0 0 := by
  refine my_ofI (cc := prog_14_method_57_code) (n := 3) (ret := (some .int)) (by decide) rfl (Nat.le_of_ble_eq_true rfl) ?_
  intro p e s m args below meth c R Q A ls H locs hx hb hr hts hown hlocks hml hnm hR hQ hA hl hP hK hN hD hS
  have hg : ∀ w ∈ gw, w.before args s = true := fun w h => hts w (List.mem_cons_of_mem _ h)
  have hown : s.vm.findClass "RangeCodersModel" = some m.cls := hown
  have hl : lv_has ls 3 [(0, Value.ref o), (1, Value.int p1)] := hl
  subst hfo
  obtain ⟨is, rfl, hIn, hlen, hoct⟩ := hIN
  have hPD : my_PD (dC, dI) vwCl A [(o, Sum.inr (9, mO g 4 fShift fModels fItems fEnded fLow fRange fCache fPend fGoes fOuts (nI is.length) fReads fBad fIR fAsk fBAsk fCode fRL fRR fX fWrites fThrown)), ((g 8), Sum.inl (cI, 6000, Sum.inl vIn))] H := ⟨hP, hD⟩
  have hP := hPD.1
  have hD := hPD.2
  have hl : lv_has ls 3 [(0, Value.ref o), (1, Value.int p1)] := hl
  refine lv_aload_n hx hb d_M_getBits_0 rfl (lv_at hl 0 rfl) ?_
  refine lv_iconst (v := 0) hx hb d_M_getBits_1 (by decide) ?_
  refine va_put (D := (dC, dI)) (ci := 9) (v := .int 0) (ty := .int) (C := "RangeCodersModel") (T := T_M) (N := 35) hx hb hg in_M t_M o_M n_M hown hK hP hD hS 0 rfl rfl 34 (by decide) (hg _ k986) (fun _ h9 => h9) rfl (by decide +kernel) rfl rfl (Nat.le_of_ble_eq_true rfl) d_M_getBits_2 (fun H locs hP hD hS => ?_)
  have hPD : my_PD (dC, dI) vwCl A [(o, Sum.inr (9, mO g 4 fShift fModels fItems fEnded fLow fRange fCache fPend fGoes fOuts (nI is.length) fReads fBad fIR fAsk fBAsk fCode fRL fRR fX fWrites 0)), ((g 8), Sum.inl (cI, 6000, Sum.inl vIn))] H := ⟨hP, hD⟩
  have hP := hPD.1
  have hD := hPD.2
  refine lv_iload_n hx hb d_M_getBits_5 rfl (lv_at hl 1 rfl) ?_
  refine lv_iconst (v := 1) hx hb d_M_getBits_6 (by decide) ?_
  refine lv_aload_n hx hb d_M_getBits_7 rfl (lv_at hl 0 rfl) ?_
  refine va_get (D := (dC, dI)) (ci := 9) (v := .int 4) (C := "RangeCodersModel") (T := T_M) (N := 35) hx hb hg in_M hown hK hP 0 rfl rfl 0 (by decide) (hg _ k952) (fun _ h9 => h9) rfl d_M_getBits_8 ?_
  refine lv_iconst (v := 4) hx hb d_M_getBits_11 (by decide) ?_
  refine lv_icmp_ne (tgt := 20) hx hb d_M_getBits_12 (by decide) (fun c_1 => ?_) (fun c_1 => ?_)
  · exact absurd rfl c_1
  · refine lv_bipush (v := 9) hx hb d_M_getBits_15 (by decide) ?_
    refine lv_goto (tgt := 22) hx hb d_M_getBits_17 (by decide) ?_
    refine my_ci (wr := [(o, Sum.inr (9, mO g 4 fShift fModels fItems fEnded fLow fRange fCache fPend fGoes fOuts (nI is.length) fReads fBad fIR fAsk fBAsk fCode fRL fRR fX fWrites 0)), ((g 8), Sum.inl (cI, 6000, Sum.inl vIn))]) (va_runS (As := [Value.int p1, Value.int 1, Value.int 9]) (rest := []) ⟨hx, hb, hml, hown, hts⟩ (c_M_in l dC dI cI cM cO H.size p1 1 9) (cwS 3 hts (my_gS k1062 k1063 k12 k1064) rfl rfl rfl (by decide +kernel) ⟨by rw [hR]; exact Nat.le_of_ble_eq_true rfl, by rw [hR]; exact Nat.le_of_ble_eq_true rfl⟩) (my_pre hK hN (hP.sub [] rfl) (hD.sub [] (by decide +kernel) rfl)) rfl rfl hl.1 rfl (lv_room (Nat.le_of_ble_eq_true rfl)) d_M_getBits_22 ⟨by rw [hR]; exact Nat.le_of_ble_eq_true rfl, by rw [hR]; exact Nat.le_of_ble_eq_true rfl⟩) hP hD hS hA [] [0, 1] rfl rfl (by decide +kernel) (by decide +kernel) (fun r_22 u9 H locs hw_22 hP hD hS => ?_)
    have hw_22 : r_22 = if 1 ≤ p1 ∧ p1 ≤ 9 then 1 else 0 := hw_22
    have hPD : my_PD (dC, dI) vwCl A [(o, Sum.inr (9, mO g 4 fShift fModels fItems fEnded fLow fRange fCache fPend fGoes fOuts (nI is.length) fReads fBad fIR fAsk fBAsk fCode fRL fRR fX fWrites 0)), ((g 8), Sum.inl (cI, 6000, Sum.inl vIn))] H := ⟨hP, hD⟩
    have hP := hPD.1
    have hD := hPD.2
    refine lv_if_ne (tgt := 31) hx hb d_M_getBits_25 (by decide) (fun c_2 => ?_) (fun c_2 => ?_)
    · obtain ⟨bb, hb1, hb2, eb⟩ := in_of2 (a := 1) (b := 9) (by decide) (by decide) (one_ne hw_22 c_2)
      subst eb
      refine lv_aload_n hx hb d_M_getBits_31 rfl (lv_at hl 0 rfl) ?_
      refine va_get (D := (dC, dI)) (ci := 9) (v := .int fReads) (C := "RangeCodersModel") (T := T_M) (N := 35) hx hb hg in_M hown hK hP 0 rfl rfl 21 (by decide) (hg _ k973) (fun _ h9 => h9) rfl d_M_getBits_32 ?_
      refine lv_if_ne (tgt := 41) hx hb d_M_getBits_35 (by decide) (fun c_3 => ?_) (fun c_3 => ?_)
      · refine lv_aload_n hx hb d_M_getBits_41 rfl (lv_at hl 0 rfl) ?_
        refine va_get (D := (dC, dI)) (ci := 9) (v := .int fBad) (C := "RangeCodersModel") (T := T_M) (N := 35) hx hb hg in_M hown hK hP 0 rfl rfl 22 (by decide) (hg _ k974) (fun _ h9 => h9) rfl d_M_getBits_42 ?_
        refine lv_if_eq (tgt := 51) hx hb d_M_getBits_45 (by decide) (fun c_4 => ?_) (fun c_4 => ?_)
        · obtain ⟨X, t, rfl, rfl, rfl, hX0, hX1, hq⟩ := hRD c_3 c_4
          have hPD : my_PD (dC, dI) vwCl A [(o, Sum.inr (9, mO g 4 fShift fModels fItems fEnded fLow fRange fCache fPend fGoes fOuts (nI is.length) fReads fBad fIR (nI ((t + 7) / 8)) (nI t) fCode fRL fRR (lN X) fWrites 0)), ((g 8), Sum.inl (cI, 6000, Sum.inl vIn))] H := ⟨hP, hD⟩
          have hP := hPD.1
          have hD := hPD.2
          refine lv_aload_n hx hb d_M_getBits_51 rfl (lv_at hl 0 rfl) ?_
          refine lv_iload_n hx hb d_M_getBits_52 rfl (lv_at hl 1 rfl) ?_
          refine my_ci (wr := []) (va_runV (As := [Value.int (nI bb)]) (rest := []) ⟨hx, hb, hml, hown, hts⟩ (c_M_valueOf4 l dC dI cI cM cO H.size o g fShift fModels fItems fEnded fLow fRange fCache fPend fGoes fOuts fReads fBad fIR fCode fRL fRR (lN X) fWrites 0 vIn bb t is (hb1) (hb2) (hIn) (hlen) (hoct) (by omega)) (cwV 1 hts (my_gV k1260 k1262 ks59 k12 k1263) rfl rfl rfl (by decide +kernel) ⟨by rw [hR]; exact Nat.le_of_ble_eq_true rfl, by rw [hR]; exact Nat.le_of_ble_eq_true rfl⟩) (my_preV hK hN (hP.sub [0, 1] rfl) (hD.sub [0, 1] (by decide +kernel) rfl) 0 rfl rfl) rfl rfl hl.1 rfl (lv_room (Nat.le_of_ble_eq_true rfl)) d_M_getBits_53 ⟨by rw [hR]; exact Nat.le_of_ble_eq_true rfl, by rw [hR]; exact Nat.le_of_ble_eq_true rfl⟩) hP hD hS hA [0, 1] [] rfl rfl (by decide +kernel) (by decide +kernel) (fun r_53 u9 H locs hw_53 hP hD hS => ?_)
          have hw_53 : r_53 = nI (bbN is t bb) := hw_53
          have hPD : my_PD (dC, dI) vwCl A [(o, Sum.inr (9, mO g 4 fShift fModels fItems fEnded fLow fRange fCache fPend fGoes fOuts (nI is.length) fReads fBad fIR (nI ((t + bb + 7) / 8)) (nI (t + bb)) fCode fRL fRR (lN X) fWrites 0)), ((g 8), Sum.inl (cI, 6000, Sum.inl vIn))] H := ⟨hP, hD⟩
          have hP := hPD.1
          have hD := hPD.2
          refine lv_istore_n (lv' := [(2, Value.int r_53), (0, Value.ref o), (1, Value.int (nI bb))]) hx hb d_M_getBits_56 rfl hl (by decide) rfl (fun ls hl => ?_)
          refine lv_iload_n hx hb d_M_getBits_57 rfl (lv_at hl 0 rfl) ?_
          refine lv_if_ge (tgt := 66) hx hb d_M_getBits_58 (by decide) (fun c_5 => ?_) (fun c_5 => ?_)
          · refine lv_aload_n hx hb d_M_getBits_66 rfl (lv_at hl 1 rfl) ?_
            refine lv_dup hx hb d_M_getBits_67 rfl ?_
            refine va_get (D := (dC, dI)) (ci := 9) (v := .int fIR) (C := "RangeCodersModel") (T := T_M) (N := 35) hx hb hg in_M hown hK hP 0 rfl rfl 23 (by decide) (hg _ k975) (fun _ h9 => h9) rfl d_M_getBits_68 ?_
            refine lv_iconst (v := 1) hx hb d_M_getBits_71 (by decide) ?_
            refine lv_iadd hx hb d_M_getBits_72 ?_
            refine lv_topi (fun v_6 ev_6 => ?_)
            refine va_put (D := (dC, dI)) (ci := 9) (v := .int v_6) (ty := .int) (C := "RangeCodersModel") (T := T_M) (N := 35) hx hb hg in_M t_M o_M n_M hown hK hP hD hS 0 rfl rfl 23 (by decide) (hg _ k975) (fun _ h9 => h9) rfl (by decide +kernel) rfl rfl (Nat.le_of_ble_eq_true rfl) d_M_getBits_73 (fun H locs hP hD hS => ?_)
            have hPD : my_PD (dC, dI) vwCl A [(o, Sum.inr (9, mO g 4 fShift fModels fItems fEnded fLow fRange fCache fPend fGoes fOuts (nI is.length) fReads fBad v_6 (nI ((t + bb + 7) / 8)) (nI (t + bb)) fCode fRL fRR (lN X) fWrites 0)), ((g 8), Sum.inl (cI, 6000, Sum.inl vIn))] H := ⟨hP, hD⟩
            have hP := hPD.1
            have hD := hPD.2
            refine lv_iload_n hx hb d_M_getBits_76 rfl (lv_at hl 0 rfl) ?_
            exact my_iret (v := r_53) hx hb hr (rfl) hlocks hQ hK hS (Nat.le_refl _) (Nat.le_refl _) (fBad, v_6, nI ((t + bb + 7) / 8), nI (t + bb), (lN X), (0 : Int32)) (fun _ _ => ⟨X, t + bb, rfl, rfl, rfl, hX0, hX1, by omega⟩) (hP.sub [0, 1] rfl) (hD.sub [0, 1] (by decide +kernel) rfl) d_M_getBits_77
          · refine lv_aload_n hx hb d_M_getBits_61 rfl (lv_at hl 1 rfl) ?_
            refine my_ci (wr := [((g 8), Sum.inl (cI, 6000, Sum.inl vIn))]) (va_runV (As := []) (rest := []) ⟨hx, hb, hml, hown, hts⟩ (c_M_spoiled l dC dI cI cM cO H.size o g 4 fShift fModels fItems fEnded fLow fRange fCache fPend fGoes fOuts (nI is.length) fReads fBad fIR (nI ((t + bb + 7) / 8)) (nI (t + bb)) fCode fRL fRR (lN X) fWrites 0) (cwV 0 hts (my_gV k1252 k1254 ks58 k12 k1255) rfl rfl rfl (by decide +kernel) ⟨by rw [hR]; exact Nat.le_of_ble_eq_true rfl, by rw [hR]; exact Nat.le_of_ble_eq_true rfl⟩) (my_preV hK hN (hP.sub [0] rfl) (hD.sub [0] (by decide +kernel) rfl) 0 rfl rfl) rfl rfl hl.1 rfl (lv_room (Nat.le_of_ble_eq_true rfl)) d_M_getBits_62 ⟨by rw [hR]; exact Nat.le_of_ble_eq_true rfl, by rw [hR]; exact Nat.le_of_ble_eq_true rfl⟩) hP hD hS hA [0] [1] rfl rfl (by decide +kernel) (by decide +kernel) (fun r_62 u9 H locs hw_62 hP hD hS => ?_)
            have hw_62 : r_62 = -5 := hw_62
            have hPD : my_PD (dC, dI) vwCl A [((g 8), Sum.inl (cI, 6000, Sum.inl vIn)), (o, Sum.inr (9, mO g 4 fShift fModels fItems fEnded fLow fRange fCache fPend fGoes fOuts (nI is.length) fReads 1 fIR (nI ((t + bb + 7) / 8)) (nI (t + bb)) fCode fRL fRR (lN X) fWrites 0))] H := ⟨hP, hD⟩
            have hP := hPD.1
            have hD := hPD.2
            exact my_iret (v := r_62) hx hb hr (rfl) hlocks hQ hK hS (Nat.le_refl _) (Nat.le_refl _) ((1 : Int32), fIR, (nI ((t + bb + 7) / 8)), (nI (t + bb)), (lN X), (0 : Int32)) (fun z1 z2 => absurd z2 (show ¬ (1 : Int32) = 0 by decide)) (hP.sub [1, 0] rfl) (hD.sub [1, 0] (by decide +kernel) rfl) d_M_getBits_65
        · refine lv_bipush (v := (-5)) hx hb d_M_getBits_48 (by decide) ?_
          exact my_iret (v := (-5)) hx hb hr (rfl) hlocks hQ hK hS (Nat.le_refl _) (Nat.le_refl _) (fBad, fIR, fAsk, fBAsk, fX, (0 : Int32)) (fun z1 z2 => absurd z2 c_4) (hP.sub [0, 1] rfl) (hD.sub [0, 1] (by decide +kernel) rfl) d_M_getBits_50
      · refine lv_bipush (v := (-3)) hx hb d_M_getBits_38 (by decide) ?_
        exact my_iret (v := (-3)) hx hb hr (rfl) hlocks hQ hK hS (Nat.le_refl _) (Nat.le_refl _) (fBad, fIR, fAsk, fBAsk, fX, (0 : Int32)) (fun z1 z2 => absurd c_3 z1) (hP.sub [0, 1] rfl) (hD.sub [0, 1] (by decide +kernel) rfl) d_M_getBits_40
    · refine lv_bipush (v := (-2)) hx hb d_M_getBits_28 (by decide) ?_
      exact my_iret (v := (-2)) hx hb hr (rfl) hlocks hQ hK hS (Nat.le_refl _) (Nat.le_refl _) (fBad, fIR, fAsk, fBAsk, fX, (0 : Int32)) (fun z1 z2 => RD4_up (hRD z1 z2)) (hP.sub [0, 1] rfl) (hD.sub [0, 1] (by decide +kernel) rfl) d_M_getBits_30
end
section
/-! PLACES: how many a sign has -/
theorem cn_cP (P : Nat → Nat) (x : Nat) : ∀ q, cn P x q = (List.range q).countP (fun p => P p = x)
  | 0 => rfl
  | q + 1 => by
    rw [List.range_succ, List.countP_append, ← cn_cP P x q]
    show (if P q = x then cn P x q + 1 else cn P x q) = cn P x q + List.countP (fun p => decide (P p = x)) [q]
    by_cases h : P q = x <;> simp [h]
theorem stp_perm : ((List.range 512).map stp).Perm (List.range 512) := by decide +kernel
theorem iv_cP (a b : Nat) : ∀ m, (List.range m).countP (fun j => a ≤ j ∧ j < b) = min m b - min m a
  | 0 => by simp
  | m + 1 => by
    rw [List.range_succ, List.countP_append, iv_cP a b m]
    by_cases h : a ≤ m ∧ m < b
    · simp [h]; omega
    · simp [h]; omega
theorem cn_all {F : Nat → Nat} {n x : Nat} (hs : ns F n = 512) (hx : x < n) : cn (plc F n) x 512 = F x := by
  rw [cn_cP]
  have e1 : (List.range 512).countP (fun p => decide (plc F n p = x)) = ((List.range 512).map stp).countP (fun j => decide (sgA F n j = x)) := by
    rw [List.countP_map]
    rfl
  rw [e1, stp_perm.countP_eq]
  have e2 : (List.range 512).countP (fun j => decide (sgA F n j = x)) = (List.range 512).countP (fun j => decide (ns F x ≤ j ∧ j < ns F x + F x)) := by
    refine List.countP_congr (fun j hj => ?_)
    have hj5 : j < 512 := List.mem_range.mp hj
    simp only [decide_eq_true_eq]
    constructor
    · intro h
      obtain ⟨b1, b2, b3⟩ := sgA_spec (F := F) (n := n) (u := j) (by omega)
      rw [h] at b2 b3
      exact ⟨b2, b3⟩
    · intro h
      exact sgA_eq hx h.1 h.2
  have h3 := iv_cP (ns F x) (ns F x + F x) 512
  rw [e2, h3]
  have := ns_m1 F hx
  omega
theorem cn_mono (P : Nat → Nat) (x : Nat) {a b : Nat} (h : a ≤ b) : cn P x a ≤ cn P x b := by
  induction b with
  | zero => have : a = 0 := by omega
            subst this; exact Nat.le_refl _
  | succ b ih =>
    rcases Nat.eq_or_lt_of_le h with e | e
    · subst e; exact Nat.le_refl _
    · have := ih (by omega)
      show _ ≤ (if P b = x then cn P x b + 1 else cn P x b)
      split <;> omega
theorem cn_find (P : Nat → Nat) (x : Nat) {d : Nat} : ∀ q, d < cn P x q → ∃ p, p < q ∧ P p = x ∧ cn P x p = d
  | 0, h => absurd h (Nat.not_lt_zero d)
  | q + 1, h => by
    have h' : d < (if P q = x then cn P x q + 1 else cn P x q) := h
    by_cases hd : d < cn P x q
    · obtain ⟨p, h1, h2, h3⟩ := cn_find P x q hd
      exact ⟨p, by omega, h2, h3⟩
    · split at h'
      · exact ⟨q, Nat.lt_succ_self q, by assumption, by omega⟩
      · exact absurd h' hd
theorem num_lt {F : Nat → Nat} {n p : Nat} (hs : ns F n = 512) (hp : p < 512) : num F n p < F (plc F n p) := by
  have h1 := cn_all hs (plc_lt (p := p) hs)
  have h2 := cn_mono (plc F n) (plc F n p) (a := p + 1) (b := 512) hp
  have h3 : cn (plc F n) (plc F n p) (p + 1) = cn (plc F n) (plc F n p) p + 1 := by
    show (if plc F n p = plc F n p then _ else _) = _
    rw [if_pos rfl]
  show cn (plc F n) (plc F n p) p < _
  omega
theorem pl_find {F : Nat → Nat} {n x d : Nat} (hs : ns F n = 512) (hx : x < n) (hd : d < F x) : ∃ p, p < 512 ∧ plc F n p = x ∧ num F n p = d := by
  obtain ⟨p, h1, h2, h3⟩ := cn_find (plc F n) x 512 (d := d) (by rw [cn_all hs hx]; exact hd)
  exact ⟨p, h1, h2, by show cn (plc F n) (plc F n p) p = d; rw [h2]; exact h3⟩
theorem tb_main {is : List Nat} : ∀ (c k : Nat) (r : Nat × Nat), c ≤ 9 → c < k → 2 ^ (9 - c) ≤ r.1 → r.1 < 1024 → 512 ≤ (tbN is k r).1 ∧ (tbN is k r).1 < 1024 ∧ (tbN is k r).2 ≤ r.2 + c := by
  intro c
  induction c with
  | zero =>
    intro k r _ hk h1 h2
    have h1 : 512 ≤ r.1 := h1
    rw [tbN_e (by omega)]
    exact ⟨h1, h2, Nat.le_refl _⟩
  | succ c ih =>
    intro k r hc hk h1 h2
    by_cases hr : r.1 < 512
    · rw [tbN_s (by omega) hr]
      have hb := biA_lt is r.2
      have hp : 2 ^ (9 - c) ≤ 2 * r.1 + biA is r.2 := by
        have e : 9 - c = (9 - (c + 1)) + 1 := by omega
        rw [e, Nat.pow_succ]
        omega
      obtain ⟨a, b, d⟩ := ih (k - 1) (2 * r.1 + biA is r.2, r.2 + 1) (by omega) (by omega) hp (show 2 * r.1 + biA is r.2 < 1024 by omega)
      have d' : (tbN is (k - 1) (2 * r.1 + biA is r.2, r.2 + 1)).2 ≤ r.2 + 1 + c := d
      exact ⟨a, b, by omega⟩
    · rw [tbN_e hr]
      exact ⟨by omega, h2, by omega⟩
theorem gt4_ok {is : List Nat} {n X t : Nat} {F : Nat → Nat} (hs : ns F n = 0 ∨ ns F n = 512) (h1 : 512 ≤ X) (h2 : X < 1024) : 512 ≤ (gt4 is n F X t).2.1 ∧ (gt4 is n F X t).2.1 < 1024 ∧ (gt4 is n F X t).2.2 ≤ t + 9 := by
  unfold gt4
  split
  · exact ⟨h1, h2, by show t ≤ _; omega⟩
  · have hs' : ns F n = 512 := by omega
    have hn := num_lt (p := X - 512) hs' (by omega)
    have hp := ns_m1 F (plc_lt (p := X - 512) hs')
    have a1 : 2 ^ (9 - 9) ≤ F (plc F n (X - 512)) + num F n (X - 512) := by rw [Nat.sub_self, Nat.pow_zero]; omega
    have a2 : F (plc F n (X - 512)) + num F n (X - 512) < 1024 := by omega
    generalize F (plc F n (X - 512)) + num F n (X - 512) = z at a1 a2 ⊢
    have h := tb_main (is := is) 9 10 (z, t) (by decide) (by decide) a1 a2
    exact ⟨h.1, h.2.1, h.2.2⟩
theorem gt4_F {n X : Nat} {F : Nat → Nat} (h2 : X < 1024) : ns F n = 512 → 0 < F (plc F n (X - 512)) := fun hs => by
  have hn := num_lt (p := X - 512) hs (by omega)
  omega
/-! items of the forms 3 and 4 -/
def Fvw (f : Nat → Int32) : Nat → Nat → Nat := fun mm k => (f (64 * mm + k)).toNatClampNeg
theorem ns_cg {F G : Nat → Nat} : ∀ {n : Nat}, (∀ k, k < n → F k = G k) → ns F n = ns G n
  | 0, _ => rfl
  | n + 1, h => by
    show ns F n + F n = ns G n + G n
    rw [ns_cg (n := n) (fun k hk => h k (by omega)), h n (Nat.lt_succ_self n)]
theorem Fv_eq {f : Nat → Int32} {mm n : Nat} {F : Nat → Nat} (h : sgI f (64 * mm) n F) (hb : ns F n < 2 ^ 31) : ∀ k, k < n → Fvw f mm k = F k := by
  intro k hk
  unfold Fvw
  rw [h k hk]
  exact nI_clamp (Nat.lt_of_le_of_lt (ns_ge hk) hb)
theorem Fv_sg {f : Nat → Int32} {mm n : Nat} {F : Nat → Nat} (h : sgI f (64 * mm) n F) (hb : ns F n < 2 ^ 31) : sgI f (64 * mm) n (Fvw f mm) ∧ ns (Fvw f mm) n = ns F n :=
  ⟨sgI_c h (fun k hk => (Fv_eq h hb k hk).symm), ns_cg (Fv_eq h hb)⟩
def itOk (M bm km : Nat) (N : Nat → Nat) (vNow : Nat → Int32) (it : It) : Prop := (it.1 = 0 ∧ 1 ≤ it.2.1 ∧ it.2.1 ≤ bm ∧ it.2.2 < 2 ^ it.2.1) ∨ (¬ it.1 = 0 ∧ it.2.1 < km ∧ it.2.2 < N it.2.1 ∧ 0 < Fvw vNow it.2.1 it.2.2 ∧ ns (Fvw vNow it.2.1) (N it.2.1) = M ∧ sgI vNow (64 * it.2.1) (N it.2.1) (Fvw vNow it.2.1))
def MI3 (M bm km : Nat) (N : Nat → Nat) (fItems fGoes : Int32) (vIM vIW vNow : Nat → Int32) : Prop := ∃ its : List It, its.length ≤ 600 ∧ fItems = nI its.length ∧ fGoes = 0 ∧ itIs vIM vIW its ∧ ∀ i, i < its.length → itOk M bm km N vNow (itA its i)
theorem itA_l {its : List It} {it : It} {i : Nat} (h : i < its.length) : itA (its ++ [it]) i = itA its i := by
  show (its ++ [it]).getD i (0, 0, 0) = its.getD i (0, 0, 0)
  rw [List.getD_eq_getElem?_getD, List.getD_eq_getElem?_getD, List.getElem?_append_left h]
theorem itA_e {its : List It} {it : It} : itA (its ++ [it]) its.length = it := by
  show (its ++ [it]).getD its.length (0, 0, 0) = it
  rw [List.getD_eq_getElem?_getD, List.getElem?_append_right (Nat.le_refl _), Nat.sub_self]
  rfl
theorem MI3_add {M bm km : Nat} {N : Nat → Nat} {vIM vIW vNow f2 v2 : Nat → Int32} {its : List It} {it : It} {p1 p2 : Int32} (hl : its.length < 600) (hi : itIs vIM vIW its) (hok : ∀ i, i < its.length → itOk M bm km N vNow (itA its i)) (h1 : f2 = upd vIM its.length p1) (h2 : v2 = upd vIW its.length p2) (e1 : p1 = itM it) (e2 : p2 = itW it) (ho : itOk M bm km N vNow it) : MI3 M bm km N (nI (its.length + 1)) 0 f2 v2 vNow := by
  refine ⟨its ++ [it], by rw [List.length_append, List.length_singleton]; omega, by rw [List.length_append, List.length_singleton], rfl, fun i hi2 => ?_, fun i hi2 => ?_⟩
  · rw [List.length_append, List.length_singleton] at hi2
    subst h1 h2 e1 e2
    by_cases e : i = its.length
    · subst e
      rw [itA_e, pk_us, pk_us]
      exact ⟨rfl, rfl⟩
    · rw [itA_l (by omega), pk_un e, pk_un e]
      exact hi i (by omega)
  · rw [List.length_append, List.length_singleton] at hi2
    by_cases e : i = its.length
    · subst e; rw [itA_e]; exact ho
    · rw [itA_l (by omega)]; exact hok i (by omega)
theorem it_sign {M bm km jj tt : Nat} {N : Nat → Nat} {vNow : Nat → Int32} {F : Nat → Nat} (hM : M ≤ 4096) (hj : jj < km) (ht : tt < N jj) (hF : sgI vNow (64 * jj) (N jj) F) (hs : ns F (N jj) = 0 ∨ ns F (N jj) = M) (hp : 0 < F tt) : itOk M bm km N vNow (1, jj, tt) := by
  have h0 := ns_ge (F := F) ht
  have hsM : ns F (N jj) = M := by omega
  obtain ⟨a, b⟩ := Fv_sg hF (by omega)
  refine Or.inr ⟨(show ¬ (1 : Nat) = 0 by decide), hj, ht, ?_, by rw [← hsM]; exact b, a⟩
  show 0 < Fvw vNow jj tt
  rw [Fv_eq hF (by omega) tt ht]
  exact hp
theorem it_val {M bm km b v : Nat} {N : Nat → Nat} {vNow : Nat → Int32} (h1 : 1 ≤ b) (h2 : b ≤ bm) (h3 : v < 2 ^ b) : itOk M bm km N vNow (0, b, v) := Or.inl ⟨rfl, h1, h2, h3⟩
end
section
set_option maxHeartbeats 2000000 in
set_option maxRecDepth 100000 in
theorem c_M_get4 (l : Launch) (dC : Nat → ClassId) (dI : Nat → Nat → Nat) (cI cM cO : ClassId) (sz : Nat) (o : Nat) (g : Nat → Nat) (fForm : Int32) (fShift : Int32) (fModels : Int32) (fItems : Int32) (fEnded : Int32) (fLow : Int64) (fRange : Int64) (fCache : Int32) (fPend : Int32) (fGoes : Int32) (fOuts : Int32) (fIns : Int32) (fReads : Int32) (fBad : Int32) (fIR : Int32) (fAsk : Int32) (fBAsk : Int32) (fCode : Int64) (fRL : Int64) (fRR : Int64) (fX : Int64) (fWrites : Int32) (fThrown : Int32) (vMany : Nat → Int32) (vCounts : Nat → Int32) (vThen : Nat → Int32) (vIn : Nat → Int32) (vSO : Nat → Int32) (vNO : Nat → Int32) (km : Nat) (N : Nat → Nat) (cn : Nat) (p1 : Int32) (hfo : fForm = 4) (hmod : fModels = nI km) (hMD : MD km N vMany vCounts) (hIN : IN fIns vIn) (hcn : cn ≤ 1000) (hU : TB 4 km N vThen) (hRD : ¬ fReads = 0 → fBad = 0 → RD4 cn fAsk fBAsk fX) : MetI l y_M_get (Cond.code y_M_get prog_14_method_56_code 3 (some .int) :: gw) ({ frames := 2, cells := 0, slots := 0, locals := 49 } : Room) (dC, dI) vwCl (kT cI cM cO) [Value.ref o, Value.int p1] [(o, Sum.inr (9, mO g fForm fShift fModels fItems fEnded fLow fRange fCache fPend fGoes fOuts fIns fReads fBad fIR fAsk fBAsk fCode fRL fRR fX fWrites fThrown)), ((g 0), Sum.inl (cI, 8, Sum.inl vMany)), ((g 1), Sum.inl (cI, 512, Sum.inl vCounts)), ((g 3), Sum.inl (cI, 512, Sum.inl vThen)), ((g 8), Sum.inl (cI, 6000, Sum.inl vIn)), ((g 9), Sum.inl (cI, 512, Sum.inl vSO)), ((g 10), Sum.inl (cI, 512, Sum.inl vNO))] sz (fun (r : Int32) (u : Int32 × Int32 × Int32 × Int32 × Int64 × Int32 × (Nat → Int32) × (Nat → Int32)) => ¬ fReads = 0 → u.1 = 0 → RD4 (cn + 1) u.2.2.1 u.2.2.2.1 u.2.2.2.2.1) (fun (u : Int32 × Int32 × Int32 × Int32 × Int64 × Int32 × (Nat → Int32) × (Nat → Int32)) => [(o, Sum.inr (9, mO g fForm fShift fModels fItems fEnded fLow fRange fCache fPend fGoes fOuts fIns fReads u.1 u.2.1 u.2.2.1 u.2.2.2.1 fCode fRL fRR u.2.2.2.2.1 fWrites u.2.2.2.2.2.1)), ((g 0), Sum.inl (cI, 8, Sum.inl vMany)), ((g 1), Sum.inl (cI, 512, Sum.inl vCounts)), ((g 3), Sum.inl (cI, 512, Sum.inl vThen)), ((g 8), Sum.inl (cI, 6000, Sum.inl vIn)), ((g 9), Sum.inl (cI, 512, Sum.inl u.2.2.2.2.2.2.1)), ((g 10), Sum.inl (cI, 512, Sum.inl u.2.2.2.2.2.2.2))]) 0 0 := by
  refine my_ofI (cc := prog_14_method_56_code) (n := 3) (ret := (some .int)) (by decide) rfl (Nat.le_of_ble_eq_true rfl) ?_
  intro p e s m args below meth c R Q A ls H locs hx hb hr hts hown hlocks hml hnm hR hQ hA hl hP hK hN hD hS
  have hg : ∀ w ∈ gw, w.before args s = true := fun w h => hts w (List.mem_cons_of_mem _ h)
  have hown : s.vm.findClass "RangeCodersModel" = some m.cls := hown
  have hl : lv_has ls 3 [(0, Value.ref o), (1, Value.int p1)] := hl
  subst hfo
  obtain ⟨is, rfl, hIn, hlen, hoct⟩ := hIN
  have hPD : my_PD (dC, dI) vwCl A [(o, Sum.inr (9, mO g 4 fShift fModels fItems fEnded fLow fRange fCache fPend fGoes fOuts (nI is.length) fReads fBad fIR fAsk fBAsk fCode fRL fRR fX fWrites fThrown)), ((g 0), Sum.inl (cI, 8, Sum.inl vMany)), ((g 1), Sum.inl (cI, 512, Sum.inl vCounts)), ((g 3), Sum.inl (cI, 512, Sum.inl vThen)), ((g 8), Sum.inl (cI, 6000, Sum.inl vIn)), ((g 9), Sum.inl (cI, 512, Sum.inl vSO)), ((g 10), Sum.inl (cI, 512, Sum.inl vNO))] H := ⟨hP, hD⟩
  have hP := hPD.1
  have hD := hPD.2
  have hl : lv_has ls 3 [(0, Value.ref o), (1, Value.int p1)] := hl
  refine lv_aload_n hx hb d_M_get_0 rfl (lv_at hl 0 rfl) ?_
  refine lv_iconst (v := 0) hx hb d_M_get_1 (by decide) ?_
  refine va_put (D := (dC, dI)) (ci := 9) (v := .int 0) (ty := .int) (C := "RangeCodersModel") (T := T_M) (N := 35) hx hb hg in_M t_M o_M n_M hown hK hP hD hS 0 rfl rfl 34 (by decide) (hg _ k986) (fun _ h9 => h9) rfl (by decide +kernel) rfl rfl (Nat.le_of_ble_eq_true rfl) d_M_get_2 (fun H locs hP hD hS => ?_)
  have hPD : my_PD (dC, dI) vwCl A [(o, Sum.inr (9, mO g 4 fShift fModels fItems fEnded fLow fRange fCache fPend fGoes fOuts (nI is.length) fReads fBad fIR fAsk fBAsk fCode fRL fRR fX fWrites 0)), ((g 0), Sum.inl (cI, 8, Sum.inl vMany)), ((g 1), Sum.inl (cI, 512, Sum.inl vCounts)), ((g 3), Sum.inl (cI, 512, Sum.inl vThen)), ((g 8), Sum.inl (cI, 6000, Sum.inl vIn)), ((g 9), Sum.inl (cI, 512, Sum.inl vSO)), ((g 10), Sum.inl (cI, 512, Sum.inl vNO))] H := ⟨hP, hD⟩
  have hP := hPD.1
  have hD := hPD.2
  refine lv_aload_n hx hb d_M_get_5 rfl (lv_at hl 0 rfl) ?_
  refine lv_iload_n hx hb d_M_get_6 rfl (lv_at hl 1 rfl) ?_
  refine my_ci (wr := [((g 0), Sum.inl (cI, 8, Sum.inl vMany)), ((g 1), Sum.inl (cI, 512, Sum.inl vCounts)), ((g 3), Sum.inl (cI, 512, Sum.inl vThen)), ((g 8), Sum.inl (cI, 6000, Sum.inl vIn)), ((g 9), Sum.inl (cI, 512, Sum.inl vSO)), ((g 10), Sum.inl (cI, 512, Sum.inl vNO))]) (va_runV (As := [Value.int p1]) (rest := []) ⟨hx, hb, hml, hown, hts⟩ (c_M_isModel l dC dI cI cM cO H.size o g 4 fShift fModels fItems fEnded fLow fRange fCache fPend fGoes fOuts (nI is.length) fReads fBad fIR fAsk fBAsk fCode fRL fRR fX fWrites 0 p1) (cwV 1 hts (my_gV k1073 k1075 ks26 k12 k1076) rfl rfl rfl (by decide +kernel) ⟨by rw [hR]; exact Nat.le_of_ble_eq_true rfl, by rw [hR]; exact Nat.le_of_ble_eq_true rfl⟩) (my_preV hK hN (hP.sub [0] rfl) (hD.sub [0] (by decide +kernel) rfl) 0 rfl rfl) rfl rfl hl.1 rfl (lv_room (Nat.le_of_ble_eq_true rfl)) d_M_get_7 ⟨by rw [hR]; exact Nat.le_of_ble_eq_true rfl, by rw [hR]; exact Nat.le_of_ble_eq_true rfl⟩) hP hD hS hA [0] [1, 2, 3, 4, 5, 6] rfl rfl (by decide +kernel) (by decide +kernel) (fun r_7 u9 H locs hw_7 hP hD hS => ?_)
  have hw_7 : r_7 = if 0 ≤ p1 ∧ p1 ≤ fModels - 1 then 1 else 0 := hw_7
  have hPD : my_PD (dC, dI) vwCl A [((g 0), Sum.inl (cI, 8, Sum.inl vMany)), ((g 1), Sum.inl (cI, 512, Sum.inl vCounts)), ((g 3), Sum.inl (cI, 512, Sum.inl vThen)), ((g 8), Sum.inl (cI, 6000, Sum.inl vIn)), ((g 9), Sum.inl (cI, 512, Sum.inl vSO)), ((g 10), Sum.inl (cI, 512, Sum.inl vNO)), (o, Sum.inr (9, mO g 4 fShift fModels fItems fEnded fLow fRange fCache fPend fGoes fOuts (nI is.length) fReads fBad fIR fAsk fBAsk fCode fRL fRR fX fWrites 0))] H := ⟨hP, hD⟩
  have hP := hPD.1
  have hD := hPD.2
  refine lv_if_ne (tgt := 15) hx hb d_M_get_10 (by decide) (fun c_1 => ?_) (fun c_1 => ?_)
  · refine lv_aload_n hx hb d_M_get_15 rfl (lv_at hl 0 rfl) ?_
    refine va_get (D := (dC, dI)) (ci := 9) (v := .int fReads) (C := "RangeCodersModel") (T := T_M) (N := 35) hx hb hg in_M hown hK hP 6 rfl rfl 21 (by decide) (hg _ k973) (fun _ h9 => h9) rfl d_M_get_16 ?_
    refine lv_if_ne (tgt := 25) hx hb d_M_get_19 (by decide) (fun c_2 => ?_) (fun c_2 => ?_)
    · refine lv_aload_n hx hb d_M_get_25 rfl (lv_at hl 0 rfl) ?_
      refine va_get (D := (dC, dI)) (ci := 9) (v := .int fBad) (C := "RangeCodersModel") (T := T_M) (N := 35) hx hb hg in_M hown hK hP 6 rfl rfl 22 (by decide) (hg _ k974) (fun _ h9 => h9) rfl d_M_get_26 ?_
      refine lv_if_eq (tgt := 35) hx hb d_M_get_29 (by decide) (fun c_3 => ?_) (fun c_3 => ?_)
      · have hT := hU
        rw [hmod] at hw_7
        obtain ⟨jj, hj, ej⟩ := md_of hMD.1 (one_ne hw_7 c_1)
        subst ej
        have hk8 := hMD.1
        obtain ⟨hn9, hn2, hn64, C9, hc9, hB9⟩ := hMD.2 jj hj
        obtain ⟨X, t, rfl, rfl, rfl, hX0, hX1, hq⟩ := hRD c_2 c_3
        have hPD : my_PD (dC, dI) vwCl A [((g 0), Sum.inl (cI, 8, Sum.inl vMany)), ((g 1), Sum.inl (cI, 512, Sum.inl vCounts)), ((g 3), Sum.inl (cI, 512, Sum.inl vThen)), ((g 8), Sum.inl (cI, 6000, Sum.inl vIn)), ((g 9), Sum.inl (cI, 512, Sum.inl vSO)), ((g 10), Sum.inl (cI, 512, Sum.inl vNO)), (o, Sum.inr (9, mO g 4 fShift fModels fItems fEnded fLow fRange fCache fPend fGoes fOuts (nI is.length) fReads fBad fIR (nI ((t + 7) / 8)) (nI t) fCode fRL fRR (lN X) fWrites 0))] H := ⟨hP, hD⟩
        have hP := hPD.1
        have hD := hPD.2
        obtain ⟨F9, hF⟩ := hT jj hj
        obtain ⟨hF9, hs9⟩ := tab_4 hF
        refine lv_aload_n hx hb d_M_get_35 rfl (lv_at hl 0 rfl) ?_
        refine va_get (D := (dC, dI)) (ci := 9) (v := .int 4) (C := "RangeCodersModel") (T := T_M) (N := 35) hx hb hg in_M hown hK hP 6 rfl rfl 0 (by decide) (hg _ k952) (fun _ h9 => h9) rfl d_M_get_36 ?_
        refine lv_iconst (v := 2) hx hb d_M_get_39 (by decide) ?_
        refine lv_icmp_ge (tgt := 51) hx hb d_M_get_40 (by decide) (fun c_4 => ?_) (fun c_4 => ?_)
        · refine lv_aload_n hx hb d_M_get_51 rfl (lv_at hl 0 rfl) ?_
          refine va_get (D := (dC, dI)) (ci := 9) (v := .int 4) (C := "RangeCodersModel") (T := T_M) (N := 35) hx hb hg in_M hown hK hP 6 rfl rfl 0 (by decide) (hg _ k952) (fun _ h9 => h9) rfl d_M_get_52 ?_
          refine lv_iconst (v := 2) hx hb d_M_get_55 (by decide) ?_
          refine lv_icmp_ne (tgt := 67) hx hb d_M_get_56 (by decide) (fun c_5 => ?_) (fun c_5 => ?_)
          · refine lv_aload_n hx hb d_M_get_67 rfl (lv_at hl 0 rfl) ?_
            refine va_get (D := (dC, dI)) (ci := 9) (v := .int 4) (C := "RangeCodersModel") (T := T_M) (N := 35) hx hb hg in_M hown hK hP 6 rfl rfl 0 (by decide) (hg _ k952) (fun _ h9 => h9) rfl d_M_get_68 ?_
            refine lv_iconst (v := 3) hx hb d_M_get_71 (by decide) ?_
            refine lv_icmp_ne (tgt := 83) hx hb d_M_get_72 (by decide) (fun c_6 => ?_) (fun c_6 => ?_)
            · refine lv_aload_n hx hb d_M_get_83 rfl (lv_at hl 0 rfl) ?_
              refine lv_iload_n hx hb d_M_get_84 rfl (lv_at hl 1 rfl) ?_
              refine my_ci (wr := [((g 1), Sum.inl (cI, 512, Sum.inl vCounts))]) (va_runV (As := [Value.int (nI jj)]) (rest := []) ⟨hx, hb, hml, hown, hts⟩ (c_M_getTabled l dC dI cI cM cO H.size o g 4 fShift fModels fItems fEnded fLow fRange fCache fPend fGoes fOuts fReads fBad fIR fCode fRL fRR fWrites 0 vMany vThen vIn vSO vNO jj (N jj) F9 X t is (by omega) (hn9) (hn64) (hIn) (hlen) (hoct) (by omega) (hF9) (hs9) (hX0) (hX1) (gt4_F hX1)) (cwV 1 hts (my_gV k1248 k1250 ks57 k12 k1251) rfl rfl rfl (by decide +kernel) ⟨by rw [hR]; exact Nat.le_of_ble_eq_true rfl, by rw [hR]; exact Nat.le_of_ble_eq_true rfl⟩) (my_preV hK hN (hP.sub [6, 0, 2, 3, 4, 5] rfl) (hD.sub [6, 0, 2, 3, 4, 5] (by decide +kernel) rfl) 0 rfl rfl) rfl rfl hl.1 rfl (lv_room (Nat.le_of_ble_eq_true rfl)) d_M_get_85 ⟨by rw [hR]; exact Nat.le_of_ble_eq_true rfl, by rw [hR]; exact Nat.le_of_ble_eq_true rfl⟩) hP hD hS hA [6, 0, 2, 3, 4, 5] [1] rfl rfl (by decide +kernel) (by decide +kernel) (fun r_85 u9 H locs hw_85 hP hD hS => ?_)
              obtain ⟨so2_85, no2_85⟩ := u9
              have hw_85 : r_85 = oI (gt4 is (N jj) F9 X t).1 := hw_85
              have hPD : my_PD (dC, dI) vwCl A [((g 1), Sum.inl (cI, 512, Sum.inl vCounts)), (o, Sum.inr (9, mO g 4 fShift fModels fItems fEnded fLow fRange fCache fPend fGoes fOuts (nI is.length) fReads fBad fIR (nI (((gt4 is (N jj) F9 X t).2.2 + 7) / 8)) (nI (gt4 is (N jj) F9 X t).2.2) fCode fRL fRR (lN (gt4 is (N jj) F9 X t).2.1) fWrites 0)), ((g 0), Sum.inl (cI, 8, Sum.inl vMany)), ((g 3), Sum.inl (cI, 512, Sum.inl vThen)), ((g 8), Sum.inl (cI, 6000, Sum.inl vIn)), ((g 9), Sum.inl (cI, 512, Sum.inl so2_85)), ((g 10), Sum.inl (cI, 512, Sum.inl no2_85))] H := ⟨hP, hD⟩
              have hP := hPD.1
              have hD := hPD.2
              have hg9 := gt4_ok (is := is) (t := t) hs9 hX0 hX1
              refine lv_istore_n (lv' := [(2, Value.int r_85), (0, Value.ref o), (1, Value.int (nI jj))]) hx hb d_M_get_88 rfl hl (by decide) rfl (fun ls hl => ?_)
              refine lv_iload_n hx hb d_M_get_89 rfl (lv_at hl 0 rfl) ?_
              refine lv_if_ge (tgt := 98) hx hb d_M_get_90 (by decide) (fun c_7 => ?_) (fun c_7 => ?_)
              · refine lv_aload_n hx hb d_M_get_98 rfl (lv_at hl 1 rfl) ?_
                refine lv_dup hx hb d_M_get_99 rfl ?_
                refine va_get (D := (dC, dI)) (ci := 9) (v := .int fIR) (C := "RangeCodersModel") (T := T_M) (N := 35) hx hb hg in_M hown hK hP 1 rfl rfl 23 (by decide) (hg _ k975) (fun _ h9 => h9) rfl d_M_get_100 ?_
                refine lv_iconst (v := 1) hx hb d_M_get_103 (by decide) ?_
                refine lv_iadd hx hb d_M_get_104 ?_
                refine lv_topi (fun v_8 ev_8 => ?_)
                refine va_put (D := (dC, dI)) (ci := 9) (v := .int v_8) (ty := .int) (C := "RangeCodersModel") (T := T_M) (N := 35) hx hb hg in_M t_M o_M n_M hown hK hP hD hS 1 rfl rfl 23 (by decide) (hg _ k975) (fun _ h9 => h9) rfl (by decide +kernel) rfl rfl (Nat.le_of_ble_eq_true rfl) d_M_get_105 (fun H locs hP hD hS => ?_)
                have hPD : my_PD (dC, dI) vwCl A [((g 1), Sum.inl (cI, 512, Sum.inl vCounts)), (o, Sum.inr (9, mO g 4 fShift fModels fItems fEnded fLow fRange fCache fPend fGoes fOuts (nI is.length) fReads fBad v_8 (nI (((gt4 is (N jj) F9 X t).2.2 + 7) / 8)) (nI (gt4 is (N jj) F9 X t).2.2) fCode fRL fRR (lN (gt4 is (N jj) F9 X t).2.1) fWrites 0)), ((g 0), Sum.inl (cI, 8, Sum.inl vMany)), ((g 3), Sum.inl (cI, 512, Sum.inl vThen)), ((g 8), Sum.inl (cI, 6000, Sum.inl vIn)), ((g 9), Sum.inl (cI, 512, Sum.inl so2_85)), ((g 10), Sum.inl (cI, 512, Sum.inl no2_85))] H := ⟨hP, hD⟩
                have hP := hPD.1
                have hD := hPD.2
                refine lv_iload_n hx hb d_M_get_108 rfl (lv_at hl 0 rfl) ?_
                exact my_iret (v := r_85) hx hb hr (rfl) hlocks hQ hK hS (Nat.le_refl _) (Nat.le_refl _) (fBad, v_8, nI (((gt4 is (N jj) F9 X t).2.2 + 7) / 8), nI (gt4 is (N jj) F9 X t).2.2, lN (gt4 is (N jj) F9 X t).2.1, (0 : Int32), so2_85, no2_85) (fun _ _ => ⟨_, _, rfl, rfl, rfl, hg9.1, hg9.2.1, by omega⟩) (hP.sub [1, 2, 0, 3, 4, 5, 6] rfl) (hD.sub [1, 2, 0, 3, 4, 5, 6] (by decide +kernel) rfl) d_M_get_109
              · refine lv_aload_n hx hb d_M_get_93 rfl (lv_at hl 1 rfl) ?_
                refine my_ci (wr := [((g 1), Sum.inl (cI, 512, Sum.inl vCounts)), ((g 0), Sum.inl (cI, 8, Sum.inl vMany)), ((g 3), Sum.inl (cI, 512, Sum.inl vThen)), ((g 8), Sum.inl (cI, 6000, Sum.inl vIn)), ((g 9), Sum.inl (cI, 512, Sum.inl so2_85)), ((g 10), Sum.inl (cI, 512, Sum.inl no2_85))]) (va_runV (As := []) (rest := []) ⟨hx, hb, hml, hown, hts⟩ (c_M_spoiled l dC dI cI cM cO H.size o g 4 fShift fModels fItems fEnded fLow fRange fCache fPend fGoes fOuts (nI is.length) fReads fBad fIR (nI (((gt4 is (N jj) F9 X t).2.2 + 7) / 8)) (nI (gt4 is (N jj) F9 X t).2.2) fCode fRL fRR (lN (gt4 is (N jj) F9 X t).2.1) fWrites 0) (cwV 0 hts (my_gV k1252 k1254 ks58 k12 k1255) rfl rfl rfl (by decide +kernel) ⟨by rw [hR]; exact Nat.le_of_ble_eq_true rfl, by rw [hR]; exact Nat.le_of_ble_eq_true rfl⟩) (my_preV hK hN (hP.sub [1] rfl) (hD.sub [1] (by decide +kernel) rfl) 0 rfl rfl) rfl rfl hl.1 rfl (lv_room (Nat.le_of_ble_eq_true rfl)) d_M_get_94 ⟨by rw [hR]; exact Nat.le_of_ble_eq_true rfl, by rw [hR]; exact Nat.le_of_ble_eq_true rfl⟩) hP hD hS hA [1] [0, 2, 3, 4, 5, 6] rfl rfl (by decide +kernel) (by decide +kernel) (fun r_94 u9 H locs hw_94 hP hD hS => ?_)
                have hw_94 : r_94 = -5 := hw_94
                have hPD : my_PD (dC, dI) vwCl A [((g 1), Sum.inl (cI, 512, Sum.inl vCounts)), ((g 0), Sum.inl (cI, 8, Sum.inl vMany)), ((g 3), Sum.inl (cI, 512, Sum.inl vThen)), ((g 8), Sum.inl (cI, 6000, Sum.inl vIn)), ((g 9), Sum.inl (cI, 512, Sum.inl so2_85)), ((g 10), Sum.inl (cI, 512, Sum.inl no2_85)), (o, Sum.inr (9, mO g 4 fShift fModels fItems fEnded fLow fRange fCache fPend fGoes fOuts (nI is.length) fReads 1 fIR (nI (((gt4 is (N jj) F9 X t).2.2 + 7) / 8)) (nI (gt4 is (N jj) F9 X t).2.2) fCode fRL fRR (lN (gt4 is (N jj) F9 X t).2.1) fWrites 0))] H := ⟨hP, hD⟩
                have hP := hPD.1
                have hD := hPD.2
                exact my_iret (v := r_94) hx hb hr (rfl) hlocks hQ hK hS (Nat.le_refl _) (Nat.le_refl _) ((1 : Int32), fIR, (nI (((gt4 is (N jj) F9 X t).2.2 + 7) / 8)), (nI (gt4 is (N jj) F9 X t).2.2), (lN (gt4 is (N jj) F9 X t).2.1), (0 : Int32), so2_85, no2_85) (fun z1 z2 => absurd z2 (show ¬ (1 : Int32) = 0 by decide)) (hP.sub [6, 1, 0, 2, 3, 4, 5] rfl) (hD.sub [6, 1, 0, 2, 3, 4, 5] (by decide +kernel) rfl) d_M_get_97
            · exact absurd c_6 (by decide)
          · exact absurd c_5 (by decide)
        · exact absurd (by decide) c_4
      · refine lv_bipush (v := (-5)) hx hb d_M_get_32 (by decide) ?_
        exact my_iret (v := (-5)) hx hb hr (rfl) hlocks hQ hK hS (Nat.le_refl _) (Nat.le_refl _) (fBad, fIR, fAsk, fBAsk, fX, (0 : Int32), vSO, vNO) (fun z1 z2 => absurd z2 c_3) (hP.sub [6, 0, 1, 2, 3, 4, 5] rfl) (hD.sub [6, 0, 1, 2, 3, 4, 5] (by decide +kernel) rfl) d_M_get_34
    · refine lv_bipush (v := (-3)) hx hb d_M_get_22 (by decide) ?_
      exact my_iret (v := (-3)) hx hb hr (rfl) hlocks hQ hK hS (Nat.le_refl _) (Nat.le_refl _) (fBad, fIR, fAsk, fBAsk, fX, (0 : Int32), vSO, vNO) (fun z1 z2 => absurd c_2 z1) (hP.sub [6, 0, 1, 2, 3, 4, 5] rfl) (hD.sub [6, 0, 1, 2, 3, 4, 5] (by decide +kernel) rfl) d_M_get_24
  · refine lv_iconst (v := (-1)) hx hb d_M_get_13 (by decide) ?_
    exact my_iret (v := (-1)) hx hb hr (rfl) hlocks hQ hK hS (Nat.le_refl _) (Nat.le_refl _) (fBad, fIR, fAsk, fBAsk, fX, (0 : Int32), vSO, vNO) (fun z1 z2 => RD4_up (hRD z1 z2)) (hP.sub [6, 0, 1, 2, 3, 4, 5] rfl) (hD.sub [6, 0, 1, 2, 3, 4, 5] (by decide +kernel) rfl) d_M_get_14
end
section
theorem r3_ge {x : Int64} {n : Nat} (hx : x = lN n) (hn : n < 4294967296) (c : (8388608 : Int64) ≤ x) : 8388608 ≤ n := by
  rw [hx] at c
  exact (L_le (a := 8388608) (by decide) (by omega)).mp c
end
section
theorem s3_len (f : Nat) : ∀ (k : Nat) (r : Nat × List Nat), (s3N f k r).2.length ≤ r.2.length + k
  | 0, r => Nat.le_refl _
  | k + 1, r => by
    by_cases h : f * 524288 ≤ r.1
    · rw [s3N_s (show 0 < k + 1 from Nat.succ_pos k) h, Nat.add_sub_cancel]
      have := s3_len f k (r.1 / 256, r.2 ++ [r.1 % 256])
      have e : (r.2 ++ [r.1 % 256]).length = r.2.length + 1 := by rw [List.length_append, List.length_singleton]
      have h2 : (s3N f k (r.1 / 256, r.2 ++ [r.1 % 256])).2.length ≤ (r.2 ++ [r.1 % 256]).length + k := this
      omega
    · rw [s3N_e h]; omega
theorem e3_len (Fn : Nat → Nat → Nat) (its : List It) : ∀ (k : Nat) (r : Nat × List Nat), (e3N Fn its k r).2.length ≤ r.2.length + 8 * k
  | 0, r => Nat.le_refl _
  | k + 1, r => by
    have h1 := e3_len Fn its k (s3I (itF 4096 Fn (itA its k)) (itC 4096 Fn (itA its k)) r)
    have h2 := s3_len (itF 4096 Fn (itA its k)) 8 r
    have h3 : (s3I (itF 4096 Fn (itA its k)) (itC 4096 Fn (itA its k)) r).2.length = (s3N (itF 4096 Fn (itA its k)) 8 r).2.length := rfl
    show (e3N Fn its k (s3I (itF 4096 Fn (itA its k)) (itC 4096 Fn (itA its k)) r)).2.length ≤ _
    omega
theorem e3S_len (Fn : Nat → Nat → Nat) (its : List It) : (e3S Fn its).length ≤ 8 * its.length + 4 := by
  unfold e3S
  rw [List.length_append]
  have h1 := e3_len Fn its its.length (8388608, [])
  have h2 : ∀ (x k : Nat), (b4 x k).length = k := by
    intro x k
    induction k generalizing x with
    | zero => rfl
    | succ k ih => rw [b4, List.length_cons, ih]
  rw [h2]
  have h3 : (e3N Fn its its.length (8388608, [])).2.length ≤ 0 + 8 * its.length := h1
  omega
theorem it3_of {km : Nat} {N : Nat → Nat} {vMany vC vNow : Nat → Int32} {it : It} (hM : MD km N vMany vC) (h : itOk 4096 12 km N vNow it) : it3 vNow N (Fvw vNow) it := by
  rcases h with h | ⟨h1, h2, h3, h4, h5, h6⟩
  · exact Or.inl h
  · exact Or.inr ⟨h1, by have := hM.1; omega, (hM.2 _ h2).2.2.1, h3, h4, h5, h6⟩
theorem oct_setx {is : List Nat} {i t : Nat} (h : oct is) (ht : t < 256) : oct (is.set i (byA is i ^^^ t)) := by
  rw [oct_iff] at h ⊢
  intro x hx
  rcases List.mem_or_eq_of_mem_set hx with q | q
  · exact h x q
  · rw [q]
    have h0 : byA is i < 2 ^ 8 := by
      have := oct_iff.mpr h
      exact this i
    exact Nat.xor_lt_two_pow h0 (show t < 2 ^ 8 from ht)
end
section
/-! FORM 4: the end -/
def bt2 (wl : List Nat) : Prop := ∀ x ∈ wl, x < 2
theorem bt2_add {wl : List Nat} {x : Nat} (h : bt2 wl) (hx : x < 2) : bt2 (wl ++ [x]) := by
  intro y hy
  rcases List.mem_append.mp hy with q | q
  · exact h y q
  · rw [List.mem_singleton.mp q]; exact hx
theorem bt2_at {wl : List Nat} {i : Nat} (h : bt2 wl) : byA wl i < 2 := by
  show wl.getD i 0 < 2
  rw [List.getD_eq_getElem?_getD]
  rcases Nat.lt_or_ge i wl.length with q | q
  · rw [List.getElem?_eq_getElem q]; exact h _ (List.getElem_mem q)
  · rw [List.getElem?_eq_none q]; decide
def ldOk (km : Nat) (N : Nat → Nat) (vNow : Nat → Int32) (ld : Int32) (so no : Nat → Int32) : Prop := ld = -1 ∨ ∃ mm, mm < km ∧ ld = nI mm ∧ layd so no (Fvw vNow mm) (N mm)
theorem ld_lay {km mm : Nat} {N : Nat → Nat} {vNow so no : Nat → Int32} (hk : km ≤ 8) (hm : mm < km) (h : ldOk km N vNow (nI mm) so no) : layd so no (Fvw vNow mm) (N mm) := by
  rcases h with e | ⟨m2, h1, h2, h3⟩
  · exfalso
    have h9 : (nI mm).toInt = (-1 : Int32).toInt := by rw [e]
    rw [nI_toInt (by omega)] at h9
    have e1 : (-1 : Int32).toInt = -1 := rfl
    omega
  · have e : mm = m2 := nI_inj (by omega) (by omega) h2
    subst e; exact h3
theorem itm_pos {km M bm : Nat} {N : Nat → Nat} {vNow : Nat → Int32} {it : It} (hk : km ≤ 8) (hb : bm ≤ 12) (h : itOk M bm km N vNow it) : (0 ≤ itM it ↔ ¬ it.1 = 0) := by
  unfold itM
  rcases h with ⟨h1, h2, h3, h4⟩ | ⟨h1, h2, h3⟩
  · rw [if_pos h1]
    constructor
    · intro z
      exfalso
      rw [Int32.le_iff_toInt_le, Int32.toInt_neg, nI_toInt (by omega)] at z
      have e0 : (0 : Int32).toInt = 0 := rfl
      rw [e0] at z
      have e2 : (-(it.2.1 : Int)).bmod (2 ^ 32) = -(it.2.1 : Int) := by
        apply Int.bmod_eq_of_le <;> omega
      rw [e2] at z
      omega
    · intro z; exact absurd h1 z
  · rw [if_neg h1]
    exact ⟨fun _ => h1, fun _ => nI_pos' (by omega)⟩
theorem itm_ng {it : It} (h : it.1 = 0) : -itM it = nI it.2.1 := by
  unfold itM
  rw [if_pos h, Int32.neg_neg]
theorem L_shrV {n j : Nat} (h : n < 2 ^ 62) (hj : j < 9) : lN n >>> ((nI j).toInt64 &&& 63) = lN (n / 2 ^ j) := by
  rcases (show j = 0 ∨ j = 1 ∨ j = 2 ∨ j = 3 ∨ j = 4 ∨ j = 5 ∨ j = 6 ∨ j = 7 ∨ j = 8 by omega) with e | e | e | e | e | e | e | e | e <;> subst e
  · exact pf_shr (d := 0) (by decide +kernel) h
  · exact pf_shr (d := 1) (by decide +kernel) h
  · exact pf_shr (d := 2) (by decide +kernel) h
  · exact pf_shr (d := 3) (by decide +kernel) h
  · exact pf_shr (d := 4) (by decide +kernel) h
  · exact pf_shr (d := 5) (by decide +kernel) h
  · exact pf_shr (d := 6) (by decide +kernel) h
  · exact pf_shr (d := 7) (by decide +kernel) h
  · exact pf_shr (d := 8) (by decide +kernel) h
theorem I_shl {n s : Nat} (hs : s < 32) (h : n * 2 ^ s < 2 ^ 32) : nI n <<< (nI s &&& 31) = nI (n * 2 ^ s) := pk_shlN _ s (sl32 s hs) h
theorem pw_lt {b n x : Nat} (hb : b < 2 ^ n) (hx : x < 2) : 2 * b + x < 2 ^ (n + 1) := by
  rw [Nat.pow_succ]; omega
theorem pw8 {b n : Nat} (h1 : b < 2 ^ n) (hn : n ≤ 8) : b * 2 ^ (8 - n) < 256 := by
  have h2 : b * 2 ^ (8 - n) < 2 ^ n * 2 ^ (8 - n) := Nat.mul_lt_mul_of_pos_right h1 (Nat.two_pow_pos _)
  rw [← Nat.pow_add, show n + (8 - n) = 8 by omega] at h2
  exact h2
theorem pw7 {b n : Nat} (h1 : b < 2 ^ n) (hn : n ≤ 8) : b < 256 := Nat.lt_of_lt_of_le h1 (Nat.le_trans (Nat.pow_le_pow_right (by decide) hn) (by decide))
theorem hv_st {V c : Nat} (h : V < 2 ^ (10 - c)) (hc : c < 9) : V / 2 < 2 ^ (10 - (c + 1)) := by
  have e : 10 - c = (10 - (c + 1)) + 1 := by omega
  rw [e, Nat.pow_succ] at h
  omega
theorem hc_lt {V c : Nat} (h : V < 2 ^ (10 - c)) (hc : c ≤ 9) (h2 : 2 ≤ V) : c < 9 := by
  rcases Nat.lt_or_ge c 9 with z | z
  · exact z
  · have e : c = 9 := by omega
    subst e
    have h : V < 2 := h
    omega
theorem hv_lt {V c : Nat} (h : V < 2 ^ (10 - c)) : V < 1024 := Nat.lt_of_lt_of_le h (Nat.le_trans (Nat.pow_le_pow_right (by decide) (show 10 - c ≤ 10 by omega)) (by decide))
end
section
def nearM (v lo hi : Int32) : Int32 := if lo < (if v < hi then v else hi) then (if v < hi then v else hi) else lo
theorem near_lo {v lo hi : Int32} (h : ¬ lo ≤ v) (hh : lo < hi) : nearM v lo hi = lo := by
  unfold nearM
  rw [Int32.le_iff_toInt_le] at h
  rw [Int32.lt_iff_toInt_lt] at hh
  rw [if_pos (show v < hi by rw [Int32.lt_iff_toInt_lt]; omega), if_neg (by rw [Int32.lt_iff_toInt_lt]; omega)]
theorem near_hi {v lo hi : Int32} (h : ¬ v ≤ hi) (hh : lo < hi) : nearM v lo hi = hi := by
  unfold nearM
  rw [Int32.le_iff_toInt_le] at h
  rw [if_neg (show ¬ v < hi by rw [Int32.lt_iff_toInt_lt]; omega), if_pos hh]
theorem near_mid {v lo hi : Int32} (h : lo ≤ v) (h2 : v ≤ hi) : nearM v lo hi = v := by
  unfold nearM
  rw [Int32.le_iff_toInt_le] at h h2
  have e : (if v < hi then v else hi) = v := by
    split
    · rfl
    · rename_i z
      rw [Int32.lt_iff_toInt_lt] at z
      exact Int32.toInt_inj.mp (by omega)
  rw [e]
  split
  · rfl
  · rename_i z
    rw [Int32.lt_iff_toInt_lt] at z
    exact Int32.toInt_inj.mp (by omega)
theorem near_n (v : Int32) {a b : Nat} (hab : a < b) (hb : b < 2 ^ 31) : ∃ n, a ≤ n ∧ n ≤ b ∧ nearM v (nI a) (nI b) = nI n := by
  by_cases h1 : nI a ≤ v
  · by_cases h2 : v ≤ nI b
    · rw [near_mid h1 h2]; exact in_of2 (by omega) hb ⟨h1, h2⟩
    · exact ⟨b, by omega, Nat.le_refl _, near_hi h2 (nI_lt hab hb)⟩
  · exact ⟨a, Nat.le_refl _, by omega, near_lo h1 (nI_lt hab hb)⟩
set_option maxHeartbeats 2000000 in
set_option maxRecDepth 100000 in
theorem c_M_init (l : Launch) (dC : Nat → ClassId) (dI : Nat → Nat → Nat) (cI cM cO : ClassId) (sz : Nat) (sl : Nat) (o : Nat) (p1 : Int32) (p2 : Int32) : MetVg l y_M_init (Cond.code y_M_init prog_14_method_1_code 3 none :: gw) ({ frames := 4, cells := 50000, slots := 50000, locals := 96 } : Room) (dC, dI) vwCl (kT cI cM cO) [Value.ref o, Value.int p1, Value.int p2] [(o, Sum.inr (9, [Value.int 0, Value.int 0, Value.int 0, Value.null, Value.null, Value.null, Value.null, Value.int 0, Value.null, Value.null, Value.int 0, Value.long 0, Value.long 0, Value.int 0, Value.int 0, Value.null, Value.int 0, Value.null, Value.int 0, Value.null, Value.int 0, Value.int 0, Value.int 0, Value.int 0, Value.int 0, Value.int 0, Value.long 0, Value.long 0, Value.long 0, Value.long 0, Value.null, Value.null, Value.null, Value.int 0, Value.int 0]))] sz sl (fun (u : (Nat → Nat) × Int32 × Int32 × (Nat → Int32)) => u.2.1 = nearM p1 0 4 ∧ u.2.2.1 = nearM p2 1 10) (fun (u : (Nat → Nat) × Int32 × Int32 × (Nat → Int32)) => [(o, Sum.inr (9, mO u.1 u.2.1 u.2.2.1 0 0 0 0 4294967295 (-1) 0 0 0 0 0 0 0 0 0 0 0 0 0 0 0)), ((u.1 0), Sum.inl (cI, 8, Sum.inl (fun _ => 0))), ((u.1 1), Sum.inl (cI, 512, Sum.inl (fun _ => 0))), ((u.1 2), Sum.inl (cI, 512, Sum.inl u.2.2.2)), ((u.1 3), Sum.inl (cI, 512, Sum.inl (fun _ => 0))), ((u.1 4), Sum.inl (cI, 600, Sum.inl (fun _ => 0))), ((u.1 5), Sum.inl (cI, 600, Sum.inl (fun _ => 0))), ((u.1 6), Sum.inl (cI, 9000, Sum.inl (fun _ => 0))), ((u.1 7), Sum.inl (cI, 9000, Sum.inl (fun _ => 0))), ((u.1 8), Sum.inl (cI, 6000, Sum.inl (fun _ => 0))), ((u.1 9), Sum.inl (cI, 512, Sum.inl (fun _ => 0))), ((u.1 10), Sum.inl (cI, 512, Sum.inl (fun _ => 0))), ((u.1 11), Sum.inl (cI, 20000, Sum.inl (fun _ => 0)))]) 50000 (fun (u : (Nat → Nat) × Int32 × Int32 × (Nat → Int32)) => 0) := by
  refine my_ofVg (cc := prog_14_method_1_code) (n := 3) (ret := none) (by decide) rfl (Nat.le_of_ble_eq_true rfl) ?_
  intro p e s m args below meth c R Q A ls H locs hx hb hr hts hown hlocks hml hnm hR hQ hA hl hP hK hN hD hS
  have hg : ∀ w ∈ gw, w.before args s = true := fun w h => hts w (List.mem_cons_of_mem _ h)
  have hown : s.vm.findClass "RangeCodersModel" = some m.cls := hown
  replace hl : lv_has ls 3 [(0, Value.ref o), (1, Value.int p1), (2, Value.int p2)] := hl
  refine lv_aload_n hx hb d_M_init_0 rfl (lv_at hl 0 rfl) ?_
  refine W.objInit hx hb hown (hg _ k922) (hg _ k23) (hg _ k24) rfl (by rw [hml]; exact hl.1) rfl d_M_init_1 (by rw [hR]; exact Nat.le_of_ble_eq_true rfl) (by rw [hR]; exact Nat.le_of_ble_eq_true rfl) ?_
  refine W.eq (g2 := F0 m 4 ls []) rfl ?_
  refine lv_aload_n hx hb d_M_init_4 rfl (lv_at hl 0 rfl) ?_
  refine lv_bipush (v := 8) hx hb d_M_init_5 (by decide) ?_
  refine my_newi hx hb (hg _ k66) hK 0 rfl hP hD hS hA (N' := 8) (by decide) (rfl) (by decide) (by rw [hR]; exact (show 0 + 1 ≤ 50000 by decide)) (by rw [hR]; exact (show 0 + 8 ≤ 50000 by decide)) d_M_init_7 (fun q_1 _ _ _ _ => ?_)
  clear hP hD hS
  rename_i H hP hD hS
  have hPD : my_PD (dC, dI) vwCl A [(o, Sum.inr (9, [Value.int 0, Value.int 0, Value.int 0, Value.null, Value.null, Value.null, Value.null, Value.int 0, Value.null, Value.null, Value.int 0, Value.long 0, Value.long 0, Value.int 0, Value.int 0, Value.null, Value.int 0, Value.null, Value.int 0, Value.null, Value.int 0, Value.int 0, Value.int 0, Value.int 0, Value.int 0, Value.int 0, Value.long 0, Value.long 0, Value.long 0, Value.long 0, Value.null, Value.null, Value.null, Value.int 0, Value.int 0])), (q_1, Sum.inl (cI, 8, Sum.inl (fun _ => 0)))] H := ⟨hP, hD⟩
  clear hP hD
  have hP := hPD.1
  have hD := hPD.2
  clear hPD
  refine va_putF (D := (dC, dI)) (ci := 9) (v := .ref q_1) (ty := (.array .int)) (C := "RangeCodersModel") (T := T_M) (N := 35) hx hb hg in_M t_M o_M n_M hown hK hP hD hS 0 rfl rfl 3 (by decide) (hg _ k955) (fun _ h9 => h9) rfl (by rw [hnm]; rfl) rfl (by decide +kernel) rfl rfl (Nat.le_of_ble_eq_true rfl) d_M_init_9 (fun _ _ _ _ _ => ?_)
  clear hP hD hS
  rename_i H locs hP hD hS
  have hPD : my_PD (dC, dI) vwCl A [(o, Sum.inr (9, [Value.int 0, Value.int 0, Value.int 0, Value.ref q_1, Value.null, Value.null, Value.null, Value.int 0, Value.null, Value.null, Value.int 0, Value.long 0, Value.long 0, Value.int 0, Value.int 0, Value.null, Value.int 0, Value.null, Value.int 0, Value.null, Value.int 0, Value.int 0, Value.int 0, Value.int 0, Value.int 0, Value.int 0, Value.long 0, Value.long 0, Value.long 0, Value.long 0, Value.null, Value.null, Value.null, Value.int 0, Value.int 0])), (q_1, Sum.inl (cI, 8, Sum.inl (fun _ => 0)))] H := ⟨hP, hD⟩
  clear hP hD
  have hP := hPD.1
  have hD := hPD.2
  clear hPD
  refine lv_aload_n hx hb d_M_init_12 rfl (lv_at hl 0 rfl) ?_
  refine lv_sipush (v := 512) hx hb d_M_init_13 (by decide) ?_
  refine my_newi hx hb (hg _ k66) hK 0 rfl hP hD hS hA (N' := 512) (by decide) (rfl) (by decide) (by rw [hR]; exact (show 0 + 1 + 1 ≤ 50000 by decide)) (by rw [hR]; exact (show 0 + 8 + 512 ≤ 50000 by decide)) d_M_init_16 (fun q_2 _ _ _ _ => ?_)
  clear hP hD hS
  rename_i H hP hD hS
  have hPD : my_PD (dC, dI) vwCl A [(o, Sum.inr (9, [Value.int 0, Value.int 0, Value.int 0, Value.ref q_1, Value.null, Value.null, Value.null, Value.int 0, Value.null, Value.null, Value.int 0, Value.long 0, Value.long 0, Value.int 0, Value.int 0, Value.null, Value.int 0, Value.null, Value.int 0, Value.null, Value.int 0, Value.int 0, Value.int 0, Value.int 0, Value.int 0, Value.int 0, Value.long 0, Value.long 0, Value.long 0, Value.long 0, Value.null, Value.null, Value.null, Value.int 0, Value.int 0])), (q_1, Sum.inl (cI, 8, Sum.inl (fun _ => 0))), (q_2, Sum.inl (cI, 512, Sum.inl (fun _ => 0)))] H := ⟨hP, hD⟩
  clear hP hD
  have hP := hPD.1
  have hD := hPD.2
  clear hPD
  refine va_putF (D := (dC, dI)) (ci := 9) (v := .ref q_2) (ty := (.array .int)) (C := "RangeCodersModel") (T := T_M) (N := 35) hx hb hg in_M t_M o_M n_M hown hK hP hD hS 0 rfl rfl 4 (by decide) (hg _ k956) (fun _ h9 => h9) rfl (by rw [hnm]; rfl) rfl (by decide +kernel) rfl rfl (Nat.le_of_ble_eq_true rfl) d_M_init_18 (fun _ _ _ _ _ => ?_)
  clear hP hD hS
  rename_i H locs hP hD hS
  have hPD : my_PD (dC, dI) vwCl A [(o, Sum.inr (9, [Value.int 0, Value.int 0, Value.int 0, Value.ref q_1, Value.ref q_2, Value.null, Value.null, Value.int 0, Value.null, Value.null, Value.int 0, Value.long 0, Value.long 0, Value.int 0, Value.int 0, Value.null, Value.int 0, Value.null, Value.int 0, Value.null, Value.int 0, Value.int 0, Value.int 0, Value.int 0, Value.int 0, Value.int 0, Value.long 0, Value.long 0, Value.long 0, Value.long 0, Value.null, Value.null, Value.null, Value.int 0, Value.int 0])), (q_1, Sum.inl (cI, 8, Sum.inl (fun _ => 0))), (q_2, Sum.inl (cI, 512, Sum.inl (fun _ => 0)))] H := ⟨hP, hD⟩
  clear hP hD
  have hP := hPD.1
  have hD := hPD.2
  clear hPD
  refine lv_aload_n hx hb d_M_init_21 rfl (lv_at hl 0 rfl) ?_
  refine lv_sipush (v := 512) hx hb d_M_init_22 (by decide) ?_
  refine my_newi hx hb (hg _ k66) hK 0 rfl hP hD hS hA (N' := 512) (by decide) (rfl) (by decide) (by rw [hR]; exact (show 0 + 1 + 1 + 1 ≤ 50000 by decide)) (by rw [hR]; exact (show 0 + 8 + 512 + 512 ≤ 50000 by decide)) d_M_init_25 (fun q_3 _ _ _ _ => ?_)
  clear hP hD hS
  rename_i H hP hD hS
  have hPD : my_PD (dC, dI) vwCl A [(o, Sum.inr (9, [Value.int 0, Value.int 0, Value.int 0, Value.ref q_1, Value.ref q_2, Value.null, Value.null, Value.int 0, Value.null, Value.null, Value.int 0, Value.long 0, Value.long 0, Value.int 0, Value.int 0, Value.null, Value.int 0, Value.null, Value.int 0, Value.null, Value.int 0, Value.int 0, Value.int 0, Value.int 0, Value.int 0, Value.int 0, Value.long 0, Value.long 0, Value.long 0, Value.long 0, Value.null, Value.null, Value.null, Value.int 0, Value.int 0])), (q_1, Sum.inl (cI, 8, Sum.inl (fun _ => 0))), (q_2, Sum.inl (cI, 512, Sum.inl (fun _ => 0))), (q_3, Sum.inl (cI, 512, Sum.inl (fun _ => 0)))] H := ⟨hP, hD⟩
  clear hP hD
  have hP := hPD.1
  have hD := hPD.2
  clear hPD
  refine va_putF (D := (dC, dI)) (ci := 9) (v := .ref q_3) (ty := (.array .int)) (C := "RangeCodersModel") (T := T_M) (N := 35) hx hb hg in_M t_M o_M n_M hown hK hP hD hS 0 rfl rfl 5 (by decide) (hg _ k957) (fun _ h9 => h9) rfl (by rw [hnm]; rfl) rfl (by decide +kernel) rfl rfl (Nat.le_of_ble_eq_true rfl) d_M_init_27 (fun _ _ _ _ _ => ?_)
  clear hP hD hS
  rename_i H locs hP hD hS
  have hPD : my_PD (dC, dI) vwCl A [(o, Sum.inr (9, [Value.int 0, Value.int 0, Value.int 0, Value.ref q_1, Value.ref q_2, Value.ref q_3, Value.null, Value.int 0, Value.null, Value.null, Value.int 0, Value.long 0, Value.long 0, Value.int 0, Value.int 0, Value.null, Value.int 0, Value.null, Value.int 0, Value.null, Value.int 0, Value.int 0, Value.int 0, Value.int 0, Value.int 0, Value.int 0, Value.long 0, Value.long 0, Value.long 0, Value.long 0, Value.null, Value.null, Value.null, Value.int 0, Value.int 0])), (q_1, Sum.inl (cI, 8, Sum.inl (fun _ => 0))), (q_2, Sum.inl (cI, 512, Sum.inl (fun _ => 0))), (q_3, Sum.inl (cI, 512, Sum.inl (fun _ => 0)))] H := ⟨hP, hD⟩
  clear hP hD
  have hP := hPD.1
  have hD := hPD.2
  clear hPD
  refine lv_aload_n hx hb d_M_init_30 rfl (lv_at hl 0 rfl) ?_
  refine lv_sipush (v := 512) hx hb d_M_init_31 (by decide) ?_
  refine my_newi hx hb (hg _ k66) hK 0 rfl hP hD hS hA (N' := 512) (by decide) (rfl) (by decide) (by rw [hR]; exact (show 0 + 1 + 1 + 1 + 1 ≤ 50000 by decide)) (by rw [hR]; exact (show 0 + 8 + 512 + 512 + 512 ≤ 50000 by decide)) d_M_init_34 (fun q_4 _ _ _ _ => ?_)
  clear hP hD hS
  rename_i H hP hD hS
  have hPD : my_PD (dC, dI) vwCl A [(o, Sum.inr (9, [Value.int 0, Value.int 0, Value.int 0, Value.ref q_1, Value.ref q_2, Value.ref q_3, Value.null, Value.int 0, Value.null, Value.null, Value.int 0, Value.long 0, Value.long 0, Value.int 0, Value.int 0, Value.null, Value.int 0, Value.null, Value.int 0, Value.null, Value.int 0, Value.int 0, Value.int 0, Value.int 0, Value.int 0, Value.int 0, Value.long 0, Value.long 0, Value.long 0, Value.long 0, Value.null, Value.null, Value.null, Value.int 0, Value.int 0])), (q_1, Sum.inl (cI, 8, Sum.inl (fun _ => 0))), (q_2, Sum.inl (cI, 512, Sum.inl (fun _ => 0))), (q_3, Sum.inl (cI, 512, Sum.inl (fun _ => 0))), (q_4, Sum.inl (cI, 512, Sum.inl (fun _ => 0)))] H := ⟨hP, hD⟩
  clear hP hD
  have hP := hPD.1
  have hD := hPD.2
  clear hPD
  refine va_putF (D := (dC, dI)) (ci := 9) (v := .ref q_4) (ty := (.array .int)) (C := "RangeCodersModel") (T := T_M) (N := 35) hx hb hg in_M t_M o_M n_M hown hK hP hD hS 0 rfl rfl 6 (by decide) (hg _ k958) (fun _ h9 => h9) rfl (by rw [hnm]; rfl) rfl (by decide +kernel) rfl rfl (Nat.le_of_ble_eq_true rfl) d_M_init_36 (fun _ _ _ _ _ => ?_)
  clear hP hD hS
  rename_i H locs hP hD hS
  have hPD : my_PD (dC, dI) vwCl A [(o, Sum.inr (9, [Value.int 0, Value.int 0, Value.int 0, Value.ref q_1, Value.ref q_2, Value.ref q_3, Value.ref q_4, Value.int 0, Value.null, Value.null, Value.int 0, Value.long 0, Value.long 0, Value.int 0, Value.int 0, Value.null, Value.int 0, Value.null, Value.int 0, Value.null, Value.int 0, Value.int 0, Value.int 0, Value.int 0, Value.int 0, Value.int 0, Value.long 0, Value.long 0, Value.long 0, Value.long 0, Value.null, Value.null, Value.null, Value.int 0, Value.int 0])), (q_1, Sum.inl (cI, 8, Sum.inl (fun _ => 0))), (q_2, Sum.inl (cI, 512, Sum.inl (fun _ => 0))), (q_3, Sum.inl (cI, 512, Sum.inl (fun _ => 0))), (q_4, Sum.inl (cI, 512, Sum.inl (fun _ => 0)))] H := ⟨hP, hD⟩
  clear hP hD
  have hP := hPD.1
  have hD := hPD.2
  clear hPD
  refine lv_aload_n hx hb d_M_init_39 rfl (lv_at hl 0 rfl) ?_
  refine lv_sipush (v := 600) hx hb d_M_init_40 (by decide) ?_
  refine my_newi hx hb (hg _ k66) hK 0 rfl hP hD hS hA (N' := 600) (by decide) (rfl) (by decide) (by rw [hR]; exact (show 0 + 1 + 1 + 1 + 1 + 1 ≤ 50000 by decide)) (by rw [hR]; exact (show 0 + 8 + 512 + 512 + 512 + 600 ≤ 50000 by decide)) d_M_init_43 (fun q_5 _ _ _ _ => ?_)
  clear hP hD hS
  rename_i H hP hD hS
  have hPD : my_PD (dC, dI) vwCl A [(o, Sum.inr (9, [Value.int 0, Value.int 0, Value.int 0, Value.ref q_1, Value.ref q_2, Value.ref q_3, Value.ref q_4, Value.int 0, Value.null, Value.null, Value.int 0, Value.long 0, Value.long 0, Value.int 0, Value.int 0, Value.null, Value.int 0, Value.null, Value.int 0, Value.null, Value.int 0, Value.int 0, Value.int 0, Value.int 0, Value.int 0, Value.int 0, Value.long 0, Value.long 0, Value.long 0, Value.long 0, Value.null, Value.null, Value.null, Value.int 0, Value.int 0])), (q_1, Sum.inl (cI, 8, Sum.inl (fun _ => 0))), (q_2, Sum.inl (cI, 512, Sum.inl (fun _ => 0))), (q_3, Sum.inl (cI, 512, Sum.inl (fun _ => 0))), (q_4, Sum.inl (cI, 512, Sum.inl (fun _ => 0))), (q_5, Sum.inl (cI, 600, Sum.inl (fun _ => 0)))] H := ⟨hP, hD⟩
  clear hP hD
  have hP := hPD.1
  have hD := hPD.2
  clear hPD
  refine va_putF (D := (dC, dI)) (ci := 9) (v := .ref q_5) (ty := (.array .int)) (C := "RangeCodersModel") (T := T_M) (N := 35) hx hb hg in_M t_M o_M n_M hown hK hP hD hS 0 rfl rfl 8 (by decide) (hg _ k960) (fun _ h9 => h9) rfl (by rw [hnm]; rfl) rfl (by decide +kernel) rfl rfl (Nat.le_of_ble_eq_true rfl) d_M_init_45 (fun _ _ _ _ _ => ?_)
  clear hP hD hS
  rename_i H locs hP hD hS
  have hPD : my_PD (dC, dI) vwCl A [(o, Sum.inr (9, [Value.int 0, Value.int 0, Value.int 0, Value.ref q_1, Value.ref q_2, Value.ref q_3, Value.ref q_4, Value.int 0, Value.ref q_5, Value.null, Value.int 0, Value.long 0, Value.long 0, Value.int 0, Value.int 0, Value.null, Value.int 0, Value.null, Value.int 0, Value.null, Value.int 0, Value.int 0, Value.int 0, Value.int 0, Value.int 0, Value.int 0, Value.long 0, Value.long 0, Value.long 0, Value.long 0, Value.null, Value.null, Value.null, Value.int 0, Value.int 0])), (q_1, Sum.inl (cI, 8, Sum.inl (fun _ => 0))), (q_2, Sum.inl (cI, 512, Sum.inl (fun _ => 0))), (q_3, Sum.inl (cI, 512, Sum.inl (fun _ => 0))), (q_4, Sum.inl (cI, 512, Sum.inl (fun _ => 0))), (q_5, Sum.inl (cI, 600, Sum.inl (fun _ => 0)))] H := ⟨hP, hD⟩
  clear hP hD
  have hP := hPD.1
  have hD := hPD.2
  clear hPD
  refine lv_aload_n hx hb d_M_init_48 rfl (lv_at hl 0 rfl) ?_
  refine lv_sipush (v := 600) hx hb d_M_init_49 (by decide) ?_
  refine my_newi hx hb (hg _ k66) hK 0 rfl hP hD hS hA (N' := 600) (by decide) (rfl) (by decide) (by rw [hR]; exact (show 0 + 1 + 1 + 1 + 1 + 1 + 1 ≤ 50000 by decide)) (by rw [hR]; exact (show 0 + 8 + 512 + 512 + 512 + 600 + 600 ≤ 50000 by decide)) d_M_init_52 (fun q_6 _ _ _ _ => ?_)
  clear hP hD hS
  rename_i H hP hD hS
  have hPD : my_PD (dC, dI) vwCl A [(o, Sum.inr (9, [Value.int 0, Value.int 0, Value.int 0, Value.ref q_1, Value.ref q_2, Value.ref q_3, Value.ref q_4, Value.int 0, Value.ref q_5, Value.null, Value.int 0, Value.long 0, Value.long 0, Value.int 0, Value.int 0, Value.null, Value.int 0, Value.null, Value.int 0, Value.null, Value.int 0, Value.int 0, Value.int 0, Value.int 0, Value.int 0, Value.int 0, Value.long 0, Value.long 0, Value.long 0, Value.long 0, Value.null, Value.null, Value.null, Value.int 0, Value.int 0])), (q_1, Sum.inl (cI, 8, Sum.inl (fun _ => 0))), (q_2, Sum.inl (cI, 512, Sum.inl (fun _ => 0))), (q_3, Sum.inl (cI, 512, Sum.inl (fun _ => 0))), (q_4, Sum.inl (cI, 512, Sum.inl (fun _ => 0))), (q_5, Sum.inl (cI, 600, Sum.inl (fun _ => 0))), (q_6, Sum.inl (cI, 600, Sum.inl (fun _ => 0)))] H := ⟨hP, hD⟩
  clear hP hD
  have hP := hPD.1
  have hD := hPD.2
  clear hPD
  refine va_putF (D := (dC, dI)) (ci := 9) (v := .ref q_6) (ty := (.array .int)) (C := "RangeCodersModel") (T := T_M) (N := 35) hx hb hg in_M t_M o_M n_M hown hK hP hD hS 0 rfl rfl 9 (by decide) (hg _ k961) (fun _ h9 => h9) rfl (by rw [hnm]; rfl) rfl (by decide +kernel) rfl rfl (Nat.le_of_ble_eq_true rfl) d_M_init_54 (fun _ _ _ _ _ => ?_)
  clear hP hD hS
  rename_i H locs hP hD hS
  have hPD : my_PD (dC, dI) vwCl A [(o, Sum.inr (9, [Value.int 0, Value.int 0, Value.int 0, Value.ref q_1, Value.ref q_2, Value.ref q_3, Value.ref q_4, Value.int 0, Value.ref q_5, Value.ref q_6, Value.int 0, Value.long 0, Value.long 0, Value.int 0, Value.int 0, Value.null, Value.int 0, Value.null, Value.int 0, Value.null, Value.int 0, Value.int 0, Value.int 0, Value.int 0, Value.int 0, Value.int 0, Value.long 0, Value.long 0, Value.long 0, Value.long 0, Value.null, Value.null, Value.null, Value.int 0, Value.int 0])), (q_1, Sum.inl (cI, 8, Sum.inl (fun _ => 0))), (q_2, Sum.inl (cI, 512, Sum.inl (fun _ => 0))), (q_3, Sum.inl (cI, 512, Sum.inl (fun _ => 0))), (q_4, Sum.inl (cI, 512, Sum.inl (fun _ => 0))), (q_5, Sum.inl (cI, 600, Sum.inl (fun _ => 0))), (q_6, Sum.inl (cI, 600, Sum.inl (fun _ => 0)))] H := ⟨hP, hD⟩
  clear hP hD
  have hP := hPD.1
  have hD := hPD.2
  clear hPD
  refine lv_aload_n hx hb d_M_init_57 rfl (lv_at hl 0 rfl) ?_
  refine lv_sipush (v := 9000) hx hb d_M_init_58 (by decide) ?_
  refine my_newi hx hb (hg _ k66) hK 0 rfl hP hD hS hA (N' := 9000) (by decide) (rfl) (by decide) (by rw [hR]; exact (show 0 + 1 + 1 + 1 + 1 + 1 + 1 + 1 ≤ 50000 by decide)) (by rw [hR]; exact (show 0 + 8 + 512 + 512 + 512 + 600 + 600 + 9000 ≤ 50000 by decide)) d_M_init_61 (fun q_7 _ _ _ _ => ?_)
  clear hP hD hS
  rename_i H hP hD hS
  have hPD : my_PD (dC, dI) vwCl A [(o, Sum.inr (9, [Value.int 0, Value.int 0, Value.int 0, Value.ref q_1, Value.ref q_2, Value.ref q_3, Value.ref q_4, Value.int 0, Value.ref q_5, Value.ref q_6, Value.int 0, Value.long 0, Value.long 0, Value.int 0, Value.int 0, Value.null, Value.int 0, Value.null, Value.int 0, Value.null, Value.int 0, Value.int 0, Value.int 0, Value.int 0, Value.int 0, Value.int 0, Value.long 0, Value.long 0, Value.long 0, Value.long 0, Value.null, Value.null, Value.null, Value.int 0, Value.int 0])), (q_1, Sum.inl (cI, 8, Sum.inl (fun _ => 0))), (q_2, Sum.inl (cI, 512, Sum.inl (fun _ => 0))), (q_3, Sum.inl (cI, 512, Sum.inl (fun _ => 0))), (q_4, Sum.inl (cI, 512, Sum.inl (fun _ => 0))), (q_5, Sum.inl (cI, 600, Sum.inl (fun _ => 0))), (q_6, Sum.inl (cI, 600, Sum.inl (fun _ => 0))), (q_7, Sum.inl (cI, 9000, Sum.inl (fun _ => 0)))] H := ⟨hP, hD⟩
  clear hP hD
  have hP := hPD.1
  have hD := hPD.2
  clear hPD
  refine va_putF (D := (dC, dI)) (ci := 9) (v := .ref q_7) (ty := (.array .int)) (C := "RangeCodersModel") (T := T_M) (N := 35) hx hb hg in_M t_M o_M n_M hown hK hP hD hS 0 rfl rfl 15 (by decide) (hg _ k967) (fun _ h9 => h9) rfl (by rw [hnm]; rfl) rfl (by decide +kernel) rfl rfl (Nat.le_of_ble_eq_true rfl) d_M_init_63 (fun _ _ _ _ _ => ?_)
  clear hP hD hS
  rename_i H locs hP hD hS
  have hPD : my_PD (dC, dI) vwCl A [(o, Sum.inr (9, [Value.int 0, Value.int 0, Value.int 0, Value.ref q_1, Value.ref q_2, Value.ref q_3, Value.ref q_4, Value.int 0, Value.ref q_5, Value.ref q_6, Value.int 0, Value.long 0, Value.long 0, Value.int 0, Value.int 0, Value.ref q_7, Value.int 0, Value.null, Value.int 0, Value.null, Value.int 0, Value.int 0, Value.int 0, Value.int 0, Value.int 0, Value.int 0, Value.long 0, Value.long 0, Value.long 0, Value.long 0, Value.null, Value.null, Value.null, Value.int 0, Value.int 0])), (q_1, Sum.inl (cI, 8, Sum.inl (fun _ => 0))), (q_2, Sum.inl (cI, 512, Sum.inl (fun _ => 0))), (q_3, Sum.inl (cI, 512, Sum.inl (fun _ => 0))), (q_4, Sum.inl (cI, 512, Sum.inl (fun _ => 0))), (q_5, Sum.inl (cI, 600, Sum.inl (fun _ => 0))), (q_6, Sum.inl (cI, 600, Sum.inl (fun _ => 0))), (q_7, Sum.inl (cI, 9000, Sum.inl (fun _ => 0)))] H := ⟨hP, hD⟩
  clear hP hD
  have hP := hPD.1
  have hD := hPD.2
  clear hPD
  refine lv_aload_n hx hb d_M_init_66 rfl (lv_at hl 0 rfl) ?_
  refine lv_sipush (v := 9000) hx hb d_M_init_67 (by decide) ?_
  refine my_newi hx hb (hg _ k66) hK 0 rfl hP hD hS hA (N' := 9000) (by decide) (rfl) (by decide) (by rw [hR]; exact (show 0 + 1 + 1 + 1 + 1 + 1 + 1 + 1 + 1 ≤ 50000 by decide)) (by rw [hR]; exact (show 0 + 8 + 512 + 512 + 512 + 600 + 600 + 9000 + 9000 ≤ 50000 by decide)) d_M_init_70 (fun q_8 _ _ _ _ => ?_)
  clear hP hD hS
  rename_i H hP hD hS
  have hPD : my_PD (dC, dI) vwCl A [(o, Sum.inr (9, [Value.int 0, Value.int 0, Value.int 0, Value.ref q_1, Value.ref q_2, Value.ref q_3, Value.ref q_4, Value.int 0, Value.ref q_5, Value.ref q_6, Value.int 0, Value.long 0, Value.long 0, Value.int 0, Value.int 0, Value.ref q_7, Value.int 0, Value.null, Value.int 0, Value.null, Value.int 0, Value.int 0, Value.int 0, Value.int 0, Value.int 0, Value.int 0, Value.long 0, Value.long 0, Value.long 0, Value.long 0, Value.null, Value.null, Value.null, Value.int 0, Value.int 0])), (q_1, Sum.inl (cI, 8, Sum.inl (fun _ => 0))), (q_2, Sum.inl (cI, 512, Sum.inl (fun _ => 0))), (q_3, Sum.inl (cI, 512, Sum.inl (fun _ => 0))), (q_4, Sum.inl (cI, 512, Sum.inl (fun _ => 0))), (q_5, Sum.inl (cI, 600, Sum.inl (fun _ => 0))), (q_6, Sum.inl (cI, 600, Sum.inl (fun _ => 0))), (q_7, Sum.inl (cI, 9000, Sum.inl (fun _ => 0))), (q_8, Sum.inl (cI, 9000, Sum.inl (fun _ => 0)))] H := ⟨hP, hD⟩
  clear hP hD
  have hP := hPD.1
  have hD := hPD.2
  clear hPD
  refine va_putF (D := (dC, dI)) (ci := 9) (v := .ref q_8) (ty := (.array .int)) (C := "RangeCodersModel") (T := T_M) (N := 35) hx hb hg in_M t_M o_M n_M hown hK hP hD hS 0 rfl rfl 17 (by decide) (hg _ k969) (fun _ h9 => h9) rfl (by rw [hnm]; rfl) rfl (by decide +kernel) rfl rfl (Nat.le_of_ble_eq_true rfl) d_M_init_72 (fun _ _ _ _ _ => ?_)
  clear hP hD hS
  rename_i H locs hP hD hS
  have hPD : my_PD (dC, dI) vwCl A [(o, Sum.inr (9, [Value.int 0, Value.int 0, Value.int 0, Value.ref q_1, Value.ref q_2, Value.ref q_3, Value.ref q_4, Value.int 0, Value.ref q_5, Value.ref q_6, Value.int 0, Value.long 0, Value.long 0, Value.int 0, Value.int 0, Value.ref q_7, Value.int 0, Value.ref q_8, Value.int 0, Value.null, Value.int 0, Value.int 0, Value.int 0, Value.int 0, Value.int 0, Value.int 0, Value.long 0, Value.long 0, Value.long 0, Value.long 0, Value.null, Value.null, Value.null, Value.int 0, Value.int 0])), (q_1, Sum.inl (cI, 8, Sum.inl (fun _ => 0))), (q_2, Sum.inl (cI, 512, Sum.inl (fun _ => 0))), (q_3, Sum.inl (cI, 512, Sum.inl (fun _ => 0))), (q_4, Sum.inl (cI, 512, Sum.inl (fun _ => 0))), (q_5, Sum.inl (cI, 600, Sum.inl (fun _ => 0))), (q_6, Sum.inl (cI, 600, Sum.inl (fun _ => 0))), (q_7, Sum.inl (cI, 9000, Sum.inl (fun _ => 0))), (q_8, Sum.inl (cI, 9000, Sum.inl (fun _ => 0)))] H := ⟨hP, hD⟩
  clear hP hD
  have hP := hPD.1
  have hD := hPD.2
  clear hPD
  refine lv_aload_n hx hb d_M_init_75 rfl (lv_at hl 0 rfl) ?_
  refine lv_sipush (v := 6000) hx hb d_M_init_76 (by decide) ?_
  refine my_newi hx hb (hg _ k66) hK 0 rfl hP hD hS hA (N' := 6000) (by decide) (rfl) (by decide) (by rw [hR]; exact (show 0 + 1 + 1 + 1 + 1 + 1 + 1 + 1 + 1 + 1 ≤ 50000 by decide)) (by rw [hR]; exact (show 0 + 8 + 512 + 512 + 512 + 600 + 600 + 9000 + 9000 + 6000 ≤ 50000 by decide)) d_M_init_79 (fun q_9 _ _ _ _ => ?_)
  clear hP hD hS
  rename_i H hP hD hS
  have hPD : my_PD (dC, dI) vwCl A [(o, Sum.inr (9, [Value.int 0, Value.int 0, Value.int 0, Value.ref q_1, Value.ref q_2, Value.ref q_3, Value.ref q_4, Value.int 0, Value.ref q_5, Value.ref q_6, Value.int 0, Value.long 0, Value.long 0, Value.int 0, Value.int 0, Value.ref q_7, Value.int 0, Value.ref q_8, Value.int 0, Value.null, Value.int 0, Value.int 0, Value.int 0, Value.int 0, Value.int 0, Value.int 0, Value.long 0, Value.long 0, Value.long 0, Value.long 0, Value.null, Value.null, Value.null, Value.int 0, Value.int 0])), (q_1, Sum.inl (cI, 8, Sum.inl (fun _ => 0))), (q_2, Sum.inl (cI, 512, Sum.inl (fun _ => 0))), (q_3, Sum.inl (cI, 512, Sum.inl (fun _ => 0))), (q_4, Sum.inl (cI, 512, Sum.inl (fun _ => 0))), (q_5, Sum.inl (cI, 600, Sum.inl (fun _ => 0))), (q_6, Sum.inl (cI, 600, Sum.inl (fun _ => 0))), (q_7, Sum.inl (cI, 9000, Sum.inl (fun _ => 0))), (q_8, Sum.inl (cI, 9000, Sum.inl (fun _ => 0))), (q_9, Sum.inl (cI, 6000, Sum.inl (fun _ => 0)))] H := ⟨hP, hD⟩
  clear hP hD
  have hP := hPD.1
  have hD := hPD.2
  clear hPD
  refine va_putF (D := (dC, dI)) (ci := 9) (v := .ref q_9) (ty := (.array .int)) (C := "RangeCodersModel") (T := T_M) (N := 35) hx hb hg in_M t_M o_M n_M hown hK hP hD hS 0 rfl rfl 19 (by decide) (hg _ k971) (fun _ h9 => h9) rfl (by rw [hnm]; rfl) rfl (by decide +kernel) rfl rfl (Nat.le_of_ble_eq_true rfl) d_M_init_81 (fun _ _ _ _ _ => ?_)
  clear hP hD hS
  rename_i H locs hP hD hS
  have hPD : my_PD (dC, dI) vwCl A [(o, Sum.inr (9, [Value.int 0, Value.int 0, Value.int 0, Value.ref q_1, Value.ref q_2, Value.ref q_3, Value.ref q_4, Value.int 0, Value.ref q_5, Value.ref q_6, Value.int 0, Value.long 0, Value.long 0, Value.int 0, Value.int 0, Value.ref q_7, Value.int 0, Value.ref q_8, Value.int 0, Value.ref q_9, Value.int 0, Value.int 0, Value.int 0, Value.int 0, Value.int 0, Value.int 0, Value.long 0, Value.long 0, Value.long 0, Value.long 0, Value.null, Value.null, Value.null, Value.int 0, Value.int 0])), (q_1, Sum.inl (cI, 8, Sum.inl (fun _ => 0))), (q_2, Sum.inl (cI, 512, Sum.inl (fun _ => 0))), (q_3, Sum.inl (cI, 512, Sum.inl (fun _ => 0))), (q_4, Sum.inl (cI, 512, Sum.inl (fun _ => 0))), (q_5, Sum.inl (cI, 600, Sum.inl (fun _ => 0))), (q_6, Sum.inl (cI, 600, Sum.inl (fun _ => 0))), (q_7, Sum.inl (cI, 9000, Sum.inl (fun _ => 0))), (q_8, Sum.inl (cI, 9000, Sum.inl (fun _ => 0))), (q_9, Sum.inl (cI, 6000, Sum.inl (fun _ => 0)))] H := ⟨hP, hD⟩
  clear hP hD
  have hP := hPD.1
  have hD := hPD.2
  clear hPD
  refine lv_aload_n hx hb d_M_init_84 rfl (lv_at hl 0 rfl) ?_
  refine lv_sipush (v := 512) hx hb d_M_init_85 (by decide) ?_
  refine my_newi hx hb (hg _ k66) hK 0 rfl hP hD hS hA (N' := 512) (by decide) (rfl) (by decide) (by rw [hR]; exact (show 0 + 1 + 1 + 1 + 1 + 1 + 1 + 1 + 1 + 1 + 1 ≤ 50000 by decide)) (by rw [hR]; exact (show 0 + 8 + 512 + 512 + 512 + 600 + 600 + 9000 + 9000 + 6000 + 512 ≤ 50000 by decide)) d_M_init_88 (fun q_10 _ _ _ _ => ?_)
  clear hP hD hS
  rename_i H hP hD hS
  have hPD : my_PD (dC, dI) vwCl A [(o, Sum.inr (9, [Value.int 0, Value.int 0, Value.int 0, Value.ref q_1, Value.ref q_2, Value.ref q_3, Value.ref q_4, Value.int 0, Value.ref q_5, Value.ref q_6, Value.int 0, Value.long 0, Value.long 0, Value.int 0, Value.int 0, Value.ref q_7, Value.int 0, Value.ref q_8, Value.int 0, Value.ref q_9, Value.int 0, Value.int 0, Value.int 0, Value.int 0, Value.int 0, Value.int 0, Value.long 0, Value.long 0, Value.long 0, Value.long 0, Value.null, Value.null, Value.null, Value.int 0, Value.int 0])), (q_1, Sum.inl (cI, 8, Sum.inl (fun _ => 0))), (q_2, Sum.inl (cI, 512, Sum.inl (fun _ => 0))), (q_3, Sum.inl (cI, 512, Sum.inl (fun _ => 0))), (q_4, Sum.inl (cI, 512, Sum.inl (fun _ => 0))), (q_5, Sum.inl (cI, 600, Sum.inl (fun _ => 0))), (q_6, Sum.inl (cI, 600, Sum.inl (fun _ => 0))), (q_7, Sum.inl (cI, 9000, Sum.inl (fun _ => 0))), (q_8, Sum.inl (cI, 9000, Sum.inl (fun _ => 0))), (q_9, Sum.inl (cI, 6000, Sum.inl (fun _ => 0))), (q_10, Sum.inl (cI, 512, Sum.inl (fun _ => 0)))] H := ⟨hP, hD⟩
  clear hP hD
  have hP := hPD.1
  have hD := hPD.2
  clear hPD
  refine va_putF (D := (dC, dI)) (ci := 9) (v := .ref q_10) (ty := (.array .int)) (C := "RangeCodersModel") (T := T_M) (N := 35) hx hb hg in_M t_M o_M n_M hown hK hP hD hS 0 rfl rfl 30 (by decide) (hg _ k982) (fun _ h9 => h9) rfl (by rw [hnm]; rfl) rfl (by decide +kernel) rfl rfl (Nat.le_of_ble_eq_true rfl) d_M_init_90 (fun _ _ _ _ _ => ?_)
  clear hP hD hS
  rename_i H locs hP hD hS
  have hPD : my_PD (dC, dI) vwCl A [(o, Sum.inr (9, [Value.int 0, Value.int 0, Value.int 0, Value.ref q_1, Value.ref q_2, Value.ref q_3, Value.ref q_4, Value.int 0, Value.ref q_5, Value.ref q_6, Value.int 0, Value.long 0, Value.long 0, Value.int 0, Value.int 0, Value.ref q_7, Value.int 0, Value.ref q_8, Value.int 0, Value.ref q_9, Value.int 0, Value.int 0, Value.int 0, Value.int 0, Value.int 0, Value.int 0, Value.long 0, Value.long 0, Value.long 0, Value.long 0, Value.ref q_10, Value.null, Value.null, Value.int 0, Value.int 0])), (q_1, Sum.inl (cI, 8, Sum.inl (fun _ => 0))), (q_2, Sum.inl (cI, 512, Sum.inl (fun _ => 0))), (q_3, Sum.inl (cI, 512, Sum.inl (fun _ => 0))), (q_4, Sum.inl (cI, 512, Sum.inl (fun _ => 0))), (q_5, Sum.inl (cI, 600, Sum.inl (fun _ => 0))), (q_6, Sum.inl (cI, 600, Sum.inl (fun _ => 0))), (q_7, Sum.inl (cI, 9000, Sum.inl (fun _ => 0))), (q_8, Sum.inl (cI, 9000, Sum.inl (fun _ => 0))), (q_9, Sum.inl (cI, 6000, Sum.inl (fun _ => 0))), (q_10, Sum.inl (cI, 512, Sum.inl (fun _ => 0)))] H := ⟨hP, hD⟩
  clear hP hD
  have hP := hPD.1
  have hD := hPD.2
  clear hPD
  refine lv_aload_n hx hb d_M_init_93 rfl (lv_at hl 0 rfl) ?_
  refine lv_sipush (v := 512) hx hb d_M_init_94 (by decide) ?_
  refine my_newi hx hb (hg _ k66) hK 0 rfl hP hD hS hA (N' := 512) (by decide) (rfl) (by decide) (by rw [hR]; exact (show 0 + 1 + 1 + 1 + 1 + 1 + 1 + 1 + 1 + 1 + 1 + 1 ≤ 50000 by decide)) (by rw [hR]; exact (show 0 + 8 + 512 + 512 + 512 + 600 + 600 + 9000 + 9000 + 6000 + 512 + 512 ≤ 50000 by decide)) d_M_init_97 (fun q_11 _ _ _ _ => ?_)
  clear hP hD hS
  rename_i H hP hD hS
  have hPD : my_PD (dC, dI) vwCl A [(o, Sum.inr (9, [Value.int 0, Value.int 0, Value.int 0, Value.ref q_1, Value.ref q_2, Value.ref q_3, Value.ref q_4, Value.int 0, Value.ref q_5, Value.ref q_6, Value.int 0, Value.long 0, Value.long 0, Value.int 0, Value.int 0, Value.ref q_7, Value.int 0, Value.ref q_8, Value.int 0, Value.ref q_9, Value.int 0, Value.int 0, Value.int 0, Value.int 0, Value.int 0, Value.int 0, Value.long 0, Value.long 0, Value.long 0, Value.long 0, Value.ref q_10, Value.null, Value.null, Value.int 0, Value.int 0])), (q_1, Sum.inl (cI, 8, Sum.inl (fun _ => 0))), (q_2, Sum.inl (cI, 512, Sum.inl (fun _ => 0))), (q_3, Sum.inl (cI, 512, Sum.inl (fun _ => 0))), (q_4, Sum.inl (cI, 512, Sum.inl (fun _ => 0))), (q_5, Sum.inl (cI, 600, Sum.inl (fun _ => 0))), (q_6, Sum.inl (cI, 600, Sum.inl (fun _ => 0))), (q_7, Sum.inl (cI, 9000, Sum.inl (fun _ => 0))), (q_8, Sum.inl (cI, 9000, Sum.inl (fun _ => 0))), (q_9, Sum.inl (cI, 6000, Sum.inl (fun _ => 0))), (q_10, Sum.inl (cI, 512, Sum.inl (fun _ => 0))), (q_11, Sum.inl (cI, 512, Sum.inl (fun _ => 0)))] H := ⟨hP, hD⟩
  clear hP hD
  have hP := hPD.1
  have hD := hPD.2
  clear hPD
  refine va_putF (D := (dC, dI)) (ci := 9) (v := .ref q_11) (ty := (.array .int)) (C := "RangeCodersModel") (T := T_M) (N := 35) hx hb hg in_M t_M o_M n_M hown hK hP hD hS 0 rfl rfl 31 (by decide) (hg _ k983) (fun _ h9 => h9) rfl (by rw [hnm]; rfl) rfl (by decide +kernel) rfl rfl (Nat.le_of_ble_eq_true rfl) d_M_init_99 (fun _ _ _ _ _ => ?_)
  clear hP hD hS
  rename_i H locs hP hD hS
  have hPD : my_PD (dC, dI) vwCl A [(o, Sum.inr (9, [Value.int 0, Value.int 0, Value.int 0, Value.ref q_1, Value.ref q_2, Value.ref q_3, Value.ref q_4, Value.int 0, Value.ref q_5, Value.ref q_6, Value.int 0, Value.long 0, Value.long 0, Value.int 0, Value.int 0, Value.ref q_7, Value.int 0, Value.ref q_8, Value.int 0, Value.ref q_9, Value.int 0, Value.int 0, Value.int 0, Value.int 0, Value.int 0, Value.int 0, Value.long 0, Value.long 0, Value.long 0, Value.long 0, Value.ref q_10, Value.ref q_11, Value.null, Value.int 0, Value.int 0])), (q_1, Sum.inl (cI, 8, Sum.inl (fun _ => 0))), (q_2, Sum.inl (cI, 512, Sum.inl (fun _ => 0))), (q_3, Sum.inl (cI, 512, Sum.inl (fun _ => 0))), (q_4, Sum.inl (cI, 512, Sum.inl (fun _ => 0))), (q_5, Sum.inl (cI, 600, Sum.inl (fun _ => 0))), (q_6, Sum.inl (cI, 600, Sum.inl (fun _ => 0))), (q_7, Sum.inl (cI, 9000, Sum.inl (fun _ => 0))), (q_8, Sum.inl (cI, 9000, Sum.inl (fun _ => 0))), (q_9, Sum.inl (cI, 6000, Sum.inl (fun _ => 0))), (q_10, Sum.inl (cI, 512, Sum.inl (fun _ => 0))), (q_11, Sum.inl (cI, 512, Sum.inl (fun _ => 0)))] H := ⟨hP, hD⟩
  clear hP hD
  have hP := hPD.1
  have hD := hPD.2
  clear hPD
  refine lv_aload_n hx hb d_M_init_102 rfl (lv_at hl 0 rfl) ?_
  refine lv_sipush (v := 20000) hx hb d_M_init_103 (by decide) ?_
  refine my_newi hx hb (hg _ k66) hK 0 rfl hP hD hS hA (N' := 20000) (by decide) (rfl) (by decide) (by rw [hR]; exact (show 0 + 1 + 1 + 1 + 1 + 1 + 1 + 1 + 1 + 1 + 1 + 1 + 1 ≤ 50000 by decide)) (by rw [hR]; exact (show 0 + 8 + 512 + 512 + 512 + 600 + 600 + 9000 + 9000 + 6000 + 512 + 512 + 20000 ≤ 50000 by decide)) d_M_init_106 (fun q_12 _ _ _ _ => ?_)
  clear hP hD hS
  rename_i H hP hD hS
  have hPD : my_PD (dC, dI) vwCl A [(o, Sum.inr (9, [Value.int 0, Value.int 0, Value.int 0, Value.ref q_1, Value.ref q_2, Value.ref q_3, Value.ref q_4, Value.int 0, Value.ref q_5, Value.ref q_6, Value.int 0, Value.long 0, Value.long 0, Value.int 0, Value.int 0, Value.ref q_7, Value.int 0, Value.ref q_8, Value.int 0, Value.ref q_9, Value.int 0, Value.int 0, Value.int 0, Value.int 0, Value.int 0, Value.int 0, Value.long 0, Value.long 0, Value.long 0, Value.long 0, Value.ref q_10, Value.ref q_11, Value.null, Value.int 0, Value.int 0])), (q_1, Sum.inl (cI, 8, Sum.inl (fun _ => 0))), (q_2, Sum.inl (cI, 512, Sum.inl (fun _ => 0))), (q_3, Sum.inl (cI, 512, Sum.inl (fun _ => 0))), (q_4, Sum.inl (cI, 512, Sum.inl (fun _ => 0))), (q_5, Sum.inl (cI, 600, Sum.inl (fun _ => 0))), (q_6, Sum.inl (cI, 600, Sum.inl (fun _ => 0))), (q_7, Sum.inl (cI, 9000, Sum.inl (fun _ => 0))), (q_8, Sum.inl (cI, 9000, Sum.inl (fun _ => 0))), (q_9, Sum.inl (cI, 6000, Sum.inl (fun _ => 0))), (q_10, Sum.inl (cI, 512, Sum.inl (fun _ => 0))), (q_11, Sum.inl (cI, 512, Sum.inl (fun _ => 0))), (q_12, Sum.inl (cI, 20000, Sum.inl (fun _ => 0)))] H := ⟨hP, hD⟩
  clear hP hD
  have hP := hPD.1
  have hD := hPD.2
  clear hPD
  refine va_putF (D := (dC, dI)) (ci := 9) (v := .ref q_12) (ty := (.array .int)) (C := "RangeCodersModel") (T := T_M) (N := 35) hx hb hg in_M t_M o_M n_M hown hK hP hD hS 0 rfl rfl 32 (by decide) (hg _ k984) (fun _ h9 => h9) rfl (by rw [hnm]; rfl) rfl (by decide +kernel) rfl rfl (Nat.le_of_ble_eq_true rfl) d_M_init_108 (fun _ _ _ _ _ => ?_)
  clear hP hD hS
  rename_i H locs hP hD hS
  have hPD : my_PD (dC, dI) vwCl A [(o, Sum.inr (9, [Value.int 0, Value.int 0, Value.int 0, Value.ref q_1, Value.ref q_2, Value.ref q_3, Value.ref q_4, Value.int 0, Value.ref q_5, Value.ref q_6, Value.int 0, Value.long 0, Value.long 0, Value.int 0, Value.int 0, Value.ref q_7, Value.int 0, Value.ref q_8, Value.int 0, Value.ref q_9, Value.int 0, Value.int 0, Value.int 0, Value.int 0, Value.int 0, Value.int 0, Value.long 0, Value.long 0, Value.long 0, Value.long 0, Value.ref q_10, Value.ref q_11, Value.ref q_12, Value.int 0, Value.int 0])), (q_1, Sum.inl (cI, 8, Sum.inl (fun _ => 0))), (q_2, Sum.inl (cI, 512, Sum.inl (fun _ => 0))), (q_3, Sum.inl (cI, 512, Sum.inl (fun _ => 0))), (q_4, Sum.inl (cI, 512, Sum.inl (fun _ => 0))), (q_5, Sum.inl (cI, 600, Sum.inl (fun _ => 0))), (q_6, Sum.inl (cI, 600, Sum.inl (fun _ => 0))), (q_7, Sum.inl (cI, 9000, Sum.inl (fun _ => 0))), (q_8, Sum.inl (cI, 9000, Sum.inl (fun _ => 0))), (q_9, Sum.inl (cI, 6000, Sum.inl (fun _ => 0))), (q_10, Sum.inl (cI, 512, Sum.inl (fun _ => 0))), (q_11, Sum.inl (cI, 512, Sum.inl (fun _ => 0))), (q_12, Sum.inl (cI, 20000, Sum.inl (fun _ => 0)))] H := ⟨hP, hD⟩
  clear hP hD
  have hP := hPD.1
  have hD := hPD.2
  clear hPD
  have J_133 : ∀ (fF : Int32) (hF9 : fF = nearM p1 0 4) (H : Heap) (locs : List Loc) (ls : Array Slot), va_P (dC, dI) vwCl [(o, Sum.inr (9, [Value.int fF, Value.int 0, Value.int 0, Value.ref q_1, Value.ref q_2, Value.ref q_3, Value.ref q_4, Value.int 0, Value.ref q_5, Value.ref q_6, Value.int 0, Value.long 0, Value.long 0, Value.int 0, Value.int 0, Value.ref q_7, Value.int 0, Value.ref q_8, Value.int 0, Value.ref q_9, Value.int 0, Value.int 0, Value.int 0, Value.int 0, Value.int 0, Value.int 0, Value.long 0, Value.long 0, Value.long 0, Value.long 0, Value.ref q_10, Value.ref q_11, Value.ref q_12, Value.int 0, Value.int 0])), (q_1, Sum.inl (cI, 8, Sum.inl (fun _ => 0))), (q_2, Sum.inl (cI, 512, Sum.inl (fun _ => 0))), (q_3, Sum.inl (cI, 512, Sum.inl (fun _ => 0))), (q_4, Sum.inl (cI, 512, Sum.inl (fun _ => 0))), (q_5, Sum.inl (cI, 600, Sum.inl (fun _ => 0))), (q_6, Sum.inl (cI, 600, Sum.inl (fun _ => 0))), (q_7, Sum.inl (cI, 9000, Sum.inl (fun _ => 0))), (q_8, Sum.inl (cI, 9000, Sum.inl (fun _ => 0))), (q_9, Sum.inl (cI, 6000, Sum.inl (fun _ => 0))), (q_10, Sum.inl (cI, 512, Sum.inl (fun _ => 0))), (q_11, Sum.inl (cI, 512, Sum.inl (fun _ => 0))), (q_12, Sum.inl (cI, 20000, Sum.inl (fun _ => 0)))] H → va_D A [(o, Sum.inr (9, [Value.int fF, Value.int 0, Value.int 0, Value.ref q_1, Value.ref q_2, Value.ref q_3, Value.ref q_4, Value.int 0, Value.ref q_5, Value.ref q_6, Value.int 0, Value.long 0, Value.long 0, Value.int 0, Value.int 0, Value.ref q_7, Value.int 0, Value.ref q_8, Value.int 0, Value.ref q_9, Value.int 0, Value.int 0, Value.int 0, Value.int 0, Value.int 0, Value.int 0, Value.long 0, Value.long 0, Value.long 0, Value.long 0, Value.ref q_10, Value.ref q_11, Value.ref q_12, Value.int 0, Value.int 0])), (q_1, Sum.inl (cI, 8, Sum.inl (fun _ => 0))), (q_2, Sum.inl (cI, 512, Sum.inl (fun _ => 0))), (q_3, Sum.inl (cI, 512, Sum.inl (fun _ => 0))), (q_4, Sum.inl (cI, 512, Sum.inl (fun _ => 0))), (q_5, Sum.inl (cI, 600, Sum.inl (fun _ => 0))), (q_6, Sum.inl (cI, 600, Sum.inl (fun _ => 0))), (q_7, Sum.inl (cI, 9000, Sum.inl (fun _ => 0))), (q_8, Sum.inl (cI, 9000, Sum.inl (fun _ => 0))), (q_9, Sum.inl (cI, 6000, Sum.inl (fun _ => 0))), (q_10, Sum.inl (cI, 512, Sum.inl (fun _ => 0))), (q_11, Sum.inl (cI, 512, Sum.inl (fun _ => 0))), (q_12, Sum.inl (cI, 20000, Sum.inl (fun _ => 0)))] → va_S A s.heap H locs → lv_has ls 3 [(0, Value.ref o), (1, Value.int p1), (2, Value.int p2)] → W p l e R s m args below meth c H locs (0 + 1 + 1 + 1 + 1 + 1 + 1 + 1 + 1 + 1 + 1 + 1 + 1) (0 + 8 + 512 + 512 + 512 + 600 + 600 + 9000 + 9000 + 6000 + 512 + 512 + 20000) Q (F0 m 133 ls []) := by
    intro fF hF9 H locs ls hP hD hS hl
    have J_158 : ∀ (fS : Int32) (hS9 : fS = nearM p2 1 10) (H : Heap) (locs : List Loc) (ls : Array Slot), va_P (dC, dI) vwCl [(o, Sum.inr (9, [Value.int fF, Value.int fS, Value.int 0, Value.ref q_1, Value.ref q_2, Value.ref q_3, Value.ref q_4, Value.int 0, Value.ref q_5, Value.ref q_6, Value.int 0, Value.long 0, Value.long 0, Value.int 0, Value.int 0, Value.ref q_7, Value.int 0, Value.ref q_8, Value.int 0, Value.ref q_9, Value.int 0, Value.int 0, Value.int 0, Value.int 0, Value.int 0, Value.int 0, Value.long 0, Value.long 0, Value.long 0, Value.long 0, Value.ref q_10, Value.ref q_11, Value.ref q_12, Value.int 0, Value.int 0])), (q_1, Sum.inl (cI, 8, Sum.inl (fun _ => 0))), (q_2, Sum.inl (cI, 512, Sum.inl (fun _ => 0))), (q_3, Sum.inl (cI, 512, Sum.inl (fun _ => 0))), (q_4, Sum.inl (cI, 512, Sum.inl (fun _ => 0))), (q_5, Sum.inl (cI, 600, Sum.inl (fun _ => 0))), (q_6, Sum.inl (cI, 600, Sum.inl (fun _ => 0))), (q_7, Sum.inl (cI, 9000, Sum.inl (fun _ => 0))), (q_8, Sum.inl (cI, 9000, Sum.inl (fun _ => 0))), (q_9, Sum.inl (cI, 6000, Sum.inl (fun _ => 0))), (q_10, Sum.inl (cI, 512, Sum.inl (fun _ => 0))), (q_11, Sum.inl (cI, 512, Sum.inl (fun _ => 0))), (q_12, Sum.inl (cI, 20000, Sum.inl (fun _ => 0)))] H → va_D A [(o, Sum.inr (9, [Value.int fF, Value.int fS, Value.int 0, Value.ref q_1, Value.ref q_2, Value.ref q_3, Value.ref q_4, Value.int 0, Value.ref q_5, Value.ref q_6, Value.int 0, Value.long 0, Value.long 0, Value.int 0, Value.int 0, Value.ref q_7, Value.int 0, Value.ref q_8, Value.int 0, Value.ref q_9, Value.int 0, Value.int 0, Value.int 0, Value.int 0, Value.int 0, Value.int 0, Value.long 0, Value.long 0, Value.long 0, Value.long 0, Value.ref q_10, Value.ref q_11, Value.ref q_12, Value.int 0, Value.int 0])), (q_1, Sum.inl (cI, 8, Sum.inl (fun _ => 0))), (q_2, Sum.inl (cI, 512, Sum.inl (fun _ => 0))), (q_3, Sum.inl (cI, 512, Sum.inl (fun _ => 0))), (q_4, Sum.inl (cI, 512, Sum.inl (fun _ => 0))), (q_5, Sum.inl (cI, 600, Sum.inl (fun _ => 0))), (q_6, Sum.inl (cI, 600, Sum.inl (fun _ => 0))), (q_7, Sum.inl (cI, 9000, Sum.inl (fun _ => 0))), (q_8, Sum.inl (cI, 9000, Sum.inl (fun _ => 0))), (q_9, Sum.inl (cI, 6000, Sum.inl (fun _ => 0))), (q_10, Sum.inl (cI, 512, Sum.inl (fun _ => 0))), (q_11, Sum.inl (cI, 512, Sum.inl (fun _ => 0))), (q_12, Sum.inl (cI, 20000, Sum.inl (fun _ => 0)))] → va_S A s.heap H locs → lv_has ls 3 [(0, Value.ref o), (1, Value.int p1), (2, Value.int p2)] → W p l e R s m args below meth c H locs (0 + 1 + 1 + 1 + 1 + 1 + 1 + 1 + 1 + 1 + 1 + 1 + 1) (0 + 8 + 512 + 512 + 512 + 600 + 600 + 9000 + 9000 + 6000 + 512 + 512 + 20000) Q (F0 m 158 ls []) := by
      intro fS hS9 H locs ls hP hD hS hl
      obtain ⟨g9, eg0, eg1, eg2, eg3, eg4, eg5, eg6, eg7, eg8, eg9, eg10, eg11⟩ : ∃ g9 : Nat → Nat, g9 0 = q_1 ∧ g9 1 = q_2 ∧ g9 2 = q_3 ∧ g9 3 = q_4 ∧ g9 4 = q_5 ∧ g9 5 = q_6 ∧ g9 6 = q_7 ∧ g9 7 = q_8 ∧ g9 8 = q_9 ∧ g9 9 = q_10 ∧ g9 10 = q_11 ∧ g9 11 = q_12 := ⟨fun k9 => if k9 = 0 then q_1 else if k9 = 1 then q_2 else if k9 = 2 then q_3 else if k9 = 3 then q_4 else if k9 = 4 then q_5 else if k9 = 5 then q_6 else if k9 = 6 then q_7 else if k9 = 7 then q_8 else if k9 = 8 then q_9 else if k9 = 9 then q_10 else if k9 = 10 then q_11 else q_12, rfl, rfl, rfl, rfl, rfl, rfl, rfl, rfl, rfl, rfl, rfl, rfl⟩
      have hP : va_P (dC, dI) vwCl [(o, Sum.inr (9, [Value.int fF, Value.int fS, Value.int 0, Value.ref (g9 0), Value.ref (g9 1), Value.ref (g9 2), Value.ref (g9 3), Value.int 0, Value.ref (g9 4), Value.ref (g9 5), Value.int 0, Value.long 0, Value.long 0, Value.int 0, Value.int 0, Value.ref (g9 6), Value.int 0, Value.ref (g9 7), Value.int 0, Value.ref (g9 8), Value.int 0, Value.int 0, Value.int 0, Value.int 0, Value.int 0, Value.int 0, Value.long 0, Value.long 0, Value.long 0, Value.long 0, Value.ref (g9 9), Value.ref (g9 10), Value.ref (g9 11), Value.int 0, Value.int 0])), ((g9 0), Sum.inl (cI, 8, Sum.inl (fun _ => 0))), ((g9 1), Sum.inl (cI, 512, Sum.inl (fun _ => 0))), ((g9 2), Sum.inl (cI, 512, Sum.inl (fun _ => 0))), ((g9 3), Sum.inl (cI, 512, Sum.inl (fun _ => 0))), ((g9 4), Sum.inl (cI, 600, Sum.inl (fun _ => 0))), ((g9 5), Sum.inl (cI, 600, Sum.inl (fun _ => 0))), ((g9 6), Sum.inl (cI, 9000, Sum.inl (fun _ => 0))), ((g9 7), Sum.inl (cI, 9000, Sum.inl (fun _ => 0))), ((g9 8), Sum.inl (cI, 6000, Sum.inl (fun _ => 0))), ((g9 9), Sum.inl (cI, 512, Sum.inl (fun _ => 0))), ((g9 10), Sum.inl (cI, 512, Sum.inl (fun _ => 0))), ((g9 11), Sum.inl (cI, 20000, Sum.inl (fun _ => 0)))] H := by rw [eg0, eg1, eg2, eg3, eg4, eg5, eg6, eg7, eg8, eg9, eg10, eg11]; exact hP
      have hD : va_D A [(o, Sum.inr (9, [Value.int fF, Value.int fS, Value.int 0, Value.ref (g9 0), Value.ref (g9 1), Value.ref (g9 2), Value.ref (g9 3), Value.int 0, Value.ref (g9 4), Value.ref (g9 5), Value.int 0, Value.long 0, Value.long 0, Value.int 0, Value.int 0, Value.ref (g9 6), Value.int 0, Value.ref (g9 7), Value.int 0, Value.ref (g9 8), Value.int 0, Value.int 0, Value.int 0, Value.int 0, Value.int 0, Value.int 0, Value.long 0, Value.long 0, Value.long 0, Value.long 0, Value.ref (g9 9), Value.ref (g9 10), Value.ref (g9 11), Value.int 0, Value.int 0])), ((g9 0), Sum.inl (cI, 8, Sum.inl (fun _ => 0))), ((g9 1), Sum.inl (cI, 512, Sum.inl (fun _ => 0))), ((g9 2), Sum.inl (cI, 512, Sum.inl (fun _ => 0))), ((g9 3), Sum.inl (cI, 512, Sum.inl (fun _ => 0))), ((g9 4), Sum.inl (cI, 600, Sum.inl (fun _ => 0))), ((g9 5), Sum.inl (cI, 600, Sum.inl (fun _ => 0))), ((g9 6), Sum.inl (cI, 9000, Sum.inl (fun _ => 0))), ((g9 7), Sum.inl (cI, 9000, Sum.inl (fun _ => 0))), ((g9 8), Sum.inl (cI, 6000, Sum.inl (fun _ => 0))), ((g9 9), Sum.inl (cI, 512, Sum.inl (fun _ => 0))), ((g9 10), Sum.inl (cI, 512, Sum.inl (fun _ => 0))), ((g9 11), Sum.inl (cI, 20000, Sum.inl (fun _ => 0)))] := by rw [eg0, eg1, eg2, eg3, eg4, eg5, eg6, eg7, eg8, eg9, eg10, eg11]; exact hD
      obtain ⟨fm9, -, hfm9, ef9⟩ := near_n p1 (a := 0) (b := 4) (by decide) (by decide)
      have hPD : my_PD (dC, dI) vwCl A [(o, Sum.inr (9, mO g9 fF fS 0 0 0 0 0 0 0 0 0 0 0 0 0 0 0 0 0 0 0 0 0)), ((g9 0), Sum.inl (cI, 8, Sum.inl (fun _ => 0))), ((g9 1), Sum.inl (cI, 512, Sum.inl (fun _ => 0))), ((g9 2), Sum.inl (cI, 512, Sum.inl (fun _ => 0))), ((g9 3), Sum.inl (cI, 512, Sum.inl (fun _ => 0))), ((g9 4), Sum.inl (cI, 600, Sum.inl (fun _ => 0))), ((g9 5), Sum.inl (cI, 600, Sum.inl (fun _ => 0))), ((g9 6), Sum.inl (cI, 9000, Sum.inl (fun _ => 0))), ((g9 7), Sum.inl (cI, 9000, Sum.inl (fun _ => 0))), ((g9 8), Sum.inl (cI, 6000, Sum.inl (fun _ => 0))), ((g9 9), Sum.inl (cI, 512, Sum.inl (fun _ => 0))), ((g9 10), Sum.inl (cI, 512, Sum.inl (fun _ => 0))), ((g9 11), Sum.inl (cI, 20000, Sum.inl (fun _ => 0)))] H := ⟨hP, hD⟩
      clear hP hD
      have hP := hPD.1
      have hD := hPD.2
      clear hPD
      refine lv_aload_n hx hb d_M_init_158 rfl (lv_at hl 0 rfl) ?_
      refine my_cv (wr := [((g9 3), Sum.inl (cI, 512, Sum.inl (fun _ => 0))), ((g9 4), Sum.inl (cI, 600, Sum.inl (fun _ => 0))), ((g9 5), Sum.inl (cI, 600, Sum.inl (fun _ => 0))), ((g9 6), Sum.inl (cI, 9000, Sum.inl (fun _ => 0))), ((g9 7), Sum.inl (cI, 9000, Sum.inl (fun _ => 0))), ((g9 8), Sum.inl (cI, 6000, Sum.inl (fun _ => 0))), ((g9 9), Sum.inl (cI, 512, Sum.inl (fun _ => 0))), ((g9 10), Sum.inl (cI, 512, Sum.inl (fun _ => 0))), ((g9 11), Sum.inl (cI, 20000, Sum.inl (fun _ => 0)))]) (va_runV (As := []) (rest := []) ⟨hx, hb, hml, hown, hts⟩ (c_M_start l dC dI cI cM cO H.size o g9 fF fS 0 0 0 0 0 0 0 0 0 0 0 0 0 0 0 0 0 0 0 0 0 (fun _ => 0) (fun _ => 0) (fun _ => 0) fm9 0 (fun _ => 2) (hfm9) (by rw [hF9]; exact ef9) (rfl) (⟨by decide, fun z9 h9 => absurd h9 (Nat.not_lt_zero z9)⟩)) (cwV 0 hts (my_gV k923 k925 ks18 k12 k926) rfl rfl rfl (by decide +kernel) ⟨by rw [hR]; exact Nat.le_of_ble_eq_true rfl, by rw [hR]; exact Nat.le_of_ble_eq_true rfl⟩) (my_preV hK hN (hP.sub [0, 1, 2, 3] rfl) (hD.sub [0, 1, 2, 3] (by decide +kernel) rfl) 0 rfl rfl) rfl rfl hl.1 rfl (lv_room (Nat.le_of_ble_eq_true rfl)) d_M_init_159 ⟨by rw [hR]; exact (show (0 + 1 + 1 + 1 + 1 + 1 + 1 + 1 + 1 + 1 + 1 + 1 + 1) + 0 ≤ 50000 by omega), by rw [hR]; exact (show (0 + 8 + 512 + 512 + 512 + 600 + 600 + 9000 + 9000 + 6000 + 512 + 512 + 20000) + 0 ≤ 50000 by omega)⟩) hP hD hS hA [0, 1, 2, 3] [4, 5, 6, 7, 8, 9, 10, 11, 12] rfl rfl (by decide +kernel) (by decide +kernel) (fun u9 _ _ hw_159 _ _ _ => ?_)
      clear hP hD hS
      rename_i H locs hP hD hS
      obtain ⟨fItemsq_159, fEndedq_159, fLowq_159, fRangeq_159, fCacheq_159, fPendq_159, fGoesq_159, vNowq_159⟩ := u9
      obtain ⟨hT_159, hs1_159, hs2_159, hs3_159, hs4_159, hs5_159, hs6_159, hs7_159⟩ : TB fm9 0 (fun _ => 2) vNowq_159 ∧ fItemsq_159 = 0 ∧ fEndedq_159 = 0 ∧ fLowq_159 = 0 ∧ fRangeq_159 = 4294967295 ∧ fCacheq_159 = -1 ∧ fPendq_159 = 0 ∧ fGoesq_159 = 0 := hw_159
      have hPD : my_PD (dC, dI) vwCl A [((g9 3), Sum.inl (cI, 512, Sum.inl (fun _ => 0))), ((g9 4), Sum.inl (cI, 600, Sum.inl (fun _ => 0))), ((g9 5), Sum.inl (cI, 600, Sum.inl (fun _ => 0))), ((g9 6), Sum.inl (cI, 9000, Sum.inl (fun _ => 0))), ((g9 7), Sum.inl (cI, 9000, Sum.inl (fun _ => 0))), ((g9 8), Sum.inl (cI, 6000, Sum.inl (fun _ => 0))), ((g9 9), Sum.inl (cI, 512, Sum.inl (fun _ => 0))), ((g9 10), Sum.inl (cI, 512, Sum.inl (fun _ => 0))), ((g9 11), Sum.inl (cI, 20000, Sum.inl (fun _ => 0))), (o, Sum.inr (9, mO g9 fF fS 0 fItemsq_159 fEndedq_159 fLowq_159 fRangeq_159 fCacheq_159 fPendq_159 fGoesq_159 0 0 0 0 0 0 0 0 0 0 0 0 0)), ((g9 0), Sum.inl (cI, 8, Sum.inl (fun _ => 0))), ((g9 1), Sum.inl (cI, 512, Sum.inl (fun _ => 0))), ((g9 2), Sum.inl (cI, 512, Sum.inl vNowq_159))] H := ⟨hP, hD⟩
      clear hP hD
      have hP := hPD.1
      have hD := hPD.2
      clear hPD
      subst hs1_159
      subst hs2_159
      subst hs3_159
      subst hs4_159
      subst hs5_159
      subst hs6_159
      subst hs7_159
      have hPD : my_PD (dC, dI) vwCl A [((g9 3), Sum.inl (cI, 512, Sum.inl (fun _ => 0))), ((g9 4), Sum.inl (cI, 600, Sum.inl (fun _ => 0))), ((g9 5), Sum.inl (cI, 600, Sum.inl (fun _ => 0))), ((g9 6), Sum.inl (cI, 9000, Sum.inl (fun _ => 0))), ((g9 7), Sum.inl (cI, 9000, Sum.inl (fun _ => 0))), ((g9 8), Sum.inl (cI, 6000, Sum.inl (fun _ => 0))), ((g9 9), Sum.inl (cI, 512, Sum.inl (fun _ => 0))), ((g9 10), Sum.inl (cI, 512, Sum.inl (fun _ => 0))), ((g9 11), Sum.inl (cI, 20000, Sum.inl (fun _ => 0))), (o, Sum.inr (9, mO g9 fF fS 0 0 0 0 4294967295 (-1) 0 0 0 0 0 0 0 0 0 0 0 0 0 0 0)), ((g9 0), Sum.inl (cI, 8, Sum.inl (fun _ => 0))), ((g9 1), Sum.inl (cI, 512, Sum.inl (fun _ => 0))), ((g9 2), Sum.inl (cI, 512, Sum.inl vNowq_159))] H := ⟨hP, hD⟩
      clear hP hD
      have hP := hPD.1
      have hD := hPD.2
      clear hPD
      exact my_vretg hx hb hr hlocks hQ hK hS (g9, fF, fS, vNowq_159) (show (0 + 1 + 1 + 1 + 1 + 1 + 1 + 1 + 1 + 1 + 1 + 1 + 1) + 0 ≤ 50000 by omega) (show (0 + 8 + 512 + 512 + 512 + 600 + 600 + 9000 + 9000 + 6000 + 512 + 512 + 20000) + 0 ≤ 50000 by omega) (⟨hF9, hS9⟩) (hP.sub [9, 10, 11, 12, 0, 1, 2, 3, 4, 5, 6, 7, 8] rfl) (hD.sub [9, 10, 11, 12, 0, 1, 2, 3, 4, 5, 6, 7, 8] (by decide +kernel) rfl) d_M_init_162
    refine lv_aload_n hx hb d_M_init_133 rfl (lv_at hl 0 rfl) ?_
    refine lv_iload_n hx hb d_M_init_134 rfl (lv_at hl 2 rfl) ?_
    refine lv_iconst (v := 1) hx hb d_M_init_135 (by decide) ?_
    refine lv_icmp_ge (tgt := 143) hx hb d_M_init_136 (by decide) (fun c_13 => ?_) (fun c_13 => ?_)
    · refine lv_iload_n hx hb d_M_init_143 rfl (lv_at hl 2 rfl) ?_
      refine lv_bipush (v := 10) hx hb d_M_init_144 (by decide) ?_
      refine lv_icmp_le (tgt := 154) hx hb d_M_init_146 (by decide) (fun c_14 => ?_) (fun c_14 => ?_)
      · refine lv_iload_n hx hb d_M_init_154 rfl (lv_at hl 2 rfl) ?_
        refine va_putF (D := (dC, dI)) (ci := 9) (v := .int p2) (ty := .int) (C := "RangeCodersModel") (T := T_M) (N := 35) hx hb hg in_M t_M o_M n_M hown hK hP hD hS 0 rfl rfl 1 (by decide) (hg _ k953) (fun _ h9 => h9) rfl (by rw [hnm]; rfl) rfl (by decide +kernel) rfl rfl (Nat.le_of_ble_eq_true rfl) d_M_init_155 (fun _ _ _ _ _ => ?_)
        clear hP hD hS
        rename_i H locs hP hD hS
        have hPD : my_PD (dC, dI) vwCl A [(o, Sum.inr (9, [Value.int fF, Value.int p2, Value.int 0, Value.ref q_1, Value.ref q_2, Value.ref q_3, Value.ref q_4, Value.int 0, Value.ref q_5, Value.ref q_6, Value.int 0, Value.long 0, Value.long 0, Value.int 0, Value.int 0, Value.ref q_7, Value.int 0, Value.ref q_8, Value.int 0, Value.ref q_9, Value.int 0, Value.int 0, Value.int 0, Value.int 0, Value.int 0, Value.int 0, Value.long 0, Value.long 0, Value.long 0, Value.long 0, Value.ref q_10, Value.ref q_11, Value.ref q_12, Value.int 0, Value.int 0])), (q_1, Sum.inl (cI, 8, Sum.inl (fun _ => 0))), (q_2, Sum.inl (cI, 512, Sum.inl (fun _ => 0))), (q_3, Sum.inl (cI, 512, Sum.inl (fun _ => 0))), (q_4, Sum.inl (cI, 512, Sum.inl (fun _ => 0))), (q_5, Sum.inl (cI, 600, Sum.inl (fun _ => 0))), (q_6, Sum.inl (cI, 600, Sum.inl (fun _ => 0))), (q_7, Sum.inl (cI, 9000, Sum.inl (fun _ => 0))), (q_8, Sum.inl (cI, 9000, Sum.inl (fun _ => 0))), (q_9, Sum.inl (cI, 6000, Sum.inl (fun _ => 0))), (q_10, Sum.inl (cI, 512, Sum.inl (fun _ => 0))), (q_11, Sum.inl (cI, 512, Sum.inl (fun _ => 0))), (q_12, Sum.inl (cI, 20000, Sum.inl (fun _ => 0)))] H := ⟨hP, hD⟩
        clear hP hD
        have hP := hPD.1
        have hD := hPD.2
        clear hPD
        exact J_158 p2 (by rw [near_mid c_13 c_14]) H locs ls (hP.sub [0, 1, 2, 3, 4, 5, 6, 7, 8, 9, 10, 11, 12] rfl) (hD.sub [0, 1, 2, 3, 4, 5, 6, 7, 8, 9, 10, 11, 12] (by decide +kernel) rfl) hS (lv_sub hl [0, 1, 2] rfl)
      · refine lv_bipush (v := 10) hx hb d_M_init_149 (by decide) ?_
        refine lv_goto (tgt := 155) hx hb d_M_init_151 (by decide) ?_
        refine va_putF (D := (dC, dI)) (ci := 9) (v := .int 10) (ty := .int) (C := "RangeCodersModel") (T := T_M) (N := 35) hx hb hg in_M t_M o_M n_M hown hK hP hD hS 0 rfl rfl 1 (by decide) (hg _ k953) (fun _ h9 => h9) rfl (by rw [hnm]; rfl) rfl (by decide +kernel) rfl rfl (Nat.le_of_ble_eq_true rfl) d_M_init_155 (fun _ _ _ _ _ => ?_)
        clear hP hD hS
        rename_i H locs hP hD hS
        have hPD : my_PD (dC, dI) vwCl A [(o, Sum.inr (9, [Value.int fF, Value.int 10, Value.int 0, Value.ref q_1, Value.ref q_2, Value.ref q_3, Value.ref q_4, Value.int 0, Value.ref q_5, Value.ref q_6, Value.int 0, Value.long 0, Value.long 0, Value.int 0, Value.int 0, Value.ref q_7, Value.int 0, Value.ref q_8, Value.int 0, Value.ref q_9, Value.int 0, Value.int 0, Value.int 0, Value.int 0, Value.int 0, Value.int 0, Value.long 0, Value.long 0, Value.long 0, Value.long 0, Value.ref q_10, Value.ref q_11, Value.ref q_12, Value.int 0, Value.int 0])), (q_1, Sum.inl (cI, 8, Sum.inl (fun _ => 0))), (q_2, Sum.inl (cI, 512, Sum.inl (fun _ => 0))), (q_3, Sum.inl (cI, 512, Sum.inl (fun _ => 0))), (q_4, Sum.inl (cI, 512, Sum.inl (fun _ => 0))), (q_5, Sum.inl (cI, 600, Sum.inl (fun _ => 0))), (q_6, Sum.inl (cI, 600, Sum.inl (fun _ => 0))), (q_7, Sum.inl (cI, 9000, Sum.inl (fun _ => 0))), (q_8, Sum.inl (cI, 9000, Sum.inl (fun _ => 0))), (q_9, Sum.inl (cI, 6000, Sum.inl (fun _ => 0))), (q_10, Sum.inl (cI, 512, Sum.inl (fun _ => 0))), (q_11, Sum.inl (cI, 512, Sum.inl (fun _ => 0))), (q_12, Sum.inl (cI, 20000, Sum.inl (fun _ => 0)))] H := ⟨hP, hD⟩
        clear hP hD
        have hP := hPD.1
        have hD := hPD.2
        clear hPD
        exact J_158 (10 : Int32) (by rw [near_hi c_14 (by decide)]) H locs ls (hP.sub [0, 1, 2, 3, 4, 5, 6, 7, 8, 9, 10, 11, 12] rfl) (hD.sub [0, 1, 2, 3, 4, 5, 6, 7, 8, 9, 10, 11, 12] (by decide +kernel) rfl) hS (lv_sub hl [0, 1, 2] rfl)
    · refine lv_iconst (v := 1) hx hb d_M_init_139 (by decide) ?_
      refine lv_goto (tgt := 155) hx hb d_M_init_140 (by decide) ?_
      refine va_putF (D := (dC, dI)) (ci := 9) (v := .int 1) (ty := .int) (C := "RangeCodersModel") (T := T_M) (N := 35) hx hb hg in_M t_M o_M n_M hown hK hP hD hS 0 rfl rfl 1 (by decide) (hg _ k953) (fun _ h9 => h9) rfl (by rw [hnm]; rfl) rfl (by decide +kernel) rfl rfl (Nat.le_of_ble_eq_true rfl) d_M_init_155 (fun _ _ _ _ _ => ?_)
      clear hP hD hS
      rename_i H locs hP hD hS
      have hPD : my_PD (dC, dI) vwCl A [(o, Sum.inr (9, [Value.int fF, Value.int 1, Value.int 0, Value.ref q_1, Value.ref q_2, Value.ref q_3, Value.ref q_4, Value.int 0, Value.ref q_5, Value.ref q_6, Value.int 0, Value.long 0, Value.long 0, Value.int 0, Value.int 0, Value.ref q_7, Value.int 0, Value.ref q_8, Value.int 0, Value.ref q_9, Value.int 0, Value.int 0, Value.int 0, Value.int 0, Value.int 0, Value.int 0, Value.long 0, Value.long 0, Value.long 0, Value.long 0, Value.ref q_10, Value.ref q_11, Value.ref q_12, Value.int 0, Value.int 0])), (q_1, Sum.inl (cI, 8, Sum.inl (fun _ => 0))), (q_2, Sum.inl (cI, 512, Sum.inl (fun _ => 0))), (q_3, Sum.inl (cI, 512, Sum.inl (fun _ => 0))), (q_4, Sum.inl (cI, 512, Sum.inl (fun _ => 0))), (q_5, Sum.inl (cI, 600, Sum.inl (fun _ => 0))), (q_6, Sum.inl (cI, 600, Sum.inl (fun _ => 0))), (q_7, Sum.inl (cI, 9000, Sum.inl (fun _ => 0))), (q_8, Sum.inl (cI, 9000, Sum.inl (fun _ => 0))), (q_9, Sum.inl (cI, 6000, Sum.inl (fun _ => 0))), (q_10, Sum.inl (cI, 512, Sum.inl (fun _ => 0))), (q_11, Sum.inl (cI, 512, Sum.inl (fun _ => 0))), (q_12, Sum.inl (cI, 20000, Sum.inl (fun _ => 0)))] H := ⟨hP, hD⟩
      clear hP hD
      have hP := hPD.1
      have hD := hPD.2
      clear hPD
      exact J_158 (1 : Int32) (by rw [near_lo c_13 (by decide)]) H locs ls (hP.sub [0, 1, 2, 3, 4, 5, 6, 7, 8, 9, 10, 11, 12] rfl) (hD.sub [0, 1, 2, 3, 4, 5, 6, 7, 8, 9, 10, 11, 12] (by decide +kernel) rfl) hS (lv_sub hl [0, 1, 2] rfl)
  refine lv_aload_n hx hb d_M_init_111 rfl (lv_at hl 0 rfl) ?_
  refine lv_iload_n hx hb d_M_init_112 rfl (lv_at hl 1 rfl) ?_
  refine lv_if_ge (tgt := 120) hx hb d_M_init_113 (by decide) (fun c_15 => ?_) (fun c_15 => ?_)
  · refine lv_iload_n hx hb d_M_init_120 rfl (lv_at hl 1 rfl) ?_
    refine lv_iconst (v := 4) hx hb d_M_init_121 (by decide) ?_
    refine lv_icmp_le (tgt := 129) hx hb d_M_init_122 (by decide) (fun c_16 => ?_) (fun c_16 => ?_)
    · refine lv_iload_n hx hb d_M_init_129 rfl (lv_at hl 1 rfl) ?_
      refine va_putF (D := (dC, dI)) (ci := 9) (v := .int p1) (ty := .int) (C := "RangeCodersModel") (T := T_M) (N := 35) hx hb hg in_M t_M o_M n_M hown hK hP hD hS 0 rfl rfl 0 (by decide) (hg _ k952) (fun _ h9 => h9) rfl (by rw [hnm]; rfl) rfl (by decide +kernel) rfl rfl (Nat.le_of_ble_eq_true rfl) d_M_init_130 (fun _ _ _ _ _ => ?_)
      clear hP hD hS
      rename_i H locs hP hD hS
      have hPD : my_PD (dC, dI) vwCl A [(o, Sum.inr (9, [Value.int p1, Value.int 0, Value.int 0, Value.ref q_1, Value.ref q_2, Value.ref q_3, Value.ref q_4, Value.int 0, Value.ref q_5, Value.ref q_6, Value.int 0, Value.long 0, Value.long 0, Value.int 0, Value.int 0, Value.ref q_7, Value.int 0, Value.ref q_8, Value.int 0, Value.ref q_9, Value.int 0, Value.int 0, Value.int 0, Value.int 0, Value.int 0, Value.int 0, Value.long 0, Value.long 0, Value.long 0, Value.long 0, Value.ref q_10, Value.ref q_11, Value.ref q_12, Value.int 0, Value.int 0])), (q_1, Sum.inl (cI, 8, Sum.inl (fun _ => 0))), (q_2, Sum.inl (cI, 512, Sum.inl (fun _ => 0))), (q_3, Sum.inl (cI, 512, Sum.inl (fun _ => 0))), (q_4, Sum.inl (cI, 512, Sum.inl (fun _ => 0))), (q_5, Sum.inl (cI, 600, Sum.inl (fun _ => 0))), (q_6, Sum.inl (cI, 600, Sum.inl (fun _ => 0))), (q_7, Sum.inl (cI, 9000, Sum.inl (fun _ => 0))), (q_8, Sum.inl (cI, 9000, Sum.inl (fun _ => 0))), (q_9, Sum.inl (cI, 6000, Sum.inl (fun _ => 0))), (q_10, Sum.inl (cI, 512, Sum.inl (fun _ => 0))), (q_11, Sum.inl (cI, 512, Sum.inl (fun _ => 0))), (q_12, Sum.inl (cI, 20000, Sum.inl (fun _ => 0)))] H := ⟨hP, hD⟩
      clear hP hD
      have hP := hPD.1
      have hD := hPD.2
      clear hPD
      exact J_133 p1 (by rw [near_mid c_15 c_16]) H locs ls (hP.sub [0, 1, 2, 3, 4, 5, 6, 7, 8, 9, 10, 11, 12] rfl) (hD.sub [0, 1, 2, 3, 4, 5, 6, 7, 8, 9, 10, 11, 12] (by decide +kernel) rfl) hS (lv_sub hl [0, 1, 2] rfl)
    · refine lv_iconst (v := 4) hx hb d_M_init_125 (by decide) ?_
      refine lv_goto (tgt := 130) hx hb d_M_init_126 (by decide) ?_
      refine va_putF (D := (dC, dI)) (ci := 9) (v := .int 4) (ty := .int) (C := "RangeCodersModel") (T := T_M) (N := 35) hx hb hg in_M t_M o_M n_M hown hK hP hD hS 0 rfl rfl 0 (by decide) (hg _ k952) (fun _ h9 => h9) rfl (by rw [hnm]; rfl) rfl (by decide +kernel) rfl rfl (Nat.le_of_ble_eq_true rfl) d_M_init_130 (fun _ _ _ _ _ => ?_)
      clear hP hD hS
      rename_i H locs hP hD hS
      have hPD : my_PD (dC, dI) vwCl A [(o, Sum.inr (9, [Value.int 4, Value.int 0, Value.int 0, Value.ref q_1, Value.ref q_2, Value.ref q_3, Value.ref q_4, Value.int 0, Value.ref q_5, Value.ref q_6, Value.int 0, Value.long 0, Value.long 0, Value.int 0, Value.int 0, Value.ref q_7, Value.int 0, Value.ref q_8, Value.int 0, Value.ref q_9, Value.int 0, Value.int 0, Value.int 0, Value.int 0, Value.int 0, Value.int 0, Value.long 0, Value.long 0, Value.long 0, Value.long 0, Value.ref q_10, Value.ref q_11, Value.ref q_12, Value.int 0, Value.int 0])), (q_1, Sum.inl (cI, 8, Sum.inl (fun _ => 0))), (q_2, Sum.inl (cI, 512, Sum.inl (fun _ => 0))), (q_3, Sum.inl (cI, 512, Sum.inl (fun _ => 0))), (q_4, Sum.inl (cI, 512, Sum.inl (fun _ => 0))), (q_5, Sum.inl (cI, 600, Sum.inl (fun _ => 0))), (q_6, Sum.inl (cI, 600, Sum.inl (fun _ => 0))), (q_7, Sum.inl (cI, 9000, Sum.inl (fun _ => 0))), (q_8, Sum.inl (cI, 9000, Sum.inl (fun _ => 0))), (q_9, Sum.inl (cI, 6000, Sum.inl (fun _ => 0))), (q_10, Sum.inl (cI, 512, Sum.inl (fun _ => 0))), (q_11, Sum.inl (cI, 512, Sum.inl (fun _ => 0))), (q_12, Sum.inl (cI, 20000, Sum.inl (fun _ => 0)))] H := ⟨hP, hD⟩
      clear hP hD
      have hP := hPD.1
      have hD := hPD.2
      clear hPD
      exact J_133 (4 : Int32) (by rw [near_hi c_16 (by decide)]) H locs ls (hP.sub [0, 1, 2, 3, 4, 5, 6, 7, 8, 9, 10, 11, 12] rfl) (hD.sub [0, 1, 2, 3, 4, 5, 6, 7, 8, 9, 10, 11, 12] (by decide +kernel) rfl) hS (lv_sub hl [0, 1, 2] rfl)
  · refine lv_iconst (v := 0) hx hb d_M_init_116 (by decide) ?_
    refine lv_goto (tgt := 130) hx hb d_M_init_117 (by decide) ?_
    refine va_putF (D := (dC, dI)) (ci := 9) (v := .int 0) (ty := .int) (C := "RangeCodersModel") (T := T_M) (N := 35) hx hb hg in_M t_M o_M n_M hown hK hP hD hS 0 rfl rfl 0 (by decide) (hg _ k952) (fun _ h9 => h9) rfl (by rw [hnm]; rfl) rfl (by decide +kernel) rfl rfl (Nat.le_of_ble_eq_true rfl) d_M_init_130 (fun _ _ _ _ _ => ?_)
    clear hP hD hS
    rename_i H locs hP hD hS
    have hPD : my_PD (dC, dI) vwCl A [(o, Sum.inr (9, [Value.int 0, Value.int 0, Value.int 0, Value.ref q_1, Value.ref q_2, Value.ref q_3, Value.ref q_4, Value.int 0, Value.ref q_5, Value.ref q_6, Value.int 0, Value.long 0, Value.long 0, Value.int 0, Value.int 0, Value.ref q_7, Value.int 0, Value.ref q_8, Value.int 0, Value.ref q_9, Value.int 0, Value.int 0, Value.int 0, Value.int 0, Value.int 0, Value.int 0, Value.long 0, Value.long 0, Value.long 0, Value.long 0, Value.ref q_10, Value.ref q_11, Value.ref q_12, Value.int 0, Value.int 0])), (q_1, Sum.inl (cI, 8, Sum.inl (fun _ => 0))), (q_2, Sum.inl (cI, 512, Sum.inl (fun _ => 0))), (q_3, Sum.inl (cI, 512, Sum.inl (fun _ => 0))), (q_4, Sum.inl (cI, 512, Sum.inl (fun _ => 0))), (q_5, Sum.inl (cI, 600, Sum.inl (fun _ => 0))), (q_6, Sum.inl (cI, 600, Sum.inl (fun _ => 0))), (q_7, Sum.inl (cI, 9000, Sum.inl (fun _ => 0))), (q_8, Sum.inl (cI, 9000, Sum.inl (fun _ => 0))), (q_9, Sum.inl (cI, 6000, Sum.inl (fun _ => 0))), (q_10, Sum.inl (cI, 512, Sum.inl (fun _ => 0))), (q_11, Sum.inl (cI, 512, Sum.inl (fun _ => 0))), (q_12, Sum.inl (cI, 20000, Sum.inl (fun _ => 0)))] H := ⟨hP, hD⟩
    clear hP hD
    have hP := hPD.1
    have hD := hPD.2
    clear hPD
    exact J_133 (0 : Int32) (by rw [near_lo c_15 (by decide)]) H locs ls (hP.sub [0, 1, 2, 3, 4, 5, 6, 7, 8, 9, 10, 11, 12] rfl) (hD.sub [0, 1, 2, 3, 4, 5, 6, 7, 8, 9, 10, 11, 12] (by decide +kernel) rfl) hS (lv_sub hl [0, 1, 2] rfl)
end
section
/-! PURE WORDS for the class's own tables and rows -/
def tbI (f : Nat → Int32) (n : Nat) (G : Nat → Nat) : Prop := ∀ k, k < n → f k = nI (G k)
def tbL (fL : Nat → Int32) (n j : Nat) (G F : Nat → Nat) : Prop := tbI fL j G ∧ ∀ k, j ≤ k → k < n → fL k = nI (F k)
theorem tbI_0 (f : Nat → Int32) (G : Nat → Nat) : tbI f 0 G := fun k hk => absurd hk (Nat.not_lt_zero k)
theorem tbL_0 {f : Nat → Int32} {n : Nat} {G F : Nat → Nat} (h : tbI f n F) : tbL f n 0 G F := ⟨tbI_0 _ _, fun k _ hk => h k hk⟩
theorem tbL_st {fL : Nat → Int32} {n j i : Nat} {G F : Nat → Nat} {x : Int32} (h : tbL fL n j G F) (hi : i = j) (hx : x = nI (G j)) : tbL (upd fL i x) n (j + 1) G F := by
  subst hi
  refine ⟨fun k hk => ?_, fun k hk hk2 => ?_⟩
  · by_cases e : k = i
    · subst e; rw [pk_us, hx]
    · rw [pk_un e]; exact h.1 k (by omega)
  · rw [pk_un (by omega)]; exact h.2 k (by omega) hk2
theorem tb_up {f : Nat → Int32} {n j i : Nat} {F : Nat → Nat} {x : Int32} {v : Nat} (h : tbI f n F) (hi : i = j) (hx : x = nI v) : tbI (upd f i x) n (upN F j v) := by
  subst hi
  intro k hk
  by_cases e : k = i
  · subst e; rw [pk_us, upN_s, hx]
  · rw [pk_un e, upN_n _ e]; exact h k hk
theorem tb_add {f : Nat → Int32} {j i : Nat} {G : Nat → Nat} {x : Int32} (h : tbI f j G) (hi : i = j) (hx : x = nI (G j)) : tbI (upd f i x) (j + 1) G := by
  subst hi
  intro k hk
  by_cases e : k = i
  · subst e; rw [pk_us, hx]
  · rw [pk_un e]; exact h k (by omega)
theorem tb_rd {f : Nat → Int32} {n j : Nat} {F : Nat → Nat} (h : tbI f n F) (hj : j < n) (hb : j < 2 ^ 31) : f (nI j).toNatClampNeg = nI (F j) := by rw [nI_clamp hb]; exact h j hj
theorem tb_rd2 {f : Nat → Int32} {n j : Nat} {G F : Nat → Nat} (h : tbL f n j G F) (hj : j < n) (hb : j < 2 ^ 31) : f (nI j).toNatClampNeg = nI (F j) := by rw [nI_clamp hb]; exact h.2 j (Nat.le_refl _) hj
theorem nI_lt' {j n : Nat} (hj : j < 2 ^ 31) (h : ¬ nI n ≤ nI j) : j < n := by
  rcases Nat.lt_or_ge j n with q | q
  · exact q
  · exact absurd (nI_le q hj) h
theorem nI_ge' {j n : Nat} (hj : j < 2 ^ 31) (hn : n < 2 ^ 31) (h : nI n ≤ nI j) : n ≤ j := (nI_cmp hn hj).mp h
/-- a row's list and its size -/
theorem rOk_nI {n cap : Nat} (h : rOk (nI n) cap) (hn : n < 2 ^ 31) : n ≤ cap := by
  have := h.2.1
  rw [nI_toInt hn] at this
  omega
theorem rOk_of {n cap : Nat} (hn : n ≤ cap) (h1 : 1 ≤ cap) (h2 : cap ≤ 16384) : rOk (nI n) cap := by
  refine ⟨?_, ?_, h1, h2⟩
  · rw [nI_toInt (by omega)]; omega
  · rw [nI_toInt (by omega)]; omega
theorem gIs_cpy {f g : Nat → Int32} {bs : List Nat} {n : Nat} (h : gIs f bs) (hn : bs.length ≤ n) : gIs (va_cpy f g 0 0 n) bs := by
  intro i hi
  rw [← h i hi]
  unfold va_cpy
  rw [if_pos ⟨Nat.zero_le _, by omega⟩]
  congr 1
  omega
/-- what a row answers at i -/
def rAt (bs : List Nat) (i : Int32) : Int32 := if 0 ≤ i ∧ i < nI bs.length then nI (bs.getD i.toNatClampNeg 0) else -1
theorem has_lt {n k : Nat} {i : Int32} (hn : n ≤ k) (hk : k < 2 ^ 31) (h0 : ¬ i < 0) (h1 : ¬ nI n ≤ i) : ¬ nI k ≤ i := by
  intro h
  apply h1
  rw [Int32.le_iff_toInt_le, nI_toInt (by omega)] at h ⊢
  omega
theorem has_1 {n : Nat} {i : Int32} (h0 : ¬ i < 0) (h1 : ¬ nI n ≤ i) : (1 : Int32) = if 0 ≤ i ∧ i < nI n then 1 else 0 := by rw [if_pos ⟨Int32.not_lt.mp h0, Int32.not_le.mp h1⟩]
theorem has_0a {n : Nat} {i : Int32} (h0 : i < 0) : (0 : Int32) = if 0 ≤ i ∧ i < nI n then 1 else 0 := by rw [if_neg (fun h => absurd h0 (Int32.not_lt.mpr h.1))]
theorem has_0b {n : Nat} {i : Int32} (h1 : nI n ≤ i) : (0 : Int32) = if 0 ≤ i ∧ i < nI n then 1 else 0 := by rw [if_neg (fun h => absurd h.2 (Int32.not_lt.mpr h1))]
theorem has_in {n i : Nat} (h : i < n) (hn : n < 2 ^ 31) : 0 ≤ nI i ∧ nI i < nI n := ⟨Int32.not_lt.mp (nI_pos (by omega)), Int32.not_le.mp (nI_ge h hn)⟩
theorem rAt_0 {bs : List Nat} {i : Int32} (h : ¬ (0 ≤ i ∧ i < nI bs.length)) : (-1 : Int32) = rAt bs i := by unfold rAt; rw [if_neg h]
theorem rAt_1 {bs : List Nat} {i v : Int32} {f : Nat → Int32} (hb : bs.length < 2 ^ 31) (hG : gIs f bs) (h : 0 ≤ i ∧ i < nI bs.length) (e : v = f i.toNatClampNeg) : v = rAt bs i := by
  unfold rAt
  rw [if_pos h, e]
  refine hG _ ?_
  obtain ⟨h0, h1⟩ := h
  obtain ⟨j, hj, rfl⟩ := nI_of (Int32.not_lt.mpr h0)
  rw [nI_clamp hj]
  rw [Int32.lt_iff_toInt_lt, nI_toInt hj, nI_toInt hb] at h1
  omega
theorem gIs_setN {f : Nat → Int32} {bs : List Nat} {i k x : Nat} (h : gIs f bs) (hk : k = i) : gIs (upd f k (nI x)) (bs.set i x) := by
  subst hk
  intro j hj
  rw [List.length_set] at hj
  by_cases e : j = k
  · subst e
    rw [pk_us]
    simp [List.getD_eq_getElem?_getD, hj]
  · rw [pk_un e, h j hj]
    simp [List.getD_eq_getElem?_getD, List.getElem?_set_ne (Ne.symm e)]
theorem sub_toInt {a b : Nat} (ha : a < 2 ^ 30) (hb : b < 2 ^ 30) : (nI a - nI b).toInt = (a : Int) - b := by
  rw [Int32.toInt_sub, nI_toInt (by omega), nI_toInt (by omega)]
  apply Int.bmod_eq_of_le <;> omega
theorem not_le0 {x : Int32} (h : ¬ x ≤ 0) : 0 < x.toInt := by
  rw [Int32.le_iff_toInt_le] at h
  have e0 : (0 : Int32).toInt = 0 := rfl
  omega
theorem le_0 {x : Int32} (h : x ≤ 0) : x.toInt ≤ 0 := by
  rw [Int32.le_iff_toInt_le] at h
  have e0 : (0 : Int32).toInt = 0 := rfl
  omega
theorem nI_pos0 {n : Nat} (h : 0 < n) (hn : n < 2 ^ 31) : (0 : Int32) < nI n := by
  rw [Int32.lt_iff_toInt_lt, nI_toInt hn]
  have e0 : (0 : Int32).toInt = 0 := rfl
  omega
/-- the greater of 1 and n -/
theorem max1 {n : Nat} (hn : n < 2 ^ 31) : (if (1 : Int32) < nI n then nI n else 1) = nI (if n < 1 then 1 else n) := by
  have e1 : (1 : Int32).toInt = 1 := rfl
  by_cases h : n < 1
  · rw [if_pos h, if_neg (by rw [Int32.lt_iff_toInt_lt, nI_toInt hn, e1]; omega)]; rfl
  · rw [if_neg h]
    by_cases h2 : n = 1
    · subst h2; rfl
    · rw [if_pos (by rw [Int32.lt_iff_toInt_lt, nI_toInt hn, e1]; omega)]
theorem nI_m1 {n : Nat} (h : 0 < n) : nI n + (-1) = nI (n - 1) := by
  rw [← nI_pred9 h]
  exact (Int32.sub_eq_add_neg (a := nI n) (b := 1)).symm
/-- so many SHIFTS -/
def shK : Nat → ES → ES
  | 0, e => e
  | k + 1, e => shK k (shS e)
/-- so many bytes of LOW -/
def tpK : Nat → Nat × List Nat → Nat × List Nat
  | 0, e => e
  | k + 1, e => tpK k (mvL e.1, e.2 ++ [e.1 / 16777216 % 256])
/-! shifts that don't keep the sign -/
theorem U_shr24 {n : Nat} (h : n < 2 ^ 64) : ((lN n).toUInt64 >>> ((24 : Int32).toInt64.toUInt64 &&& Int64.toUInt64 63)).toInt64 = lN (n / 16777216) := wb_shr (k := 24) h (by decide)
theorem U_shr32 {n : Nat} (h : n < 2 ^ 64) : ((lN n).toUInt64 >>> ((32 : Int32).toInt64.toUInt64 &&& Int64.toUInt64 63)).toInt64 = lN (n / 4294967296) := wb_shr (k := 32) h (by decide)
theorem U_shr11 {n : Nat} (h : n < 2 ^ 64) : ((lN n).toUInt64 >>> ((11 : Int32).toInt64.toUInt64 &&& Int64.toUInt64 63)).toInt64 = lN (n / 2048) := wb_shr (k := 11) h (by decide)
theorem U_shr8 {n : Nat} (h : n < 2 ^ 64) : ((lN n).toUInt64 >>> ((8 : Int32).toInt64.toUInt64 &&& Int64.toUInt64 63)).toInt64 = lN (n / 256) := wb_shr (k := 8) h (by decide)
theorem U_shr1 {n : Nat} (h : n < 2 ^ 64) : ((lN n).toUInt64 >>> ((1 : Int32).toInt64.toUInt64 &&& Int64.toUInt64 63)).toInt64 = lN (n / 2) := wb_shr (k := 1) h (by decide)
theorem nx_cnt : ∀ j : Fin 32, (UInt32.ofNat j.val &&& Int32.toUInt32 31).toNat % 32 = j.val := by decide +kernel
theorem I_ushr {k j : Nat} (hk : k < 65536) (hj : j < 32) : ((nI k).toUInt32 >>> ((nI j).toUInt32 &&& Int32.toUInt32 31)).toInt32 = nI (k / 2 ^ j) := by
  rw [← Nat.shiftRight_eq_div_pow]
  have hs : k >>> j ≤ k := by
    rw [Nat.shiftRight_eq_div_pow]
    exact Nat.div_le_self _ _
  have e2 : UInt32.ofNat k >>> (UInt32.ofNat j &&& Int32.toUInt32 31) = UInt32.ofNat (k >>> j) := by
    apply UInt32.toNat_inj.1
    have h1 : (UInt32.ofNat k).toNat = k := Nat.mod_eq_of_lt (by omega)
    have h2 : (UInt32.ofNat (k >>> j)).toNat = k >>> j := Nat.mod_eq_of_lt (by omega)
    rw [UInt32.toNat_shiftRight, nx_cnt ⟨j, hj⟩, h1, h2]
  show (UInt32.ofNat k >>> (UInt32.ofNat j &&& Int32.toUInt32 31)).toInt32 = _
  rw [e2]
  rfl
theorem rv_drop {W : List Nat} {j : Nat} (h0 : 1 ≤ j) (h : j ≤ W.length) : (W.drop j).reverse ++ [W.getD (j - 1) 0] = (W.drop (j - 1)).reverse := by
  obtain ⟨q, rfl⟩ : ∃ q, j = q + 1 := ⟨j - 1, by omega⟩
  have hq : q < W.length := by omega
  rw [Nat.add_sub_cancel, List.drop_eq_getElem_cons hq, List.reverse_cons, List.getD_eq_getElem?_getD, List.getElem?_eq_getElem hq]
  rfl
theorem rAt_nI {bs : List Nat} {i : Nat} (h : i < bs.length) (hb : bs.length < 2 ^ 31) : rAt bs (nI i) = nI (bs.getD i 0) := by
  unfold rAt
  rw [if_pos (has_in h hb), nI_clamp (by omega)]
end
