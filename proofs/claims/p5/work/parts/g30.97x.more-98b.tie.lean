section
set_option maxHeartbeats 2000000 in
set_option maxRecDepth 100000 in
theorem m_modelB (l : Launch) (dC : Nat → ClassId) (dI : Nat → Nat → Nat) (cI cM cO : ClassId) (sz : Nat) (o : Nat) (g : Nat → Nat) (fForm : Int32) (fShift : Int32) (fModels : Int32) (fItems : Int32) (fEnded : Int32) (fLow : Int64) (fRange : Int64) (fCache : Int32) (fPend : Int32) (fGoes : Int32) (fOuts : Int32) (fIns : Int32) (fReads : Int32) (fBad : Int32) (fIR : Int32) (fAsk : Int32) (fBAsk : Int32) (fCode : Int64) (fRL : Int64) (fRR : Int64) (fX : Int64) (fWrites : Int32) (fThrown : Int32) (vMany : Nat → Int32) (vCounts : Nat → Int32) (vNow : Nat → Int32) (vThen : Nat → Int32) (fm : Nat) (km : Nat) (N : Nat → Nat) (ns : Nat) (hfm : fm ≤ 4) (hform : fForm = nI fm) (hmod : fModels = nI km) (hMD : MD km N vMany vCounts) (hns2 : 2 ≤ ns) (hns : ns ≤ 64) (hk : km < 8) (hT : TB fm km N vNow) (hU : TB fm km N vThen) : MetI l y_M_model (Cond.code y_M_model prog_14_method_13_code 4 (some .int) :: gw) ({ frames := 3, cells := 0, slots := 0, locals := 75 } : Room) (dC, dI) vwCl (kT cI cM cO) [Value.ref o, Value.int (nI ns)] [(o, Sum.inr (9, mO g fForm fShift fModels fItems fEnded fLow fRange fCache fPend fGoes fOuts fIns fReads fBad fIR fAsk fBAsk fCode fRL fRR fX fWrites fThrown)), ((g 0), Sum.inl (cI, 8, Sum.inl vMany)), ((g 1), Sum.inl (cI, 512, Sum.inl vCounts)), ((g 2), Sum.inl (cI, 512, Sum.inl vNow)), ((g 3), Sum.inl (cI, 512, Sum.inl vThen))] sz (fun (r : Int32) (u : Int32 × Int32 × (Nat → Int32) × (Nat → Int32) × (Nat → Int32) × (Nat → Int32)) => r = nI km ∧ MD (km + 1) (upN N km ns) u.2.2.1 u.2.2.2.1 ∧ TB fm (km + 1) (upN N km ns) u.2.2.2.2.1 ∧ TB fm (km + 1) (upN N km ns) u.2.2.2.2.2 ∧ u.1 = nI (km + 1) ∧ sgO u.2.2.2.2.1 vNow (64 * km) 64 ∧ sgI u.2.2.2.2.1 (64 * km) (pfN fm ns) (pf fm ns (fun _ => 1)) ∧ sgI u.2.2.2.1 (64 * km) ns (fun _ => 1) ∧ sgO u.2.2.2.1 vCounts (64 * km) 64) (fun (u : Int32 × Int32 × (Nat → Int32) × (Nat → Int32) × (Nat → Int32) × (Nat → Int32)) => [(o, Sum.inr (9, mO g fForm fShift u.1 fItems fEnded fLow fRange fCache fPend fGoes fOuts fIns fReads fBad fIR fAsk fBAsk fCode fRL fRR fX fWrites u.2.1)), ((g 0), Sum.inl (cI, 8, Sum.inl u.2.2.1)), ((g 1), Sum.inl (cI, 512, Sum.inl u.2.2.2.1)), ((g 2), Sum.inl (cI, 512, Sum.inl u.2.2.2.2.1)), ((g 3), Sum.inl (cI, 512, Sum.inl u.2.2.2.2.2))]) 0 0 := by
  refine my_ofI (cc := prog_14_method_13_code) (n := 4) (ret := (some .int)) (by decide) rfl (Nat.le_of_ble_eq_true rfl) ?_
  intro p e s m args below meth c R Q A ls H locs hx hb hr hts hown hlocks hml hnm hR hQ hA hl hP hK hN hD hS
  have hg : ∀ w ∈ gw, w.before args s = true := fun w h => hts w (List.mem_cons_of_mem _ h)
  have hown : s.vm.findClass "RangeCodersModel" = some m.cls := hown
  have hl : lv_has ls 4 [(0, Value.ref o), (1, Value.int (nI ns))] := hl
  subst hmod
  have hP : va_P (dC, dI) vwCl [(o, Sum.inr (9, mO g fForm fShift (nI km) fItems fEnded fLow fRange fCache fPend fGoes fOuts fIns fReads fBad fIR fAsk fBAsk fCode fRL fRR fX fWrites fThrown)), ((g 0), Sum.inl (cI, 8, Sum.inl vMany)), ((g 1), Sum.inl (cI, 512, Sum.inl vCounts)), ((g 2), Sum.inl (cI, 512, Sum.inl vNow)), ((g 3), Sum.inl (cI, 512, Sum.inl vThen))] H := hP
  have hD : va_D A [(o, Sum.inr (9, mO g fForm fShift (nI km) fItems fEnded fLow fRange fCache fPend fGoes fOuts fIns fReads fBad fIR fAsk fBAsk fCode fRL fRR fX fWrites fThrown)), ((g 0), Sum.inl (cI, 8, Sum.inl vMany)), ((g 1), Sum.inl (cI, 512, Sum.inl vCounts)), ((g 2), Sum.inl (cI, 512, Sum.inl vNow)), ((g 3), Sum.inl (cI, 512, Sum.inl vThen))] := hD
  have hl : lv_has ls 4 [(0, Value.ref o), (1, Value.int (nI ns))] := hl
  refine lv_aload_n hx hb d_M_model_0 rfl (lv_at hl 0 rfl) ?_
  refine lv_iconst (v := 0) hx hb d_M_model_1 (by decide) ?_
  refine va_put (D := (dC, dI)) (ci := 9) (v := .int 0) (ty := .int) (C := "RangeCodersModel") (T := T_M) (N := 35) hx hb hg in_M t_M o_M n_M hown hK hP hD hS 0 rfl rfl 34 (by decide) (hg _ k986) (fun _ h9 => h9) rfl (by decide +kernel) rfl rfl (Nat.le_of_ble_eq_true rfl) d_M_model_2 (fun H locs hP hD hS => ?_)
  have hP : va_P (dC, dI) vwCl [(o, Sum.inr (9, mO g fForm fShift (nI km) fItems fEnded fLow fRange fCache fPend fGoes fOuts fIns fReads fBad fIR fAsk fBAsk fCode fRL fRR fX fWrites 0)), ((g 0), Sum.inl (cI, 8, Sum.inl vMany)), ((g 1), Sum.inl (cI, 512, Sum.inl vCounts)), ((g 2), Sum.inl (cI, 512, Sum.inl vNow)), ((g 3), Sum.inl (cI, 512, Sum.inl vThen))] H := hP
  have hD : va_D A [(o, Sum.inr (9, mO g fForm fShift (nI km) fItems fEnded fLow fRange fCache fPend fGoes fOuts fIns fReads fBad fIR fAsk fBAsk fCode fRL fRR fX fWrites 0)), ((g 0), Sum.inl (cI, 8, Sum.inl vMany)), ((g 1), Sum.inl (cI, 512, Sum.inl vCounts)), ((g 2), Sum.inl (cI, 512, Sum.inl vNow)), ((g 3), Sum.inl (cI, 512, Sum.inl vThen))] := hD
  refine lv_iload_n hx hb d_M_model_5 rfl (lv_at hl 1 rfl) ?_
  refine lv_iconst (v := 2) hx hb d_M_model_6 (by decide) ?_
  refine lv_bipush (v := 64) hx hb d_M_model_7 (by decide) ?_
  refine my_ci (wr := [(o, Sum.inr (9, mO g fForm fShift (nI km) fItems fEnded fLow fRange fCache fPend fGoes fOuts fIns fReads fBad fIR fAsk fBAsk fCode fRL fRR fX fWrites 0)), ((g 0), Sum.inl (cI, 8, Sum.inl vMany)), ((g 1), Sum.inl (cI, 512, Sum.inl vCounts)), ((g 2), Sum.inl (cI, 512, Sum.inl vNow)), ((g 3), Sum.inl (cI, 512, Sum.inl vThen))]) (va_runS (As := [Value.int (nI ns), Value.int 2, Value.int 64]) (rest := []) ⟨hx, hb, hml, hown, hts⟩ (c_M_in l dC dI cI cM cO H.size (nI ns) 2 64) (cwS 3 hts (my_gS k1062 k1063 k12 k1064) rfl rfl rfl (by decide +kernel) ⟨by rw [hR]; exact Nat.le_of_ble_eq_true rfl, by rw [hR]; exact Nat.le_of_ble_eq_true rfl⟩) (my_pre hK hN (hP.sub [] rfl) (hD.sub [] (by decide +kernel) rfl)) rfl rfl hl.1 rfl (lv_room (Nat.le_of_ble_eq_true rfl)) d_M_model_9 ⟨by rw [hR]; exact Nat.le_of_ble_eq_true rfl, by rw [hR]; exact Nat.le_of_ble_eq_true rfl⟩) hP hD hS hA [] [0, 1, 2, 3, 4] rfl rfl (by decide +kernel) (by decide +kernel) (fun r_9 u9 H locs hw_9 hP hD hS => ?_)
  have hw_9 : r_9 = if 2 ≤ (nI ns) ∧ (nI ns) ≤ 64 then 1 else 0 := hw_9
  have hP : va_P (dC, dI) vwCl [(o, Sum.inr (9, mO g fForm fShift (nI km) fItems fEnded fLow fRange fCache fPend fGoes fOuts fIns fReads fBad fIR fAsk fBAsk fCode fRL fRR fX fWrites 0)), ((g 0), Sum.inl (cI, 8, Sum.inl vMany)), ((g 1), Sum.inl (cI, 512, Sum.inl vCounts)), ((g 2), Sum.inl (cI, 512, Sum.inl vNow)), ((g 3), Sum.inl (cI, 512, Sum.inl vThen))] H := hP
  have hD : va_D A [(o, Sum.inr (9, mO g fForm fShift (nI km) fItems fEnded fLow fRange fCache fPend fGoes fOuts fIns fReads fBad fIR fAsk fBAsk fCode fRL fRR fX fWrites 0)), ((g 0), Sum.inl (cI, 8, Sum.inl vMany)), ((g 1), Sum.inl (cI, 512, Sum.inl vCounts)), ((g 2), Sum.inl (cI, 512, Sum.inl vNow)), ((g 3), Sum.inl (cI, 512, Sum.inl vThen))] := hD
  refine lv_if_ne (tgt := 18) hx hb d_M_model_12 (by decide) (fun c_1 => ?_) (fun c_1 => ?_)
  · refine lv_aload_n hx hb d_M_model_18 rfl (lv_at hl 0 rfl) ?_
    refine va_get (D := (dC, dI)) (ci := 9) (v := .int (nI km)) (C := "RangeCodersModel") (T := T_M) (N := 35) hx hb hg in_M hown hK hP 0 rfl rfl 2 (by decide) (hg _ k954) (fun _ h9 => h9) rfl d_M_model_19 ?_
    refine lv_bipush (v := 8) hx hb d_M_model_22 (by decide) ?_
    refine lv_icmp_ne (tgt := 30) hx hb d_M_model_24 (by decide) (fun c_2 => ?_) (fun c_2 => ?_)
    · refine lv_aload_n hx hb d_M_model_30 rfl (lv_at hl 0 rfl) ?_
      refine va_get (D := (dC, dI)) (ci := 9) (v := .int (nI km)) (C := "RangeCodersModel") (T := T_M) (N := 35) hx hb hg in_M hown hK hP 0 rfl rfl 2 (by decide) (hg _ k954) (fun _ h9 => h9) rfl d_M_model_31 ?_
      refine lv_istore_n (lv' := [(2, Value.int (nI km)), (0, Value.ref o), (1, Value.int (nI ns))]) hx hb d_M_model_34 rfl hl (by decide) rfl (fun ls hl => ?_)
      refine lv_aload_n hx hb d_M_model_35 rfl (lv_at hl 1 rfl) ?_
      refine lv_dup hx hb d_M_model_36 rfl ?_
      refine va_get (D := (dC, dI)) (ci := 9) (v := .int (nI km)) (C := "RangeCodersModel") (T := T_M) (N := 35) hx hb hg in_M hown hK hP 0 rfl rfl 2 (by decide) (hg _ k954) (fun _ h9 => h9) rfl d_M_model_37 ?_
      refine lv_iconst (v := 1) hx hb d_M_model_40 (by decide) ?_
      refine lv_iadd hx hb d_M_model_41 ?_
      refine lv_topi (fun v_3 ev_3 => ?_)
      have z9 : v_3 = nI (km + 1) := by rw [ev_3]; exact nI_1 _
      subst z9
      refine va_put (D := (dC, dI)) (ci := 9) (v := .int (nI (km + 1))) (ty := .int) (C := "RangeCodersModel") (T := T_M) (N := 35) hx hb hg in_M t_M o_M n_M hown hK hP hD hS 0 rfl rfl 2 (by decide) (hg _ k954) (fun _ h9 => h9) rfl (by decide +kernel) rfl rfl (Nat.le_of_ble_eq_true rfl) d_M_model_42 (fun H locs hP hD hS => ?_)
      have hP : va_P (dC, dI) vwCl [(o, Sum.inr (9, mO g fForm fShift (nI (km + 1)) fItems fEnded fLow fRange fCache fPend fGoes fOuts fIns fReads fBad fIR fAsk fBAsk fCode fRL fRR fX fWrites 0)), ((g 0), Sum.inl (cI, 8, Sum.inl vMany)), ((g 1), Sum.inl (cI, 512, Sum.inl vCounts)), ((g 2), Sum.inl (cI, 512, Sum.inl vNow)), ((g 3), Sum.inl (cI, 512, Sum.inl vThen))] H := hP
      have hD : va_D A [(o, Sum.inr (9, mO g fForm fShift (nI (km + 1)) fItems fEnded fLow fRange fCache fPend fGoes fOuts fIns fReads fBad fIR fAsk fBAsk fCode fRL fRR fX fWrites 0)), ((g 0), Sum.inl (cI, 8, Sum.inl vMany)), ((g 1), Sum.inl (cI, 512, Sum.inl vCounts)), ((g 2), Sum.inl (cI, 512, Sum.inl vNow)), ((g 3), Sum.inl (cI, 512, Sum.inl vThen))] := hD
      refine lv_aload_n hx hb d_M_model_45 rfl (lv_at hl 1 rfl) ?_
      refine va_get (D := (dC, dI)) (ci := 9) (v := .ref (g 0)) (C := "RangeCodersModel") (T := T_M) (N := 35) hx hb hg in_M hown hK hP 0 rfl rfl 3 (by decide) (hg _ k955) (fun _ h9 => h9) rfl d_M_model_46 ?_
      refine lv_iload_n hx hb d_M_model_49 rfl (lv_at hl 0 rfl) ?_
      refine lv_iload_n hx hb d_M_model_50 rfl (lv_at hl 2 rfl) ?_
      refine va_iast hx hb hK hP hD hS 1 0 rfl rfl (vp_in_nI hk (by decide)) d_M_model_51 (fun H locs hP hD hS => ?_)
      have hP : va_P (dC, dI) vwCl [(o, Sum.inr (9, mO g fForm fShift (nI (km + 1)) fItems fEnded fLow fRange fCache fPend fGoes fOuts fIns fReads fBad fIR fAsk fBAsk fCode fRL fRR fX fWrites 0)), ((g 0), Sum.inl (cI, 8, Sum.inl (upd vMany (nI km).toNatClampNeg (nI ns)))), ((g 1), Sum.inl (cI, 512, Sum.inl vCounts)), ((g 2), Sum.inl (cI, 512, Sum.inl vNow)), ((g 3), Sum.inl (cI, 512, Sum.inl vThen))] H := hP
      have hD : va_D A [(o, Sum.inr (9, mO g fForm fShift (nI (km + 1)) fItems fEnded fLow fRange fCache fPend fGoes fOuts fIns fReads fBad fIR fAsk fBAsk fCode fRL fRR fX fWrites 0)), ((g 0), Sum.inl (cI, 8, Sum.inl (upd vMany (nI km).toNatClampNeg (nI ns)))), ((g 1), Sum.inl (cI, 512, Sum.inl vCounts)), ((g 2), Sum.inl (cI, 512, Sum.inl vNow)), ((g 3), Sum.inl (cI, 512, Sum.inl vThen))] := hD
      rw [nI_clamp (show km < 2 ^ 31 by omega)] at hP hD
      refine lv_iconst (v := 0) hx hb d_M_model_52 (by decide) ?_
      refine lv_istore_n (lv' := [(3, Value.int 0), (2, Value.int (nI km)), (0, Value.ref o), (1, Value.int (nI ns))]) hx hb d_M_model_53 rfl hl (by decide) rfl (fun ls hl => ?_)
      have J_54 : ∀ (n9_54 : Nat) (kk : Nat) (fC : Nat → Int32) (hn9_54 : ns - kk = n9_54) (hkk : kk ≤ ns) (hM9 : sgM fC vCounts (64 * km) 64 kk (fun _ => 1)) (H : Heap) (locs : List Loc) (ls : Array Slot), va_P (dC, dI) vwCl [(o, Sum.inr (9, mO g fForm fShift (nI (km + 1)) fItems fEnded fLow fRange fCache fPend fGoes fOuts fIns fReads fBad fIR fAsk fBAsk fCode fRL fRR fX fWrites 0)), ((g 0), Sum.inl (cI, 8, Sum.inl (upd vMany km (nI ns)))), ((g 1), Sum.inl (cI, 512, Sum.inl fC)), ((g 2), Sum.inl (cI, 512, Sum.inl vNow)), ((g 3), Sum.inl (cI, 512, Sum.inl vThen))] H → va_D A [(o, Sum.inr (9, mO g fForm fShift (nI (km + 1)) fItems fEnded fLow fRange fCache fPend fGoes fOuts fIns fReads fBad fIR fAsk fBAsk fCode fRL fRR fX fWrites 0)), ((g 0), Sum.inl (cI, 8, Sum.inl (upd vMany km (nI ns)))), ((g 1), Sum.inl (cI, 512, Sum.inl fC)), ((g 2), Sum.inl (cI, 512, Sum.inl vNow)), ((g 3), Sum.inl (cI, 512, Sum.inl vThen))] → va_S A s.heap H locs → lv_has ls 4 [(3, Value.int (nI kk)), (2, Value.int (nI km)), (0, Value.ref o), (1, Value.int (nI ns))] → W p l e R s m args below meth c H locs 0 0 Q (F0 m 54 ls []) := by
        intro n9_54
        induction n9_54 using Nat.strongRecOn with
        | ind n9_54 ih9_54 =>
          intro kk fC hn9_54 hkk hM9 H locs ls hP hD hS hl
          refine lv_iload_n hx hb d_M_model_54 rfl (lv_at hl 0 rfl) ?_
          refine lv_iload_n hx hb d_M_model_55 rfl (lv_at hl 3 rfl) ?_
          refine lv_icmp_ge (tgt := 77) hx hb d_M_model_56 (by decide) (fun c_4 => ?_) (fun c_4 => ?_)
          · have hkn : kk = ns := by have := (nI_cmp (a := ns) (b := kk) (by omega) (by omega)).mp c_4; omega
            subst hkn
            have hmn : upd vMany km (nI kk) km = nI kk := pk_us
            have hb1 : bd (fun _ => 1) kk 4095 := fun _ _ => (by decide : 1 ≤ 4095)
            refine lv_aload_n hx hb d_M_model_77 rfl (lv_at hl 2 rfl) ?_
            refine lv_aload_n hx hb d_M_model_78 rfl (lv_at hl 2 rfl) ?_
            refine va_get (D := (dC, dI)) (ci := 9) (v := .ref (g 2)) (C := "RangeCodersModel") (T := T_M) (N := 35) hx hb hg in_M hown hK hP 0 rfl rfl 5 (by decide) (hg _ k957) (fun _ h9 => h9) rfl d_M_model_79 ?_
            refine lv_iload_n hx hb d_M_model_82 rfl (lv_at hl 1 rfl) ?_
            refine my_cv (wr := [((g 3), Sum.inl (cI, 512, Sum.inl vThen))]) (va_runV (As := [Value.ref (g 2), Value.int (nI km)]) (rest := []) ⟨hx, hb, hml, hown, hts⟩ (c_M_prepare l dC dI cI cM cO H.size o g fForm fShift (nI (km + 1)) fItems fEnded fLow fRange fCache fPend fGoes fOuts fIns fReads fBad fIR fAsk fBAsk fCode fRL fRR fX fWrites 0 (upd vMany km (nI kk)) fC (g 2) vNow km kk fm (fun _ => 1) (by omega) (hmn) (by omega) (by omega) (hfm) (hform) (hM9.1) (hb1)) (cwV 2 hts (my_gV k928 k930 ks19 k12 k931) rfl rfl rfl (by decide +kernel) ⟨by rw [hR]; exact Nat.le_of_ble_eq_true rfl, by rw [hR]; exact Nat.le_of_ble_eq_true rfl⟩) (my_preV hK hN (hP.sub [0, 1, 2, 3] rfl) (hD.sub [0, 1, 2, 3] (by decide +kernel) rfl) 0 rfl rfl) rfl rfl hl.1 rfl (lv_room (Nat.le_of_ble_eq_true rfl)) d_M_model_83 ⟨by rw [hR]; exact Nat.le_of_ble_eq_true rfl, by rw [hR]; exact Nat.le_of_ble_eq_true rfl⟩) hP hD hS hA [0, 1, 2, 3] [4] rfl rfl (by decide +kernel) (by decide +kernel) (fun u9 H locs hw_83 hP hD hS => ?_)
            obtain ⟨f2_83, rfl⟩ : ∃ z, z = u9 := ⟨_, rfl⟩
            have hw_83 : sgI f2_83 (64 * km) (pfN fm kk) (pf fm kk (fun _ => 1)) ∧ sgO f2_83 vNow (64 * km) 64 := hw_83
            have hP : va_P (dC, dI) vwCl [((g 3), Sum.inl (cI, 512, Sum.inl vThen)), (o, Sum.inr (9, mO g fForm fShift (nI (km + 1)) fItems fEnded fLow fRange fCache fPend fGoes fOuts fIns fReads fBad fIR fAsk fBAsk fCode fRL fRR fX fWrites 0)), ((g 0), Sum.inl (cI, 8, Sum.inl (upd vMany km (nI kk)))), ((g 1), Sum.inl (cI, 512, Sum.inl fC)), ((g 2), Sum.inl (cI, 512, Sum.inl f2_83))] H := hP
            have hD : va_D A [((g 3), Sum.inl (cI, 512, Sum.inl vThen)), (o, Sum.inr (9, mO g fForm fShift (nI (km + 1)) fItems fEnded fLow fRange fCache fPend fGoes fOuts fIns fReads fBad fIR fAsk fBAsk fCode fRL fRR fX fWrites 0)), ((g 0), Sum.inl (cI, 8, Sum.inl (upd vMany km (nI kk)))), ((g 1), Sum.inl (cI, 512, Sum.inl fC)), ((g 2), Sum.inl (cI, 512, Sum.inl f2_83))] := hD
            refine lv_aload_n hx hb d_M_model_86 rfl (lv_at hl 2 rfl) ?_
            refine lv_aload_n hx hb d_M_model_87 rfl (lv_at hl 2 rfl) ?_
            refine va_get (D := (dC, dI)) (ci := 9) (v := .ref (g 3)) (C := "RangeCodersModel") (T := T_M) (N := 35) hx hb hg in_M hown hK hP 1 rfl rfl 6 (by decide) (hg _ k958) (fun _ h9 => h9) rfl d_M_model_88 ?_
            refine lv_iload_n hx hb d_M_model_91 rfl (lv_at hl 1 rfl) ?_
            refine my_cv (wr := [((g 2), Sum.inl (cI, 512, Sum.inl f2_83))]) (va_runV (As := [Value.ref (g 3), Value.int (nI km)]) (rest := []) ⟨hx, hb, hml, hown, hts⟩ (c_M_prepare l dC dI cI cM cO H.size o g fForm fShift (nI (km + 1)) fItems fEnded fLow fRange fCache fPend fGoes fOuts fIns fReads fBad fIR fAsk fBAsk fCode fRL fRR fX fWrites 0 (upd vMany km (nI kk)) fC (g 3) vThen km kk fm (fun _ => 1) (by omega) (hmn) (by omega) (by omega) (hfm) (hform) (hM9.1) (hb1)) (cwV 2 hts (my_gV k928 k930 ks19 k12 k931) rfl rfl rfl (by decide +kernel) ⟨by rw [hR]; exact Nat.le_of_ble_eq_true rfl, by rw [hR]; exact Nat.le_of_ble_eq_true rfl⟩) (my_preV hK hN (hP.sub [1, 2, 3, 0] rfl) (hD.sub [1, 2, 3, 0] (by decide +kernel) rfl) 0 rfl rfl) rfl rfl hl.1 rfl (lv_room (Nat.le_of_ble_eq_true rfl)) d_M_model_92 ⟨by rw [hR]; exact Nat.le_of_ble_eq_true rfl, by rw [hR]; exact Nat.le_of_ble_eq_true rfl⟩) hP hD hS hA [1, 2, 3, 0] [4] rfl rfl (by decide +kernel) (by decide +kernel) (fun u9 H locs hw_92 hP hD hS => ?_)
            obtain ⟨f2_92, rfl⟩ : ∃ z, z = u9 := ⟨_, rfl⟩
            have hw_92 : sgI f2_92 (64 * km) (pfN fm kk) (pf fm kk (fun _ => 1)) ∧ sgO f2_92 vThen (64 * km) 64 := hw_92
            have hP : va_P (dC, dI) vwCl [((g 2), Sum.inl (cI, 512, Sum.inl f2_83)), (o, Sum.inr (9, mO g fForm fShift (nI (km + 1)) fItems fEnded fLow fRange fCache fPend fGoes fOuts fIns fReads fBad fIR fAsk fBAsk fCode fRL fRR fX fWrites 0)), ((g 0), Sum.inl (cI, 8, Sum.inl (upd vMany km (nI kk)))), ((g 1), Sum.inl (cI, 512, Sum.inl fC)), ((g 3), Sum.inl (cI, 512, Sum.inl f2_92))] H := hP
            have hD : va_D A [((g 2), Sum.inl (cI, 512, Sum.inl f2_83)), (o, Sum.inr (9, mO g fForm fShift (nI (km + 1)) fItems fEnded fLow fRange fCache fPend fGoes fOuts fIns fReads fBad fIR fAsk fBAsk fCode fRL fRR fX fWrites 0)), ((g 0), Sum.inl (cI, 8, Sum.inl (upd vMany km (nI kk)))), ((g 1), Sum.inl (cI, 512, Sum.inl fC)), ((g 3), Sum.inl (cI, 512, Sum.inl f2_92))] := hD
            refine lv_iload_n hx hb d_M_model_95 rfl (lv_at hl 1 rfl) ?_
            exact my_iret (v := (nI km)) hx hb hr (rfl) hlocks hQ hK hS (Nat.le_refl _) (Nat.le_refl _) ((nI (km + 1)), (0 : Int32), (upd vMany km (nI kk)), fC, f2_83, f2_92) (⟨rfl, MD_new hMD hk (by omega) (by omega) hM9.2 hM9.1 hb1, TB_new hT (MD_N hMD) hw_83.2 (tab_pf hfm (by omega) (by omega) hb1 hw_83.1), TB_new hU (MD_N hMD) hw_92.2 (tab_pf hfm (by omega) (by omega) hb1 hw_92.1), rfl, hw_83.2, hw_83.1, hM9.1, hM9.2⟩) (hP.sub [1, 2, 3, 0, 4] rfl) (hD.sub [1, 2, 3, 0, 4] (by decide +kernel) rfl) d_M_model_96
          · have hkl : kk < ns := by
              rcases Nat.lt_or_ge kk ns with z | z
              · exact z
              · exact absurd (nI_le z (by omega)) c_4
            refine lv_aload_n hx hb d_M_model_59 rfl (lv_at hl 2 rfl) ?_
            refine va_get (D := (dC, dI)) (ci := 9) (v := .ref (g 1)) (C := "RangeCodersModel") (T := T_M) (N := 35) hx hb hg in_M hown hK hP 0 rfl rfl 4 (by decide) (hg _ k956) (fun _ h9 => h9) rfl d_M_model_60 ?_
            refine lv_bipush (v := 64) hx hb d_M_model_63 (by decide) ?_
            refine lv_iload_n hx hb d_M_model_65 rfl (lv_at hl 1 rfl) ?_
            refine lv_imul hx hb d_M_model_66 ?_
            refine lv_topi (fun v_5 ev_5 => ?_)
            refine lv_iload_n hx hb d_M_model_67 rfl (lv_at hl 0 rfl) ?_
            refine lv_iadd hx hb d_M_model_68 ?_
            refine lv_topi (fun v_6 ev_6 => ?_)
            have hix : v_6 = nI (64 * km + kk) := by rw [ev_6, ev_5]; exact ix64
            refine lv_iconst (v := 1) hx hb d_M_model_69 (by decide) ?_
            refine va_iast hx hb hK hP hD hS 2 0 rfl rfl (by rw [hix]; exact vp_in_nI (by omega) (by decide)) d_M_model_70 (fun H locs hP hD hS => ?_)
            have hP : va_P (dC, dI) vwCl [(o, Sum.inr (9, mO g fForm fShift (nI (km + 1)) fItems fEnded fLow fRange fCache fPend fGoes fOuts fIns fReads fBad fIR fAsk fBAsk fCode fRL fRR fX fWrites 0)), ((g 0), Sum.inl (cI, 8, Sum.inl (upd vMany km (nI ns)))), ((g 1), Sum.inl (cI, 512, Sum.inl (upd fC v_6.toNatClampNeg 1))), ((g 2), Sum.inl (cI, 512, Sum.inl vNow)), ((g 3), Sum.inl (cI, 512, Sum.inl vThen))] H := hP
            have hD : va_D A [(o, Sum.inr (9, mO g fForm fShift (nI (km + 1)) fItems fEnded fLow fRange fCache fPend fGoes fOuts fIns fReads fBad fIR fAsk fBAsk fCode fRL fRR fX fWrites 0)), ((g 0), Sum.inl (cI, 8, Sum.inl (upd vMany km (nI ns)))), ((g 1), Sum.inl (cI, 512, Sum.inl (upd fC v_6.toNatClampNeg 1))), ((g 2), Sum.inl (cI, 512, Sum.inl vNow)), ((g 3), Sum.inl (cI, 512, Sum.inl vThen))] := hD
            have hM8 : sgM (upd fC v_6.toNatClampNeg 1) vCounts (64 * km) 64 (kk + 1) (fun _ => 1) := sgM_st hM9 (by omega) (by rw [hix]; exact nI_clamp (by omega)) rfl
            obtain ⟨v_7, ev_7⟩ : ∃ y : Int32, y = (nI kk) + (1) := ⟨_, rfl⟩
            refine lv_iinc (v := v_7) (lv' := [(3, Value.int v_7), (2, Value.int (nI km)), (0, Value.ref o), (1, Value.int (nI ns))]) hx hb d_M_model_71 hl (k := 0) rfl (by rw [ev_7]; rfl) (by decide) rfl (fun ls hl => ?_)
            have z9 : v_7 = nI (kk + 1) := by rw [ev_7]; exact nI_1 _
            subst z9
            refine lv_goto (tgt := 54) hx hb d_M_model_74 (by decide) ?_
            exact ih9_54 _ (by first | omega | (omega)) (kk + 1) (upd fC v_6.toNatClampNeg 1) rfl (by omega) (hM8) H locs ls (hP.sub [0, 1, 2, 3, 4] rfl) (hD.sub [0, 1, 2, 3, 4] (by decide +kernel) rfl) hS (lv_sub hl [0, 1, 2, 3] rfl)
      exact J_54 _ (0 : Nat) vCounts rfl (Nat.zero_le _) (sgM_0 _ _ _ _) H locs ls (hP.sub [0, 1, 2, 3, 4] rfl) (hD.sub [0, 1, 2, 3, 4] (by decide +kernel) rfl) hS (lv_sub hl [0, 1, 2, 3] rfl)
    · exact absurd (nI_inj (a := km) (b := 8) (by omega) (by decide) c_2) (by omega)
  · exact absurd ⟨nI_le (a := 2) hns2 (by omega), nI_le (b := 64) hns (by omega)⟩ (one_eq hw_9 c_1)
set_option maxHeartbeats 2000000 in
set_option maxRecDepth 100000 in
theorem m_read0 (l : Launch) (dC : Nat → ClassId) (dI : Nat → Nat → Nat) (cI cM cO : ClassId) (sz : Nat) (o : Nat) (g : Nat → Nat) (fForm : Int32) (fShift : Int32) (fModels : Int32) (fItems : Int32) (fEnded : Int32) (fLow : Int64) (fRange : Int64) (fCache : Int32) (fPend : Int32) (fGoes : Int32) (fOuts : Int32) (fIns : Int32) (fReads : Int32) (fBad : Int32) (fIR : Int32) (fAsk : Int32) (fBAsk : Int32) (fCode : Int64) (fRL : Int64) (fRR : Int64) (fX : Int64) (fWrites : Int32) (fThrown : Int32) (vMany : Nat → Int32) (vCounts : Nat → Int32) (vThen : Nat → Int32) (vIn : Nat → Int32) (km : Nat) (N : Nat → Nat) (cn : Nat) (hfo : fForm = 0) (hmod : fModels = nI km) (hMD : MD km N vMany vCounts) (hIN : IN fIns vIn) : MetI l y_M_read (Cond.code y_M_read prog_14_method_43_code 2 (some .int) :: gw) ({ frames := 3, cells := 0, slots := 0, locals := 75 } : Room) (dC, dI) vwCl (kT cI cM cO) [Value.ref o] [(o, Sum.inr (9, mO g fForm fShift fModels fItems fEnded fLow fRange fCache fPend fGoes fOuts fIns fReads fBad fIR fAsk fBAsk fCode fRL fRR fX fWrites fThrown)), ((g 0), Sum.inl (cI, 8, Sum.inl vMany)), ((g 1), Sum.inl (cI, 512, Sum.inl vCounts)), ((g 3), Sum.inl (cI, 512, Sum.inl vThen)), ((g 8), Sum.inl (cI, 6000, Sum.inl vIn))] sz (fun (r : Int32) (u : Int32 × Int32 × Int32 × Int32 × Int32 × Int64 × Int64 × Int64 × Int64 × Int32 × (Nat → Int32)) => TB 0 km N u.2.2.2.2.2.2.2.2.2.2 ∧ (¬ u.1 = 0 → u.2.1 = 0 → RD0 cn u.2.2.2.1 u.2.2.2.2.2.1 u.2.2.2.2.2.2.2.1) ∧ r = fIns ∧ u.1 = 1) (fun (u : Int32 × Int32 × Int32 × Int32 × Int32 × Int64 × Int64 × Int64 × Int64 × Int32 × (Nat → Int32)) => [(o, Sum.inr (9, mO g fForm fShift fModels fItems fEnded fLow fRange fCache fPend fGoes fOuts fIns u.1 u.2.1 u.2.2.1 u.2.2.2.1 u.2.2.2.2.1 u.2.2.2.2.2.1 u.2.2.2.2.2.2.1 u.2.2.2.2.2.2.2.1 u.2.2.2.2.2.2.2.2.1 fWrites u.2.2.2.2.2.2.2.2.2.1)), ((g 0), Sum.inl (cI, 8, Sum.inl vMany)), ((g 1), Sum.inl (cI, 512, Sum.inl vCounts)), ((g 3), Sum.inl (cI, 512, Sum.inl u.2.2.2.2.2.2.2.2.2.2)), ((g 8), Sum.inl (cI, 6000, Sum.inl vIn))]) 0 0 := by
  refine my_ofI (cc := prog_14_method_43_code) (n := 2) (ret := (some .int)) (by decide) rfl (Nat.le_of_ble_eq_true rfl) ?_
  intro p e s m args below meth c R Q A ls H locs hx hb hr hts hown hlocks hml hnm hR hQ hA hl hP hK hN hD hS
  have hg : ∀ w ∈ gw, w.before args s = true := fun w h => hts w (List.mem_cons_of_mem _ h)
  have hown : s.vm.findClass "RangeCodersModel" = some m.cls := hown
  have hl : lv_has ls 2 [(0, Value.ref o)] := hl
  subst hfo
  have hfm : 0 ≤ 4 := by decide
  obtain ⟨is, rfl, hIn, hlen, hoct⟩ := hIN
  have hP : va_P (dC, dI) vwCl [(o, Sum.inr (9, mO g 0 fShift fModels fItems fEnded fLow fRange fCache fPend fGoes fOuts (nI is.length) fReads fBad fIR fAsk fBAsk fCode fRL fRR fX fWrites fThrown)), ((g 0), Sum.inl (cI, 8, Sum.inl vMany)), ((g 1), Sum.inl (cI, 512, Sum.inl vCounts)), ((g 3), Sum.inl (cI, 512, Sum.inl vThen)), ((g 8), Sum.inl (cI, 6000, Sum.inl vIn))] H := hP
  have hD : va_D A [(o, Sum.inr (9, mO g 0 fShift fModels fItems fEnded fLow fRange fCache fPend fGoes fOuts (nI is.length) fReads fBad fIR fAsk fBAsk fCode fRL fRR fX fWrites fThrown)), ((g 0), Sum.inl (cI, 8, Sum.inl vMany)), ((g 1), Sum.inl (cI, 512, Sum.inl vCounts)), ((g 3), Sum.inl (cI, 512, Sum.inl vThen)), ((g 8), Sum.inl (cI, 6000, Sum.inl vIn))] := hD
  have hl : lv_has ls 2 [(0, Value.ref o)] := hl
  refine lv_aload_n hx hb d_M_read_0 rfl (lv_at hl 0 rfl) ?_
  refine lv_iconst (v := 0) hx hb d_M_read_1 (by decide) ?_
  refine va_put (D := (dC, dI)) (ci := 9) (v := .int 0) (ty := .int) (C := "RangeCodersModel") (T := T_M) (N := 35) hx hb hg in_M t_M o_M n_M hown hK hP hD hS 0 rfl rfl 34 (by decide) (hg _ k986) (fun _ h9 => h9) rfl (by decide +kernel) rfl rfl (Nat.le_of_ble_eq_true rfl) d_M_read_2 (fun H locs hP hD hS => ?_)
  have hP : va_P (dC, dI) vwCl [(o, Sum.inr (9, mO g 0 fShift fModels fItems fEnded fLow fRange fCache fPend fGoes fOuts (nI is.length) fReads fBad fIR fAsk fBAsk fCode fRL fRR fX fWrites 0)), ((g 0), Sum.inl (cI, 8, Sum.inl vMany)), ((g 1), Sum.inl (cI, 512, Sum.inl vCounts)), ((g 3), Sum.inl (cI, 512, Sum.inl vThen)), ((g 8), Sum.inl (cI, 6000, Sum.inl vIn))] H := hP
  have hD : va_D A [(o, Sum.inr (9, mO g 0 fShift fModels fItems fEnded fLow fRange fCache fPend fGoes fOuts (nI is.length) fReads fBad fIR fAsk fBAsk fCode fRL fRR fX fWrites 0)), ((g 0), Sum.inl (cI, 8, Sum.inl vMany)), ((g 1), Sum.inl (cI, 512, Sum.inl vCounts)), ((g 3), Sum.inl (cI, 512, Sum.inl vThen)), ((g 8), Sum.inl (cI, 6000, Sum.inl vIn))] := hD
  refine lv_iconst (v := 0) hx hb d_M_read_5 (by decide) ?_
  refine lv_istore_n (lv' := [(1, Value.int 0), (0, Value.ref o)]) hx hb d_M_read_6 rfl hl (by decide) rfl (fun ls hl => ?_)
  have J_7 : ∀ (n9_7 : Nat) (jj : Nat) (fN : Nat → Int32) (hn9_7 : km - jj = n9_7) (hjj : jj ≤ km) (hT9 : TB 0 jj N fN) (H : Heap) (locs : List Loc) (ls : Array Slot), va_P (dC, dI) vwCl [(o, Sum.inr (9, mO g 0 fShift fModels fItems fEnded fLow fRange fCache fPend fGoes fOuts (nI is.length) fReads fBad fIR fAsk fBAsk fCode fRL fRR fX fWrites 0)), ((g 0), Sum.inl (cI, 8, Sum.inl vMany)), ((g 1), Sum.inl (cI, 512, Sum.inl vCounts)), ((g 3), Sum.inl (cI, 512, Sum.inl fN)), ((g 8), Sum.inl (cI, 6000, Sum.inl vIn))] H → va_D A [(o, Sum.inr (9, mO g 0 fShift fModels fItems fEnded fLow fRange fCache fPend fGoes fOuts (nI is.length) fReads fBad fIR fAsk fBAsk fCode fRL fRR fX fWrites 0)), ((g 0), Sum.inl (cI, 8, Sum.inl vMany)), ((g 1), Sum.inl (cI, 512, Sum.inl vCounts)), ((g 3), Sum.inl (cI, 512, Sum.inl fN)), ((g 8), Sum.inl (cI, 6000, Sum.inl vIn))] → va_S A s.heap H locs → lv_has ls 2 [(1, Value.int (nI jj)), (0, Value.ref o)] → W p l e R s m args below meth c H locs 0 0 Q (F0 m 7 ls []) := by
    intro n9_7
    induction n9_7 using Nat.strongRecOn with
    | ind n9_7 ih9_7 =>
      intro jj fN hn9_7 hjj hT9 H locs ls hP hD hS hl
      refine lv_iload_n hx hb d_M_read_7 rfl (lv_at hl 0 rfl) ?_
      refine lv_aload_n hx hb d_M_read_8 rfl (lv_at hl 1 rfl) ?_
      refine va_get (D := (dC, dI)) (ci := 9) (v := .int fModels) (C := "RangeCodersModel") (T := T_M) (N := 35) hx hb hg in_M hown hK hP 0 rfl rfl 2 (by decide) (hg _ k954) (fun _ h9 => h9) rfl d_M_read_9 ?_
      refine lv_icmp_ge (tgt := 30) hx hb d_M_read_12 (by decide) (fun c_1 => ?_) (fun c_1 => ?_)
      · have hjk : jj = km := by
          have hk8 := hMD.1
          rw [hmod] at c_1
          have := (nI_cmp (by omega) (by omega)).mp c_1
          omega
        subst hjk
        refine lv_aload_n hx hb d_M_read_30 rfl (lv_at hl 1 rfl) ?_
        refine lv_iconst (v := 1) hx hb d_M_read_31 (by decide) ?_
        refine va_put (D := (dC, dI)) (ci := 9) (v := .int 1) (ty := .boolean) (C := "RangeCodersModel") (T := T_M) (N := 35) hx hb hg in_M t_M o_M n_M hown hK hP hD hS 0 rfl rfl 21 (by decide) (hg _ k973) (fun _ h9 => h9) rfl (by decide +kernel) rfl rfl (Nat.le_of_ble_eq_true rfl) d_M_read_32 (fun H locs hP hD hS => ?_)
        have hP : va_P (dC, dI) vwCl [(o, Sum.inr (9, mO g 0 fShift fModels fItems fEnded fLow fRange fCache fPend fGoes fOuts (nI is.length) 1 fBad fIR fAsk fBAsk fCode fRL fRR fX fWrites 0)), ((g 0), Sum.inl (cI, 8, Sum.inl vMany)), ((g 1), Sum.inl (cI, 512, Sum.inl vCounts)), ((g 3), Sum.inl (cI, 512, Sum.inl fN)), ((g 8), Sum.inl (cI, 6000, Sum.inl vIn))] H := hP
        have hD : va_D A [(o, Sum.inr (9, mO g 0 fShift fModels fItems fEnded fLow fRange fCache fPend fGoes fOuts (nI is.length) 1 fBad fIR fAsk fBAsk fCode fRL fRR fX fWrites 0)), ((g 0), Sum.inl (cI, 8, Sum.inl vMany)), ((g 1), Sum.inl (cI, 512, Sum.inl vCounts)), ((g 3), Sum.inl (cI, 512, Sum.inl fN)), ((g 8), Sum.inl (cI, 6000, Sum.inl vIn))] := hD
        refine lv_aload_n hx hb d_M_read_35 rfl (lv_at hl 1 rfl) ?_
        refine lv_iconst (v := 0) hx hb d_M_read_36 (by decide) ?_
        refine va_put (D := (dC, dI)) (ci := 9) (v := .int 0) (ty := .boolean) (C := "RangeCodersModel") (T := T_M) (N := 35) hx hb hg in_M t_M o_M n_M hown hK hP hD hS 0 rfl rfl 22 (by decide) (hg _ k974) (fun _ h9 => h9) rfl (by decide +kernel) rfl rfl (Nat.le_of_ble_eq_true rfl) d_M_read_37 (fun H locs hP hD hS => ?_)
        have hP : va_P (dC, dI) vwCl [(o, Sum.inr (9, mO g 0 fShift fModels fItems fEnded fLow fRange fCache fPend fGoes fOuts (nI is.length) 1 0 fIR fAsk fBAsk fCode fRL fRR fX fWrites 0)), ((g 0), Sum.inl (cI, 8, Sum.inl vMany)), ((g 1), Sum.inl (cI, 512, Sum.inl vCounts)), ((g 3), Sum.inl (cI, 512, Sum.inl fN)), ((g 8), Sum.inl (cI, 6000, Sum.inl vIn))] H := hP
        have hD : va_D A [(o, Sum.inr (9, mO g 0 fShift fModels fItems fEnded fLow fRange fCache fPend fGoes fOuts (nI is.length) 1 0 fIR fAsk fBAsk fCode fRL fRR fX fWrites 0)), ((g 0), Sum.inl (cI, 8, Sum.inl vMany)), ((g 1), Sum.inl (cI, 512, Sum.inl vCounts)), ((g 3), Sum.inl (cI, 512, Sum.inl fN)), ((g 8), Sum.inl (cI, 6000, Sum.inl vIn))] := hD
        refine lv_aload_n hx hb d_M_read_40 rfl (lv_at hl 1 rfl) ?_
        refine lv_iconst (v := 0) hx hb d_M_read_41 (by decide) ?_
        refine va_put (D := (dC, dI)) (ci := 9) (v := .int 0) (ty := .int) (C := "RangeCodersModel") (T := T_M) (N := 35) hx hb hg in_M t_M o_M n_M hown hK hP hD hS 0 rfl rfl 23 (by decide) (hg _ k975) (fun _ h9 => h9) rfl (by decide +kernel) rfl rfl (Nat.le_of_ble_eq_true rfl) d_M_read_42 (fun H locs hP hD hS => ?_)
        have hP : va_P (dC, dI) vwCl [(o, Sum.inr (9, mO g 0 fShift fModels fItems fEnded fLow fRange fCache fPend fGoes fOuts (nI is.length) 1 0 0 fAsk fBAsk fCode fRL fRR fX fWrites 0)), ((g 0), Sum.inl (cI, 8, Sum.inl vMany)), ((g 1), Sum.inl (cI, 512, Sum.inl vCounts)), ((g 3), Sum.inl (cI, 512, Sum.inl fN)), ((g 8), Sum.inl (cI, 6000, Sum.inl vIn))] H := hP
        have hD : va_D A [(o, Sum.inr (9, mO g 0 fShift fModels fItems fEnded fLow fRange fCache fPend fGoes fOuts (nI is.length) 1 0 0 fAsk fBAsk fCode fRL fRR fX fWrites 0)), ((g 0), Sum.inl (cI, 8, Sum.inl vMany)), ((g 1), Sum.inl (cI, 512, Sum.inl vCounts)), ((g 3), Sum.inl (cI, 512, Sum.inl fN)), ((g 8), Sum.inl (cI, 6000, Sum.inl vIn))] := hD
        refine lv_aload_n hx hb d_M_read_45 rfl (lv_at hl 1 rfl) ?_
        refine lv_iconst (v := 0) hx hb d_M_read_46 (by decide) ?_
        refine va_put (D := (dC, dI)) (ci := 9) (v := .int 0) (ty := .int) (C := "RangeCodersModel") (T := T_M) (N := 35) hx hb hg in_M t_M o_M n_M hown hK hP hD hS 0 rfl rfl 24 (by decide) (hg _ k976) (fun _ h9 => h9) rfl (by decide +kernel) rfl rfl (Nat.le_of_ble_eq_true rfl) d_M_read_47 (fun H locs hP hD hS => ?_)
        have hP : va_P (dC, dI) vwCl [(o, Sum.inr (9, mO g 0 fShift fModels fItems fEnded fLow fRange fCache fPend fGoes fOuts (nI is.length) 1 0 0 0 fBAsk fCode fRL fRR fX fWrites 0)), ((g 0), Sum.inl (cI, 8, Sum.inl vMany)), ((g 1), Sum.inl (cI, 512, Sum.inl vCounts)), ((g 3), Sum.inl (cI, 512, Sum.inl fN)), ((g 8), Sum.inl (cI, 6000, Sum.inl vIn))] H := hP
        have hD : va_D A [(o, Sum.inr (9, mO g 0 fShift fModels fItems fEnded fLow fRange fCache fPend fGoes fOuts (nI is.length) 1 0 0 0 fBAsk fCode fRL fRR fX fWrites 0)), ((g 0), Sum.inl (cI, 8, Sum.inl vMany)), ((g 1), Sum.inl (cI, 512, Sum.inl vCounts)), ((g 3), Sum.inl (cI, 512, Sum.inl fN)), ((g 8), Sum.inl (cI, 6000, Sum.inl vIn))] := hD
        refine lv_aload_n hx hb d_M_read_50 rfl (lv_at hl 1 rfl) ?_
        refine lv_iconst (v := 0) hx hb d_M_read_51 (by decide) ?_
        refine va_put (D := (dC, dI)) (ci := 9) (v := .int 0) (ty := .int) (C := "RangeCodersModel") (T := T_M) (N := 35) hx hb hg in_M t_M o_M n_M hown hK hP hD hS 0 rfl rfl 25 (by decide) (hg _ k977) (fun _ h9 => h9) rfl (by decide +kernel) rfl rfl (Nat.le_of_ble_eq_true rfl) d_M_read_52 (fun H locs hP hD hS => ?_)
        have hP : va_P (dC, dI) vwCl [(o, Sum.inr (9, mO g 0 fShift fModels fItems fEnded fLow fRange fCache fPend fGoes fOuts (nI is.length) 1 0 0 0 0 fCode fRL fRR fX fWrites 0)), ((g 0), Sum.inl (cI, 8, Sum.inl vMany)), ((g 1), Sum.inl (cI, 512, Sum.inl vCounts)), ((g 3), Sum.inl (cI, 512, Sum.inl fN)), ((g 8), Sum.inl (cI, 6000, Sum.inl vIn))] H := hP
        have hD : va_D A [(o, Sum.inr (9, mO g 0 fShift fModels fItems fEnded fLow fRange fCache fPend fGoes fOuts (nI is.length) 1 0 0 0 0 fCode fRL fRR fX fWrites 0)), ((g 0), Sum.inl (cI, 8, Sum.inl vMany)), ((g 1), Sum.inl (cI, 512, Sum.inl vCounts)), ((g 3), Sum.inl (cI, 512, Sum.inl fN)), ((g 8), Sum.inl (cI, 6000, Sum.inl vIn))] := hD
        refine lv_aload_n hx hb d_M_read_55 rfl (lv_at hl 1 rfl) ?_
        refine lv_lconst (v := 0) hx hb d_M_read_56 (by decide) ?_
        refine va_put (D := (dC, dI)) (ci := 9) (v := .long 0) (ty := .long) (C := "RangeCodersModel") (T := T_M) (N := 35) hx hb hg in_M t_M o_M n_M hown hK hP hD hS 0 rfl rfl 26 (by decide) (hg _ k978) (fun _ h9 => h9) rfl (by decide +kernel) rfl rfl (Nat.le_of_ble_eq_true rfl) d_M_read_57 (fun H locs hP hD hS => ?_)
        have hP : va_P (dC, dI) vwCl [(o, Sum.inr (9, mO g 0 fShift fModels fItems fEnded fLow fRange fCache fPend fGoes fOuts (nI is.length) 1 0 0 0 0 0 fRL fRR fX fWrites 0)), ((g 0), Sum.inl (cI, 8, Sum.inl vMany)), ((g 1), Sum.inl (cI, 512, Sum.inl vCounts)), ((g 3), Sum.inl (cI, 512, Sum.inl fN)), ((g 8), Sum.inl (cI, 6000, Sum.inl vIn))] H := hP
        have hD : va_D A [(o, Sum.inr (9, mO g 0 fShift fModels fItems fEnded fLow fRange fCache fPend fGoes fOuts (nI is.length) 1 0 0 0 0 0 fRL fRR fX fWrites 0)), ((g 0), Sum.inl (cI, 8, Sum.inl vMany)), ((g 1), Sum.inl (cI, 512, Sum.inl vCounts)), ((g 3), Sum.inl (cI, 512, Sum.inl fN)), ((g 8), Sum.inl (cI, 6000, Sum.inl vIn))] := hD
        refine lv_aload_n hx hb d_M_read_60 rfl (lv_at hl 1 rfl) ?_
        refine lv_lconst (v := 0) hx hb d_M_read_61 (by decide) ?_
        refine va_put (D := (dC, dI)) (ci := 9) (v := .long 0) (ty := .long) (C := "RangeCodersModel") (T := T_M) (N := 35) hx hb hg in_M t_M o_M n_M hown hK hP hD hS 0 rfl rfl 27 (by decide) (hg _ k979) (fun _ h9 => h9) rfl (by decide +kernel) rfl rfl (Nat.le_of_ble_eq_true rfl) d_M_read_62 (fun H locs hP hD hS => ?_)
        have hP : va_P (dC, dI) vwCl [(o, Sum.inr (9, mO g 0 fShift fModels fItems fEnded fLow fRange fCache fPend fGoes fOuts (nI is.length) 1 0 0 0 0 0 0 fRR fX fWrites 0)), ((g 0), Sum.inl (cI, 8, Sum.inl vMany)), ((g 1), Sum.inl (cI, 512, Sum.inl vCounts)), ((g 3), Sum.inl (cI, 512, Sum.inl fN)), ((g 8), Sum.inl (cI, 6000, Sum.inl vIn))] H := hP
        have hD : va_D A [(o, Sum.inr (9, mO g 0 fShift fModels fItems fEnded fLow fRange fCache fPend fGoes fOuts (nI is.length) 1 0 0 0 0 0 0 fRR fX fWrites 0)), ((g 0), Sum.inl (cI, 8, Sum.inl vMany)), ((g 1), Sum.inl (cI, 512, Sum.inl vCounts)), ((g 3), Sum.inl (cI, 512, Sum.inl fN)), ((g 8), Sum.inl (cI, 6000, Sum.inl vIn))] := hD
        refine lv_aload_n hx hb d_M_read_65 rfl (lv_at hl 1 rfl) ?_
        refine lv_ldc2 (v := 4294967295) hx hb hown (hg _ k927) d_M_read_66 ?_
        refine va_put (D := (dC, dI)) (ci := 9) (v := .long 4294967295) (ty := .long) (C := "RangeCodersModel") (T := T_M) (N := 35) hx hb hg in_M t_M o_M n_M hown hK hP hD hS 0 rfl rfl 28 (by decide) (hg _ k980) (fun _ h9 => h9) rfl (by decide +kernel) rfl rfl (Nat.le_of_ble_eq_true rfl) d_M_read_69 (fun H locs hP hD hS => ?_)
        have hP : va_P (dC, dI) vwCl [(o, Sum.inr (9, mO g 0 fShift fModels fItems fEnded fLow fRange fCache fPend fGoes fOuts (nI is.length) 1 0 0 0 0 0 0 4294967295 fX fWrites 0)), ((g 0), Sum.inl (cI, 8, Sum.inl vMany)), ((g 1), Sum.inl (cI, 512, Sum.inl vCounts)), ((g 3), Sum.inl (cI, 512, Sum.inl fN)), ((g 8), Sum.inl (cI, 6000, Sum.inl vIn))] H := hP
        have hD : va_D A [(o, Sum.inr (9, mO g 0 fShift fModels fItems fEnded fLow fRange fCache fPend fGoes fOuts (nI is.length) 1 0 0 0 0 0 0 4294967295 fX fWrites 0)), ((g 0), Sum.inl (cI, 8, Sum.inl vMany)), ((g 1), Sum.inl (cI, 512, Sum.inl vCounts)), ((g 3), Sum.inl (cI, 512, Sum.inl fN)), ((g 8), Sum.inl (cI, 6000, Sum.inl vIn))] := hD
        refine lv_aload_n hx hb d_M_read_72 rfl (lv_at hl 1 rfl) ?_
        refine lv_lconst (v := 0) hx hb d_M_read_73 (by decide) ?_
        refine va_put (D := (dC, dI)) (ci := 9) (v := .long 0) (ty := .long) (C := "RangeCodersModel") (T := T_M) (N := 35) hx hb hg in_M t_M o_M n_M hown hK hP hD hS 0 rfl rfl 29 (by decide) (hg _ k981) (fun _ h9 => h9) rfl (by decide +kernel) rfl rfl (Nat.le_of_ble_eq_true rfl) d_M_read_74 (fun H locs hP hD hS => ?_)
        have hP : va_P (dC, dI) vwCl [(o, Sum.inr (9, mO g 0 fShift fModels fItems fEnded fLow fRange fCache fPend fGoes fOuts (nI is.length) 1 0 0 0 0 0 0 4294967295 0 fWrites 0)), ((g 0), Sum.inl (cI, 8, Sum.inl vMany)), ((g 1), Sum.inl (cI, 512, Sum.inl vCounts)), ((g 3), Sum.inl (cI, 512, Sum.inl fN)), ((g 8), Sum.inl (cI, 6000, Sum.inl vIn))] H := hP
        have hD : va_D A [(o, Sum.inr (9, mO g 0 fShift fModels fItems fEnded fLow fRange fCache fPend fGoes fOuts (nI is.length) 1 0 0 0 0 0 0 4294967295 0 fWrites 0)), ((g 0), Sum.inl (cI, 8, Sum.inl vMany)), ((g 1), Sum.inl (cI, 512, Sum.inl vCounts)), ((g 3), Sum.inl (cI, 512, Sum.inl fN)), ((g 8), Sum.inl (cI, 6000, Sum.inl vIn))] := hD
        refine lv_aload_n hx hb d_M_read_77 rfl (lv_at hl 1 rfl) ?_
        refine va_get (D := (dC, dI)) (ci := 9) (v := .int 0) (C := "RangeCodersModel") (T := T_M) (N := 35) hx hb hg in_M hown hK hP 0 rfl rfl 0 (by decide) (hg _ k952) (fun _ h9 => h9) rfl d_M_read_78 ?_
        refine lv_iconst (v := 3) hx hb d_M_read_81 (by decide) ?_
        refine lv_icmp_ge (tgt := 96) hx hb d_M_read_82 (by decide) (fun c_2 => ?_) (fun c_2 => ?_)
        · exact absurd c_2 (by decide)
        · refine lv_aload_n hx hb d_M_read_85 rfl (lv_at hl 1 rfl) ?_
          refine lv_aload_n hx hb d_M_read_86 rfl (lv_at hl 1 rfl) ?_
          refine my_cl (wr := [((g 0), Sum.inl (cI, 8, Sum.inl vMany)), ((g 1), Sum.inl (cI, 512, Sum.inl vCounts)), ((g 3), Sum.inl (cI, 512, Sum.inl fN))]) (va_runV (As := []) (rest := [Value.ref o]) ⟨hx, hb, hml, hown, hts⟩ (c_M_four l dC dI cI cM cO H.size o g 0 fShift fModels fItems fEnded fLow fRange fCache fPend fGoes fOuts 1 0 0 0 0 0 4294967295 0 fWrites 0 vIn is 0 (hIn) (hlen) (hoct) (by decide)) (cwV 0 hts (my_gV k1190 k1192 ks44 k12 k1193) rfl rfl rfl (by decide +kernel) ⟨by rw [hR]; exact Nat.le_of_ble_eq_true rfl, by rw [hR]; exact Nat.le_of_ble_eq_true rfl⟩) (my_preV hK hN (hP.sub [0, 4] rfl) (hD.sub [0, 4] (by decide +kernel) rfl) 0 rfl rfl) rfl rfl hl.1 rfl (lv_room (Nat.le_of_ble_eq_true rfl)) d_M_read_87 ⟨by rw [hR]; exact Nat.le_of_ble_eq_true rfl, by rw [hR]; exact Nat.le_of_ble_eq_true rfl⟩) hP hD hS hA [0, 4] [1, 2, 3] rfl rfl (by decide +kernel) (by decide +kernel) (fun r_87 u9 H locs hw_87 hP hD hS => ?_)
          have hw_87 : r_87 = lN (frN is 0 4) := hw_87
          have hP : va_P (dC, dI) vwCl [((g 0), Sum.inl (cI, 8, Sum.inl vMany)), ((g 1), Sum.inl (cI, 512, Sum.inl vCounts)), ((g 3), Sum.inl (cI, 512, Sum.inl fN)), (o, Sum.inr (9, mO g 0 fShift fModels fItems fEnded fLow fRange fCache fPend fGoes fOuts (nI is.length) 1 0 0 (nI (0 + 4)) 0 0 0 4294967295 0 fWrites 0)), ((g 8), Sum.inl (cI, 6000, Sum.inl vIn))] H := hP
          have hD : va_D A [((g 0), Sum.inl (cI, 8, Sum.inl vMany)), ((g 1), Sum.inl (cI, 512, Sum.inl vCounts)), ((g 3), Sum.inl (cI, 512, Sum.inl fN)), (o, Sum.inr (9, mO g 0 fShift fModels fItems fEnded fLow fRange fCache fPend fGoes fOuts (nI is.length) 1 0 0 (nI (0 + 4)) 0 0 0 4294967295 0 fWrites 0)), ((g 8), Sum.inl (cI, 6000, Sum.inl vIn))] := hD
          refine va_put (D := (dC, dI)) (ci := 9) (v := .long r_87) (ty := .long) (C := "RangeCodersModel") (T := T_M) (N := 35) hx hb hg in_M t_M o_M n_M hown hK hP hD hS 3 rfl rfl 26 (by decide) (hg _ k978) (fun _ h9 => h9) rfl (by decide +kernel) rfl rfl (Nat.le_of_ble_eq_true rfl) d_M_read_90 (fun H locs hP hD hS => ?_)
          have hP : va_P (dC, dI) vwCl [((g 0), Sum.inl (cI, 8, Sum.inl vMany)), ((g 1), Sum.inl (cI, 512, Sum.inl vCounts)), ((g 3), Sum.inl (cI, 512, Sum.inl fN)), (o, Sum.inr (9, mO g 0 fShift fModels fItems fEnded fLow fRange fCache fPend fGoes fOuts (nI is.length) 1 0 0 (nI (0 + 4)) 0 r_87 0 4294967295 0 fWrites 0)), ((g 8), Sum.inl (cI, 6000, Sum.inl vIn))] H := hP
          have hD : va_D A [((g 0), Sum.inl (cI, 8, Sum.inl vMany)), ((g 1), Sum.inl (cI, 512, Sum.inl vCounts)), ((g 3), Sum.inl (cI, 512, Sum.inl fN)), (o, Sum.inr (9, mO g 0 fShift fModels fItems fEnded fLow fRange fCache fPend fGoes fOuts (nI is.length) 1 0 0 (nI (0 + 4)) 0 r_87 0 4294967295 0 fWrites 0)), ((g 8), Sum.inl (cI, 6000, Sum.inl vIn))] := hD
          refine lv_goto (tgt := 172) hx hb d_M_read_93 (by decide) ?_
          refine lv_aload_n hx hb d_M_read_172 rfl (lv_at hl 1 rfl) ?_
          refine va_get (D := (dC, dI)) (ci := 9) (v := .int (nI is.length)) (C := "RangeCodersModel") (T := T_M) (N := 35) hx hb hg in_M hown hK hP 3 rfl rfl 20 (by decide) (hg _ k972) (fun _ h9 => h9) rfl d_M_read_173 ?_
          exact my_iret (v := nI is.length) hx hb hr (rfl) hlocks hQ hK hS (Nat.le_refl _) (Nat.le_refl _) ((1 : Int32), (0 : Int32), (0 : Int32), nI (0 + 4), (0 : Int32), r_87, (0 : Int64), (4294967295 : Int64), (0 : Int64), (0 : Int32), fN) (⟨hT9, fun _ _ => ⟨4294967295, frN is 0 4, 4, hw_87, rfl, rfl, by decide, frN_lt hoct 0 4, by omega⟩, rfl, rfl⟩) (hP.sub [3, 0, 1, 2, 4] rfl) (hD.sub [3, 0, 1, 2, 4] (by decide +kernel) rfl) d_M_read_176
      · have hjl : jj < km := by
          rcases Nat.lt_or_ge jj km with z | z
          · exact z
          · exact absurd (by rw [hmod]; exact nI_le z (by have := hMD.1; omega)) c_1
        have hk8 := hMD.1
        obtain ⟨hn9, hn2, hn64, C9, hc9, hB9⟩ := hMD.2 jj hjl
        refine lv_aload_n hx hb d_M_read_15 rfl (lv_at hl 1 rfl) ?_
        refine lv_aload_n hx hb d_M_read_16 rfl (lv_at hl 1 rfl) ?_
        refine va_get (D := (dC, dI)) (ci := 9) (v := .ref (g 3)) (C := "RangeCodersModel") (T := T_M) (N := 35) hx hb hg in_M hown hK hP 0 rfl rfl 6 (by decide) (hg _ k958) (fun _ h9 => h9) rfl d_M_read_17 ?_
        refine lv_iload_n hx hb d_M_read_20 rfl (lv_at hl 0 rfl) ?_
        refine my_cv (wr := [((g 8), Sum.inl (cI, 6000, Sum.inl vIn))]) (va_runV (As := [Value.ref (g 3), Value.int (nI jj)]) (rest := []) ⟨hx, hb, hml, hown, hts⟩ (c_M_prepare l dC dI cI cM cO H.size o g 0 fShift fModels fItems fEnded fLow fRange fCache fPend fGoes fOuts (nI is.length) fReads fBad fIR fAsk fBAsk fCode fRL fRR fX fWrites 0 vMany vCounts (g 3) fN jj (N jj) 0 C9 (by omega) (hn9) (hn64) (by omega) (by decide) (by rfl) (hc9) (hB9)) (cwV 2 hts (my_gV k928 k930 ks19 k12 k931) rfl rfl rfl (by decide +kernel) ⟨by rw [hR]; exact Nat.le_of_ble_eq_true rfl, by rw [hR]; exact Nat.le_of_ble_eq_true rfl⟩) (my_preV hK hN (hP.sub [0, 1, 2, 3] rfl) (hD.sub [0, 1, 2, 3] (by decide +kernel) rfl) 0 rfl rfl) rfl rfl hl.1 rfl (lv_room (Nat.le_of_ble_eq_true rfl)) d_M_read_21 ⟨by rw [hR]; exact Nat.le_of_ble_eq_true rfl, by rw [hR]; exact Nat.le_of_ble_eq_true rfl⟩) hP hD hS hA [0, 1, 2, 3] [4] rfl rfl (by decide +kernel) (by decide +kernel) (fun u9 H locs hw_21 hP hD hS => ?_)
        obtain ⟨f2_21, rfl⟩ : ∃ z, z = u9 := ⟨_, rfl⟩
        have hw_21 : sgI f2_21 (64 * jj) (pfN 0 (N jj)) (pf 0 (N jj) C9) ∧ sgO f2_21 fN (64 * jj) 64 := hw_21
        have hP : va_P (dC, dI) vwCl [((g 8), Sum.inl (cI, 6000, Sum.inl vIn)), (o, Sum.inr (9, mO g 0 fShift fModels fItems fEnded fLow fRange fCache fPend fGoes fOuts (nI is.length) fReads fBad fIR fAsk fBAsk fCode fRL fRR fX fWrites 0)), ((g 0), Sum.inl (cI, 8, Sum.inl vMany)), ((g 1), Sum.inl (cI, 512, Sum.inl vCounts)), ((g 3), Sum.inl (cI, 512, Sum.inl f2_21))] H := hP
        have hD : va_D A [((g 8), Sum.inl (cI, 6000, Sum.inl vIn)), (o, Sum.inr (9, mO g 0 fShift fModels fItems fEnded fLow fRange fCache fPend fGoes fOuts (nI is.length) fReads fBad fIR fAsk fBAsk fCode fRL fRR fX fWrites 0)), ((g 0), Sum.inl (cI, 8, Sum.inl vMany)), ((g 1), Sum.inl (cI, 512, Sum.inl vCounts)), ((g 3), Sum.inl (cI, 512, Sum.inl f2_21))] := hD
        have hT8 := TB_step hT9 (MD_N hMD) hjl hw_21.2 (tab_pf hfm hn64 (by omega) hB9 hw_21.1)
        obtain ⟨v_3, ev_3⟩ : ∃ y : Int32, y = (nI jj) + (1) := ⟨_, rfl⟩
        refine lv_iinc (v := v_3) (lv' := [(1, Value.int v_3), (0, Value.ref o)]) hx hb d_M_read_24 hl (k := 0) rfl (by rw [ev_3]; rfl) (by decide) rfl (fun ls hl => ?_)
        have z9 : v_3 = nI (jj + 1) := by rw [ev_3]; exact nI_1 _
        subst z9
        refine lv_goto (tgt := 7) hx hb d_M_read_27 (by decide) ?_
        exact ih9_7 _ (by first | omega | (omega)) (jj + 1) f2_21 rfl (by omega) (hT8) H locs ls (hP.sub [1, 2, 3, 4, 0] rfl) (hD.sub [1, 2, 3, 4, 0] (by decide +kernel) rfl) hS (lv_sub hl [0, 1] rfl)
  exact J_7 _ (0 : Nat) vThen rfl (Nat.zero_le _) (TB_0 _ _ _) H locs ls (hP.sub [0, 1, 2, 3, 4] rfl) (hD.sub [0, 1, 2, 3, 4] (by decide +kernel) rfl) hS (lv_sub hl [0, 1] rfl)
set_option maxHeartbeats 2000000 in
set_option maxRecDepth 100000 in
theorem m_read1 (l : Launch) (dC : Nat → ClassId) (dI : Nat → Nat → Nat) (cI cM cO : ClassId) (sz : Nat) (o : Nat) (g : Nat → Nat) (fForm : Int32) (fShift : Int32) (fModels : Int32) (fItems : Int32) (fEnded : Int32) (fLow : Int64) (fRange : Int64) (fCache : Int32) (fPend : Int32) (fGoes : Int32) (fOuts : Int32) (fIns : Int32) (fReads : Int32) (fBad : Int32) (fIR : Int32) (fAsk : Int32) (fBAsk : Int32) (fCode : Int64) (fRL : Int64) (fRR : Int64) (fX : Int64) (fWrites : Int32) (fThrown : Int32) (vMany : Nat → Int32) (vCounts : Nat → Int32) (vThen : Nat → Int32) (vIn : Nat → Int32) (km : Nat) (N : Nat → Nat) (cn : Nat) (hfo : fForm = 1) (hmod : fModels = nI km) (hMD : MD km N vMany vCounts) (hIN : IN fIns vIn) : MetI l y_M_read (Cond.code y_M_read prog_14_method_43_code 2 (some .int) :: gw) ({ frames := 3, cells := 0, slots := 0, locals := 75 } : Room) (dC, dI) vwCl (kT cI cM cO) [Value.ref o] [(o, Sum.inr (9, mO g fForm fShift fModels fItems fEnded fLow fRange fCache fPend fGoes fOuts fIns fReads fBad fIR fAsk fBAsk fCode fRL fRR fX fWrites fThrown)), ((g 0), Sum.inl (cI, 8, Sum.inl vMany)), ((g 1), Sum.inl (cI, 512, Sum.inl vCounts)), ((g 3), Sum.inl (cI, 512, Sum.inl vThen)), ((g 8), Sum.inl (cI, 6000, Sum.inl vIn))] sz (fun (r : Int32) (u : Int32 × Int32 × Int32 × Int32 × Int32 × Int64 × Int64 × Int64 × Int64 × Int32 × (Nat → Int32)) => TB 1 km N u.2.2.2.2.2.2.2.2.2.2 ∧ (¬ u.1 = 0 → u.2.1 = 0 → RD1 cn u.2.2.2.1 u.2.2.2.2.2.1 u.2.2.2.2.2.2.1 u.2.2.2.2.2.2.2.1) ∧ r = fIns ∧ u.1 = 1) (fun (u : Int32 × Int32 × Int32 × Int32 × Int32 × Int64 × Int64 × Int64 × Int64 × Int32 × (Nat → Int32)) => [(o, Sum.inr (9, mO g fForm fShift fModels fItems fEnded fLow fRange fCache fPend fGoes fOuts fIns u.1 u.2.1 u.2.2.1 u.2.2.2.1 u.2.2.2.2.1 u.2.2.2.2.2.1 u.2.2.2.2.2.2.1 u.2.2.2.2.2.2.2.1 u.2.2.2.2.2.2.2.2.1 fWrites u.2.2.2.2.2.2.2.2.2.1)), ((g 0), Sum.inl (cI, 8, Sum.inl vMany)), ((g 1), Sum.inl (cI, 512, Sum.inl vCounts)), ((g 3), Sum.inl (cI, 512, Sum.inl u.2.2.2.2.2.2.2.2.2.2)), ((g 8), Sum.inl (cI, 6000, Sum.inl vIn))]) 0 0 := by
  refine my_ofI (cc := prog_14_method_43_code) (n := 2) (ret := (some .int)) (by decide) rfl (Nat.le_of_ble_eq_true rfl) ?_
  intro p e s m args below meth c R Q A ls H locs hx hb hr hts hown hlocks hml hnm hR hQ hA hl hP hK hN hD hS
  have hg : ∀ w ∈ gw, w.before args s = true := fun w h => hts w (List.mem_cons_of_mem _ h)
  have hown : s.vm.findClass "RangeCodersModel" = some m.cls := hown
  have hl : lv_has ls 2 [(0, Value.ref o)] := hl
  subst hfo
  have hfm : 1 ≤ 4 := by decide
  obtain ⟨is, rfl, hIn, hlen, hoct⟩ := hIN
  have hP : va_P (dC, dI) vwCl [(o, Sum.inr (9, mO g 1 fShift fModels fItems fEnded fLow fRange fCache fPend fGoes fOuts (nI is.length) fReads fBad fIR fAsk fBAsk fCode fRL fRR fX fWrites fThrown)), ((g 0), Sum.inl (cI, 8, Sum.inl vMany)), ((g 1), Sum.inl (cI, 512, Sum.inl vCounts)), ((g 3), Sum.inl (cI, 512, Sum.inl vThen)), ((g 8), Sum.inl (cI, 6000, Sum.inl vIn))] H := hP
  have hD : va_D A [(o, Sum.inr (9, mO g 1 fShift fModels fItems fEnded fLow fRange fCache fPend fGoes fOuts (nI is.length) fReads fBad fIR fAsk fBAsk fCode fRL fRR fX fWrites fThrown)), ((g 0), Sum.inl (cI, 8, Sum.inl vMany)), ((g 1), Sum.inl (cI, 512, Sum.inl vCounts)), ((g 3), Sum.inl (cI, 512, Sum.inl vThen)), ((g 8), Sum.inl (cI, 6000, Sum.inl vIn))] := hD
  have hl : lv_has ls 2 [(0, Value.ref o)] := hl
  refine lv_aload_n hx hb d_M_read_0 rfl (lv_at hl 0 rfl) ?_
  refine lv_iconst (v := 0) hx hb d_M_read_1 (by decide) ?_
  refine va_put (D := (dC, dI)) (ci := 9) (v := .int 0) (ty := .int) (C := "RangeCodersModel") (T := T_M) (N := 35) hx hb hg in_M t_M o_M n_M hown hK hP hD hS 0 rfl rfl 34 (by decide) (hg _ k986) (fun _ h9 => h9) rfl (by decide +kernel) rfl rfl (Nat.le_of_ble_eq_true rfl) d_M_read_2 (fun H locs hP hD hS => ?_)
  have hP : va_P (dC, dI) vwCl [(o, Sum.inr (9, mO g 1 fShift fModels fItems fEnded fLow fRange fCache fPend fGoes fOuts (nI is.length) fReads fBad fIR fAsk fBAsk fCode fRL fRR fX fWrites 0)), ((g 0), Sum.inl (cI, 8, Sum.inl vMany)), ((g 1), Sum.inl (cI, 512, Sum.inl vCounts)), ((g 3), Sum.inl (cI, 512, Sum.inl vThen)), ((g 8), Sum.inl (cI, 6000, Sum.inl vIn))] H := hP
  have hD : va_D A [(o, Sum.inr (9, mO g 1 fShift fModels fItems fEnded fLow fRange fCache fPend fGoes fOuts (nI is.length) fReads fBad fIR fAsk fBAsk fCode fRL fRR fX fWrites 0)), ((g 0), Sum.inl (cI, 8, Sum.inl vMany)), ((g 1), Sum.inl (cI, 512, Sum.inl vCounts)), ((g 3), Sum.inl (cI, 512, Sum.inl vThen)), ((g 8), Sum.inl (cI, 6000, Sum.inl vIn))] := hD
  refine lv_iconst (v := 0) hx hb d_M_read_5 (by decide) ?_
  refine lv_istore_n (lv' := [(1, Value.int 0), (0, Value.ref o)]) hx hb d_M_read_6 rfl hl (by decide) rfl (fun ls hl => ?_)
  have J_7 : ∀ (n9_7 : Nat) (jj : Nat) (fN : Nat → Int32) (hn9_7 : km - jj = n9_7) (hjj : jj ≤ km) (hT9 : TB 1 jj N fN) (H : Heap) (locs : List Loc) (ls : Array Slot), va_P (dC, dI) vwCl [(o, Sum.inr (9, mO g 1 fShift fModels fItems fEnded fLow fRange fCache fPend fGoes fOuts (nI is.length) fReads fBad fIR fAsk fBAsk fCode fRL fRR fX fWrites 0)), ((g 0), Sum.inl (cI, 8, Sum.inl vMany)), ((g 1), Sum.inl (cI, 512, Sum.inl vCounts)), ((g 3), Sum.inl (cI, 512, Sum.inl fN)), ((g 8), Sum.inl (cI, 6000, Sum.inl vIn))] H → va_D A [(o, Sum.inr (9, mO g 1 fShift fModels fItems fEnded fLow fRange fCache fPend fGoes fOuts (nI is.length) fReads fBad fIR fAsk fBAsk fCode fRL fRR fX fWrites 0)), ((g 0), Sum.inl (cI, 8, Sum.inl vMany)), ((g 1), Sum.inl (cI, 512, Sum.inl vCounts)), ((g 3), Sum.inl (cI, 512, Sum.inl fN)), ((g 8), Sum.inl (cI, 6000, Sum.inl vIn))] → va_S A s.heap H locs → lv_has ls 2 [(1, Value.int (nI jj)), (0, Value.ref o)] → W p l e R s m args below meth c H locs 0 0 Q (F0 m 7 ls []) := by
    intro n9_7
    induction n9_7 using Nat.strongRecOn with
    | ind n9_7 ih9_7 =>
      intro jj fN hn9_7 hjj hT9 H locs ls hP hD hS hl
      refine lv_iload_n hx hb d_M_read_7 rfl (lv_at hl 0 rfl) ?_
      refine lv_aload_n hx hb d_M_read_8 rfl (lv_at hl 1 rfl) ?_
      refine va_get (D := (dC, dI)) (ci := 9) (v := .int fModels) (C := "RangeCodersModel") (T := T_M) (N := 35) hx hb hg in_M hown hK hP 0 rfl rfl 2 (by decide) (hg _ k954) (fun _ h9 => h9) rfl d_M_read_9 ?_
      refine lv_icmp_ge (tgt := 30) hx hb d_M_read_12 (by decide) (fun c_1 => ?_) (fun c_1 => ?_)
      · have hjk : jj = km := by
          have hk8 := hMD.1
          rw [hmod] at c_1
          have := (nI_cmp (by omega) (by omega)).mp c_1
          omega
        subst hjk
        refine lv_aload_n hx hb d_M_read_30 rfl (lv_at hl 1 rfl) ?_
        refine lv_iconst (v := 1) hx hb d_M_read_31 (by decide) ?_
        refine va_put (D := (dC, dI)) (ci := 9) (v := .int 1) (ty := .boolean) (C := "RangeCodersModel") (T := T_M) (N := 35) hx hb hg in_M t_M o_M n_M hown hK hP hD hS 0 rfl rfl 21 (by decide) (hg _ k973) (fun _ h9 => h9) rfl (by decide +kernel) rfl rfl (Nat.le_of_ble_eq_true rfl) d_M_read_32 (fun H locs hP hD hS => ?_)
        have hP : va_P (dC, dI) vwCl [(o, Sum.inr (9, mO g 1 fShift fModels fItems fEnded fLow fRange fCache fPend fGoes fOuts (nI is.length) 1 fBad fIR fAsk fBAsk fCode fRL fRR fX fWrites 0)), ((g 0), Sum.inl (cI, 8, Sum.inl vMany)), ((g 1), Sum.inl (cI, 512, Sum.inl vCounts)), ((g 3), Sum.inl (cI, 512, Sum.inl fN)), ((g 8), Sum.inl (cI, 6000, Sum.inl vIn))] H := hP
        have hD : va_D A [(o, Sum.inr (9, mO g 1 fShift fModels fItems fEnded fLow fRange fCache fPend fGoes fOuts (nI is.length) 1 fBad fIR fAsk fBAsk fCode fRL fRR fX fWrites 0)), ((g 0), Sum.inl (cI, 8, Sum.inl vMany)), ((g 1), Sum.inl (cI, 512, Sum.inl vCounts)), ((g 3), Sum.inl (cI, 512, Sum.inl fN)), ((g 8), Sum.inl (cI, 6000, Sum.inl vIn))] := hD
        refine lv_aload_n hx hb d_M_read_35 rfl (lv_at hl 1 rfl) ?_
        refine lv_iconst (v := 0) hx hb d_M_read_36 (by decide) ?_
        refine va_put (D := (dC, dI)) (ci := 9) (v := .int 0) (ty := .boolean) (C := "RangeCodersModel") (T := T_M) (N := 35) hx hb hg in_M t_M o_M n_M hown hK hP hD hS 0 rfl rfl 22 (by decide) (hg _ k974) (fun _ h9 => h9) rfl (by decide +kernel) rfl rfl (Nat.le_of_ble_eq_true rfl) d_M_read_37 (fun H locs hP hD hS => ?_)
        have hP : va_P (dC, dI) vwCl [(o, Sum.inr (9, mO g 1 fShift fModels fItems fEnded fLow fRange fCache fPend fGoes fOuts (nI is.length) 1 0 fIR fAsk fBAsk fCode fRL fRR fX fWrites 0)), ((g 0), Sum.inl (cI, 8, Sum.inl vMany)), ((g 1), Sum.inl (cI, 512, Sum.inl vCounts)), ((g 3), Sum.inl (cI, 512, Sum.inl fN)), ((g 8), Sum.inl (cI, 6000, Sum.inl vIn))] H := hP
        have hD : va_D A [(o, Sum.inr (9, mO g 1 fShift fModels fItems fEnded fLow fRange fCache fPend fGoes fOuts (nI is.length) 1 0 fIR fAsk fBAsk fCode fRL fRR fX fWrites 0)), ((g 0), Sum.inl (cI, 8, Sum.inl vMany)), ((g 1), Sum.inl (cI, 512, Sum.inl vCounts)), ((g 3), Sum.inl (cI, 512, Sum.inl fN)), ((g 8), Sum.inl (cI, 6000, Sum.inl vIn))] := hD
        refine lv_aload_n hx hb d_M_read_40 rfl (lv_at hl 1 rfl) ?_
        refine lv_iconst (v := 0) hx hb d_M_read_41 (by decide) ?_
        refine va_put (D := (dC, dI)) (ci := 9) (v := .int 0) (ty := .int) (C := "RangeCodersModel") (T := T_M) (N := 35) hx hb hg in_M t_M o_M n_M hown hK hP hD hS 0 rfl rfl 23 (by decide) (hg _ k975) (fun _ h9 => h9) rfl (by decide +kernel) rfl rfl (Nat.le_of_ble_eq_true rfl) d_M_read_42 (fun H locs hP hD hS => ?_)
        have hP : va_P (dC, dI) vwCl [(o, Sum.inr (9, mO g 1 fShift fModels fItems fEnded fLow fRange fCache fPend fGoes fOuts (nI is.length) 1 0 0 fAsk fBAsk fCode fRL fRR fX fWrites 0)), ((g 0), Sum.inl (cI, 8, Sum.inl vMany)), ((g 1), Sum.inl (cI, 512, Sum.inl vCounts)), ((g 3), Sum.inl (cI, 512, Sum.inl fN)), ((g 8), Sum.inl (cI, 6000, Sum.inl vIn))] H := hP
        have hD : va_D A [(o, Sum.inr (9, mO g 1 fShift fModels fItems fEnded fLow fRange fCache fPend fGoes fOuts (nI is.length) 1 0 0 fAsk fBAsk fCode fRL fRR fX fWrites 0)), ((g 0), Sum.inl (cI, 8, Sum.inl vMany)), ((g 1), Sum.inl (cI, 512, Sum.inl vCounts)), ((g 3), Sum.inl (cI, 512, Sum.inl fN)), ((g 8), Sum.inl (cI, 6000, Sum.inl vIn))] := hD
        refine lv_aload_n hx hb d_M_read_45 rfl (lv_at hl 1 rfl) ?_
        refine lv_iconst (v := 0) hx hb d_M_read_46 (by decide) ?_
        refine va_put (D := (dC, dI)) (ci := 9) (v := .int 0) (ty := .int) (C := "RangeCodersModel") (T := T_M) (N := 35) hx hb hg in_M t_M o_M n_M hown hK hP hD hS 0 rfl rfl 24 (by decide) (hg _ k976) (fun _ h9 => h9) rfl (by decide +kernel) rfl rfl (Nat.le_of_ble_eq_true rfl) d_M_read_47 (fun H locs hP hD hS => ?_)
        have hP : va_P (dC, dI) vwCl [(o, Sum.inr (9, mO g 1 fShift fModels fItems fEnded fLow fRange fCache fPend fGoes fOuts (nI is.length) 1 0 0 0 fBAsk fCode fRL fRR fX fWrites 0)), ((g 0), Sum.inl (cI, 8, Sum.inl vMany)), ((g 1), Sum.inl (cI, 512, Sum.inl vCounts)), ((g 3), Sum.inl (cI, 512, Sum.inl fN)), ((g 8), Sum.inl (cI, 6000, Sum.inl vIn))] H := hP
        have hD : va_D A [(o, Sum.inr (9, mO g 1 fShift fModels fItems fEnded fLow fRange fCache fPend fGoes fOuts (nI is.length) 1 0 0 0 fBAsk fCode fRL fRR fX fWrites 0)), ((g 0), Sum.inl (cI, 8, Sum.inl vMany)), ((g 1), Sum.inl (cI, 512, Sum.inl vCounts)), ((g 3), Sum.inl (cI, 512, Sum.inl fN)), ((g 8), Sum.inl (cI, 6000, Sum.inl vIn))] := hD
        refine lv_aload_n hx hb d_M_read_50 rfl (lv_at hl 1 rfl) ?_
        refine lv_iconst (v := 0) hx hb d_M_read_51 (by decide) ?_
        refine va_put (D := (dC, dI)) (ci := 9) (v := .int 0) (ty := .int) (C := "RangeCodersModel") (T := T_M) (N := 35) hx hb hg in_M t_M o_M n_M hown hK hP hD hS 0 rfl rfl 25 (by decide) (hg _ k977) (fun _ h9 => h9) rfl (by decide +kernel) rfl rfl (Nat.le_of_ble_eq_true rfl) d_M_read_52 (fun H locs hP hD hS => ?_)
        have hP : va_P (dC, dI) vwCl [(o, Sum.inr (9, mO g 1 fShift fModels fItems fEnded fLow fRange fCache fPend fGoes fOuts (nI is.length) 1 0 0 0 0 fCode fRL fRR fX fWrites 0)), ((g 0), Sum.inl (cI, 8, Sum.inl vMany)), ((g 1), Sum.inl (cI, 512, Sum.inl vCounts)), ((g 3), Sum.inl (cI, 512, Sum.inl fN)), ((g 8), Sum.inl (cI, 6000, Sum.inl vIn))] H := hP
        have hD : va_D A [(o, Sum.inr (9, mO g 1 fShift fModels fItems fEnded fLow fRange fCache fPend fGoes fOuts (nI is.length) 1 0 0 0 0 fCode fRL fRR fX fWrites 0)), ((g 0), Sum.inl (cI, 8, Sum.inl vMany)), ((g 1), Sum.inl (cI, 512, Sum.inl vCounts)), ((g 3), Sum.inl (cI, 512, Sum.inl fN)), ((g 8), Sum.inl (cI, 6000, Sum.inl vIn))] := hD
        refine lv_aload_n hx hb d_M_read_55 rfl (lv_at hl 1 rfl) ?_
        refine lv_lconst (v := 0) hx hb d_M_read_56 (by decide) ?_
        refine va_put (D := (dC, dI)) (ci := 9) (v := .long 0) (ty := .long) (C := "RangeCodersModel") (T := T_M) (N := 35) hx hb hg in_M t_M o_M n_M hown hK hP hD hS 0 rfl rfl 26 (by decide) (hg _ k978) (fun _ h9 => h9) rfl (by decide +kernel) rfl rfl (Nat.le_of_ble_eq_true rfl) d_M_read_57 (fun H locs hP hD hS => ?_)
        have hP : va_P (dC, dI) vwCl [(o, Sum.inr (9, mO g 1 fShift fModels fItems fEnded fLow fRange fCache fPend fGoes fOuts (nI is.length) 1 0 0 0 0 0 fRL fRR fX fWrites 0)), ((g 0), Sum.inl (cI, 8, Sum.inl vMany)), ((g 1), Sum.inl (cI, 512, Sum.inl vCounts)), ((g 3), Sum.inl (cI, 512, Sum.inl fN)), ((g 8), Sum.inl (cI, 6000, Sum.inl vIn))] H := hP
        have hD : va_D A [(o, Sum.inr (9, mO g 1 fShift fModels fItems fEnded fLow fRange fCache fPend fGoes fOuts (nI is.length) 1 0 0 0 0 0 fRL fRR fX fWrites 0)), ((g 0), Sum.inl (cI, 8, Sum.inl vMany)), ((g 1), Sum.inl (cI, 512, Sum.inl vCounts)), ((g 3), Sum.inl (cI, 512, Sum.inl fN)), ((g 8), Sum.inl (cI, 6000, Sum.inl vIn))] := hD
        refine lv_aload_n hx hb d_M_read_60 rfl (lv_at hl 1 rfl) ?_
        refine lv_lconst (v := 0) hx hb d_M_read_61 (by decide) ?_
        refine va_put (D := (dC, dI)) (ci := 9) (v := .long 0) (ty := .long) (C := "RangeCodersModel") (T := T_M) (N := 35) hx hb hg in_M t_M o_M n_M hown hK hP hD hS 0 rfl rfl 27 (by decide) (hg _ k979) (fun _ h9 => h9) rfl (by decide +kernel) rfl rfl (Nat.le_of_ble_eq_true rfl) d_M_read_62 (fun H locs hP hD hS => ?_)
        have hP : va_P (dC, dI) vwCl [(o, Sum.inr (9, mO g 1 fShift fModels fItems fEnded fLow fRange fCache fPend fGoes fOuts (nI is.length) 1 0 0 0 0 0 0 fRR fX fWrites 0)), ((g 0), Sum.inl (cI, 8, Sum.inl vMany)), ((g 1), Sum.inl (cI, 512, Sum.inl vCounts)), ((g 3), Sum.inl (cI, 512, Sum.inl fN)), ((g 8), Sum.inl (cI, 6000, Sum.inl vIn))] H := hP
        have hD : va_D A [(o, Sum.inr (9, mO g 1 fShift fModels fItems fEnded fLow fRange fCache fPend fGoes fOuts (nI is.length) 1 0 0 0 0 0 0 fRR fX fWrites 0)), ((g 0), Sum.inl (cI, 8, Sum.inl vMany)), ((g 1), Sum.inl (cI, 512, Sum.inl vCounts)), ((g 3), Sum.inl (cI, 512, Sum.inl fN)), ((g 8), Sum.inl (cI, 6000, Sum.inl vIn))] := hD
        refine lv_aload_n hx hb d_M_read_65 rfl (lv_at hl 1 rfl) ?_
        refine lv_ldc2 (v := 4294967295) hx hb hown (hg _ k927) d_M_read_66 ?_
        refine va_put (D := (dC, dI)) (ci := 9) (v := .long 4294967295) (ty := .long) (C := "RangeCodersModel") (T := T_M) (N := 35) hx hb hg in_M t_M o_M n_M hown hK hP hD hS 0 rfl rfl 28 (by decide) (hg _ k980) (fun _ h9 => h9) rfl (by decide +kernel) rfl rfl (Nat.le_of_ble_eq_true rfl) d_M_read_69 (fun H locs hP hD hS => ?_)
        have hP : va_P (dC, dI) vwCl [(o, Sum.inr (9, mO g 1 fShift fModels fItems fEnded fLow fRange fCache fPend fGoes fOuts (nI is.length) 1 0 0 0 0 0 0 4294967295 fX fWrites 0)), ((g 0), Sum.inl (cI, 8, Sum.inl vMany)), ((g 1), Sum.inl (cI, 512, Sum.inl vCounts)), ((g 3), Sum.inl (cI, 512, Sum.inl fN)), ((g 8), Sum.inl (cI, 6000, Sum.inl vIn))] H := hP
        have hD : va_D A [(o, Sum.inr (9, mO g 1 fShift fModels fItems fEnded fLow fRange fCache fPend fGoes fOuts (nI is.length) 1 0 0 0 0 0 0 4294967295 fX fWrites 0)), ((g 0), Sum.inl (cI, 8, Sum.inl vMany)), ((g 1), Sum.inl (cI, 512, Sum.inl vCounts)), ((g 3), Sum.inl (cI, 512, Sum.inl fN)), ((g 8), Sum.inl (cI, 6000, Sum.inl vIn))] := hD
        refine lv_aload_n hx hb d_M_read_72 rfl (lv_at hl 1 rfl) ?_
        refine lv_lconst (v := 0) hx hb d_M_read_73 (by decide) ?_
        refine va_put (D := (dC, dI)) (ci := 9) (v := .long 0) (ty := .long) (C := "RangeCodersModel") (T := T_M) (N := 35) hx hb hg in_M t_M o_M n_M hown hK hP hD hS 0 rfl rfl 29 (by decide) (hg _ k981) (fun _ h9 => h9) rfl (by decide +kernel) rfl rfl (Nat.le_of_ble_eq_true rfl) d_M_read_74 (fun H locs hP hD hS => ?_)
        have hP : va_P (dC, dI) vwCl [(o, Sum.inr (9, mO g 1 fShift fModels fItems fEnded fLow fRange fCache fPend fGoes fOuts (nI is.length) 1 0 0 0 0 0 0 4294967295 0 fWrites 0)), ((g 0), Sum.inl (cI, 8, Sum.inl vMany)), ((g 1), Sum.inl (cI, 512, Sum.inl vCounts)), ((g 3), Sum.inl (cI, 512, Sum.inl fN)), ((g 8), Sum.inl (cI, 6000, Sum.inl vIn))] H := hP
        have hD : va_D A [(o, Sum.inr (9, mO g 1 fShift fModels fItems fEnded fLow fRange fCache fPend fGoes fOuts (nI is.length) 1 0 0 0 0 0 0 4294967295 0 fWrites 0)), ((g 0), Sum.inl (cI, 8, Sum.inl vMany)), ((g 1), Sum.inl (cI, 512, Sum.inl vCounts)), ((g 3), Sum.inl (cI, 512, Sum.inl fN)), ((g 8), Sum.inl (cI, 6000, Sum.inl vIn))] := hD
        refine lv_aload_n hx hb d_M_read_77 rfl (lv_at hl 1 rfl) ?_
        refine va_get (D := (dC, dI)) (ci := 9) (v := .int 1) (C := "RangeCodersModel") (T := T_M) (N := 35) hx hb hg in_M hown hK hP 0 rfl rfl 0 (by decide) (hg _ k952) (fun _ h9 => h9) rfl d_M_read_78 ?_
        refine lv_iconst (v := 3) hx hb d_M_read_81 (by decide) ?_
        refine lv_icmp_ge (tgt := 96) hx hb d_M_read_82 (by decide) (fun c_2 => ?_) (fun c_2 => ?_)
        · exact absurd c_2 (by decide)
        · refine lv_aload_n hx hb d_M_read_85 rfl (lv_at hl 1 rfl) ?_
          refine lv_aload_n hx hb d_M_read_86 rfl (lv_at hl 1 rfl) ?_
          refine my_cl (wr := [((g 0), Sum.inl (cI, 8, Sum.inl vMany)), ((g 1), Sum.inl (cI, 512, Sum.inl vCounts)), ((g 3), Sum.inl (cI, 512, Sum.inl fN))]) (va_runV (As := []) (rest := [Value.ref o]) ⟨hx, hb, hml, hown, hts⟩ (c_M_four l dC dI cI cM cO H.size o g 1 fShift fModels fItems fEnded fLow fRange fCache fPend fGoes fOuts 1 0 0 0 0 0 4294967295 0 fWrites 0 vIn is 0 (hIn) (hlen) (hoct) (by decide)) (cwV 0 hts (my_gV k1190 k1192 ks44 k12 k1193) rfl rfl rfl (by decide +kernel) ⟨by rw [hR]; exact Nat.le_of_ble_eq_true rfl, by rw [hR]; exact Nat.le_of_ble_eq_true rfl⟩) (my_preV hK hN (hP.sub [0, 4] rfl) (hD.sub [0, 4] (by decide +kernel) rfl) 0 rfl rfl) rfl rfl hl.1 rfl (lv_room (Nat.le_of_ble_eq_true rfl)) d_M_read_87 ⟨by rw [hR]; exact Nat.le_of_ble_eq_true rfl, by rw [hR]; exact Nat.le_of_ble_eq_true rfl⟩) hP hD hS hA [0, 4] [1, 2, 3] rfl rfl (by decide +kernel) (by decide +kernel) (fun r_87 u9 H locs hw_87 hP hD hS => ?_)
          have hw_87 : r_87 = lN (frN is 0 4) := hw_87
          have hP : va_P (dC, dI) vwCl [((g 0), Sum.inl (cI, 8, Sum.inl vMany)), ((g 1), Sum.inl (cI, 512, Sum.inl vCounts)), ((g 3), Sum.inl (cI, 512, Sum.inl fN)), (o, Sum.inr (9, mO g 1 fShift fModels fItems fEnded fLow fRange fCache fPend fGoes fOuts (nI is.length) 1 0 0 (nI (0 + 4)) 0 0 0 4294967295 0 fWrites 0)), ((g 8), Sum.inl (cI, 6000, Sum.inl vIn))] H := hP
          have hD : va_D A [((g 0), Sum.inl (cI, 8, Sum.inl vMany)), ((g 1), Sum.inl (cI, 512, Sum.inl vCounts)), ((g 3), Sum.inl (cI, 512, Sum.inl fN)), (o, Sum.inr (9, mO g 1 fShift fModels fItems fEnded fLow fRange fCache fPend fGoes fOuts (nI is.length) 1 0 0 (nI (0 + 4)) 0 0 0 4294967295 0 fWrites 0)), ((g 8), Sum.inl (cI, 6000, Sum.inl vIn))] := hD
          refine va_put (D := (dC, dI)) (ci := 9) (v := .long r_87) (ty := .long) (C := "RangeCodersModel") (T := T_M) (N := 35) hx hb hg in_M t_M o_M n_M hown hK hP hD hS 3 rfl rfl 26 (by decide) (hg _ k978) (fun _ h9 => h9) rfl (by decide +kernel) rfl rfl (Nat.le_of_ble_eq_true rfl) d_M_read_90 (fun H locs hP hD hS => ?_)
          have hP : va_P (dC, dI) vwCl [((g 0), Sum.inl (cI, 8, Sum.inl vMany)), ((g 1), Sum.inl (cI, 512, Sum.inl vCounts)), ((g 3), Sum.inl (cI, 512, Sum.inl fN)), (o, Sum.inr (9, mO g 1 fShift fModels fItems fEnded fLow fRange fCache fPend fGoes fOuts (nI is.length) 1 0 0 (nI (0 + 4)) 0 r_87 0 4294967295 0 fWrites 0)), ((g 8), Sum.inl (cI, 6000, Sum.inl vIn))] H := hP
          have hD : va_D A [((g 0), Sum.inl (cI, 8, Sum.inl vMany)), ((g 1), Sum.inl (cI, 512, Sum.inl vCounts)), ((g 3), Sum.inl (cI, 512, Sum.inl fN)), (o, Sum.inr (9, mO g 1 fShift fModels fItems fEnded fLow fRange fCache fPend fGoes fOuts (nI is.length) 1 0 0 (nI (0 + 4)) 0 r_87 0 4294967295 0 fWrites 0)), ((g 8), Sum.inl (cI, 6000, Sum.inl vIn))] := hD
          refine lv_goto (tgt := 172) hx hb d_M_read_93 (by decide) ?_
          refine lv_aload_n hx hb d_M_read_172 rfl (lv_at hl 1 rfl) ?_
          refine va_get (D := (dC, dI)) (ci := 9) (v := .int (nI is.length)) (C := "RangeCodersModel") (T := T_M) (N := 35) hx hb hg in_M hown hK hP 3 rfl rfl 20 (by decide) (hg _ k972) (fun _ h9 => h9) rfl d_M_read_173 ?_
          exact my_iret (v := nI is.length) hx hb hr (rfl) hlocks hQ hK hS (Nat.le_refl _) (Nat.le_refl _) ((1 : Int32), (0 : Int32), (0 : Int32), nI (0 + 4), (0 : Int32), r_87, (0 : Int64), (4294967295 : Int64), (0 : Int64), (0 : Int32), fN) (⟨hT9, fun _ _ => ⟨4294967295, 0, frN is 0 4, 4, hw_87, rfl, rfl, rfl, ⟨by decide, by decide, by decide, fun z9 => absurd z9 (by decide)⟩, frN_lt hoct 0 4, by omega⟩, rfl, rfl⟩) (hP.sub [3, 0, 1, 2, 4] rfl) (hD.sub [3, 0, 1, 2, 4] (by decide +kernel) rfl) d_M_read_176
      · have hjl : jj < km := by
          rcases Nat.lt_or_ge jj km with z | z
          · exact z
          · exact absurd (by rw [hmod]; exact nI_le z (by have := hMD.1; omega)) c_1
        have hk8 := hMD.1
        obtain ⟨hn9, hn2, hn64, C9, hc9, hB9⟩ := hMD.2 jj hjl
        refine lv_aload_n hx hb d_M_read_15 rfl (lv_at hl 1 rfl) ?_
        refine lv_aload_n hx hb d_M_read_16 rfl (lv_at hl 1 rfl) ?_
        refine va_get (D := (dC, dI)) (ci := 9) (v := .ref (g 3)) (C := "RangeCodersModel") (T := T_M) (N := 35) hx hb hg in_M hown hK hP 0 rfl rfl 6 (by decide) (hg _ k958) (fun _ h9 => h9) rfl d_M_read_17 ?_
        refine lv_iload_n hx hb d_M_read_20 rfl (lv_at hl 0 rfl) ?_
        refine my_cv (wr := [((g 8), Sum.inl (cI, 6000, Sum.inl vIn))]) (va_runV (As := [Value.ref (g 3), Value.int (nI jj)]) (rest := []) ⟨hx, hb, hml, hown, hts⟩ (c_M_prepare l dC dI cI cM cO H.size o g 1 fShift fModels fItems fEnded fLow fRange fCache fPend fGoes fOuts (nI is.length) fReads fBad fIR fAsk fBAsk fCode fRL fRR fX fWrites 0 vMany vCounts (g 3) fN jj (N jj) 1 C9 (by omega) (hn9) (hn64) (by omega) (by decide) (by rfl) (hc9) (hB9)) (cwV 2 hts (my_gV k928 k930 ks19 k12 k931) rfl rfl rfl (by decide +kernel) ⟨by rw [hR]; exact Nat.le_of_ble_eq_true rfl, by rw [hR]; exact Nat.le_of_ble_eq_true rfl⟩) (my_preV hK hN (hP.sub [0, 1, 2, 3] rfl) (hD.sub [0, 1, 2, 3] (by decide +kernel) rfl) 0 rfl rfl) rfl rfl hl.1 rfl (lv_room (Nat.le_of_ble_eq_true rfl)) d_M_read_21 ⟨by rw [hR]; exact Nat.le_of_ble_eq_true rfl, by rw [hR]; exact Nat.le_of_ble_eq_true rfl⟩) hP hD hS hA [0, 1, 2, 3] [4] rfl rfl (by decide +kernel) (by decide +kernel) (fun u9 H locs hw_21 hP hD hS => ?_)
        obtain ⟨f2_21, rfl⟩ : ∃ z, z = u9 := ⟨_, rfl⟩
        have hw_21 : sgI f2_21 (64 * jj) (pfN 1 (N jj)) (pf 1 (N jj) C9) ∧ sgO f2_21 fN (64 * jj) 64 := hw_21
        have hP : va_P (dC, dI) vwCl [((g 8), Sum.inl (cI, 6000, Sum.inl vIn)), (o, Sum.inr (9, mO g 1 fShift fModels fItems fEnded fLow fRange fCache fPend fGoes fOuts (nI is.length) fReads fBad fIR fAsk fBAsk fCode fRL fRR fX fWrites 0)), ((g 0), Sum.inl (cI, 8, Sum.inl vMany)), ((g 1), Sum.inl (cI, 512, Sum.inl vCounts)), ((g 3), Sum.inl (cI, 512, Sum.inl f2_21))] H := hP
        have hD : va_D A [((g 8), Sum.inl (cI, 6000, Sum.inl vIn)), (o, Sum.inr (9, mO g 1 fShift fModels fItems fEnded fLow fRange fCache fPend fGoes fOuts (nI is.length) fReads fBad fIR fAsk fBAsk fCode fRL fRR fX fWrites 0)), ((g 0), Sum.inl (cI, 8, Sum.inl vMany)), ((g 1), Sum.inl (cI, 512, Sum.inl vCounts)), ((g 3), Sum.inl (cI, 512, Sum.inl f2_21))] := hD
        have hT8 := TB_step hT9 (MD_N hMD) hjl hw_21.2 (tab_pf hfm hn64 (by omega) hB9 hw_21.1)
        obtain ⟨v_3, ev_3⟩ : ∃ y : Int32, y = (nI jj) + (1) := ⟨_, rfl⟩
        refine lv_iinc (v := v_3) (lv' := [(1, Value.int v_3), (0, Value.ref o)]) hx hb d_M_read_24 hl (k := 0) rfl (by rw [ev_3]; rfl) (by decide) rfl (fun ls hl => ?_)
        have z9 : v_3 = nI (jj + 1) := by rw [ev_3]; exact nI_1 _
        subst z9
        refine lv_goto (tgt := 7) hx hb d_M_read_27 (by decide) ?_
        exact ih9_7 _ (by first | omega | (omega)) (jj + 1) f2_21 rfl (by omega) (hT8) H locs ls (hP.sub [1, 2, 3, 4, 0] rfl) (hD.sub [1, 2, 3, 4, 0] (by decide +kernel) rfl) hS (lv_sub hl [0, 1] rfl)
  exact J_7 _ (0 : Nat) vThen rfl (Nat.zero_le _) (TB_0 _ _ _) H locs ls (hP.sub [0, 1, 2, 3, 4] rfl) (hD.sub [0, 1, 2, 3, 4] (by decide +kernel) rfl) hS (lv_sub hl [0, 1] rfl)
set_option maxHeartbeats 2000000 in
set_option maxRecDepth 100000 in
theorem m_read2 (l : Launch) (dC : Nat → ClassId) (dI : Nat → Nat → Nat) (cI cM cO : ClassId) (sz : Nat) (o : Nat) (g : Nat → Nat) (fForm : Int32) (fShift : Int32) (fModels : Int32) (fItems : Int32) (fEnded : Int32) (fLow : Int64) (fRange : Int64) (fCache : Int32) (fPend : Int32) (fGoes : Int32) (fOuts : Int32) (fIns : Int32) (fReads : Int32) (fBad : Int32) (fIR : Int32) (fAsk : Int32) (fBAsk : Int32) (fCode : Int64) (fRL : Int64) (fRR : Int64) (fX : Int64) (fWrites : Int32) (fThrown : Int32) (vMany : Nat → Int32) (vCounts : Nat → Int32) (vThen : Nat → Int32) (vIn : Nat → Int32) (km : Nat) (N : Nat → Nat) (cn : Nat) (hfo : fForm = 2) (hmod : fModels = nI km) (hMD : MD km N vMany vCounts) (hIN : IN fIns vIn) : MetI l y_M_read (Cond.code y_M_read prog_14_method_43_code 2 (some .int) :: gw) ({ frames := 3, cells := 0, slots := 0, locals := 75 } : Room) (dC, dI) vwCl (kT cI cM cO) [Value.ref o] [(o, Sum.inr (9, mO g fForm fShift fModels fItems fEnded fLow fRange fCache fPend fGoes fOuts fIns fReads fBad fIR fAsk fBAsk fCode fRL fRR fX fWrites fThrown)), ((g 0), Sum.inl (cI, 8, Sum.inl vMany)), ((g 1), Sum.inl (cI, 512, Sum.inl vCounts)), ((g 3), Sum.inl (cI, 512, Sum.inl vThen)), ((g 8), Sum.inl (cI, 6000, Sum.inl vIn))] sz (fun (r : Int32) (u : Int32 × Int32 × Int32 × Int32 × Int32 × Int64 × Int64 × Int64 × Int64 × Int32 × (Nat → Int32)) => TB 2 km N u.2.2.2.2.2.2.2.2.2.2 ∧ (¬ u.1 = 0 → u.2.1 = 0 → RD2 cn u.2.2.2.1 u.2.2.2.2.2.1 u.2.2.2.2.2.2.2.1) ∧ r = fIns ∧ u.1 = 1) (fun (u : Int32 × Int32 × Int32 × Int32 × Int32 × Int64 × Int64 × Int64 × Int64 × Int32 × (Nat → Int32)) => [(o, Sum.inr (9, mO g fForm fShift fModels fItems fEnded fLow fRange fCache fPend fGoes fOuts fIns u.1 u.2.1 u.2.2.1 u.2.2.2.1 u.2.2.2.2.1 u.2.2.2.2.2.1 u.2.2.2.2.2.2.1 u.2.2.2.2.2.2.2.1 u.2.2.2.2.2.2.2.2.1 fWrites u.2.2.2.2.2.2.2.2.2.1)), ((g 0), Sum.inl (cI, 8, Sum.inl vMany)), ((g 1), Sum.inl (cI, 512, Sum.inl vCounts)), ((g 3), Sum.inl (cI, 512, Sum.inl u.2.2.2.2.2.2.2.2.2.2)), ((g 8), Sum.inl (cI, 6000, Sum.inl vIn))]) 0 0 := by
  refine my_ofI (cc := prog_14_method_43_code) (n := 2) (ret := (some .int)) (by decide) rfl (Nat.le_of_ble_eq_true rfl) ?_
  intro p e s m args below meth c R Q A ls H locs hx hb hr hts hown hlocks hml hnm hR hQ hA hl hP hK hN hD hS
  have hg : ∀ w ∈ gw, w.before args s = true := fun w h => hts w (List.mem_cons_of_mem _ h)
  have hown : s.vm.findClass "RangeCodersModel" = some m.cls := hown
  have hl : lv_has ls 2 [(0, Value.ref o)] := hl
  subst hfo
  have hfm : 2 ≤ 4 := by decide
  obtain ⟨is, rfl, hIn, hlen, hoct⟩ := hIN
  have hP : va_P (dC, dI) vwCl [(o, Sum.inr (9, mO g 2 fShift fModels fItems fEnded fLow fRange fCache fPend fGoes fOuts (nI is.length) fReads fBad fIR fAsk fBAsk fCode fRL fRR fX fWrites fThrown)), ((g 0), Sum.inl (cI, 8, Sum.inl vMany)), ((g 1), Sum.inl (cI, 512, Sum.inl vCounts)), ((g 3), Sum.inl (cI, 512, Sum.inl vThen)), ((g 8), Sum.inl (cI, 6000, Sum.inl vIn))] H := hP
  have hD : va_D A [(o, Sum.inr (9, mO g 2 fShift fModels fItems fEnded fLow fRange fCache fPend fGoes fOuts (nI is.length) fReads fBad fIR fAsk fBAsk fCode fRL fRR fX fWrites fThrown)), ((g 0), Sum.inl (cI, 8, Sum.inl vMany)), ((g 1), Sum.inl (cI, 512, Sum.inl vCounts)), ((g 3), Sum.inl (cI, 512, Sum.inl vThen)), ((g 8), Sum.inl (cI, 6000, Sum.inl vIn))] := hD
  have hl : lv_has ls 2 [(0, Value.ref o)] := hl
  refine lv_aload_n hx hb d_M_read_0 rfl (lv_at hl 0 rfl) ?_
  refine lv_iconst (v := 0) hx hb d_M_read_1 (by decide) ?_
  refine va_put (D := (dC, dI)) (ci := 9) (v := .int 0) (ty := .int) (C := "RangeCodersModel") (T := T_M) (N := 35) hx hb hg in_M t_M o_M n_M hown hK hP hD hS 0 rfl rfl 34 (by decide) (hg _ k986) (fun _ h9 => h9) rfl (by decide +kernel) rfl rfl (Nat.le_of_ble_eq_true rfl) d_M_read_2 (fun H locs hP hD hS => ?_)
  have hP : va_P (dC, dI) vwCl [(o, Sum.inr (9, mO g 2 fShift fModels fItems fEnded fLow fRange fCache fPend fGoes fOuts (nI is.length) fReads fBad fIR fAsk fBAsk fCode fRL fRR fX fWrites 0)), ((g 0), Sum.inl (cI, 8, Sum.inl vMany)), ((g 1), Sum.inl (cI, 512, Sum.inl vCounts)), ((g 3), Sum.inl (cI, 512, Sum.inl vThen)), ((g 8), Sum.inl (cI, 6000, Sum.inl vIn))] H := hP
  have hD : va_D A [(o, Sum.inr (9, mO g 2 fShift fModels fItems fEnded fLow fRange fCache fPend fGoes fOuts (nI is.length) fReads fBad fIR fAsk fBAsk fCode fRL fRR fX fWrites 0)), ((g 0), Sum.inl (cI, 8, Sum.inl vMany)), ((g 1), Sum.inl (cI, 512, Sum.inl vCounts)), ((g 3), Sum.inl (cI, 512, Sum.inl vThen)), ((g 8), Sum.inl (cI, 6000, Sum.inl vIn))] := hD
  refine lv_iconst (v := 0) hx hb d_M_read_5 (by decide) ?_
  refine lv_istore_n (lv' := [(1, Value.int 0), (0, Value.ref o)]) hx hb d_M_read_6 rfl hl (by decide) rfl (fun ls hl => ?_)
  have J_7 : ∀ (n9_7 : Nat) (jj : Nat) (fN : Nat → Int32) (hn9_7 : km - jj = n9_7) (hjj : jj ≤ km) (hT9 : TB 2 jj N fN) (H : Heap) (locs : List Loc) (ls : Array Slot), va_P (dC, dI) vwCl [(o, Sum.inr (9, mO g 2 fShift fModels fItems fEnded fLow fRange fCache fPend fGoes fOuts (nI is.length) fReads fBad fIR fAsk fBAsk fCode fRL fRR fX fWrites 0)), ((g 0), Sum.inl (cI, 8, Sum.inl vMany)), ((g 1), Sum.inl (cI, 512, Sum.inl vCounts)), ((g 3), Sum.inl (cI, 512, Sum.inl fN)), ((g 8), Sum.inl (cI, 6000, Sum.inl vIn))] H → va_D A [(o, Sum.inr (9, mO g 2 fShift fModels fItems fEnded fLow fRange fCache fPend fGoes fOuts (nI is.length) fReads fBad fIR fAsk fBAsk fCode fRL fRR fX fWrites 0)), ((g 0), Sum.inl (cI, 8, Sum.inl vMany)), ((g 1), Sum.inl (cI, 512, Sum.inl vCounts)), ((g 3), Sum.inl (cI, 512, Sum.inl fN)), ((g 8), Sum.inl (cI, 6000, Sum.inl vIn))] → va_S A s.heap H locs → lv_has ls 2 [(1, Value.int (nI jj)), (0, Value.ref o)] → W p l e R s m args below meth c H locs 0 0 Q (F0 m 7 ls []) := by
    intro n9_7
    induction n9_7 using Nat.strongRecOn with
    | ind n9_7 ih9_7 =>
      intro jj fN hn9_7 hjj hT9 H locs ls hP hD hS hl
      refine lv_iload_n hx hb d_M_read_7 rfl (lv_at hl 0 rfl) ?_
      refine lv_aload_n hx hb d_M_read_8 rfl (lv_at hl 1 rfl) ?_
      refine va_get (D := (dC, dI)) (ci := 9) (v := .int fModels) (C := "RangeCodersModel") (T := T_M) (N := 35) hx hb hg in_M hown hK hP 0 rfl rfl 2 (by decide) (hg _ k954) (fun _ h9 => h9) rfl d_M_read_9 ?_
      refine lv_icmp_ge (tgt := 30) hx hb d_M_read_12 (by decide) (fun c_1 => ?_) (fun c_1 => ?_)
      · have hjk : jj = km := by
          have hk8 := hMD.1
          rw [hmod] at c_1
          have := (nI_cmp (by omega) (by omega)).mp c_1
          omega
        subst hjk
        refine lv_aload_n hx hb d_M_read_30 rfl (lv_at hl 1 rfl) ?_
        refine lv_iconst (v := 1) hx hb d_M_read_31 (by decide) ?_
        refine va_put (D := (dC, dI)) (ci := 9) (v := .int 1) (ty := .boolean) (C := "RangeCodersModel") (T := T_M) (N := 35) hx hb hg in_M t_M o_M n_M hown hK hP hD hS 0 rfl rfl 21 (by decide) (hg _ k973) (fun _ h9 => h9) rfl (by decide +kernel) rfl rfl (Nat.le_of_ble_eq_true rfl) d_M_read_32 (fun H locs hP hD hS => ?_)
        have hP : va_P (dC, dI) vwCl [(o, Sum.inr (9, mO g 2 fShift fModels fItems fEnded fLow fRange fCache fPend fGoes fOuts (nI is.length) 1 fBad fIR fAsk fBAsk fCode fRL fRR fX fWrites 0)), ((g 0), Sum.inl (cI, 8, Sum.inl vMany)), ((g 1), Sum.inl (cI, 512, Sum.inl vCounts)), ((g 3), Sum.inl (cI, 512, Sum.inl fN)), ((g 8), Sum.inl (cI, 6000, Sum.inl vIn))] H := hP
        have hD : va_D A [(o, Sum.inr (9, mO g 2 fShift fModels fItems fEnded fLow fRange fCache fPend fGoes fOuts (nI is.length) 1 fBad fIR fAsk fBAsk fCode fRL fRR fX fWrites 0)), ((g 0), Sum.inl (cI, 8, Sum.inl vMany)), ((g 1), Sum.inl (cI, 512, Sum.inl vCounts)), ((g 3), Sum.inl (cI, 512, Sum.inl fN)), ((g 8), Sum.inl (cI, 6000, Sum.inl vIn))] := hD
        refine lv_aload_n hx hb d_M_read_35 rfl (lv_at hl 1 rfl) ?_
        refine lv_iconst (v := 0) hx hb d_M_read_36 (by decide) ?_
        refine va_put (D := (dC, dI)) (ci := 9) (v := .int 0) (ty := .boolean) (C := "RangeCodersModel") (T := T_M) (N := 35) hx hb hg in_M t_M o_M n_M hown hK hP hD hS 0 rfl rfl 22 (by decide) (hg _ k974) (fun _ h9 => h9) rfl (by decide +kernel) rfl rfl (Nat.le_of_ble_eq_true rfl) d_M_read_37 (fun H locs hP hD hS => ?_)
        have hP : va_P (dC, dI) vwCl [(o, Sum.inr (9, mO g 2 fShift fModels fItems fEnded fLow fRange fCache fPend fGoes fOuts (nI is.length) 1 0 fIR fAsk fBAsk fCode fRL fRR fX fWrites 0)), ((g 0), Sum.inl (cI, 8, Sum.inl vMany)), ((g 1), Sum.inl (cI, 512, Sum.inl vCounts)), ((g 3), Sum.inl (cI, 512, Sum.inl fN)), ((g 8), Sum.inl (cI, 6000, Sum.inl vIn))] H := hP
        have hD : va_D A [(o, Sum.inr (9, mO g 2 fShift fModels fItems fEnded fLow fRange fCache fPend fGoes fOuts (nI is.length) 1 0 fIR fAsk fBAsk fCode fRL fRR fX fWrites 0)), ((g 0), Sum.inl (cI, 8, Sum.inl vMany)), ((g 1), Sum.inl (cI, 512, Sum.inl vCounts)), ((g 3), Sum.inl (cI, 512, Sum.inl fN)), ((g 8), Sum.inl (cI, 6000, Sum.inl vIn))] := hD
        refine lv_aload_n hx hb d_M_read_40 rfl (lv_at hl 1 rfl) ?_
        refine lv_iconst (v := 0) hx hb d_M_read_41 (by decide) ?_
        refine va_put (D := (dC, dI)) (ci := 9) (v := .int 0) (ty := .int) (C := "RangeCodersModel") (T := T_M) (N := 35) hx hb hg in_M t_M o_M n_M hown hK hP hD hS 0 rfl rfl 23 (by decide) (hg _ k975) (fun _ h9 => h9) rfl (by decide +kernel) rfl rfl (Nat.le_of_ble_eq_true rfl) d_M_read_42 (fun H locs hP hD hS => ?_)
        have hP : va_P (dC, dI) vwCl [(o, Sum.inr (9, mO g 2 fShift fModels fItems fEnded fLow fRange fCache fPend fGoes fOuts (nI is.length) 1 0 0 fAsk fBAsk fCode fRL fRR fX fWrites 0)), ((g 0), Sum.inl (cI, 8, Sum.inl vMany)), ((g 1), Sum.inl (cI, 512, Sum.inl vCounts)), ((g 3), Sum.inl (cI, 512, Sum.inl fN)), ((g 8), Sum.inl (cI, 6000, Sum.inl vIn))] H := hP
        have hD : va_D A [(o, Sum.inr (9, mO g 2 fShift fModels fItems fEnded fLow fRange fCache fPend fGoes fOuts (nI is.length) 1 0 0 fAsk fBAsk fCode fRL fRR fX fWrites 0)), ((g 0), Sum.inl (cI, 8, Sum.inl vMany)), ((g 1), Sum.inl (cI, 512, Sum.inl vCounts)), ((g 3), Sum.inl (cI, 512, Sum.inl fN)), ((g 8), Sum.inl (cI, 6000, Sum.inl vIn))] := hD
        refine lv_aload_n hx hb d_M_read_45 rfl (lv_at hl 1 rfl) ?_
        refine lv_iconst (v := 0) hx hb d_M_read_46 (by decide) ?_
        refine va_put (D := (dC, dI)) (ci := 9) (v := .int 0) (ty := .int) (C := "RangeCodersModel") (T := T_M) (N := 35) hx hb hg in_M t_M o_M n_M hown hK hP hD hS 0 rfl rfl 24 (by decide) (hg _ k976) (fun _ h9 => h9) rfl (by decide +kernel) rfl rfl (Nat.le_of_ble_eq_true rfl) d_M_read_47 (fun H locs hP hD hS => ?_)
        have hP : va_P (dC, dI) vwCl [(o, Sum.inr (9, mO g 2 fShift fModels fItems fEnded fLow fRange fCache fPend fGoes fOuts (nI is.length) 1 0 0 0 fBAsk fCode fRL fRR fX fWrites 0)), ((g 0), Sum.inl (cI, 8, Sum.inl vMany)), ((g 1), Sum.inl (cI, 512, Sum.inl vCounts)), ((g 3), Sum.inl (cI, 512, Sum.inl fN)), ((g 8), Sum.inl (cI, 6000, Sum.inl vIn))] H := hP
        have hD : va_D A [(o, Sum.inr (9, mO g 2 fShift fModels fItems fEnded fLow fRange fCache fPend fGoes fOuts (nI is.length) 1 0 0 0 fBAsk fCode fRL fRR fX fWrites 0)), ((g 0), Sum.inl (cI, 8, Sum.inl vMany)), ((g 1), Sum.inl (cI, 512, Sum.inl vCounts)), ((g 3), Sum.inl (cI, 512, Sum.inl fN)), ((g 8), Sum.inl (cI, 6000, Sum.inl vIn))] := hD
        refine lv_aload_n hx hb d_M_read_50 rfl (lv_at hl 1 rfl) ?_
        refine lv_iconst (v := 0) hx hb d_M_read_51 (by decide) ?_
        refine va_put (D := (dC, dI)) (ci := 9) (v := .int 0) (ty := .int) (C := "RangeCodersModel") (T := T_M) (N := 35) hx hb hg in_M t_M o_M n_M hown hK hP hD hS 0 rfl rfl 25 (by decide) (hg _ k977) (fun _ h9 => h9) rfl (by decide +kernel) rfl rfl (Nat.le_of_ble_eq_true rfl) d_M_read_52 (fun H locs hP hD hS => ?_)
        have hP : va_P (dC, dI) vwCl [(o, Sum.inr (9, mO g 2 fShift fModels fItems fEnded fLow fRange fCache fPend fGoes fOuts (nI is.length) 1 0 0 0 0 fCode fRL fRR fX fWrites 0)), ((g 0), Sum.inl (cI, 8, Sum.inl vMany)), ((g 1), Sum.inl (cI, 512, Sum.inl vCounts)), ((g 3), Sum.inl (cI, 512, Sum.inl fN)), ((g 8), Sum.inl (cI, 6000, Sum.inl vIn))] H := hP
        have hD : va_D A [(o, Sum.inr (9, mO g 2 fShift fModels fItems fEnded fLow fRange fCache fPend fGoes fOuts (nI is.length) 1 0 0 0 0 fCode fRL fRR fX fWrites 0)), ((g 0), Sum.inl (cI, 8, Sum.inl vMany)), ((g 1), Sum.inl (cI, 512, Sum.inl vCounts)), ((g 3), Sum.inl (cI, 512, Sum.inl fN)), ((g 8), Sum.inl (cI, 6000, Sum.inl vIn))] := hD
        refine lv_aload_n hx hb d_M_read_55 rfl (lv_at hl 1 rfl) ?_
        refine lv_lconst (v := 0) hx hb d_M_read_56 (by decide) ?_
        refine va_put (D := (dC, dI)) (ci := 9) (v := .long 0) (ty := .long) (C := "RangeCodersModel") (T := T_M) (N := 35) hx hb hg in_M t_M o_M n_M hown hK hP hD hS 0 rfl rfl 26 (by decide) (hg _ k978) (fun _ h9 => h9) rfl (by decide +kernel) rfl rfl (Nat.le_of_ble_eq_true rfl) d_M_read_57 (fun H locs hP hD hS => ?_)
        have hP : va_P (dC, dI) vwCl [(o, Sum.inr (9, mO g 2 fShift fModels fItems fEnded fLow fRange fCache fPend fGoes fOuts (nI is.length) 1 0 0 0 0 0 fRL fRR fX fWrites 0)), ((g 0), Sum.inl (cI, 8, Sum.inl vMany)), ((g 1), Sum.inl (cI, 512, Sum.inl vCounts)), ((g 3), Sum.inl (cI, 512, Sum.inl fN)), ((g 8), Sum.inl (cI, 6000, Sum.inl vIn))] H := hP
        have hD : va_D A [(o, Sum.inr (9, mO g 2 fShift fModels fItems fEnded fLow fRange fCache fPend fGoes fOuts (nI is.length) 1 0 0 0 0 0 fRL fRR fX fWrites 0)), ((g 0), Sum.inl (cI, 8, Sum.inl vMany)), ((g 1), Sum.inl (cI, 512, Sum.inl vCounts)), ((g 3), Sum.inl (cI, 512, Sum.inl fN)), ((g 8), Sum.inl (cI, 6000, Sum.inl vIn))] := hD
        refine lv_aload_n hx hb d_M_read_60 rfl (lv_at hl 1 rfl) ?_
        refine lv_lconst (v := 0) hx hb d_M_read_61 (by decide) ?_
        refine va_put (D := (dC, dI)) (ci := 9) (v := .long 0) (ty := .long) (C := "RangeCodersModel") (T := T_M) (N := 35) hx hb hg in_M t_M o_M n_M hown hK hP hD hS 0 rfl rfl 27 (by decide) (hg _ k979) (fun _ h9 => h9) rfl (by decide +kernel) rfl rfl (Nat.le_of_ble_eq_true rfl) d_M_read_62 (fun H locs hP hD hS => ?_)
        have hP : va_P (dC, dI) vwCl [(o, Sum.inr (9, mO g 2 fShift fModels fItems fEnded fLow fRange fCache fPend fGoes fOuts (nI is.length) 1 0 0 0 0 0 0 fRR fX fWrites 0)), ((g 0), Sum.inl (cI, 8, Sum.inl vMany)), ((g 1), Sum.inl (cI, 512, Sum.inl vCounts)), ((g 3), Sum.inl (cI, 512, Sum.inl fN)), ((g 8), Sum.inl (cI, 6000, Sum.inl vIn))] H := hP
        have hD : va_D A [(o, Sum.inr (9, mO g 2 fShift fModels fItems fEnded fLow fRange fCache fPend fGoes fOuts (nI is.length) 1 0 0 0 0 0 0 fRR fX fWrites 0)), ((g 0), Sum.inl (cI, 8, Sum.inl vMany)), ((g 1), Sum.inl (cI, 512, Sum.inl vCounts)), ((g 3), Sum.inl (cI, 512, Sum.inl fN)), ((g 8), Sum.inl (cI, 6000, Sum.inl vIn))] := hD
        refine lv_aload_n hx hb d_M_read_65 rfl (lv_at hl 1 rfl) ?_
        refine lv_ldc2 (v := 4294967295) hx hb hown (hg _ k927) d_M_read_66 ?_
        refine va_put (D := (dC, dI)) (ci := 9) (v := .long 4294967295) (ty := .long) (C := "RangeCodersModel") (T := T_M) (N := 35) hx hb hg in_M t_M o_M n_M hown hK hP hD hS 0 rfl rfl 28 (by decide) (hg _ k980) (fun _ h9 => h9) rfl (by decide +kernel) rfl rfl (Nat.le_of_ble_eq_true rfl) d_M_read_69 (fun H locs hP hD hS => ?_)
        have hP : va_P (dC, dI) vwCl [(o, Sum.inr (9, mO g 2 fShift fModels fItems fEnded fLow fRange fCache fPend fGoes fOuts (nI is.length) 1 0 0 0 0 0 0 4294967295 fX fWrites 0)), ((g 0), Sum.inl (cI, 8, Sum.inl vMany)), ((g 1), Sum.inl (cI, 512, Sum.inl vCounts)), ((g 3), Sum.inl (cI, 512, Sum.inl fN)), ((g 8), Sum.inl (cI, 6000, Sum.inl vIn))] H := hP
        have hD : va_D A [(o, Sum.inr (9, mO g 2 fShift fModels fItems fEnded fLow fRange fCache fPend fGoes fOuts (nI is.length) 1 0 0 0 0 0 0 4294967295 fX fWrites 0)), ((g 0), Sum.inl (cI, 8, Sum.inl vMany)), ((g 1), Sum.inl (cI, 512, Sum.inl vCounts)), ((g 3), Sum.inl (cI, 512, Sum.inl fN)), ((g 8), Sum.inl (cI, 6000, Sum.inl vIn))] := hD
        refine lv_aload_n hx hb d_M_read_72 rfl (lv_at hl 1 rfl) ?_
        refine lv_lconst (v := 0) hx hb d_M_read_73 (by decide) ?_
        refine va_put (D := (dC, dI)) (ci := 9) (v := .long 0) (ty := .long) (C := "RangeCodersModel") (T := T_M) (N := 35) hx hb hg in_M t_M o_M n_M hown hK hP hD hS 0 rfl rfl 29 (by decide) (hg _ k981) (fun _ h9 => h9) rfl (by decide +kernel) rfl rfl (Nat.le_of_ble_eq_true rfl) d_M_read_74 (fun H locs hP hD hS => ?_)
        have hP : va_P (dC, dI) vwCl [(o, Sum.inr (9, mO g 2 fShift fModels fItems fEnded fLow fRange fCache fPend fGoes fOuts (nI is.length) 1 0 0 0 0 0 0 4294967295 0 fWrites 0)), ((g 0), Sum.inl (cI, 8, Sum.inl vMany)), ((g 1), Sum.inl (cI, 512, Sum.inl vCounts)), ((g 3), Sum.inl (cI, 512, Sum.inl fN)), ((g 8), Sum.inl (cI, 6000, Sum.inl vIn))] H := hP
        have hD : va_D A [(o, Sum.inr (9, mO g 2 fShift fModels fItems fEnded fLow fRange fCache fPend fGoes fOuts (nI is.length) 1 0 0 0 0 0 0 4294967295 0 fWrites 0)), ((g 0), Sum.inl (cI, 8, Sum.inl vMany)), ((g 1), Sum.inl (cI, 512, Sum.inl vCounts)), ((g 3), Sum.inl (cI, 512, Sum.inl fN)), ((g 8), Sum.inl (cI, 6000, Sum.inl vIn))] := hD
        refine lv_aload_n hx hb d_M_read_77 rfl (lv_at hl 1 rfl) ?_
        refine va_get (D := (dC, dI)) (ci := 9) (v := .int 2) (C := "RangeCodersModel") (T := T_M) (N := 35) hx hb hg in_M hown hK hP 0 rfl rfl 0 (by decide) (hg _ k952) (fun _ h9 => h9) rfl d_M_read_78 ?_
        refine lv_iconst (v := 3) hx hb d_M_read_81 (by decide) ?_
        refine lv_icmp_ge (tgt := 96) hx hb d_M_read_82 (by decide) (fun c_2 => ?_) (fun c_2 => ?_)
        · exact absurd c_2 (by decide)
        · refine lv_aload_n hx hb d_M_read_85 rfl (lv_at hl 1 rfl) ?_
          refine lv_aload_n hx hb d_M_read_86 rfl (lv_at hl 1 rfl) ?_
          refine my_cl (wr := [((g 0), Sum.inl (cI, 8, Sum.inl vMany)), ((g 1), Sum.inl (cI, 512, Sum.inl vCounts)), ((g 3), Sum.inl (cI, 512, Sum.inl fN))]) (va_runV (As := []) (rest := [Value.ref o]) ⟨hx, hb, hml, hown, hts⟩ (c_M_four l dC dI cI cM cO H.size o g 2 fShift fModels fItems fEnded fLow fRange fCache fPend fGoes fOuts 1 0 0 0 0 0 4294967295 0 fWrites 0 vIn is 0 (hIn) (hlen) (hoct) (by decide)) (cwV 0 hts (my_gV k1190 k1192 ks44 k12 k1193) rfl rfl rfl (by decide +kernel) ⟨by rw [hR]; exact Nat.le_of_ble_eq_true rfl, by rw [hR]; exact Nat.le_of_ble_eq_true rfl⟩) (my_preV hK hN (hP.sub [0, 4] rfl) (hD.sub [0, 4] (by decide +kernel) rfl) 0 rfl rfl) rfl rfl hl.1 rfl (lv_room (Nat.le_of_ble_eq_true rfl)) d_M_read_87 ⟨by rw [hR]; exact Nat.le_of_ble_eq_true rfl, by rw [hR]; exact Nat.le_of_ble_eq_true rfl⟩) hP hD hS hA [0, 4] [1, 2, 3] rfl rfl (by decide +kernel) (by decide +kernel) (fun r_87 u9 H locs hw_87 hP hD hS => ?_)
          have hw_87 : r_87 = lN (frN is 0 4) := hw_87
          have hP : va_P (dC, dI) vwCl [((g 0), Sum.inl (cI, 8, Sum.inl vMany)), ((g 1), Sum.inl (cI, 512, Sum.inl vCounts)), ((g 3), Sum.inl (cI, 512, Sum.inl fN)), (o, Sum.inr (9, mO g 2 fShift fModels fItems fEnded fLow fRange fCache fPend fGoes fOuts (nI is.length) 1 0 0 (nI (0 + 4)) 0 0 0 4294967295 0 fWrites 0)), ((g 8), Sum.inl (cI, 6000, Sum.inl vIn))] H := hP
          have hD : va_D A [((g 0), Sum.inl (cI, 8, Sum.inl vMany)), ((g 1), Sum.inl (cI, 512, Sum.inl vCounts)), ((g 3), Sum.inl (cI, 512, Sum.inl fN)), (o, Sum.inr (9, mO g 2 fShift fModels fItems fEnded fLow fRange fCache fPend fGoes fOuts (nI is.length) 1 0 0 (nI (0 + 4)) 0 0 0 4294967295 0 fWrites 0)), ((g 8), Sum.inl (cI, 6000, Sum.inl vIn))] := hD
          refine va_put (D := (dC, dI)) (ci := 9) (v := .long r_87) (ty := .long) (C := "RangeCodersModel") (T := T_M) (N := 35) hx hb hg in_M t_M o_M n_M hown hK hP hD hS 3 rfl rfl 26 (by decide) (hg _ k978) (fun _ h9 => h9) rfl (by decide +kernel) rfl rfl (Nat.le_of_ble_eq_true rfl) d_M_read_90 (fun H locs hP hD hS => ?_)
          have hP : va_P (dC, dI) vwCl [((g 0), Sum.inl (cI, 8, Sum.inl vMany)), ((g 1), Sum.inl (cI, 512, Sum.inl vCounts)), ((g 3), Sum.inl (cI, 512, Sum.inl fN)), (o, Sum.inr (9, mO g 2 fShift fModels fItems fEnded fLow fRange fCache fPend fGoes fOuts (nI is.length) 1 0 0 (nI (0 + 4)) 0 r_87 0 4294967295 0 fWrites 0)), ((g 8), Sum.inl (cI, 6000, Sum.inl vIn))] H := hP
          have hD : va_D A [((g 0), Sum.inl (cI, 8, Sum.inl vMany)), ((g 1), Sum.inl (cI, 512, Sum.inl vCounts)), ((g 3), Sum.inl (cI, 512, Sum.inl fN)), (o, Sum.inr (9, mO g 2 fShift fModels fItems fEnded fLow fRange fCache fPend fGoes fOuts (nI is.length) 1 0 0 (nI (0 + 4)) 0 r_87 0 4294967295 0 fWrites 0)), ((g 8), Sum.inl (cI, 6000, Sum.inl vIn))] := hD
          refine lv_goto (tgt := 172) hx hb d_M_read_93 (by decide) ?_
          refine lv_aload_n hx hb d_M_read_172 rfl (lv_at hl 1 rfl) ?_
          refine va_get (D := (dC, dI)) (ci := 9) (v := .int (nI is.length)) (C := "RangeCodersModel") (T := T_M) (N := 35) hx hb hg in_M hown hK hP 3 rfl rfl 20 (by decide) (hg _ k972) (fun _ h9 => h9) rfl d_M_read_173 ?_
          exact my_iret (v := nI is.length) hx hb hr (rfl) hlocks hQ hK hS (Nat.le_refl _) (Nat.le_refl _) ((1 : Int32), (0 : Int32), (0 : Int32), nI (0 + 4), (0 : Int32), r_87, (0 : Int64), (4294967295 : Int64), (0 : Int64), (0 : Int32), fN) (⟨hT9, fun _ _ => ⟨4294967295, frN is 0 4, 4, hw_87, rfl, rfl, ⟨(show 16777216 ≤ 4294967295 by decide), (show 4294967295 < 4294967296 by decide), frN_lt hoct 0 4⟩, by omega⟩, rfl, rfl⟩) (hP.sub [3, 0, 1, 2, 4] rfl) (hD.sub [3, 0, 1, 2, 4] (by decide +kernel) rfl) d_M_read_176
      · have hjl : jj < km := by
          rcases Nat.lt_or_ge jj km with z | z
          · exact z
          · exact absurd (by rw [hmod]; exact nI_le z (by have := hMD.1; omega)) c_1
        have hk8 := hMD.1
        obtain ⟨hn9, hn2, hn64, C9, hc9, hB9⟩ := hMD.2 jj hjl
        refine lv_aload_n hx hb d_M_read_15 rfl (lv_at hl 1 rfl) ?_
        refine lv_aload_n hx hb d_M_read_16 rfl (lv_at hl 1 rfl) ?_
        refine va_get (D := (dC, dI)) (ci := 9) (v := .ref (g 3)) (C := "RangeCodersModel") (T := T_M) (N := 35) hx hb hg in_M hown hK hP 0 rfl rfl 6 (by decide) (hg _ k958) (fun _ h9 => h9) rfl d_M_read_17 ?_
        refine lv_iload_n hx hb d_M_read_20 rfl (lv_at hl 0 rfl) ?_
        refine my_cv (wr := [((g 8), Sum.inl (cI, 6000, Sum.inl vIn))]) (va_runV (As := [Value.ref (g 3), Value.int (nI jj)]) (rest := []) ⟨hx, hb, hml, hown, hts⟩ (c_M_prepare l dC dI cI cM cO H.size o g 2 fShift fModels fItems fEnded fLow fRange fCache fPend fGoes fOuts (nI is.length) fReads fBad fIR fAsk fBAsk fCode fRL fRR fX fWrites 0 vMany vCounts (g 3) fN jj (N jj) 2 C9 (by omega) (hn9) (hn64) (by omega) (by decide) (by rfl) (hc9) (hB9)) (cwV 2 hts (my_gV k928 k930 ks19 k12 k931) rfl rfl rfl (by decide +kernel) ⟨by rw [hR]; exact Nat.le_of_ble_eq_true rfl, by rw [hR]; exact Nat.le_of_ble_eq_true rfl⟩) (my_preV hK hN (hP.sub [0, 1, 2, 3] rfl) (hD.sub [0, 1, 2, 3] (by decide +kernel) rfl) 0 rfl rfl) rfl rfl hl.1 rfl (lv_room (Nat.le_of_ble_eq_true rfl)) d_M_read_21 ⟨by rw [hR]; exact Nat.le_of_ble_eq_true rfl, by rw [hR]; exact Nat.le_of_ble_eq_true rfl⟩) hP hD hS hA [0, 1, 2, 3] [4] rfl rfl (by decide +kernel) (by decide +kernel) (fun u9 H locs hw_21 hP hD hS => ?_)
        obtain ⟨f2_21, rfl⟩ : ∃ z, z = u9 := ⟨_, rfl⟩
        have hw_21 : sgI f2_21 (64 * jj) (pfN 2 (N jj)) (pf 2 (N jj) C9) ∧ sgO f2_21 fN (64 * jj) 64 := hw_21
        have hP : va_P (dC, dI) vwCl [((g 8), Sum.inl (cI, 6000, Sum.inl vIn)), (o, Sum.inr (9, mO g 2 fShift fModels fItems fEnded fLow fRange fCache fPend fGoes fOuts (nI is.length) fReads fBad fIR fAsk fBAsk fCode fRL fRR fX fWrites 0)), ((g 0), Sum.inl (cI, 8, Sum.inl vMany)), ((g 1), Sum.inl (cI, 512, Sum.inl vCounts)), ((g 3), Sum.inl (cI, 512, Sum.inl f2_21))] H := hP
        have hD : va_D A [((g 8), Sum.inl (cI, 6000, Sum.inl vIn)), (o, Sum.inr (9, mO g 2 fShift fModels fItems fEnded fLow fRange fCache fPend fGoes fOuts (nI is.length) fReads fBad fIR fAsk fBAsk fCode fRL fRR fX fWrites 0)), ((g 0), Sum.inl (cI, 8, Sum.inl vMany)), ((g 1), Sum.inl (cI, 512, Sum.inl vCounts)), ((g 3), Sum.inl (cI, 512, Sum.inl f2_21))] := hD
        have hT8 := TB_step hT9 (MD_N hMD) hjl hw_21.2 (tab_pf hfm hn64 (by omega) hB9 hw_21.1)
        obtain ⟨v_3, ev_3⟩ : ∃ y : Int32, y = (nI jj) + (1) := ⟨_, rfl⟩
        refine lv_iinc (v := v_3) (lv' := [(1, Value.int v_3), (0, Value.ref o)]) hx hb d_M_read_24 hl (k := 0) rfl (by rw [ev_3]; rfl) (by decide) rfl (fun ls hl => ?_)
        have z9 : v_3 = nI (jj + 1) := by rw [ev_3]; exact nI_1 _
        subst z9
        refine lv_goto (tgt := 7) hx hb d_M_read_27 (by decide) ?_
        exact ih9_7 _ (by first | omega | (omega)) (jj + 1) f2_21 rfl (by omega) (hT8) H locs ls (hP.sub [1, 2, 3, 4, 0] rfl) (hD.sub [1, 2, 3, 4, 0] (by decide +kernel) rfl) hS (lv_sub hl [0, 1] rfl)
  exact J_7 _ (0 : Nat) vThen rfl (Nat.zero_le _) (TB_0 _ _ _) H locs ls (hP.sub [0, 1, 2, 3, 4] rfl) (hD.sub [0, 1, 2, 3, 4] (by decide +kernel) rfl) hS (lv_sub hl [0, 1] rfl)
set_option maxHeartbeats 2000000 in
set_option maxRecDepth 100000 in
theorem m_read3 (l : Launch) (dC : Nat → ClassId) (dI : Nat → Nat → Nat) (cI cM cO : ClassId) (sz : Nat) (o : Nat) (g : Nat → Nat) (fForm : Int32) (fShift : Int32) (fModels : Int32) (fItems : Int32) (fEnded : Int32) (fLow : Int64) (fRange : Int64) (fCache : Int32) (fPend : Int32) (fGoes : Int32) (fOuts : Int32) (fIns : Int32) (fReads : Int32) (fBad : Int32) (fIR : Int32) (fAsk : Int32) (fBAsk : Int32) (fCode : Int64) (fRL : Int64) (fRR : Int64) (fX : Int64) (fWrites : Int32) (fThrown : Int32) (vMany : Nat → Int32) (vCounts : Nat → Int32) (vThen : Nat → Int32) (vIn : Nat → Int32) (km : Nat) (N : Nat → Nat) (cn : Nat) (hfo : fForm = 3) (hmod : fModels = nI km) (hMD : MD km N vMany vCounts) (hIN : IN fIns vIn) : MetI l y_M_read (Cond.code y_M_read prog_14_method_43_code 2 (some .int) :: gw) ({ frames := 3, cells := 0, slots := 0, locals := 75 } : Room) (dC, dI) vwCl (kT cI cM cO) [Value.ref o] [(o, Sum.inr (9, mO g fForm fShift fModels fItems fEnded fLow fRange fCache fPend fGoes fOuts fIns fReads fBad fIR fAsk fBAsk fCode fRL fRR fX fWrites fThrown)), ((g 0), Sum.inl (cI, 8, Sum.inl vMany)), ((g 1), Sum.inl (cI, 512, Sum.inl vCounts)), ((g 3), Sum.inl (cI, 512, Sum.inl vThen)), ((g 8), Sum.inl (cI, 6000, Sum.inl vIn))] sz (fun (r : Int32) (u : Int32 × Int32 × Int32 × Int32 × Int32 × Int64 × Int64 × Int64 × Int64 × Int32 × (Nat → Int32)) => TB 3 km N u.2.2.2.2.2.2.2.2.2.2 ∧ (¬ u.1 = 0 → u.2.1 = 0 → RD3 cn u.2.2.2.1 u.2.2.2.2.2.2.2.2.1) ∧ r = fIns ∧ u.1 = 1) (fun (u : Int32 × Int32 × Int32 × Int32 × Int32 × Int64 × Int64 × Int64 × Int64 × Int32 × (Nat → Int32)) => [(o, Sum.inr (9, mO g fForm fShift fModels fItems fEnded fLow fRange fCache fPend fGoes fOuts fIns u.1 u.2.1 u.2.2.1 u.2.2.2.1 u.2.2.2.2.1 u.2.2.2.2.2.1 u.2.2.2.2.2.2.1 u.2.2.2.2.2.2.2.1 u.2.2.2.2.2.2.2.2.1 fWrites u.2.2.2.2.2.2.2.2.2.1)), ((g 0), Sum.inl (cI, 8, Sum.inl vMany)), ((g 1), Sum.inl (cI, 512, Sum.inl vCounts)), ((g 3), Sum.inl (cI, 512, Sum.inl u.2.2.2.2.2.2.2.2.2.2)), ((g 8), Sum.inl (cI, 6000, Sum.inl vIn))]) 0 0 := by
  refine my_ofI (cc := prog_14_method_43_code) (n := 2) (ret := (some .int)) (by decide) rfl (Nat.le_of_ble_eq_true rfl) ?_
  intro p e s m args below meth c R Q A ls H locs hx hb hr hts hown hlocks hml hnm hR hQ hA hl hP hK hN hD hS
  have hg : ∀ w ∈ gw, w.before args s = true := fun w h => hts w (List.mem_cons_of_mem _ h)
  have hown : s.vm.findClass "RangeCodersModel" = some m.cls := hown
  have hl : lv_has ls 2 [(0, Value.ref o)] := hl
  subst hfo
  have hfm : 3 ≤ 4 := by decide
  obtain ⟨is, rfl, hIn, hlen, hoct⟩ := hIN
  have hP : va_P (dC, dI) vwCl [(o, Sum.inr (9, mO g 3 fShift fModels fItems fEnded fLow fRange fCache fPend fGoes fOuts (nI is.length) fReads fBad fIR fAsk fBAsk fCode fRL fRR fX fWrites fThrown)), ((g 0), Sum.inl (cI, 8, Sum.inl vMany)), ((g 1), Sum.inl (cI, 512, Sum.inl vCounts)), ((g 3), Sum.inl (cI, 512, Sum.inl vThen)), ((g 8), Sum.inl (cI, 6000, Sum.inl vIn))] H := hP
  have hD : va_D A [(o, Sum.inr (9, mO g 3 fShift fModels fItems fEnded fLow fRange fCache fPend fGoes fOuts (nI is.length) fReads fBad fIR fAsk fBAsk fCode fRL fRR fX fWrites fThrown)), ((g 0), Sum.inl (cI, 8, Sum.inl vMany)), ((g 1), Sum.inl (cI, 512, Sum.inl vCounts)), ((g 3), Sum.inl (cI, 512, Sum.inl vThen)), ((g 8), Sum.inl (cI, 6000, Sum.inl vIn))] := hD
  have hl : lv_has ls 2 [(0, Value.ref o)] := hl
  refine lv_aload_n hx hb d_M_read_0 rfl (lv_at hl 0 rfl) ?_
  refine lv_iconst (v := 0) hx hb d_M_read_1 (by decide) ?_
  refine va_put (D := (dC, dI)) (ci := 9) (v := .int 0) (ty := .int) (C := "RangeCodersModel") (T := T_M) (N := 35) hx hb hg in_M t_M o_M n_M hown hK hP hD hS 0 rfl rfl 34 (by decide) (hg _ k986) (fun _ h9 => h9) rfl (by decide +kernel) rfl rfl (Nat.le_of_ble_eq_true rfl) d_M_read_2 (fun H locs hP hD hS => ?_)
  have hP : va_P (dC, dI) vwCl [(o, Sum.inr (9, mO g 3 fShift fModels fItems fEnded fLow fRange fCache fPend fGoes fOuts (nI is.length) fReads fBad fIR fAsk fBAsk fCode fRL fRR fX fWrites 0)), ((g 0), Sum.inl (cI, 8, Sum.inl vMany)), ((g 1), Sum.inl (cI, 512, Sum.inl vCounts)), ((g 3), Sum.inl (cI, 512, Sum.inl vThen)), ((g 8), Sum.inl (cI, 6000, Sum.inl vIn))] H := hP
  have hD : va_D A [(o, Sum.inr (9, mO g 3 fShift fModels fItems fEnded fLow fRange fCache fPend fGoes fOuts (nI is.length) fReads fBad fIR fAsk fBAsk fCode fRL fRR fX fWrites 0)), ((g 0), Sum.inl (cI, 8, Sum.inl vMany)), ((g 1), Sum.inl (cI, 512, Sum.inl vCounts)), ((g 3), Sum.inl (cI, 512, Sum.inl vThen)), ((g 8), Sum.inl (cI, 6000, Sum.inl vIn))] := hD
  refine lv_iconst (v := 0) hx hb d_M_read_5 (by decide) ?_
  refine lv_istore_n (lv' := [(1, Value.int 0), (0, Value.ref o)]) hx hb d_M_read_6 rfl hl (by decide) rfl (fun ls hl => ?_)
  have J_7 : ∀ (n9_7 : Nat) (jj : Nat) (fN : Nat → Int32) (hn9_7 : km - jj = n9_7) (hjj : jj ≤ km) (hT9 : TB 3 jj N fN) (H : Heap) (locs : List Loc) (ls : Array Slot), va_P (dC, dI) vwCl [(o, Sum.inr (9, mO g 3 fShift fModels fItems fEnded fLow fRange fCache fPend fGoes fOuts (nI is.length) fReads fBad fIR fAsk fBAsk fCode fRL fRR fX fWrites 0)), ((g 0), Sum.inl (cI, 8, Sum.inl vMany)), ((g 1), Sum.inl (cI, 512, Sum.inl vCounts)), ((g 3), Sum.inl (cI, 512, Sum.inl fN)), ((g 8), Sum.inl (cI, 6000, Sum.inl vIn))] H → va_D A [(o, Sum.inr (9, mO g 3 fShift fModels fItems fEnded fLow fRange fCache fPend fGoes fOuts (nI is.length) fReads fBad fIR fAsk fBAsk fCode fRL fRR fX fWrites 0)), ((g 0), Sum.inl (cI, 8, Sum.inl vMany)), ((g 1), Sum.inl (cI, 512, Sum.inl vCounts)), ((g 3), Sum.inl (cI, 512, Sum.inl fN)), ((g 8), Sum.inl (cI, 6000, Sum.inl vIn))] → va_S A s.heap H locs → lv_has ls 2 [(1, Value.int (nI jj)), (0, Value.ref o)] → W p l e R s m args below meth c H locs 0 0 Q (F0 m 7 ls []) := by
    intro n9_7
    induction n9_7 using Nat.strongRecOn with
    | ind n9_7 ih9_7 =>
      intro jj fN hn9_7 hjj hT9 H locs ls hP hD hS hl
      refine lv_iload_n hx hb d_M_read_7 rfl (lv_at hl 0 rfl) ?_
      refine lv_aload_n hx hb d_M_read_8 rfl (lv_at hl 1 rfl) ?_
      refine va_get (D := (dC, dI)) (ci := 9) (v := .int fModels) (C := "RangeCodersModel") (T := T_M) (N := 35) hx hb hg in_M hown hK hP 0 rfl rfl 2 (by decide) (hg _ k954) (fun _ h9 => h9) rfl d_M_read_9 ?_
      refine lv_icmp_ge (tgt := 30) hx hb d_M_read_12 (by decide) (fun c_1 => ?_) (fun c_1 => ?_)
      · have hjk : jj = km := by
          have hk8 := hMD.1
          rw [hmod] at c_1
          have := (nI_cmp (by omega) (by omega)).mp c_1
          omega
        subst hjk
        refine lv_aload_n hx hb d_M_read_30 rfl (lv_at hl 1 rfl) ?_
        refine lv_iconst (v := 1) hx hb d_M_read_31 (by decide) ?_
        refine va_put (D := (dC, dI)) (ci := 9) (v := .int 1) (ty := .boolean) (C := "RangeCodersModel") (T := T_M) (N := 35) hx hb hg in_M t_M o_M n_M hown hK hP hD hS 0 rfl rfl 21 (by decide) (hg _ k973) (fun _ h9 => h9) rfl (by decide +kernel) rfl rfl (Nat.le_of_ble_eq_true rfl) d_M_read_32 (fun H locs hP hD hS => ?_)
        have hP : va_P (dC, dI) vwCl [(o, Sum.inr (9, mO g 3 fShift fModels fItems fEnded fLow fRange fCache fPend fGoes fOuts (nI is.length) 1 fBad fIR fAsk fBAsk fCode fRL fRR fX fWrites 0)), ((g 0), Sum.inl (cI, 8, Sum.inl vMany)), ((g 1), Sum.inl (cI, 512, Sum.inl vCounts)), ((g 3), Sum.inl (cI, 512, Sum.inl fN)), ((g 8), Sum.inl (cI, 6000, Sum.inl vIn))] H := hP
        have hD : va_D A [(o, Sum.inr (9, mO g 3 fShift fModels fItems fEnded fLow fRange fCache fPend fGoes fOuts (nI is.length) 1 fBad fIR fAsk fBAsk fCode fRL fRR fX fWrites 0)), ((g 0), Sum.inl (cI, 8, Sum.inl vMany)), ((g 1), Sum.inl (cI, 512, Sum.inl vCounts)), ((g 3), Sum.inl (cI, 512, Sum.inl fN)), ((g 8), Sum.inl (cI, 6000, Sum.inl vIn))] := hD
        refine lv_aload_n hx hb d_M_read_35 rfl (lv_at hl 1 rfl) ?_
        refine lv_iconst (v := 0) hx hb d_M_read_36 (by decide) ?_
        refine va_put (D := (dC, dI)) (ci := 9) (v := .int 0) (ty := .boolean) (C := "RangeCodersModel") (T := T_M) (N := 35) hx hb hg in_M t_M o_M n_M hown hK hP hD hS 0 rfl rfl 22 (by decide) (hg _ k974) (fun _ h9 => h9) rfl (by decide +kernel) rfl rfl (Nat.le_of_ble_eq_true rfl) d_M_read_37 (fun H locs hP hD hS => ?_)
        have hP : va_P (dC, dI) vwCl [(o, Sum.inr (9, mO g 3 fShift fModels fItems fEnded fLow fRange fCache fPend fGoes fOuts (nI is.length) 1 0 fIR fAsk fBAsk fCode fRL fRR fX fWrites 0)), ((g 0), Sum.inl (cI, 8, Sum.inl vMany)), ((g 1), Sum.inl (cI, 512, Sum.inl vCounts)), ((g 3), Sum.inl (cI, 512, Sum.inl fN)), ((g 8), Sum.inl (cI, 6000, Sum.inl vIn))] H := hP
        have hD : va_D A [(o, Sum.inr (9, mO g 3 fShift fModels fItems fEnded fLow fRange fCache fPend fGoes fOuts (nI is.length) 1 0 fIR fAsk fBAsk fCode fRL fRR fX fWrites 0)), ((g 0), Sum.inl (cI, 8, Sum.inl vMany)), ((g 1), Sum.inl (cI, 512, Sum.inl vCounts)), ((g 3), Sum.inl (cI, 512, Sum.inl fN)), ((g 8), Sum.inl (cI, 6000, Sum.inl vIn))] := hD
        refine lv_aload_n hx hb d_M_read_40 rfl (lv_at hl 1 rfl) ?_
        refine lv_iconst (v := 0) hx hb d_M_read_41 (by decide) ?_
        refine va_put (D := (dC, dI)) (ci := 9) (v := .int 0) (ty := .int) (C := "RangeCodersModel") (T := T_M) (N := 35) hx hb hg in_M t_M o_M n_M hown hK hP hD hS 0 rfl rfl 23 (by decide) (hg _ k975) (fun _ h9 => h9) rfl (by decide +kernel) rfl rfl (Nat.le_of_ble_eq_true rfl) d_M_read_42 (fun H locs hP hD hS => ?_)
        have hP : va_P (dC, dI) vwCl [(o, Sum.inr (9, mO g 3 fShift fModels fItems fEnded fLow fRange fCache fPend fGoes fOuts (nI is.length) 1 0 0 fAsk fBAsk fCode fRL fRR fX fWrites 0)), ((g 0), Sum.inl (cI, 8, Sum.inl vMany)), ((g 1), Sum.inl (cI, 512, Sum.inl vCounts)), ((g 3), Sum.inl (cI, 512, Sum.inl fN)), ((g 8), Sum.inl (cI, 6000, Sum.inl vIn))] H := hP
        have hD : va_D A [(o, Sum.inr (9, mO g 3 fShift fModels fItems fEnded fLow fRange fCache fPend fGoes fOuts (nI is.length) 1 0 0 fAsk fBAsk fCode fRL fRR fX fWrites 0)), ((g 0), Sum.inl (cI, 8, Sum.inl vMany)), ((g 1), Sum.inl (cI, 512, Sum.inl vCounts)), ((g 3), Sum.inl (cI, 512, Sum.inl fN)), ((g 8), Sum.inl (cI, 6000, Sum.inl vIn))] := hD
        refine lv_aload_n hx hb d_M_read_45 rfl (lv_at hl 1 rfl) ?_
        refine lv_iconst (v := 0) hx hb d_M_read_46 (by decide) ?_
        refine va_put (D := (dC, dI)) (ci := 9) (v := .int 0) (ty := .int) (C := "RangeCodersModel") (T := T_M) (N := 35) hx hb hg in_M t_M o_M n_M hown hK hP hD hS 0 rfl rfl 24 (by decide) (hg _ k976) (fun _ h9 => h9) rfl (by decide +kernel) rfl rfl (Nat.le_of_ble_eq_true rfl) d_M_read_47 (fun H locs hP hD hS => ?_)
        have hP : va_P (dC, dI) vwCl [(o, Sum.inr (9, mO g 3 fShift fModels fItems fEnded fLow fRange fCache fPend fGoes fOuts (nI is.length) 1 0 0 0 fBAsk fCode fRL fRR fX fWrites 0)), ((g 0), Sum.inl (cI, 8, Sum.inl vMany)), ((g 1), Sum.inl (cI, 512, Sum.inl vCounts)), ((g 3), Sum.inl (cI, 512, Sum.inl fN)), ((g 8), Sum.inl (cI, 6000, Sum.inl vIn))] H := hP
        have hD : va_D A [(o, Sum.inr (9, mO g 3 fShift fModels fItems fEnded fLow fRange fCache fPend fGoes fOuts (nI is.length) 1 0 0 0 fBAsk fCode fRL fRR fX fWrites 0)), ((g 0), Sum.inl (cI, 8, Sum.inl vMany)), ((g 1), Sum.inl (cI, 512, Sum.inl vCounts)), ((g 3), Sum.inl (cI, 512, Sum.inl fN)), ((g 8), Sum.inl (cI, 6000, Sum.inl vIn))] := hD
        refine lv_aload_n hx hb d_M_read_50 rfl (lv_at hl 1 rfl) ?_
        refine lv_iconst (v := 0) hx hb d_M_read_51 (by decide) ?_
        refine va_put (D := (dC, dI)) (ci := 9) (v := .int 0) (ty := .int) (C := "RangeCodersModel") (T := T_M) (N := 35) hx hb hg in_M t_M o_M n_M hown hK hP hD hS 0 rfl rfl 25 (by decide) (hg _ k977) (fun _ h9 => h9) rfl (by decide +kernel) rfl rfl (Nat.le_of_ble_eq_true rfl) d_M_read_52 (fun H locs hP hD hS => ?_)
        have hP : va_P (dC, dI) vwCl [(o, Sum.inr (9, mO g 3 fShift fModels fItems fEnded fLow fRange fCache fPend fGoes fOuts (nI is.length) 1 0 0 0 0 fCode fRL fRR fX fWrites 0)), ((g 0), Sum.inl (cI, 8, Sum.inl vMany)), ((g 1), Sum.inl (cI, 512, Sum.inl vCounts)), ((g 3), Sum.inl (cI, 512, Sum.inl fN)), ((g 8), Sum.inl (cI, 6000, Sum.inl vIn))] H := hP
        have hD : va_D A [(o, Sum.inr (9, mO g 3 fShift fModels fItems fEnded fLow fRange fCache fPend fGoes fOuts (nI is.length) 1 0 0 0 0 fCode fRL fRR fX fWrites 0)), ((g 0), Sum.inl (cI, 8, Sum.inl vMany)), ((g 1), Sum.inl (cI, 512, Sum.inl vCounts)), ((g 3), Sum.inl (cI, 512, Sum.inl fN)), ((g 8), Sum.inl (cI, 6000, Sum.inl vIn))] := hD
        refine lv_aload_n hx hb d_M_read_55 rfl (lv_at hl 1 rfl) ?_
        refine lv_lconst (v := 0) hx hb d_M_read_56 (by decide) ?_
        refine va_put (D := (dC, dI)) (ci := 9) (v := .long 0) (ty := .long) (C := "RangeCodersModel") (T := T_M) (N := 35) hx hb hg in_M t_M o_M n_M hown hK hP hD hS 0 rfl rfl 26 (by decide) (hg _ k978) (fun _ h9 => h9) rfl (by decide +kernel) rfl rfl (Nat.le_of_ble_eq_true rfl) d_M_read_57 (fun H locs hP hD hS => ?_)
        have hP : va_P (dC, dI) vwCl [(o, Sum.inr (9, mO g 3 fShift fModels fItems fEnded fLow fRange fCache fPend fGoes fOuts (nI is.length) 1 0 0 0 0 0 fRL fRR fX fWrites 0)), ((g 0), Sum.inl (cI, 8, Sum.inl vMany)), ((g 1), Sum.inl (cI, 512, Sum.inl vCounts)), ((g 3), Sum.inl (cI, 512, Sum.inl fN)), ((g 8), Sum.inl (cI, 6000, Sum.inl vIn))] H := hP
        have hD : va_D A [(o, Sum.inr (9, mO g 3 fShift fModels fItems fEnded fLow fRange fCache fPend fGoes fOuts (nI is.length) 1 0 0 0 0 0 fRL fRR fX fWrites 0)), ((g 0), Sum.inl (cI, 8, Sum.inl vMany)), ((g 1), Sum.inl (cI, 512, Sum.inl vCounts)), ((g 3), Sum.inl (cI, 512, Sum.inl fN)), ((g 8), Sum.inl (cI, 6000, Sum.inl vIn))] := hD
        refine lv_aload_n hx hb d_M_read_60 rfl (lv_at hl 1 rfl) ?_
        refine lv_lconst (v := 0) hx hb d_M_read_61 (by decide) ?_
        refine va_put (D := (dC, dI)) (ci := 9) (v := .long 0) (ty := .long) (C := "RangeCodersModel") (T := T_M) (N := 35) hx hb hg in_M t_M o_M n_M hown hK hP hD hS 0 rfl rfl 27 (by decide) (hg _ k979) (fun _ h9 => h9) rfl (by decide +kernel) rfl rfl (Nat.le_of_ble_eq_true rfl) d_M_read_62 (fun H locs hP hD hS => ?_)
        have hP : va_P (dC, dI) vwCl [(o, Sum.inr (9, mO g 3 fShift fModels fItems fEnded fLow fRange fCache fPend fGoes fOuts (nI is.length) 1 0 0 0 0 0 0 fRR fX fWrites 0)), ((g 0), Sum.inl (cI, 8, Sum.inl vMany)), ((g 1), Sum.inl (cI, 512, Sum.inl vCounts)), ((g 3), Sum.inl (cI, 512, Sum.inl fN)), ((g 8), Sum.inl (cI, 6000, Sum.inl vIn))] H := hP
        have hD : va_D A [(o, Sum.inr (9, mO g 3 fShift fModels fItems fEnded fLow fRange fCache fPend fGoes fOuts (nI is.length) 1 0 0 0 0 0 0 fRR fX fWrites 0)), ((g 0), Sum.inl (cI, 8, Sum.inl vMany)), ((g 1), Sum.inl (cI, 512, Sum.inl vCounts)), ((g 3), Sum.inl (cI, 512, Sum.inl fN)), ((g 8), Sum.inl (cI, 6000, Sum.inl vIn))] := hD
        refine lv_aload_n hx hb d_M_read_65 rfl (lv_at hl 1 rfl) ?_
        refine lv_ldc2 (v := 4294967295) hx hb hown (hg _ k927) d_M_read_66 ?_
        refine va_put (D := (dC, dI)) (ci := 9) (v := .long 4294967295) (ty := .long) (C := "RangeCodersModel") (T := T_M) (N := 35) hx hb hg in_M t_M o_M n_M hown hK hP hD hS 0 rfl rfl 28 (by decide) (hg _ k980) (fun _ h9 => h9) rfl (by decide +kernel) rfl rfl (Nat.le_of_ble_eq_true rfl) d_M_read_69 (fun H locs hP hD hS => ?_)
        have hP : va_P (dC, dI) vwCl [(o, Sum.inr (9, mO g 3 fShift fModels fItems fEnded fLow fRange fCache fPend fGoes fOuts (nI is.length) 1 0 0 0 0 0 0 4294967295 fX fWrites 0)), ((g 0), Sum.inl (cI, 8, Sum.inl vMany)), ((g 1), Sum.inl (cI, 512, Sum.inl vCounts)), ((g 3), Sum.inl (cI, 512, Sum.inl fN)), ((g 8), Sum.inl (cI, 6000, Sum.inl vIn))] H := hP
        have hD : va_D A [(o, Sum.inr (9, mO g 3 fShift fModels fItems fEnded fLow fRange fCache fPend fGoes fOuts (nI is.length) 1 0 0 0 0 0 0 4294967295 fX fWrites 0)), ((g 0), Sum.inl (cI, 8, Sum.inl vMany)), ((g 1), Sum.inl (cI, 512, Sum.inl vCounts)), ((g 3), Sum.inl (cI, 512, Sum.inl fN)), ((g 8), Sum.inl (cI, 6000, Sum.inl vIn))] := hD
        refine lv_aload_n hx hb d_M_read_72 rfl (lv_at hl 1 rfl) ?_
        refine lv_lconst (v := 0) hx hb d_M_read_73 (by decide) ?_
        refine va_put (D := (dC, dI)) (ci := 9) (v := .long 0) (ty := .long) (C := "RangeCodersModel") (T := T_M) (N := 35) hx hb hg in_M t_M o_M n_M hown hK hP hD hS 0 rfl rfl 29 (by decide) (hg _ k981) (fun _ h9 => h9) rfl (by decide +kernel) rfl rfl (Nat.le_of_ble_eq_true rfl) d_M_read_74 (fun H locs hP hD hS => ?_)
        have hP : va_P (dC, dI) vwCl [(o, Sum.inr (9, mO g 3 fShift fModels fItems fEnded fLow fRange fCache fPend fGoes fOuts (nI is.length) 1 0 0 0 0 0 0 4294967295 0 fWrites 0)), ((g 0), Sum.inl (cI, 8, Sum.inl vMany)), ((g 1), Sum.inl (cI, 512, Sum.inl vCounts)), ((g 3), Sum.inl (cI, 512, Sum.inl fN)), ((g 8), Sum.inl (cI, 6000, Sum.inl vIn))] H := hP
        have hD : va_D A [(o, Sum.inr (9, mO g 3 fShift fModels fItems fEnded fLow fRange fCache fPend fGoes fOuts (nI is.length) 1 0 0 0 0 0 0 4294967295 0 fWrites 0)), ((g 0), Sum.inl (cI, 8, Sum.inl vMany)), ((g 1), Sum.inl (cI, 512, Sum.inl vCounts)), ((g 3), Sum.inl (cI, 512, Sum.inl fN)), ((g 8), Sum.inl (cI, 6000, Sum.inl vIn))] := hD
        refine lv_aload_n hx hb d_M_read_77 rfl (lv_at hl 1 rfl) ?_
        refine va_get (D := (dC, dI)) (ci := 9) (v := .int 3) (C := "RangeCodersModel") (T := T_M) (N := 35) hx hb hg in_M hown hK hP 0 rfl rfl 0 (by decide) (hg _ k952) (fun _ h9 => h9) rfl d_M_read_78 ?_
        refine lv_iconst (v := 3) hx hb d_M_read_81 (by decide) ?_
        refine lv_icmp_ge (tgt := 96) hx hb d_M_read_82 (by decide) (fun c_2 => ?_) (fun c_2 => ?_)
        · refine lv_aload_n hx hb d_M_read_96 rfl (lv_at hl 1 rfl) ?_
          refine va_get (D := (dC, dI)) (ci := 9) (v := .int 3) (C := "RangeCodersModel") (T := T_M) (N := 35) hx hb hg in_M hown hK hP 0 rfl rfl 0 (by decide) (hg _ k952) (fun _ h9 => h9) rfl d_M_read_97 ?_
          refine lv_iconst (v := 3) hx hb d_M_read_100 (by decide) ?_
          refine lv_icmp_ne (tgt := 135) hx hb d_M_read_101 (by decide) (fun c_3 => ?_) (fun c_3 => ?_)
          · exact absurd rfl c_3
          · refine lv_aload_n hx hb d_M_read_104 rfl (lv_at hl 1 rfl) ?_
            refine lv_aload_n hx hb d_M_read_105 rfl (lv_at hl 1 rfl) ?_
            refine my_cl (wr := [((g 0), Sum.inl (cI, 8, Sum.inl vMany)), ((g 1), Sum.inl (cI, 512, Sum.inl vCounts)), ((g 3), Sum.inl (cI, 512, Sum.inl fN))]) (va_runV (As := []) (rest := [Value.ref o]) ⟨hx, hb, hml, hown, hts⟩ (c_M_four l dC dI cI cM cO H.size o g 3 fShift fModels fItems fEnded fLow fRange fCache fPend fGoes fOuts 1 0 0 0 0 0 4294967295 0 fWrites 0 vIn is 0 (hIn) (hlen) (hoct) (by decide)) (cwV 0 hts (my_gV k1190 k1192 ks44 k12 k1193) rfl rfl rfl (by decide +kernel) ⟨by rw [hR]; exact Nat.le_of_ble_eq_true rfl, by rw [hR]; exact Nat.le_of_ble_eq_true rfl⟩) (my_preV hK hN (hP.sub [0, 4] rfl) (hD.sub [0, 4] (by decide +kernel) rfl) 0 rfl rfl) rfl rfl hl.1 rfl (lv_room (Nat.le_of_ble_eq_true rfl)) d_M_read_106 ⟨by rw [hR]; exact Nat.le_of_ble_eq_true rfl, by rw [hR]; exact Nat.le_of_ble_eq_true rfl⟩) hP hD hS hA [0, 4] [1, 2, 3] rfl rfl (by decide +kernel) (by decide +kernel) (fun r_106 u9 H locs hw_106 hP hD hS => ?_)
            have hw_106 : r_106 = lN (frN is 0 4) := hw_106
            have hP : va_P (dC, dI) vwCl [((g 0), Sum.inl (cI, 8, Sum.inl vMany)), ((g 1), Sum.inl (cI, 512, Sum.inl vCounts)), ((g 3), Sum.inl (cI, 512, Sum.inl fN)), (o, Sum.inr (9, mO g 3 fShift fModels fItems fEnded fLow fRange fCache fPend fGoes fOuts (nI is.length) 1 0 0 (nI (0 + 4)) 0 0 0 4294967295 0 fWrites 0)), ((g 8), Sum.inl (cI, 6000, Sum.inl vIn))] H := hP
            have hD : va_D A [((g 0), Sum.inl (cI, 8, Sum.inl vMany)), ((g 1), Sum.inl (cI, 512, Sum.inl vCounts)), ((g 3), Sum.inl (cI, 512, Sum.inl fN)), (o, Sum.inr (9, mO g 3 fShift fModels fItems fEnded fLow fRange fCache fPend fGoes fOuts (nI is.length) 1 0 0 (nI (0 + 4)) 0 0 0 4294967295 0 fWrites 0)), ((g 8), Sum.inl (cI, 6000, Sum.inl vIn))] := hD
            refine va_put (D := (dC, dI)) (ci := 9) (v := .long r_106) (ty := .long) (C := "RangeCodersModel") (T := T_M) (N := 35) hx hb hg in_M t_M o_M n_M hown hK hP hD hS 3 rfl rfl 29 (by decide) (hg _ k981) (fun _ h9 => h9) rfl (by decide +kernel) rfl rfl (Nat.le_of_ble_eq_true rfl) d_M_read_109 (fun H locs hP hD hS => ?_)
            have hP : va_P (dC, dI) vwCl [((g 0), Sum.inl (cI, 8, Sum.inl vMany)), ((g 1), Sum.inl (cI, 512, Sum.inl vCounts)), ((g 3), Sum.inl (cI, 512, Sum.inl fN)), (o, Sum.inr (9, mO g 3 fShift fModels fItems fEnded fLow fRange fCache fPend fGoes fOuts (nI is.length) 1 0 0 (nI (0 + 4)) 0 0 0 4294967295 r_106 fWrites 0)), ((g 8), Sum.inl (cI, 6000, Sum.inl vIn))] H := hP
            have hD : va_D A [((g 0), Sum.inl (cI, 8, Sum.inl vMany)), ((g 1), Sum.inl (cI, 512, Sum.inl vCounts)), ((g 3), Sum.inl (cI, 512, Sum.inl fN)), (o, Sum.inr (9, mO g 3 fShift fModels fItems fEnded fLow fRange fCache fPend fGoes fOuts (nI is.length) 1 0 0 (nI (0 + 4)) 0 0 0 4294967295 r_106 fWrites 0)), ((g 8), Sum.inl (cI, 6000, Sum.inl vIn))] := hD
            refine lv_aload_n hx hb d_M_read_112 rfl (lv_at hl 1 rfl) ?_
            refine lv_aload_n hx hb d_M_read_113 rfl (lv_at hl 1 rfl) ?_
            refine va_get (D := (dC, dI)) (ci := 9) (v := .long r_106) (C := "RangeCodersModel") (T := T_M) (N := 35) hx hb hg in_M hown hK hP 3 rfl rfl 29 (by decide) (hg _ k981) (fun _ h9 => h9) rfl d_M_read_114 ?_
            refine lv_ldc2 (v := 8388608) hx hb hown (hg _ k1155) d_M_read_117 ?_
            refine W.lcmp hx hb d_M_read_120 ?_
            refine lv_if_ge (tgt := 128) hx hb d_M_read_121 (by decide) (fun c_4 => ?_) (fun c_4 => ?_)
            · rw [lg_cmp_ge] at c_4
              refine lv_iconst (v := 0) hx hb d_M_read_128 (by decide) ?_
              refine va_put (D := (dC, dI)) (ci := 9) (v := .int 0) (ty := .boolean) (C := "RangeCodersModel") (T := T_M) (N := 35) hx hb hg in_M t_M o_M n_M hown hK hP hD hS 3 rfl rfl 22 (by decide) (hg _ k974) (fun _ h9 => h9) rfl (by decide +kernel) rfl rfl (Nat.le_of_ble_eq_true rfl) d_M_read_129 (fun H locs hP hD hS => ?_)
              have hP : va_P (dC, dI) vwCl [((g 0), Sum.inl (cI, 8, Sum.inl vMany)), ((g 1), Sum.inl (cI, 512, Sum.inl vCounts)), ((g 3), Sum.inl (cI, 512, Sum.inl fN)), (o, Sum.inr (9, mO g 3 fShift fModels fItems fEnded fLow fRange fCache fPend fGoes fOuts (nI is.length) 1 0 0 (nI (0 + 4)) 0 0 0 4294967295 r_106 fWrites 0)), ((g 8), Sum.inl (cI, 6000, Sum.inl vIn))] H := hP
              have hD : va_D A [((g 0), Sum.inl (cI, 8, Sum.inl vMany)), ((g 1), Sum.inl (cI, 512, Sum.inl vCounts)), ((g 3), Sum.inl (cI, 512, Sum.inl fN)), (o, Sum.inr (9, mO g 3 fShift fModels fItems fEnded fLow fRange fCache fPend fGoes fOuts (nI is.length) 1 0 0 (nI (0 + 4)) 0 0 0 4294967295 r_106 fWrites 0)), ((g 8), Sum.inl (cI, 6000, Sum.inl vIn))] := hD
              refine lv_goto (tgt := 172) hx hb d_M_read_132 (by decide) ?_
              refine lv_aload_n hx hb d_M_read_172 rfl (lv_at hl 1 rfl) ?_
              refine va_get (D := (dC, dI)) (ci := 9) (v := .int (nI is.length)) (C := "RangeCodersModel") (T := T_M) (N := 35) hx hb hg in_M hown hK hP 3 rfl rfl 20 (by decide) (hg _ k972) (fun _ h9 => h9) rfl d_M_read_173 ?_
              exact my_iret (v := nI is.length) hx hb hr (rfl) hlocks hQ hK hS (Nat.le_refl _) (Nat.le_refl _) ((1 : Int32), (0 : Int32), (0 : Int32), nI (0 + 4), (0 : Int32), (0 : Int64), (0 : Int64), (4294967295 : Int64), r_106, (0 : Int32), fN) (⟨hT9, fun _ _ => ⟨frN is 0 4, 4, hw_106, rfl, r3_ge hw_106 (by have := frN_lt hoct 0 4; exact this) c_4, frN_lt hoct 0 4, by omega⟩, rfl, rfl⟩) (hP.sub [3, 0, 1, 2, 4] rfl) (hD.sub [3, 0, 1, 2, 4] (by decide +kernel) rfl) d_M_read_176
            · rw [lg_cmp_ge] at c_4
              refine lv_iconst (v := 1) hx hb d_M_read_124 (by decide) ?_
              refine lv_goto (tgt := 129) hx hb d_M_read_125 (by decide) ?_
              refine va_put (D := (dC, dI)) (ci := 9) (v := .int 1) (ty := .boolean) (C := "RangeCodersModel") (T := T_M) (N := 35) hx hb hg in_M t_M o_M n_M hown hK hP hD hS 3 rfl rfl 22 (by decide) (hg _ k974) (fun _ h9 => h9) rfl (by decide +kernel) rfl rfl (Nat.le_of_ble_eq_true rfl) d_M_read_129 (fun H locs hP hD hS => ?_)
              have hP : va_P (dC, dI) vwCl [((g 0), Sum.inl (cI, 8, Sum.inl vMany)), ((g 1), Sum.inl (cI, 512, Sum.inl vCounts)), ((g 3), Sum.inl (cI, 512, Sum.inl fN)), (o, Sum.inr (9, mO g 3 fShift fModels fItems fEnded fLow fRange fCache fPend fGoes fOuts (nI is.length) 1 1 0 (nI (0 + 4)) 0 0 0 4294967295 r_106 fWrites 0)), ((g 8), Sum.inl (cI, 6000, Sum.inl vIn))] H := hP
              have hD : va_D A [((g 0), Sum.inl (cI, 8, Sum.inl vMany)), ((g 1), Sum.inl (cI, 512, Sum.inl vCounts)), ((g 3), Sum.inl (cI, 512, Sum.inl fN)), (o, Sum.inr (9, mO g 3 fShift fModels fItems fEnded fLow fRange fCache fPend fGoes fOuts (nI is.length) 1 1 0 (nI (0 + 4)) 0 0 0 4294967295 r_106 fWrites 0)), ((g 8), Sum.inl (cI, 6000, Sum.inl vIn))] := hD
              refine lv_goto (tgt := 172) hx hb d_M_read_132 (by decide) ?_
              refine lv_aload_n hx hb d_M_read_172 rfl (lv_at hl 1 rfl) ?_
              refine va_get (D := (dC, dI)) (ci := 9) (v := .int (nI is.length)) (C := "RangeCodersModel") (T := T_M) (N := 35) hx hb hg in_M hown hK hP 3 rfl rfl 20 (by decide) (hg _ k972) (fun _ h9 => h9) rfl d_M_read_173 ?_
              exact my_iret (v := nI is.length) hx hb hr (rfl) hlocks hQ hK hS (Nat.le_refl _) (Nat.le_refl _) ((1 : Int32), (1 : Int32), (0 : Int32), nI (0 + 4), (0 : Int32), (0 : Int64), (0 : Int64), (4294967295 : Int64), r_106, (0 : Int32), fN) (⟨hT9, fun _ z2 => absurd z2 (show ¬ (1 : Int32) = 0 by decide), rfl, rfl⟩) (hP.sub [3, 0, 1, 2, 4] rfl) (hD.sub [3, 0, 1, 2, 4] (by decide +kernel) rfl) d_M_read_176
        · exact absurd (by decide) c_2
      · have hjl : jj < km := by
          rcases Nat.lt_or_ge jj km with z | z
          · exact z
          · exact absurd (by rw [hmod]; exact nI_le z (by have := hMD.1; omega)) c_1
        have hk8 := hMD.1
        obtain ⟨hn9, hn2, hn64, C9, hc9, hB9⟩ := hMD.2 jj hjl
        refine lv_aload_n hx hb d_M_read_15 rfl (lv_at hl 1 rfl) ?_
        refine lv_aload_n hx hb d_M_read_16 rfl (lv_at hl 1 rfl) ?_
        refine va_get (D := (dC, dI)) (ci := 9) (v := .ref (g 3)) (C := "RangeCodersModel") (T := T_M) (N := 35) hx hb hg in_M hown hK hP 0 rfl rfl 6 (by decide) (hg _ k958) (fun _ h9 => h9) rfl d_M_read_17 ?_
        refine lv_iload_n hx hb d_M_read_20 rfl (lv_at hl 0 rfl) ?_
        refine my_cv (wr := [((g 8), Sum.inl (cI, 6000, Sum.inl vIn))]) (va_runV (As := [Value.ref (g 3), Value.int (nI jj)]) (rest := []) ⟨hx, hb, hml, hown, hts⟩ (c_M_prepare l dC dI cI cM cO H.size o g 3 fShift fModels fItems fEnded fLow fRange fCache fPend fGoes fOuts (nI is.length) fReads fBad fIR fAsk fBAsk fCode fRL fRR fX fWrites 0 vMany vCounts (g 3) fN jj (N jj) 3 C9 (by omega) (hn9) (hn64) (by omega) (by decide) (by rfl) (hc9) (hB9)) (cwV 2 hts (my_gV k928 k930 ks19 k12 k931) rfl rfl rfl (by decide +kernel) ⟨by rw [hR]; exact Nat.le_of_ble_eq_true rfl, by rw [hR]; exact Nat.le_of_ble_eq_true rfl⟩) (my_preV hK hN (hP.sub [0, 1, 2, 3] rfl) (hD.sub [0, 1, 2, 3] (by decide +kernel) rfl) 0 rfl rfl) rfl rfl hl.1 rfl (lv_room (Nat.le_of_ble_eq_true rfl)) d_M_read_21 ⟨by rw [hR]; exact Nat.le_of_ble_eq_true rfl, by rw [hR]; exact Nat.le_of_ble_eq_true rfl⟩) hP hD hS hA [0, 1, 2, 3] [4] rfl rfl (by decide +kernel) (by decide +kernel) (fun u9 H locs hw_21 hP hD hS => ?_)
        obtain ⟨f2_21, rfl⟩ : ∃ z, z = u9 := ⟨_, rfl⟩
        have hw_21 : sgI f2_21 (64 * jj) (pfN 3 (N jj)) (pf 3 (N jj) C9) ∧ sgO f2_21 fN (64 * jj) 64 := hw_21
        have hP : va_P (dC, dI) vwCl [((g 8), Sum.inl (cI, 6000, Sum.inl vIn)), (o, Sum.inr (9, mO g 3 fShift fModels fItems fEnded fLow fRange fCache fPend fGoes fOuts (nI is.length) fReads fBad fIR fAsk fBAsk fCode fRL fRR fX fWrites 0)), ((g 0), Sum.inl (cI, 8, Sum.inl vMany)), ((g 1), Sum.inl (cI, 512, Sum.inl vCounts)), ((g 3), Sum.inl (cI, 512, Sum.inl f2_21))] H := hP
        have hD : va_D A [((g 8), Sum.inl (cI, 6000, Sum.inl vIn)), (o, Sum.inr (9, mO g 3 fShift fModels fItems fEnded fLow fRange fCache fPend fGoes fOuts (nI is.length) fReads fBad fIR fAsk fBAsk fCode fRL fRR fX fWrites 0)), ((g 0), Sum.inl (cI, 8, Sum.inl vMany)), ((g 1), Sum.inl (cI, 512, Sum.inl vCounts)), ((g 3), Sum.inl (cI, 512, Sum.inl f2_21))] := hD
        have hT8 := TB_step hT9 (MD_N hMD) hjl hw_21.2 (tab_pf hfm hn64 (by omega) hB9 hw_21.1)
        obtain ⟨v_5, ev_5⟩ : ∃ y : Int32, y = (nI jj) + (1) := ⟨_, rfl⟩
        refine lv_iinc (v := v_5) (lv' := [(1, Value.int v_5), (0, Value.ref o)]) hx hb d_M_read_24 hl (k := 0) rfl (by rw [ev_5]; rfl) (by decide) rfl (fun ls hl => ?_)
        have z9 : v_5 = nI (jj + 1) := by rw [ev_5]; exact nI_1 _
        subst z9
        refine lv_goto (tgt := 7) hx hb d_M_read_27 (by decide) ?_
        exact ih9_7 _ (by first | omega | (omega)) (jj + 1) f2_21 rfl (by omega) (hT8) H locs ls (hP.sub [1, 2, 3, 4, 0] rfl) (hD.sub [1, 2, 3, 4, 0] (by decide +kernel) rfl) hS (lv_sub hl [0, 1] rfl)
  exact J_7 _ (0 : Nat) vThen rfl (Nat.zero_le _) (TB_0 _ _ _) H locs ls (hP.sub [0, 1, 2, 3, 4] rfl) (hD.sub [0, 1, 2, 3, 4] (by decide +kernel) rfl) hS (lv_sub hl [0, 1] rfl)
set_option maxHeartbeats 2000000 in
set_option maxRecDepth 100000 in
theorem m_read4 (l : Launch) (dC : Nat → ClassId) (dI : Nat → Nat → Nat) (cI cM cO : ClassId) (sz : Nat) (o : Nat) (g : Nat → Nat) (fForm : Int32) (fShift : Int32) (fModels : Int32) (fItems : Int32) (fEnded : Int32) (fLow : Int64) (fRange : Int64) (fCache : Int32) (fPend : Int32) (fGoes : Int32) (fOuts : Int32) (fIns : Int32) (fReads : Int32) (fBad : Int32) (fIR : Int32) (fAsk : Int32) (fBAsk : Int32) (fCode : Int64) (fRL : Int64) (fRR : Int64) (fX : Int64) (fWrites : Int32) (fThrown : Int32) (vMany : Nat → Int32) (vCounts : Nat → Int32) (vThen : Nat → Int32) (vIn : Nat → Int32) (km : Nat) (N : Nat → Nat) (cn : Nat) (hfo : fForm = 4) (hmod : fModels = nI km) (hMD : MD km N vMany vCounts) (hIN : IN fIns vIn) : MetI l y_M_read (Cond.code y_M_read prog_14_method_43_code 2 (some .int) :: gw) ({ frames := 3, cells := 0, slots := 0, locals := 75 } : Room) (dC, dI) vwCl (kT cI cM cO) [Value.ref o] [(o, Sum.inr (9, mO g fForm fShift fModels fItems fEnded fLow fRange fCache fPend fGoes fOuts fIns fReads fBad fIR fAsk fBAsk fCode fRL fRR fX fWrites fThrown)), ((g 0), Sum.inl (cI, 8, Sum.inl vMany)), ((g 1), Sum.inl (cI, 512, Sum.inl vCounts)), ((g 3), Sum.inl (cI, 512, Sum.inl vThen)), ((g 8), Sum.inl (cI, 6000, Sum.inl vIn))] sz (fun (r : Int32) (u : Int32 × Int32 × Int32 × Int32 × Int32 × Int64 × Int64 × Int64 × Int64 × Int32 × (Nat → Int32)) => TB 4 km N u.2.2.2.2.2.2.2.2.2.2 ∧ (¬ u.1 = 0 → u.2.1 = 0 → RD4 cn u.2.2.2.1 u.2.2.2.2.1 u.2.2.2.2.2.2.2.2.1) ∧ r = fIns ∧ u.1 = 1) (fun (u : Int32 × Int32 × Int32 × Int32 × Int32 × Int64 × Int64 × Int64 × Int64 × Int32 × (Nat → Int32)) => [(o, Sum.inr (9, mO g fForm fShift fModels fItems fEnded fLow fRange fCache fPend fGoes fOuts fIns u.1 u.2.1 u.2.2.1 u.2.2.2.1 u.2.2.2.2.1 u.2.2.2.2.2.1 u.2.2.2.2.2.2.1 u.2.2.2.2.2.2.2.1 u.2.2.2.2.2.2.2.2.1 fWrites u.2.2.2.2.2.2.2.2.2.1)), ((g 0), Sum.inl (cI, 8, Sum.inl vMany)), ((g 1), Sum.inl (cI, 512, Sum.inl vCounts)), ((g 3), Sum.inl (cI, 512, Sum.inl u.2.2.2.2.2.2.2.2.2.2)), ((g 8), Sum.inl (cI, 6000, Sum.inl vIn))]) 0 0 := by
  refine my_ofI (cc := prog_14_method_43_code) (n := 2) (ret := (some .int)) (by decide) rfl (Nat.le_of_ble_eq_true rfl) ?_
  intro p e s m args below meth c R Q A ls H locs hx hb hr hts hown hlocks hml hnm hR hQ hA hl hP hK hN hD hS
  have hg : ∀ w ∈ gw, w.before args s = true := fun w h => hts w (List.mem_cons_of_mem _ h)
  have hown : s.vm.findClass "RangeCodersModel" = some m.cls := hown
  have hl : lv_has ls 2 [(0, Value.ref o)] := hl
  subst hfo
  have hfm : 4 ≤ 4 := by decide
  obtain ⟨is, rfl, hIn, hlen, hoct⟩ := hIN
  have hP : va_P (dC, dI) vwCl [(o, Sum.inr (9, mO g 4 fShift fModels fItems fEnded fLow fRange fCache fPend fGoes fOuts (nI is.length) fReads fBad fIR fAsk fBAsk fCode fRL fRR fX fWrites fThrown)), ((g 0), Sum.inl (cI, 8, Sum.inl vMany)), ((g 1), Sum.inl (cI, 512, Sum.inl vCounts)), ((g 3), Sum.inl (cI, 512, Sum.inl vThen)), ((g 8), Sum.inl (cI, 6000, Sum.inl vIn))] H := hP
  have hD : va_D A [(o, Sum.inr (9, mO g 4 fShift fModels fItems fEnded fLow fRange fCache fPend fGoes fOuts (nI is.length) fReads fBad fIR fAsk fBAsk fCode fRL fRR fX fWrites fThrown)), ((g 0), Sum.inl (cI, 8, Sum.inl vMany)), ((g 1), Sum.inl (cI, 512, Sum.inl vCounts)), ((g 3), Sum.inl (cI, 512, Sum.inl vThen)), ((g 8), Sum.inl (cI, 6000, Sum.inl vIn))] := hD
  have hl : lv_has ls 2 [(0, Value.ref o)] := hl
  refine lv_aload_n hx hb d_M_read_0 rfl (lv_at hl 0 rfl) ?_
  refine lv_iconst (v := 0) hx hb d_M_read_1 (by decide) ?_
  refine va_put (D := (dC, dI)) (ci := 9) (v := .int 0) (ty := .int) (C := "RangeCodersModel") (T := T_M) (N := 35) hx hb hg in_M t_M o_M n_M hown hK hP hD hS 0 rfl rfl 34 (by decide) (hg _ k986) (fun _ h9 => h9) rfl (by decide +kernel) rfl rfl (Nat.le_of_ble_eq_true rfl) d_M_read_2 (fun H locs hP hD hS => ?_)
  have hP : va_P (dC, dI) vwCl [(o, Sum.inr (9, mO g 4 fShift fModels fItems fEnded fLow fRange fCache fPend fGoes fOuts (nI is.length) fReads fBad fIR fAsk fBAsk fCode fRL fRR fX fWrites 0)), ((g 0), Sum.inl (cI, 8, Sum.inl vMany)), ((g 1), Sum.inl (cI, 512, Sum.inl vCounts)), ((g 3), Sum.inl (cI, 512, Sum.inl vThen)), ((g 8), Sum.inl (cI, 6000, Sum.inl vIn))] H := hP
  have hD : va_D A [(o, Sum.inr (9, mO g 4 fShift fModels fItems fEnded fLow fRange fCache fPend fGoes fOuts (nI is.length) fReads fBad fIR fAsk fBAsk fCode fRL fRR fX fWrites 0)), ((g 0), Sum.inl (cI, 8, Sum.inl vMany)), ((g 1), Sum.inl (cI, 512, Sum.inl vCounts)), ((g 3), Sum.inl (cI, 512, Sum.inl vThen)), ((g 8), Sum.inl (cI, 6000, Sum.inl vIn))] := hD
  refine lv_iconst (v := 0) hx hb d_M_read_5 (by decide) ?_
  refine lv_istore_n (lv' := [(1, Value.int 0), (0, Value.ref o)]) hx hb d_M_read_6 rfl hl (by decide) rfl (fun ls hl => ?_)
  have J_7 : ∀ (n9_7 : Nat) (jj : Nat) (fN : Nat → Int32) (hn9_7 : km - jj = n9_7) (hjj : jj ≤ km) (hT9 : TB 4 jj N fN) (H : Heap) (locs : List Loc) (ls : Array Slot), va_P (dC, dI) vwCl [(o, Sum.inr (9, mO g 4 fShift fModels fItems fEnded fLow fRange fCache fPend fGoes fOuts (nI is.length) fReads fBad fIR fAsk fBAsk fCode fRL fRR fX fWrites 0)), ((g 0), Sum.inl (cI, 8, Sum.inl vMany)), ((g 1), Sum.inl (cI, 512, Sum.inl vCounts)), ((g 3), Sum.inl (cI, 512, Sum.inl fN)), ((g 8), Sum.inl (cI, 6000, Sum.inl vIn))] H → va_D A [(o, Sum.inr (9, mO g 4 fShift fModels fItems fEnded fLow fRange fCache fPend fGoes fOuts (nI is.length) fReads fBad fIR fAsk fBAsk fCode fRL fRR fX fWrites 0)), ((g 0), Sum.inl (cI, 8, Sum.inl vMany)), ((g 1), Sum.inl (cI, 512, Sum.inl vCounts)), ((g 3), Sum.inl (cI, 512, Sum.inl fN)), ((g 8), Sum.inl (cI, 6000, Sum.inl vIn))] → va_S A s.heap H locs → lv_has ls 2 [(1, Value.int (nI jj)), (0, Value.ref o)] → W p l e R s m args below meth c H locs 0 0 Q (F0 m 7 ls []) := by
    intro n9_7
    induction n9_7 using Nat.strongRecOn with
    | ind n9_7 ih9_7 =>
      intro jj fN hn9_7 hjj hT9 H locs ls hP hD hS hl
      refine lv_iload_n hx hb d_M_read_7 rfl (lv_at hl 0 rfl) ?_
      refine lv_aload_n hx hb d_M_read_8 rfl (lv_at hl 1 rfl) ?_
      refine va_get (D := (dC, dI)) (ci := 9) (v := .int fModels) (C := "RangeCodersModel") (T := T_M) (N := 35) hx hb hg in_M hown hK hP 0 rfl rfl 2 (by decide) (hg _ k954) (fun _ h9 => h9) rfl d_M_read_9 ?_
      refine lv_icmp_ge (tgt := 30) hx hb d_M_read_12 (by decide) (fun c_1 => ?_) (fun c_1 => ?_)
      · have hjk : jj = km := by
          have hk8 := hMD.1
          rw [hmod] at c_1
          have := (nI_cmp (by omega) (by omega)).mp c_1
          omega
        subst hjk
        refine lv_aload_n hx hb d_M_read_30 rfl (lv_at hl 1 rfl) ?_
        refine lv_iconst (v := 1) hx hb d_M_read_31 (by decide) ?_
        refine va_put (D := (dC, dI)) (ci := 9) (v := .int 1) (ty := .boolean) (C := "RangeCodersModel") (T := T_M) (N := 35) hx hb hg in_M t_M o_M n_M hown hK hP hD hS 0 rfl rfl 21 (by decide) (hg _ k973) (fun _ h9 => h9) rfl (by decide +kernel) rfl rfl (Nat.le_of_ble_eq_true rfl) d_M_read_32 (fun H locs hP hD hS => ?_)
        have hP : va_P (dC, dI) vwCl [(o, Sum.inr (9, mO g 4 fShift fModels fItems fEnded fLow fRange fCache fPend fGoes fOuts (nI is.length) 1 fBad fIR fAsk fBAsk fCode fRL fRR fX fWrites 0)), ((g 0), Sum.inl (cI, 8, Sum.inl vMany)), ((g 1), Sum.inl (cI, 512, Sum.inl vCounts)), ((g 3), Sum.inl (cI, 512, Sum.inl fN)), ((g 8), Sum.inl (cI, 6000, Sum.inl vIn))] H := hP
        have hD : va_D A [(o, Sum.inr (9, mO g 4 fShift fModels fItems fEnded fLow fRange fCache fPend fGoes fOuts (nI is.length) 1 fBad fIR fAsk fBAsk fCode fRL fRR fX fWrites 0)), ((g 0), Sum.inl (cI, 8, Sum.inl vMany)), ((g 1), Sum.inl (cI, 512, Sum.inl vCounts)), ((g 3), Sum.inl (cI, 512, Sum.inl fN)), ((g 8), Sum.inl (cI, 6000, Sum.inl vIn))] := hD
        refine lv_aload_n hx hb d_M_read_35 rfl (lv_at hl 1 rfl) ?_
        refine lv_iconst (v := 0) hx hb d_M_read_36 (by decide) ?_
        refine va_put (D := (dC, dI)) (ci := 9) (v := .int 0) (ty := .boolean) (C := "RangeCodersModel") (T := T_M) (N := 35) hx hb hg in_M t_M o_M n_M hown hK hP hD hS 0 rfl rfl 22 (by decide) (hg _ k974) (fun _ h9 => h9) rfl (by decide +kernel) rfl rfl (Nat.le_of_ble_eq_true rfl) d_M_read_37 (fun H locs hP hD hS => ?_)
        have hP : va_P (dC, dI) vwCl [(o, Sum.inr (9, mO g 4 fShift fModels fItems fEnded fLow fRange fCache fPend fGoes fOuts (nI is.length) 1 0 fIR fAsk fBAsk fCode fRL fRR fX fWrites 0)), ((g 0), Sum.inl (cI, 8, Sum.inl vMany)), ((g 1), Sum.inl (cI, 512, Sum.inl vCounts)), ((g 3), Sum.inl (cI, 512, Sum.inl fN)), ((g 8), Sum.inl (cI, 6000, Sum.inl vIn))] H := hP
        have hD : va_D A [(o, Sum.inr (9, mO g 4 fShift fModels fItems fEnded fLow fRange fCache fPend fGoes fOuts (nI is.length) 1 0 fIR fAsk fBAsk fCode fRL fRR fX fWrites 0)), ((g 0), Sum.inl (cI, 8, Sum.inl vMany)), ((g 1), Sum.inl (cI, 512, Sum.inl vCounts)), ((g 3), Sum.inl (cI, 512, Sum.inl fN)), ((g 8), Sum.inl (cI, 6000, Sum.inl vIn))] := hD
        refine lv_aload_n hx hb d_M_read_40 rfl (lv_at hl 1 rfl) ?_
        refine lv_iconst (v := 0) hx hb d_M_read_41 (by decide) ?_
        refine va_put (D := (dC, dI)) (ci := 9) (v := .int 0) (ty := .int) (C := "RangeCodersModel") (T := T_M) (N := 35) hx hb hg in_M t_M o_M n_M hown hK hP hD hS 0 rfl rfl 23 (by decide) (hg _ k975) (fun _ h9 => h9) rfl (by decide +kernel) rfl rfl (Nat.le_of_ble_eq_true rfl) d_M_read_42 (fun H locs hP hD hS => ?_)
        have hP : va_P (dC, dI) vwCl [(o, Sum.inr (9, mO g 4 fShift fModels fItems fEnded fLow fRange fCache fPend fGoes fOuts (nI is.length) 1 0 0 fAsk fBAsk fCode fRL fRR fX fWrites 0)), ((g 0), Sum.inl (cI, 8, Sum.inl vMany)), ((g 1), Sum.inl (cI, 512, Sum.inl vCounts)), ((g 3), Sum.inl (cI, 512, Sum.inl fN)), ((g 8), Sum.inl (cI, 6000, Sum.inl vIn))] H := hP
        have hD : va_D A [(o, Sum.inr (9, mO g 4 fShift fModels fItems fEnded fLow fRange fCache fPend fGoes fOuts (nI is.length) 1 0 0 fAsk fBAsk fCode fRL fRR fX fWrites 0)), ((g 0), Sum.inl (cI, 8, Sum.inl vMany)), ((g 1), Sum.inl (cI, 512, Sum.inl vCounts)), ((g 3), Sum.inl (cI, 512, Sum.inl fN)), ((g 8), Sum.inl (cI, 6000, Sum.inl vIn))] := hD
        refine lv_aload_n hx hb d_M_read_45 rfl (lv_at hl 1 rfl) ?_
        refine lv_iconst (v := 0) hx hb d_M_read_46 (by decide) ?_
        refine va_put (D := (dC, dI)) (ci := 9) (v := .int 0) (ty := .int) (C := "RangeCodersModel") (T := T_M) (N := 35) hx hb hg in_M t_M o_M n_M hown hK hP hD hS 0 rfl rfl 24 (by decide) (hg _ k976) (fun _ h9 => h9) rfl (by decide +kernel) rfl rfl (Nat.le_of_ble_eq_true rfl) d_M_read_47 (fun H locs hP hD hS => ?_)
        have hP : va_P (dC, dI) vwCl [(o, Sum.inr (9, mO g 4 fShift fModels fItems fEnded fLow fRange fCache fPend fGoes fOuts (nI is.length) 1 0 0 0 fBAsk fCode fRL fRR fX fWrites 0)), ((g 0), Sum.inl (cI, 8, Sum.inl vMany)), ((g 1), Sum.inl (cI, 512, Sum.inl vCounts)), ((g 3), Sum.inl (cI, 512, Sum.inl fN)), ((g 8), Sum.inl (cI, 6000, Sum.inl vIn))] H := hP
        have hD : va_D A [(o, Sum.inr (9, mO g 4 fShift fModels fItems fEnded fLow fRange fCache fPend fGoes fOuts (nI is.length) 1 0 0 0 fBAsk fCode fRL fRR fX fWrites 0)), ((g 0), Sum.inl (cI, 8, Sum.inl vMany)), ((g 1), Sum.inl (cI, 512, Sum.inl vCounts)), ((g 3), Sum.inl (cI, 512, Sum.inl fN)), ((g 8), Sum.inl (cI, 6000, Sum.inl vIn))] := hD
        refine lv_aload_n hx hb d_M_read_50 rfl (lv_at hl 1 rfl) ?_
        refine lv_iconst (v := 0) hx hb d_M_read_51 (by decide) ?_
        refine va_put (D := (dC, dI)) (ci := 9) (v := .int 0) (ty := .int) (C := "RangeCodersModel") (T := T_M) (N := 35) hx hb hg in_M t_M o_M n_M hown hK hP hD hS 0 rfl rfl 25 (by decide) (hg _ k977) (fun _ h9 => h9) rfl (by decide +kernel) rfl rfl (Nat.le_of_ble_eq_true rfl) d_M_read_52 (fun H locs hP hD hS => ?_)
        have hP : va_P (dC, dI) vwCl [(o, Sum.inr (9, mO g 4 fShift fModels fItems fEnded fLow fRange fCache fPend fGoes fOuts (nI is.length) 1 0 0 0 0 fCode fRL fRR fX fWrites 0)), ((g 0), Sum.inl (cI, 8, Sum.inl vMany)), ((g 1), Sum.inl (cI, 512, Sum.inl vCounts)), ((g 3), Sum.inl (cI, 512, Sum.inl fN)), ((g 8), Sum.inl (cI, 6000, Sum.inl vIn))] H := hP
        have hD : va_D A [(o, Sum.inr (9, mO g 4 fShift fModels fItems fEnded fLow fRange fCache fPend fGoes fOuts (nI is.length) 1 0 0 0 0 fCode fRL fRR fX fWrites 0)), ((g 0), Sum.inl (cI, 8, Sum.inl vMany)), ((g 1), Sum.inl (cI, 512, Sum.inl vCounts)), ((g 3), Sum.inl (cI, 512, Sum.inl fN)), ((g 8), Sum.inl (cI, 6000, Sum.inl vIn))] := hD
        refine lv_aload_n hx hb d_M_read_55 rfl (lv_at hl 1 rfl) ?_
        refine lv_lconst (v := 0) hx hb d_M_read_56 (by decide) ?_
        refine va_put (D := (dC, dI)) (ci := 9) (v := .long 0) (ty := .long) (C := "RangeCodersModel") (T := T_M) (N := 35) hx hb hg in_M t_M o_M n_M hown hK hP hD hS 0 rfl rfl 26 (by decide) (hg _ k978) (fun _ h9 => h9) rfl (by decide +kernel) rfl rfl (Nat.le_of_ble_eq_true rfl) d_M_read_57 (fun H locs hP hD hS => ?_)
        have hP : va_P (dC, dI) vwCl [(o, Sum.inr (9, mO g 4 fShift fModels fItems fEnded fLow fRange fCache fPend fGoes fOuts (nI is.length) 1 0 0 0 0 0 fRL fRR fX fWrites 0)), ((g 0), Sum.inl (cI, 8, Sum.inl vMany)), ((g 1), Sum.inl (cI, 512, Sum.inl vCounts)), ((g 3), Sum.inl (cI, 512, Sum.inl fN)), ((g 8), Sum.inl (cI, 6000, Sum.inl vIn))] H := hP
        have hD : va_D A [(o, Sum.inr (9, mO g 4 fShift fModels fItems fEnded fLow fRange fCache fPend fGoes fOuts (nI is.length) 1 0 0 0 0 0 fRL fRR fX fWrites 0)), ((g 0), Sum.inl (cI, 8, Sum.inl vMany)), ((g 1), Sum.inl (cI, 512, Sum.inl vCounts)), ((g 3), Sum.inl (cI, 512, Sum.inl fN)), ((g 8), Sum.inl (cI, 6000, Sum.inl vIn))] := hD
        refine lv_aload_n hx hb d_M_read_60 rfl (lv_at hl 1 rfl) ?_
        refine lv_lconst (v := 0) hx hb d_M_read_61 (by decide) ?_
        refine va_put (D := (dC, dI)) (ci := 9) (v := .long 0) (ty := .long) (C := "RangeCodersModel") (T := T_M) (N := 35) hx hb hg in_M t_M o_M n_M hown hK hP hD hS 0 rfl rfl 27 (by decide) (hg _ k979) (fun _ h9 => h9) rfl (by decide +kernel) rfl rfl (Nat.le_of_ble_eq_true rfl) d_M_read_62 (fun H locs hP hD hS => ?_)
        have hP : va_P (dC, dI) vwCl [(o, Sum.inr (9, mO g 4 fShift fModels fItems fEnded fLow fRange fCache fPend fGoes fOuts (nI is.length) 1 0 0 0 0 0 0 fRR fX fWrites 0)), ((g 0), Sum.inl (cI, 8, Sum.inl vMany)), ((g 1), Sum.inl (cI, 512, Sum.inl vCounts)), ((g 3), Sum.inl (cI, 512, Sum.inl fN)), ((g 8), Sum.inl (cI, 6000, Sum.inl vIn))] H := hP
        have hD : va_D A [(o, Sum.inr (9, mO g 4 fShift fModels fItems fEnded fLow fRange fCache fPend fGoes fOuts (nI is.length) 1 0 0 0 0 0 0 fRR fX fWrites 0)), ((g 0), Sum.inl (cI, 8, Sum.inl vMany)), ((g 1), Sum.inl (cI, 512, Sum.inl vCounts)), ((g 3), Sum.inl (cI, 512, Sum.inl fN)), ((g 8), Sum.inl (cI, 6000, Sum.inl vIn))] := hD
        refine lv_aload_n hx hb d_M_read_65 rfl (lv_at hl 1 rfl) ?_
        refine lv_ldc2 (v := 4294967295) hx hb hown (hg _ k927) d_M_read_66 ?_
        refine va_put (D := (dC, dI)) (ci := 9) (v := .long 4294967295) (ty := .long) (C := "RangeCodersModel") (T := T_M) (N := 35) hx hb hg in_M t_M o_M n_M hown hK hP hD hS 0 rfl rfl 28 (by decide) (hg _ k980) (fun _ h9 => h9) rfl (by decide +kernel) rfl rfl (Nat.le_of_ble_eq_true rfl) d_M_read_69 (fun H locs hP hD hS => ?_)
        have hP : va_P (dC, dI) vwCl [(o, Sum.inr (9, mO g 4 fShift fModels fItems fEnded fLow fRange fCache fPend fGoes fOuts (nI is.length) 1 0 0 0 0 0 0 4294967295 fX fWrites 0)), ((g 0), Sum.inl (cI, 8, Sum.inl vMany)), ((g 1), Sum.inl (cI, 512, Sum.inl vCounts)), ((g 3), Sum.inl (cI, 512, Sum.inl fN)), ((g 8), Sum.inl (cI, 6000, Sum.inl vIn))] H := hP
        have hD : va_D A [(o, Sum.inr (9, mO g 4 fShift fModels fItems fEnded fLow fRange fCache fPend fGoes fOuts (nI is.length) 1 0 0 0 0 0 0 4294967295 fX fWrites 0)), ((g 0), Sum.inl (cI, 8, Sum.inl vMany)), ((g 1), Sum.inl (cI, 512, Sum.inl vCounts)), ((g 3), Sum.inl (cI, 512, Sum.inl fN)), ((g 8), Sum.inl (cI, 6000, Sum.inl vIn))] := hD
        refine lv_aload_n hx hb d_M_read_72 rfl (lv_at hl 1 rfl) ?_
        refine lv_lconst (v := 0) hx hb d_M_read_73 (by decide) ?_
        refine va_put (D := (dC, dI)) (ci := 9) (v := .long 0) (ty := .long) (C := "RangeCodersModel") (T := T_M) (N := 35) hx hb hg in_M t_M o_M n_M hown hK hP hD hS 0 rfl rfl 29 (by decide) (hg _ k981) (fun _ h9 => h9) rfl (by decide +kernel) rfl rfl (Nat.le_of_ble_eq_true rfl) d_M_read_74 (fun H locs hP hD hS => ?_)
        have hP : va_P (dC, dI) vwCl [(o, Sum.inr (9, mO g 4 fShift fModels fItems fEnded fLow fRange fCache fPend fGoes fOuts (nI is.length) 1 0 0 0 0 0 0 4294967295 0 fWrites 0)), ((g 0), Sum.inl (cI, 8, Sum.inl vMany)), ((g 1), Sum.inl (cI, 512, Sum.inl vCounts)), ((g 3), Sum.inl (cI, 512, Sum.inl fN)), ((g 8), Sum.inl (cI, 6000, Sum.inl vIn))] H := hP
        have hD : va_D A [(o, Sum.inr (9, mO g 4 fShift fModels fItems fEnded fLow fRange fCache fPend fGoes fOuts (nI is.length) 1 0 0 0 0 0 0 4294967295 0 fWrites 0)), ((g 0), Sum.inl (cI, 8, Sum.inl vMany)), ((g 1), Sum.inl (cI, 512, Sum.inl vCounts)), ((g 3), Sum.inl (cI, 512, Sum.inl fN)), ((g 8), Sum.inl (cI, 6000, Sum.inl vIn))] := hD
        refine lv_aload_n hx hb d_M_read_77 rfl (lv_at hl 1 rfl) ?_
        refine va_get (D := (dC, dI)) (ci := 9) (v := .int 4) (C := "RangeCodersModel") (T := T_M) (N := 35) hx hb hg in_M hown hK hP 0 rfl rfl 0 (by decide) (hg _ k952) (fun _ h9 => h9) rfl d_M_read_78 ?_
        refine lv_iconst (v := 3) hx hb d_M_read_81 (by decide) ?_
        refine lv_icmp_ge (tgt := 96) hx hb d_M_read_82 (by decide) (fun c_2 => ?_) (fun c_2 => ?_)
        · refine lv_aload_n hx hb d_M_read_96 rfl (lv_at hl 1 rfl) ?_
          refine va_get (D := (dC, dI)) (ci := 9) (v := .int 4) (C := "RangeCodersModel") (T := T_M) (N := 35) hx hb hg in_M hown hK hP 0 rfl rfl 0 (by decide) (hg _ k952) (fun _ h9 => h9) rfl d_M_read_97 ?_
          refine lv_iconst (v := 3) hx hb d_M_read_100 (by decide) ?_
          refine lv_icmp_ne (tgt := 135) hx hb d_M_read_101 (by decide) (fun c_3 => ?_) (fun c_3 => ?_)
          · refine lv_aload_n hx hb d_M_read_135 rfl (lv_at hl 1 rfl) ?_
            refine lv_lconst (v := 1) hx hb d_M_read_136 (by decide) ?_
            refine va_put (D := (dC, dI)) (ci := 9) (v := .long 1) (ty := .long) (C := "RangeCodersModel") (T := T_M) (N := 35) hx hb hg in_M t_M o_M n_M hown hK hP hD hS 0 rfl rfl 29 (by decide) (hg _ k981) (fun _ h9 => h9) rfl (by decide +kernel) rfl rfl (Nat.le_of_ble_eq_true rfl) d_M_read_137 (fun H locs hP hD hS => ?_)
            have hP : va_P (dC, dI) vwCl [(o, Sum.inr (9, mO g 4 fShift fModels fItems fEnded fLow fRange fCache fPend fGoes fOuts (nI is.length) 1 0 0 0 0 0 0 4294967295 1 fWrites 0)), ((g 0), Sum.inl (cI, 8, Sum.inl vMany)), ((g 1), Sum.inl (cI, 512, Sum.inl vCounts)), ((g 3), Sum.inl (cI, 512, Sum.inl fN)), ((g 8), Sum.inl (cI, 6000, Sum.inl vIn))] H := hP
            have hD : va_D A [(o, Sum.inr (9, mO g 4 fShift fModels fItems fEnded fLow fRange fCache fPend fGoes fOuts (nI is.length) 1 0 0 0 0 0 0 4294967295 1 fWrites 0)), ((g 0), Sum.inl (cI, 8, Sum.inl vMany)), ((g 1), Sum.inl (cI, 512, Sum.inl vCounts)), ((g 3), Sum.inl (cI, 512, Sum.inl fN)), ((g 8), Sum.inl (cI, 6000, Sum.inl vIn))] := hD
            refine lv_iconst (v := 0) hx hb d_M_read_140 (by decide) ?_
            refine lv_istore_n (lv' := [(1, Value.int 0), (0, Value.ref o)]) hx hb d_M_read_141 rfl hl (by decide) rfl (fun ls hl => ?_)
            have J_142 : ∀ (n9_142 : Nat) (kk : Nat) (X9 : Nat) (hn9_142 : 9 - kk = n9_142) (hkk : kk ≤ 9) (hX0 : 2 ^ kk ≤ X9) (hX1 : X9 < 2 ^ (kk + 1)) (H : Heap) (locs : List Loc) (ls : Array Slot), va_P (dC, dI) vwCl [(o, Sum.inr (9, mO g 4 fShift fModels fItems fEnded fLow fRange fCache fPend fGoes fOuts (nI is.length) 1 0 0 (nI ((kk + 7) / 8)) (nI kk) 0 0 4294967295 (lN X9) fWrites 0)), ((g 0), Sum.inl (cI, 8, Sum.inl vMany)), ((g 1), Sum.inl (cI, 512, Sum.inl vCounts)), ((g 3), Sum.inl (cI, 512, Sum.inl fN)), ((g 8), Sum.inl (cI, 6000, Sum.inl vIn))] H → va_D A [(o, Sum.inr (9, mO g 4 fShift fModels fItems fEnded fLow fRange fCache fPend fGoes fOuts (nI is.length) 1 0 0 (nI ((kk + 7) / 8)) (nI kk) 0 0 4294967295 (lN X9) fWrites 0)), ((g 0), Sum.inl (cI, 8, Sum.inl vMany)), ((g 1), Sum.inl (cI, 512, Sum.inl vCounts)), ((g 3), Sum.inl (cI, 512, Sum.inl fN)), ((g 8), Sum.inl (cI, 6000, Sum.inl vIn))] → va_S A s.heap H locs → lv_has ls 2 [(1, Value.int (nI kk)), (0, Value.ref o)] → W p l e R s m args below meth c H locs 0 0 Q (F0 m 142 ls []) := by
              intro n9_142
              induction n9_142 using Nat.strongRecOn with
              | ind n9_142 ih9_142 =>
                intro kk X9 hn9_142 hkk hX0 hX1 H locs ls hP hD hS hl
                refine lv_iload_n hx hb d_M_read_142 rfl (lv_at hl 0 rfl) ?_
                refine lv_bipush (v := 9) hx hb d_M_read_143 (by decide) ?_
                refine lv_icmp_ge (tgt := 172) hx hb d_M_read_145 (by decide) (fun c_4 => ?_) (fun c_4 => ?_)
                · have hk9 : kk = 9 := by have := (nI_cmp (a := 9) (b := kk) (by decide) (by omega)).mp c_4; omega
                  subst hk9
                  refine lv_aload_n hx hb d_M_read_172 rfl (lv_at hl 1 rfl) ?_
                  refine va_get (D := (dC, dI)) (ci := 9) (v := .int (nI is.length)) (C := "RangeCodersModel") (T := T_M) (N := 35) hx hb hg in_M hown hK hP 0 rfl rfl 20 (by decide) (hg _ k972) (fun _ h9 => h9) rfl d_M_read_173 ?_
                  exact my_iret (v := (nI is.length)) hx hb hr (rfl) hlocks hQ hK hS (Nat.le_refl _) (Nat.le_refl _) ((1 : Int32), (0 : Int32), (0 : Int32), nI ((9 + 7) / 8), nI 9, (0 : Int64), (0 : Int64), (4294967295 : Int64), lN X9, (0 : Int32), fN) (⟨hT9, fun _ _ => ⟨X9, 9, rfl, rfl, rfl, hX0, hX1, by omega⟩, rfl, rfl⟩) (hP.sub [0, 1, 2, 3, 4] rfl) (hD.sub [0, 1, 2, 3, 4] (by decide +kernel) rfl) d_M_read_176
                · have hkl : kk < 9 := by
                    rcases Nat.lt_or_ge kk 9 with z | z
                    · exact z
                    · exact absurd (nI_le (a := 9) z (by omega)) c_4
                  have hX5 : X9 < 1024 := Nat.lt_of_lt_of_le hX1 (Nat.le_trans (Nat.pow_le_pow_right (by decide) (show kk + 1 ≤ 10 by omega)) (by decide))
                  have hbi := biA_lt is kk
                  refine lv_aload_n hx hb d_M_read_148 rfl (lv_at hl 1 rfl) ?_
                  refine lv_ldc2 (v := 2) hx hb hown (hg _ k1169) d_M_read_149 ?_
                  refine lv_aload_n hx hb d_M_read_152 rfl (lv_at hl 1 rfl) ?_
                  refine va_get (D := (dC, dI)) (ci := 9) (v := .long (lN X9)) (C := "RangeCodersModel") (T := T_M) (N := 35) hx hb hg in_M hown hK hP 0 rfl rfl 29 (by decide) (hg _ k981) (fun _ h9 => h9) rfl d_M_read_153 ?_
                  refine lv_lmul hx hb d_M_read_156 ?_
                  refine lv_topl (fun v_5 ev_5 => ?_)
                  have z9 : v_5 = lN (2 * X9) := by rw [ev_5]; exact lN_mul 2 X9
                  subst z9
                  refine lv_aload_n hx hb d_M_read_157 rfl (lv_at hl 1 rfl) ?_
                  refine my_ci (wr := [((g 0), Sum.inl (cI, 8, Sum.inl vMany)), ((g 1), Sum.inl (cI, 512, Sum.inl vCounts)), ((g 3), Sum.inl (cI, 512, Sum.inl fN))]) (va_runV (As := []) (rest := [Value.long (lN (2 * X9)), Value.ref o]) ⟨hx, hb, hml, hown, hts⟩ (c_M_nextBit l dC dI cI cM cO H.size o g 4 fShift fModels fItems fEnded fLow fRange fCache fPend fGoes fOuts 1 0 0 0 0 4294967295 (lN X9) fWrites 0 vIn is kk (nI ((kk + 7) / 8)) (hIn) (hlen) (hoct) (by omega)) (cwV 0 hts (my_gV k1198 k1200 ks46 k12 k1201) rfl rfl rfl (by decide +kernel) ⟨by rw [hR]; exact Nat.le_of_ble_eq_true rfl, by rw [hR]; exact Nat.le_of_ble_eq_true rfl⟩) (my_preV hK hN (hP.sub [0, 4] rfl) (hD.sub [0, 4] (by decide +kernel) rfl) 0 rfl rfl) rfl rfl hl.1 rfl (lv_room (Nat.le_of_ble_eq_true rfl)) d_M_read_158 ⟨by rw [hR]; exact Nat.le_of_ble_eq_true rfl, by rw [hR]; exact Nat.le_of_ble_eq_true rfl⟩) hP hD hS hA [0, 4] [1, 2, 3] rfl rfl (by decide +kernel) (by decide +kernel) (fun r_158 u9 H locs hw_158 hP hD hS => ?_)
                  have hw_158 : r_158 = nI (biA is kk) := hw_158
                  have hP : va_P (dC, dI) vwCl [((g 0), Sum.inl (cI, 8, Sum.inl vMany)), ((g 1), Sum.inl (cI, 512, Sum.inl vCounts)), ((g 3), Sum.inl (cI, 512, Sum.inl fN)), (o, Sum.inr (9, mO g 4 fShift fModels fItems fEnded fLow fRange fCache fPend fGoes fOuts (nI is.length) 1 0 0 (nI ((kk + 8) / 8)) (nI (kk + 1)) 0 0 4294967295 (lN X9) fWrites 0)), ((g 8), Sum.inl (cI, 6000, Sum.inl vIn))] H := hP
                  have hD : va_D A [((g 0), Sum.inl (cI, 8, Sum.inl vMany)), ((g 1), Sum.inl (cI, 512, Sum.inl vCounts)), ((g 3), Sum.inl (cI, 512, Sum.inl fN)), (o, Sum.inr (9, mO g 4 fShift fModels fItems fEnded fLow fRange fCache fPend fGoes fOuts (nI is.length) 1 0 0 (nI ((kk + 8) / 8)) (nI (kk + 1)) 0 0 4294967295 (lN X9) fWrites 0)), ((g 8), Sum.inl (cI, 6000, Sum.inl vIn))] := hD
                  refine lv_i2l hx hb d_M_read_161 rfl ?_
                  refine lv_topl (fun v_6 ev_6 => ?_)
                  have z9 : v_6 = lN (biA is kk) := by rw [ev_6, hw_158]; exact nI_l (by omega)
                  subst z9
                  refine lv_ladd hx hb d_M_read_162 ?_
                  refine lv_topl (fun v_7 ev_7 => ?_)
                  have z9 : v_7 = lN (2 * X9 + biA is kk) := by rw [ev_7]; exact lN_add _ _
                  subst z9
                  refine va_put (D := (dC, dI)) (ci := 9) (v := .long (lN (2 * X9 + biA is kk))) (ty := .long) (C := "RangeCodersModel") (T := T_M) (N := 35) hx hb hg in_M t_M o_M n_M hown hK hP hD hS 3 rfl rfl 29 (by decide) (hg _ k981) (fun _ h9 => h9) rfl (by decide +kernel) rfl rfl (Nat.le_of_ble_eq_true rfl) d_M_read_163 (fun H locs hP hD hS => ?_)
                  have hP : va_P (dC, dI) vwCl [((g 0), Sum.inl (cI, 8, Sum.inl vMany)), ((g 1), Sum.inl (cI, 512, Sum.inl vCounts)), ((g 3), Sum.inl (cI, 512, Sum.inl fN)), (o, Sum.inr (9, mO g 4 fShift fModels fItems fEnded fLow fRange fCache fPend fGoes fOuts (nI is.length) 1 0 0 (nI ((kk + 8) / 8)) (nI (kk + 1)) 0 0 4294967295 (lN (2 * X9 + biA is kk)) fWrites 0)), ((g 8), Sum.inl (cI, 6000, Sum.inl vIn))] H := hP
                  have hD : va_D A [((g 0), Sum.inl (cI, 8, Sum.inl vMany)), ((g 1), Sum.inl (cI, 512, Sum.inl vCounts)), ((g 3), Sum.inl (cI, 512, Sum.inl fN)), (o, Sum.inr (9, mO g 4 fShift fModels fItems fEnded fLow fRange fCache fPend fGoes fOuts (nI is.length) 1 0 0 (nI ((kk + 8) / 8)) (nI (kk + 1)) 0 0 4294967295 (lN (2 * X9 + biA is kk)) fWrites 0)), ((g 8), Sum.inl (cI, 6000, Sum.inl vIn))] := hD
                  obtain ⟨v_8, ev_8⟩ : ∃ y : Int32, y = (nI kk) + (1) := ⟨_, rfl⟩
                  refine lv_iinc (v := v_8) (lv' := [(1, Value.int v_8), (0, Value.ref o)]) hx hb d_M_read_166 hl (k := 0) rfl (by rw [ev_8]; rfl) (by decide) rfl (fun ls hl => ?_)
                  have z9 : v_8 = nI (kk + 1) := by rw [ev_8]; exact nI_1 _
                  subst z9
                  refine lv_goto (tgt := 142) hx hb d_M_read_169 (by decide) ?_
                  exact ih9_142 _ (by first | omega | (omega)) (kk + 1) (2 * X9 + biA is kk) rfl (by omega) (by rw [Nat.pow_succ]; omega) (by have := biA_lt is kk; rw [Nat.pow_succ]; omega) H locs ls (hP.sub [3, 0, 1, 2, 4] rfl) (hD.sub [3, 0, 1, 2, 4] (by decide +kernel) rfl) hS (lv_sub hl [0, 1] rfl)
            exact J_142 _ (0 : Nat) (1 : Nat) rfl (by decide) (by decide) (by decide) H locs ls (hP.sub [0, 1, 2, 3, 4] rfl) (hD.sub [0, 1, 2, 3, 4] (by decide +kernel) rfl) hS (lv_sub hl [0, 1] rfl)
          · exact absurd c_3 (by decide)
        · exact absurd (by decide) c_2
      · have hjl : jj < km := by
          rcases Nat.lt_or_ge jj km with z | z
          · exact z
          · exact absurd (by rw [hmod]; exact nI_le z (by have := hMD.1; omega)) c_1
        have hk8 := hMD.1
        obtain ⟨hn9, hn2, hn64, C9, hc9, hB9⟩ := hMD.2 jj hjl
        refine lv_aload_n hx hb d_M_read_15 rfl (lv_at hl 1 rfl) ?_
        refine lv_aload_n hx hb d_M_read_16 rfl (lv_at hl 1 rfl) ?_
        refine va_get (D := (dC, dI)) (ci := 9) (v := .ref (g 3)) (C := "RangeCodersModel") (T := T_M) (N := 35) hx hb hg in_M hown hK hP 0 rfl rfl 6 (by decide) (hg _ k958) (fun _ h9 => h9) rfl d_M_read_17 ?_
        refine lv_iload_n hx hb d_M_read_20 rfl (lv_at hl 0 rfl) ?_
        refine my_cv (wr := [((g 8), Sum.inl (cI, 6000, Sum.inl vIn))]) (va_runV (As := [Value.ref (g 3), Value.int (nI jj)]) (rest := []) ⟨hx, hb, hml, hown, hts⟩ (c_M_prepare l dC dI cI cM cO H.size o g 4 fShift fModels fItems fEnded fLow fRange fCache fPend fGoes fOuts (nI is.length) fReads fBad fIR fAsk fBAsk fCode fRL fRR fX fWrites 0 vMany vCounts (g 3) fN jj (N jj) 4 C9 (by omega) (hn9) (hn64) (by omega) (by decide) (by rfl) (hc9) (hB9)) (cwV 2 hts (my_gV k928 k930 ks19 k12 k931) rfl rfl rfl (by decide +kernel) ⟨by rw [hR]; exact Nat.le_of_ble_eq_true rfl, by rw [hR]; exact Nat.le_of_ble_eq_true rfl⟩) (my_preV hK hN (hP.sub [0, 1, 2, 3] rfl) (hD.sub [0, 1, 2, 3] (by decide +kernel) rfl) 0 rfl rfl) rfl rfl hl.1 rfl (lv_room (Nat.le_of_ble_eq_true rfl)) d_M_read_21 ⟨by rw [hR]; exact Nat.le_of_ble_eq_true rfl, by rw [hR]; exact Nat.le_of_ble_eq_true rfl⟩) hP hD hS hA [0, 1, 2, 3] [4] rfl rfl (by decide +kernel) (by decide +kernel) (fun u9 H locs hw_21 hP hD hS => ?_)
        obtain ⟨f2_21, rfl⟩ : ∃ z, z = u9 := ⟨_, rfl⟩
        have hw_21 : sgI f2_21 (64 * jj) (pfN 4 (N jj)) (pf 4 (N jj) C9) ∧ sgO f2_21 fN (64 * jj) 64 := hw_21
        have hP : va_P (dC, dI) vwCl [((g 8), Sum.inl (cI, 6000, Sum.inl vIn)), (o, Sum.inr (9, mO g 4 fShift fModels fItems fEnded fLow fRange fCache fPend fGoes fOuts (nI is.length) fReads fBad fIR fAsk fBAsk fCode fRL fRR fX fWrites 0)), ((g 0), Sum.inl (cI, 8, Sum.inl vMany)), ((g 1), Sum.inl (cI, 512, Sum.inl vCounts)), ((g 3), Sum.inl (cI, 512, Sum.inl f2_21))] H := hP
        have hD : va_D A [((g 8), Sum.inl (cI, 6000, Sum.inl vIn)), (o, Sum.inr (9, mO g 4 fShift fModels fItems fEnded fLow fRange fCache fPend fGoes fOuts (nI is.length) fReads fBad fIR fAsk fBAsk fCode fRL fRR fX fWrites 0)), ((g 0), Sum.inl (cI, 8, Sum.inl vMany)), ((g 1), Sum.inl (cI, 512, Sum.inl vCounts)), ((g 3), Sum.inl (cI, 512, Sum.inl f2_21))] := hD
        have hT8 := TB_step hT9 (MD_N hMD) hjl hw_21.2 (tab_pf hfm hn64 (by omega) hB9 hw_21.1)
        obtain ⟨v_9, ev_9⟩ : ∃ y : Int32, y = (nI jj) + (1) := ⟨_, rfl⟩
        refine lv_iinc (v := v_9) (lv' := [(1, Value.int v_9), (0, Value.ref o)]) hx hb d_M_read_24 hl (k := 0) rfl (by rw [ev_9]; rfl) (by decide) rfl (fun ls hl => ?_)
        have z9 : v_9 = nI (jj + 1) := by rw [ev_9]; exact nI_1 _
        subst z9
        refine lv_goto (tgt := 7) hx hb d_M_read_27 (by decide) ?_
        exact ih9_7 _ (by first | omega | (omega)) (jj + 1) f2_21 rfl (by omega) (hT8) H locs ls (hP.sub [1, 2, 3, 4, 0] rfl) (hD.sub [1, 2, 3, 4, 0] (by decide +kernel) rfl) hS (lv_sub hl [0, 1] rfl)
  exact J_7 _ (0 : Nat) vThen rfl (Nat.zero_le _) (TB_0 _ _ _) H locs ls (hP.sub [0, 1, 2, 3, 4] rfl) (hD.sub [0, 1, 2, 3, 4] (by decide +kernel) rfl) hS (lv_sub hl [0, 1] rfl)
end
section
theorem d_Law_law_0 : decode code 0 = .ok (.new 7, 3) := by decide +kernel
theorem d_Law_law_3 : decode code 3 = .ok (.dup, 1) := by decide +kernel
theorem d_Law_law_4 : decode code 4 = .ok (.aload_n 0, 1) := by decide +kernel
theorem d_Law_law_5 : decode code 5 = .ok (.iconst 0, 1) := by decide +kernel
theorem d_Law_law_6 : decode code 6 = .ok (.invokestatic 9, 3) := by decide +kernel
theorem d_Law_law_9 : decode code 9 = .ok (.aload_n 0, 1) := by decide +kernel
theorem d_Law_law_10 : decode code 10 = .ok (.iconst 1, 1) := by decide +kernel
theorem d_Law_law_11 : decode code 11 = .ok (.invokestatic 9, 3) := by decide +kernel
theorem d_Law_law_14 : decode code 14 = .ok (.invokespecial 15, 3) := by decide +kernel
theorem d_Law_law_17 : decode code 17 = .ok (.astore_n 1, 1) := by decide +kernel
theorem d_Law_law_18 : decode code 18 = .ok (.new 18, 3) := by decide +kernel
theorem d_Law_law_21 : decode code 21 = .ok (.dup, 1) := by decide +kernel
theorem d_Law_law_22 : decode code 22 = .ok (.aload_n 0, 1) := by decide +kernel
theorem d_Law_law_23 : decode code 23 = .ok (.iconst 0, 1) := by decide +kernel
theorem d_Law_law_24 : decode code 24 = .ok (.invokestatic 9, 3) := by decide +kernel
theorem d_Law_law_27 : decode code 27 = .ok (.aload_n 0, 1) := by decide +kernel
theorem d_Law_law_28 : decode code 28 = .ok (.iconst 1, 1) := by decide +kernel
theorem d_Law_law_29 : decode code 29 = .ok (.invokestatic 9, 3) := by decide +kernel
theorem d_Law_law_32 : decode code 32 = .ok (.invokespecial 20, 3) := by decide +kernel
theorem d_Law_law_35 : decode code 35 = .ok (.astore_n 2, 1) := by decide +kernel
theorem d_Law_law_36 : decode code 36 = .ok (.iconst 2, 1) := by decide +kernel
theorem d_Law_law_37 : decode code 37 = .ok (.istore_n 3, 1) := by decide +kernel
theorem d_Law_law_38 : decode code 38 = .ok (.iload_n 3, 1) := by decide +kernel
theorem d_Law_law_39 : decode code 39 = .ok (.aload_n 0, 1) := by decide +kernel
theorem d_Law_law_40 : decode code 40 = .ok (.arraylength, 1) := by decide +kernel
theorem d_Law_law_41 : decode code 41 = .ok (.iconst 4, 1) := by decide +kernel
theorem d_Law_law_42 : decode code 42 = .ok (.isub, 1) := by decide +kernel
theorem d_Law_law_43 : decode code 43 = .ok (.if_icmp .gt 493, 3) := by decide +kernel
theorem d_Law_law_46 : decode code 46 = .ok (.aload_n 0, 1) := by decide +kernel
theorem d_Law_law_47 : decode code 47 = .ok (.iload_n 3, 1) := by decide +kernel
theorem d_Law_law_48 : decode code 48 = .ok (.iaload, 1) := by decide +kernel
theorem d_Law_law_49 : decode code 49 = .ok (.bipush 15, 2) := by decide +kernel
theorem d_Law_law_51 : decode code 51 = .ok (.iand, 1) := by decide +kernel
theorem d_Law_law_52 : decode code 52 = .ok (.tableswitch 478 0 15 #[80, 103, 146, 179, 212, 225, 238, 261, 284, 307, 340, 353, 376, 399, 422, 445], 80) := by decide +kernel
theorem d_Law_law_132 : decode code 132 = .ok (.aload_n 1, 1) := by decide +kernel
theorem d_Law_law_133 : decode code 133 = .ok (.aload_n 0, 1) := by decide +kernel
theorem d_Law_law_134 : decode code 134 = .ok (.iload_n 3, 1) := by decide +kernel
theorem d_Law_law_135 : decode code 135 = .ok (.iconst 1, 1) := by decide +kernel
theorem d_Law_law_136 : decode code 136 = .ok (.iadd, 1) := by decide +kernel
theorem d_Law_law_137 : decode code 137 = .ok (.iaload, 1) := by decide +kernel
theorem d_Law_law_138 : decode code 138 = .ok (.invokevirtual 21, 3) := by decide +kernel
theorem d_Law_law_141 : decode code 141 = .ok (.pop, 1) := by decide +kernel
theorem d_Law_law_142 : decode code 142 = .ok (.aload_n 2, 1) := by decide +kernel
theorem d_Law_law_143 : decode code 143 = .ok (.aload_n 0, 1) := by decide +kernel
theorem d_Law_law_144 : decode code 144 = .ok (.iload_n 3, 1) := by decide +kernel
theorem d_Law_law_145 : decode code 145 = .ok (.iconst 1, 1) := by decide +kernel
theorem d_Law_law_146 : decode code 146 = .ok (.iadd, 1) := by decide +kernel
theorem d_Law_law_147 : decode code 147 = .ok (.iaload, 1) := by decide +kernel
theorem d_Law_law_148 : decode code 148 = .ok (.invokevirtual 25, 3) := by decide +kernel
theorem d_Law_law_151 : decode code 151 = .ok (.pop, 1) := by decide +kernel
theorem d_Law_law_152 : decode code 152 = .ok (.goto 378, 3) := by decide +kernel
theorem d_Law_law_155 : decode code 155 = .ok (.aload_n 1, 1) := by decide +kernel
theorem d_Law_law_156 : decode code 156 = .ok (.aload_n 0, 1) := by decide +kernel
theorem d_Law_law_157 : decode code 157 = .ok (.iload_n 3, 1) := by decide +kernel
theorem d_Law_law_158 : decode code 158 = .ok (.iconst 1, 1) := by decide +kernel
theorem d_Law_law_159 : decode code 159 = .ok (.iadd, 1) := by decide +kernel
theorem d_Law_law_160 : decode code 160 = .ok (.iaload, 1) := by decide +kernel
theorem d_Law_law_161 : decode code 161 = .ok (.aload_n 0, 1) := by decide +kernel
theorem d_Law_law_162 : decode code 162 = .ok (.iload_n 3, 1) := by decide +kernel
theorem d_Law_law_163 : decode code 163 = .ok (.iconst 2, 1) := by decide +kernel
theorem d_Law_law_164 : decode code 164 = .ok (.iadd, 1) := by decide +kernel
theorem d_Law_law_165 : decode code 165 = .ok (.iaload, 1) := by decide +kernel
theorem d_Law_law_166 : decode code 166 = .ok (.aload_n 0, 1) := by decide +kernel
theorem d_Law_law_167 : decode code 167 = .ok (.iload_n 3, 1) := by decide +kernel
theorem d_Law_law_168 : decode code 168 = .ok (.iconst 3, 1) := by decide +kernel
theorem d_Law_law_169 : decode code 169 = .ok (.iadd, 1) := by decide +kernel
theorem d_Law_law_170 : decode code 170 = .ok (.iaload, 1) := by decide +kernel
theorem d_Law_law_171 : decode code 171 = .ok (.invokevirtual 26, 3) := by decide +kernel
theorem d_Law_law_174 : decode code 174 = .ok (.pop, 1) := by decide +kernel
theorem d_Law_law_175 : decode code 175 = .ok (.aload_n 2, 1) := by decide +kernel
theorem d_Law_law_176 : decode code 176 = .ok (.aload_n 0, 1) := by decide +kernel
theorem d_Law_law_177 : decode code 177 = .ok (.iload_n 3, 1) := by decide +kernel
theorem d_Law_law_178 : decode code 178 = .ok (.iconst 1, 1) := by decide +kernel
theorem d_Law_law_179 : decode code 179 = .ok (.iadd, 1) := by decide +kernel
theorem d_Law_law_180 : decode code 180 = .ok (.iaload, 1) := by decide +kernel
theorem d_Law_law_181 : decode code 181 = .ok (.aload_n 0, 1) := by decide +kernel
theorem d_Law_law_182 : decode code 182 = .ok (.iload_n 3, 1) := by decide +kernel
theorem d_Law_law_183 : decode code 183 = .ok (.iconst 2, 1) := by decide +kernel
theorem d_Law_law_184 : decode code 184 = .ok (.iadd, 1) := by decide +kernel
theorem d_Law_law_185 : decode code 185 = .ok (.iaload, 1) := by decide +kernel
theorem d_Law_law_186 : decode code 186 = .ok (.aload_n 0, 1) := by decide +kernel
theorem d_Law_law_187 : decode code 187 = .ok (.iload_n 3, 1) := by decide +kernel
theorem d_Law_law_188 : decode code 188 = .ok (.iconst 3, 1) := by decide +kernel
theorem d_Law_law_189 : decode code 189 = .ok (.iadd, 1) := by decide +kernel
theorem d_Law_law_190 : decode code 190 = .ok (.iaload, 1) := by decide +kernel
theorem d_Law_law_191 : decode code 191 = .ok (.invokevirtual 30, 3) := by decide +kernel
theorem d_Law_law_194 : decode code 194 = .ok (.pop, 1) := by decide +kernel
theorem d_Law_law_195 : decode code 195 = .ok (.goto 335, 3) := by decide +kernel
theorem d_Law_law_198 : decode code 198 = .ok (.aload_n 1, 1) := by decide +kernel
theorem d_Law_law_199 : decode code 199 = .ok (.aload_n 0, 1) := by decide +kernel
theorem d_Law_law_200 : decode code 200 = .ok (.iload_n 3, 1) := by decide +kernel
theorem d_Law_law_201 : decode code 201 = .ok (.iconst 1, 1) := by decide +kernel
theorem d_Law_law_202 : decode code 202 = .ok (.iadd, 1) := by decide +kernel
theorem d_Law_law_203 : decode code 203 = .ok (.iaload, 1) := by decide +kernel
theorem d_Law_law_204 : decode code 204 = .ok (.aload_n 0, 1) := by decide +kernel
theorem d_Law_law_205 : decode code 205 = .ok (.iload_n 3, 1) := by decide +kernel
theorem d_Law_law_206 : decode code 206 = .ok (.iconst 2, 1) := by decide +kernel
theorem d_Law_law_207 : decode code 207 = .ok (.iadd, 1) := by decide +kernel
theorem d_Law_law_208 : decode code 208 = .ok (.iaload, 1) := by decide +kernel
theorem d_Law_law_209 : decode code 209 = .ok (.invokevirtual 31, 3) := by decide +kernel
theorem d_Law_law_212 : decode code 212 = .ok (.pop, 1) := by decide +kernel
theorem d_Law_law_213 : decode code 213 = .ok (.aload_n 2, 1) := by decide +kernel
theorem d_Law_law_214 : decode code 214 = .ok (.aload_n 0, 1) := by decide +kernel
theorem d_Law_law_215 : decode code 215 = .ok (.iload_n 3, 1) := by decide +kernel
theorem d_Law_law_216 : decode code 216 = .ok (.iconst 1, 1) := by decide +kernel
theorem d_Law_law_217 : decode code 217 = .ok (.iadd, 1) := by decide +kernel
theorem d_Law_law_218 : decode code 218 = .ok (.iaload, 1) := by decide +kernel
theorem d_Law_law_219 : decode code 219 = .ok (.aload_n 0, 1) := by decide +kernel
theorem d_Law_law_220 : decode code 220 = .ok (.iload_n 3, 1) := by decide +kernel
theorem d_Law_law_221 : decode code 221 = .ok (.iconst 2, 1) := by decide +kernel
theorem d_Law_law_222 : decode code 222 = .ok (.iadd, 1) := by decide +kernel
theorem d_Law_law_223 : decode code 223 = .ok (.iaload, 1) := by decide +kernel
theorem d_Law_law_224 : decode code 224 = .ok (.invokevirtual 35, 3) := by decide +kernel
theorem d_Law_law_227 : decode code 227 = .ok (.pop, 1) := by decide +kernel
theorem d_Law_law_228 : decode code 228 = .ok (.goto 302, 3) := by decide +kernel
theorem d_Law_law_231 : decode code 231 = .ok (.aload_n 1, 1) := by decide +kernel
theorem d_Law_law_232 : decode code 232 = .ok (.aload_n 0, 1) := by decide +kernel
theorem d_Law_law_233 : decode code 233 = .ok (.iload_n 3, 1) := by decide +kernel
theorem d_Law_law_234 : decode code 234 = .ok (.iconst 1, 1) := by decide +kernel
theorem d_Law_law_235 : decode code 235 = .ok (.iadd, 1) := by decide +kernel
theorem d_Law_law_236 : decode code 236 = .ok (.iaload, 1) := by decide +kernel
theorem d_Law_law_237 : decode code 237 = .ok (.aload_n 0, 1) := by decide +kernel
theorem d_Law_law_238 : decode code 238 = .ok (.iload_n 3, 1) := by decide +kernel
theorem d_Law_law_239 : decode code 239 = .ok (.iconst 2, 1) := by decide +kernel
theorem d_Law_law_240 : decode code 240 = .ok (.iadd, 1) := by decide +kernel
theorem d_Law_law_241 : decode code 241 = .ok (.iaload, 1) := by decide +kernel
theorem d_Law_law_242 : decode code 242 = .ok (.invokevirtual 36, 3) := by decide +kernel
theorem d_Law_law_245 : decode code 245 = .ok (.aload_n 2, 1) := by decide +kernel
theorem d_Law_law_246 : decode code 246 = .ok (.aload_n 0, 1) := by decide +kernel
theorem d_Law_law_247 : decode code 247 = .ok (.iload_n 3, 1) := by decide +kernel
theorem d_Law_law_248 : decode code 248 = .ok (.iconst 1, 1) := by decide +kernel
theorem d_Law_law_249 : decode code 249 = .ok (.iadd, 1) := by decide +kernel
theorem d_Law_law_250 : decode code 250 = .ok (.iaload, 1) := by decide +kernel
theorem d_Law_law_251 : decode code 251 = .ok (.aload_n 0, 1) := by decide +kernel
theorem d_Law_law_252 : decode code 252 = .ok (.iload_n 3, 1) := by decide +kernel
theorem d_Law_law_253 : decode code 253 = .ok (.iconst 2, 1) := by decide +kernel
theorem d_Law_law_254 : decode code 254 = .ok (.iadd, 1) := by decide +kernel
theorem d_Law_law_255 : decode code 255 = .ok (.iaload, 1) := by decide +kernel
theorem d_Law_law_256 : decode code 256 = .ok (.invokevirtual 39, 3) := by decide +kernel
theorem d_Law_law_259 : decode code 259 = .ok (.if_icmp .eq 271, 3) := by decide +kernel
theorem d_Law_law_264 : decode code 264 = .ok (.aload_n 1, 1) := by decide +kernel
theorem d_Law_law_265 : decode code 265 = .ok (.invokevirtual 40, 3) := by decide +kernel
theorem d_Law_law_268 : decode code 268 = .ok (.pop, 1) := by decide +kernel
theorem d_Law_law_269 : decode code 269 = .ok (.aload_n 2, 1) := by decide +kernel
theorem d_Law_law_270 : decode code 270 = .ok (.invokevirtual 44, 3) := by decide +kernel
theorem d_Law_law_273 : decode code 273 = .ok (.pop, 1) := by decide +kernel
theorem d_Law_law_274 : decode code 274 = .ok (.goto 256, 3) := by decide +kernel
theorem d_Law_law_277 : decode code 277 = .ok (.aload_n 1, 1) := by decide +kernel
theorem d_Law_law_278 : decode code 278 = .ok (.invokevirtual 45, 3) := by decide +kernel
theorem d_Law_law_281 : decode code 281 = .ok (.pop, 1) := by decide +kernel
theorem d_Law_law_282 : decode code 282 = .ok (.aload_n 2, 1) := by decide +kernel
theorem d_Law_law_283 : decode code 283 = .ok (.invokevirtual 48, 3) := by decide +kernel
theorem d_Law_law_286 : decode code 286 = .ok (.pop, 1) := by decide +kernel
theorem d_Law_law_287 : decode code 287 = .ok (.goto 243, 3) := by decide +kernel
theorem d_Law_law_290 : decode code 290 = .ok (.aload_n 1, 1) := by decide +kernel
theorem d_Law_law_291 : decode code 291 = .ok (.aload_n 0, 1) := by decide +kernel
theorem d_Law_law_292 : decode code 292 = .ok (.iload_n 3, 1) := by decide +kernel
theorem d_Law_law_293 : decode code 293 = .ok (.iconst 1, 1) := by decide +kernel
theorem d_Law_law_294 : decode code 294 = .ok (.iadd, 1) := by decide +kernel
theorem d_Law_law_295 : decode code 295 = .ok (.iaload, 1) := by decide +kernel
theorem d_Law_law_296 : decode code 296 = .ok (.invokevirtual 49, 3) := by decide +kernel
theorem d_Law_law_299 : decode code 299 = .ok (.pop, 1) := by decide +kernel
theorem d_Law_law_300 : decode code 300 = .ok (.aload_n 2, 1) := by decide +kernel
theorem d_Law_law_301 : decode code 301 = .ok (.aload_n 0, 1) := by decide +kernel
theorem d_Law_law_302 : decode code 302 = .ok (.iload_n 3, 1) := by decide +kernel
theorem d_Law_law_303 : decode code 303 = .ok (.iconst 1, 1) := by decide +kernel
theorem d_Law_law_304 : decode code 304 = .ok (.iadd, 1) := by decide +kernel
theorem d_Law_law_305 : decode code 305 = .ok (.iaload, 1) := by decide +kernel
theorem d_Law_law_306 : decode code 306 = .ok (.invokevirtual 52, 3) := by decide +kernel
theorem d_Law_law_309 : decode code 309 = .ok (.pop, 1) := by decide +kernel
theorem d_Law_law_310 : decode code 310 = .ok (.goto 220, 3) := by decide +kernel
theorem d_Law_law_313 : decode code 313 = .ok (.aload_n 1, 1) := by decide +kernel
theorem d_Law_law_314 : decode code 314 = .ok (.aload_n 0, 1) := by decide +kernel
theorem d_Law_law_315 : decode code 315 = .ok (.iload_n 3, 1) := by decide +kernel
theorem d_Law_law_316 : decode code 316 = .ok (.iconst 1, 1) := by decide +kernel
theorem d_Law_law_317 : decode code 317 = .ok (.iadd, 1) := by decide +kernel
theorem d_Law_law_318 : decode code 318 = .ok (.iaload, 1) := by decide +kernel
theorem d_Law_law_319 : decode code 319 = .ok (.invokevirtual 53, 3) := by decide +kernel
theorem d_Law_law_322 : decode code 322 = .ok (.pop, 1) := by decide +kernel
theorem d_Law_law_323 : decode code 323 = .ok (.aload_n 2, 1) := by decide +kernel
theorem d_Law_law_324 : decode code 324 = .ok (.aload_n 0, 1) := by decide +kernel
theorem d_Law_law_325 : decode code 325 = .ok (.iload_n 3, 1) := by decide +kernel
theorem d_Law_law_326 : decode code 326 = .ok (.iconst 1, 1) := by decide +kernel
theorem d_Law_law_327 : decode code 327 = .ok (.iadd, 1) := by decide +kernel
theorem d_Law_law_328 : decode code 328 = .ok (.iaload, 1) := by decide +kernel
theorem d_Law_law_329 : decode code 329 = .ok (.invokevirtual 56, 3) := by decide +kernel
theorem d_Law_law_332 : decode code 332 = .ok (.pop, 1) := by decide +kernel
theorem d_Law_law_333 : decode code 333 = .ok (.goto 197, 3) := by decide +kernel
theorem d_Law_law_336 : decode code 336 = .ok (.aload_n 1, 1) := by decide +kernel
theorem d_Law_law_337 : decode code 337 = .ok (.aload_n 0, 1) := by decide +kernel
theorem d_Law_law_338 : decode code 338 = .ok (.iload_n 3, 1) := by decide +kernel
theorem d_Law_law_339 : decode code 339 = .ok (.iconst 1, 1) := by decide +kernel
theorem d_Law_law_340 : decode code 340 = .ok (.iadd, 1) := by decide +kernel
theorem d_Law_law_341 : decode code 341 = .ok (.iaload, 1) := by decide +kernel
theorem d_Law_law_342 : decode code 342 = .ok (.invokevirtual 57, 3) := by decide +kernel
theorem d_Law_law_345 : decode code 345 = .ok (.pop, 1) := by decide +kernel
theorem d_Law_law_346 : decode code 346 = .ok (.aload_n 2, 1) := by decide +kernel
theorem d_Law_law_347 : decode code 347 = .ok (.aload_n 0, 1) := by decide +kernel
theorem d_Law_law_348 : decode code 348 = .ok (.iload_n 3, 1) := by decide +kernel
theorem d_Law_law_349 : decode code 349 = .ok (.iconst 1, 1) := by decide +kernel
theorem d_Law_law_350 : decode code 350 = .ok (.iadd, 1) := by decide +kernel
theorem d_Law_law_351 : decode code 351 = .ok (.iaload, 1) := by decide +kernel
theorem d_Law_law_352 : decode code 352 = .ok (.invokevirtual 60, 3) := by decide +kernel
theorem d_Law_law_355 : decode code 355 = .ok (.pop, 1) := by decide +kernel
theorem d_Law_law_356 : decode code 356 = .ok (.goto 174, 3) := by decide +kernel
theorem d_Law_law_359 : decode code 359 = .ok (.aload_n 1, 1) := by decide +kernel
theorem d_Law_law_360 : decode code 360 = .ok (.aload_n 0, 1) := by decide +kernel
theorem d_Law_law_361 : decode code 361 = .ok (.iload_n 3, 1) := by decide +kernel
theorem d_Law_law_362 : decode code 362 = .ok (.iconst 1, 1) := by decide +kernel
theorem d_Law_law_363 : decode code 363 = .ok (.iadd, 1) := by decide +kernel
theorem d_Law_law_364 : decode code 364 = .ok (.iaload, 1) := by decide +kernel
theorem d_Law_law_365 : decode code 365 = .ok (.aload_n 0, 1) := by decide +kernel
theorem d_Law_law_366 : decode code 366 = .ok (.iload_n 3, 1) := by decide +kernel
theorem d_Law_law_367 : decode code 367 = .ok (.iconst 2, 1) := by decide +kernel
theorem d_Law_law_368 : decode code 368 = .ok (.iadd, 1) := by decide +kernel
theorem d_Law_law_369 : decode code 369 = .ok (.iaload, 1) := by decide +kernel
theorem d_Law_law_370 : decode code 370 = .ok (.invokevirtual 61, 3) := by decide +kernel
theorem d_Law_law_373 : decode code 373 = .ok (.pop, 1) := by decide +kernel
theorem d_Law_law_374 : decode code 374 = .ok (.aload_n 2, 1) := by decide +kernel
theorem d_Law_law_375 : decode code 375 = .ok (.aload_n 0, 1) := by decide +kernel
theorem d_Law_law_376 : decode code 376 = .ok (.iload_n 3, 1) := by decide +kernel
theorem d_Law_law_377 : decode code 377 = .ok (.iconst 1, 1) := by decide +kernel
theorem d_Law_law_378 : decode code 378 = .ok (.iadd, 1) := by decide +kernel
theorem d_Law_law_379 : decode code 379 = .ok (.iaload, 1) := by decide +kernel
theorem d_Law_law_380 : decode code 380 = .ok (.aload_n 0, 1) := by decide +kernel
theorem d_Law_law_381 : decode code 381 = .ok (.iload_n 3, 1) := by decide +kernel
theorem d_Law_law_382 : decode code 382 = .ok (.iconst 2, 1) := by decide +kernel
theorem d_Law_law_383 : decode code 383 = .ok (.iadd, 1) := by decide +kernel
theorem d_Law_law_384 : decode code 384 = .ok (.iaload, 1) := by decide +kernel
theorem d_Law_law_385 : decode code 385 = .ok (.invokevirtual 64, 3) := by decide +kernel
theorem d_Law_law_388 : decode code 388 = .ok (.pop, 1) := by decide +kernel
theorem d_Law_law_389 : decode code 389 = .ok (.goto 141, 3) := by decide +kernel
theorem d_Law_law_392 : decode code 392 = .ok (.aload_n 1, 1) := by decide +kernel
theorem d_Law_law_393 : decode code 393 = .ok (.invokevirtual 65, 3) := by decide +kernel
theorem d_Law_law_396 : decode code 396 = .ok (.pop, 1) := by decide +kernel
theorem d_Law_law_397 : decode code 397 = .ok (.aload_n 2, 1) := by decide +kernel
theorem d_Law_law_398 : decode code 398 = .ok (.invokevirtual 68, 3) := by decide +kernel
theorem d_Law_law_401 : decode code 401 = .ok (.pop, 1) := by decide +kernel
theorem d_Law_law_402 : decode code 402 = .ok (.goto 128, 3) := by decide +kernel
theorem d_Law_law_405 : decode code 405 = .ok (.aload_n 1, 1) := by decide +kernel
theorem d_Law_law_406 : decode code 406 = .ok (.aload_n 0, 1) := by decide +kernel
theorem d_Law_law_407 : decode code 407 = .ok (.iload_n 3, 1) := by decide +kernel
theorem d_Law_law_408 : decode code 408 = .ok (.iconst 1, 1) := by decide +kernel
theorem d_Law_law_409 : decode code 409 = .ok (.iadd, 1) := by decide +kernel
theorem d_Law_law_410 : decode code 410 = .ok (.iaload, 1) := by decide +kernel
theorem d_Law_law_411 : decode code 411 = .ok (.invokevirtual 69, 3) := by decide +kernel
theorem d_Law_law_414 : decode code 414 = .ok (.pop, 1) := by decide +kernel
theorem d_Law_law_415 : decode code 415 = .ok (.aload_n 2, 1) := by decide +kernel
theorem d_Law_law_416 : decode code 416 = .ok (.aload_n 0, 1) := by decide +kernel
theorem d_Law_law_417 : decode code 417 = .ok (.iload_n 3, 1) := by decide +kernel
theorem d_Law_law_418 : decode code 418 = .ok (.iconst 1, 1) := by decide +kernel
theorem d_Law_law_419 : decode code 419 = .ok (.iadd, 1) := by decide +kernel
theorem d_Law_law_420 : decode code 420 = .ok (.iaload, 1) := by decide +kernel
theorem d_Law_law_421 : decode code 421 = .ok (.invokevirtual 72, 3) := by decide +kernel
theorem d_Law_law_424 : decode code 424 = .ok (.pop, 1) := by decide +kernel
theorem d_Law_law_425 : decode code 425 = .ok (.goto 105, 3) := by decide +kernel
theorem d_Law_law_428 : decode code 428 = .ok (.aload_n 1, 1) := by decide +kernel
theorem d_Law_law_429 : decode code 429 = .ok (.aload_n 0, 1) := by decide +kernel
theorem d_Law_law_430 : decode code 430 = .ok (.iload_n 3, 1) := by decide +kernel
theorem d_Law_law_431 : decode code 431 = .ok (.iconst 1, 1) := by decide +kernel
theorem d_Law_law_432 : decode code 432 = .ok (.iadd, 1) := by decide +kernel
theorem d_Law_law_433 : decode code 433 = .ok (.iaload, 1) := by decide +kernel
theorem d_Law_law_434 : decode code 434 = .ok (.invokevirtual 73, 3) := by decide +kernel
theorem d_Law_law_437 : decode code 437 = .ok (.pop, 1) := by decide +kernel
theorem d_Law_law_438 : decode code 438 = .ok (.aload_n 2, 1) := by decide +kernel
theorem d_Law_law_439 : decode code 439 = .ok (.aload_n 0, 1) := by decide +kernel
theorem d_Law_law_440 : decode code 440 = .ok (.iload_n 3, 1) := by decide +kernel
theorem d_Law_law_441 : decode code 441 = .ok (.iconst 1, 1) := by decide +kernel
theorem d_Law_law_442 : decode code 442 = .ok (.iadd, 1) := by decide +kernel
theorem d_Law_law_443 : decode code 443 = .ok (.iaload, 1) := by decide +kernel
theorem d_Law_law_444 : decode code 444 = .ok (.invokevirtual 76, 3) := by decide +kernel
theorem d_Law_law_447 : decode code 447 = .ok (.pop, 1) := by decide +kernel
theorem d_Law_law_448 : decode code 448 = .ok (.goto 82, 3) := by decide +kernel
theorem d_Law_law_451 : decode code 451 = .ok (.aload_n 1, 1) := by decide +kernel
theorem d_Law_law_452 : decode code 452 = .ok (.aload_n 0, 1) := by decide +kernel
theorem d_Law_law_453 : decode code 453 = .ok (.iload_n 3, 1) := by decide +kernel
theorem d_Law_law_454 : decode code 454 = .ok (.iconst 1, 1) := by decide +kernel
theorem d_Law_law_455 : decode code 455 = .ok (.iadd, 1) := by decide +kernel
theorem d_Law_law_456 : decode code 456 = .ok (.iaload, 1) := by decide +kernel
theorem d_Law_law_457 : decode code 457 = .ok (.invokevirtual 77, 3) := by decide +kernel
theorem d_Law_law_460 : decode code 460 = .ok (.pop, 1) := by decide +kernel
theorem d_Law_law_461 : decode code 461 = .ok (.aload_n 2, 1) := by decide +kernel
theorem d_Law_law_462 : decode code 462 = .ok (.aload_n 0, 1) := by decide +kernel
theorem d_Law_law_463 : decode code 463 = .ok (.iload_n 3, 1) := by decide +kernel
theorem d_Law_law_464 : decode code 464 = .ok (.iconst 1, 1) := by decide +kernel
theorem d_Law_law_465 : decode code 465 = .ok (.iadd, 1) := by decide +kernel
theorem d_Law_law_466 : decode code 466 = .ok (.iaload, 1) := by decide +kernel
theorem d_Law_law_467 : decode code 467 = .ok (.invokevirtual 80, 3) := by decide +kernel
theorem d_Law_law_470 : decode code 470 = .ok (.pop, 1) := by decide +kernel
theorem d_Law_law_471 : decode code 471 = .ok (.goto 59, 3) := by decide +kernel
theorem d_Law_law_474 : decode code 474 = .ok (.aload_n 1, 1) := by decide +kernel
theorem d_Law_law_475 : decode code 475 = .ok (.aload_n 0, 1) := by decide +kernel
theorem d_Law_law_476 : decode code 476 = .ok (.iload_n 3, 1) := by decide +kernel
theorem d_Law_law_477 : decode code 477 = .ok (.iconst 1, 1) := by decide +kernel
theorem d_Law_law_478 : decode code 478 = .ok (.iadd, 1) := by decide +kernel
theorem d_Law_law_479 : decode code 479 = .ok (.iaload, 1) := by decide +kernel
theorem d_Law_law_480 : decode code 480 = .ok (.invokevirtual 81, 3) := by decide +kernel
theorem d_Law_law_483 : decode code 483 = .ok (.pop2, 1) := by decide +kernel
theorem d_Law_law_484 : decode code 484 = .ok (.aload_n 2, 1) := by decide +kernel
theorem d_Law_law_485 : decode code 485 = .ok (.aload_n 0, 1) := by decide +kernel
theorem d_Law_law_486 : decode code 486 = .ok (.iload_n 3, 1) := by decide +kernel
theorem d_Law_law_487 : decode code 487 = .ok (.iconst 1, 1) := by decide +kernel
theorem d_Law_law_488 : decode code 488 = .ok (.iadd, 1) := by decide +kernel
theorem d_Law_law_489 : decode code 489 = .ok (.iaload, 1) := by decide +kernel
theorem d_Law_law_490 : decode code 490 = .ok (.invokevirtual 85, 3) := by decide +kernel
theorem d_Law_law_493 : decode code 493 = .ok (.pop2, 1) := by decide +kernel
theorem d_Law_law_494 : decode code 494 = .ok (.goto 36, 3) := by decide +kernel
theorem d_Law_law_497 : decode code 497 = .ok (.aload_n 1, 1) := by decide +kernel
theorem d_Law_law_498 : decode code 498 = .ok (.aload_n 0, 1) := by decide +kernel
theorem d_Law_law_499 : decode code 499 = .ok (.iload_n 3, 1) := by decide +kernel
theorem d_Law_law_500 : decode code 500 = .ok (.iconst 1, 1) := by decide +kernel
theorem d_Law_law_501 : decode code 501 = .ok (.iadd, 1) := by decide +kernel
theorem d_Law_law_502 : decode code 502 = .ok (.iaload, 1) := by decide +kernel
theorem d_Law_law_503 : decode code 503 = .ok (.aload_n 0, 1) := by decide +kernel
theorem d_Law_law_504 : decode code 504 = .ok (.iload_n 3, 1) := by decide +kernel
theorem d_Law_law_505 : decode code 505 = .ok (.iconst 2, 1) := by decide +kernel
theorem d_Law_law_506 : decode code 506 = .ok (.iadd, 1) := by decide +kernel
theorem d_Law_law_507 : decode code 507 = .ok (.iaload, 1) := by decide +kernel
theorem d_Law_law_508 : decode code 508 = .ok (.invokevirtual 86, 3) := by decide +kernel
theorem d_Law_law_511 : decode code 511 = .ok (.pop, 1) := by decide +kernel
theorem d_Law_law_512 : decode code 512 = .ok (.aload_n 2, 1) := by decide +kernel
theorem d_Law_law_513 : decode code 513 = .ok (.aload_n 0, 1) := by decide +kernel
theorem d_Law_law_514 : decode code 514 = .ok (.iload_n 3, 1) := by decide +kernel
theorem d_Law_law_515 : decode code 515 = .ok (.iconst 1, 1) := by decide +kernel
theorem d_Law_law_516 : decode code 516 = .ok (.iadd, 1) := by decide +kernel
theorem d_Law_law_517 : decode code 517 = .ok (.iaload, 1) := by decide +kernel
theorem d_Law_law_518 : decode code 518 = .ok (.aload_n 0, 1) := by decide +kernel
theorem d_Law_law_519 : decode code 519 = .ok (.iload_n 3, 1) := by decide +kernel
theorem d_Law_law_520 : decode code 520 = .ok (.iconst 2, 1) := by decide +kernel
theorem d_Law_law_521 : decode code 521 = .ok (.iadd, 1) := by decide +kernel
theorem d_Law_law_522 : decode code 522 = .ok (.iaload, 1) := by decide +kernel
theorem d_Law_law_523 : decode code 523 = .ok (.invokevirtual 89, 3) := by decide +kernel
theorem d_Law_law_526 : decode code 526 = .ok (.pop, 1) := by decide +kernel
theorem d_Law_law_527 : decode code 527 = .ok (.goto 3, 3) := by decide +kernel
theorem d_Law_law_530 : decode code 530 = .ok (.iinc 3 4, 3) := by decide +kernel
theorem d_Law_law_533 : decode code 533 = .ok (.goto (-495), 3) := by decide +kernel
theorem d_Law_law_536 : decode code 536 = .ok (.iconst 1, 1) := by decide +kernel
theorem d_Law_law_537 : decode code 537 = .ok (.ireturn, 1) := by decide +kernel
end
section
/-! THE LAW: what both objects are between two calls -/
theorem mo_cs (z : Int32) : (z < 2 ∨ 64 < z) ∨ ∃ ns, 2 ≤ ns ∧ ns ≤ 64 ∧ z = nI ns := by
  by_cases h1 : z < 2
  · exact Or.inl (Or.inl h1)
  · by_cases h2 : 64 < z
    · exact Or.inl (Or.inr h2)
    · right
      obtain ⟨n, a, b, e⟩ := in_of2 (a := 2) (b := 64) (p := z) (by decide) (by decide) ⟨Int32.not_lt.mp h1, Int32.not_lt.mp h2⟩
      exact ⟨n, a, b, e⟩
theorem md_cs (z : Int32) {k : Nat} (hk : k ≤ 8) : (z < 0 ∨ nI k ≤ z) ∨ ∃ j, j < k ∧ z = nI j := by
  by_cases h1 : z < 0
  · exact Or.inl (Or.inl h1)
  · by_cases h2 : nI k ≤ z
    · exact Or.inl (Or.inr h2)
    · right
      rw [Int32.lt_iff_toInt_lt] at h1
      rw [Int32.le_iff_toInt_le, nI_toInt (by omega)] at h2
      have e0 : (0 : Int32).toInt = 0 := rfl
      refine ⟨z.toInt.toNat, by omega, ?_⟩
      apply Int32.toInt_inj.mp
      rw [nI_toInt (by omega)]
      omega
theorem mb_push (cI : ClassId) (X : va_W) (ms : List MB) (x : MB) : ((X ++ mbC cI x) ++ mbsC cI ms).Perm (X ++ mbsC cI (ms ++ [x])) := by
  have h := mb_out cI X ms [] x
  have e : mbsC cI ([] : List MB) = [] := rfl
  rw [e, List.append_nil] at h
  exact h
theorem mf_push {mf : Nat → Option Nat} {ms : List MB} {x : MB} (h : mfOk mf ms) (h8 : ms.length < 8) : mfOk (va_up mf ms.length (some x.1)) (ms ++ [x]) := by
  intro i hi
  by_cases e : i = ms.length
  · subst e
    rw [va_up_self, mb_get (a := ms) (b := []) (x := x)]
    rfl
  · rw [va_up_ne _ _ e, h i hi]
    rcases Nat.lt_or_ge i ms.length with q | q
    · rw [List.getElem?_append_left q]
    · rw [List.getElem?_eq_none (by omega), List.getElem?_eq_none (by rw [List.length_append, List.length_singleton]; omega)]
theorem ok_push {ms : List MB} {x : MB} (h : ∀ y ∈ ms, mbOk y) (hx : mbOk x) : ∀ y ∈ ms ++ [x], mbOk y := by
  intro y hy
  rcases List.mem_append.mp hy with q | q
  · exact h y q
  · rw [List.mem_singleton.mp q]; exact hx
theorem pm_ca {α : Type} (a b c : List α) : (a ++ (b ++ c)).Perm (b ++ (a ++ c)) := by
  rw [← List.append_assoc, ← List.append_assoc]
  exact List.Perm.append_right _ List.perm_append_comm
theorem pm_5 {α : Type} (P Hd O1 O2 Q : List α) : (P ++ ((Hd ++ (O1 ++ O2)) ++ Q)).Perm (O1 ++ (Hd ++ (O2 ++ (P ++ Q)))) := by
  rw [List.append_assoc Hd, List.append_assoc O1]
  refine (pm_ca P Hd _).trans ?_
  refine ((pm_ca P O1 _).append_left Hd).trans ?_
  refine (pm_ca Hd O1 _).trans ?_
  exact (((pm_ca P O2 Q).append_left Hd).append_left O1)
def mbH (cI : ClassId) (x : MB) : va_W := [(x.1, Sum.inr (8, [Value.ref x.2.1, Value.ref x.2.2.2.2.1.1, Value.ref x.2.2.2.2.2.1])), (x.2.1, Sum.inl (cI, x.2.2.1, Sum.inl x.2.2.2.1))]
theorem mb_outE {cI : ClassId} {ms a b : List MB} {x : MB} (X : va_W) (e : ms = a ++ x :: b) : ((X ++ mbC cI x) ++ (mbsC cI a ++ mbsC cI b)).Perm (X ++ mbsC cI ms) := by
  subst e; exact mb_out cI X a b x
theorem mf_someE {mf : Nat → Option Nat} {ms a b : List MB} {x : MB} {j : Nat} (h : mfOk mf ms) (e : ms = a ++ x :: b) (hl : a.length = j) (h8 : j < 8) : mf j = some x.1 := by
  subst e; subst hl; exact mf_some h h8
theorem mb_setE {ms a b : List MB} {x y : MB} (e : ms = a ++ x :: b) (h : mbA y = mbA x) : (a ++ y :: b).map mbA = ms.map mbA := by
  subst e; exact mb_set h
theorem ok_setE {ms a b : List MB} {x y : MB} (h : ∀ z ∈ ms, mbOk z) (e : ms = a ++ x :: b) (hy : mbOk y) : ∀ z ∈ a ++ y :: b, mbOk z := by
  subst e; exact ok_set h hy
theorem MI3_new {M bm km ns : Nat} {N : Nat → Nat} {fItems fGoes : Int32} {vIM vIW vNow f2 : Nat → Int32} (h : MI3 M bm km N fItems fGoes vIM vIW vNow) (hN : ∀ i, i < km → N i ≤ 64) (ho : sgO f2 vNow (64 * km) 64) : MI3 M bm (km + 1) (upN N km ns) fItems fGoes vIM vIW f2 := by
  obtain ⟨its, h1, h2, h3, h4, h5⟩ := h
  refine ⟨its, h1, h2, h3, h4, fun i hlt => ?_⟩
  rcases h5 i hlt with q | ⟨q1, q2, q3, q4, q5, q6⟩
  · exact Or.inl q
  · generalize hit : itA its i = it at q1 q2 q3 q4 q5 q6 ⊢
    have hn := hN _ q2
    have hne : it.2.1 ≠ km := by omega
    have hF : ∀ k, k < N it.2.1 → Fvw f2 it.2.1 k = Fvw vNow it.2.1 k := fun k hk => by
      unfold Fvw
      rw [ho _ (by omega)]
    rw [show upN N km ns = upN N km ns from rfl]
    refine Or.inr ⟨q1, by omega, by rw [upN_n _ hne]; exact q3, ?_, ?_, ?_⟩
    · rw [hF _ q3]; exact q4
    · rw [upN_n _ hne, ns_cg hF]; exact q5
    · rw [upN_n _ hne]
      intro k hk
      rw [ho _ (by omega), q6 k hk, hF k hk]
/-! the law's own helper -/
def cellV (L : Nat) (xs : Nat → Int32) (k : Int32) : Int32 := if nI L ≤ k then 0 else xs k.toNatClampNeg
theorem d_cell_0 : decode method_2_code 0 = .ok (.iload_n 1, 1) := by decide +kernel
theorem d_cell_1 : decode method_2_code 1 = .ok (.aload_n 0, 1) := by decide +kernel
theorem d_cell_2 : decode method_2_code 2 = .ok (.arraylength, 1) := by decide +kernel
theorem d_cell_3 : decode method_2_code 3 = .ok (.if_icmp .ge 9, 3) := by decide +kernel
theorem d_cell_6 : decode method_2_code 6 = .ok (.aload_n 0, 1) := by decide +kernel
theorem d_cell_7 : decode method_2_code 7 = .ok (.iload_n 1, 1) := by decide +kernel
theorem d_cell_8 : decode method_2_code 8 = .ok (.iaload, 1) := by decide +kernel
theorem d_cell_9 : decode method_2_code 9 = .ok (.goto 4, 3) := by decide +kernel
theorem d_cell_12 : decode method_2_code 12 = .ok (.iconst 0, 1) := by decide +kernel
theorem d_cell_13 : decode method_2_code 13 = .ok (.ireturn, 1) := by decide +kernel
def cellP (b L : Nat) (xs : Nat → Int32) (k : Int32) (sz : Nat) (U : State) : Prop := U.heap.size = sz ∧ va_X b L xs U U.heap ∧ L < 2 ^ 31 ∧ ¬ k < 0
theorem c_cell (l : Launch) (b L : Nat) (xs : Nat → Int32) (k : Int32) (sz : Nat) : Met l y_Law_cell (Cond.code y_Law_cell method_2_code 2 (some .int) :: gw) ({ frames := 0, cells := 0, slots := 0, locals := 0 } : Room) (va_Pc [Value.ref b, Value.int k] (cellP b L xs k sz)) (va_Qi (S := Unit) (fun r _ => r = cellV L xs k) (fun _ _ => True) (fun q => sz ≤ q)) 0 0 (fun q => sz ≤ q) := by
  refine Met.ofW (cc := method_2_code) (maxL := 2) (ret := some .int) (by decide) rfl ?_
  intro p e s m args below meth c s₁ B hml hv
  obtain ⟨ha, hsz, hX, hL, hk⟩ := hv
  subst hsz
  have hx := B.exec
  have hb := B.bytes
  have hr := B.returns
  have hlocks := B.notSynchronized
  have hbl : b < s.heap.size := by
    obtain ⟨scr, h1, -⟩ := hX
    exact (Array.getElem?_eq_some_iff.mp h1).1
  have hbA : ¬ (fun q : Nat => s.heap.size ≤ q) b := Nat.not_le.mpr hbl
  have hS : va_S (fun q : Nat => s.heap.size ≤ q) s.heap s.heap [] := va_S.rf
  have hl := lv_entry ([Value.ref b, Value.int k]) (n := 2) (Nat.le_of_ble_eq_true rfl)
  refine W.eq (g2 := F0 m 0 ((lg_sl [Value.ref b, Value.int k] ++ List.replicate (2 - (lg_sl [Value.ref b, Value.int k]).length) Slot.unset).toArray) []) (by rw [ha]; exact lg_entry_eq m [Value.ref b, Value.int k] 2) ?_
  generalize (lg_sl ([Value.ref b, Value.int k] : List Value) ++ List.replicate (2 - (lg_sl ([Value.ref b, Value.int k] : List Value)).length) Slot.unset).toArray = ls at hl ⊢
  have hl : lv_has ls 2 [(0, Value.ref b), (1, Value.int k)] := hl
  refine lv_iload_n hx hb d_cell_0 rfl (lv_at hl 1 rfl) ?_
  refine lv_aload_n hx hb d_cell_1 rfl (lv_at hl 0 rfl) ?_
  refine va_slen hx hb hX hbl hbA hS d_cell_2 ?_
  refine lv_icmp_ge (tgt := 12) hx hb d_cell_3 (by decide) (fun c1 => ?_) (fun c1 => ?_)
  · refine lv_iconst (v := 0) hx hb d_cell_12 (by decide) ?_
    exact W.zret (v := 0) hx hb hr rfl (fun t ht hW => ⟨⟨0, (), rfl, show (0 : Int32) = cellV L xs k from by unfold cellV; rw [if_pos (show nI L ≤ k from c1)], trivial⟩, hS.F ht⟩) (fun q hq => absurd hq List.not_mem_nil) d_cell_13 hlocks
  · refine lv_aload_n hx hb d_cell_6 rfl (lv_at hl 0 rfl) ?_
    refine lv_iload_n hx hb d_cell_7 rfl (lv_at hl 1 rfl) ?_
    refine va_sld hx hb hX hbl hbA hS (I_in' hL hk c1) d_cell_8 ?_
    refine lv_goto (tgt := 13) hx hb d_cell_9 (by decide) ?_
    exact W.zret (v := xs k.toNatClampNeg) hx hb hr rfl (fun t ht hW => ⟨⟨_, (), rfl, show xs k.toNatClampNeg = cellV L xs k from by unfold cellV; rw [if_neg (show ¬ nI L ≤ k from c1)], trivial⟩, hS.F ht⟩) (fun q hq => absurd hq List.not_mem_nil) d_cell_13 hlocks
theorem cell_pre {b L : Nat} {xs : Nat → Int32} {k : Int32} {s : State} {H : Heap} (hX : va_X b L xs s H) (hL : L < 2 ^ 31) (hk : ¬ k < 0) : FrameBlind (va_Pc [Value.ref b, Value.int k] (cellP b L xs k H.size)) ∧ ∀ U : State, U.heap = H → s.WarmedH U.vm → va_Pc [Value.ref b, Value.int k] (cellP b L xs k H.size) ([Value.ref b, Value.int k] : List Value).toArray U :=
  ⟨fun a U g mk q => ⟨q.1, q.2.1, va_X.moved (u := U) (U := U.calling g mk a) (Vm.Alike.refl U.vm) q.2.2.1, q.2.2.2⟩, fun U hU hW => ⟨rfl, by rw [hU], by rw [hU]; exact va_X.moved hW.alike hX, hL, hk⟩⟩
theorem cell_call {p : Program} {l : Launch} {e : Env} {R : Room} {s : State} {m : MethodId} {args : Array Value} {below : List Frame} {meth : Method} {c : Code} {H : Heap} {locs : List Loc} {cells slots : Nat} {Q : State → Prop} {pc : Nat} {ls : Array Slot} {rest : List Value} {D : va_G} {cl : List vw_C} {ws : va_W} {A : Nat → Prop} {b L : Nat} {xs : Nat → Int32}
    (hx : p.tables.exec = Jvm.exec) (hb : c.code = code) (hml : c.maxLocals = 4) (hown : s.vm.findClass "RangeCodersLaw" = some m.cls) (hg : ∀ w ∈ gw, w.before args s = true) (hR : R = room_1) (hX : va_X b L xs s s.heap) (hbl : b < s.heap.size) (hbA : ¬ A b) (hL : L < 2 ^ 31) (hP : va_P D cl ws H) (hS : va_S A s.heap H locs) (hA : ∀ q : Nat, s.heap.size ≤ q → A q) {k : Int32} (hk : ¬ k < 0) (hrest : 2 * (F0 m pc ls (.int k :: .ref b :: rest)).monitorRoom + (rest.map fun v => v.category).sum ≤ 8) (hls : ls.size = 4) (hc : cells ≤ 600000) (hs : slots ≤ 7302250) (hdg : decode code pc = .ok (.invokestatic 9, 3))
    (kk : ∀ (H1 : Heap) (locs1 : List Loc), va_P D cl ws H1 → va_S A s.heap H1 locs1 → W p l e R s m args below meth c H1 locs1 cells slots Q (F0 m (pc + 3) ls (.int (cellV L xs k) :: rest))) : W p l e R s m args below meth c H locs cells slots Q (F0 m pc ls (.int k :: .ref b :: rest)) := by
  have hts : ∀ w ∈ (Cond.code y_M_in prog_14_method_3_code 3 (some .boolean) :: gw), w.before args s = true := List.forall_mem_cons.mpr ⟨hg _ k1064, hg⟩
  have hXH : va_X b L xs s H := hX.kept (hS.2.1 b hbl hbA)
  refine va_calli (A1 := fun q => H.size ≤ q) (free := fun q => H.size ≤ q) (S := Unit) (post := fun r _ => r = cellV L xs k) (B := fun _ _ => True) (va_runS (As := [Value.ref b, Value.int k]) (rest := rest) ⟨hx, hb, hml, hown, hts⟩ (c_cell l b L xs k H.size) (cwS 2 hts (my_gS k914 k915 k0 k916) rfl rfl rfl (by decide +kernel) ⟨by rw [hR]; exact Nat.le_of_ble_eq_true rfl, by rw [hR]; exact Nat.le_of_ble_eq_true rfl⟩) (cell_pre hXH hL hk) rfl rfl hls rfl hrest hdg ⟨by rw [hR]; exact hc, by rw [hR]; exact hs⟩) hS (fun q h1 h2 => absurd h1 (Nat.not_lt.mpr h2)) (fun q h => hA q (Nat.le_trans hS.1 h)) (fun r u t H1 locs1 ht hvm hw hB hz1 hk1 hS1 => ?_)
  subst hw
  exact kk H1 locs1 (fun k2 q hq => (hP k2 q hq).kept (hk1 q.1 (hP k2 q hq).lt (Nat.not_le.mpr (hP k2 q hq).lt))) hS1
end
section
/-! THE CLAIM OUT OF ONE WALK OF THE LAW'S BODY. Your part is whole_start (and what it stands on); all else here is the same for every law, but numbers. -/
def R_law : String := "RangeCodersLaw"
def lw_P (b : Addr) (xs : List Int32) (args : Array Value) (s : State) : Prop := args = #[Value.ref b] ∧ s.IntsAt b xs ∧ xs.length ≤ 2050 ∧ (Jvm.Cond.and given_1 narrow_1).before args s = true
def lw_Q (_ : Array Value) (s : State) (o : Outcome) (t : State) : Prop := o = .returned (some (.int 1)) ∧ Framed s o t [] 600000 7302250
def lw_Z (below : List Frame) (a : Array Value) (s : State) : State → Prop := fun t => ∃ o, t.status = .running ∧ Ended t below o ∧ lw_Q a s o t
/-- the law's own end, with 1 on the stack, nothing written that was there before, its room as the claim has it -/
theorem lw_ret {p : Program} {l : Launch} {e : Env} {s : State} {m : MethodId} {below : List Frame} {meth : Method} {c : Code} {b : Nat} (hx : p.tables.exec = Jvm.exec) (hb : c.code = code) (hr : meth.sig.returnType = ret) (hlocks : meth.locks = false) {pc : Nat} {H : Heap} {ls : Array Slot} (hdg : decode code pc = .ok (.ireturn, 1)) : W p l e room_1 s m #[Value.ref b] below meth c H [] 600000 7302250 (lw_Z below #[Value.ref b] s) (F0 m pc ls [Value.int 1]) := by
  intro T hT X
  obtain ⟨fs, hret, hrun, hended, hW, hframe⟩ := X.leave (v := some (.int 1)) (hlocks := hlocks) (fun h => by rw [hr] at h; cases h)
  have hmeth' : T.vm.method? m = some meth := X.method'
  refine ⟨T.setFrames fs, ?_, .returned (some (.int 1)), hrun, hended, rfl, ⟨_, rfl⟩, hW, hframe⟩
  jvm_step X.here [X.here.top, hx, hb, hdg, hmeth', hr, ret, narrow_b1]
  (try refine ⟨rfl, ?_⟩); (try refine ⟨rfl, ?_⟩)
  first | (intro acts; rw [hret _ acts rfl rfl rfl]) | rw [hret _ _ rfl rfl rfl]
  exact Steps.refl _
/-- what holds at the law's entry: the machine, the code, the tables' words (any of lw_tbl by 'hts w (by decide +kernel)'), the script of L ints xs at the cell b, what the Statement gives of the start (any of its parts by flat_of_before) -/
def lw_At (p : Program) (s : State) (m : MethodId) (meth : Method) (c : Code) (b L : Nat) (xs : Nat → Int32) : Prop :=
  p.tables.exec = Jvm.exec ∧ c.code = code ∧ meth.sig.returnType = ret ∧ c.maxLocals = 4 ∧ s.vm.findClass R_law = some m.cls ∧ (∀ w ∈ lw_tbl, w.before #[Value.ref b] s = true) ∧ va_X b L xs s s.heap ∧ b < s.heap.size ∧ meth.locks = false ∧ (Jvm.Cond.and given_1 narrow_1).before #[Value.ref b] s = true
theorem loop_le {L i : Nat} (hL : L ≤ 2050) (hi : i ≤ 2060) (h : ¬ Int32.ofNat L - 4 < nI i) : i + 4 ≤ L := by
  have e1 : (Int32.ofNat L).toInt = (L : Int) := nI_toInt (n := L) (by omega)
  have e4 : (4 : Int32).toInt = 4 := rfl
  rw [Int32.lt_iff_toInt_lt, Int32.toInt_sub, e1, e4, nI_toInt (by omega)] at h
  rw [Int.bmod_eq_of_le (by omega) (by omega)] at h
  omega
theorem sw_cs {v : Int32} (h : ¬ (v.toInt < 0 ∨ 15 < v.toInt)) : ∃ j, j < 16 ∧ v = nI j := ⟨v.toInt.toNat, by omega, Int32.toInt_inj.mp (by rw [nI_toInt (by omega)]; omega)⟩
theorem law_end {p : Program} {l : Launch} {e : Env} {s : State} {m : MethodId} {below : List Frame} {meth : Method} {c : Code} {b : Nat} {A : Nat → Prop} {H : Heap} {locs : List Loc} {dd : Nat} {ls : Array Slot} (hA : ∀ q : Nat, A q → s.heap.size ≤ q) (hx : p.tables.exec = Jvm.exec) (hb : c.code = code) (hr : meth.sig.returnType = ret) (hlocks : meth.locks = false) (hS : va_S A s.heap H locs) (hdd : dd ≤ 300000) : W p l e room_1 s m #[Value.ref b] below meth c H locs dd dd (lw_Z below #[Value.ref b] s) (F0 m 536 ls []) := by
  refine va_forget (fun q hq => hA _ (hS.2.2 q hq)) ?_
  refine lv_iconst (v := 1) hx hb d_Law_law_536 (by decide) ?_
  refine W.widen (k := 600000) (n := 7302250) (by omega) (by omega) ?_
  exact lw_ret hx hb hr hlocks d_Law_law_537
end
section
/-! HOW MANY BYTES a message can have: RANGE's size in bits pays for them -/
theorem lg_mono {a b : Nat} (h0 : 0 < a) (h : a ≤ b) : a.log2 ≤ b.log2 := (Nat.le_log2 (by omega)).mpr (Nat.le_trans (Nat.log2_self_le (by omega)) h)
theorem lg_256 {a : Nat} (h0 : 0 < a) : a.log2 + 8 ≤ (a * 256).log2 := by
  refine (Nat.le_log2 (by omega)).mpr ?_
  rw [Nat.pow_add]
  exact Nat.mul_le_mul_right 256 (Nat.log2_self_le (by omega))
theorem lg_div {R a : Nat} (h : 2 ^ a ≤ R) : R.log2 ≤ a + (R / 2 ^ a).log2 := by
  have hp := Nat.two_pow_pos a
  have ha : a ≤ R.log2 := (Nat.le_log2 (by omega)).mpr h
  have h1 : 2 ^ (R.log2 - a) ≤ R / 2 ^ a := by
    rw [Nat.le_div_iff_mul_le hp, ← Nat.pow_add, Nat.sub_add_cancel ha]
    exact Nat.log2_self_le (by omega)
  have h2 : R.log2 - a ≤ (R / 2 ^ a).log2 := (Nat.le_log2 (by have := Nat.two_pow_pos (R.log2 - a); omega)).mpr h1
  omega
theorem lg_31 {R : Nat} (h : R < 4294967296) (h0 : 0 < R) : R.log2 ≤ 31 := by
  rcases Nat.lt_or_ge 31 R.log2 with q | q
  · have := (Nat.le_log2 (n := R) (k := 32) (by omega)).mp q
    omega
  · exact q
/-- c bits have been paid -/
def lgI (c : Nat) (e : ES) : Prop := 8 * eN e + 23 ≤ c + (eR e).log2
theorem lg_wdN : ∀ (k : Nat) (e : ES) (c : Nat), 0 < eR e → lgI c e → lgI c (wdN k e)
  | 0, e, c, _, h => h
  | k + 1, e, c, h0, h => by
    by_cases hr : eR e < 16777216
    · rw [wdN_s (show 0 < k + 1 from Nat.succ_pos k) hr, Nat.add_sub_cancel]
      refine lg_wdN k _ c (by show 0 < eR e * 256; omega) ?_
      have a := eN_sh (eR e * 256, e.2)
      have b := lg_256 h0
      have d : eN (eR e * 256, e.2) = eN e := rfl
      unfold lgI at h ⊢
      show 8 * eN (shS (eR e * 256, e.2)) + 23 ≤ c + (eR e * 256).log2
      omega
    · rw [wdN_e hr]; exact h
theorem lg_wd {e : ES} {c : Nat} (h0 : 0 < eR e) (h : lgI c e) : lgI c (wdS e) := lg_wdN 8 e c h0 h
/-- RANGE becomes smaller, by d bits at most -/
theorem lg_lo {R L R2 L2 Pn c d : Nat} {ca : Option Nat} {bs : List Nat} (h : lgI c (R, L, ca, Pn, bs)) (hd : R.log2 ≤ d + R2.log2) : lgI (c + d) (R2, L2, ca, Pn, bs) := by
  unfold lgI at h ⊢
  show 8 * (bs.length + Pn + 1) + 23 ≤ c + d + R2.log2
  have : 8 * (bs.length + Pn + 1) + 23 ≤ c + R.log2 := h
  omega
theorem lg_nr {R L t cc f Pn c : Nat} {ca : Option Nat} {bs : List Nat} (h : lgI c (R, L, ca, Pn, bs)) (hR : 8192 ≤ R) (ht : 0 < t) (ht2 : t ≤ 8192) (hf : 0 < f) : lgI (c + 13) (wdS (R / t * f, L + R / t * cc, ca, Pn, bs)) := by
  have h1 : R / 8192 ≤ R / t := Nat.div_le_div_left ht2 ht
  have h2 : 0 < R / 8192 := Nat.div_pos hR (by decide)
  have h3 : R / t * 1 ≤ R / t * f := Nat.mul_le_mul_left _ hf
  refine lg_wd (by show 0 < R / t * f; omega) (lg_lo h ?_)
  have h4 := lg_div (R := R) (a := 13) hR
  have h5 := lg_mono (a := R / 2 ^ 13) (b := R / t * f) h2 (show R / 8192 ≤ R / t * f by omega)
  omega
theorem lg_bt {p b R L Pn c : Nat} {ca : Option Nat} {bs : List Nat} (h : lgI c (R, L, ca, Pn, bs)) (hR : 16777216 ≤ R) (hp1 : 1 ≤ p) (hp2 : p ≤ 2047) : lgI (c + 11) (wdS (btS p b R L ca Pn bs)) := by
  have h2 : 0 < R / 2048 := Nat.div_pos (by omega) (by decide)
  have h3 : R / 2048 * 1 ≤ R / 2048 * p := Nat.mul_le_mul_left _ hp1
  have h4 : R / 2048 * p ≤ R / 2048 * 2047 := Nat.mul_le_mul_left _ hp2
  have h5 := lg_div (R := R) (a := 11) (by omega)
  unfold btS
  split
  · refine lg_wd (by show 0 < R / 2048 * p; omega) (lg_lo h ?_)
    have := lg_mono (a := R / 2 ^ 11) (b := R / 2048 * p) h2 (show R / 2048 ≤ R / 2048 * p by omega)
    omega
  · refine lg_wd (by show 0 < R - R / 2048 * p; omega) (lg_lo h ?_)
    have := lg_mono (a := R / 2 ^ 11) (b := R - R / 2048 * p) h2 (show R / 2048 ≤ R - R / 2048 * p by omega)
    omega
theorem lg_vb (v : Nat) : ∀ (b : Nat) (e : ES) (c : Nat), eInv e → lgI c e → lgI (c + b) (vbN v b e)
  | 0, e, c, _, h => h
  | b + 1, e, c, hi, h => by
    obtain ⟨r, l, ca, p, bs⟩ := e
    have h1 : 16777216 ≤ r := hi.1
    have h2 := lg_div (R := r) (a := 1) (by omega)
    have z := lg_vb v b (wdS (r / 2, (if v / 2 ^ b % 2 = 1 then l + r / 2 else l), ca, p, bs)) (c + 1) (vb_inv hi (v / 2 ^ b % 2 = 1)).1 (lg_wd (by show 0 < r / 2; omega) (lg_lo h h2))
    rw [show c + (b + 1) = c + 1 + b by omega]
    exact z
theorem lg_sp (sh t : Nat) (hs : 1 ≤ sh) : ∀ (k nd : Nat) (e : ES) (C : Nat → Nat) (c : Nat), k ≤ 6 → nd < 2 ^ (7 - k) → eInv e → (∀ j, j < 64 → 1 ≤ C j ∧ C j ≤ 2047) → lgI c e → lgI (c + 11 * k) (spN sh t k nd e C).1
  | 0, nd, e, C, c, _, _, _, _, h => h
  | k + 1, nd, e, C, c, hk, hnd, hi, hC, h => by
    have hn : nd < 64 := Nat.lt_of_lt_of_le hnd (Nat.le_trans (Nat.pow_le_pow_right (by decide) (show 7 - (k + 1) ≤ 6 by omega)) (by decide))
    obtain ⟨r, l, ca, p, bs⟩ := e
    have hb2 := Nat.mod_lt (t / 2 ^ k) (show 0 < 2 by decide)
    have z := lg_sp sh t hs k (2 * nd + t / 2 ^ k % 2) (wdS (btS (C nd) (t / 2 ^ k % 2) r l ca p bs)) (upN C nd (mvC sh (t / 2 ^ k % 2) (C nd))) (c + 11) (by omega)
      (by have e7 : 7 - k = (7 - (k + 1)) + 1 := by omega
          rw [e7, Nat.pow_succ]; omega) (bt_inv (e := (r, l, ca, p, bs)) hi (hC nd hn).1 (hC nd hn).2).1 (ch_up hs hC) (lg_bt h hi.1 (hC nd hn).1 (hC nd hn).2)
    rw [show c + 11 * (k + 1) = c + 11 + 11 * k by omega]
    exact z
theorem shK_N : ∀ (k : Nat) (e : ES), eN (shK k e) ≤ eN e + k
  | 0, e => Nat.le_refl _
  | k + 1, e => by
    have a := shK_N k (shS e)
    have b := eN_sh e
    show eN (shK k (shS e)) ≤ _
    omega
theorem shK_oct : ∀ (k : Nat) (e : ES), oct (eB e) → oct (eB (shK k e))
  | 0, e, h => h
  | k + 1, e, h => shK_oct k (shS e) (oct_shB h)
theorem tpK_oct : ∀ (k : Nat) (e : Nat × List Nat), oct e.2 → oct (tpK k e).2
  | 0, e, h => h
  | k + 1, e, h => tpK_oct k _ (oct_app h (oct_one (Nat.mod_lt _ (by decide))))
theorem tpK_len : ∀ (k : Nat) (e : Nat × List Nat), (tpK k e).2.length = e.2.length + k
  | 0, e => rfl
  | k + 1, e => by
    have a := tpK_len k (mvL e.1, e.2 ++ [e.1 / 16777216 % 256])
    rw [show ((mvL e.1, e.2 ++ [e.1 / 16777216 % 256]) : Nat × List Nat).2.length = e.2.length + 1 from by rw [List.length_append, List.length_singleton]] at a
    show (tpK k _).2.length = _
    omega
theorem lg_len {R L Pn c : Nat} {ca : Option Nat} {bs : List Nat} (h : lgI c (R, L, ca, Pn, bs)) (hc : c ≤ 43200) (h0 : 0 < R) (hR : R < 4294967296) : (eB (shK 5 (R, L, ca, Pn, bs))).length ≤ 6000 := by
  have a : 8 * eN (R, L, ca, Pn, bs) + 23 ≤ c + R.log2 := h
  have b := lg_31 hR h0
  have d := shK_N 5 (R, L, ca, Pn, bs)
  have e : (eB (shK 5 (R, L, ca, Pn, bs))).length + eP (shK 5 (R, L, ca, Pn, bs)) + 1 = eN (shK 5 (R, L, ca, Pn, bs)) := rfl
  omega
/-! THE TIE of class and reference: bytes -/
/-- the message of forms 0 and 2 -/
def MT0 (fit : Int32) (xlow xrange : Int64) (xcache xpending rwn : Int32) (rwf : Nat → Int32) (fLow fRange : Int64) (fCache fPend fGoes : Int32) (vGoing : Nat → Int32) : Prop := ∃ (ki Rg L : Nat) (ca : Option Nat) (Pn : Nat) (bs : List Nat), ki ≤ 600 ∧ fit = nI ki ∧ xlow = lN L ∧ xrange = lN Rg ∧ xcache = caI ca ∧ xpending = nI Pn ∧ rwn = nI bs.length ∧ fLow = lN L ∧ fRange = lN Rg ∧ fCache = caI ca ∧ fPend = nI Pn ∧ fGoes = nI bs.length ∧ gIs rwf bs ∧ gIs vGoing bs ∧ eInv (Rg, L, ca, Pn, bs) ∧ oct bs ∧ bs.length + Pn ≤ 12 * ki ∧ lgI (72 * ki) (Rg, L, ca, Pn, bs)
theorem MT0_of {e : ES} {ki c : Nat} {f v2 : Nat → Int32} (hk : ki < 600) (he : eInv e) (ho : oct (eB e)) (hf : gIs f (eB e)) (hg : gIs v2 (eB e)) (hl : eN e ≤ 12 * ki + 13) (hc : lgI c e) (hc2 : c ≤ 72 * ki + 72) : MT0 (nI (ki + 1)) (lN (eL e)) (lN (eR e)) (caI (eC e)) (nI (eP e)) (nI (eB e).length) f (lN (eL e)) (lN (eR e)) (caI (eC e)) (nI (eP e)) (nI (eB e).length) v2 := by
  obtain ⟨r, l, ca, p, bs⟩ := e
  have h2 : bs.length + p + 1 ≤ 12 * ki + 13 := hl
  refine ⟨ki + 1, r, l, ca, p, bs, by omega, rfl, rfl, rfl, rfl, rfl, rfl, rfl, rfl, rfl, rfl, rfl, hf, hg, he, ho, by omega, ?_⟩
  unfold lgI at hc ⊢
  omega
theorem MT0_0 (f vGoing : Nat → Int32) : MT0 0 0 4294967295 (-1) 0 0 f 0 4294967295 (-1) 0 0 vGoing := ⟨0, 4294967295, 0, none, 0, [], by decide, rfl, rfl, rfl, rfl, rfl, rfl, rfl, rfl, rfl, rfl, rfl, fun i h => absurd h (Nat.not_lt_zero i), fun i h => absurd h (Nat.not_lt_zero i), ⟨by decide, by decide, by decide, fun _ h => by cases h⟩, oct_iff.mpr (fun _ z => absurd z List.not_mem_nil), by decide, by unfold lgI; decide⟩
/-- the message of form 1 -/
def MT1 (fit : Int32) (xlow xrange : Int64) (rwn : Int32) (rwf : Nat → Int32) (fLow fRange : Int64) (fGoes : Int32) (vGoing : Nat → Int32) : Prop := ∃ (ki Rg L : Nat) (bs : List Nat), ki ≤ 600 ∧ fit = nI ki ∧ xlow = lN L ∧ xrange = lN Rg ∧ rwn = nI bs.length ∧ fLow = lN L ∧ fRange = lN Rg ∧ fGoes = nI bs.length ∧ gIs rwf bs ∧ gIs vGoing bs ∧ pOk Rg L ∧ 65536 ≤ Rg ∧ oct bs ∧ bs.length ≤ 4 * ki
theorem MT1_of {e : PS} {ki : Nat} {f v2 : Nat → Int32} (hk : ki < 600) (hp : pOk e.1 e.2.1) (h6 : 65536 ≤ e.1) (ho : oct e.2.2) (hf : gIs f e.2.2) (hg : gIs v2 e.2.2) (hl : e.2.2.length ≤ 4 * ki + 4) : MT1 (nI (ki + 1)) (lN e.2.1) (lN e.1) (nI e.2.2.length) f (lN e.2.1) (lN e.1) (nI e.2.2.length) v2 := ⟨ki + 1, e.1, e.2.1, e.2.2, by omega, rfl, rfl, rfl, rfl, rfl, rfl, rfl, hf, hg, hp, h6, ho, by omega⟩
theorem MT1_0 (f vGoing : Nat → Int32) : MT1 0 0 4294967295 0 f 0 4294967295 0 vGoing := ⟨0, 4294967295, 0, [], by decide, rfl, rfl, rfl, rfl, rfl, rfl, rfl, fun i h => absurd h (Nat.not_lt_zero i), fun i h => absurd h (Nat.not_lt_zero i), ⟨by decide, by decide, by decide, fun h => absurd h (by decide)⟩, by decide, oct_iff.mpr (fun _ z => absurd z List.not_mem_nil), by decide⟩
/-- items as the class keeps them -/
def kI (ms : List MB) (sof : Nat → Option Nat) (snf swf : Nat → Int32) (i : Nat) (it : It) : Prop := (it.1 = 0 ∧ sof i = none ∧ snf i = nI it.2.2 ∧ swf i = nI it.2.1) ∨ (¬ it.1 = 0 ∧ snf i = nI it.2.2 ∧ ∃ x, ms[it.2.1]? = some x ∧ sof i = some (mS x).1)
/-- the message of forms 3 and 4 -/
def MT3 (M bm : Nat) (ms : List MB) (N : Nat → Nat) (fit xkept : Int32) (sof : Nat → Option Nat) (snf swf : Nat → Int32) (fGoes : Int32) (vIM vIW vNow : Nat → Int32) : Prop := ∃ its : List It, its.length ≤ 600 ∧ fit = nI its.length ∧ xkept = nI its.length ∧ fGoes = 0 ∧ itIs vIM vIW its ∧ (∀ i, i < its.length → itOk M bm ms.length N vNow (itA its i)) ∧ ∀ i, i < its.length → kI ms sof snf swf i (itA its i)
theorem MT3_0 (M bm : Nat) (ms : List MB) (N : Nat → Nat) (sof : Nat → Option Nat) (snf swf vIM vIW vNow : Nat → Int32) : MT3 M bm ms N 0 0 sof snf swf 0 vIM vIW vNow := ⟨[], by decide, rfl, rfl, rfl, fun i h => absurd h (Nat.not_lt_zero i), fun i h => absurd h (Nat.not_lt_zero i), fun i h => absurd h (Nat.not_lt_zero i)⟩
theorem kI_up {ms : List MB} {sof : Nat → Option Nat} {snf swf : Nat → Int32} {i k : Nat} {it : It} {a : Option Nat} {b c : Int32} (h : kI ms sof snf swf i it) (hik : i ≠ k) : kI ms (va_up sof k a) (upd snf k b) (upd swf k c) i it := by
  unfold kI at h ⊢
  rw [va_up_ne _ _ hik, pk_un hik, pk_un hik]
  exact h
theorem MT3_add {M bm : Nat} {ms : List MB} {N : Nat → Nat} {its : List It} {it : It} {sof : Nat → Option Nat} {snf swf vIM vIW vNow : Nat → Int32} {a : Option Nat} {b c p1 p2 : Int32} (hl : its.length < 600) (hi : itIs vIM vIW its) (hok : ∀ i, i < its.length → itOk M bm ms.length N vNow (itA its i)) (hkI : ∀ i, i < its.length → kI ms sof snf swf i (itA its i)) (e1 : p1 = itM it) (e2 : p2 = itW it) (ho : itOk M bm ms.length N vNow it) (hk : kI ms (va_up sof its.length a) (upd snf its.length b) (upd swf its.length c) its.length it) :
    MT3 M bm ms N (nI (its.length + 1)) (nI (its.length + 1)) (va_up sof its.length a) (upd snf its.length b) (upd swf its.length c) 0 (upd vIM its.length p1) (upd vIW its.length p2) vNow := by
  obtain ⟨its2, h1, h2, h3, h4, h5⟩ := MI3_add hl hi hok rfl rfl e1 e2 ho
  refine ⟨its ++ [it], by rw [List.length_append, List.length_singleton]; omega, by rw [List.length_append]; rfl, by rw [List.length_append]; rfl, rfl, ?_, ?_, ?_⟩
  · intro i hi9
    rw [List.length_append, List.length_singleton] at hi9
    by_cases e : i = its.length
    · subst e; rw [itA_e, pk_us, pk_us]; exact ⟨e1, e2⟩
    · rw [itA_l (by omega), pk_un e, pk_un e]; exact hi i (by omega)
  · intro i hi9
    rw [List.length_append, List.length_singleton] at hi9
    by_cases e : i = its.length
    · subst e; rw [itA_e]; exact ho
    · rw [itA_l (by omega)]; exact hok i (by omega)
  · intro i hi9
    rw [List.length_append, List.length_singleton] at hi9
    by_cases e : i = its.length
    · subst e; rw [itA_e]; exact hk
    · rw [itA_l (by omega)]; exact kI_up (hkI i (by omega)) e
/-- of all models -/
theorem mt_set {P P2 : Nat → MB → Prop} {a b : List MB} {x y : MB} (h : ∀ (i : Nat) (u : MB), (a ++ x :: b)[i]? = some u → P i u) (hk : ∀ i u, i ≠ a.length → P i u → P2 i u) (hy : P2 a.length y) : ∀ (i : Nat) (u : MB), (a ++ y :: b)[i]? = some u → P2 i u := by
  intro i u hu
  by_cases e : i = a.length
  · subst e
    rw [mb_get] at hu
    cases hu
    exact hy
  · refine hk i u e (h i u ?_)
    rcases Nat.lt_or_ge i a.length with q | q
    · rw [List.getElem?_append_left q] at hu ⊢; exact hu
    · rw [List.getElem?_append_right q] at hu ⊢
      obtain ⟨d, hd⟩ : ∃ d, i - a.length = d + 1 := ⟨i - a.length - 1, by omega⟩
      rw [hd, List.getElem?_cons_succ] at hu ⊢
      exact hu
theorem mt_push {P P2 : Nat → MB → Prop} {ms : List MB} {y : MB} (h : ∀ (i : Nat) (u : MB), ms[i]? = some u → P i u) (hk : ∀ i u, i < ms.length → P i u → P2 i u) (hy : P2 ms.length y) : ∀ (i : Nat) (u : MB), (ms ++ [y])[i]? = some u → P2 i u := by
  intro i u hu
  rcases Nat.lt_or_ge i ms.length with q | q
  · rw [List.getElem?_append_left q] at hu
    exact hk i u q (h i u hu)
  · have hl := (List.getElem?_eq_some_iff.mp hu).1
    rw [List.length_append, List.length_singleton] at hl
    have e : i = ms.length := by omega
    subst e
    rw [List.getElem?_append_right (Nat.le_refl _), Nat.sub_self] at hu
    cases hu
    exact hy
theorem mA_get {ms ms2 : List MB} {k : Nat} {x : MB} (e : ms2.map mbA = ms.map mbA) (h : ms[k]? = some x) : ∃ y, ms2[k]? = some y ∧ mbA y = mbA x := by
  have h1 : (ms.map mbA)[k]? = some (mbA x) := by rw [List.getElem?_map, h]; rfl
  rw [← e, List.getElem?_map] at h1
  cases hy : ms2[k]? with
  | none => rw [hy] at h1; cases h1
  | some y => rw [hy] at h1; exact ⟨y, rfl, Option.some.inj h1⟩
theorem kI_ms {ms ms2 : List MB} {sof : Nat → Option Nat} {snf swf : Nat → Int32} {i : Nat} {it : It} (e : ms2.map mbA = ms.map mbA) (h : kI ms sof snf swf i it) : kI ms2 sof snf swf i it := by
  rcases h with q | ⟨q1, q2, x, q3, q4⟩
  · exact Or.inl q
  · obtain ⟨y, h1, h2⟩ := mA_get e q3
    refine Or.inr ⟨q1, q2, y, h1, ?_⟩
    rw [q4]
    exact congrArg some (congrArg Prod.snd h2).symm
theorem MT3_ms {M bm : Nat} {ms ms2 : List MB} {N : Nat → Nat} {fit xkept fGoes : Int32} {sof : Nat → Option Nat} {snf swf vIM vIW vNow : Nat → Int32} (e : ms2.map mbA = ms.map mbA) (h : MT3 M bm ms N fit xkept sof snf swf fGoes vIM vIW vNow) : MT3 M bm ms2 N fit xkept sof snf swf fGoes vIM vIW vNow := by
  obtain ⟨its, h1, h2, h3, h4, h5, h6, h7⟩ := h
  have hl : ms2.length = ms.length := by have := congrArg List.length e; rwa [List.length_map, List.length_map] at this
  exact ⟨its, h1, h2, h3, h4, h5, fun i hi => by rw [hl]; exact h6 i hi, fun i hi => kI_ms e (h7 i hi)⟩
theorem MT3_any {M bm : Nat} {ms ms2 : List MB} {N N2 : Nat → Nat} {fit xkept fGoes : Int32} {sof : Nat → Option Nat} {snf swf vIM vIW vNow vNow2 : Nat → Int32} (h : MT3 M bm ms N fit xkept sof snf swf fGoes vIM vIW vNow) (hi : ¬ 0 < fit) : MT3 M bm ms2 N2 fit xkept sof snf swf fGoes vIM vIW vNow2 := by
  obtain ⟨its, h1, h2, h3, h4, h5, h6, h7⟩ := h
  have e : its.length = 0 := by
    rcases Nat.eq_zero_or_pos its.length with z | z
    · exact z
    · exact absurd (show 0 < fit by rw [h2]; exact nI_pos0 z (by omega)) hi
  exact ⟨its, h1, h2, h3, h4, h5, fun i hlt => absurd hlt (by omega), fun i hlt => absurd hlt (by omega)⟩
theorem MT3_new {M bm ns : Nat} {ms : List MB} {y : MB} {N : Nat → Nat} {fit xkept fGoes : Int32} {sof : Nat → Option Nat} {snf swf vIM vIW vNow f2 : Nat → Int32} (h : MT3 M bm ms N fit xkept sof snf swf fGoes vIM vIW vNow) (hN : ∀ i, i < ms.length → N i ≤ 64) (ho : sgO f2 vNow (64 * ms.length) 64) : MT3 M bm (ms ++ [y]) (upN N ms.length ns) fit xkept sof snf swf fGoes vIM vIW f2 := by
  obtain ⟨its, h1, h2, h3, h4, h5, h6, h7⟩ := h
  refine ⟨its, h1, h2, h3, h4, h5, fun i hlt => ?_, fun i hlt => ?_⟩
  · obtain ⟨its2, -, -, -, -, -⟩ := MI3_new (ns := ns) (f2 := f2) (⟨its, h1, h2, h4, h5, h6⟩ : MI3 M bm ms.length N fit fGoes vIM vIW vNow) hN ho
    rw [List.length_append, List.length_singleton]
    rcases h6 i hlt with q | ⟨q1, q2, q3, q4, q5, q6⟩
    · exact Or.inl q
    · generalize hit : itA its i = it at q1 q2 q3 q4 q5 q6 ⊢
      have hn := hN _ q2
      have hne : it.2.1 ≠ ms.length := by omega
      have hF : ∀ k, k < N it.2.1 → Fvw f2 it.2.1 k = Fvw vNow it.2.1 k := fun k hk => by
        unfold Fvw
        rw [ho _ (by omega)]
      refine Or.inr ⟨q1, by omega, by rw [upN_n _ hne]; exact q3, ?_, ?_, ?_⟩
      · rw [hF _ q3]; exact q4
      · rw [upN_n _ hne, ns_cg hF]; exact q5
      · rw [upN_n _ hne]
        intro k hk
        rw [ho _ (by omega), q6 k hk, hF k hk]
  · rcases h7 i hlt with q | ⟨q1, q2, x, q3, q4⟩
    · exact Or.inl q
    · refine Or.inr ⟨q1, q2, x, ?_, q4⟩
      rw [List.getElem?_append_left (List.getElem?_eq_some_iff.mp q3).1]
      exact q3
/-- what the class's items are, for its end -/
theorem kp_of {cI : ClassId} {ob : OB → Nat → (Nat → Nat) → Prop} {M bm : Nat} {ms : List MB} {N : Nat → Nat} {vNow : Nat → Int32} {sof : Nat → Option Nat} {snf swf : Nat → Int32} {its : List It} (hok : ∀ i, i < its.length → itOk M bm ms.length N vNow (itA its i)) (hkI : ∀ i, i < its.length → kI ms sof snf swf i (itA its i)) (hob : ∀ (j : Nat) (x : MB), ms[j]? = some x → ns (Fvw vNow j) (N j) = M → sgI vNow (64 * j) (N j) (Fvw vNow j) → ob (mS x) (N j) (Fvw vNow j)) : kpt cI ob M bm N (Fvw vNow) sof snf swf (mbsC cI ms) its := by
  intro i hi
  rcases hkI i hi with ⟨q1, q2, q3, q4⟩ | ⟨q1, q2, x, q3, q4⟩
  · refine Or.inl ⟨q1, q2, q3, q4, ?_⟩
    rcases hok i hi with z | z
    · exact z.2
    · exact absurd q1 z.1
  · right
    rcases hok i hi with z | z
    · exact absurd z.1 q1
    · obtain ⟨z1, z2, z3, z4, z5, z6⟩ := z
      obtain ⟨p, q, e2⟩ := List.append_of_mem (List.mem_of_getElem? q3)
      refine ⟨q1, q2, z3, z4, z5, mS x, mbH cI x ++ (obC cI (mH x) ++ (mbsC cI p ++ mbsC cI q)), q4, hob _ x q3 z5 z6, ?_⟩
      rw [e2, mb_eq]
      exact pm_5 (mbsC cI p) (mbH cI x) (obC cI (mS x)) (obC cI (mH x)) (mbsC cI q)
theorem ct_set {kf vC : Nat → Int32} {n j t k : Nat} {x : Int32} (h : ∀ k, k < n → kf k = vC (64 * j + k)) (hk : k < n) : upd kf t x k = upd vC (64 * j + t) x (64 * j + k) := by
  by_cases e : k = t
  · subst e; rw [pk_us, pk_us]
  · rw [pk_un e, pk_un (by omega)]; exact h k hk
theorem ct_out {vC : Nat → Int32} {n j t : Nat} {x : Int32} (ht : t < n) (hn : n ≤ 64) : sgO (upd vC (64 * j + t) x) vC (64 * j) 64 := fun i hi => pk_un (by omega)
theorem sg_csN (z : Int32) {n : Nat} (hn : n < 2 ^ 30) : (z < 0 ∨ nI n ≤ z) ∨ ∃ t, t < n ∧ z = nI t := by
  by_cases h1 : z < 0
  · exact Or.inl (Or.inl h1)
  · by_cases h2 : nI n ≤ z
    · exact Or.inl (Or.inr h2)
    · right
      obtain ⟨t, ht, rfl⟩ := nI_of h1
      exact ⟨t, nI_lt' ht h2, rfl⟩
theorem tk_cs (z : Int32) {n : Nat} (hn : n ≤ 6000) : (z < 0 ∨ nI n < z - 2) ∨ ∃ ll, ¬ z < 0 ∧ z - 2 ≤ nI n ∧ ll ≤ n ∧ (z = 1 → ll = n) ∧ (¬ z = 1 → (if (0 : Int32) < z - 2 then z - 2 else 0) = nI ll) := by
  by_cases h1 : z < 0
  · exact Or.inl (Or.inl h1)
  · by_cases h2 : nI n < z - 2
    · exact Or.inl (Or.inr h2)
    · right
      have h3 := Int32.not_lt.mp h2
      by_cases h4 : z = 1
      · exact ⟨n, h1, h3, Nat.le_refl _, fun _ => rfl, fun q => absurd h4 q⟩
      · by_cases h5 : (0 : Int32) < z - 2
        · obtain ⟨t, ht, e⟩ := nI_of (x := z - 2) (fun q => absurd h5 (Int32.not_lt.mpr (Int32.le_of_lt q)))
          refine ⟨t, h1, h3, ?_, fun q => absurd q h4, fun _ => by rw [if_pos h5, e]⟩
          rw [e] at h3
          exact (nI_cmp ht (by omega)).mp h3
        · exact ⟨0, h1, h3, Nat.zero_le _, fun q => absurd q h4, fun _ => by rw [if_neg h5]; rfl⟩
section SPL
variable {is : List Nat} {vIn v2 : Nat → Int32} {p1 p2 r : Int32}
theorem sp_A (hno : ¬ isN is.length p1) (h : (¬ isN is.length p1 ∧ r = -1 ∧ v2 = vIn) ∨ (isN is.length p1 ∧ ¬ (0 ≤ p2 ∧ p2 ≤ 255) ∧ r = -2 ∧ v2 = vIn) ∨ (isN is.length p1 ∧ ∃ t, t < 256 ∧ p2 = nI t ∧ r = nI (byA is p1.toNatClampNeg ^^^ t) ∧ gIs v2 (is.set p1.toNatClampNeg (byA is p1.toNatClampNeg ^^^ t)))) : r = -1 ∧ v2 = vIn := by
  rcases h with q | q | q
  · exact q.2
  · exact absurd q.1 hno
  · exact absurd q.1 hno
theorem sp_V {i7 : Nat} (hl : is.length < 2 ^ 30) (hi : i7 < is.length) (hv : p2 < 0 ∨ nI 255 < p2) (h : (¬ isN is.length (nI i7) ∧ r = -1 ∧ v2 = vIn) ∨ (isN is.length (nI i7) ∧ ¬ (0 ≤ p2 ∧ p2 ≤ 255) ∧ r = -2 ∧ v2 = vIn) ∨ (isN is.length (nI i7) ∧ ∃ t, t < 256 ∧ p2 = nI t ∧ r = nI (byA is (nI i7).toNatClampNeg ^^^ t) ∧ gIs v2 (is.set (nI i7).toNatClampNeg (byA is (nI i7).toNatClampNeg ^^^ t)))) : r = -2 ∧ v2 = vIn := by
  have hy : isN is.length (nI i7) := (isN_iff hl).mpr ⟨i7, hi, rfl⟩
  rcases h with q | q | ⟨-, t, ht, e, -⟩
  · exact absurd hy q.1
  · exact q.2.2
  · exfalso
    rcases hv with z | z
    · rw [e] at z; exact absurd z (nI_pos (by omega))
    · rw [e] at z; exact absurd (nI_le (b := 255) (by omega) (by decide)) (Int32.not_le.mpr z)
theorem sp_L {i7 t7 : Nat} (hl : is.length < 2 ^ 30) (hi : i7 < is.length) (ht7 : t7 ≤ 255) (h : (¬ isN is.length (nI i7) ∧ r = -1 ∧ v2 = vIn) ∨ (isN is.length (nI i7) ∧ ¬ (0 ≤ nI t7 ∧ nI t7 ≤ 255) ∧ r = -2 ∧ v2 = vIn) ∨ (isN is.length (nI i7) ∧ ∃ t, t < 256 ∧ nI t7 = nI t ∧ r = nI (byA is (nI i7).toNatClampNeg ^^^ t) ∧ gIs v2 (is.set (nI i7).toNatClampNeg (byA is (nI i7).toNatClampNeg ^^^ t)))) : r = nI (is.getD i7 0 ^^^ t7) ∧ gIs v2 (is.set i7 (is.getD i7 0 ^^^ t7)) := by
  have hy : isN is.length (nI i7) := (isN_iff hl).mpr ⟨i7, hi, rfl⟩
  rcases h with q | q | ⟨-, t, ht, e, h1, h2⟩
  · exact absurd hy q.1
  · exact absurd ⟨nI_pos' (by omega), nI_le (b := 255) ht7 (by decide)⟩ q.2.1
  · have e2 : t7 = t := nI_inj (by omega) (by omega) e
    subst e2
    rw [nI_clamp (by omega)] at h1 h2
    exact ⟨h1, h2⟩
end SPL
theorem ns_cg2 {F G : Nat → Nat} {n : Nat} (h : ∀ k, k < n → F k = G k) : ∀ j, j ≤ n → ns F j = ns G j := fun j hj => ns_cg (fun k hk => h k (by omega))
theorem fs_cg {F G : Nat → Nat} {n u : Nat} (h : ∀ k, k < n → F k = G k) : ∀ k s, s + k ≤ n → fs F u k s = fs G u k s
  | 0, s, _ => rfl
  | k + 1, s, hs => by
    rw [fs, fs, ns_cg2 h (s + 1) (by omega), fs_cg h k (s + 1) (by omega)]
theorem plc_cg {F G : Nat → Nat} {n : Nat} (h : ∀ k, k < n → F k = G k) (p : Nat) : plc F n p = plc G n p := fs_cg h n 0 (by omega)
theorem Fv_cg {f : Nat → Int32} {j n : Nat} {F : Nat → Nat} (h1 : sgI f (64 * j) n F) (hb : ns F n < 2 ^ 31) : ∀ k, k < n → F k = Fvw f j k := fun k hk => (Fv_eq h1 hb k hk).symm
theorem e4_ok {km : Nat} {N : Nat → Nat} {vNow : Nat → Int32} {its : List It} (hok : ∀ i, i < its.length → itOk 512 9 km N vNow (itA its i)) : ∀ (k : Nat) (r : Nat × List Nat), k ≤ its.length → 512 ≤ r.1 → r.1 < 1024 → bt2 r.2 → (e4N (Fvw vNow) N its k r).2.length ≤ r.2.length + 9 * k ∧ bt2 (e4N (Fvw vNow) N its k r).2 := by
  intro k
  induction k with
  | zero => intro r _ _ _ hb; exact ⟨by show r.2.length ≤ _; omega, hb⟩
  | succ k ih =>
    intro r hk h1 h2 hb
    obtain ⟨V, ws⟩ := r
    rw [e4N]
    have hs : 512 ≤ (e4I (Fvw vNow) N (itA its k) (V, ws)).1 ∧ (e4I (Fvw vNow) N (itA its k) (V, ws)).1 < 1024 ∧ (e4I (Fvw vNow) N (itA its k) (V, ws)).2.length ≤ ws.length + 9 ∧ bt2 (e4I (Fvw vNow) N (itA its k) (V, ws)).2 := by
      unfold e4I
      rcases hok k (by omega) with ⟨q1, q2, q3, q4⟩ | ⟨q1, q2, q3, q4, q5, q6⟩
      · rw [if_pos q1]
        exact ⟨h1, h2, by show (ws ++ bvL _ _).length ≤ _; rw [List.length_append, bvL_len]; omega, bt2_app hb (bt2_bv _ _)⟩
      · rw [if_neg q1]
        exact t4I_ok q5 q3 q4 h1 h2 hb
    have z := ih _ (by omega) hs.1 hs.2.1 hs.2.2.2
    refine ⟨?_, z.2⟩
    have a := z.1
    have b := hs.2.2.1
    show _ ≤ ws.length + 9 * (k + 1)
    omega
theorem e4W_len {km : Nat} {N : Nat → Nat} {vNow : Nat → Int32} {its : List It} (hok : ∀ i, i < its.length → itOk 512 9 km N vNow (itA its i)) : (e4W (Fvw vNow) N its).length ≤ 9 * its.length + 9 := by
  have z := (e4_ok hok its.length (512, []) (Nat.le_refl _) (by decide) (by decide) (fun x h => absurd h List.not_mem_nil)).1
  unfold e4W
  rw [List.length_append, bvL_len]
  have : ((512, []) : Nat × List Nat).2.length = 0 := rfl
  omega
theorem e4W_bt {km : Nat} {N : Nat → Nat} {vNow : Nat → Int32} {its : List It} (hok : ∀ i, i < its.length → itOk 512 9 km N vNow (itA its i)) : bt2 (e4W (Fvw vNow) N its) := bt2_app (e4_ok hok its.length (512, []) (Nat.le_refl _) (by decide) (by decide) (fun x h => absurd h List.not_mem_nil)).2 (bt2_bv _ _)
theorem pkB_oct {ws : List Nat} (h : bt2 ws) : ∀ k, oct (pkB ws k)
  | 0 => oct_nil
  | k + 1 => oct_app (pkB_oct h k) (oct_one (Nat.lt_of_lt_of_le (byW_lt h _ 8) (by decide)))
theorem les_cg {n : Nat} : ∀ (r : Nat) {F G : Nat → Nat}, (∀ k, k < n → F k = G k) → ∀ k, k < n → lesN n r F k = lesN n r G k
  | 0, F, G, h, k, hk => h k hk
  | r + 1, F, G, h, k, hk => by
    rw [lesN, lesN, ns_cg h]
    split
    · exact h k hk
    · exact les_cg r (fun q hq => by unfold hv; rw [h q hq]) k hk
theorem gr_cg {F G : Nat → Nat} {n : Nat} (h : ∀ k, k < n → F k = G k) : ∀ j, j ≤ n → gr F j = gr G j
  | 0, _ => rfl
  | j + 1, hj => by
    have e := gr_cg h j (by omega)
    have hl : gr G j < n := by
      rcases Nat.eq_zero_or_pos j with z | z
      · subst z; show 0 < n; omega
      · have := gr_lt G z; omega
    rw [gr, gr, e, h _ hl, h j (by omega)]
theorem up_cg {F G : Nat → Nat} {n a b v w : Nat} (h : ∀ k, k < n → F k = G k) (ha : a = b) (hv : v = w) : ∀ k, k < n → upN F a v k = upN G b w k := by
  subst ha; subst hv
  intro k hk
  by_cases e : k = a
  · subst e; rw [upN_s, upN_s]
  · rw [upN_n _ e, upN_n _ e]; exact h k hk
theorem dec_cg {n : Nat} (hn : 0 < n) : ∀ (e : Nat) {F G : Nat → Nat}, (∀ k, k < n → F k = G k) → ∀ k, k < n → dec n e F k = dec n e G k
  | 0, F, G, h, k, hk => h k hk
  | e + 1, F, G, h, k, hk => by
    have g := gr_cg h n (Nat.le_refl _)
    rw [dec, dec]
    exact dec_cg hn e (up_cg h g (by rw [g, h _ (gr_lt G hn)])) k hk
theorem sc_cg {n M : Nat} (hn : 0 < n) {F G : Nat → Nat} (h : ∀ k, k < n → F k = G k) : ∀ k, k < n → sc n M F k = sc n M G k := by
  intro k hk
  have hs : ns F n = ns G n := ns_cg h
  have hG : ∀ k, k < n → scG n M F k = scG n M G k := fun k hk => by unfold scG; rw [h k hk, hs]
  have hS : ns (scG n M F) n = ns (scG n M G) n := ns_cg hG
  unfold sc
  rw [hs]
  split
  · exact h k hk
  · rw [hS]
    have hd := dec_cg hn (ns (scG n M G) n - M) hG
    generalize dec n (ns (scG n M G) n - M) (scG n M F) = A at hd ⊢
    generalize dec n (ns (scG n M G) n - M) (scG n M G) = B at hd ⊢
    have g := gr_cg hd n (Nat.le_refl _)
    have s2 : ns A n = ns B n := ns_cg hd
    unfold scE
    exact up_cg hd g (by rw [g, hd _ (gr_lt B hn), s2]) k hk
theorem pf_cg {fm n : Nat} {F G : Nat → Nat} (hn : 0 < n) (h : ∀ k, k < n → F k = G k) : ∀ k, k < pfN fm n → pf fm n F k = pf fm n G k := by
  intro k hk
  unfold pf
  unfold pfN at hk
  split
  · rfl
  · rename_i h2
    rw [if_neg h2] at hk
    split
    · exact les_cg 32 h k hk
    · exact sc_cg hn h k hk
theorem mt_setJ {P P2 : Nat → MB → Prop} {a b : List MB} {x y : MB} {j : Nat} (hla : a.length = j) (h : ∀ (i : Nat) (u : MB), (a ++ x :: b)[i]? = some u → P i u) (hk : ∀ i u, i ≠ j → P i u → P2 i u) (hy : P2 j y) : ∀ (i : Nat) (u : MB), (a ++ y :: b)[i]? = some u → P2 i u := by
  subst hla
  exact mt_set h hk hy
end
section
def mT_Carries (n : Nat) (vC vN : Nat → Int32) (j : Nat) (x : MB) : Prop := 2 ≤ n ∧ n ≤ 64 ∧ ∃ (mo ka : Nat) (kf : Nat → Int32) (oo : Nat) (oca opa : Nat) (ocf opf : Nat → Int32) (F : Nat → Nat) (hh : OB), x = (mo, ka, n, kf, (oo, nI n, nI (ns F n), 0, oca, opa, n, ocf, 0, opf), hh) ∧ (∀ k, k < n → kf k = vC (64 * j + k)) ∧ tabI 0 n vN j F ∧ tbI ocf n F
theorem mT_keep_Carries {n a j : Nat} {vC vC2 vN vN2 : Nat → Int32} {x : MB} (h : mT_Carries n vC vN j x) (hC : sgO vC2 vC (64 * a) 64) (hN : sgO vN2 vN (64 * a) 64) (ha : a ≠ j) : mT_Carries n vC2 vN2 j x := by
  obtain ⟨h1, h2, mo, ka, kf, oo, oca, opa, ocf, opf, F, hh, e, q1, q2, q3⟩ := h
  exact ⟨h1, h2, mo, ka, kf, oo, oca, opa, ocf, opf, F, hh, e, fun k hk => by rw [q1 k hk, hC _ (by omega)], tab_keep hN ha h2 q2, q3⟩
theorem mT_TB_Carries {ms : List MB} {N : Nat → Nat} {vC vN : Nat → Int32} (h : ∀ (j : Nat) (x : MB), ms[j]? = some x → mT_Carries (N j) vC vN j x) : TB 0 ms.length N vN := fun j hj => by
  obtain ⟨h1, h2, mo, ka, kf, oo, oca, opa, ocf, opf, F, hh, e, q1, q2, q3⟩ := h j _ (List.getElem?_eq_getElem hj)
  exact ⟨F, q2⟩
theorem pk_Carries {ms : List MB} {N : Nat → Nat} {vC vN : Nat → Int32} {mf : Nat → Option Nat} {j : Nat} (h : ∀ (j : Nat) (x : MB), ms[j]? = some x → mT_Carries (N j) vC vN j x) (hmo : ∀ x ∈ ms, mbOk x) (hmf : mfOk mf ms) (hj : j < ms.length) (h8 : ms.length ≤ 8) : ∃ (a b : List MB) (mo ka : Nat) (kf : Nat → Int32) (oo : Nat) (oca opa : Nat) (ocf opf : Nat → Int32) (F : Nat → Nat) (hh : OB), ms = a ++ (mo, ka, N j, kf, (oo, nI (N j), nI (ns F (N j)), 0, oca, opa, (N j), ocf, 0, opf), hh) :: b ∧ a.length = j ∧ mf j = some mo ∧ obOk hh ∧ 2 ≤ N j ∧ N j ≤ 64 ∧ (∀ k, k < (N j) → kf k = vC (64 * j + k)) ∧ tabI 0 (N j) vN j F ∧ tbI ocf (N j) F := by
  obtain ⟨a, x, b, e, hl⟩ := mb_at hj
  obtain ⟨h1, h2, mo, ka, kf, oo, oca, opa, ocf, opf, F, hh, ex, q⟩ := h j x (by rw [e, ← hl]; exact mb_get)
  have hx := (hmo x (by rw [e]; exact List.mem_append_right _ List.mem_cons_self)).2.2
  have hm : mf j = some x.1 := mf_someE hmf e hl (by omega)
  subst ex
  exact ⟨a, b, mo, ka, kf, oo, oca, opa, ocf, opf, F, hh, e, hl, hm, hx, h1, h2, q⟩
def mT_NoCarries (n : Nat) (vC vN : Nat → Int32) (j : Nat) (x : MB) : Prop := 2 ≤ n ∧ n ≤ 64 ∧ ∃ (mo ka : Nat) (kf : Nat → Int32) (oo : Nat) (oca opa : Nat) (ocf opf : Nat → Int32) (F : Nat → Nat) (hh : OB), x = (mo, ka, n, kf, (oo, nI n, nI (ns F n), 0, oca, opa, n, ocf, 0, opf), hh) ∧ (∀ k, k < n → kf k = vC (64 * j + k)) ∧ tabI 1 n vN j F ∧ tbI ocf n F
theorem mT_keep_NoCarries {n a j : Nat} {vC vC2 vN vN2 : Nat → Int32} {x : MB} (h : mT_NoCarries n vC vN j x) (hC : sgO vC2 vC (64 * a) 64) (hN : sgO vN2 vN (64 * a) 64) (ha : a ≠ j) : mT_NoCarries n vC2 vN2 j x := by
  obtain ⟨h1, h2, mo, ka, kf, oo, oca, opa, ocf, opf, F, hh, e, q1, q2, q3⟩ := h
  exact ⟨h1, h2, mo, ka, kf, oo, oca, opa, ocf, opf, F, hh, e, fun k hk => by rw [q1 k hk, hC _ (by omega)], tab_keep hN ha h2 q2, q3⟩
theorem mT_TB_NoCarries {ms : List MB} {N : Nat → Nat} {vC vN : Nat → Int32} (h : ∀ (j : Nat) (x : MB), ms[j]? = some x → mT_NoCarries (N j) vC vN j x) : TB 1 ms.length N vN := fun j hj => by
  obtain ⟨h1, h2, mo, ka, kf, oo, oca, opa, ocf, opf, F, hh, e, q1, q2, q3⟩ := h j _ (List.getElem?_eq_getElem hj)
  exact ⟨F, q2⟩
theorem pk_NoCarries {ms : List MB} {N : Nat → Nat} {vC vN : Nat → Int32} {mf : Nat → Option Nat} {j : Nat} (h : ∀ (j : Nat) (x : MB), ms[j]? = some x → mT_NoCarries (N j) vC vN j x) (hmo : ∀ x ∈ ms, mbOk x) (hmf : mfOk mf ms) (hj : j < ms.length) (h8 : ms.length ≤ 8) : ∃ (a b : List MB) (mo ka : Nat) (kf : Nat → Int32) (oo : Nat) (oca opa : Nat) (ocf opf : Nat → Int32) (F : Nat → Nat) (hh : OB), ms = a ++ (mo, ka, N j, kf, (oo, nI (N j), nI (ns F (N j)), 0, oca, opa, (N j), ocf, 0, opf), hh) :: b ∧ a.length = j ∧ mf j = some mo ∧ obOk hh ∧ 2 ≤ N j ∧ N j ≤ 64 ∧ (∀ k, k < (N j) → kf k = vC (64 * j + k)) ∧ tabI 1 (N j) vN j F ∧ tbI ocf (N j) F := by
  obtain ⟨a, x, b, e, hl⟩ := mb_at hj
  obtain ⟨h1, h2, mo, ka, kf, oo, oca, opa, ocf, opf, F, hh, ex, q⟩ := h j x (by rw [e, ← hl]; exact mb_get)
  have hx := (hmo x (by rw [e]; exact List.mem_append_right _ List.mem_cons_self)).2.2
  have hm : mf j = some x.1 := mf_someE hmf e hl (by omega)
  subst ex
  exact ⟨a, b, mo, ka, kf, oo, oca, opa, ocf, opf, F, hh, e, hl, hm, hx, h1, h2, q⟩
def mT_Bits (n : Nat) (vC vN : Nat → Int32) (j : Nat) (x : MB) : Prop := 2 ≤ n ∧ n ≤ 64 ∧ ∃ (mo ka : Nat) (kf : Nat → Int32) (oo : Nat) (osm : Int32) (oca opa : Nat) (ocf opf : Nat → Int32) (F : Nat → Nat) (hh : OB), x = (mo, ka, n, kf, (oo, nI n, osm, 1, oca, opa, (2 ^ lev n), ocf, 0, opf), hh) ∧ (∀ k, k < n → kf k = vC (64 * j + k)) ∧ tabI 2 n vN j F ∧ tbI ocf (2 ^ lev n) F
theorem mT_keep_Bits {n a j : Nat} {vC vC2 vN vN2 : Nat → Int32} {x : MB} (h : mT_Bits n vC vN j x) (hC : sgO vC2 vC (64 * a) 64) (hN : sgO vN2 vN (64 * a) 64) (ha : a ≠ j) : mT_Bits n vC2 vN2 j x := by
  obtain ⟨h1, h2, mo, ka, kf, oo, osm, oca, opa, ocf, opf, F, hh, e, q1, q2, q3⟩ := h
  exact ⟨h1, h2, mo, ka, kf, oo, osm, oca, opa, ocf, opf, F, hh, e, fun k hk => by rw [q1 k hk, hC _ (by omega)], tab_keep hN ha h2 q2, q3⟩
theorem mT_TB_Bits {ms : List MB} {N : Nat → Nat} {vC vN : Nat → Int32} (h : ∀ (j : Nat) (x : MB), ms[j]? = some x → mT_Bits (N j) vC vN j x) : TB 2 ms.length N vN := fun j hj => by
  obtain ⟨h1, h2, mo, ka, kf, oo, osm, oca, opa, ocf, opf, F, hh, e, q1, q2, q3⟩ := h j _ (List.getElem?_eq_getElem hj)
  exact ⟨F, q2⟩
theorem pk_Bits {ms : List MB} {N : Nat → Nat} {vC vN : Nat → Int32} {mf : Nat → Option Nat} {j : Nat} (h : ∀ (j : Nat) (x : MB), ms[j]? = some x → mT_Bits (N j) vC vN j x) (hmo : ∀ x ∈ ms, mbOk x) (hmf : mfOk mf ms) (hj : j < ms.length) (h8 : ms.length ≤ 8) : ∃ (a b : List MB) (mo ka : Nat) (kf : Nat → Int32) (oo : Nat) (osm : Int32) (oca opa : Nat) (ocf opf : Nat → Int32) (F : Nat → Nat) (hh : OB), ms = a ++ (mo, ka, N j, kf, (oo, nI (N j), osm, 1, oca, opa, (2 ^ lev (N j)), ocf, 0, opf), hh) :: b ∧ a.length = j ∧ mf j = some mo ∧ obOk hh ∧ 2 ≤ N j ∧ N j ≤ 64 ∧ (∀ k, k < (N j) → kf k = vC (64 * j + k)) ∧ tabI 2 (N j) vN j F ∧ tbI ocf (2 ^ lev (N j)) F := by
  obtain ⟨a, x, b, e, hl⟩ := mb_at hj
  obtain ⟨h1, h2, mo, ka, kf, oo, osm, oca, opa, ocf, opf, F, hh, ex, q⟩ := h j x (by rw [e, ← hl]; exact mb_get)
  have hx := (hmo x (by rw [e]; exact List.mem_append_right _ List.mem_cons_self)).2.2
  have hm : mf j = some x.1 := mf_someE hmf e hl (by omega)
  subst ex
  exact ⟨a, b, mo, ka, kf, oo, osm, oca, opa, ocf, opf, F, hh, e, hl, hm, hx, h1, h2, q⟩
def mT_Stack (n : Nat) (vC vN : Nat → Int32) (j : Nat) (x : MB) : Prop := 2 ≤ n ∧ n ≤ 64 ∧ ∃ (mo ka : Nat) (kf : Nat → Int32) (oo : Nat) (oca opa : Nat) (ocf opf : Nat → Int32) (F : Nat → Nat) (hh : OB), x = (mo, ka, n, kf, (oo, nI n, nI (ns F n), 0, oca, opa, n, ocf, 0, opf), hh) ∧ (∀ k, k < n → kf k = vC (64 * j + k)) ∧ tabI 3 n vN j F ∧ tbI ocf n F
theorem mT_keep_Stack {n a j : Nat} {vC vC2 vN vN2 : Nat → Int32} {x : MB} (h : mT_Stack n vC vN j x) (hC : sgO vC2 vC (64 * a) 64) (hN : sgO vN2 vN (64 * a) 64) (ha : a ≠ j) : mT_Stack n vC2 vN2 j x := by
  obtain ⟨h1, h2, mo, ka, kf, oo, oca, opa, ocf, opf, F, hh, e, q1, q2, q3⟩ := h
  exact ⟨h1, h2, mo, ka, kf, oo, oca, opa, ocf, opf, F, hh, e, fun k hk => by rw [q1 k hk, hC _ (by omega)], tab_keep hN ha h2 q2, q3⟩
theorem mT_TB_Stack {ms : List MB} {N : Nat → Nat} {vC vN : Nat → Int32} (h : ∀ (j : Nat) (x : MB), ms[j]? = some x → mT_Stack (N j) vC vN j x) : TB 3 ms.length N vN := fun j hj => by
  obtain ⟨h1, h2, mo, ka, kf, oo, oca, opa, ocf, opf, F, hh, e, q1, q2, q3⟩ := h j _ (List.getElem?_eq_getElem hj)
  exact ⟨F, q2⟩
theorem pk_Stack {ms : List MB} {N : Nat → Nat} {vC vN : Nat → Int32} {mf : Nat → Option Nat} {j : Nat} (h : ∀ (j : Nat) (x : MB), ms[j]? = some x → mT_Stack (N j) vC vN j x) (hmo : ∀ x ∈ ms, mbOk x) (hmf : mfOk mf ms) (hj : j < ms.length) (h8 : ms.length ≤ 8) : ∃ (a b : List MB) (mo ka : Nat) (kf : Nat → Int32) (oo : Nat) (oca opa : Nat) (ocf opf : Nat → Int32) (F : Nat → Nat) (hh : OB), ms = a ++ (mo, ka, N j, kf, (oo, nI (N j), nI (ns F (N j)), 0, oca, opa, (N j), ocf, 0, opf), hh) :: b ∧ a.length = j ∧ mf j = some mo ∧ obOk hh ∧ 2 ≤ N j ∧ N j ≤ 64 ∧ (∀ k, k < (N j) → kf k = vC (64 * j + k)) ∧ tabI 3 (N j) vN j F ∧ tbI ocf (N j) F := by
  obtain ⟨a, x, b, e, hl⟩ := mb_at hj
  obtain ⟨h1, h2, mo, ka, kf, oo, oca, opa, ocf, opf, F, hh, ex, q⟩ := h j x (by rw [e, ← hl]; exact mb_get)
  have hx := (hmo x (by rw [e]; exact List.mem_append_right _ List.mem_cons_self)).2.2
  have hm : mf j = some x.1 := mf_someE hmf e hl (by omega)
  subst ex
  exact ⟨a, b, mo, ka, kf, oo, oca, opa, ocf, opf, F, hh, e, hl, hm, hx, h1, h2, q⟩
def mT_Table (n : Nat) (vC vN : Nat → Int32) (j : Nat) (x : MB) : Prop := 2 ≤ n ∧ n ≤ 64 ∧ ∃ (mo ka : Nat) (kf : Nat → Int32) (oo : Nat) (oca opa : Nat) (ocf opf : Nat → Int32) (F : Nat → Nat) (hh : OB), x = (mo, ka, n, kf, (oo, nI n, nI (ns F n), 0, oca, opa, n, ocf, 512, opf), hh) ∧ (∀ k, k < n → kf k = vC (64 * j + k)) ∧ tabI 4 n vN j F ∧ tbI ocf n F ∧ layt opf F n (ns F n)
theorem mT_keep_Table {n a j : Nat} {vC vC2 vN vN2 : Nat → Int32} {x : MB} (h : mT_Table n vC vN j x) (hC : sgO vC2 vC (64 * a) 64) (hN : sgO vN2 vN (64 * a) 64) (ha : a ≠ j) : mT_Table n vC2 vN2 j x := by
  obtain ⟨h1, h2, mo, ka, kf, oo, oca, opa, ocf, opf, F, hh, e, q1, q2, q3, q4⟩ := h
  exact ⟨h1, h2, mo, ka, kf, oo, oca, opa, ocf, opf, F, hh, e, fun k hk => by rw [q1 k hk, hC _ (by omega)], tab_keep hN ha h2 q2, q3, q4⟩
theorem mT_TB_Table {ms : List MB} {N : Nat → Nat} {vC vN : Nat → Int32} (h : ∀ (j : Nat) (x : MB), ms[j]? = some x → mT_Table (N j) vC vN j x) : TB 4 ms.length N vN := fun j hj => by
  obtain ⟨h1, h2, mo, ka, kf, oo, oca, opa, ocf, opf, F, hh, e, q1, q2, q3, q4⟩ := h j _ (List.getElem?_eq_getElem hj)
  exact ⟨F, q2⟩
theorem pk_Table {ms : List MB} {N : Nat → Nat} {vC vN : Nat → Int32} {mf : Nat → Option Nat} {j : Nat} (h : ∀ (j : Nat) (x : MB), ms[j]? = some x → mT_Table (N j) vC vN j x) (hmo : ∀ x ∈ ms, mbOk x) (hmf : mfOk mf ms) (hj : j < ms.length) (h8 : ms.length ≤ 8) : ∃ (a b : List MB) (mo ka : Nat) (kf : Nat → Int32) (oo : Nat) (oca opa : Nat) (ocf opf : Nat → Int32) (F : Nat → Nat) (hh : OB), ms = a ++ (mo, ka, N j, kf, (oo, nI (N j), nI (ns F (N j)), 0, oca, opa, (N j), ocf, 512, opf), hh) :: b ∧ a.length = j ∧ mf j = some mo ∧ obOk hh ∧ 2 ≤ N j ∧ N j ≤ 64 ∧ (∀ k, k < (N j) → kf k = vC (64 * j + k)) ∧ tabI 4 (N j) vN j F ∧ tbI ocf (N j) F ∧ layt opf F (N j) (ns F (N j)) := by
  obtain ⟨a, x, b, e, hl⟩ := mb_at hj
  obtain ⟨h1, h2, mo, ka, kf, oo, oca, opa, ocf, opf, F, hh, ex, q⟩ := h j x (by rw [e, ← hl]; exact mb_get)
  have hx := (hmo x (by rw [e]; exact List.mem_append_right _ List.mem_cons_self)).2.2
  have hm : mf j = some x.1 := mf_someE hmf e hl (by omega)
  subst ex
  exact ⟨a, b, mo, ka, kf, oo, oca, opa, ocf, opf, F, hh, e, hl, hm, hx, h1, h2, q⟩
theorem mT_rd_Carries {ms msq : List MB} {N : Nat → Nat} {vC vN : Nat → Int32} {j : Nat} {y : MB} (h : ∀ (j : Nat) (x : MB), ms[j]? = some x → mT_Carries (N j) vC vN j x) (hl : ms.length = msq.length) (hma : msq.map mbA = ms.map mbA) (hs : ∀ (i : Nat) (u v : MB), ms[i]? = some u → msq[i]? = some v → sameS u v) (hy : msq[j]? = some y) : mT_Carries (N j) vC vN j y := by
  have hj : j < ms.length := by rw [hl]; exact (List.getElem?_eq_some_iff.mp hy).1
  have hu := List.getElem?_eq_getElem hj
  generalize ms[j] = u at hu
  obtain ⟨f1, f2, f3⟩ := hs j _ y hu hy
  obtain ⟨h1, h2, mo, ka, kf, oo, oca, opa, ocf, opf, F, hh, e, q⟩ := h j _ hu
  subst e
  obtain ⟨y1, y2, y3, y4, y5, y6⟩ := y
  have e1 : y3 = N j := f1
  have e2 : y4 = kf := f2
  have e3 : y5 = (oo, nI (N j), nI (ns F (N j)), 0, oca, opa, (N j), ocf, 0, opf) := f3
  clear f1 f2 f3
  subst e3; subst e1; subst e2
  exact ⟨h1, h2, y1, y2, y4, oo, oca, opa, ocf, opf, F, y6, rfl, q⟩
theorem mT_bg_Carries {ms msq : List MB} {km : Nat} {N : Nat → Nat} {vMany vC vN vN2 : Nat → Int32} {j : Nat} {y : MB} (hj : j < km) (h : ∀ (j : Nat) (x : MB), ms[j]? = some x → mT_Carries (N j) vC vN j x) (hMD : MD km N vMany vC) (hl : ms.length = msq.length) (hs : ∀ (i : Nat) (u v : MB), ms[i]? = some u → msq[i]? = some v → nw_Carries u v) (hT : pfA 0 km N vC vN2) (hy : msq[j]? = some y) : mT_Carries (N j) vC vN2 j y := by
  have hj2 : j < ms.length := by rw [hl]; exact (List.getElem?_eq_some_iff.mp hy).1
  have hu := List.getElem?_eq_getElem hj2
  generalize ms[j] = u at hu
  obtain ⟨e1, e2, -, e4, e5⟩ := hs j _ y hu hy
  obtain ⟨h1, h2, mo, ka, kf, oo, oca, opa, ocf, opf, F, hh, e, q1, -⟩ := h j _ hu
  have h3 : mK u = N j := by rw [e]
  have h4 : ∀ k, k < N j → mF u k = vC (64 * j + k) := fun k hk => by rw [e]; exact q1 k hk
  have hC := MD_C hMD hj
  have hz := Cx_tb (x := u) (n := N j) (C := Fvw vC j) (fun k hk => by rw [h4 k hk]; exact hC.1 k hk) hC.2
  have ht : sgI vN2 (64 * j) (pfN 0 (N j)) (pf 0 (N j) (Cx u)) := sgI_c (hT j hj) (pf_cg (show 0 < N j by omega) (fun k hk => (hz.1 k hk).symm))
  rw [h3] at e1 e4 e5
  obtain ⟨y1, y2, y3, y4, ⟨o1, o2, o3, o4, o5, o6, o7, o8, o9, o10⟩, y6⟩ := y
  obtain ⟨g1, g2, g3, g4⟩ := e4
  have e1 : y3 = N j := e1
  have e2 : y4 = mF u := e2
  have g1 : o2 = _ := g1
  have g2 : o4 = _ := g2
  have g3 : o7 = _ := g3
  have g4 : o9 = _ := g4
  obtain ⟨f1, f2⟩ := e5
  have f2 : o3 = _ := f2
  subst f2
  subst e1; subst e2; subst g1; subst g2; subst g3; subst g4
  exact ⟨h1, h2, y1, y2, mF u, o1, o5, o6, o8, o10, (les (N j) (Cx u)), y6, rfl, h4, tab_pf (by decide) h2 (by omega) (fun k hk => by rw [hz.1 k hk]; exact hC.2 k hk) ht, f1⟩
theorem mT_rd_NoCarries {ms msq : List MB} {N : Nat → Nat} {vC vN : Nat → Int32} {j : Nat} {y : MB} (h : ∀ (j : Nat) (x : MB), ms[j]? = some x → mT_NoCarries (N j) vC vN j x) (hl : ms.length = msq.length) (hma : msq.map mbA = ms.map mbA) (hs : ∀ (i : Nat) (u v : MB), ms[i]? = some u → msq[i]? = some v → sameS u v) (hy : msq[j]? = some y) : mT_NoCarries (N j) vC vN j y := by
  have hj : j < ms.length := by rw [hl]; exact (List.getElem?_eq_some_iff.mp hy).1
  have hu := List.getElem?_eq_getElem hj
  generalize ms[j] = u at hu
  obtain ⟨f1, f2, f3⟩ := hs j _ y hu hy
  obtain ⟨h1, h2, mo, ka, kf, oo, oca, opa, ocf, opf, F, hh, e, q⟩ := h j _ hu
  subst e
  obtain ⟨y1, y2, y3, y4, y5, y6⟩ := y
  have e1 : y3 = N j := f1
  have e2 : y4 = kf := f2
  have e3 : y5 = (oo, nI (N j), nI (ns F (N j)), 0, oca, opa, (N j), ocf, 0, opf) := f3
  clear f1 f2 f3
  subst e3; subst e1; subst e2
  exact ⟨h1, h2, y1, y2, y4, oo, oca, opa, ocf, opf, F, y6, rfl, q⟩
theorem mT_bg_NoCarries {ms msq : List MB} {km : Nat} {N : Nat → Nat} {vMany vC vN vN2 : Nat → Int32} {j : Nat} {y : MB} (hj : j < km) (h : ∀ (j : Nat) (x : MB), ms[j]? = some x → mT_NoCarries (N j) vC vN j x) (hMD : MD km N vMany vC) (hl : ms.length = msq.length) (hs : ∀ (i : Nat) (u v : MB), ms[i]? = some u → msq[i]? = some v → nw_NoCarries u v) (hT : pfA 1 km N vC vN2) (hy : msq[j]? = some y) : mT_NoCarries (N j) vC vN2 j y := by
  have hj2 : j < ms.length := by rw [hl]; exact (List.getElem?_eq_some_iff.mp hy).1
  have hu := List.getElem?_eq_getElem hj2
  generalize ms[j] = u at hu
  obtain ⟨e1, e2, -, e4, e5⟩ := hs j _ y hu hy
  obtain ⟨h1, h2, mo, ka, kf, oo, oca, opa, ocf, opf, F, hh, e, q1, -⟩ := h j _ hu
  have h3 : mK u = N j := by rw [e]
  have h4 : ∀ k, k < N j → mF u k = vC (64 * j + k) := fun k hk => by rw [e]; exact q1 k hk
  have hC := MD_C hMD hj
  have hz := Cx_tb (x := u) (n := N j) (C := Fvw vC j) (fun k hk => by rw [h4 k hk]; exact hC.1 k hk) hC.2
  have ht : sgI vN2 (64 * j) (pfN 1 (N j)) (pf 1 (N j) (Cx u)) := sgI_c (hT j hj) (pf_cg (show 0 < N j by omega) (fun k hk => (hz.1 k hk).symm))
  rw [h3] at e1 e4 e5
  obtain ⟨y1, y2, y3, y4, ⟨o1, o2, o3, o4, o5, o6, o7, o8, o9, o10⟩, y6⟩ := y
  obtain ⟨g1, g2, g3, g4⟩ := e4
  have e1 : y3 = N j := e1
  have e2 : y4 = mF u := e2
  have g1 : o2 = _ := g1
  have g2 : o4 = _ := g2
  have g3 : o7 = _ := g3
  have g4 : o9 = _ := g4
  obtain ⟨f1, f2⟩ := e5
  have f2 : o3 = _ := f2
  subst f2
  subst e1; subst e2; subst g1; subst g2; subst g3; subst g4
  exact ⟨h1, h2, y1, y2, mF u, o1, o5, o6, o8, o10, (les (N j) (Cx u)), y6, rfl, h4, tab_pf (by decide) h2 (by omega) (fun k hk => by rw [hz.1 k hk]; exact hC.2 k hk) ht, f1⟩
theorem mT_rd_Bits {ms msq : List MB} {N : Nat → Nat} {vC vN : Nat → Int32} {j : Nat} {y : MB} (h : ∀ (j : Nat) (x : MB), ms[j]? = some x → mT_Bits (N j) vC vN j x) (hl : ms.length = msq.length) (hma : msq.map mbA = ms.map mbA) (hs : ∀ (i : Nat) (u v : MB), ms[i]? = some u → msq[i]? = some v → sameS u v) (hy : msq[j]? = some y) : mT_Bits (N j) vC vN j y := by
  have hj : j < ms.length := by rw [hl]; exact (List.getElem?_eq_some_iff.mp hy).1
  have hu := List.getElem?_eq_getElem hj
  generalize ms[j] = u at hu
  obtain ⟨f1, f2, f3⟩ := hs j _ y hu hy
  obtain ⟨h1, h2, mo, ka, kf, oo, osm, oca, opa, ocf, opf, F, hh, e, q⟩ := h j _ hu
  subst e
  obtain ⟨y1, y2, y3, y4, y5, y6⟩ := y
  have e1 : y3 = N j := f1
  have e2 : y4 = kf := f2
  have e3 : y5 = (oo, nI (N j), osm, 1, oca, opa, (2 ^ lev (N j)), ocf, 0, opf) := f3
  clear f1 f2 f3
  subst e3; subst e1; subst e2
  exact ⟨h1, h2, y1, y2, y4, oo, osm, oca, opa, ocf, opf, F, y6, rfl, q⟩
theorem mT_bg_Bits {ms msq : List MB} {km : Nat} {N : Nat → Nat} {vMany vC vN vN2 : Nat → Int32} {j : Nat} {y : MB} (hj : j < km) (h : ∀ (j : Nat) (x : MB), ms[j]? = some x → mT_Bits (N j) vC vN j x) (hMD : MD km N vMany vC) (hl : ms.length = msq.length) (hs : ∀ (i : Nat) (u v : MB), ms[i]? = some u → msq[i]? = some v → nw_Bits u v) (hT : pfA 2 km N vC vN2) (hy : msq[j]? = some y) : mT_Bits (N j) vC vN2 j y := by
  have hj2 : j < ms.length := by rw [hl]; exact (List.getElem?_eq_some_iff.mp hy).1
  have hu := List.getElem?_eq_getElem hj2
  generalize ms[j] = u at hu
  obtain ⟨e1, e2, -, e4, e5⟩ := hs j _ y hu hy
  obtain ⟨h1, h2, mo, ka, kf, oo, osm, oca, opa, ocf, opf, F, hh, e, q1, -⟩ := h j _ hu
  have h3 : mK u = N j := by rw [e]
  have h4 : ∀ k, k < N j → mF u k = vC (64 * j + k) := fun k hk => by rw [e]; exact q1 k hk
  have hC := MD_C hMD hj
  have hz := Cx_tb (x := u) (n := N j) (C := Fvw vC j) (fun k hk => by rw [h4 k hk]; exact hC.1 k hk) hC.2
  have ht : sgI vN2 (64 * j) (pfN 2 (N j)) (pf 2 (N j) (Cx u)) := sgI_c (hT j hj) (pf_cg (show 0 < N j by omega) (fun k hk => (hz.1 k hk).symm))
  rw [h3] at e1 e4 e5
  obtain ⟨y1, y2, y3, y4, ⟨o1, o2, o3, o4, o5, o6, o7, o8, o9, o10⟩, y6⟩ := y
  obtain ⟨g1, g2, g3, g4⟩ := e4
  have e1 : y3 = N j := e1
  have e2 : y4 = mF u := e2
  have g1 : o2 = _ := g1
  have g2 : o4 = _ := g2
  have g3 : o7 = _ := g3
  have g4 : o9 = _ := g4
  have f1 := e5
  subst e1; subst e2; subst g1; subst g2; subst g3; subst g4
  exact ⟨h1, h2, y1, y2, mF u, o1, o3, o5, o6, o8, o10, (fun _ => 1024), y6, rfl, h4, tab_pf (by decide) h2 (by omega) (fun k hk => by rw [hz.1 k hk]; exact hC.2 k hk) ht, f1⟩
theorem mT_rd_Stack {ms msq : List MB} {N : Nat → Nat} {vC vN : Nat → Int32} {j : Nat} {y : MB} (h : ∀ (j : Nat) (x : MB), ms[j]? = some x → mT_Stack (N j) vC vN j x) (hl : ms.length = msq.length) (hma : msq.map mbA = ms.map mbA) (hs : ∀ (i : Nat) (u v : MB), ms[i]? = some u → msq[i]? = some v → sameS u v) (hy : msq[j]? = some y) : mT_Stack (N j) vC vN j y := by
  have hj : j < ms.length := by rw [hl]; exact (List.getElem?_eq_some_iff.mp hy).1
  have hu := List.getElem?_eq_getElem hj
  generalize ms[j] = u at hu
  obtain ⟨f1, f2, f3⟩ := hs j _ y hu hy
  obtain ⟨h1, h2, mo, ka, kf, oo, oca, opa, ocf, opf, F, hh, e, q⟩ := h j _ hu
  subst e
  obtain ⟨y1, y2, y3, y4, y5, y6⟩ := y
  have e1 : y3 = N j := f1
  have e2 : y4 = kf := f2
  have e3 : y5 = (oo, nI (N j), nI (ns F (N j)), 0, oca, opa, (N j), ocf, 0, opf) := f3
  clear f1 f2 f3
  subst e3; subst e1; subst e2
  exact ⟨h1, h2, y1, y2, y4, oo, oca, opa, ocf, opf, F, y6, rfl, q⟩
theorem mT_bg_Stack {ms msq : List MB} {km : Nat} {N : Nat → Nat} {vMany vC vN vN2 : Nat → Int32} {j : Nat} {y : MB} (hj : j < km) (h : ∀ (j : Nat) (x : MB), ms[j]? = some x → mT_Stack (N j) vC vN j x) (hMD : MD km N vMany vC) (hl : ms.length = msq.length) (hs : ∀ (i : Nat) (u v : MB), ms[i]? = some u → msq[i]? = some v → nw_Stack u v) (hT : pfA 3 km N vC vN2) (hy : msq[j]? = some y) : mT_Stack (N j) vC vN2 j y := by
  have hj2 : j < ms.length := by rw [hl]; exact (List.getElem?_eq_some_iff.mp hy).1
  have hu := List.getElem?_eq_getElem hj2
  generalize ms[j] = u at hu
  obtain ⟨e1, e2, -, e4, e5⟩ := hs j _ y hu hy
  obtain ⟨h1, h2, mo, ka, kf, oo, oca, opa, ocf, opf, F, hh, e, q1, -⟩ := h j _ hu
  have h3 : mK u = N j := by rw [e]
  have h4 : ∀ k, k < N j → mF u k = vC (64 * j + k) := fun k hk => by rw [e]; exact q1 k hk
  have hC := MD_C hMD hj
  have hz := Cx_tb (x := u) (n := N j) (C := Fvw vC j) (fun k hk => by rw [h4 k hk]; exact hC.1 k hk) hC.2
  have ht : sgI vN2 (64 * j) (pfN 3 (N j)) (pf 3 (N j) (Cx u)) := sgI_c (hT j hj) (pf_cg (show 0 < N j by omega) (fun k hk => (hz.1 k hk).symm))
  rw [h3] at e1 e4 e5
  obtain ⟨y1, y2, y3, y4, ⟨o1, o2, o3, o4, o5, o6, o7, o8, o9, o10⟩, y6⟩ := y
  obtain ⟨g1, g2, g3, g4⟩ := e4
  have e1 : y3 = N j := e1
  have e2 : y4 = mF u := e2
  have g1 : o2 = _ := g1
  have g2 : o4 = _ := g2
  have g3 : o7 = _ := g3
  have g4 : o9 = _ := g4
  obtain ⟨f1, f2⟩ := e5
  have f2 : o3 = _ := f2
  subst f2
  subst e1; subst e2; subst g1; subst g2; subst g3; subst g4
  exact ⟨h1, h2, y1, y2, mF u, o1, o5, o6, o8, o10, (sc (N j) 4096 (Cx u)), y6, rfl, h4, tab_pf (by decide) h2 (by omega) (fun k hk => by rw [hz.1 k hk]; exact hC.2 k hk) ht, f1⟩
theorem mT_rd_Table {ms msq : List MB} {N : Nat → Nat} {vC vN : Nat → Int32} {j : Nat} {y : MB} (h : ∀ (j : Nat) (x : MB), ms[j]? = some x → mT_Table (N j) vC vN j x) (hl : ms.length = msq.length) (hma : msq.map mbA = ms.map mbA) (hs : ∀ (i : Nat) (u v : MB), ms[i]? = some u → msq[i]? = some v → sameS u v) (hy : msq[j]? = some y) : mT_Table (N j) vC vN j y := by
  have hj : j < ms.length := by rw [hl]; exact (List.getElem?_eq_some_iff.mp hy).1
  have hu := List.getElem?_eq_getElem hj
  generalize ms[j] = u at hu
  obtain ⟨f1, f2, f3⟩ := hs j _ y hu hy
  obtain ⟨h1, h2, mo, ka, kf, oo, oca, opa, ocf, opf, F, hh, e, q⟩ := h j _ hu
  subst e
  obtain ⟨y1, y2, y3, y4, y5, y6⟩ := y
  have e1 : y3 = N j := f1
  have e2 : y4 = kf := f2
  have e3 : y5 = (oo, nI (N j), nI (ns F (N j)), 0, oca, opa, (N j), ocf, 512, opf) := f3
  clear f1 f2 f3
  subst e3; subst e1; subst e2
  exact ⟨h1, h2, y1, y2, y4, oo, oca, opa, ocf, opf, F, y6, rfl, q⟩
theorem mT_bg_Table {ms msq : List MB} {km : Nat} {N : Nat → Nat} {vMany vC vN vN2 : Nat → Int32} {j : Nat} {y : MB} (hj : j < km) (h : ∀ (j : Nat) (x : MB), ms[j]? = some x → mT_Table (N j) vC vN j x) (hMD : MD km N vMany vC) (hl : ms.length = msq.length) (hs : ∀ (i : Nat) (u v : MB), ms[i]? = some u → msq[i]? = some v → nw_Table u v) (hT : pfA 4 km N vC vN2) (hy : msq[j]? = some y) : mT_Table (N j) vC vN2 j y := by
  have hj2 : j < ms.length := by rw [hl]; exact (List.getElem?_eq_some_iff.mp hy).1
  have hu := List.getElem?_eq_getElem hj2
  generalize ms[j] = u at hu
  obtain ⟨e1, e2, -, e4, e5⟩ := hs j _ y hu hy
  obtain ⟨h1, h2, mo, ka, kf, oo, oca, opa, ocf, opf, F, hh, e, q1, -⟩ := h j _ hu
  have h3 : mK u = N j := by rw [e]
  have h4 : ∀ k, k < N j → mF u k = vC (64 * j + k) := fun k hk => by rw [e]; exact q1 k hk
  have hC := MD_C hMD hj
  have hz := Cx_tb (x := u) (n := N j) (C := Fvw vC j) (fun k hk => by rw [h4 k hk]; exact hC.1 k hk) hC.2
  have ht : sgI vN2 (64 * j) (pfN 4 (N j)) (pf 4 (N j) (Cx u)) := sgI_c (hT j hj) (pf_cg (show 0 < N j by omega) (fun k hk => (hz.1 k hk).symm))
  rw [h3] at e1 e4 e5
  obtain ⟨y1, y2, y3, y4, ⟨o1, o2, o3, o4, o5, o6, o7, o8, o9, o10⟩, y6⟩ := y
  obtain ⟨g1, g2, g3, g4⟩ := e4
  have e1 : y3 = N j := e1
  have e2 : y4 = mF u := e2
  have g1 : o2 = _ := g1
  have g2 : o4 = _ := g2
  have g3 : o7 = _ := g3
  have g4 : o9 = _ := g4
  obtain ⟨f1, f2, f3⟩ := e5
  have f2 : o3 = _ := f2
  subst f2
  subst e1; subst e2; subst g1; subst g2; subst g3; subst g4
  exact ⟨h1, h2, y1, y2, mF u, o1, o5, o6, o8, o10, (sc (N j) 512 (Cx u)), y6, rfl, h4, tab_pf (by decide) h2 (by omega) (fun k hk => by rw [hz.1 k hk]; exact hC.2 k hk) ht, f1, f3⟩
theorem mT_ok_Carries {n j : Nat} {vC vN : Nat → Int32} {x : MB} (h : mT_Carries n vC vN j x) (hC : sgI vC (64 * j) n (Fvw vC j) ∧ bd (Fvw vC j) n 4095) : mOk_Carries x := by
  obtain ⟨h1, h2, mo, ka, kf, oo, oca, opa, ocf, opf, F, hh, e, q1, -⟩ := h
  have h4 : ∀ k, k < n → mF x k = vC (64 * j + k) := fun k hk => by rw [e]; exact q1 k hk
  have hz := Cx_tb (x := x) (n := n) (C := Fvw vC j) (fun k hk => by rw [h4 k hk]; exact hC.1 k hk) hC.2
  have h3 : mK x = n := by rw [e]
  refine ⟨by rw [h3]; exact h1, by rw [h3]; exact h2, ?_, by rw [h3]; exact hz.2, by rw [h3]; exact fun k hk => by rw [hz.1 k hk]; exact hC.2 k hk⟩
  rw [h3, e]
  exact ⟨rfl, rfl, rfl, rfl⟩
theorem mT_ok_NoCarries {n j : Nat} {vC vN : Nat → Int32} {x : MB} (h : mT_NoCarries n vC vN j x) (hC : sgI vC (64 * j) n (Fvw vC j) ∧ bd (Fvw vC j) n 4095) : mOk_NoCarries x := by
  obtain ⟨h1, h2, mo, ka, kf, oo, oca, opa, ocf, opf, F, hh, e, q1, -⟩ := h
  have h4 : ∀ k, k < n → mF x k = vC (64 * j + k) := fun k hk => by rw [e]; exact q1 k hk
  have hz := Cx_tb (x := x) (n := n) (C := Fvw vC j) (fun k hk => by rw [h4 k hk]; exact hC.1 k hk) hC.2
  have h3 : mK x = n := by rw [e]
  refine ⟨by rw [h3]; exact h1, by rw [h3]; exact h2, ?_, by rw [h3]; exact hz.2, by rw [h3]; exact fun k hk => by rw [hz.1 k hk]; exact hC.2 k hk⟩
  rw [h3, e]
  exact ⟨rfl, rfl, rfl, rfl⟩
theorem mT_ok_Bits {n j : Nat} {vC vN : Nat → Int32} {x : MB} (h : mT_Bits n vC vN j x) (hC : sgI vC (64 * j) n (Fvw vC j) ∧ bd (Fvw vC j) n 4095) : mOk_Bits x := by
  obtain ⟨h1, h2, mo, ka, kf, oo, osm, oca, opa, ocf, opf, F, hh, e, q1, -⟩ := h
  have h4 : ∀ k, k < n → mF x k = vC (64 * j + k) := fun k hk => by rw [e]; exact q1 k hk
  have hz := Cx_tb (x := x) (n := n) (C := Fvw vC j) (fun k hk => by rw [h4 k hk]; exact hC.1 k hk) hC.2
  have h3 : mK x = n := by rw [e]
  refine ⟨by rw [h3]; exact h1, by rw [h3]; exact h2, ?_, by rw [h3]; exact hz.2, by rw [h3]; exact fun k hk => by rw [hz.1 k hk]; exact hC.2 k hk⟩
  rw [h3, e]
  exact ⟨rfl, rfl, rfl, rfl⟩
theorem mT_ok_Stack {n j : Nat} {vC vN : Nat → Int32} {x : MB} (h : mT_Stack n vC vN j x) (hC : sgI vC (64 * j) n (Fvw vC j) ∧ bd (Fvw vC j) n 4095) : mOk_Stack x := by
  obtain ⟨h1, h2, mo, ka, kf, oo, oca, opa, ocf, opf, F, hh, e, q1, -⟩ := h
  have h4 : ∀ k, k < n → mF x k = vC (64 * j + k) := fun k hk => by rw [e]; exact q1 k hk
  have hz := Cx_tb (x := x) (n := n) (C := Fvw vC j) (fun k hk => by rw [h4 k hk]; exact hC.1 k hk) hC.2
  have h3 : mK x = n := by rw [e]
  refine ⟨by rw [h3]; exact h1, by rw [h3]; exact h2, ?_, by rw [h3]; exact hz.2, by rw [h3]; exact fun k hk => by rw [hz.1 k hk]; exact hC.2 k hk⟩
  rw [h3, e]
  exact ⟨rfl, rfl, rfl, rfl⟩
theorem mT_ok_Table {n j : Nat} {vC vN : Nat → Int32} {x : MB} (h : mT_Table n vC vN j x) (hC : sgI vC (64 * j) n (Fvw vC j) ∧ bd (Fvw vC j) n 4095) : mOk_Table x := by
  obtain ⟨h1, h2, mo, ka, kf, oo, oca, opa, ocf, opf, F, hh, e, q1, -⟩ := h
  have h4 : ∀ k, k < n → mF x k = vC (64 * j + k) := fun k hk => by rw [e]; exact q1 k hk
  have hz := Cx_tb (x := x) (n := n) (C := Fvw vC j) (fun k hk => by rw [h4 k hk]; exact hC.1 k hk) hC.2
  have h3 : mK x = n := by rw [e]
  refine ⟨by rw [h3]; exact h1, by rw [h3]; exact h2, ?_, by rw [h3]; exact hz.2, by rw [h3]; exact fun k hk => by rw [hz.1 k hk]; exact hC.2 k hk⟩
  rw [h3, e]
  exact ⟨rfl, rfl, rfl, rfl⟩
theorem ob_of_Stack {n j : Nat} {vC vN : Nat → Int32} {x : MB} (h : mT_Stack n vC vN j x) (z1 : ns (Fvw vN j) n = 4096) (z2 : sgI vN (64 * j) n (Fvw vN j)) : ob3 (mS x) n (Fvw vN j) := by
  obtain ⟨h1, h2, mo, ka, kf, oo, oca, opa, ocf, opf, F, hh, e, q1, h6, h7⟩ := h
  subst e
  obtain ⟨hs, ht⟩ := tab_3 h6
  have hc := Fv_cg hs (by rcases ht with q | q <;> omega)
  have hf : tbI ocf n (Fvw vN j) := fun k hk => by rw [← hc k hk]; exact h7 k hk
  exact ⟨h2, rfl, rfl, hf, (by decide : 0 ≤ 512)⟩
theorem ob_of_Table {n j : Nat} {vC vN : Nat → Int32} {x : MB} (h : mT_Table n vC vN j x) (z1 : ns (Fvw vN j) n = 512) (z2 : sgI vN (64 * j) n (Fvw vN j)) : ob4 (mS x) n (Fvw vN j) := by
  obtain ⟨h1, h2, mo, ka, kf, oo, oca, opa, ocf, opf, F, hh, e, q1, h6, h7, hl⟩ := h
  subst e
  obtain ⟨hs, ht⟩ := tab_4 h6
  have hc := Fv_cg hs (by rcases ht with q | q <;> omega)
  have hf : tbI ocf n (Fvw vN j) := fun k hk => by rw [← hc k hk]; exact h7 k hk
  refine ⟨h2, rfl, rfl, hf, rfl, fun p hp => ?_⟩
  rw [show ns F n = 512 by rw [ns_cg (fun k hk => hc k hk)]; exact z1] at hl
  rw [← plc_cg hc p]
  exact layt_e hl p hp
theorem sg_cs (z : Int32) {n : Nat} (hn : n ≤ 64) : (z < 0 ∨ nI n ≤ z) ∨ ∃ t, t < n ∧ z = nI t := by
  by_cases h1 : z < 0
  · exact Or.inl (Or.inl h1)
  · by_cases h2 : nI n ≤ z
    · exact Or.inl (Or.inr h2)
    · right
      obtain ⟨t, ht, rfl⟩ := nI_of h1
      exact ⟨t, nI_lt' ht h2, rfl⟩
theorem v_cs (z : Int32) {m : Nat} (hm : m < 2 ^ 31) : (z < 0 ∨ nI m < z) ∨ ∃ c, c ≤ m ∧ z = nI c := by
  by_cases h1 : z < 0
  · exact Or.inl (Or.inl h1)
  · by_cases h2 : nI m < z
    · exact Or.inl (Or.inr h2)
    · right
      obtain ⟨t, ht, rfl⟩ := nI_of h1
      exact ⟨t, (nI_cmp ht hm).mp (Int32.not_lt.mp h2), rfl⟩
theorem nd_cs (z : Int32) {n : Nat} (hn : n ≤ 64) : (z < 1 ∨ z < 0 ∨ nI n ≤ z) ∨ ∃ t, 1 ≤ t ∧ t < n ∧ z = nI t := by
  by_cases h1 : z < 1
  · exact Or.inl (Or.inl h1)
  · rcases sg_cs z hn with q | ⟨t, ht, rfl⟩
    · exact Or.inl (Or.inr q)
    · refine Or.inr ⟨t, ?_, ht, rfl⟩
      rcases Nat.eq_zero_or_pos t with e | e
      · subst e; exact absurd (by decide) h1
      · exact e
end
