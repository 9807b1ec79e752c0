set_option maxHeartbeats 2000000 in
set_option maxRecDepth 100000 in
theorem m_modelB (l : Launch) (dC : Nat → ClassId) (dI : Nat → Nat → Nat) (cI cM cO : ClassId) (sz : Nat) (o : Nat) (g : Nat → Nat) (fForm : Int32) (fShift : Int32) (fModels : Int32) (fItems : Int32) (fEnded : Int32) (fLow : Int64) (fRange : Int64) (fCache : Int32) (fPend : Int32) (fGoes : Int32) (fOuts : Int32) (fIns : Int32) (fReads : Int32) (fBad : Int32) (fIR : Int32) (fAsk : Int32) (fBAsk : Int32) (fCode : Int64) (fRL : Int64) (fRR : Int64) (fX : Int64) (fWrites : Int32) (fThrown : Int32) (vMany : Nat → Int32) (vCounts : Nat → Int32) (vNow : Nat → Int32) (vThen : Nat → Int32) (fm : Nat) (km : Nat) (N : Nat → Nat) (ns : Nat) (hfm : fm ≤ 4) (hform : fForm = nI fm) (hmod : fModels = nI km) (hMD : MD km N vMany vCounts) (hns2 : 2 ≤ ns) (hns : ns ≤ 64) (hk : km < 8) (hT : TB fm km N vNow) (hU : TB fm km N vThen) : MetI l y_M_model (Cond.code y_M_model prog_14_method_13_code 4 (some .int) :: gw) ({ frames := 3, cells := 0, slots := 0, locals := 75 } : Room) (dC, dI) vwCl (kT cI cM cO) [Value.ref o, Value.int (nI ns)] [(o, Sum.inr (9, mO g fForm fShift fModels fItems fEnded fLow fRange fCache fPend fGoes fOuts fIns fReads fBad fIR fAsk fBAsk fCode fRL fRR fX fWrites fThrown)), ((g 0), Sum.inl (cI, 8, Sum.inl vMany)), ((g 1), Sum.inl (cI, 512, Sum.inl vCounts)), ((g 2), Sum.inl (cI, 512, Sum.inl vNow)), ((g 3), Sum.inl (cI, 512, Sum.inl vThen))] sz (fun (r : Int32) (u : Int32 × Int32 × (Nat → Int32) × (Nat → Int32) × (Nat → Int32) × (Nat → Int32)) => r = nI km ∧ MD (km + 1) (upN N km ns) u.2.2.1 u.2.2.2.1 ∧ TB fm (km + 1) (upN N km ns) u.2.2.2.2.1 ∧ TB fm (km + 1) (upN N km ns) u.2.2.2.2.2 ∧ u.1 = nI (km + 1) ∧ sgO u.2.2.2.2.1 vNow (64 * km) 64 ∧ sgI u.2.2.2.2.1 (64 * km) (pfN fm ns) (pf fm ns (fun _ => 1)) ∧ sgI u.2.2.2.1 (64 * km) ns (fun _ => 1) ∧ sgO u.2.2.2.1 vCounts (64 * km) 64) (fun (u : Int32 × Int32 × (Nat → Int32) × (Nat → Int32) × (Nat → Int32) × (Nat → Int32)) => [(o, Sum.inr (9, mO g fForm fShift u.1 fItems fEnded fLow fRange fCache fPend fGoes fOuts fIns fReads fBad fIR fAsk fBAsk fCode fRL fRR fX fWrites u.2.1)), ((g 0), Sum.inl (cI, 8, Sum.inl u.2.2.1)), ((g 1), Sum.inl (cI, 512, Sum.inl u.2.2.2.1)), ((g 2), Sum.inl (cI, 512, Sum.inl u.2.2.2.2.1)), ((g 3), Sum.inl (cI, 512, Sum.inl u.2.2.2.2.2))]) 0 0 := by
  refine my_ofI (cc := prog_14_method_13_code) (n := 4) (ret := (some .int)) (by decide) rfl (Nat.le_of_ble_eq_true rfl) ?_
  intro p e s m args below meth c R Q A ls H locs hx hb hr hts hown hlocks hml hnm hR hQ hA hl hP hK hN hD hS
  have hg : ∀ w ∈ gw, w.before args s = true := fun w h => hts w (List.mem_cons_of_mem _ h)
  have hown : s.vm.findClass "RangeCodersModel" = some m.cls := hown
  have hl : lv_has ls 4 [(0, Value.ref o), (1, Value.int (nI ns))] := hl
  subst hmod
  have hP : va_P (dC, dI) vwCl [(o, Sum.inr (9, mO g fForm fShift (nI km) fItems fEnded fLow fRange fCache fPend fGoes fOuts fIns fReads fBad fIR fAsk fBAsk fCode fRL fRR fX fWrites fThrown)), ((g 0), Sum.inl (cI, 8, Sum.inl vMany)), ((g 1), Sum.inl (cI, 512, Sum.inl vCounts)), ((g 2), Sum.inl (cI, 512, Sum.inl vNow)), ((g 3), Sum.inl (cI, 512, Sum.inl vThen))] H := hP
  have hD : va_D A [(o, Sum.inr (9, mO g fForm fShift (nI km) fItems fEnded fLow fRange fCache fPend fGoes fOuts fIns fReads fBad fIR fAsk fBAsk fCode fRL fRR fX fWrites fThrown)), ((g 0), Sum.inl (cI, 8, Sum.inl vMany)), ((g 1), Sum.inl (cI, 512, Sum.inl vCounts)), ((g 2), Sum.inl (cI, 512, Sum.inl vNow)), ((g 3), Sum.inl (cI, 512, Sum.inl vThen))] := hD
  have hl : lv_has ls 4 [(0, Value.ref o), (1, Value.int (nI ns))] := hl
  refine lv_aload_n hx hb d_M_model_0 rfl (lv_at hl 0 rfl) ?_
  refine lv_iconst (v := 0) hx hb d_M_model_1 (by decide) ?_
  refine va_put (D := (dC, dI)) (ci := 9) (v := .int 0) (ty := .int) (C := "RangeCodersModel") (T := T_M) (N := 35) hx hb hg in_M t_M o_M n_M hown hK hP hD hS 0 rfl rfl 34 (by decide) (hg _ k986) (fun _ h9 => h9) rfl (by decide +kernel) rfl rfl (Nat.le_of_ble_eq_true rfl) d_M_model_2 (fun H locs hP hD hS => ?_)
  have hP : va_P (dC, dI) vwCl [(o, Sum.inr (9, mO g fForm fShift (nI km) fItems fEnded fLow fRange fCache fPend fGoes fOuts fIns fReads fBad fIR fAsk fBAsk fCode fRL fRR fX fWrites 0)), ((g 0), Sum.inl (cI, 8, Sum.inl vMany)), ((g 1), Sum.inl (cI, 512, Sum.inl vCounts)), ((g 2), Sum.inl (cI, 512, Sum.inl vNow)), ((g 3), Sum.inl (cI, 512, Sum.inl vThen))] H := hP
  have hD : va_D A [(o, Sum.inr (9, mO g fForm fShift (nI km) fItems fEnded fLow fRange fCache fPend fGoes fOuts fIns fReads fBad fIR fAsk fBAsk fCode fRL fRR fX fWrites 0)), ((g 0), Sum.inl (cI, 8, Sum.inl vMany)), ((g 1), Sum.inl (cI, 512, Sum.inl vCounts)), ((g 2), Sum.inl (cI, 512, Sum.inl vNow)), ((g 3), Sum.inl (cI, 512, Sum.inl vThen))] := hD
  refine lv_iload_n hx hb d_M_model_5 rfl (lv_at hl 1 rfl) ?_
  refine lv_iconst (v := 2) hx hb d_M_model_6 (by decide) ?_
  refine lv_bipush (v := 64) hx hb d_M_model_7 (by decide) ?_
  refine my_ci (wr := [(o, Sum.inr (9, mO g fForm fShift (nI km) fItems fEnded fLow fRange fCache fPend fGoes fOuts fIns fReads fBad fIR fAsk fBAsk fCode fRL fRR fX fWrites 0)), ((g 0), Sum.inl (cI, 8, Sum.inl vMany)), ((g 1), Sum.inl (cI, 512, Sum.inl vCounts)), ((g 2), Sum.inl (cI, 512, Sum.inl vNow)), ((g 3), Sum.inl (cI, 512, Sum.inl vThen))]) (va_runS (As := [Value.int (nI ns), Value.int 2, Value.int 64]) (rest := []) ⟨hx, hb, hml, hown, hts⟩ (c_M_in l dC dI cI cM cO H.size (nI ns) 2 64) (cwS 3 hts (my_gS k1062 k1063 k12 k1064) rfl rfl rfl (by decide +kernel) ⟨by rw [hR]; exact Nat.le_of_ble_eq_true rfl, by rw [hR]; exact Nat.le_of_ble_eq_true rfl⟩) (my_pre hK hN (hP.sub [] rfl) (hD.sub [] (by decide +kernel) rfl)) rfl rfl hl.1 rfl (lv_room (Nat.le_of_ble_eq_true rfl)) d_M_model_9 ⟨by rw [hR]; exact Nat.le_of_ble_eq_true rfl, by rw [hR]; exact Nat.le_of_ble_eq_true rfl⟩) hP hD hS hA [] [0, 1, 2, 3, 4] rfl rfl (by decide +kernel) (by decide +kernel) (fun r_9 u9 H locs hw_9 hP hD hS => ?_)
  have hw_9 : r_9 = if 2 ≤ (nI ns) ∧ (nI ns) ≤ 64 then 1 else 0 := hw_9
  have hP : va_P (dC, dI) vwCl [(o, Sum.inr (9, mO g fForm fShift (nI km) fItems fEnded fLow fRange fCache fPend fGoes fOuts fIns fReads fBad fIR fAsk fBAsk fCode fRL fRR fX fWrites 0)), ((g 0), Sum.inl (cI, 8, Sum.inl vMany)), ((g 1), Sum.inl (cI, 512, Sum.inl vCounts)), ((g 2), Sum.inl (cI, 512, Sum.inl vNow)), ((g 3), Sum.inl (cI, 512, Sum.inl vThen))] H := hP
  have hD : va_D A [(o, Sum.inr (9, mO g fForm fShift (nI km) fItems fEnded fLow fRange fCache fPend fGoes fOuts fIns fReads fBad fIR fAsk fBAsk fCode fRL fRR fX fWrites 0)), ((g 0), Sum.inl (cI, 8, Sum.inl vMany)), ((g 1), Sum.inl (cI, 512, Sum.inl vCounts)), ((g 2), Sum.inl (cI, 512, Sum.inl vNow)), ((g 3), Sum.inl (cI, 512, Sum.inl vThen))] := hD
  refine lv_if_ne (tgt := 18) hx hb d_M_model_12 (by decide) (fun c_1 => ?_) (fun c_1 => ?_)
  · refine lv_aload_n hx hb d_M_model_18 rfl (lv_at hl 0 rfl) ?_
    refine va_get (D := (dC, dI)) (ci := 9) (v := .int (nI km)) (C := "RangeCodersModel") (T := T_M) (N := 35) hx hb hg in_M hown hK hP 0 rfl rfl 2 (by decide) (hg _ k954) (fun _ h9 => h9) rfl d_M_model_19 ?_
    refine lv_bipush (v := 8) hx hb d_M_model_22 (by decide) ?_
    refine lv_icmp_ne (tgt := 30) hx hb d_M_model_24 (by decide) (fun c_2 => ?_) (fun c_2 => ?_)
    · refine lv_aload_n hx hb d_M_model_30 rfl (lv_at hl 0 rfl) ?_
      refine va_get (D := (dC, dI)) (ci := 9) (v := .int (nI km)) (C := "RangeCodersModel") (T := T_M) (N := 35) hx hb hg in_M hown hK hP 0 rfl rfl 2 (by decide) (hg _ k954) (fun _ h9 => h9) rfl d_M_model_31 ?_
      refine lv_istore_n (lv' := [(2, Value.int (nI km)), (0, Value.ref o), (1, Value.int (nI ns))]) hx hb d_M_model_34 rfl hl (by decide) rfl (fun ls hl => ?_)
      refine lv_aload_n hx hb d_M_model_35 rfl (lv_at hl 1 rfl) ?_
      refine lv_dup hx hb d_M_model_36 rfl ?_
      refine va_get (D := (dC, dI)) (ci := 9) (v := .int (nI km)) (C := "RangeCodersModel") (T := T_M) (N := 35) hx hb hg in_M hown hK hP 0 rfl rfl 2 (by decide) (hg _ k954) (fun _ h9 => h9) rfl d_M_model_37 ?_
      refine lv_iconst (v := 1) hx hb d_M_model_40 (by decide) ?_
      refine lv_iadd hx hb d_M_model_41 ?_
      refine lv_topi (fun v_3 ev_3 => ?_)
      have z9 : v_3 = nI (km + 1) := by rw [ev_3]; exact nI_1 _
      subst z9
      refine va_put (D := (dC, dI)) (ci := 9) (v := .int (nI (km + 1))) (ty := .int) (C := "RangeCodersModel") (T := T_M) (N := 35) hx hb hg in_M t_M o_M n_M hown hK hP hD hS 0 rfl rfl 2 (by decide) (hg _ k954) (fun _ h9 => h9) rfl (by decide +kernel) rfl rfl (Nat.le_of_ble_eq_true rfl) d_M_model_42 (fun H locs hP hD hS => ?_)
      have hP : va_P (dC, dI) vwCl [(o, Sum.inr (9, mO g fForm fShift (nI (km + 1)) fItems fEnded fLow fRange fCache fPend fGoes fOuts fIns fReads fBad fIR fAsk fBAsk fCode fRL fRR fX fWrites 0)), ((g 0), Sum.inl (cI, 8, Sum.inl vMany)), ((g 1), Sum.inl (cI, 512, Sum.inl vCounts)), ((g 2), Sum.inl (cI, 512, Sum.inl vNow)), ((g 3), Sum.inl (cI, 512, Sum.inl vThen))] H := hP
      have hD : va_D A [(o, Sum.inr (9, mO g fForm fShift (nI (km + 1)) fItems fEnded fLow fRange fCache fPend fGoes fOuts fIns fReads fBad fIR fAsk fBAsk fCode fRL fRR fX fWrites 0)), ((g 0), Sum.inl (cI, 8, Sum.inl vMany)), ((g 1), Sum.inl (cI, 512, Sum.inl vCounts)), ((g 2), Sum.inl (cI, 512, Sum.inl vNow)), ((g 3), Sum.inl (cI, 512, Sum.inl vThen))] := hD
      refine lv_aload_n hx hb d_M_model_45 rfl (lv_at hl 1 rfl) ?_
      refine va_get (D := (dC, dI)) (ci := 9) (v := .ref (g 0)) (C := "RangeCodersModel") (T := T_M) (N := 35) hx hb hg in_M hown hK hP 0 rfl rfl 3 (by decide) (hg _ k955) (fun _ h9 => h9) rfl d_M_model_46 ?_
      refine lv_iload_n hx hb d_M_model_49 rfl (lv_at hl 0 rfl) ?_
      refine lv_iload_n hx hb d_M_model_50 rfl (lv_at hl 2 rfl) ?_
      refine va_iast hx hb hK hP hD hS 1 0 rfl rfl (vp_in_nI hk (by decide)) d_M_model_51 (fun H locs hP hD hS => ?_)
      have hP : va_P (dC, dI) vwCl [(o, Sum.inr (9, mO g fForm fShift (nI (km + 1)) fItems fEnded fLow fRange fCache fPend fGoes fOuts fIns fReads fBad fIR fAsk fBAsk fCode fRL fRR fX fWrites 0)), ((g 0), Sum.inl (cI, 8, Sum.inl (upd vMany (nI km).toNatClampNeg (nI ns)))), ((g 1), Sum.inl (cI, 512, Sum.inl vCounts)), ((g 2), Sum.inl (cI, 512, Sum.inl vNow)), ((g 3), Sum.inl (cI, 512, Sum.inl vThen))] H := hP
      have hD : va_D A [(o, Sum.inr (9, mO g fForm fShift (nI (km + 1)) fItems fEnded fLow fRange fCache fPend fGoes fOuts fIns fReads fBad fIR fAsk fBAsk fCode fRL fRR fX fWrites 0)), ((g 0), Sum.inl (cI, 8, Sum.inl (upd vMany (nI km).toNatClampNeg (nI ns)))), ((g 1), Sum.inl (cI, 512, Sum.inl vCounts)), ((g 2), Sum.inl (cI, 512, Sum.inl vNow)), ((g 3), Sum.inl (cI, 512, Sum.inl vThen))] := hD
      rw [nI_clamp (show km < 2 ^ 31 by omega)] at hP hD
      refine lv_iconst (v := 0) hx hb d_M_model_52 (by decide) ?_
      refine lv_istore_n (lv' := [(3, Value.int 0), (2, Value.int (nI km)), (0, Value.ref o), (1, Value.int (nI ns))]) hx hb d_M_model_53 rfl hl (by decide) rfl (fun ls hl => ?_)
      have J_54 : ∀ (n9_54 : Nat) (kk : Nat) (fC : Nat → Int32) (hn9_54 : ns - kk = n9_54) (hkk : kk ≤ ns) (hM9 : sgM fC vCounts (64 * km) 64 kk (fun _ => 1)) (H : Heap) (locs : List Loc) (ls : Array Slot), va_P (dC, dI) vwCl [(o, Sum.inr (9, mO g fForm fShift (nI (km + 1)) fItems fEnded fLow fRange fCache fPend fGoes fOuts fIns fReads fBad fIR fAsk fBAsk fCode fRL fRR fX fWrites 0)), ((g 0), Sum.inl (cI, 8, Sum.inl (upd vMany km (nI ns)))), ((g 1), Sum.inl (cI, 512, Sum.inl fC)), ((g 2), Sum.inl (cI, 512, Sum.inl vNow)), ((g 3), Sum.inl (cI, 512, Sum.inl vThen))] H → va_D A [(o, Sum.inr (9, mO g fForm fShift (nI (km + 1)) fItems fEnded fLow fRange fCache fPend fGoes fOuts fIns fReads fBad fIR fAsk fBAsk fCode fRL fRR fX fWrites 0)), ((g 0), Sum.inl (cI, 8, Sum.inl (upd vMany km (nI ns)))), ((g 1), Sum.inl (cI, 512, Sum.inl fC)), ((g 2), Sum.inl (cI, 512, Sum.inl vNow)), ((g 3), Sum.inl (cI, 512, Sum.inl vThen))] → va_S A s.heap H locs → lv_has ls 4 [(3, Value.int (nI kk)), (2, Value.int (nI km)), (0, Value.ref o), (1, Value.int (nI ns))] → W p l e R s m args below meth c H locs 0 0 Q (F0 m 54 ls []) := by
        intro n9_54
        induction n9_54 using Nat.strongRecOn with
        | ind n9_54 ih9_54 =>
          intro kk fC hn9_54 hkk hM9 H locs ls hP hD hS hl
          refine lv_iload_n hx hb d_M_model_54 rfl (lv_at hl 0 rfl) ?_
          refine lv_iload_n hx hb d_M_model_55 rfl (lv_at hl 3 rfl) ?_
          refine lv_icmp_ge (tgt := 77) hx hb d_M_model_56 (by decide) (fun c_4 => ?_) (fun c_4 => ?_)
          · have hkn : kk = ns := by have := (nI_cmp (a := ns) (b := kk) (by omega) (by omega)).mp c_4; omega
            subst hkn
            have hmn : upd vMany km (nI kk) km = nI kk := pk_us
            have hb1 : bd (fun _ => 1) kk 4095 := fun _ _ => (by decide : 1 ≤ 4095)
            refine lv_aload_n hx hb d_M_model_77 rfl (lv_at hl 2 rfl) ?_
            refine lv_aload_n hx hb d_M_model_78 rfl (lv_at hl 2 rfl) ?_
            refine va_get (D := (dC, dI)) (ci := 9) (v := .ref (g 2)) (C := "RangeCodersModel") (T := T_M) (N := 35) hx hb hg in_M hown hK hP 0 rfl rfl 5 (by decide) (hg _ k957) (fun _ h9 => h9) rfl d_M_model_79 ?_
            refine lv_iload_n hx hb d_M_model_82 rfl (lv_at hl 1 rfl) ?_
            refine my_cv (wr := [((g 3), Sum.inl (cI, 512, Sum.inl vThen))]) (va_runV (As := [Value.ref (g 2), Value.int (nI km)]) (rest := []) ⟨hx, hb, hml, hown, hts⟩ (c_M_prepare l dC dI cI cM cO H.size o g fForm fShift (nI (km + 1)) fItems fEnded fLow fRange fCache fPend fGoes fOuts fIns fReads fBad fIR fAsk fBAsk fCode fRL fRR fX fWrites 0 (upd vMany km (nI kk)) fC (g 2) vNow km kk fm (fun _ => 1) (by omega) (hmn) (by omega) (by omega) (hfm) (hform) (hM9.1) (hb1)) (cwV 2 hts (my_gV k928 k930 ks19 k12 k931) rfl rfl rfl (by decide +kernel) ⟨by rw [hR]; exact Nat.le_of_ble_eq_true rfl, by rw [hR]; exact Nat.le_of_ble_eq_true rfl⟩) (my_preV hK hN (hP.sub [0, 1, 2, 3] rfl) (hD.sub [0, 1, 2, 3] (by decide +kernel) rfl) 0 rfl rfl) rfl rfl hl.1 rfl (lv_room (Nat.le_of_ble_eq_true rfl)) d_M_model_83 ⟨by rw [hR]; exact Nat.le_of_ble_eq_true rfl, by rw [hR]; exact Nat.le_of_ble_eq_true rfl⟩) hP hD hS hA [0, 1, 2, 3] [4] rfl rfl (by decide +kernel) (by decide +kernel) (fun u9 H locs hw_83 hP hD hS => ?_)
            obtain ⟨f2_83, rfl⟩ : ∃ z, z = u9 := ⟨_, rfl⟩
            have hw_83 : sgI f2_83 (64 * km) (pfN fm kk) (pf fm kk (fun _ => 1)) ∧ sgO f2_83 vNow (64 * km) 64 := hw_83
            have hP : va_P (dC, dI) vwCl [((g 3), Sum.inl (cI, 512, Sum.inl vThen)), (o, Sum.inr (9, mO g fForm fShift (nI (km + 1)) fItems fEnded fLow fRange fCache fPend fGoes fOuts fIns fReads fBad fIR fAsk fBAsk fCode fRL fRR fX fWrites 0)), ((g 0), Sum.inl (cI, 8, Sum.inl (upd vMany km (nI kk)))), ((g 1), Sum.inl (cI, 512, Sum.inl fC)), ((g 2), Sum.inl (cI, 512, Sum.inl f2_83))] H := hP
            have hD : va_D A [((g 3), Sum.inl (cI, 512, Sum.inl vThen)), (o, Sum.inr (9, mO g fForm fShift (nI (km + 1)) fItems fEnded fLow fRange fCache fPend fGoes fOuts fIns fReads fBad fIR fAsk fBAsk fCode fRL fRR fX fWrites 0)), ((g 0), Sum.inl (cI, 8, Sum.inl (upd vMany km (nI kk)))), ((g 1), Sum.inl (cI, 512, Sum.inl fC)), ((g 2), Sum.inl (cI, 512, Sum.inl f2_83))] := hD
            refine lv_aload_n hx hb d_M_model_86 rfl (lv_at hl 2 rfl) ?_
            refine lv_aload_n hx hb d_M_model_87 rfl (lv_at hl 2 rfl) ?_
            refine va_get (D := (dC, dI)) (ci := 9) (v := .ref (g 3)) (C := "RangeCodersModel") (T := T_M) (N := 35) hx hb hg in_M hown hK hP 1 rfl rfl 6 (by decide) (hg _ k958) (fun _ h9 => h9) rfl d_M_model_88 ?_
            refine lv_iload_n hx hb d_M_model_91 rfl (lv_at hl 1 rfl) ?_
            refine my_cv (wr := [((g 2), Sum.inl (cI, 512, Sum.inl f2_83))]) (va_runV (As := [Value.ref (g 3), Value.int (nI km)]) (rest := []) ⟨hx, hb, hml, hown, hts⟩ (c_M_prepare l dC dI cI cM cO H.size o g fForm fShift (nI (km + 1)) fItems fEnded fLow fRange fCache fPend fGoes fOuts fIns fReads fBad fIR fAsk fBAsk fCode fRL fRR fX fWrites 0 (upd vMany km (nI kk)) fC (g 3) vThen km kk fm (fun _ => 1) (by omega) (hmn) (by omega) (by omega) (hfm) (hform) (hM9.1) (hb1)) (cwV 2 hts (my_gV k928 k930 ks19 k12 k931) rfl rfl rfl (by decide +kernel) ⟨by rw [hR]; exact Nat.le_of_ble_eq_true rfl, by rw [hR]; exact Nat.le_of_ble_eq_true rfl⟩) (my_preV hK hN (hP.sub [1, 2, 3, 0] rfl) (hD.sub [1, 2, 3, 0] (by decide +kernel) rfl) 0 rfl rfl) rfl rfl hl.1 rfl (lv_room (Nat.le_of_ble_eq_true rfl)) d_M_model_92 ⟨by rw [hR]; exact Nat.le_of_ble_eq_true rfl, by rw [hR]; exact Nat.le_of_ble_eq_true rfl⟩) hP hD hS hA [1, 2, 3, 0] [4] rfl rfl (by decide +kernel) (by decide +kernel) (fun u9 H locs hw_92 hP hD hS => ?_)
            obtain ⟨f2_92, rfl⟩ : ∃ z, z = u9 := ⟨_, rfl⟩
            have hw_92 : sgI f2_92 (64 * km) (pfN fm kk) (pf fm kk (fun _ => 1)) ∧ sgO f2_92 vThen (64 * km) 64 := hw_92
            have hP : va_P (dC, dI) vwCl [((g 2), Sum.inl (cI, 512, Sum.inl f2_83)), (o, Sum.inr (9, mO g fForm fShift (nI (km + 1)) fItems fEnded fLow fRange fCache fPend fGoes fOuts fIns fReads fBad fIR fAsk fBAsk fCode fRL fRR fX fWrites 0)), ((g 0), Sum.inl (cI, 8, Sum.inl (upd vMany km (nI kk)))), ((g 1), Sum.inl (cI, 512, Sum.inl fC)), ((g 3), Sum.inl (cI, 512, Sum.inl f2_92))] H := hP
            have hD : va_D A [((g 2), Sum.inl (cI, 512, Sum.inl f2_83)), (o, Sum.inr (9, mO g fForm fShift (nI (km + 1)) fItems fEnded fLow fRange fCache fPend fGoes fOuts fIns fReads fBad fIR fAsk fBAsk fCode fRL fRR fX fWrites 0)), ((g 0), Sum.inl (cI, 8, Sum.inl (upd vMany km (nI kk)))), ((g 1), Sum.inl (cI, 512, Sum.inl fC)), ((g 3), Sum.inl (cI, 512, Sum.inl f2_92))] := hD
            refine lv_iload_n hx hb d_M_model_95 rfl (lv_at hl 1 rfl) ?_
            exact my_iret (v := (nI km)) hx hb hr (rfl) hlocks hQ hK hS (Nat.le_refl _) (Nat.le_refl _) ((nI (km + 1)), (0 : Int32), (upd vMany km (nI kk)), fC, f2_83, f2_92) (⟨rfl, MD_new hMD hk (by omega) (by omega) hM9.2 hM9.1 hb1, TB_new hT (MD_N hMD) hw_83.2 (tab_pf hfm (by omega) (by omega) hb1 hw_83.1), TB_new hU (MD_N hMD) hw_92.2 (tab_pf hfm (by omega) (by omega) hb1 hw_92.1), rfl, hw_83.2, hw_83.1, hM9.1, hM9.2⟩) (hP.sub [1, 2, 3, 0, 4] rfl) (hD.sub [1, 2, 3, 0, 4] (by decide +kernel) rfl) d_M_model_96
          · have hkl : kk < ns := by
              rcases Nat.lt_or_ge kk ns with z | z
              · exact z
              · exact absurd (nI_le z (by omega)) c_4
            refine lv_aload_n hx hb d_M_model_59 rfl (lv_at hl 2 rfl) ?_
            refine va_get (D := (dC, dI)) (ci := 9) (v := .ref (g 1)) (C := "RangeCodersModel") (T := T_M) (N := 35) hx hb hg in_M hown hK hP 0 rfl rfl 4 (by decide) (hg _ k956) (fun _ h9 => h9) rfl d_M_model_60 ?_
            refine lv_bipush (v := 64) hx hb d_M_model_63 (by decide) ?_
            refine lv_iload_n hx hb d_M_model_65 rfl (lv_at hl 1 rfl) ?_
            refine lv_imul hx hb d_M_model_66 ?_
            refine lv_topi (fun v_5 ev_5 => ?_)
            refine lv_iload_n hx hb d_M_model_67 rfl (lv_at hl 0 rfl) ?_
            refine lv_iadd hx hb d_M_model_68 ?_
            refine lv_topi (fun v_6 ev_6 => ?_)
            have hix : v_6 = nI (64 * km + kk) := by rw [ev_6, ev_5]; exact ix64
            refine lv_iconst (v := 1) hx hb d_M_model_69 (by decide) ?_
            refine va_iast hx hb hK hP hD hS 2 0 rfl rfl (by rw [hix]; exact vp_in_nI (by omega) (by decide)) d_M_model_70 (fun H locs hP hD hS => ?_)
            have hP : va_P (dC, dI) vwCl [(o, Sum.inr (9, mO g fForm fShift (nI (km + 1)) fItems fEnded fLow fRange fCache fPend fGoes fOuts fIns fReads fBad fIR fAsk fBAsk fCode fRL fRR fX fWrites 0)), ((g 0), Sum.inl (cI, 8, Sum.inl (upd vMany km (nI ns)))), ((g 1), Sum.inl (cI, 512, Sum.inl (upd fC v_6.toNatClampNeg 1))), ((g 2), Sum.inl (cI, 512, Sum.inl vNow)), ((g 3), Sum.inl (cI, 512, Sum.inl vThen))] H := hP
            have hD : va_D A [(o, Sum.inr (9, mO g fForm fShift (nI (km + 1)) fItems fEnded fLow fRange fCache fPend fGoes fOuts fIns fReads fBad fIR fAsk fBAsk fCode fRL fRR fX fWrites 0)), ((g 0), Sum.inl (cI, 8, Sum.inl (upd vMany km (nI ns)))), ((g 1), Sum.inl (cI, 512, Sum.inl (upd fC v_6.toNatClampNeg 1))), ((g 2), Sum.inl (cI, 512, Sum.inl vNow)), ((g 3), Sum.inl (cI, 512, Sum.inl vThen))] := hD
            have hM8 : sgM (upd fC v_6.toNatClampNeg 1) vCounts (64 * km) 64 (kk + 1) (fun _ => 1) := sgM_st hM9 (by omega) (by rw [hix]; exact nI_clamp (by omega)) rfl
            obtain ⟨v_7, ev_7⟩ : ∃ y : Int32, y = (nI kk) + (1) := ⟨_, rfl⟩
            refine lv_iinc (v := v_7) (lv' := [(3, Value.int v_7), (2, Value.int (nI km)), (0, Value.ref o), (1, Value.int (nI ns))]) hx hb d_M_model_71 hl (k := 0) rfl (by rw [ev_7]; rfl) (by decide) rfl (fun ls hl => ?_)
            have z9 : v_7 = nI (kk + 1) := by rw [ev_7]; exact nI_1 _
            subst z9
            refine lv_goto (tgt := 54) hx hb d_M_model_74 (by decide) ?_
            exact ih9_54 _ (by first | omega | (omega)) (kk + 1) (upd fC v_6.toNatClampNeg 1) rfl (by omega) (hM8) H locs ls (hP.sub [0, 1, 2, 3, 4] rfl) (hD.sub [0, 1, 2, 3, 4] (by decide +kernel) rfl) hS (lv_sub hl [0, 1, 2, 3] rfl)
      exact J_54 _ (0 : Nat) vCounts rfl (Nat.zero_le _) (sgM_0 _ _ _ _) H locs ls (hP.sub [0, 1, 2, 3, 4] rfl) (hD.sub [0, 1, 2, 3, 4] (by decide +kernel) rfl) hS (lv_sub hl [0, 1, 2, 3] rfl)
    · exact absurd (nI_inj (a := km) (b := 8) (by omega) (by decide) c_2) (by omega)
  · exact absurd ⟨nI_le (a := 2) hns2 (by omega), nI_le (b := 64) hns (by omega)⟩ (one_eq hw_9 c_1)
set_option maxHeartbeats 2000000 in
set_option maxRecDepth 100000 in
theorem m_read0 (l : Launch) (dC : Nat → ClassId) (dI : Nat → Nat → Nat) (cI cM cO : ClassId) (sz : Nat) (o : Nat) (g : Nat → Nat) (fForm : Int32) (fShift : Int32) (fModels : Int32) (fItems : Int32) (fEnded : Int32) (fLow : Int64) (fRange : Int64) (fCache : Int32) (fPend : Int32) (fGoes : Int32) (fOuts : Int32) (fIns : Int32) (fReads : Int32) (fBad : Int32) (fIR : Int32) (fAsk : Int32) (fBAsk : Int32) (fCode : Int64) (fRL : Int64) (fRR : Int64) (fX : Int64) (fWrites : Int32) (fThrown : Int32) (vMany : Nat → Int32) (vCounts : Nat → Int32) (vThen : Nat → Int32) (vIn : Nat → Int32) (km : Nat) (N : Nat → Nat) (cn : Nat) (hfo : fForm = 0) (hmod : fModels = nI km) (hMD : MD km N vMany vCounts) (hIN : IN fIns vIn) : MetI l y_M_read (Cond.code y_M_read prog_14_method_43_code 2 (some .int) :: gw) ({ frames := 3, cells := 0, slots := 0, locals := 75 } : Room) (dC, dI) vwCl (kT cI cM cO) [Value.ref o] [(o, Sum.inr (9, mO g fForm fShift fModels fItems fEnded fLow fRange fCache fPend fGoes fOuts fIns fReads fBad fIR fAsk fBAsk fCode fRL fRR fX fWrites fThrown)), ((g 0), Sum.inl (cI, 8, Sum.inl vMany)), ((g 1), Sum.inl (cI, 512, Sum.inl vCounts)), ((g 3), Sum.inl (cI, 512, Sum.inl vThen)), ((g 8), Sum.inl (cI, 6000, Sum.inl vIn))] sz (fun (r : Int32) (u : Int32 × Int32 × Int32 × Int32 × Int32 × Int64 × Int64 × Int64 × Int64 × Int32 × (Nat → Int32)) => TB 0 km N u.2.2.2.2.2.2.2.2.2.2 ∧ (¬ u.1 = 0 → u.2.1 = 0 → RD0 cn u.2.2.2.1 u.2.2.2.2.2.1 u.2.2.2.2.2.2.2.1) ∧ r = fIns ∧ u.1 = 1) (fun (u : Int32 × Int32 × Int32 × Int32 × Int32 × Int64 × Int64 × Int64 × Int64 × Int32 × (Nat → Int32)) => [(o, Sum.inr (9, mO g fForm fShift fModels fItems fEnded fLow fRange fCache fPend fGoes fOuts fIns u.1 u.2.1 u.2.2.1 u.2.2.2.1 u.2.2.2.2.1 u.2.2.2.2.2.1 u.2.2.2.2.2.2.1 u.2.2.2.2.2.2.2.1 u.2.2.2.2.2.2.2.2.1 fWrites u.2.2.2.2.2.2.2.2.2.1)), ((g 0), Sum.inl (cI, 8, Sum.inl vMany)), ((g 1), Sum.inl (cI, 512, Sum.inl vCounts)), ((g 3), Sum.inl (cI, 512, Sum.inl u.2.2.2.2.2.2.2.2.2.2)), ((g 8), Sum.inl (cI, 6000, Sum.inl vIn))]) 0 0 := by
  refine my_ofI (cc := prog_14_method_43_code) (n := 2) (ret := (some .int)) (by decide) rfl (Nat.le_of_ble_eq_true rfl) ?_
  intro p e s m args below meth c R Q A ls H locs hx hb hr hts hown hlocks hml hnm hR hQ hA hl hP hK hN hD hS
  have hg : ∀ w ∈ gw, w.before args s = true := fun w h => hts w (List.mem_cons_of_mem _ h)
  have hown : s.vm.findClass "RangeCodersModel" = some m.cls := hown
  have hl : lv_has ls 2 [(0, Value.ref o)] := hl
  subst hfo
  have hfm : 0 ≤ 4 := by decide
  obtain ⟨is, rfl, hIn, hlen, hoct⟩ := hIN
  have hP : va_P (dC, dI) vwCl [(o, Sum.inr (9, mO g 0 fShift fModels fItems fEnded fLow fRange fCache fPend fGoes fOuts (nI is.length) fReads fBad fIR fAsk fBAsk fCode fRL fRR fX fWrites fThrown)), ((g 0), Sum.inl (cI, 8, Sum.inl vMany)), ((g 1), Sum.inl (cI, 512, Sum.inl vCounts)), ((g 3), Sum.inl (cI, 512, Sum.inl vThen)), ((g 8), Sum.inl (cI, 6000, Sum.inl vIn))] H := hP
  have hD : va_D A [(o, Sum.inr (9, mO g 0 fShift fModels fItems fEnded fLow fRange fCache fPend fGoes fOuts (nI is.length) fReads fBad fIR fAsk fBAsk fCode fRL fRR fX fWrites fThrown)), ((g 0), Sum.inl (cI, 8, Sum.inl vMany)), ((g 1), Sum.inl (cI, 512, Sum.inl vCounts)), ((g 3), Sum.inl (cI, 512, Sum.inl vThen)), ((g 8), Sum.inl (cI, 6000, Sum.inl vIn))] := hD
  have hl : lv_has ls 2 [(0, Value.ref o)] := hl
  refine lv_aload_n hx hb d_M_read_0 rfl (lv_at hl 0 rfl) ?_
  refine lv_iconst (v := 0) hx hb d_M_read_1 (by decide) ?_
  refine va_put (D := (dC, dI)) (ci := 9) (v := .int 0) (ty := .int) (C := "RangeCodersModel") (T := T_M) (N := 35) hx hb hg in_M t_M o_M n_M hown hK hP hD hS 0 rfl rfl 34 (by decide) (hg _ k986) (fun _ h9 => h9) rfl (by decide +kernel) rfl rfl (Nat.le_of_ble_eq_true rfl) d_M_read_2 (fun H locs hP hD hS => ?_)
  have hP : va_P (dC, dI) vwCl [(o, Sum.inr (9, mO g 0 fShift fModels fItems fEnded fLow fRange fCache fPend fGoes fOuts (nI is.length) fReads fBad fIR fAsk fBAsk fCode fRL fRR fX fWrites 0)), ((g 0), Sum.inl (cI, 8, Sum.inl vMany)), ((g 1), Sum.inl (cI, 512, Sum.inl vCounts)), ((g 3), Sum.inl (cI, 512, Sum.inl vThen)), ((g 8), Sum.inl (cI, 6000, Sum.inl vIn))] H := hP
  have hD : va_D A [(o, Sum.inr (9, mO g 0 fShift fModels fItems fEnded fLow fRange fCache fPend fGoes fOuts (nI is.length) fReads fBad fIR fAsk fBAsk fCode fRL fRR fX fWrites 0)), ((g 0), Sum.inl (cI, 8, Sum.inl vMany)), ((g 1), Sum.inl (cI, 512, Sum.inl vCounts)), ((g 3), Sum.inl (cI, 512, Sum.inl vThen)), ((g 8), Sum.inl (cI, 6000, Sum.inl vIn))] := hD
  refine lv_iconst (v := 0) hx hb d_M_read_5 (by decide) ?_
  refine lv_istore_n (lv' := [(1, Value.int 0), (0, Value.ref o)]) hx hb d_M_read_6 rfl hl (by decide) rfl (fun ls hl => ?_)
  have J_7 : ∀ (n9_7 : Nat) (jj : Nat) (fN : Nat → Int32) (hn9_7 : km - jj = n9_7) (hjj : jj ≤ km) (hT9 : TB 0 jj N fN) (H : Heap) (locs : List Loc) (ls : Array Slot), va_P (dC, dI) vwCl [(o, Sum.inr (9, mO g 0 fShift fModels fItems fEnded fLow fRange fCache fPend fGoes fOuts (nI is.length) fReads fBad fIR fAsk fBAsk fCode fRL fRR fX fWrites 0)), ((g 0), Sum.inl (cI, 8, Sum.inl vMany)), ((g 1), Sum.inl (cI, 512, Sum.inl vCounts)), ((g 3), Sum.inl (cI, 512, Sum.inl fN)), ((g 8), Sum.inl (cI, 6000, Sum.inl vIn))] H → va_D A [(o, Sum.inr (9, mO g 0 fShift fModels fItems fEnded fLow fRange fCache fPend fGoes fOuts (nI is.length) fReads fBad fIR fAsk fBAsk fCode fRL fRR fX fWrites 0)), ((g 0), Sum.inl (cI, 8, Sum.inl vMany)), ((g 1), Sum.inl (cI, 512, Sum.inl vCounts)), ((g 3), Sum.inl (cI, 512, Sum.inl fN)), ((g 8), Sum.inl (cI, 6000, Sum.inl vIn))] → va_S A s.heap H locs → lv_has ls 2 [(1, Value.int (nI jj)), (0, Value.ref o)] → W p l e R s m args below meth c H locs 0 0 Q (F0 m 7 ls []) := by
    intro n9_7
    induction n9_7 using Nat.strongRecOn with
    | ind n9_7 ih9_7 =>
      intro jj fN hn9_7 hjj hT9 H locs ls hP hD hS hl
      refine lv_iload_n hx hb d_M_read_7 rfl (lv_at hl 0 rfl) ?_
      refine lv_aload_n hx hb d_M_read_8 rfl (lv_at hl 1 rfl) ?_
      refine va_get (D := (dC, dI)) (ci := 9) (v := .int fModels) (C := "RangeCodersModel") (T := T_M) (N := 35) hx hb hg in_M hown hK hP 0 rfl rfl 2 (by decide) (hg _ k954) (fun _ h9 => h9) rfl d_M_read_9 ?_
      refine lv_icmp_ge (tgt := 30) hx hb d_M_read_12 (by decide) (fun c_1 => ?_) (fun c_1 => ?_)
      · have hjk : jj = km := by
          have hk8 := hMD.1
          rw [hmod] at c_1
          have := (nI_cmp (by omega) (by omega)).mp c_1
          omega
        subst hjk
        refine lv_aload_n hx hb d_M_read_30 rfl (lv_at hl 1 rfl) ?_
        refine lv_iconst (v := 1) hx hb d_M_read_31 (by decide) ?_
        refine va_put (D := (dC, dI)) (ci := 9) (v := .int 1) (ty := .boolean) (C := "RangeCodersModel") (T := T_M) (N := 35) hx hb hg in_M t_M o_M n_M hown hK hP hD hS 0 rfl rfl 21 (by decide) (hg _ k973) (fun _ h9 => h9) rfl (by decide +kernel) rfl rfl (Nat.le_of_ble_eq_true rfl) d_M_read_32 (fun H locs hP hD hS => ?_)
        have hP : va_P (dC, dI) vwCl [(o, Sum.inr (9, mO g 0 fShift fModels fItems fEnded fLow fRange fCache fPend fGoes fOuts (nI is.length) 1 fBad fIR fAsk fBAsk fCode fRL fRR fX fWrites 0)), ((g 0), Sum.inl (cI, 8, Sum.inl vMany)), ((g 1), Sum.inl (cI, 512, Sum.inl vCounts)), ((g 3), Sum.inl (cI, 512, Sum.inl fN)), ((g 8), Sum.inl (cI, 6000, Sum.inl vIn))] H := hP
        have hD : va_D A [(o, Sum.inr (9, mO g 0 fShift fModels fItems fEnded fLow fRange fCache fPend fGoes fOuts (nI is.length) 1 fBad fIR fAsk fBAsk fCode fRL fRR fX fWrites 0)), ((g 0), Sum.inl (cI, 8, Sum.inl vMany)), ((g 1), Sum.inl (cI, 512, Sum.inl vCounts)), ((g 3), Sum.inl (cI, 512, Sum.inl fN)), ((g 8), Sum.inl (cI, 6000, Sum.inl vIn))] := hD
        refine lv_aload_n hx hb d_M_read_35 rfl (lv_at hl 1 rfl) ?_
        refine lv_iconst (v := 0) hx hb d_M_read_36 (by decide) ?_
        refine va_put (D := (dC, dI)) (ci := 9) (v := .int 0) (ty := .boolean) (C := "RangeCodersModel") (T := T_M) (N := 35) hx hb hg in_M t_M o_M n_M hown hK hP hD hS 0 rfl rfl 22 (by decide) (hg _ k974) (fun _ h9 => h9) rfl (by decide +kernel) rfl rfl (Nat.le_of_ble_eq_true rfl) d_M_read_37 (fun H locs hP hD hS => ?_)
        have hP : va_P (dC, dI) vwCl [(o, Sum.inr (9, mO g 0 fShift fModels fItems fEnded fLow fRange fCache fPend fGoes fOuts (nI is.length) 1 0 fIR fAsk fBAsk fCode fRL fRR fX fWrites 0)), ((g 0), Sum.inl (cI, 8, Sum.inl vMany)), ((g 1), Sum.inl (cI, 512, Sum.inl vCounts)), ((g 3), Sum.inl (cI, 512, Sum.inl fN)), ((g 8), Sum.inl (cI, 6000, Sum.inl vIn))] H := hP
        have hD : va_D A [(o, Sum.inr (9, mO g 0 fShift fModels fItems fEnded fLow fRange fCache fPend fGoes fOuts (nI is.length) 1 0 fIR fAsk fBAsk fCode fRL fRR fX fWrites 0)), ((g 0), Sum.inl (cI, 8, Sum.inl vMany)), ((g 1), Sum.inl (cI, 512, Sum.inl vCounts)), ((g 3), Sum.inl (cI, 512, Sum.inl fN)), ((g 8), Sum.inl (cI, 6000, Sum.inl vIn))] := hD
        refine lv_aload_n hx hb d_M_read_40 rfl (lv_at hl 1 rfl) ?_
        refine lv_iconst (v := 0) hx hb d_M_read_41 (by decide) ?_
        refine va_put (D := (dC, dI)) (ci := 9) (v := .int 0) (ty := .int) (C := "RangeCodersModel") (T := T_M) (N := 35) hx hb hg in_M t_M o_M n_M hown hK hP hD hS 0 rfl rfl 23 (by decide) (hg _ k975) (fun _ h9 => h9) rfl (by decide +kernel) rfl rfl (Nat.le_of_ble_eq_true rfl) d_M_read_42 (fun H locs hP hD hS => ?_)
        have hP : va_P (dC, dI) vwCl [(o, Sum.inr (9, mO g 0 fShift fModels fItems fEnded fLow fRange fCache fPend fGoes fOuts (nI is.length) 1 0 0 fAsk fBAsk fCode fRL fRR fX fWrites 0)), ((g 0), Sum.inl (cI, 8, Sum.inl vMany)), ((g 1), Sum.inl (cI, 512, Sum.inl vCounts)), ((g 3), Sum.inl (cI, 512, Sum.inl fN)), ((g 8), Sum.inl (cI, 6000, Sum.inl vIn))] H := hP
        have hD : va_D A [(o, Sum.inr (9, mO g 0 fShift fModels fItems fEnded fLow fRange fCache fPend fGoes fOuts (nI is.length) 1 0 0 fAsk fBAsk fCode fRL fRR fX fWrites 0)), ((g 0), Sum.inl (cI, 8, Sum.inl vMany)), ((g 1), Sum.inl (cI, 512, Sum.inl vCounts)), ((g 3), Sum.inl (cI, 512, Sum.inl fN)), ((g 8), Sum.inl (cI, 6000, Sum.inl vIn))] := hD
        refine lv_aload_n hx hb d_M_read_45 rfl (lv_at hl 1 rfl) ?_
        refine lv_iconst (v := 0) hx hb d_M_read_46 (by decide) ?_
        refine va_put (D := (dC, dI)) (ci := 9) (v := .int 0) (ty := .int) (C := "RangeCodersModel") (T := T_M) (N := 35) hx hb hg in_M t_M o_M n_M hown hK hP hD hS 0 rfl rfl 24 (by decide) (hg _ k976) (fun _ h9 => h9) rfl (by decide +kernel) rfl rfl (Nat.le_of_ble_eq_true rfl) d_M_read_47 (fun H locs hP hD hS => ?_)
        have hP : va_P (dC, dI) vwCl [(o, Sum.inr (9, mO g 0 fShift fModels fItems fEnded fLow fRange fCache fPend fGoes fOuts (nI is.length) 1 0 0 0 fBAsk fCode fRL fRR fX fWrites 0)), ((g 0), Sum.inl (cI, 8, Sum.inl vMany)), ((g 1), Sum.inl (cI, 512, Sum.inl vCounts)), ((g 3), Sum.inl (cI, 512, Sum.inl fN)), ((g 8), Sum.inl (cI, 6000, Sum.inl vIn))] H := hP
        have hD : va_D A [(o, Sum.inr (9, mO g 0 fShift fModels fItems fEnded fLow fRange fCache fPend fGoes fOuts (nI is.length) 1 0 0 0 fBAsk fCode fRL fRR fX fWrites 0)), ((g 0), Sum.inl (cI, 8, Sum.inl vMany)), ((g 1), Sum.inl (cI, 512, Sum.inl vCounts)), ((g 3), Sum.inl (cI, 512, Sum.inl fN)), ((g 8), Sum.inl (cI, 6000, Sum.inl vIn))] := hD
        refine lv_aload_n hx hb d_M_read_50 rfl (lv_at hl 1 rfl) ?_
        refine lv_iconst (v := 0) hx hb d_M_read_51 (by decide) ?_
        refine va_put (D := (dC, dI)) (ci := 9) (v := .int 0) (ty := .int) (C := "RangeCodersModel") (T := T_M) (N := 35) hx hb hg in_M t_M o_M n_M hown hK hP hD hS 0 rfl rfl 25 (by decide) (hg _ k977) (fun _ h9 => h9) rfl (by decide +kernel) rfl rfl (Nat.le_of_ble_eq_true rfl) d_M_read_52 (fun H locs hP hD hS => ?_)
        have hP : va_P (dC, dI) vwCl [(o, Sum.inr (9, mO g 0 fShift fModels fItems fEnded fLow fRange fCache fPend fGoes fOuts (nI is.length) 1 0 0 0 0 fCode fRL fRR fX fWrites 0)), ((g 0), Sum.inl (cI, 8, Sum.inl vMany)), ((g 1), Sum.inl (cI, 512, Sum.inl vCounts)), ((g 3), Sum.inl (cI, 512, Sum.inl fN)), ((g 8), Sum.inl (cI, 6000, Sum.inl vIn))] H := hP
        have hD : va_D A [(o, Sum.inr (9, mO g 0 fShift fModels fItems fEnded fLow fRange fCache fPend fGoes fOuts (nI is.length) 1 0 0 0 0 fCode fRL fRR fX fWrites 0)), ((g 0), Sum.inl (cI, 8, Sum.inl vMany)), ((g 1), Sum.inl (cI, 512, Sum.inl vCounts)), ((g 3), Sum.inl (cI, 512, Sum.inl fN)), ((g 8), Sum.inl (cI, 6000, Sum.inl vIn))] := hD
        refine lv_aload_n hx hb d_M_read_55 rfl (lv_at hl 1 rfl) ?_
        refine lv_lconst (v := 0) hx hb d_M_read_56 (by decide) ?_
        refine va_put (D := (dC, dI)) (ci := 9) (v := .long 0) (ty := .long) (C := "RangeCodersModel") (T := T_M) (N := 35) hx hb hg in_M t_M o_M n_M hown hK hP hD hS 0 rfl rfl 26 (by decide) (hg _ k978) (fun _ h9 => h9) rfl (by decide +kernel) rfl rfl (Nat.le_of_ble_eq_true rfl) d_M_read_57 (fun H locs hP hD hS => ?_)
        have hP : va_P (dC, dI) vwCl [(o, Sum.inr (9, mO g 0 fShift fModels fItems fEnded fLow fRange fCache fPend fGoes fOuts (nI is.length) 1 0 0 0 0 0 fRL fRR fX fWrites 0)), ((g 0), Sum.inl (cI, 8, Sum.inl vMany)), ((g 1), Sum.inl (cI, 512, Sum.inl vCounts)), ((g 3), Sum.inl (cI, 512, Sum.inl fN)), ((g 8), Sum.inl (cI, 6000, Sum.inl vIn))] H := hP
        have hD : va_D A [(o, Sum.inr (9, mO g 0 fShift fModels fItems fEnded fLow fRange fCache fPend fGoes fOuts (nI is.length) 1 0 0 0 0 0 fRL fRR fX fWrites 0)), ((g 0), Sum.inl (cI, 8, Sum.inl vMany)), ((g 1), Sum.inl (cI, 512, Sum.inl vCounts)), ((g 3), Sum.inl (cI, 512, Sum.inl fN)), ((g 8), Sum.inl (cI, 6000, Sum.inl vIn))] := hD
        refine lv_aload_n hx hb d_M_read_60 rfl (lv_at hl 1 rfl) ?_
        refine lv_lconst (v := 0) hx hb d_M_read_61 (by decide) ?_
        refine va_put (D := (dC, dI)) (ci := 9) (v := .long 0) (ty := .long) (C := "RangeCodersModel") (T := T_M) (N := 35) hx hb hg in_M t_M o_M n_M hown hK hP hD hS 0 rfl rfl 27 (by decide) (hg _ k979) (fun _ h9 => h9) rfl (by decide +kernel) rfl rfl (Nat.le_of_ble_eq_true rfl) d_M_read_62 (fun H locs hP hD hS => ?_)
        have hP : va_P (dC, dI) vwCl [(o, Sum.inr (9, mO g 0 fShift fModels fItems fEnded fLow fRange fCache fPend fGoes fOuts (nI is.length) 1 0 0 0 0 0 0 fRR fX fWrites 0)), ((g 0), Sum.inl (cI, 8, Sum.inl vMany)), ((g 1), Sum.inl (cI, 512, Sum.inl vCounts)), ((g 3), Sum.inl (cI, 512, Sum.inl fN)), ((g 8), Sum.inl (cI, 6000, Sum.inl vIn))] H := hP
        have hD : va_D A [(o, Sum.inr (9, mO g 0 fShift fModels fItems fEnded fLow fRange fCache fPend fGoes fOuts (nI is.length) 1 0 0 0 0 0 0 fRR fX fWrites 0)), ((g 0), Sum.inl (cI, 8, Sum.inl vMany)), ((g 1), Sum.inl (cI, 512, Sum.inl vCounts)), ((g 3), Sum.inl (cI, 512, Sum.inl fN)), ((g 8), Sum.inl (cI, 6000, Sum.inl vIn))] := hD
        refine lv_aload_n hx hb d_M_read_65 rfl (lv_at hl 1 rfl) ?_
        refine lv_ldc2 (v := 4294967295) hx hb hown (hg _ k927) d_M_read_66 ?_
        refine va_put (D := (dC, dI)) (ci := 9) (v := .long 4294967295) (ty := .long) (C := "RangeCodersModel") (T := T_M) (N := 35) hx hb hg in_M t_M o_M n_M hown hK hP hD hS 0 rfl rfl 28 (by decide) (hg _ k980) (fun _ h9 => h9) rfl (by decide +kernel) rfl rfl (Nat.le_of_ble_eq_true rfl) d_M_read_69 (fun H locs hP hD hS => ?_)
        have hP : va_P (dC, dI) vwCl [(o, Sum.inr (9, mO g 0 fShift fModels fItems fEnded fLow fRange fCache fPend fGoes fOuts (nI is.length) 1 0 0 0 0 0 0 4294967295 fX fWrites 0)), ((g 0), Sum.inl (cI, 8, Sum.inl vMany)), ((g 1), Sum.inl (cI, 512, Sum.inl vCounts)), ((g 3), Sum.inl (cI, 512, Sum.inl fN)), ((g 8), Sum.inl (cI, 6000, Sum.inl vIn))] H := hP
        have hD : va_D A [(o, Sum.inr (9, mO g 0 fShift fModels fItems fEnded fLow fRange fCache fPend fGoes fOuts (nI is.length) 1 0 0 0 0 0 0 4294967295 fX fWrites 0)), ((g 0), Sum.inl (cI, 8, Sum.inl vMany)), ((g 1), Sum.inl (cI, 512, Sum.inl vCounts)), ((g 3), Sum.inl (cI, 512, Sum.inl fN)), ((g 8), Sum.inl (cI, 6000, Sum.inl vIn))] := hD
        refine lv_aload_n hx hb d_M_read_72 rfl (lv_at hl 1 rfl) ?_
        refine lv_lconst (v := 0) hx hb d_M_read_73 (by decide) ?_
        refine va_put (D := (dC, dI)) (ci := 9) (v := .long 0) (ty := .long) (C := "RangeCodersModel") (T := T_M) (N := 35) hx hb hg in_M t_M o_M n_M hown hK hP hD hS 0 rfl rfl 29 (by decide) (hg _ k981) (fun _ h9 => h9) rfl (by decide +kernel) rfl rfl (Nat.le_of_ble_eq_true rfl) d_M_read_74 (fun H locs hP hD hS => ?_)
        have hP : va_P (dC, dI) vwCl [(o, Sum.inr (9, mO g 0 fShift fModels fItems fEnded fLow fRange fCache fPend fGoes fOuts (nI is.length) 1 0 0 0 0 0 0 4294967295 0 fWrites 0)), ((g 0), Sum.inl (cI, 8, Sum.inl vMany)), ((g 1), Sum.inl (cI, 512, Sum.inl vCounts)), ((g 3), Sum.inl (cI, 512, Sum.inl fN)), ((g 8), Sum.inl (cI, 6000, Sum.inl vIn))] H := hP
        have hD : va_D A [(o, Sum.inr (9, mO g 0 fShift fModels fItems fEnded fLow fRange fCache fPend fGoes fOuts (nI is.length) 1 0 0 0 0 0 0 4294967295 0 fWrites 0)), ((g 0), Sum.inl (cI, 8, Sum.inl vMany)), ((g 1), Sum.inl (cI, 512, Sum.inl vCounts)), ((g 3), Sum.inl (cI, 512, Sum.inl fN)), ((g 8), Sum.inl (cI, 6000, Sum.inl vIn))] := hD
        refine lv_aload_n hx hb d_M_read_77 rfl (lv_at hl 1 rfl) ?_
        refine va_get (D := (dC, dI)) (ci := 9) (v := .int 0) (C := "RangeCodersModel") (T := T_M) (N := 35) hx hb hg in_M hown hK hP 0 rfl rfl 0 (by decide) (hg _ k952) (fun _ h9 => h9) rfl d_M_read_78 ?_
        refine lv_iconst (v := 3) hx hb d_M_read_81 (by decide) ?_
        refine lv_icmp_ge (tgt := 96) hx hb d_M_read_82 (by decide) (fun c_2 => ?_) (fun c_2 => ?_)
        · exact absurd c_2 (by decide)
        · refine lv_aload_n hx hb d_M_read_85 rfl (lv_at hl 1 rfl) ?_
          refine lv_aload_n hx hb d_M_read_86 rfl (lv_at hl 1 rfl) ?_
          refine my_cl (wr := [((g 0), Sum.inl (cI, 8, Sum.inl vMany)), ((g 1), Sum.inl (cI, 512, Sum.inl vCounts)), ((g 3), Sum.inl (cI, 512, Sum.inl fN))]) (va_runV (As := []) (rest := [Value.ref o]) ⟨hx, hb, hml, hown, hts⟩ (c_M_four l dC dI cI cM cO H.size o g 0 fShift fModels fItems fEnded fLow fRange fCache fPend fGoes fOuts 1 0 0 0 0 0 4294967295 0 fWrites 0 vIn is 0 (hIn) (hlen) (hoct) (by decide)) (cwV 0 hts (my_gV k1190 k1192 ks44 k12 k1193) rfl rfl rfl (by decide +kernel) ⟨by rw [hR]; exact Nat.le_of_ble_eq_true rfl, by rw [hR]; exact Nat.le_of_ble_eq_true rfl⟩) (my_preV hK hN (hP.sub [0, 4] rfl) (hD.sub [0, 4] (by decide +kernel) rfl) 0 rfl rfl) rfl rfl hl.1 rfl (lv_room (Nat.le_of_ble_eq_true rfl)) d_M_read_87 ⟨by rw [hR]; exact Nat.le_of_ble_eq_true rfl, by rw [hR]; exact Nat.le_of_ble_eq_true rfl⟩) hP hD hS hA [0, 4] [1, 2, 3] rfl rfl (by decide +kernel) (by decide +kernel) (fun r_87 u9 H locs hw_87 hP hD hS => ?_)
          have hw_87 : r_87 = lN (frN is 0 4) := hw_87
          have hP : va_P (dC, dI) vwCl [((g 0), Sum.inl (cI, 8, Sum.inl vMany)), ((g 1), Sum.inl (cI, 512, Sum.inl vCounts)), ((g 3), Sum.inl (cI, 512, Sum.inl fN)), (o, Sum.inr (9, mO g 0 fShift fModels fItems fEnded fLow fRange fCache fPend fGoes fOuts (nI is.length) 1 0 0 (nI (0 + 4)) 0 0 0 4294967295 0 fWrites 0)), ((g 8), Sum.inl (cI, 6000, Sum.inl vIn))] H := hP
          have hD : va_D A [((g 0), Sum.inl (cI, 8, Sum.inl vMany)), ((g 1), Sum.inl (cI, 512, Sum.inl vCounts)), ((g 3), Sum.inl (cI, 512, Sum.inl fN)), (o, Sum.inr (9, mO g 0 fShift fModels fItems fEnded fLow fRange fCache fPend fGoes fOuts (nI is.length) 1 0 0 (nI (0 + 4)) 0 0 0 4294967295 0 fWrites 0)), ((g 8), Sum.inl (cI, 6000, Sum.inl vIn))] := hD
          refine va_put (D := (dC, dI)) (ci := 9) (v := .long r_87) (ty := .long) (C := "RangeCodersModel") (T := T_M) (N := 35) hx hb hg in_M t_M o_M n_M hown hK hP hD hS 3 rfl rfl 26 (by decide) (hg _ k978) (fun _ h9 => h9) rfl (by decide +kernel) rfl rfl (Nat.le_of_ble_eq_true rfl) d_M_read_90 (fun H locs hP hD hS => ?_)
          have hP : va_P (dC, dI) vwCl [((g 0), Sum.inl (cI, 8, Sum.inl vMany)), ((g 1), Sum.inl (cI, 512, Sum.inl vCounts)), ((g 3), Sum.inl (cI, 512, Sum.inl fN)), (o, Sum.inr (9, mO g 0 fShift fModels fItems fEnded fLow fRange fCache fPend fGoes fOuts (nI is.length) 1 0 0 (nI (0 + 4)) 0 r_87 0 4294967295 0 fWrites 0)), ((g 8), Sum.inl (cI, 6000, Sum.inl vIn))] H := hP
          have hD : va_D A [((g 0), Sum.inl (cI, 8, Sum.inl vMany)), ((g 1), Sum.inl (cI, 512, Sum.inl vCounts)), ((g 3), Sum.inl (cI, 512, Sum.inl fN)), (o, Sum.inr (9, mO g 0 fShift fModels fItems fEnded fLow fRange fCache fPend fGoes fOuts (nI is.length) 1 0 0 (nI (0 + 4)) 0 r_87 0 4294967295 0 fWrites 0)), ((g 8), Sum.inl (cI, 6000, Sum.inl vIn))] := hD
          refine lv_goto (tgt := 172) hx hb d_M_read_93 (by decide) ?_
          refine lv_aload_n hx hb d_M_read_172 rfl (lv_at hl 1 rfl) ?_
          refine va_get (D := (dC, dI)) (ci := 9) (v := .int (nI is.length)) (C := "RangeCodersModel") (T := T_M) (N := 35) hx hb hg in_M hown hK hP 3 rfl rfl 20 (by decide) (hg _ k972) (fun _ h9 => h9) rfl d_M_read_173 ?_
          exact my_iret (v := nI is.length) hx hb hr (rfl) hlocks hQ hK hS (Nat.le_refl _) (Nat.le_refl _) ((1 : Int32), (0 : Int32), (0 : Int32), nI (0 + 4), (0 : Int32), r_87, (0 : Int64), (4294967295 : Int64), (0 : Int64), (0 : Int32), fN) (⟨hT9, fun _ _ => ⟨4294967295, frN is 0 4, 4, hw_87, rfl, rfl, by decide, frN_lt hoct 0 4, by omega⟩, rfl, rfl⟩) (hP.sub [3, 0, 1, 2, 4] rfl) (hD.sub [3, 0, 1, 2, 4] (by decide +kernel) rfl) d_M_read_176
      · have hjl : jj < km := by
          rcases Nat.lt_or_ge jj km with z | z
          · exact z
          · exact absurd (by rw [hmod]; exact nI_le z (by have := hMD.1; omega)) c_1
        have hk8 := hMD.1
        obtain ⟨hn9, hn2, hn64, C9, hc9, hB9⟩ := hMD.2 jj hjl
        refine lv_aload_n hx hb d_M_read_15 rfl (lv_at hl 1 rfl) ?_
        refine lv_aload_n hx hb d_M_read_16 rfl (lv_at hl 1 rfl) ?_
        refine va_get (D := (dC, dI)) (ci := 9) (v := .ref (g 3)) (C := "RangeCodersModel") (T := T_M) (N := 35) hx hb hg in_M hown hK hP 0 rfl rfl 6 (by decide) (hg _ k958) (fun _ h9 => h9) rfl d_M_read_17 ?_
        refine lv_iload_n hx hb d_M_read_20 rfl (lv_at hl 0 rfl) ?_
        refine my_cv (wr := [((g 8), Sum.inl (cI, 6000, Sum.inl vIn))]) (va_runV (As := [Value.ref (g 3), Value.int (nI jj)]) (rest := []) ⟨hx, hb, hml, hown, hts⟩ (c_M_prepare l dC dI cI cM cO H.size o g 0 fShift fModels fItems fEnded fLow fRange fCache fPend fGoes fOuts (nI is.length) fReads fBad fIR fAsk fBAsk fCode fRL fRR fX fWrites 0 vMany vCounts (g 3) fN jj (N jj) 0 C9 (by omega) (hn9) (hn64) (by omega) (by decide) (by rfl) (hc9) (hB9)) (cwV 2 hts (my_gV k928 k930 ks19 k12 k931) rfl rfl rfl (by decide +kernel) ⟨by rw [hR]; exact Nat.le_of_ble_eq_true rfl, by rw [hR]; exact Nat.le_of_ble_eq_true rfl⟩) (my_preV hK hN (hP.sub [0, 1, 2, 3] rfl) (hD.sub [0, 1, 2, 3] (by decide +kernel) rfl) 0 rfl rfl) rfl rfl hl.1 rfl (lv_room (Nat.le_of_ble_eq_true rfl)) d_M_read_21 ⟨by rw [hR]; exact Nat.le_of_ble_eq_true rfl, by rw [hR]; exact Nat.le_of_ble_eq_true rfl⟩) hP hD hS hA [0, 1, 2, 3] [4] rfl rfl (by decide +kernel) (by decide +kernel) (fun u9 H locs hw_21 hP hD hS => ?_)
        obtain ⟨f2_21, rfl⟩ : ∃ z, z = u9 := ⟨_, rfl⟩
        have hw_21 : sgI f2_21 (64 * jj) (pfN 0 (N jj)) (pf 0 (N jj) C9) ∧ sgO f2_21 fN (64 * jj) 64 := hw_21
        have hP : va_P (dC, dI) vwCl [((g 8), Sum.inl (cI, 6000, Sum.inl vIn)), (o, Sum.inr (9, mO g 0 fShift fModels fItems fEnded fLow fRange fCache fPend fGoes fOuts (nI is.length) fReads fBad fIR fAsk fBAsk fCode fRL fRR fX fWrites 0)), ((g 0), Sum.inl (cI, 8, Sum.inl vMany)), ((g 1), Sum.inl (cI, 512, Sum.inl vCounts)), ((g 3), Sum.inl (cI, 512, Sum.inl f2_21))] H := hP
        have hD : va_D A [((g 8), Sum.inl (cI, 6000, Sum.inl vIn)), (o, Sum.inr (9, mO g 0 fShift fModels fItems fEnded fLow fRange fCache fPend fGoes fOuts (nI is.length) fReads fBad fIR fAsk fBAsk fCode fRL fRR fX fWrites 0)), ((g 0), Sum.inl (cI, 8, Sum.inl vMany)), ((g 1), Sum.inl (cI, 512, Sum.inl vCounts)), ((g 3), Sum.inl (cI, 512, Sum.inl f2_21))] := hD
        have hT8 := TB_step hT9 (MD_N hMD) hjl hw_21.2 (tab_pf hfm hn64 (by omega) hB9 hw_21.1)
        obtain ⟨v_3, ev_3⟩ : ∃ y : Int32, y = (nI jj) + (1) := ⟨_, rfl⟩
        refine lv_iinc (v := v_3) (lv' := [(1, Value.int v_3), (0, Value.ref o)]) hx hb d_M_read_24 hl (k := 0) rfl (by rw [ev_3]; rfl) (by decide) rfl (fun ls hl => ?_)
        have z9 : v_3 = nI (jj + 1) := by rw [ev_3]; exact nI_1 _
        subst z9
        refine lv_goto (tgt := 7) hx hb d_M_read_27 (by decide) ?_
        exact ih9_7 _ (by first | omega | (omega)) (jj + 1) f2_21 rfl (by omega) (hT8) H locs ls (hP.sub [1, 2, 3, 4, 0] rfl) (hD.sub [1, 2, 3, 4, 0] (by decide +kernel) rfl) hS (lv_sub hl [0, 1] rfl)
  exact J_7 _ (0 : Nat) vThen rfl (Nat.zero_le _) (TB_0 _ _ _) H locs ls (hP.sub [0, 1, 2, 3, 4] rfl) (hD.sub [0, 1, 2, 3, 4] (by decide +kernel) rfl) hS (lv_sub hl [0, 1] rfl)
set_option maxHeartbeats 2000000 in
set_option maxRecDepth 100000 in
theorem m_read1 (l : Launch) (dC : Nat → ClassId) (dI : Nat → Nat → Nat) (cI cM cO : ClassId) (sz : Nat) (o : Nat) (g : Nat → Nat) (fForm : Int32) (fShift : Int32) (fModels : Int32) (fItems : Int32) (fEnded : Int32) (fLow : Int64) (fRange : Int64) (fCache : Int32) (fPend : Int32) (fGoes : Int32) (fOuts : Int32) (fIns : Int32) (fReads : Int32) (fBad : Int32) (fIR : Int32) (fAsk : Int32) (fBAsk : Int32) (fCode : Int64) (fRL : Int64) (fRR : Int64) (fX : Int64) (fWrites : Int32) (fThrown : Int32) (vMany : Nat → Int32) (vCounts : Nat → Int32) (vThen : Nat → Int32) (vIn : Nat → Int32) (km : Nat) (N : Nat → Nat) (cn : Nat) (hfo : fForm = 1) (hmod : fModels = nI km) (hMD : MD km N vMany vCounts) (hIN : IN fIns vIn) : MetI l y_M_read (Cond.code y_M_read prog_14_method_43_code 2 (some .int) :: gw) ({ frames := 3, cells := 0, slots := 0, locals := 75 } : Room) (dC, dI) vwCl (kT cI cM cO) [Value.ref o] [(o, Sum.inr (9, mO g fForm fShift fModels fItems fEnded fLow fRange fCache fPend fGoes fOuts fIns fReads fBad fIR fAsk fBAsk fCode fRL fRR fX fWrites fThrown)), ((g 0), Sum.inl (cI, 8, Sum.inl vMany)), ((g 1), Sum.inl (cI, 512, Sum.inl vCounts)), ((g 3), Sum.inl (cI, 512, Sum.inl vThen)), ((g 8), Sum.inl (cI, 6000, Sum.inl vIn))] sz (fun (r : Int32) (u : Int32 × Int32 × Int32 × Int32 × Int32 × Int64 × Int64 × Int64 × Int64 × Int32 × (Nat → Int32)) => TB 1 km N u.2.2.2.2.2.2.2.2.2.2 ∧ (¬ u.1 = 0 → u.2.1 = 0 → RD1 cn u.2.2.2.1 u.2.2.2.2.2.1 u.2.2.2.2.2.2.1 u.2.2.2.2.2.2.2.1) ∧ r = fIns ∧ u.1 = 1) (fun (u : Int32 × Int32 × Int32 × Int32 × Int32 × Int64 × Int64 × Int64 × Int64 × Int32 × (Nat → Int32)) => [(o, Sum.inr (9, mO g fForm fShift fModels fItems fEnded fLow fRange fCache fPend fGoes fOuts fIns u.1 u.2.1 u.2.2.1 u.2.2.2.1 u.2.2.2.2.1 u.2.2.2.2.2.1 u.2.2.2.2.2.2.1 u.2.2.2.2.2.2.2.1 u.2.2.2.2.2.2.2.2.1 fWrites u.2.2.2.2.2.2.2.2.2.1)), ((g 0), Sum.inl (cI, 8, Sum.inl vMany)), ((g 1), Sum.inl (cI, 512, Sum.inl vCounts)), ((g 3), Sum.inl (cI, 512, Sum.inl u.2.2.2.2.2.2.2.2.2.2)), ((g 8), Sum.inl (cI, 6000, Sum.inl vIn))]) 0 0 := by
  refine my_ofI (cc := prog_14_method_43_code) (n := 2) (ret := (some .int)) (by decide) rfl (Nat.le_of_ble_eq_true rfl) ?_
  intro p e s m args below meth c R Q A ls H locs hx hb hr hts hown hlocks hml hnm hR hQ hA hl hP hK hN hD hS
  have hg : ∀ w ∈ gw, w.before args s = true := fun w h => hts w (List.mem_cons_of_mem _ h)
  have hown : s.vm.findClass "RangeCodersModel" = some m.cls := hown
  have hl : lv_has ls 2 [(0, Value.ref o)] := hl
  subst hfo
  have hfm : 1 ≤ 4 := by decide
  obtain ⟨is, rfl, hIn, hlen, hoct⟩ := hIN
  have hP : va_P (dC, dI) vwCl [(o, Sum.inr (9, mO g 1 fShift fModels fItems fEnded fLow fRange fCache fPend fGoes fOuts (nI is.length) fReads fBad fIR fAsk fBAsk fCode fRL fRR fX fWrites fThrown)), ((g 0), Sum.inl (cI, 8, Sum.inl vMany)), ((g 1), Sum.inl (cI, 512, Sum.inl vCounts)), ((g 3), Sum.inl (cI, 512, Sum.inl vThen)), ((g 8), Sum.inl (cI, 6000, Sum.inl vIn))] H := hP
  have hD : va_D A [(o, Sum.inr (9, mO g 1 fShift fModels fItems fEnded fLow fRange fCache fPend fGoes fOuts (nI is.length) fReads fBad fIR fAsk fBAsk fCode fRL fRR fX fWrites fThrown)), ((g 0), Sum.inl (cI, 8, Sum.inl vMany)), ((g 1), Sum.inl (cI, 512, Sum.inl vCounts)), ((g 3), Sum.inl (cI, 512, Sum.inl vThen)), ((g 8), Sum.inl (cI, 6000, Sum.inl vIn))] := hD
  have hl : lv_has ls 2 [(0, Value.ref o)] := hl
  refine lv_aload_n hx hb d_M_read_0 rfl (lv_at hl 0 rfl) ?_
  refine lv_iconst (v := 0) hx hb d_M_read_1 (by decide) ?_
  refine va_put (D := (dC, dI)) (ci := 9) (v := .int 0) (ty := .int) (C := "RangeCodersModel") (T := T_M) (N := 35) hx hb hg in_M t_M o_M n_M hown hK hP hD hS 0 rfl rfl 34 (by decide) (hg _ k986) (fun _ h9 => h9) rfl (by decide +kernel) rfl rfl (Nat.le_of_ble_eq_true rfl) d_M_read_2 (fun H locs hP hD hS => ?_)
  have hP : va_P (dC, dI) vwCl [(o, Sum.inr (9, mO g 1 fShift fModels fItems fEnded fLow fRange fCache fPend fGoes fOuts (nI is.length) fReads fBad fIR fAsk fBAsk fCode fRL fRR fX fWrites 0)), ((g 0), Sum.inl (cI, 8, Sum.inl vMany)), ((g 1), Sum.inl (cI, 512, Sum.inl vCounts)), ((g 3), Sum.inl (cI, 512, Sum.inl vThen)), ((g 8), Sum.inl (cI, 6000, Sum.inl vIn))] H := hP
  have hD : va_D A [(o, Sum.inr (9, mO g 1 fShift fModels fItems fEnded fLow fRange fCache fPend fGoes fOuts (nI is.length) fReads fBad fIR fAsk fBAsk fCode fRL fRR fX fWrites 0)), ((g 0), Sum.inl (cI, 8, Sum.inl vMany)), ((g 1), Sum.inl (cI, 512, Sum.inl vCounts)), ((g 3), Sum.inl (cI, 512, Sum.inl vThen)), ((g 8), Sum.inl (cI, 6000, Sum.inl vIn))] := hD
  refine lv_iconst (v := 0) hx hb d_M_read_5 (by decide) ?_
  refine lv_istore_n (lv' := [(1, Value.int 0), (0, Value.ref o)]) hx hb d_M_read_6 rfl hl (by decide) rfl (fun ls hl => ?_)
  have J_7 : ∀ (n9_7 : Nat) (jj : Nat) (fN : Nat → Int32) (hn9_7 : km - jj = n9_7) (hjj : jj ≤ km) (hT9 : TB 1 jj N fN) (H : Heap) (locs : List Loc) (ls : Array Slot), va_P (dC, dI) vwCl [(o, Sum.inr (9, mO g 1 fShift fModels fItems fEnded fLow fRange fCache fPend fGoes fOuts (nI is.length) fReads fBad fIR fAsk fBAsk fCode fRL fRR fX fWrites 0)), ((g 0), Sum.inl (cI, 8, Sum.inl vMany)), ((g 1), Sum.inl (cI, 512, Sum.inl vCounts)), ((g 3), Sum.inl (cI, 512, Sum.inl fN)), ((g 8), Sum.inl (cI, 6000, Sum.inl vIn))] H → va_D A [(o, Sum.inr (9, mO g 1 fShift fModels fItems fEnded fLow fRange fCache fPend fGoes fOuts (nI is.length) fReads fBad fIR fAsk fBAsk fCode fRL fRR fX fWrites 0)), ((g 0), Sum.inl (cI, 8, Sum.inl vMany)), ((g 1), Sum.inl (cI, 512, Sum.inl vCounts)), ((g 3), Sum.inl (cI, 512, Sum.inl fN)), ((g 8), Sum.inl (cI, 6000, Sum.inl vIn))] → va_S A s.heap H locs → lv_has ls 2 [(1, Value.int (nI jj)), (0, Value.ref o)] → W p l e R s m args below meth c H locs 0 0 Q (F0 m 7 ls []) := by
    intro n9_7
    induction n9_7 using Nat.strongRecOn with
    | ind n9_7 ih9_7 =>
      intro jj fN hn9_7 hjj hT9 H locs ls hP hD hS hl
      refine lv_iload_n hx hb d_M_read_7 rfl (lv_at hl 0 rfl) ?_
      refine lv_aload_n hx hb d_M_read_8 rfl (lv_at hl 1 rfl) ?_
      refine va_get (D := (dC, dI)) (ci := 9) (v := .int fModels) (C := "RangeCodersModel") (T := T_M) (N := 35) hx hb hg in_M hown hK hP 0 rfl rfl 2 (by decide) (hg _ k954) (fun _ h9 => h9) rfl d_M_read_9 ?_
      refine lv_icmp_ge (tgt := 30) hx hb d_M_read_12 (by decide) (fun c_1 => ?_) (fun c_1 => ?_)
      · have hjk : jj = km := by
          have hk8 := hMD.1
          rw [hmod] at c_1
          have := (nI_cmp (by omega) (by omega)).mp c_1
          omega
        subst hjk
        refine lv_aload_n hx hb d_M_read_30 rfl (lv_at hl 1 rfl) ?_
        refine lv_iconst (v := 1) hx hb d_M_read_31 (by decide) ?_
        refine va_put (D := (dC, dI)) (ci := 9) (v := .int 1) (ty := .boolean) (C := "RangeCodersModel") (T := T_M) (N := 35) hx hb hg in_M t_M o_M n_M hown hK hP hD hS 0 rfl rfl 21 (by decide) (hg _ k973) (fun _ h9 => h9) rfl (by decide +kernel) rfl rfl (Nat.le_of_ble_eq_true rfl) d_M_read_32 (fun H locs hP hD hS => ?_)
        have hP : va_P (dC, dI) vwCl [(o, Sum.inr (9, mO g 1 fShift fModels fItems fEnded fLow fRange fCache fPend fGoes fOuts (nI is.length) 1 fBad fIR fAsk fBAsk fCode fRL fRR fX fWrites 0)), ((g 0), Sum.inl (cI, 8, Sum.inl vMany)), ((g 1), Sum.inl (cI, 512, Sum.inl vCounts)), ((g 3), Sum.inl (cI, 512, Sum.inl fN)), ((g 8), Sum.inl (cI, 6000, Sum.inl vIn))] H := hP
        have hD : va_D A [(o, Sum.inr (9, mO g 1 fShift fModels fItems fEnded fLow fRange fCache fPend fGoes fOuts (nI is.length) 1 fBad fIR fAsk fBAsk fCode fRL fRR fX fWrites 0)), ((g 0), Sum.inl (cI, 8, Sum.inl vMany)), ((g 1), Sum.inl (cI, 512, Sum.inl vCounts)), ((g 3), Sum.inl (cI, 512, Sum.inl fN)), ((g 8), Sum.inl (cI, 6000, Sum.inl vIn))] := hD
        refine lv_aload_n hx hb d_M_read_35 rfl (lv_at hl 1 rfl) ?_
        refine lv_iconst (v := 0) hx hb d_M_read_36 (by decide) ?_
        refine va_put (D := (dC, dI)) (ci := 9) (v := .int 0) (ty := .boolean) (C := "RangeCodersModel") (T := T_M) (N := 35) hx hb hg in_M t_M o_M n_M hown hK hP hD hS 0 rfl rfl 22 (by decide) (hg _ k974) (fun _ h9 => h9) rfl (by decide +kernel) rfl rfl (Nat.le_of_ble_eq_true rfl) d_M_read_37 (fun H locs hP hD hS => ?_)
        have hP : va_P (dC, dI) vwCl [(o, Sum.inr (9, mO g 1 fShift fModels fItems fEnded fLow fRange fCache fPend fGoes fOuts (nI is.length) 1 0 fIR fAsk fBAsk fCode fRL fRR fX fWrites 0)), ((g 0), Sum.inl (cI, 8, Sum.inl vMany)), ((g 1), Sum.inl (cI, 512, Sum.inl vCounts)), ((g 3), Sum.inl (cI, 512, Sum.inl fN)), ((g 8), Sum.inl (cI, 6000, Sum.inl vIn))] H := hP
        have hD : va_D A [(o, Sum.inr (9, mO g 1 fShift fModels fItems fEnded fLow fRange fCache fPend fGoes fOuts (nI is.length) 1 0 fIR fAsk fBAsk fCode fRL fRR fX fWrites 0)), ((g 0), Sum.inl (cI, 8, Sum.inl vMany)), ((g 1), Sum.inl (cI, 512, Sum.inl vCounts)), ((g 3), Sum.inl (cI, 512, Sum.inl fN)), ((g 8), Sum.inl (cI, 6000, Sum.inl vIn))] := hD
        refine lv_aload_n hx hb d_M_read_40 rfl (lv_at hl 1 rfl) ?_
        refine lv_iconst (v := 0) hx hb d_M_read_41 (by decide) ?_
        refine va_put (D := (dC, dI)) (ci := 9) (v := .int 0) (ty := .int) (C := "RangeCodersModel") (T := T_M) (N := 35) hx hb hg in_M t_M o_M n_M hown hK hP hD hS 0 rfl rfl 23 (by decide) (hg _ k975) (fun _ h9 => h9) rfl (by decide +kernel) rfl rfl (Nat.le_of_ble_eq_true rfl) d_M_read_42 (fun H locs hP hD hS => ?_)
        have hP : va_P (dC, dI) vwCl [(o, Sum.inr (9, mO g 1 fShift fModels fItems fEnded fLow fRange fCache fPend fGoes fOuts (nI is.length) 1 0 0 fAsk fBAsk fCode fRL fRR fX fWrites 0)), ((g 0), Sum.inl (cI, 8, Sum.inl vMany)), ((g 1), Sum.inl (cI, 512, Sum.inl vCounts)), ((g 3), Sum.inl (cI, 512, Sum.inl fN)), ((g 8), Sum.inl (cI, 6000, Sum.inl vIn))] H := hP
        have hD : va_D A [(o, Sum.inr (9, mO g 1 fShift fModels fItems fEnded fLow fRange fCache fPend fGoes fOuts (nI is.length) 1 0 0 fAsk fBAsk fCode fRL fRR fX fWrites 0)), ((g 0), Sum.inl (cI, 8, Sum.inl vMany)), ((g 1), Sum.inl (cI, 512, Sum.inl vCounts)), ((g 3), Sum.inl (cI, 512, Sum.inl fN)), ((g 8), Sum.inl (cI, 6000, Sum.inl vIn))] := hD
        refine lv_aload_n hx hb d_M_read_45 rfl (lv_at hl 1 rfl) ?_
        refine lv_iconst (v := 0) hx hb d_M_read_46 (by decide) ?_
        refine va_put (D := (dC, dI)) (ci := 9) (v := .int 0) (ty := .int) (C := "RangeCodersModel") (T := T_M) (N := 35) hx hb hg in_M t_M o_M n_M hown hK hP hD hS 0 rfl rfl 24 (by decide) (hg _ k976) (fun _ h9 => h9) rfl (by decide +kernel) rfl rfl (Nat.le_of_ble_eq_true rfl) d_M_read_47 (fun H locs hP hD hS => ?_)
        have hP : va_P (dC, dI) vwCl [(o, Sum.inr (9, mO g 1 fShift fModels fItems fEnded fLow fRange fCache fPend fGoes fOuts (nI is.length) 1 0 0 0 fBAsk fCode fRL fRR fX fWrites 0)), ((g 0), Sum.inl (cI, 8, Sum.inl vMany)), ((g 1), Sum.inl (cI, 512, Sum.inl vCounts)), ((g 3), Sum.inl (cI, 512, Sum.inl fN)), ((g 8), Sum.inl (cI, 6000, Sum.inl vIn))] H := hP
        have hD : va_D A [(o, Sum.inr (9, mO g 1 fShift fModels fItems fEnded fLow fRange fCache fPend fGoes fOuts (nI is.length) 1 0 0 0 fBAsk fCode fRL fRR fX fWrites 0)), ((g 0), Sum.inl (cI, 8, Sum.inl vMany)), ((g 1), Sum.inl (cI, 512, Sum.inl vCounts)), ((g 3), Sum.inl (cI, 512, Sum.inl fN)), ((g 8), Sum.inl (cI, 6000, Sum.inl vIn))] := hD
        refine lv_aload_n hx hb d_M_read_50 rfl (lv_at hl 1 rfl) ?_
        refine lv_iconst (v := 0) hx hb d_M_read_51 (by decide) ?_
        refine va_put (D := (dC, dI)) (ci := 9) (v := .int 0) (ty := .int) (C := "RangeCodersModel") (T := T_M) (N := 35) hx hb hg in_M t_M o_M n_M hown hK hP hD hS 0 rfl rfl 25 (by decide) (hg _ k977) (fun _ h9 => h9) rfl (by decide +kernel) rfl rfl (Nat.le_of_ble_eq_true rfl) d_M_read_52 (fun H locs hP hD hS => ?_)
        have hP : va_P (dC, dI) vwCl [(o, Sum.inr (9, mO g 1 fShift fModels fItems fEnded fLow fRange fCache fPend fGoes fOuts (nI is.length) 1 0 0 0 0 fCode fRL fRR fX fWrites 0)), ((g 0), Sum.inl (cI, 8, Sum.inl vMany)), ((g 1), Sum.inl (cI, 512, Sum.inl vCounts)), ((g 3), Sum.inl (cI, 512, Sum.inl fN)), ((g 8), Sum.inl (cI, 6000, Sum.inl vIn))] H := hP
        have hD : va_D A [(o, Sum.inr (9, mO g 1 fShift fModels fItems fEnded fLow fRange fCache fPend fGoes fOuts (nI is.length) 1 0 0 0 0 fCode fRL fRR fX fWrites 0)), ((g 0), Sum.inl (cI, 8, Sum.inl vMany)), ((g 1), Sum.inl (cI, 512, Sum.inl vCounts)), ((g 3), Sum.inl (cI, 512, Sum.inl fN)), ((g 8), Sum.inl (cI, 6000, Sum.inl vIn))] := hD
        refine lv_aload_n hx hb d_M_read_55 rfl (lv_at hl 1 rfl) ?_
        refine lv_lconst (v := 0) hx hb d_M_read_56 (by decide) ?_
        refine va_put (D := (dC, dI)) (ci := 9) (v := .long 0) (ty := .long) (C := "RangeCodersModel") (T := T_M) (N := 35) hx hb hg in_M t_M o_M n_M hown hK hP hD hS 0 rfl rfl 26 (by decide) (hg _ k978) (fun _ h9 => h9) rfl (by decide +kernel) rfl rfl (Nat.le_of_ble_eq_true rfl) d_M_read_57 (fun H locs hP hD hS => ?_)
        have hP : va_P (dC, dI) vwCl [(o, Sum.inr (9, mO g 1 fShift fModels fItems fEnded fLow fRange fCache fPend fGoes fOuts (nI is.length) 1 0 0 0 0 0 fRL fRR fX fWrites 0)), ((g 0), Sum.inl (cI, 8, Sum.inl vMany)), ((g 1), Sum.inl (cI, 512, Sum.inl vCounts)), ((g 3), Sum.inl (cI, 512, Sum.inl fN)), ((g 8), Sum.inl (cI, 6000, Sum.inl vIn))] H := hP
        have hD : va_D A [(o, Sum.inr (9, mO g 1 fShift fModels fItems fEnded fLow fRange fCache fPend fGoes fOuts (nI is.length) 1 0 0 0 0 0 fRL fRR fX fWrites 0)), ((g 0), Sum.inl (cI, 8, Sum.inl vMany)), ((g 1), Sum.inl (cI, 512, Sum.inl vCounts)), ((g 3), Sum.inl (cI, 512, Sum.inl fN)), ((g 8), Sum.inl (cI, 6000, Sum.inl vIn))] := hD
        refine lv_aload_n hx hb d_M_read_60 rfl (lv_at hl 1 rfl) ?_
        refine lv_lconst (v := 0) hx hb d_M_read_61 (by decide) ?_
        refine va_put (D := (dC, dI)) (ci := 9) (v := .long 0) (ty := .long) (C := "RangeCodersModel") (T := T_M) (N := 35) hx hb hg in_M t_M o_M n_M hown hK hP hD hS 0 rfl rfl 27 (by decide) (hg _ k979) (fun _ h9 => h9) rfl (by decide +kernel) rfl rfl (Nat.le_of_ble_eq_true rfl) d_M_read_62 (fun H locs hP hD hS => ?_)
        have hP : va_P (dC, dI) vwCl [(o, Sum.inr (9, mO g 1 fShift fModels fItems fEnded fLow fRange fCache fPend fGoes fOuts (nI is.length) 1 0 0 0 0 0 0 fRR fX fWrites 0)), ((g 0), Sum.inl (cI, 8, Sum.inl vMany)), ((g 1), Sum.inl (cI, 512, Sum.inl vCounts)), ((g 3), Sum.inl (cI, 512, Sum.inl fN)), ((g 8), Sum.inl (cI, 6000, Sum.inl vIn))] H := hP
        have hD : va_D A [(o, Sum.inr (9, mO g 1 fShift fModels fItems fEnded fLow fRange fCache fPend fGoes fOuts (nI is.length) 1 0 0 0 0 0 0 fRR fX fWrites 0)), ((g 0), Sum.inl (cI, 8, Sum.inl vMany)), ((g 1), Sum.inl (cI, 512, Sum.inl vCounts)), ((g 3), Sum.inl (cI, 512, Sum.inl fN)), ((g 8), Sum.inl (cI, 6000, Sum.inl vIn))] := hD
        refine lv_aload_n hx hb d_M_read_65 rfl (lv_at hl 1 rfl) ?_
        refine lv_ldc2 (v := 4294967295) hx hb hown (hg _ k927) d_M_read_66 ?_
        refine va_put (D := (dC, dI)) (ci := 9) (v := .long 4294967295) (ty := .long) (C := "RangeCodersModel") (T := T_M) (N := 35) hx hb hg in_M t_M o_M n_M hown hK hP hD hS 0 rfl rfl 28 (by decide) (hg _ k980) (fun _ h9 => h9) rfl (by decide +kernel) rfl rfl (Nat.le_of_ble_eq_true rfl) d_M_read_69 (fun H locs hP hD hS => ?_)
        have hP : va_P (dC, dI) vwCl [(o, Sum.inr (9, mO g 1 fShift fModels fItems fEnded fLow fRange fCache fPend fGoes fOuts (nI is.length) 1 0 0 0 0 0 0 4294967295 fX fWrites 0)), ((g 0), Sum.inl (cI, 8, Sum.inl vMany)), ((g 1), Sum.inl (cI, 512, Sum.inl vCounts)), ((g 3), Sum.inl (cI, 512, Sum.inl fN)), ((g 8), Sum.inl (cI, 6000, Sum.inl vIn))] H := hP
        have hD : va_D A [(o, Sum.inr (9, mO g 1 fShift fModels fItems fEnded fLow fRange fCache fPend fGoes fOuts (nI is.length) 1 0 0 0 0 0 0 4294967295 fX fWrites 0)), ((g 0), Sum.inl (cI, 8, Sum.inl vMany)), ((g 1), Sum.inl (cI, 512, Sum.inl vCounts)), ((g 3), Sum.inl (cI, 512, Sum.inl fN)), ((g 8), Sum.inl (cI, 6000, Sum.inl vIn))] := hD
        refine lv_aload_n hx hb d_M_read_72 rfl (lv_at hl 1 rfl) ?_
        refine lv_lconst (v := 0) hx hb d_M_read_73 (by decide) ?_
        refine va_put (D := (dC, dI)) (ci := 9) (v := .long 0) (ty := .long) (C := "RangeCodersModel") (T := T_M) (N := 35) hx hb hg in_M t_M o_M n_M hown hK hP hD hS 0 rfl rfl 29 (by decide) (hg _ k981) (fun _ h9 => h9) rfl (by decide +kernel) rfl rfl (Nat.le_of_ble_eq_true rfl) d_M_read_74 (fun H locs hP hD hS => ?_)
        have hP : va_P (dC, dI) vwCl [(o, Sum.inr (9, mO g 1 fShift fModels fItems fEnded fLow fRange fCache fPend fGoes fOuts (nI is.length) 1 0 0 0 0 0 0 4294967295 0 fWrites 0)), ((g 0), Sum.inl (cI, 8, Sum.inl vMany)), ((g 1), Sum.inl (cI, 512, Sum.inl vCounts)), ((g 3), Sum.inl (cI, 512, Sum.inl fN)), ((g 8), Sum.inl (cI, 6000, Sum.inl vIn))] H := hP
        have hD : va_D A [(o, Sum.inr (9, mO g 1 fShift fModels fItems fEnded fLow fRange fCache fPend fGoes fOuts (nI is.length) 1 0 0 0 0 0 0 4294967295 0 fWrites 0)), ((g 0), Sum.inl (cI, 8, Sum.inl vMany)), ((g 1), Sum.inl (cI, 512, Sum.inl vCounts)), ((g 3), Sum.inl (cI, 512, Sum.inl fN)), ((g 8), Sum.inl (cI, 6000, Sum.inl vIn))] := hD
        refine lv_aload_n hx hb d_M_read_77 rfl (lv_at hl 1 rfl) ?_
        refine va_get (D := (dC, dI)) (ci := 9) (v := .int 1) (C := "RangeCodersModel") (T := T_M) (N := 35) hx hb hg in_M hown hK hP 0 rfl rfl 0 (by decide) (hg _ k952) (fun _ h9 => h9) rfl d_M_read_78 ?_
        refine lv_iconst (v := 3) hx hb d_M_read_81 (by decide) ?_
        refine lv_icmp_ge (tgt := 96) hx hb d_M_read_82 (by decide) (fun c_2 => ?_) (fun c_2 => ?_)
        · exact absurd c_2 (by decide)
        · refine lv_aload_n hx hb d_M_read_85 rfl (lv_at hl 1 rfl) ?_
          refine lv_aload_n hx hb d_M_read_86 rfl (lv_at hl 1 rfl) ?_
          refine my_cl (wr := [((g 0), Sum.inl (cI, 8, Sum.inl vMany)), ((g 1), Sum.inl (cI, 512, Sum.inl vCounts)), ((g 3), Sum.inl (cI, 512, Sum.inl fN))]) (va_runV (As := []) (rest := [Value.ref o]) ⟨hx, hb, hml, hown, hts⟩ (c_M_four l dC dI cI cM cO H.size o g 1 fShift fModels fItems fEnded fLow fRange fCache fPend fGoes fOuts 1 0 0 0 0 0 4294967295 0 fWrites 0 vIn is 0 (hIn) (hlen) (hoct) (by decide)) (cwV 0 hts (my_gV k1190 k1192 ks44 k12 k1193) rfl rfl rfl (by decide +kernel) ⟨by rw [hR]; exact Nat.le_of_ble_eq_true rfl, by rw [hR]; exact Nat.le_of_ble_eq_true rfl⟩) (my_preV hK hN (hP.sub [0, 4] rfl) (hD.sub [0, 4] (by decide +kernel) rfl) 0 rfl rfl) rfl rfl hl.1 rfl (lv_room (Nat.le_of_ble_eq_true rfl)) d_M_read_87 ⟨by rw [hR]; exact Nat.le_of_ble_eq_true rfl, by rw [hR]; exact Nat.le_of_ble_eq_true rfl⟩) hP hD hS hA [0, 4] [1, 2, 3] rfl rfl (by decide +kernel) (by decide +kernel) (fun r_87 u9 H locs hw_87 hP hD hS => ?_)
          have hw_87 : r_87 = lN (frN is 0 4) := hw_87
          have hP : va_P (dC, dI) vwCl [((g 0), Sum.inl (cI, 8, Sum.inl vMany)), ((g 1), Sum.inl (cI, 512, Sum.inl vCounts)), ((g 3), Sum.inl (cI, 512, Sum.inl fN)), (o, Sum.inr (9, mO g 1 fShift fModels fItems fEnded fLow fRange fCache fPend fGoes fOuts (nI is.length) 1 0 0 (nI (0 + 4)) 0 0 0 4294967295 0 fWrites 0)), ((g 8), Sum.inl (cI, 6000, Sum.inl vIn))] H := hP
          have hD : va_D A [((g 0), Sum.inl (cI, 8, Sum.inl vMany)), ((g 1), Sum.inl (cI, 512, Sum.inl vCounts)), ((g 3), Sum.inl (cI, 512, Sum.inl fN)), (o, Sum.inr (9, mO g 1 fShift fModels fItems fEnded fLow fRange fCache fPend fGoes fOuts (nI is.length) 1 0 0 (nI (0 + 4)) 0 0 0 4294967295 0 fWrites 0)), ((g 8), Sum.inl (cI, 6000, Sum.inl vIn))] := hD
          refine va_put (D := (dC, dI)) (ci := 9) (v := .long r_87) (ty := .long) (C := "RangeCodersModel") (T := T_M) (N := 35) hx hb hg in_M t_M o_M n_M hown hK hP hD hS 3 rfl rfl 26 (by decide) (hg _ k978) (fun _ h9 => h9) rfl (by decide +kernel) rfl rfl (Nat.le_of_ble_eq_true rfl) d_M_read_90 (fun H locs hP hD hS => ?_)
          have hP : va_P (dC, dI) vwCl [((g 0), Sum.inl (cI, 8, Sum.inl vMany)), ((g 1), Sum.inl (cI, 512, Sum.inl vCounts)), ((g 3), Sum.inl (cI, 512, Sum.inl fN)), (o, Sum.inr (9, mO g 1 fShift fModels fItems fEnded fLow fRange fCache fPend fGoes fOuts (nI is.length) 1 0 0 (nI (0 + 4)) 0 r_87 0 4294967295 0 fWrites 0)), ((g 8), Sum.inl (cI, 6000, Sum.inl vIn))] H := hP
          have hD : va_D A [((g 0), Sum.inl (cI, 8, Sum.inl vMany)), ((g 1), Sum.inl (cI, 512, Sum.inl vCounts)), ((g 3), Sum.inl (cI, 512, Sum.inl fN)), (o, Sum.inr (9, mO g 1 fShift fModels fItems fEnded fLow fRange fCache fPend fGoes fOuts (nI is.length) 1 0 0 (nI (0 + 4)) 0 r_87 0 4294967295 0 fWrites 0)), ((g 8), Sum.inl (cI, 6000, Sum.inl vIn))] := hD
          refine lv_goto (tgt := 172) hx hb d_M_read_93 (by decide) ?_
          refine lv_aload_n hx hb d_M_read_172 rfl (lv_at hl 1 rfl) ?_
          refine va_get (D := (dC, dI)) (ci := 9) (v := .int (nI is.length)) (C := "RangeCodersModel") (T := T_M) (N := 35) hx hb hg in_M hown hK hP 3 rfl rfl 20 (by decide) (hg _ k972) (fun _ h9 => h9) rfl d_M_read_173 ?_
          exact my_iret (v := nI is.length) hx hb hr (rfl) hlocks hQ hK hS (Nat.le_refl _) (Nat.le_refl _) ((1 : Int32), (0 : Int32), (0 : Int32), nI (0 + 4), (0 : Int32), r_87, (0 : Int64), (4294967295 : Int64), (0 : Int64), (0 : Int32), fN) (⟨hT9, fun _ _ => ⟨4294967295, 0, frN is 0 4, 4, hw_87, rfl, rfl, rfl, ⟨by decide, by decide, by decide, fun z9 => absurd z9 (by decide)⟩, frN_lt hoct 0 4, by omega⟩, rfl, rfl⟩) (hP.sub [3, 0, 1, 2, 4] rfl) (hD.sub [3, 0, 1, 2, 4] (by decide +kernel) rfl) d_M_read_176
      · have hjl : jj < km := by
          rcases Nat.lt_or_ge jj km with z | z
          · exact z
          · exact absurd (by rw [hmod]; exact nI_le z (by have := hMD.1; omega)) c_1
        have hk8 := hMD.1
        obtain ⟨hn9, hn2, hn64, C9, hc9, hB9⟩ := hMD.2 jj hjl
        refine lv_aload_n hx hb d_M_read_15 rfl (lv_at hl 1 rfl) ?_
        refine lv_aload_n hx hb d_M_read_16 rfl (lv_at hl 1 rfl) ?_
        refine va_get (D := (dC, dI)) (ci := 9) (v := .ref (g 3)) (C := "RangeCodersModel") (T := T_M) (N := 35) hx hb hg in_M hown hK hP 0 rfl rfl 6 (by decide) (hg _ k958) (fun _ h9 => h9) rfl d_M_read_17 ?_
        refine lv_iload_n hx hb d_M_read_20 rfl (lv_at hl 0 rfl) ?_
        refine my_cv (wr := [((g 8), Sum.inl (cI, 6000, Sum.inl vIn))]) (va_runV (As := [Value.ref (g 3), Value.int (nI jj)]) (rest := []) ⟨hx, hb, hml, hown, hts⟩ (c_M_prepare l dC dI cI cM cO H.size o g 1 fShift fModels fItems fEnded fLow fRange fCache fPend fGoes fOuts (nI is.length) fReads fBad fIR fAsk fBAsk fCode fRL fRR fX fWrites 0 vMany vCounts (g 3) fN jj (N jj) 1 C9 (by omega) (hn9) (hn64) (by omega) (by decide) (by rfl) (hc9) (hB9)) (cwV 2 hts (my_gV k928 k930 ks19 k12 k931) rfl rfl rfl (by decide +kernel) ⟨by rw [hR]; exact Nat.le_of_ble_eq_true rfl, by rw [hR]; exact Nat.le_of_ble_eq_true rfl⟩) (my_preV hK hN (hP.sub [0, 1, 2, 3] rfl) (hD.sub [0, 1, 2, 3] (by decide +kernel) rfl) 0 rfl rfl) rfl rfl hl.1 rfl (lv_room (Nat.le_of_ble_eq_true rfl)) d_M_read_21 ⟨by rw [hR]; exact Nat.le_of_ble_eq_true rfl, by rw [hR]; exact Nat.le_of_ble_eq_true rfl⟩) hP hD hS hA [0, 1, 2, 3] [4] rfl rfl (by decide +kernel) (by decide +kernel) (fun u9 H locs hw_21 hP hD hS => ?_)
        obtain ⟨f2_21, rfl⟩ : ∃ z, z = u9 := ⟨_, rfl⟩
        have hw_21 : sgI f2_21 (64 * jj) (pfN 1 (N jj)) (pf 1 (N jj) C9) ∧ sgO f2_21 fN (64 * jj) 64 := hw_21
        have hP : va_P (dC, dI) vwCl [((g 8), Sum.inl (cI, 6000, Sum.inl vIn)), (o, Sum.inr (9, mO g 1 fShift fModels fItems fEnded fLow fRange fCache fPend fGoes fOuts (nI is.length) fReads fBad fIR fAsk fBAsk fCode fRL fRR fX fWrites 0)), ((g 0), Sum.inl (cI, 8, Sum.inl vMany)), ((g 1), Sum.inl (cI, 512, Sum.inl vCounts)), ((g 3), Sum.inl (cI, 512, Sum.inl f2_21))] H := hP
        have hD : va_D A [((g 8), Sum.inl (cI, 6000, Sum.inl vIn)), (o, Sum.inr (9, mO g 1 fShift fModels fItems fEnded fLow fRange fCache fPend fGoes fOuts (nI is.length) fReads fBad fIR fAsk fBAsk fCode fRL fRR fX fWrites 0)), ((g 0), Sum.inl (cI, 8, Sum.inl vMany)), ((g 1), Sum.inl (cI, 512, Sum.inl vCounts)), ((g 3), Sum.inl (cI, 512, Sum.inl f2_21))] := hD
        have hT8 := TB_step hT9 (MD_N hMD) hjl hw_21.2 (tab_pf hfm hn64 (by omega) hB9 hw_21.1)
        obtain ⟨v_3, ev_3⟩ : ∃ y : Int32, y = (nI jj) + (1) := ⟨_, rfl⟩
        refine lv_iinc (v := v_3) (lv' := [(1, Value.int v_3), (0, Value.ref o)]) hx hb d_M_read_24 hl (k := 0) rfl (by rw [ev_3]; rfl) (by decide) rfl (fun ls hl => ?_)
        have z9 : v_3 = nI (jj + 1) := by rw [ev_3]; exact nI_1 _
        subst z9
        refine lv_goto (tgt := 7) hx hb d_M_read_27 (by decide) ?_
        exact ih9_7 _ (by first | omega | (omega)) (jj + 1) f2_21 rfl (by omega) (hT8) H locs ls (hP.sub [1, 2, 3, 4, 0] rfl) (hD.sub [1, 2, 3, 4, 0] (by decide +kernel) rfl) hS (lv_sub hl [0, 1] rfl)
  exact J_7 _ (0 : Nat) vThen rfl (Nat.zero_le _) (TB_0 _ _ _) H locs ls (hP.sub [0, 1, 2, 3, 4] rfl) (hD.sub [0, 1, 2, 3, 4] (by decide +kernel) rfl) hS (lv_sub hl [0, 1] rfl)
set_option maxHeartbeats 2000000 in
set_option maxRecDepth 100000 in
theorem m_read2 (l : Launch) (dC : Nat → ClassId) (dI : Nat → Nat → Nat) (cI cM cO : ClassId) (sz : Nat) (o : Nat) (g : Nat → Nat) (fForm : Int32) (fShift : Int32) (fModels : Int32) (fItems : Int32) (fEnded : Int32) (fLow : Int64) (fRange : Int64) (fCache : Int32) (fPend : Int32) (fGoes : Int32) (fOuts : Int32) (fIns : Int32) (fReads : Int32) (fBad : Int32) (fIR : Int32) (fAsk : Int32) (fBAsk : Int32) (fCode : Int64) (fRL : Int64) (fRR : Int64) (fX : Int64) (fWrites : Int32) (fThrown : Int32) (vMany : Nat → Int32) (vCounts : Nat → Int32) (vThen : Nat → Int32) (vIn : Nat → Int32) (km : Nat) (N : Nat → Nat) (cn : Nat) (hfo : fForm = 2) (hmod : fModels = nI km) (hMD : MD km N vMany vCounts) (hIN : IN fIns vIn) : MetI l y_M_read (Cond.code y_M_read prog_14_method_43_code 2 (some .int) :: gw) ({ frames := 3, cells := 0, slots := 0, locals := 75 } : Room) (dC, dI) vwCl (kT cI cM cO) [Value.ref o] [(o, Sum.inr (9, mO g fForm fShift fModels fItems fEnded fLow fRange fCache fPend fGoes fOuts fIns fReads fBad fIR fAsk fBAsk fCode fRL fRR fX fWrites fThrown)), ((g 0), Sum.inl (cI, 8, Sum.inl vMany)), ((g 1), Sum.inl (cI, 512, Sum.inl vCounts)), ((g 3), Sum.inl (cI, 512, Sum.inl vThen)), ((g 8), Sum.inl (cI, 6000, Sum.inl vIn))] sz (fun (r : Int32) (u : Int32 × Int32 × Int32 × Int32 × Int32 × Int64 × Int64 × Int64 × Int64 × Int32 × (Nat → Int32)) => TB 2 km N u.2.2.2.2.2.2.2.2.2.2 ∧ (¬ u.1 = 0 → u.2.1 = 0 → RD2 cn u.2.2.2.1 u.2.2.2.2.2.1 u.2.2.2.2.2.2.2.1) ∧ r = fIns ∧ u.1 = 1) (fun (u : Int32 × Int32 × Int32 × Int32 × Int32 × Int64 × Int64 × Int64 × Int64 × Int32 × (Nat → Int32)) => [(o, Sum.inr (9, mO g fForm fShift fModels fItems fEnded fLow fRange fCache fPend fGoes fOuts fIns u.1 u.2.1 u.2.2.1 u.2.2.2.1 u.2.2.2.2.1 u.2.2.2.2.2.1 u.2.2.2.2.2.2.1 u.2.2.2.2.2.2.2.1 u.2.2.2.2.2.2.2.2.1 fWrites u.2.2.2.2.2.2.2.2.2.1)), ((g 0), Sum.inl (cI, 8, Sum.inl vMany)), ((g 1), Sum.inl (cI, 512, Sum.inl vCounts)), ((g 3), Sum.inl (cI, 512, Sum.inl u.2.2.2.2.2.2.2.2.2.2)), ((g 8), Sum.inl (cI, 6000, Sum.inl vIn))]) 0 0 := by
  refine my_ofI (cc := prog_14_method_43_code) (n := 2) (ret := (some .int)) (by decide) rfl (Nat.le_of_ble_eq_true rfl) ?_
  intro p e s m args below meth c R Q A ls H locs hx hb hr hts hown hlocks hml hnm hR hQ hA hl hP hK hN hD hS
  have hg : ∀ w ∈ gw, w.before args s = true := fun w h => hts w (List.mem_cons_of_mem _ h)
  have hown : s.vm.findClass "RangeCodersModel" = some m.cls := hown
  have hl : lv_has ls 2 [(0, Value.ref o)] := hl
  subst hfo
  have hfm : 2 ≤ 4 := by decide
  obtain ⟨is, rfl, hIn, hlen, hoct⟩ := hIN
  have hP : va_P (dC, dI) vwCl [(o, Sum.inr (9, mO g 2 fShift fModels fItems fEnded fLow fRange fCache fPend fGoes fOuts (nI is.length) fReads fBad fIR fAsk fBAsk fCode fRL fRR fX fWrites fThrown)), ((g 0), Sum.inl (cI, 8, Sum.inl vMany)), ((g 1), Sum.inl (cI, 512, Sum.inl vCounts)), ((g 3), Sum.inl (cI, 512, Sum.inl vThen)), ((g 8), Sum.inl (cI, 6000, Sum.inl vIn))] H := hP
  have hD : va_D A [(o, Sum.inr (9, mO g 2 fShift fModels fItems fEnded fLow fRange fCache fPend fGoes fOuts (nI is.length) fReads fBad fIR fAsk fBAsk fCode fRL fRR fX fWrites fThrown)), ((g 0), Sum.inl (cI, 8, Sum.inl vMany)), ((g 1), Sum.inl (cI, 512, Sum.inl vCounts)), ((g 3), Sum.inl (cI, 512, Sum.inl vThen)), ((g 8), Sum.inl (cI, 6000, Sum.inl vIn))] := hD
  have hl : lv_has ls 2 [(0, Value.ref o)] := hl
  refine lv_aload_n hx hb d_M_read_0 rfl (lv_at hl 0 rfl) ?_
  refine lv_iconst (v := 0) hx hb d_M_read_1 (by decide) ?_
  refine va_put (D := (dC, dI)) (ci := 9) (v := .int 0) (ty := .int) (C := "RangeCodersModel") (T := T_M) (N := 35) hx hb hg in_M t_M o_M n_M hown hK hP hD hS 0 rfl rfl 34 (by decide) (hg _ k986) (fun _ h9 => h9) rfl (by decide +kernel) rfl rfl (Nat.le_of_ble_eq_true rfl) d_M_read_2 (fun H locs hP hD hS => ?_)
  have hP : va_P (dC, dI) vwCl [(o, Sum.inr (9, mO g 2 fShift fModels fItems fEnded fLow fRange fCache fPend fGoes fOuts (nI is.length) fReads fBad fIR fAsk fBAsk fCode fRL fRR fX fWrites 0)), ((g 0), Sum.inl (cI, 8, Sum.inl vMany)), ((g 1), Sum.inl (cI, 512, Sum.inl vCounts)), ((g 3), Sum.inl (cI, 512, Sum.inl vThen)), ((g 8), Sum.inl (cI, 6000, Sum.inl vIn))] H := hP
  have hD : va_D A [(o, Sum.inr (9, mO g 2 fShift fModels fItems fEnded fLow fRange fCache fPend fGoes fOuts (nI is.length) fReads fBad fIR fAsk fBAsk fCode fRL fRR fX fWrites 0)), ((g 0), Sum.inl (cI, 8, Sum.inl vMany)), ((g 1), Sum.inl (cI, 512, Sum.inl vCounts)), ((g 3), Sum.inl (cI, 512, Sum.inl vThen)), ((g 8), Sum.inl (cI, 6000, Sum.inl vIn))] := hD
  refine lv_iconst (v := 0) hx hb d_M_read_5 (by decide) ?_
  refine lv_istore_n (lv' := [(1, Value.int 0), (0, Value.ref o)]) hx hb d_M_read_6 rfl hl (by decide) rfl (fun ls hl => ?_)
  have J_7 : ∀ (n9_7 : Nat) (jj : Nat) (fN : Nat → Int32) (hn9_7 : km - jj = n9_7) (hjj : jj ≤ km) (hT9 : TB 2 jj N fN) (H : Heap) (locs : List Loc) (ls : Array Slot), va_P (dC, dI) vwCl [(o, Sum.inr (9, mO g 2 fShift fModels fItems fEnded fLow fRange fCache fPend fGoes fOuts (nI is.length) fReads fBad fIR fAsk fBAsk fCode fRL fRR fX fWrites 0)), ((g 0), Sum.inl (cI, 8, Sum.inl vMany)), ((g 1), Sum.inl (cI, 512, Sum.inl vCounts)), ((g 3), Sum.inl (cI, 512, Sum.inl fN)), ((g 8), Sum.inl (cI, 6000, Sum.inl vIn))] H → va_D A [(o, Sum.inr (9, mO g 2 fShift fModels fItems fEnded fLow fRange fCache fPend fGoes fOuts (nI is.length) fReads fBad fIR fAsk fBAsk fCode fRL fRR fX fWrites 0)), ((g 0), Sum.inl (cI, 8, Sum.inl vMany)), ((g 1), Sum.inl (cI, 512, Sum.inl vCounts)), ((g 3), Sum.inl (cI, 512, Sum.inl fN)), ((g 8), Sum.inl (cI, 6000, Sum.inl vIn))] → va_S A s.heap H locs → lv_has ls 2 [(1, Value.int (nI jj)), (0, Value.ref o)] → W p l e R s m args below meth c H locs 0 0 Q (F0 m 7 ls []) := by
    intro n9_7
    induction n9_7 using Nat.strongRecOn with
    | ind n9_7 ih9_7 =>
      intro jj fN hn9_7 hjj hT9 H locs ls hP hD hS hl
      refine lv_iload_n hx hb d_M_read_7 rfl (lv_at hl 0 rfl) ?_
      refine lv_aload_n hx hb d_M_read_8 rfl (lv_at hl 1 rfl) ?_
      refine va_get (D := (dC, dI)) (ci := 9) (v := .int fModels) (C := "RangeCodersModel") (T := T_M) (N := 35) hx hb hg in_M hown hK hP 0 rfl rfl 2 (by decide) (hg _ k954) (fun _ h9 => h9) rfl d_M_read_9 ?_
      refine lv_icmp_ge (tgt := 30) hx hb d_M_read_12 (by decide) (fun c_1 => ?_) (fun c_1 => ?_)
      · have hjk : jj = km := by
          have hk8 := hMD.1
          rw [hmod] at c_1
          have := (nI_cmp (by omega) (by omega)).mp c_1
          omega
        subst hjk
        refine lv_aload_n hx hb d_M_read_30 rfl (lv_at hl 1 rfl) ?_
        refine lv_iconst (v := 1) hx hb d_M_read_31 (by decide) ?_
        refine va_put (D := (dC, dI)) (ci := 9) (v := .int 1) (ty := .boolean) (C := "RangeCodersModel") (T := T_M) (N := 35) hx hb hg in_M t_M o_M n_M hown hK hP hD hS 0 rfl rfl 21 (by decide) (hg _ k973) (fun _ h9 => h9) rfl (by decide +kernel) rfl rfl (Nat.le_of_ble_eq_true rfl) d_M_read_32 (fun H locs hP hD hS => ?_)
        have hP : va_P (dC, dI) vwCl [(o, Sum.inr (9, mO g 2 fShift fModels fItems fEnded fLow fRange fCache fPend fGoes fOuts (nI is.length) 1 fBad fIR fAsk fBAsk fCode fRL fRR fX fWrites 0)), ((g 0), Sum.inl (cI, 8, Sum.inl vMany)), ((g 1), Sum.inl (cI, 512, Sum.inl vCounts)), ((g 3), Sum.inl (cI, 512, Sum.inl fN)), ((g 8), Sum.inl (cI, 6000, Sum.inl vIn))] H := hP
        have hD : va_D A [(o, Sum.inr (9, mO g 2 fShift fModels fItems fEnded fLow fRange fCache fPend fGoes fOuts (nI is.length) 1 fBad fIR fAsk fBAsk fCode fRL fRR fX fWrites 0)), ((g 0), Sum.inl (cI, 8, Sum.inl vMany)), ((g 1), Sum.inl (cI, 512, Sum.inl vCounts)), ((g 3), Sum.inl (cI, 512, Sum.inl fN)), ((g 8), Sum.inl (cI, 6000, Sum.inl vIn))] := hD
        refine lv_aload_n hx hb d_M_read_35 rfl (lv_at hl 1 rfl) ?_
        refine lv_iconst (v := 0) hx hb d_M_read_36 (by decide) ?_
        refine va_put (D := (dC, dI)) (ci := 9) (v := .int 0) (ty := .boolean) (C := "RangeCodersModel") (T := T_M) (N := 35) hx hb hg in_M t_M o_M n_M hown hK hP hD hS 0 rfl rfl 22 (by decide) (hg _ k974) (fun _ h9 => h9) rfl (by decide +kernel) rfl rfl (Nat.le_of_ble_eq_true rfl) d_M_read_37 (fun H locs hP hD hS => ?_)
        have hP : va_P (dC, dI) vwCl [(o, Sum.inr (9, mO g 2 fShift fModels fItems fEnded fLow fRange fCache fPend fGoes fOuts (nI is.length) 1 0 fIR fAsk fBAsk fCode fRL fRR fX fWrites 0)), ((g 0), Sum.inl (cI, 8, Sum.inl vMany)), ((g 1), Sum.inl (cI, 512, Sum.inl vCounts)), ((g 3), Sum.inl (cI, 512, Sum.inl fN)), ((g 8), Sum.inl (cI, 6000, Sum.inl vIn))] H := hP
        have hD : va_D A [(o, Sum.inr (9, mO g 2 fShift fModels fItems fEnded fLow fRange fCache fPend fGoes fOuts (nI is.length) 1 0 fIR fAsk fBAsk fCode fRL fRR fX fWrites 0)), ((g 0), Sum.inl (cI, 8, Sum.inl vMany)), ((g 1), Sum.inl (cI, 512, Sum.inl vCounts)), ((g 3), Sum.inl (cI, 512, Sum.inl fN)), ((g 8), Sum.inl (cI, 6000, Sum.inl vIn))] := hD
        refine lv_aload_n hx hb d_M_read_40 rfl (lv_at hl 1 rfl) ?_
        refine lv_iconst (v := 0) hx hb d_M_read_41 (by decide) ?_
        refine va_put (D := (dC, dI)) (ci := 9) (v := .int 0) (ty := .int) (C := "RangeCodersModel") (T := T_M) (N := 35) hx hb hg in_M t_M o_M n_M hown hK hP hD hS 0 rfl rfl 23 (by decide) (hg _ k975) (fun _ h9 => h9) rfl (by decide +kernel) rfl rfl (Nat.le_of_ble_eq_true rfl) d_M_read_42 (fun H locs hP hD hS => ?_)
        have hP : va_P (dC, dI) vwCl [(o, Sum.inr (9, mO g 2 fShift fModels fItems fEnded fLow fRange fCache fPend fGoes fOuts (nI is.length) 1 0 0 fAsk fBAsk fCode fRL fRR fX fWrites 0)), ((g 0), Sum.inl (cI, 8, Sum.inl vMany)), ((g 1), Sum.inl (cI, 512, Sum.inl vCounts)), ((g 3), Sum.inl (cI, 512, Sum.inl fN)), ((g 8), Sum.inl (cI, 6000, Sum.inl vIn))] H := hP
        have hD : va_D A [(o, Sum.inr (9, mO g 2 fShift fModels fItems fEnded fLow fRange fCache fPend fGoes fOuts (nI is.length) 1 0 0 fAsk fBAsk fCode fRL fRR fX fWrites 0)), ((g 0), Sum.inl (cI, 8, Sum.inl vMany)), ((g 1), Sum.inl (cI, 512, Sum.inl vCounts)), ((g 3), Sum.inl (cI, 512, Sum.inl fN)), ((g 8), Sum.inl (cI, 6000, Sum.inl vIn))] := hD
        refine lv_aload_n hx hb d_M_read_45 rfl (lv_at hl 1 rfl) ?_
        refine lv_iconst (v := 0) hx hb d_M_read_46 (by decide) ?_
        refine va_put (D := (dC, dI)) (ci := 9) (v := .int 0) (ty := .int) (C := "RangeCodersModel") (T := T_M) (N := 35) hx hb hg in_M t_M o_M n_M hown hK hP hD hS 0 rfl rfl 24 (by decide) (hg _ k976) (fun _ h9 => h9) rfl (by decide +kernel) rfl rfl (Nat.le_of_ble_eq_true rfl) d_M_read_47 (fun H locs hP hD hS => ?_)
        have hP : va_P (dC, dI) vwCl [(o, Sum.inr (9, mO g 2 fShift fModels fItems fEnded fLow fRange fCache fPend fGoes fOuts (nI is.length) 1 0 0 0 fBAsk fCode fRL fRR fX fWrites 0)), ((g 0), Sum.inl (cI, 8, Sum.inl vMany)), ((g 1), Sum.inl (cI, 512, Sum.inl vCounts)), ((g 3), Sum.inl (cI, 512, Sum.inl fN)), ((g 8), Sum.inl (cI, 6000, Sum.inl vIn))] H := hP
        have hD : va_D A [(o, Sum.inr (9, mO g 2 fShift fModels fItems fEnded fLow fRange fCache fPend fGoes fOuts (nI is.length) 1 0 0 0 fBAsk fCode fRL fRR fX fWrites 0)), ((g 0), Sum.inl (cI, 8, Sum.inl vMany)), ((g 1), Sum.inl (cI, 512, Sum.inl vCounts)), ((g 3), Sum.inl (cI, 512, Sum.inl fN)), ((g 8), Sum.inl (cI, 6000, Sum.inl vIn))] := hD
        refine lv_aload_n hx hb d_M_read_50 rfl (lv_at hl 1 rfl) ?_
        refine lv_iconst (v := 0) hx hb d_M_read_51 (by decide) ?_
        refine va_put (D := (dC, dI)) (ci := 9) (v := .int 0) (ty := .int) (C := "RangeCodersModel") (T := T_M) (N := 35) hx hb hg in_M t_M o_M n_M hown hK hP hD hS 0 rfl rfl 25 (by decide) (hg _ k977) (fun _ h9 => h9) rfl (by decide +kernel) rfl rfl (Nat.le_of_ble_eq_true rfl) d_M_read_52 (fun H locs hP hD hS => ?_)
        have hP : va_P (dC, dI) vwCl [(o, Sum.inr (9, mO g 2 fShift fModels fItems fEnded fLow fRange fCache fPend fGoes fOuts (nI is.length) 1 0 0 0 0 fCode fRL fRR fX fWrites 0)), ((g 0), Sum.inl (cI, 8, Sum.inl vMany)), ((g 1), Sum.inl (cI, 512, Sum.inl vCounts)), ((g 3), Sum.inl (cI, 512, Sum.inl fN)), ((g 8), Sum.inl (cI, 6000, Sum.inl vIn))] H := hP
        have hD : va_D A [(o, Sum.inr (9, mO g 2 fShift fModels fItems fEnded fLow fRange fCache fPend fGoes fOuts (nI is.length) 1 0 0 0 0 fCode fRL fRR fX fWrites 0)), ((g 0), Sum.inl (cI, 8, Sum.inl vMany)), ((g 1), Sum.inl (cI, 512, Sum.inl vCounts)), ((g 3), Sum.inl (cI, 512, Sum.inl fN)), ((g 8), Sum.inl (cI, 6000, Sum.inl vIn))] := hD
        refine lv_aload_n hx hb d_M_read_55 rfl (lv_at hl 1 rfl) ?_
        refine lv_lconst (v := 0) hx hb d_M_read_56 (by decide) ?_
        refine va_put (D := (dC, dI)) (ci := 9) (v := .long 0) (ty := .long) (C := "RangeCodersModel") (T := T_M) (N := 35) hx hb hg in_M t_M o_M n_M hown hK hP hD hS 0 rfl rfl 26 (by decide) (hg _ k978) (fun _ h9 => h9) rfl (by decide +kernel) rfl rfl (Nat.le_of_ble_eq_true rfl) d_M_read_57 (fun H locs hP hD hS => ?_)
        have hP : va_P (dC, dI) vwCl [(o, Sum.inr (9, mO g 2 fShift fModels fItems fEnded fLow fRange fCache fPend fGoes fOuts (nI is.length) 1 0 0 0 0 0 fRL fRR fX fWrites 0)), ((g 0), Sum.inl (cI, 8, Sum.inl vMany)), ((g 1), Sum.inl (cI, 512, Sum.inl vCounts)), ((g 3), Sum.inl (cI, 512, Sum.inl fN)), ((g 8), Sum.inl (cI, 6000, Sum.inl vIn))] H := hP
        have hD : va_D A [(o, Sum.inr (9, mO g 2 fShift fModels fItems fEnded fLow fRange fCache fPend fGoes fOuts (nI is.length) 1 0 0 0 0 0 fRL fRR fX fWrites 0)), ((g 0), Sum.inl (cI, 8, Sum.inl vMany)), ((g 1), Sum.inl (cI, 512, Sum.inl vCounts)), ((g 3), Sum.inl (cI, 512, Sum.inl fN)), ((g 8), Sum.inl (cI, 6000, Sum.inl vIn))] := hD
        refine lv_aload_n hx hb d_M_read_60 rfl (lv_at hl 1 rfl) ?_
        refine lv_lconst (v := 0) hx hb d_M_read_61 (by decide) ?_
        refine va_put (D := (dC, dI)) (ci := 9) (v := .long 0) (ty := .long) (C := "RangeCodersModel") (T := T_M) (N := 35) hx hb hg in_M t_M o_M n_M hown hK hP hD hS 0 rfl rfl 27 (by decide) (hg _ k979) (fun _ h9 => h9) rfl (by decide +kernel) rfl rfl (Nat.le_of_ble_eq_true rfl) d_M_read_62 (fun H locs hP hD hS => ?_)
        have hP : va_P (dC, dI) vwCl [(o, Sum.inr (9, mO g 2 fShift fModels fItems fEnded fLow fRange fCache fPend fGoes fOuts (nI is.length) 1 0 0 0 0 0 0 fRR fX fWrites 0)), ((g 0), Sum.inl (cI, 8, Sum.inl vMany)), ((g 1), Sum.inl (cI, 512, Sum.inl vCounts)), ((g 3), Sum.inl (cI, 512, Sum.inl fN)), ((g 8), Sum.inl (cI, 6000, Sum.inl vIn))] H := hP
        have hD : va_D A [(o, Sum.inr (9, mO g 2 fShift fModels fItems fEnded fLow fRange fCache fPend fGoes fOuts (nI is.length) 1 0 0 0 0 0 0 fRR fX fWrites 0)), ((g 0), Sum.inl (cI, 8, Sum.inl vMany)), ((g 1), Sum.inl (cI, 512, Sum.inl vCounts)), ((g 3), Sum.inl (cI, 512, Sum.inl fN)), ((g 8), Sum.inl (cI, 6000, Sum.inl vIn))] := hD
        refine lv_aload_n hx hb d_M_read_65 rfl (lv_at hl 1 rfl) ?_
        refine lv_ldc2 (v := 4294967295) hx hb hown (hg _ k927) d_M_read_66 ?_
        refine va_put (D := (dC, dI)) (ci := 9) (v := .long 4294967295) (ty := .long) (C := "RangeCodersModel") (T := T_M) (N := 35) hx hb hg in_M t_M o_M n_M hown hK hP hD hS 0 rfl rfl 28 (by decide) (hg _ k980) (fun _ h9 => h9) rfl (by decide +kernel) rfl rfl (Nat.le_of_ble_eq_true rfl) d_M_read_69 (fun H locs hP hD hS => ?_)
        have hP : va_P (dC, dI) vwCl [(o, Sum.inr (9, mO g 2 fShift fModels fItems fEnded fLow fRange fCache fPend fGoes fOuts (nI is.length) 1 0 0 0 0 0 0 4294967295 fX fWrites 0)), ((g 0), Sum.inl (cI, 8, Sum.inl vMany)), ((g 1), Sum.inl (cI, 512, Sum.inl vCounts)), ((g 3), Sum.inl (cI, 512, Sum.inl fN)), ((g 8), Sum.inl (cI, 6000, Sum.inl vIn))] H := hP
        have hD : va_D A [(o, Sum.inr (9, mO g 2 fShift fModels fItems fEnded fLow fRange fCache fPend fGoes fOuts (nI is.length) 1 0 0 0 0 0 0 4294967295 fX fWrites 0)), ((g 0), Sum.inl (cI, 8, Sum.inl vMany)), ((g 1), Sum.inl (cI, 512, Sum.inl vCounts)), ((g 3), Sum.inl (cI, 512, Sum.inl fN)), ((g 8), Sum.inl (cI, 6000, Sum.inl vIn))] := hD
        refine lv_aload_n hx hb d_M_read_72 rfl (lv_at hl 1 rfl) ?_
        refine lv_lconst (v := 0) hx hb d_M_read_73 (by decide) ?_
        refine va_put (D := (dC, dI)) (ci := 9) (v := .long 0) (ty := .long) (C := "RangeCodersModel") (T := T_M) (N := 35) hx hb hg in_M t_M o_M n_M hown hK hP hD hS 0 rfl rfl 29 (by decide) (hg _ k981) (fun _ h9 => h9) rfl (by decide +kernel) rfl rfl (Nat.le_of_ble_eq_true rfl) d_M_read_74 (fun H locs hP hD hS => ?_)
        have hP : va_P (dC, dI) vwCl [(o, Sum.inr (9, mO g 2 fShift fModels fItems fEnded fLow fRange fCache fPend fGoes fOuts (nI is.length) 1 0 0 0 0 0 0 4294967295 0 fWrites 0)), ((g 0), Sum.inl (cI, 8, Sum.inl vMany)), ((g 1), Sum.inl (cI, 512, Sum.inl vCounts)), ((g 3), Sum.inl (cI, 512, Sum.inl fN)), ((g 8), Sum.inl (cI, 6000, Sum.inl vIn))] H := hP
        have hD : va_D A [(o, Sum.inr (9, mO g 2 fShift fModels fItems fEnded fLow fRange fCache fPend fGoes fOuts (nI is.length) 1 0 0 0 0 0 0 4294967295 0 fWrites 0)), ((g 0), Sum.inl (cI, 8, Sum.inl vMany)), ((g 1), Sum.inl (cI, 512, Sum.inl vCounts)), ((g 3), Sum.inl (cI, 512, Sum.inl fN)), ((g 8), Sum.inl (cI, 6000, Sum.inl vIn))] := hD
        refine lv_aload_n hx hb d_M_read_77 rfl (lv_at hl 1 rfl) ?_
        refine va_get (D := (dC, dI)) (ci := 9) (v := .int 2) (C := "RangeCodersModel") (T := T_M) (N := 35) hx hb hg in_M hown hK hP 0 rfl rfl 0 (by decide) (hg _ k952) (fun _ h9 => h9) rfl d_M_read_78 ?_
        refine lv_iconst (v := 3) hx hb d_M_read_81 (by decide) ?_
        refine lv_icmp_ge (tgt := 96) hx hb d_M_read_82 (by decide) (fun c_2 => ?_) (fun c_2 => ?_)
        · exact absurd c_2 (by decide)
        · refine lv_aload_n hx hb d_M_read_85 rfl (lv_at hl 1 rfl) ?_
          refine lv_aload_n hx hb d_M_read_86 rfl (lv_at hl 1 rfl) ?_
          refine my_cl (wr := [((g 0), Sum.inl (cI, 8, Sum.inl vMany)), ((g 1), Sum.inl (cI, 512, Sum.inl vCounts)), ((g 3), Sum.inl (cI, 512, Sum.inl fN))]) (va_runV (As := []) (rest := [Value.ref o]) ⟨hx, hb, hml, hown, hts⟩ (c_M_four l dC dI cI cM cO H.size o g 2 fShift fModels fItems fEnded fLow fRange fCache fPend fGoes fOuts 1 0 0 0 0 0 4294967295 0 fWrites 0 vIn is 0 (hIn) (hlen) (hoct) (by decide)) (cwV 0 hts (my_gV k1190 k1192 ks44 k12 k1193) rfl rfl rfl (by decide +kernel) ⟨by rw [hR]; exact Nat.le_of_ble_eq_true rfl, by rw [hR]; exact Nat.le_of_ble_eq_true rfl⟩) (my_preV hK hN (hP.sub [0, 4] rfl) (hD.sub [0, 4] (by decide +kernel) rfl) 0 rfl rfl) rfl rfl hl.1 rfl (lv_room (Nat.le_of_ble_eq_true rfl)) d_M_read_87 ⟨by rw [hR]; exact Nat.le_of_ble_eq_true rfl, by rw [hR]; exact Nat.le_of_ble_eq_true rfl⟩) hP hD hS hA [0, 4] [1, 2, 3] rfl rfl (by decide +kernel) (by decide +kernel) (fun r_87 u9 H locs hw_87 hP hD hS => ?_)
          have hw_87 : r_87 = lN (frN is 0 4) := hw_87
          have hP : va_P (dC, dI) vwCl [((g 0), Sum.inl (cI, 8, Sum.inl vMany)), ((g 1), Sum.inl (cI, 512, Sum.inl vCounts)), ((g 3), Sum.inl (cI, 512, Sum.inl fN)), (o, Sum.inr (9, mO g 2 fShift fModels fItems fEnded fLow fRange fCache fPend fGoes fOuts (nI is.length) 1 0 0 (nI (0 + 4)) 0 0 0 4294967295 0 fWrites 0)), ((g 8), Sum.inl (cI, 6000, Sum.inl vIn))] H := hP
          have hD : va_D A [((g 0), Sum.inl (cI, 8, Sum.inl vMany)), ((g 1), Sum.inl (cI, 512, Sum.inl vCounts)), ((g 3), Sum.inl (cI, 512, Sum.inl fN)), (o, Sum.inr (9, mO g 2 fShift fModels fItems fEnded fLow fRange fCache fPend fGoes fOuts (nI is.length) 1 0 0 (nI (0 + 4)) 0 0 0 4294967295 0 fWrites 0)), ((g 8), Sum.inl (cI, 6000, Sum.inl vIn))] := hD
          refine va_put (D := (dC, dI)) (ci := 9) (v := .long r_87) (ty := .long) (C := "RangeCodersModel") (T := T_M) (N := 35) hx hb hg in_M t_M o_M n_M hown hK hP hD hS 3 rfl rfl 26 (by decide) (hg _ k978) (fun _ h9 => h9) rfl (by decide +kernel) rfl rfl (Nat.le_of_ble_eq_true rfl) d_M_read_90 (fun H locs hP hD hS => ?_)
          have hP : va_P (dC, dI) vwCl [((g 0), Sum.inl (cI, 8, Sum.inl vMany)), ((g 1), Sum.inl (cI, 512, Sum.inl vCounts)), ((g 3), Sum.inl (cI, 512, Sum.inl fN)), (o, Sum.inr (9, mO g 2 fShift fModels fItems fEnded fLow fRange fCache fPend fGoes fOuts (nI is.length) 1 0 0 (nI (0 + 4)) 0 r_87 0 4294967295 0 fWrites 0)), ((g 8), Sum.inl (cI, 6000, Sum.inl vIn))] H := hP
          have hD : va_D A [((g 0), Sum.inl (cI, 8, Sum.inl vMany)), ((g 1), Sum.inl (cI, 512, Sum.inl vCounts)), ((g 3), Sum.inl (cI, 512, Sum.inl fN)), (o, Sum.inr (9, mO g 2 fShift fModels fItems fEnded fLow fRange fCache fPend fGoes fOuts (nI is.length) 1 0 0 (nI (0 + 4)) 0 r_87 0 4294967295 0 fWrites 0)), ((g 8), Sum.inl (cI, 6000, Sum.inl vIn))] := hD
          refine lv_goto (tgt := 172) hx hb d_M_read_93 (by decide) ?_
          refine lv_aload_n hx hb d_M_read_172 rfl (lv_at hl 1 rfl) ?_
          refine va_get (D := (dC, dI)) (ci := 9) (v := .int (nI is.length)) (C := "RangeCodersModel") (T := T_M) (N := 35) hx hb hg in_M hown hK hP 3 rfl rfl 20 (by decide) (hg _ k972) (fun _ h9 => h9) rfl d_M_read_173 ?_
          exact my_iret (v := nI is.length) hx hb hr (rfl) hlocks hQ hK hS (Nat.le_refl _) (Nat.le_refl _) ((1 : Int32), (0 : Int32), (0 : Int32), nI (0 + 4), (0 : Int32), r_87, (0 : Int64), (4294967295 : Int64), (0 : Int64), (0 : Int32), fN) (⟨hT9, fun _ _ => ⟨4294967295, frN is 0 4, 4, hw_87, rfl, rfl, ⟨(show 16777216 ≤ 4294967295 by decide), (show 4294967295 < 4294967296 by decide), frN_lt hoct 0 4⟩, by omega⟩, rfl, rfl⟩) (hP.sub [3, 0, 1, 2, 4] rfl) (hD.sub [3, 0, 1, 2, 4] (by decide +kernel) rfl) d_M_read_176
      · have hjl : jj < km := by
          rcases Nat.lt_or_ge jj km with z | z
          · exact z
          · exact absurd (by rw [hmod]; exact nI_le z (by have := hMD.1; omega)) c_1
        have hk8 := hMD.1
        obtain ⟨hn9, hn2, hn64, C9, hc9, hB9⟩ := hMD.2 jj hjl
        refine lv_aload_n hx hb d_M_read_15 rfl (lv_at hl 1 rfl) ?_
        refine lv_aload_n hx hb d_M_read_16 rfl (lv_at hl 1 rfl) ?_
        refine va_get (D := (dC, dI)) (ci := 9) (v := .ref (g 3)) (C := "RangeCodersModel") (T := T_M) (N := 35) hx hb hg in_M hown hK hP 0 rfl rfl 6 (by decide) (hg _ k958) (fun _ h9 => h9) rfl d_M_read_17 ?_
        refine lv_iload_n hx hb d_M_read_20 rfl (lv_at hl 0 rfl) ?_
        refine my_cv (wr := [((g 8), Sum.inl (cI, 6000, Sum.inl vIn))]) (va_runV (As := [Value.ref (g 3), Value.int (nI jj)]) (rest := []) ⟨hx, hb, hml, hown, hts⟩ (c_M_prepare l dC dI cI cM cO H.size o g 2 fShift fModels fItems fEnded fLow fRange fCache fPend fGoes fOuts (nI is.length) fReads fBad fIR fAsk fBAsk fCode fRL fRR fX fWrites 0 vMany vCounts (g 3) fN jj (N jj) 2 C9 (by omega) (hn9) (hn64) (by omega) (by decide) (by rfl) (hc9) (hB9)) (cwV 2 hts (my_gV k928 k930 ks19 k12 k931) rfl rfl rfl (by decide +kernel) ⟨by rw [hR]; exact Nat.le_of_ble_eq_true rfl, by rw [hR]; exact Nat.le_of_ble_eq_true rfl⟩) (my_preV hK hN (hP.sub [0, 1, 2, 3] rfl) (hD.sub [0, 1, 2, 3] (by decide +kernel) rfl) 0 rfl rfl) rfl rfl hl.1 rfl (lv_room (Nat.le_of_ble_eq_true rfl)) d_M_read_21 ⟨by rw [hR]; exact Nat.le_of_ble_eq_true rfl, by rw [hR]; exact Nat.le_of_ble_eq_true rfl⟩) hP hD hS hA [0, 1, 2, 3] [4] rfl rfl (by decide +kernel) (by decide +kernel) (fun u9 H locs hw_21 hP hD hS => ?_)
        obtain ⟨f2_21, rfl⟩ : ∃ z, z = u9 := ⟨_, rfl⟩
        have hw_21 : sgI f2_21 (64 * jj) (pfN 2 (N jj)) (pf 2 (N jj) C9) ∧ sgO f2_21 fN (64 * jj) 64 := hw_21
        have hP : va_P (dC, dI) vwCl [((g 8), Sum.inl (cI, 6000, Sum.inl vIn)), (o, Sum.inr (9, mO g 2 fShift fModels fItems fEnded fLow fRange fCache fPend fGoes fOuts (nI is.length) fReads fBad fIR fAsk fBAsk fCode fRL fRR fX fWrites 0)), ((g 0), Sum.inl (cI, 8, Sum.inl vMany)), ((g 1), Sum.inl (cI, 512, Sum.inl vCounts)), ((g 3), Sum.inl (cI, 512, Sum.inl f2_21))] H := hP
        have hD : va_D A [((g 8), Sum.inl (cI, 6000, Sum.inl vIn)), (o, Sum.inr (9, mO g 2 fShift fModels fItems fEnded fLow fRange fCache fPend fGoes fOuts (nI is.length) fReads fBad fIR fAsk fBAsk fCode fRL fRR fX fWrites 0)), ((g 0), Sum.inl (cI, 8, Sum.inl vMany)), ((g 1), Sum.inl (cI, 512, Sum.inl vCounts)), ((g 3), Sum.inl (cI, 512, Sum.inl f2_21))] := hD
        have hT8 := TB_step hT9 (MD_N hMD) hjl hw_21.2 (tab_pf hfm hn64 (by omega) hB9 hw_21.1)
        obtain ⟨v_3, ev_3⟩ : ∃ y : Int32, y = (nI jj) + (1) := ⟨_, rfl⟩
        refine lv_iinc (v := v_3) (lv' := [(1, Value.int v_3), (0, Value.ref o)]) hx hb d_M_read_24 hl (k := 0) rfl (by rw [ev_3]; rfl) (by decide) rfl (fun ls hl => ?_)
        have z9 : v_3 = nI (jj + 1) := by rw [ev_3]; exact nI_1 _
        subst z9
        refine lv_goto (tgt := 7) hx hb d_M_read_27 (by decide) ?_
        exact ih9_7 _ (by first | omega | (omega)) (jj + 1) f2_21 rfl (by omega) (hT8) H locs ls (hP.sub [1, 2, 3, 4, 0] rfl) (hD.sub [1, 2, 3, 4, 0] (by decide +kernel) rfl) hS (lv_sub hl [0, 1] rfl)
  exact J_7 _ (0 : Nat) vThen rfl (Nat.zero_le _) (TB_0 _ _ _) H locs ls (hP.sub [0, 1, 2, 3, 4] rfl) (hD.sub [0, 1, 2, 3, 4] (by decide +kernel) rfl) hS (lv_sub hl [0, 1] rfl)
set_option maxHeartbeats 2000000 in
set_option maxRecDepth 100000 in
theorem m_read3 (l : Launch) (dC : Nat → ClassId) (dI : Nat → Nat → Nat) (cI cM cO : ClassId) (sz : Nat) (o : Nat) (g : Nat → Nat) (fForm : Int32) (fShift : Int32) (fModels : Int32) (fItems : Int32) (fEnded : Int32) (fLow : Int64) (fRange : Int64) (fCache : Int32) (fPend : Int32) (fGoes : Int32) (fOuts : Int32) (fIns : Int32) (fReads : Int32) (fBad : Int32) (fIR : Int32) (fAsk : Int32) (fBAsk : Int32) (fCode : Int64) (fRL : Int64) (fRR : Int64) (fX : Int64) (fWrites : Int32) (fThrown : Int32) (vMany : Nat → Int32) (vCounts : Nat → Int32) (vThen : Nat → Int32) (vIn : Nat → Int32) (km : Nat) (N : Nat → Nat) (cn : Nat) (hfo : fForm = 3) (hmod : fModels = nI km) (hMD : MD km N vMany vCounts) (hIN : IN fIns vIn) : MetI l y_M_read (Cond.code y_M_read prog_14_method_43_code 2 (some .int) :: gw) ({ frames := 3, cells := 0, slots := 0, locals := 75 } : Room) (dC, dI) vwCl (kT cI cM cO) [Value.ref o] [(o, Sum.inr (9, mO g fForm fShift fModels fItems fEnded fLow fRange fCache fPend fGoes fOuts fIns fReads fBad fIR fAsk fBAsk fCode fRL fRR fX fWrites fThrown)), ((g 0), Sum.inl (cI, 8, Sum.inl vMany)), ((g 1), Sum.inl (cI, 512, Sum.inl vCounts)), ((g 3), Sum.inl (cI, 512, Sum.inl vThen)), ((g 8), Sum.inl (cI, 6000, Sum.inl vIn))] sz (fun (r : Int32) (u : Int32 × Int32 × Int32 × Int32 × Int32 × Int64 × Int64 × Int64 × Int64 × Int32 × (Nat → Int32)) => TB 3 km N u.2.2.2.2.2.2.2.2.2.2 ∧ (¬ u.1 = 0 → u.2.1 = 0 → RD3 cn u.2.2.2.1 u.2.2.2.2.2.2.2.2.1) ∧ r = fIns ∧ u.1 = 1) (fun (u : Int32 × Int32 × Int32 × Int32 × Int32 × Int64 × Int64 × Int64 × Int64 × Int32 × (Nat → Int32)) => [(o, Sum.inr (9, mO g fForm fShift fModels fItems fEnded fLow fRange fCache fPend fGoes fOuts fIns u.1 u.2.1 u.2.2.1 u.2.2.2.1 u.2.2.2.2.1 u.2.2.2.2.2.1 u.2.2.2.2.2.2.1 u.2.2.2.2.2.2.2.1 u.2.2.2.2.2.2.2.2.1 fWrites u.2.2.2.2.2.2.2.2.2.1)), ((g 0), Sum.inl (cI, 8, Sum.inl vMany)), ((g 1), Sum.inl (cI, 512, Sum.inl vCounts)), ((g 3), Sum.inl (cI, 512, Sum.inl u.2.2.2.2.2.2.2.2.2.2)), ((g 8), Sum.inl (cI, 6000, Sum.inl vIn))]) 0 0 := by
  refine my_ofI (cc := prog_14_method_43_code) (n := 2) (ret := (some .int)) (by decide) rfl (Nat.le_of_ble_eq_true rfl) ?_
  intro p e s m args below meth c R Q A ls H locs hx hb hr hts hown hlocks hml hnm hR hQ hA hl hP hK hN hD hS
  have hg : ∀ w ∈ gw, w.before args s = true := fun w h => hts w (List.mem_cons_of_mem _ h)
  have hown : s.vm.findClass "RangeCodersModel" = some m.cls := hown
  have hl : lv_has ls 2 [(0, Value.ref o)] := hl
  subst hfo
  have hfm : 3 ≤ 4 := by decide
  obtain ⟨is, rfl, hIn, hlen, hoct⟩ := hIN
  have hP : va_P (dC, dI) vwCl [(o, Sum.inr (9, mO g 3 fShift fModels fItems fEnded fLow fRange fCache fPend fGoes fOuts (nI is.length) fReads fBad fIR fAsk fBAsk fCode fRL fRR fX fWrites fThrown)), ((g 0), Sum.inl (cI, 8, Sum.inl vMany)), ((g 1), Sum.inl (cI, 512, Sum.inl vCounts)), ((g 3), Sum.inl (cI, 512, Sum.inl vThen)), ((g 8), Sum.inl (cI, 6000, Sum.inl vIn))] H := hP
  have hD : va_D A [(o, Sum.inr (9, mO g 3 fShift fModels fItems fEnded fLow fRange fCache fPend fGoes fOuts (nI is.length) fReads fBad fIR fAsk fBAsk fCode fRL fRR fX fWrites fThrown)), ((g 0), Sum.inl (cI, 8, Sum.inl vMany)), ((g 1), Sum.inl (cI, 512, Sum.inl vCounts)), ((g 3), Sum.inl (cI, 512, Sum.inl vThen)), ((g 8), Sum.inl (cI, 6000, Sum.inl vIn))] := hD
  have hl : lv_has ls 2 [(0, Value.ref o)] := hl
  refine lv_aload_n hx hb d_M_read_0 rfl (lv_at hl 0 rfl) ?_
  refine lv_iconst (v := 0) hx hb d_M_read_1 (by decide) ?_
  refine va_put (D := (dC, dI)) (ci := 9) (v := .int 0) (ty := .int) (C := "RangeCodersModel") (T := T_M) (N := 35) hx hb hg in_M t_M o_M n_M hown hK hP hD hS 0 rfl rfl 34 (by decide) (hg _ k986) (fun _ h9 => h9) rfl (by decide +kernel) rfl rfl (Nat.le_of_ble_eq_true rfl) d_M_read_2 (fun H locs hP hD hS => ?_)
  have hP : va_P (dC, dI) vwCl [(o, Sum.inr (9, mO g 3 fShift fModels fItems fEnded fLow fRange fCache fPend fGoes fOuts (nI is.length) fReads fBad fIR fAsk fBAsk fCode fRL fRR fX fWrites 0)), ((g 0), Sum.inl (cI, 8, Sum.inl vMany)), ((g 1), Sum.inl (cI, 512, Sum.inl vCounts)), ((g 3), Sum.inl (cI, 512, Sum.inl vThen)), ((g 8), Sum.inl (cI, 6000, Sum.inl vIn))] H := hP
  have hD : va_D A [(o, Sum.inr (9, mO g 3 fShift fModels fItems fEnded fLow fRange fCache fPend fGoes fOuts (nI is.length) fReads fBad fIR fAsk fBAsk fCode fRL fRR fX fWrites 0)), ((g 0), Sum.inl (cI, 8, Sum.inl vMany)), ((g 1), Sum.inl (cI, 512, Sum.inl vCounts)), ((g 3), Sum.inl (cI, 512, Sum.inl vThen)), ((g 8), Sum.inl (cI, 6000, Sum.inl vIn))] := hD
  refine lv_iconst (v := 0) hx hb d_M_read_5 (by decide) ?_
  refine lv_istore_n (lv' := [(1, Value.int 0), (0, Value.ref o)]) hx hb d_M_read_6 rfl hl (by decide) rfl (fun ls hl => ?_)
  have J_7 : ∀ (n9_7 : Nat) (jj : Nat) (fN : Nat → Int32) (hn9_7 : km - jj = n9_7) (hjj : jj ≤ km) (hT9 : TB 3 jj N fN) (H : Heap) (locs : List Loc) (ls : Array Slot), va_P (dC, dI) vwCl [(o, Sum.inr (9, mO g 3 fShift fModels fItems fEnded fLow fRange fCache fPend fGoes fOuts (nI is.length) fReads fBad fIR fAsk fBAsk fCode fRL fRR fX fWrites 0)), ((g 0), Sum.inl (cI, 8, Sum.inl vMany)), ((g 1), Sum.inl (cI, 512, Sum.inl vCounts)), ((g 3), Sum.inl (cI, 512, Sum.inl fN)), ((g 8), Sum.inl (cI, 6000, Sum.inl vIn))] H → va_D A [(o, Sum.inr (9, mO g 3 fShift fModels fItems fEnded fLow fRange fCache fPend fGoes fOuts (nI is.length) fReads fBad fIR fAsk fBAsk fCode fRL fRR fX fWrites 0)), ((g 0), Sum.inl (cI, 8, Sum.inl vMany)), ((g 1), Sum.inl (cI, 512, Sum.inl vCounts)), ((g 3), Sum.inl (cI, 512, Sum.inl fN)), ((g 8), Sum.inl (cI, 6000, Sum.inl vIn))] → va_S A s.heap H locs → lv_has ls 2 [(1, Value.int (nI jj)), (0, Value.ref o)] → W p l e R s m args below meth c H locs 0 0 Q (F0 m 7 ls []) := by
    intro n9_7
    induction n9_7 using Nat.strongRecOn with
    | ind n9_7 ih9_7 =>
      intro jj fN hn9_7 hjj hT9 H locs ls hP hD hS hl
      refine lv_iload_n hx hb d_M_read_7 rfl (lv_at hl 0 rfl) ?_
      refine lv_aload_n hx hb d_M_read_8 rfl (lv_at hl 1 rfl) ?_
      refine va_get (D := (dC, dI)) (ci := 9) (v := .int fModels) (C := "RangeCodersModel") (T := T_M) (N := 35) hx hb hg in_M hown hK hP 0 rfl rfl 2 (by decide) (hg _ k954) (fun _ h9 => h9) rfl d_M_read_9 ?_
      refine lv_icmp_ge (tgt := 30) hx hb d_M_read_12 (by decide) (fun c_1 => ?_) (fun c_1 => ?_)
      · have hjk : jj = km := by
          have hk8 := hMD.1
          rw [hmod] at c_1
          have := (nI_cmp (by omega) (by omega)).mp c_1
          omega
        subst hjk
        refine lv_aload_n hx hb d_M_read_30 rfl (lv_at hl 1 rfl) ?_
        refine lv_iconst (v := 1) hx hb d_M_read_31 (by decide) ?_
        refine va_put (D := (dC, dI)) (ci := 9) (v := .int 1) (ty := .boolean) (C := "RangeCodersModel") (T := T_M) (N := 35) hx hb hg in_M t_M o_M n_M hown hK hP hD hS 0 rfl rfl 21 (by decide) (hg _ k973) (fun _ h9 => h9) rfl (by decide +kernel) rfl rfl (Nat.le_of_ble_eq_true rfl) d_M_read_32 (fun H locs hP hD hS => ?_)
        have hP : va_P (dC, dI) vwCl [(o, Sum.inr (9, mO g 3 fShift fModels fItems fEnded fLow fRange fCache fPend fGoes fOuts (nI is.length) 1 fBad fIR fAsk fBAsk fCode fRL fRR fX fWrites 0)), ((g 0), Sum.inl (cI, 8, Sum.inl vMany)), ((g 1), Sum.inl (cI, 512, Sum.inl vCounts)), ((g 3), Sum.inl (cI, 512, Sum.inl fN)), ((g 8), Sum.inl (cI, 6000, Sum.inl vIn))] H := hP
        have hD : va_D A [(o, Sum.inr (9, mO g 3 fShift fModels fItems fEnded fLow fRange fCache fPend fGoes fOuts (nI is.length) 1 fBad fIR fAsk fBAsk fCode fRL fRR fX fWrites 0)), ((g 0), Sum.inl (cI, 8, Sum.inl vMany)), ((g 1), Sum.inl (cI, 512, Sum.inl vCounts)), ((g 3), Sum.inl (cI, 512, Sum.inl fN)), ((g 8), Sum.inl (cI, 6000, Sum.inl vIn))] := hD
        refine lv_aload_n hx hb d_M_read_35 rfl (lv_at hl 1 rfl) ?_
        refine lv_iconst (v := 0) hx hb d_M_read_36 (by decide) ?_
        refine va_put (D := (dC, dI)) (ci := 9) (v := .int 0) (ty := .boolean) (C := "RangeCodersModel") (T := T_M) (N := 35) hx hb hg in_M t_M o_M n_M hown hK hP hD hS 0 rfl rfl 22 (by decide) (hg _ k974) (fun _ h9 => h9) rfl (by decide +kernel) rfl rfl (Nat.le_of_ble_eq_true rfl) d_M_read_37 (fun H locs hP hD hS => ?_)
        have hP : va_P (dC, dI) vwCl [(o, Sum.inr (9, mO g 3 fShift fModels fItems fEnded fLow fRange fCache fPend fGoes fOuts (nI is.length) 1 0 fIR fAsk fBAsk fCode fRL fRR fX fWrites 0)), ((g 0), Sum.inl (cI, 8, Sum.inl vMany)), ((g 1), Sum.inl (cI, 512, Sum.inl vCounts)), ((g 3), Sum.inl (cI, 512, Sum.inl fN)), ((g 8), Sum.inl (cI, 6000, Sum.inl vIn))] H := hP
        have hD : va_D A [(o, Sum.inr (9, mO g 3 fShift fModels fItems fEnded fLow fRange fCache fPend fGoes fOuts (nI is.length) 1 0 fIR fAsk fBAsk fCode fRL fRR fX fWrites 0)), ((g 0), Sum.inl (cI, 8, Sum.inl vMany)), ((g 1), Sum.inl (cI, 512, Sum.inl vCounts)), ((g 3), Sum.inl (cI, 512, Sum.inl fN)), ((g 8), Sum.inl (cI, 6000, Sum.inl vIn))] := hD
        refine lv_aload_n hx hb d_M_read_40 rfl (lv_at hl 1 rfl) ?_
        refine lv_iconst (v := 0) hx hb d_M_read_41 (by decide) ?_
        refine va_put (D := (dC, dI)) (ci := 9) (v := .int 0) (ty := .int) (C := "RangeCodersModel") (T := T_M) (N := 35) hx hb hg in_M t_M o_M n_M hown hK hP hD hS 0 rfl rfl 23 (by decide) (hg _ k975) (fun _ h9 => h9) rfl (by decide +kernel) rfl rfl (Nat.le_of_ble_eq_true rfl) d_M_read_42 (fun H locs hP hD hS => ?_)
        have hP : va_P (dC, dI) vwCl [(o, Sum.inr (9, mO g 3 fShift fModels fItems fEnded fLow fRange fCache fPend fGoes fOuts (nI is.length) 1 0 0 fAsk fBAsk fCode fRL fRR fX fWrites 0)), ((g 0), Sum.inl (cI, 8, Sum.inl vMany)), ((g 1), Sum.inl (cI, 512, Sum.inl vCounts)), ((g 3), Sum.inl (cI, 512, Sum.inl fN)), ((g 8), Sum.inl (cI, 6000, Sum.inl vIn))] H := hP
        have hD : va_D A [(o, Sum.inr (9, mO g 3 fShift fModels fItems fEnded fLow fRange fCache fPend fGoes fOuts (nI is.length) 1 0 0 fAsk fBAsk fCode fRL fRR fX fWrites 0)), ((g 0), Sum.inl (cI, 8, Sum.inl vMany)), ((g 1), Sum.inl (cI, 512, Sum.inl vCounts)), ((g 3), Sum.inl (cI, 512, Sum.inl fN)), ((g 8), Sum.inl (cI, 6000, Sum.inl vIn))] := hD
        refine lv_aload_n hx hb d_M_read_45 rfl (lv_at hl 1 rfl) ?_
        refine lv_iconst (v := 0) hx hb d_M_read_46 (by decide) ?_
        refine va_put (D := (dC, dI)) (ci := 9) (v := .int 0) (ty := .int) (C := "RangeCodersModel") (T := T_M) (N := 35) hx hb hg in_M t_M o_M n_M hown hK hP hD hS 0 rfl rfl 24 (by decide) (hg _ k976) (fun _ h9 => h9) rfl (by decide +kernel) rfl rfl (Nat.le_of_ble_eq_true rfl) d_M_read_47 (fun H locs hP hD hS => ?_)
        have hP : va_P (dC, dI) vwCl [(o, Sum.inr (9, mO g 3 fShift fModels fItems fEnded fLow fRange fCache fPend fGoes fOuts (nI is.length) 1 0 0 0 fBAsk fCode fRL fRR fX fWrites 0)), ((g 0), Sum.inl (cI, 8, Sum.inl vMany)), ((g 1), Sum.inl (cI, 512, Sum.inl vCounts)), ((g 3), Sum.inl (cI, 512, Sum.inl fN)), ((g 8), Sum.inl (cI, 6000, Sum.inl vIn))] H := hP
        have hD : va_D A [(o, Sum.inr (9, mO g 3 fShift fModels fItems fEnded fLow fRange fCache fPend fGoes fOuts (nI is.length) 1 0 0 0 fBAsk fCode fRL fRR fX fWrites 0)), ((g 0), Sum.inl (cI, 8, Sum.inl vMany)), ((g 1), Sum.inl (cI, 512, Sum.inl vCounts)), ((g 3), Sum.inl (cI, 512, Sum.inl fN)), ((g 8), Sum.inl (cI, 6000, Sum.inl vIn))] := hD
        refine lv_aload_n hx hb d_M_read_50 rfl (lv_at hl 1 rfl) ?_
        refine lv_iconst (v := 0) hx hb d_M_read_51 (by decide) ?_
        refine va_put (D := (dC, dI)) (ci := 9) (v := .int 0) (ty := .int) (C := "RangeCodersModel") (T := T_M) (N := 35) hx hb hg in_M t_M o_M n_M hown hK hP hD hS 0 rfl rfl 25 (by decide) (hg _ k977) (fun _ h9 => h9) rfl (by decide +kernel) rfl rfl (Nat.le_of_ble_eq_true rfl) d_M_read_52 (fun H locs hP hD hS => ?_)
        have hP : va_P (dC, dI) vwCl [(o, Sum.inr (9, mO g 3 fShift fModels fItems fEnded fLow fRange fCache fPend fGoes fOuts (nI is.length) 1 0 0 0 0 fCode fRL fRR fX fWrites 0)), ((g 0), Sum.inl (cI, 8, Sum.inl vMany)), ((g 1), Sum.inl (cI, 512, Sum.inl vCounts)), ((g 3), Sum.inl (cI, 512, Sum.inl fN)), ((g 8), Sum.inl (cI, 6000, Sum.inl vIn))] H := hP
        have hD : va_D A [(o, Sum.inr (9, mO g 3 fShift fModels fItems fEnded fLow fRange fCache fPend fGoes fOuts (nI is.length) 1 0 0 0 0 fCode fRL fRR fX fWrites 0)), ((g 0), Sum.inl (cI, 8, Sum.inl vMany)), ((g 1), Sum.inl (cI, 512, Sum.inl vCounts)), ((g 3), Sum.inl (cI, 512, Sum.inl fN)), ((g 8), Sum.inl (cI, 6000, Sum.inl vIn))] := hD
        refine lv_aload_n hx hb d_M_read_55 rfl (lv_at hl 1 rfl) ?_
        refine lv_lconst (v := 0) hx hb d_M_read_56 (by decide) ?_
        refine va_put (D := (dC, dI)) (ci := 9) (v := .long 0) (ty := .long) (C := "RangeCodersModel") (T := T_M) (N := 35) hx hb hg in_M t_M o_M n_M hown hK hP hD hS 0 rfl rfl 26 (by decide) (hg _ k978) (fun _ h9 => h9) rfl (by decide +kernel) rfl rfl (Nat.le_of_ble_eq_true rfl) d_M_read_57 (fun H locs hP hD hS => ?_)
        have hP : va_P (dC, dI) vwCl [(o, Sum.inr (9, mO g 3 fShift fModels fItems fEnded fLow fRange fCache fPend fGoes fOuts (nI is.length) 1 0 0 0 0 0 fRL fRR fX fWrites 0)), ((g 0), Sum.inl (cI, 8, Sum.inl vMany)), ((g 1), Sum.inl (cI, 512, Sum.inl vCounts)), ((g 3), Sum.inl (cI, 512, Sum.inl fN)), ((g 8), Sum.inl (cI, 6000, Sum.inl vIn))] H := hP
        have hD : va_D A [(o, Sum.inr (9, mO g 3 fShift fModels fItems fEnded fLow fRange fCache fPend fGoes fOuts (nI is.length) 1 0 0 0 0 0 fRL fRR fX fWrites 0)), ((g 0), Sum.inl (cI, 8, Sum.inl vMany)), ((g 1), Sum.inl (cI, 512, Sum.inl vCounts)), ((g 3), Sum.inl (cI, 512, Sum.inl fN)), ((g 8), Sum.inl (cI, 6000, Sum.inl vIn))] := hD
        refine lv_aload_n hx hb d_M_read_60 rfl (lv_at hl 1 rfl) ?_
        refine lv_lconst (v := 0) hx hb d_M_read_61 (by decide) ?_
        refine va_put (D := (dC, dI)) (ci := 9) (v := .long 0) (ty := .long) (C := "RangeCodersModel") (T := T_M) (N := 35) hx hb hg in_M t_M o_M n_M hown hK hP hD hS 0 rfl rfl 27 (by decide) (hg _ k979) (fun _ h9 => h9) rfl (by decide +kernel) rfl rfl (Nat.le_of_ble_eq_true rfl) d_M_read_62 (fun H locs hP hD hS => ?_)
        have hP : va_P (dC, dI) vwCl [(o, Sum.inr (9, mO g 3 fShift fModels fItems fEnded fLow fRange fCache fPend fGoes fOuts (nI is.length) 1 0 0 0 0 0 0 fRR fX fWrites 0)), ((g 0), Sum.inl (cI, 8, Sum.inl vMany)), ((g 1), Sum.inl (cI, 512, Sum.inl vCounts)), ((g 3), Sum.inl (cI, 512, Sum.inl fN)), ((g 8), Sum.inl (cI, 6000, Sum.inl vIn))] H := hP
        have hD : va_D A [(o, Sum.inr (9, mO g 3 fShift fModels fItems fEnded fLow fRange fCache fPend fGoes fOuts (nI is.length) 1 0 0 0 0 0 0 fRR fX fWrites 0)), ((g 0), Sum.inl (cI, 8, Sum.inl vMany)), ((g 1), Sum.inl (cI, 512, Sum.inl vCounts)), ((g 3), Sum.inl (cI, 512, Sum.inl fN)), ((g 8), Sum.inl (cI, 6000, Sum.inl vIn))] := hD
        refine lv_aload_n hx hb d_M_read_65 rfl (lv_at hl 1 rfl) ?_
        refine lv_ldc2 (v := 4294967295) hx hb hown (hg _ k927) d_M_read_66 ?_
        refine va_put (D := (dC, dI)) (ci := 9) (v := .long 4294967295) (ty := .long) (C := "RangeCodersModel") (T := T_M) (N := 35) hx hb hg in_M t_M o_M n_M hown hK hP hD hS 0 rfl rfl 28 (by decide) (hg _ k980) (fun _ h9 => h9) rfl (by decide +kernel) rfl rfl (Nat.le_of_ble_eq_true rfl) d_M_read_69 (fun H locs hP hD hS => ?_)
        have hP : va_P (dC, dI) vwCl [(o, Sum.inr (9, mO g 3 fShift fModels fItems fEnded fLow fRange fCache fPend fGoes fOuts (nI is.length) 1 0 0 0 0 0 0 4294967295 fX fWrites 0)), ((g 0), Sum.inl (cI, 8, Sum.inl vMany)), ((g 1), Sum.inl (cI, 512, Sum.inl vCounts)), ((g 3), Sum.inl (cI, 512, Sum.inl fN)), ((g 8), Sum.inl (cI, 6000, Sum.inl vIn))] H := hP
        have hD : va_D A [(o, Sum.inr (9, mO g 3 fShift fModels fItems fEnded fLow fRange fCache fPend fGoes fOuts (nI is.length) 1 0 0 0 0 0 0 4294967295 fX fWrites 0)), ((g 0), Sum.inl (cI, 8, Sum.inl vMany)), ((g 1), Sum.inl (cI, 512, Sum.inl vCounts)), ((g 3), Sum.inl (cI, 512, Sum.inl fN)), ((g 8), Sum.inl (cI, 6000, Sum.inl vIn))] := hD
        refine lv_aload_n hx hb d_M_read_72 rfl (lv_at hl 1 rfl) ?_
        refine lv_lconst (v := 0) hx hb d_M_read_73 (by decide) ?_
        refine va_put (D := (dC, dI)) (ci := 9) (v := .long 0) (ty := .long) (C := "RangeCodersModel") (T := T_M) (N := 35) hx hb hg in_M t_M o_M n_M hown hK hP hD hS 0 rfl rfl 29 (by decide) (hg _ k981) (fun _ h9 => h9) rfl (by decide +kernel) rfl rfl (Nat.le_of_ble_eq_true rfl) d_M_read_74 (fun H locs hP hD hS => ?_)
        have hP : va_P (dC, dI) vwCl [(o, Sum.inr (9, mO g 3 fShift fModels fItems fEnded fLow fRange fCache fPend fGoes fOuts (nI is.length) 1 0 0 0 0 0 0 4294967295 0 fWrites 0)), ((g 0), Sum.inl (cI, 8, Sum.inl vMany)), ((g 1), Sum.inl (cI, 512, Sum.inl vCounts)), ((g 3), Sum.inl (cI, 512, Sum.inl fN)), ((g 8), Sum.inl (cI, 6000, Sum.inl vIn))] H := hP
        have hD : va_D A [(o, Sum.inr (9, mO g 3 fShift fModels fItems fEnded fLow fRange fCache fPend fGoes fOuts (nI is.length) 1 0 0 0 0 0 0 4294967295 0 fWrites 0)), ((g 0), Sum.inl (cI, 8, Sum.inl vMany)), ((g 1), Sum.inl (cI, 512, Sum.inl vCounts)), ((g 3), Sum.inl (cI, 512, Sum.inl fN)), ((g 8), Sum.inl (cI, 6000, Sum.inl vIn))] := hD
        refine lv_aload_n hx hb d_M_read_77 rfl (lv_at hl 1 rfl) ?_
        refine va_get (D := (dC, dI)) (ci := 9) (v := .int 3) (C := "RangeCodersModel") (T := T_M) (N := 35) hx hb hg in_M hown hK hP 0 rfl rfl 0 (by decide) (hg _ k952) (fun _ h9 => h9) rfl d_M_read_78 ?_
        refine lv_iconst (v := 3) hx hb d_M_read_81 (by decide) ?_
        refine lv_icmp_ge (tgt := 96) hx hb d_M_read_82 (by decide) (fun c_2 => ?_) (fun c_2 => ?_)
        · refine lv_aload_n hx hb d_M_read_96 rfl (lv_at hl 1 rfl) ?_
          refine va_get (D := (dC, dI)) (ci := 9) (v := .int 3) (C := "RangeCodersModel") (T := T_M) (N := 35) hx hb hg in_M hown hK hP 0 rfl rfl 0 (by decide) (hg _ k952) (fun _ h9 => h9) rfl d_M_read_97 ?_
          refine lv_iconst (v := 3) hx hb d_M_read_100 (by decide) ?_
          refine lv_icmp_ne (tgt := 135) hx hb d_M_read_101 (by decide) (fun c_3 => ?_) (fun c_3 => ?_)
          · exact absurd rfl c_3
          · refine lv_aload_n hx hb d_M_read_104 rfl (lv_at hl 1 rfl) ?_
            refine lv_aload_n hx hb d_M_read_105 rfl (lv_at hl 1 rfl) ?_
            refine my_cl (wr := [((g 0), Sum.inl (cI, 8, Sum.inl vMany)), ((g 1), Sum.inl (cI, 512, Sum.inl vCounts)), ((g 3), Sum.inl (cI, 512, Sum.inl fN))]) (va_runV (As := []) (rest := [Value.ref o]) ⟨hx, hb, hml, hown, hts⟩ (c_M_four l dC dI cI cM cO H.size o g 3 fShift fModels fItems fEnded fLow fRange fCache fPend fGoes fOuts 1 0 0 0 0 0 4294967295 0 fWrites 0 vIn is 0 (hIn) (hlen) (hoct) (by decide)) (cwV 0 hts (my_gV k1190 k1192 ks44 k12 k1193) rfl rfl rfl (by decide +kernel) ⟨by rw [hR]; exact Nat.le_of_ble_eq_true rfl, by rw [hR]; exact Nat.le_of_ble_eq_true rfl⟩) (my_preV hK hN (hP.sub [0, 4] rfl) (hD.sub [0, 4] (by decide +kernel) rfl) 0 rfl rfl) rfl rfl hl.1 rfl (lv_room (Nat.le_of_ble_eq_true rfl)) d_M_read_106 ⟨by rw [hR]; exact Nat.le_of_ble_eq_true rfl, by rw [hR]; exact Nat.le_of_ble_eq_true rfl⟩) hP hD hS hA [0, 4] [1, 2, 3] rfl rfl (by decide +kernel) (by decide +kernel) (fun r_106 u9 H locs hw_106 hP hD hS => ?_)
            have hw_106 : r_106 = lN (frN is 0 4) := hw_106
            have hP : va_P (dC, dI) vwCl [((g 0), Sum.inl (cI, 8, Sum.inl vMany)), ((g 1), Sum.inl (cI, 512, Sum.inl vCounts)), ((g 3), Sum.inl (cI, 512, Sum.inl fN)), (o, Sum.inr (9, mO g 3 fShift fModels fItems fEnded fLow fRange fCache fPend fGoes fOuts (nI is.length) 1 0 0 (nI (0 + 4)) 0 0 0 4294967295 0 fWrites 0)), ((g 8), Sum.inl (cI, 6000, Sum.inl vIn))] H := hP
            have hD : va_D A [((g 0), Sum.inl (cI, 8, Sum.inl vMany)), ((g 1), Sum.inl (cI, 512, Sum.inl vCounts)), ((g 3), Sum.inl (cI, 512, Sum.inl fN)), (o, Sum.inr (9, mO g 3 fShift fModels fItems fEnded fLow fRange fCache fPend fGoes fOuts (nI is.length) 1 0 0 (nI (0 + 4)) 0 0 0 4294967295 0 fWrites 0)), ((g 8), Sum.inl (cI, 6000, Sum.inl vIn))] := hD
            refine va_put (D := (dC, dI)) (ci := 9) (v := .long r_106) (ty := .long) (C := "RangeCodersModel") (T := T_M) (N := 35) hx hb hg in_M t_M o_M n_M hown hK hP hD hS 3 rfl rfl 29 (by decide) (hg _ k981) (fun _ h9 => h9) rfl (by decide +kernel) rfl rfl (Nat.le_of_ble_eq_true rfl) d_M_read_109 (fun H locs hP hD hS => ?_)
            have hP : va_P (dC, dI) vwCl [((g 0), Sum.inl (cI, 8, Sum.inl vMany)), ((g 1), Sum.inl (cI, 512, Sum.inl vCounts)), ((g 3), Sum.inl (cI, 512, Sum.inl fN)), (o, Sum.inr (9, mO g 3 fShift fModels fItems fEnded fLow fRange fCache fPend fGoes fOuts (nI is.length) 1 0 0 (nI (0 + 4)) 0 0 0 4294967295 r_106 fWrites 0)), ((g 8), Sum.inl (cI, 6000, Sum.inl vIn))] H := hP
            have hD : va_D A [((g 0), Sum.inl (cI, 8, Sum.inl vMany)), ((g 1), Sum.inl (cI, 512, Sum.inl vCounts)), ((g 3), Sum.inl (cI, 512, Sum.inl fN)), (o, Sum.inr (9, mO g 3 fShift fModels fItems fEnded fLow fRange fCache fPend fGoes fOuts (nI is.length) 1 0 0 (nI (0 + 4)) 0 0 0 4294967295 r_106 fWrites 0)), ((g 8), Sum.inl (cI, 6000, Sum.inl vIn))] := hD
            refine lv_aload_n hx hb d_M_read_112 rfl (lv_at hl 1 rfl) ?_
            refine lv_aload_n hx hb d_M_read_113 rfl (lv_at hl 1 rfl) ?_
            refine va_get (D := (dC, dI)) (ci := 9) (v := .long r_106) (C := "RangeCodersModel") (T := T_M) (N := 35) hx hb hg in_M hown hK hP 3 rfl rfl 29 (by decide) (hg _ k981) (fun _ h9 => h9) rfl d_M_read_114 ?_
            refine lv_ldc2 (v := 8388608) hx hb hown (hg _ k1155) d_M_read_117 ?_
            refine W.lcmp hx hb d_M_read_120 ?_
            refine lv_if_ge (tgt := 128) hx hb d_M_read_121 (by decide) (fun c_4 => ?_) (fun c_4 => ?_)
            · rw [lg_cmp_ge] at c_4
              refine lv_iconst (v := 0) hx hb d_M_read_128 (by decide) ?_
              refine va_put (D := (dC, dI)) (ci := 9) (v := .int 0) (ty := .boolean) (C := "RangeCodersModel") (T := T_M) (N := 35) hx hb hg in_M t_M o_M n_M hown hK hP hD hS 3 rfl rfl 22 (by decide) (hg _ k974) (fun _ h9 => h9) rfl (by decide +kernel) rfl rfl (Nat.le_of_ble_eq_true rfl) d_M_read_129 (fun H locs hP hD hS => ?_)
              have hP : va_P (dC, dI) vwCl [((g 0), Sum.inl (cI, 8, Sum.inl vMany)), ((g 1), Sum.inl (cI, 512, Sum.inl vCounts)), ((g 3), Sum.inl (cI, 512, Sum.inl fN)), (o, Sum.inr (9, mO g 3 fShift fModels fItems fEnded fLow fRange fCache fPend fGoes fOuts (nI is.length) 1 0 0 (nI (0 + 4)) 0 0 0 4294967295 r_106 fWrites 0)), ((g 8), Sum.inl (cI, 6000, Sum.inl vIn))] H := hP
              have hD : va_D A [((g 0), Sum.inl (cI, 8, Sum.inl vMany)), ((g 1), Sum.inl (cI, 512, Sum.inl vCounts)), ((g 3), Sum.inl (cI, 512, Sum.inl fN)), (o, Sum.inr (9, mO g 3 fShift fModels fItems fEnded fLow fRange fCache fPend fGoes fOuts (nI is.length) 1 0 0 (nI (0 + 4)) 0 0 0 4294967295 r_106 fWrites 0)), ((g 8), Sum.inl (cI, 6000, Sum.inl vIn))] := hD
              refine lv_goto (tgt := 172) hx hb d_M_read_132 (by decide) ?_
              refine lv_aload_n hx hb d_M_read_172 rfl (lv_at hl 1 rfl) ?_
              refine va_get (D := (dC, dI)) (ci := 9) (v := .int (nI is.length)) (C := "RangeCodersModel") (T := T_M) (N := 35) hx hb hg in_M hown hK hP 3 rfl rfl 20 (by decide) (hg _ k972) (fun _ h9 => h9) rfl d_M_read_173 ?_
              exact my_iret (v := nI is.length) hx hb hr (rfl) hlocks hQ hK hS (Nat.le_refl _) (Nat.le_refl _) ((1 : Int32), (0 : Int32), (0 : Int32), nI (0 + 4), (0 : Int32), (0 : Int64), (0 : Int64), (4294967295 : Int64), r_106, (0 : Int32), fN) (⟨hT9, fun _ _ => ⟨frN is 0 4, 4, hw_106, rfl, r3_ge hw_106 (by have := frN_lt hoct 0 4; exact this) c_4, frN_lt hoct 0 4, by omega⟩, rfl, rfl⟩) (hP.sub [3, 0, 1, 2, 4] rfl) (hD.sub [3, 0, 1, 2, 4] (by decide +kernel) rfl) d_M_read_176
            · rw [lg_cmp_ge] at c_4
              refine lv_iconst (v := 1) hx hb d_M_read_124 (by decide) ?_
              refine lv_goto (tgt := 129) hx hb d_M_read_125 (by decide) ?_
              refine va_put (D := (dC, dI)) (ci := 9) (v := .int 1) (ty := .boolean) (C := "RangeCodersModel") (T := T_M) (N := 35) hx hb hg in_M t_M o_M n_M hown hK hP hD hS 3 rfl rfl 22 (by decide) (hg _ k974) (fun _ h9 => h9) rfl (by decide +kernel) rfl rfl (Nat.le_of_ble_eq_true rfl) d_M_read_129 (fun H locs hP hD hS => ?_)
              have hP : va_P (dC, dI) vwCl [((g 0), Sum.inl (cI, 8, Sum.inl vMany)), ((g 1), Sum.inl (cI, 512, Sum.inl vCounts)), ((g 3), Sum.inl (cI, 512, Sum.inl fN)), (o, Sum.inr (9, mO g 3 fShift fModels fItems fEnded fLow fRange fCache fPend fGoes fOuts (nI is.length) 1 1 0 (nI (0 + 4)) 0 0 0 4294967295 r_106 fWrites 0)), ((g 8), Sum.inl (cI, 6000, Sum.inl vIn))] H := hP
              have hD : va_D A [((g 0), Sum.inl (cI, 8, Sum.inl vMany)), ((g 1), Sum.inl (cI, 512, Sum.inl vCounts)), ((g 3), Sum.inl (cI, 512, Sum.inl fN)), (o, Sum.inr (9, mO g 3 fShift fModels fItems fEnded fLow fRange fCache fPend fGoes fOuts (nI is.length) 1 1 0 (nI (0 + 4)) 0 0 0 4294967295 r_106 fWrites 0)), ((g 8), Sum.inl (cI, 6000, Sum.inl vIn))] := hD
              refine lv_goto (tgt := 172) hx hb d_M_read_132 (by decide) ?_
              refine lv_aload_n hx hb d_M_read_172 rfl (lv_at hl 1 rfl) ?_
              refine va_get (D := (dC, dI)) (ci := 9) (v := .int (nI is.length)) (C := "RangeCodersModel") (T := T_M) (N := 35) hx hb hg in_M hown hK hP 3 rfl rfl 20 (by decide) (hg _ k972) (fun _ h9 => h9) rfl d_M_read_173 ?_
              exact my_iret (v := nI is.length) hx hb hr (rfl) hlocks hQ hK hS (Nat.le_refl _) (Nat.le_refl _) ((1 : Int32), (1 : Int32), (0 : Int32), nI (0 + 4), (0 : Int32), (0 : Int64), (0 : Int64), (4294967295 : Int64), r_106, (0 : Int32), fN) (⟨hT9, fun _ z2 => absurd z2 (show ¬ (1 : Int32) = 0 by decide), rfl, rfl⟩) (hP.sub [3, 0, 1, 2, 4] rfl) (hD.sub [3, 0, 1, 2, 4] (by decide +kernel) rfl) d_M_read_176
        · exact absurd (by decide) c_2
      · have hjl : jj < km := by
          rcases Nat.lt_or_ge jj km with z | z
          · exact z
          · exact absurd (by rw [hmod]; exact nI_le z (by have := hMD.1; omega)) c_1
        have hk8 := hMD.1
        obtain ⟨hn9, hn2, hn64, C9, hc9, hB9⟩ := hMD.2 jj hjl
        refine lv_aload_n hx hb d_M_read_15 rfl (lv_at hl 1 rfl) ?_
        refine lv_aload_n hx hb d_M_read_16 rfl (lv_at hl 1 rfl) ?_
        refine va_get (D := (dC, dI)) (ci := 9) (v := .ref (g 3)) (C := "RangeCodersModel") (T := T_M) (N := 35) hx hb hg in_M hown hK hP 0 rfl rfl 6 (by decide) (hg _ k958) (fun _ h9 => h9) rfl d_M_read_17 ?_
        refine lv_iload_n hx hb d_M_read_20 rfl (lv_at hl 0 rfl) ?_
        refine my_cv (wr := [((g 8), Sum.inl (cI, 6000, Sum.inl vIn))]) (va_runV (As := [Value.ref (g 3), Value.int (nI jj)]) (rest := []) ⟨hx, hb, hml, hown, hts⟩ (c_M_prepare l dC dI cI cM cO H.size o g 3 fShift fModels fItems fEnded fLow fRange fCache fPend fGoes fOuts (nI is.length) fReads fBad fIR fAsk fBAsk fCode fRL fRR fX fWrites 0 vMany vCounts (g 3) fN jj (N jj) 3 C9 (by omega) (hn9) (hn64) (by omega) (by decide) (by rfl) (hc9) (hB9)) (cwV 2 hts (my_gV k928 k930 ks19 k12 k931) rfl rfl rfl (by decide +kernel) ⟨by rw [hR]; exact Nat.le_of_ble_eq_true rfl, by rw [hR]; exact Nat.le_of_ble_eq_true rfl⟩) (my_preV hK hN (hP.sub [0, 1, 2, 3] rfl) (hD.sub [0, 1, 2, 3] (by decide +kernel) rfl) 0 rfl rfl) rfl rfl hl.1 rfl (lv_room (Nat.le_of_ble_eq_true rfl)) d_M_read_21 ⟨by rw [hR]; exact Nat.le_of_ble_eq_true rfl, by rw [hR]; exact Nat.le_of_ble_eq_true rfl⟩) hP hD hS hA [0, 1, 2, 3] [4] rfl rfl (by decide +kernel) (by decide +kernel) (fun u9 H locs hw_21 hP hD hS => ?_)
        obtain ⟨f2_21, rfl⟩ : ∃ z, z = u9 := ⟨_, rfl⟩
        have hw_21 : sgI f2_21 (64 * jj) (pfN 3 (N jj)) (pf 3 (N jj) C9) ∧ sgO f2_21 fN (64 * jj) 64 := hw_21
        have hP : va_P (dC, dI) vwCl [((g 8), Sum.inl (cI, 6000, Sum.inl vIn)), (o, Sum.inr (9, mO g 3 fShift fModels fItems fEnded fLow fRange fCache fPend fGoes fOuts (nI is.length) fReads fBad fIR fAsk fBAsk fCode fRL fRR fX fWrites 0)), ((g 0), Sum.inl (cI, 8, Sum.inl vMany)), ((g 1), Sum.inl (cI, 512, Sum.inl vCounts)), ((g 3), Sum.inl (cI, 512, Sum.inl f2_21))] H := hP
        have hD : va_D A [((g 8), Sum.inl (cI, 6000, Sum.inl vIn)), (o, Sum.inr (9, mO g 3 fShift fModels fItems fEnded fLow fRange fCache fPend fGoes fOuts (nI is.length) fReads fBad fIR fAsk fBAsk fCode fRL fRR fX fWrites 0)), ((g 0), Sum.inl (cI, 8, Sum.inl vMany)), ((g 1), Sum.inl (cI, 512, Sum.inl vCounts)), ((g 3), Sum.inl (cI, 512, Sum.inl f2_21))] := hD
        have hT8 := TB_step hT9 (MD_N hMD) hjl hw_21.2 (tab_pf hfm hn64 (by omega) hB9 hw_21.1)
        obtain ⟨v_5, ev_5⟩ : ∃ y : Int32, y = (nI jj) + (1) := ⟨_, rfl⟩
        refine lv_iinc (v := v_5) (lv' := [(1, Value.int v_5), (0, Value.ref o)]) hx hb d_M_read_24 hl (k := 0) rfl (by rw [ev_5]; rfl) (by decide) rfl (fun ls hl => ?_)
        have z9 : v_5 = nI (jj + 1) := by rw [ev_5]; exact nI_1 _
        subst z9
        refine lv_goto (tgt := 7) hx hb d_M_read_27 (by decide) ?_
        exact ih9_7 _ (by first | omega | (omega)) (jj + 1) f2_21 rfl (by omega) (hT8) H locs ls (hP.sub [1, 2, 3, 4, 0] rfl) (hD.sub [1, 2, 3, 4, 0] (by decide +kernel) rfl) hS (lv_sub hl [0, 1] rfl)
  exact J_7 _ (0 : Nat) vThen rfl (Nat.zero_le _) (TB_0 _ _ _) H locs ls (hP.sub [0, 1, 2, 3, 4] rfl) (hD.sub [0, 1, 2, 3, 4] (by decide +kernel) rfl) hS (lv_sub hl [0, 1] rfl)
set_option maxHeartbeats 2000000 in
set_option maxRecDepth 100000 in
theorem m_read4 (l : Launch) (dC : Nat → ClassId) (dI : Nat → Nat → Nat) (cI cM cO : ClassId) (sz : Nat) (o : Nat) (g : Nat → Nat) (fForm : Int32) (fShift : Int32) (fModels : Int32) (fItems : Int32) (fEnded : Int32) (fLow : Int64) (fRange : Int64) (fCache : Int32) (fPend : Int32) (fGoes : Int32) (fOuts : Int32) (fIns : Int32) (fReads : Int32) (fBad : Int32) (fIR : Int32) (fAsk : Int32) (fBAsk : Int32) (fCode : Int64) (fRL : Int64) (fRR : Int64) (fX : Int64) (fWrites : Int32) (fThrown : Int32) (vMany : Nat → Int32) (vCounts : Nat → Int32) (vThen : Nat → Int32) (vIn : Nat → Int32) (km : Nat) (N : Nat → Nat) (cn : Nat) (hfo : fForm = 4) (hmod : fModels = nI km) (hMD : MD km N vMany vCounts) (hIN : IN fIns vIn) : MetI l y_M_read (Cond.code y_M_read prog_14_method_43_code 2 (some .int) :: gw) ({ frames := 3, cells := 0, slots := 0, locals := 75 } : Room) (dC, dI) vwCl (kT cI cM cO) [Value.ref o] [(o, Sum.inr (9, mO g fForm fShift fModels fItems fEnded fLow fRange fCache fPend fGoes fOuts fIns fReads fBad fIR fAsk fBAsk fCode fRL fRR fX fWrites fThrown)), ((g 0), Sum.inl (cI, 8, Sum.inl vMany)), ((g 1), Sum.inl (cI, 512, Sum.inl vCounts)), ((g 3), Sum.inl (cI, 512, Sum.inl vThen)), ((g 8), Sum.inl (cI, 6000, Sum.inl vIn))] sz (fun (r : Int32) (u : Int32 × Int32 × Int32 × Int32 × Int32 × Int64 × Int64 × Int64 × Int64 × Int32 × (Nat → Int32)) => TB 4 km N u.2.2.2.2.2.2.2.2.2.2 ∧ (¬ u.1 = 0 → u.2.1 = 0 → RD4 cn u.2.2.2.1 u.2.2.2.2.1 u.2.2.2.2.2.2.2.2.1) ∧ r = fIns ∧ u.1 = 1) (fun (u : Int32 × Int32 × Int32 × Int32 × Int32 × Int64 × Int64 × Int64 × Int64 × Int32 × (Nat → Int32)) => [(o, Sum.inr (9, mO g fForm fShift fModels fItems fEnded fLow fRange fCache fPend fGoes fOuts fIns u.1 u.2.1 u.2.2.1 u.2.2.2.1 u.2.2.2.2.1 u.2.2.2.2.2.1 u.2.2.2.2.2.2.1 u.2.2.2.2.2.2.2.1 u.2.2.2.2.2.2.2.2.1 fWrites u.2.2.2.2.2.2.2.2.2.1)), ((g 0), Sum.inl (cI, 8, Sum.inl vMany)), ((g 1), Sum.inl (cI, 512, Sum.inl vCounts)), ((g 3), Sum.inl (cI, 512, Sum.inl u.2.2.2.2.2.2.2.2.2.2)), ((g 8), Sum.inl (cI, 6000, Sum.inl vIn))]) 0 0 := by
  refine my_ofI (cc := prog_14_method_43_code) (n := 2) (ret := (some .int)) (by decide) rfl (Nat.le_of_ble_eq_true rfl) ?_
  intro p e s m args below meth c R Q A ls H locs hx hb hr hts hown hlocks hml hnm hR hQ hA hl hP hK hN hD hS
  have hg : ∀ w ∈ gw, w.before args s = true := fun w h => hts w (List.mem_cons_of_mem _ h)
  have hown : s.vm.findClass "RangeCodersModel" = some m.cls := hown
  have hl : lv_has ls 2 [(0, Value.ref o)] := hl
  subst hfo
  have hfm : 4 ≤ 4 := by decide
  obtain ⟨is, rfl, hIn, hlen, hoct⟩ := hIN
  have hP : va_P (dC, dI) vwCl [(o, Sum.inr (9, mO g 4 fShift fModels fItems fEnded fLow fRange fCache fPend fGoes fOuts (nI is.length) fReads fBad fIR fAsk fBAsk fCode fRL fRR fX fWrites fThrown)), ((g 0), Sum.inl (cI, 8, Sum.inl vMany)), ((g 1), Sum.inl (cI, 512, Sum.inl vCounts)), ((g 3), Sum.inl (cI, 512, Sum.inl vThen)), ((g 8), Sum.inl (cI, 6000, Sum.inl vIn))] H := hP
  have hD : va_D A [(o, Sum.inr (9, mO g 4 fShift fModels fItems fEnded fLow fRange fCache fPend fGoes fOuts (nI is.length) fReads fBad fIR fAsk fBAsk fCode fRL fRR fX fWrites fThrown)), ((g 0), Sum.inl (cI, 8, Sum.inl vMany)), ((g 1), Sum.inl (cI, 512, Sum.inl vCounts)), ((g 3), Sum.inl (cI, 512, Sum.inl vThen)), ((g 8), Sum.inl (cI, 6000, Sum.inl vIn))] := hD
  have hl : lv_has ls 2 [(0, Value.ref o)] := hl
  refine lv_aload_n hx hb d_M_read_0 rfl (lv_at hl 0 rfl) ?_
  refine lv_iconst (v := 0) hx hb d_M_read_1 (by decide) ?_
  refine va_put (D := (dC, dI)) (ci := 9) (v := .int 0) (ty := .int) (C := "RangeCodersModel") (T := T_M) (N := 35) hx hb hg in_M t_M o_M n_M hown hK hP hD hS 0 rfl rfl 34 (by decide) (hg _ k986) (fun _ h9 => h9) rfl (by decide +kernel) rfl rfl (Nat.le_of_ble_eq_true rfl) d_M_read_2 (fun H locs hP hD hS => ?_)
  have hP : va_P (dC, dI) vwCl [(o, Sum.inr (9, mO g 4 fShift fModels fItems fEnded fLow fRange fCache fPend fGoes fOuts (nI is.length) fReads fBad fIR fAsk fBAsk fCode fRL fRR fX fWrites 0)), ((g 0), Sum.inl (cI, 8, Sum.inl vMany)), ((g 1), Sum.inl (cI, 512, Sum.inl vCounts)), ((g 3), Sum.inl (cI, 512, Sum.inl vThen)), ((g 8), Sum.inl (cI, 6000, Sum.inl vIn))] H := hP
  have hD : va_D A [(o, Sum.inr (9, mO g 4 fShift fModels fItems fEnded fLow fRange fCache fPend fGoes fOuts (nI is.length) fReads fBad fIR fAsk fBAsk fCode fRL fRR fX fWrites 0)), ((g 0), Sum.inl (cI, 8, Sum.inl vMany)), ((g 1), Sum.inl (cI, 512, Sum.inl vCounts)), ((g 3), Sum.inl (cI, 512, Sum.inl vThen)), ((g 8), Sum.inl (cI, 6000, Sum.inl vIn))] := hD
  refine lv_iconst (v := 0) hx hb d_M_read_5 (by decide) ?_
  refine lv_istore_n (lv' := [(1, Value.int 0), (0, Value.ref o)]) hx hb d_M_read_6 rfl hl (by decide) rfl (fun ls hl => ?_)
  have J_7 : ∀ (n9_7 : Nat) (jj : Nat) (fN : Nat → Int32) (hn9_7 : km - jj = n9_7) (hjj : jj ≤ km) (hT9 : TB 4 jj N fN) (H : Heap) (locs : List Loc) (ls : Array Slot), va_P (dC, dI) vwCl [(o, Sum.inr (9, mO g 4 fShift fModels fItems fEnded fLow fRange fCache fPend fGoes fOuts (nI is.length) fReads fBad fIR fAsk fBAsk fCode fRL fRR fX fWrites 0)), ((g 0), Sum.inl (cI, 8, Sum.inl vMany)), ((g 1), Sum.inl (cI, 512, Sum.inl vCounts)), ((g 3), Sum.inl (cI, 512, Sum.inl fN)), ((g 8), Sum.inl (cI, 6000, Sum.inl vIn))] H → va_D A [(o, Sum.inr (9, mO g 4 fShift fModels fItems fEnded fLow fRange fCache fPend fGoes fOuts (nI is.length) fReads fBad fIR fAsk fBAsk fCode fRL fRR fX fWrites 0)), ((g 0), Sum.inl (cI, 8, Sum.inl vMany)), ((g 1), Sum.inl (cI, 512, Sum.inl vCounts)), ((g 3), Sum.inl (cI, 512, Sum.inl fN)), ((g 8), Sum.inl (cI, 6000, Sum.inl vIn))] → va_S A s.heap H locs → lv_has ls 2 [(1, Value.int (nI jj)), (0, Value.ref o)] → W p l e R s m args below meth c H locs 0 0 Q (F0 m 7 ls []) := by
    intro n9_7
    induction n9_7 using Nat.strongRecOn with
    | ind n9_7 ih9_7 =>
      intro jj fN hn9_7 hjj hT9 H locs ls hP hD hS hl
      refine lv_iload_n hx hb d_M_read_7 rfl (lv_at hl 0 rfl) ?_
      refine lv_aload_n hx hb d_M_read_8 rfl (lv_at hl 1 rfl) ?_
      refine va_get (D := (dC, dI)) (ci := 9) (v := .int fModels) (C := "RangeCodersModel") (T := T_M) (N := 35) hx hb hg in_M hown hK hP 0 rfl rfl 2 (by decide) (hg _ k954) (fun _ h9 => h9) rfl d_M_read_9 ?_
      refine lv_icmp_ge (tgt := 30) hx hb d_M_read_12 (by decide) (fun c_1 => ?_) (fun c_1 => ?_)
      · have hjk : jj = km := by
          have hk8 := hMD.1
          rw [hmod] at c_1
          have := (nI_cmp (by omega) (by omega)).mp c_1
          omega
        subst hjk
        refine lv_aload_n hx hb d_M_read_30 rfl (lv_at hl 1 rfl) ?_
        refine lv_iconst (v := 1) hx hb d_M_read_31 (by decide) ?_
        refine va_put (D := (dC, dI)) (ci := 9) (v := .int 1) (ty := .boolean) (C := "RangeCodersModel") (T := T_M) (N := 35) hx hb hg in_M t_M o_M n_M hown hK hP hD hS 0 rfl rfl 21 (by decide) (hg _ k973) (fun _ h9 => h9) rfl (by decide +kernel) rfl rfl (Nat.le_of_ble_eq_true rfl) d_M_read_32 (fun H locs hP hD hS => ?_)
        have hP : va_P (dC, dI) vwCl [(o, Sum.inr (9, mO g 4 fShift fModels fItems fEnded fLow fRange fCache fPend fGoes fOuts (nI is.length) 1 fBad fIR fAsk fBAsk fCode fRL fRR fX fWrites 0)), ((g 0), Sum.inl (cI, 8, Sum.inl vMany)), ((g 1), Sum.inl (cI, 512, Sum.inl vCounts)), ((g 3), Sum.inl (cI, 512, Sum.inl fN)), ((g 8), Sum.inl (cI, 6000, Sum.inl vIn))] H := hP
        have hD : va_D A [(o, Sum.inr (9, mO g 4 fShift fModels fItems fEnded fLow fRange fCache fPend fGoes fOuts (nI is.length) 1 fBad fIR fAsk fBAsk fCode fRL fRR fX fWrites 0)), ((g 0), Sum.inl (cI, 8, Sum.inl vMany)), ((g 1), Sum.inl (cI, 512, Sum.inl vCounts)), ((g 3), Sum.inl (cI, 512, Sum.inl fN)), ((g 8), Sum.inl (cI, 6000, Sum.inl vIn))] := hD
        refine lv_aload_n hx hb d_M_read_35 rfl (lv_at hl 1 rfl) ?_
        refine lv_iconst (v := 0) hx hb d_M_read_36 (by decide) ?_
        refine va_put (D := (dC, dI)) (ci := 9) (v := .int 0) (ty := .boolean) (C := "RangeCodersModel") (T := T_M) (N := 35) hx hb hg in_M t_M o_M n_M hown hK hP hD hS 0 rfl rfl 22 (by decide) (hg _ k974) (fun _ h9 => h9) rfl (by decide +kernel) rfl rfl (Nat.le_of_ble_eq_true rfl) d_M_read_37 (fun H locs hP hD hS => ?_)
        have hP : va_P (dC, dI) vwCl [(o, Sum.inr (9, mO g 4 fShift fModels fItems fEnded fLow fRange fCache fPend fGoes fOuts (nI is.length) 1 0 fIR fAsk fBAsk fCode fRL fRR fX fWrites 0)), ((g 0), Sum.inl (cI, 8, Sum.inl vMany)), ((g 1), Sum.inl (cI, 512, Sum.inl vCounts)), ((g 3), Sum.inl (cI, 512, Sum.inl fN)), ((g 8), Sum.inl (cI, 6000, Sum.inl vIn))] H := hP
        have hD : va_D A [(o, Sum.inr (9, mO g 4 fShift fModels fItems fEnded fLow fRange fCache fPend fGoes fOuts (nI is.length) 1 0 fIR fAsk fBAsk fCode fRL fRR fX fWrites 0)), ((g 0), Sum.inl (cI, 8, Sum.inl vMany)), ((g 1), Sum.inl (cI, 512, Sum.inl vCounts)), ((g 3), Sum.inl (cI, 512, Sum.inl fN)), ((g 8), Sum.inl (cI, 6000, Sum.inl vIn))] := hD
        refine lv_aload_n hx hb d_M_read_40 rfl (lv_at hl 1 rfl) ?_
        refine lv_iconst (v := 0) hx hb d_M_read_41 (by decide) ?_
        refine va_put (D := (dC, dI)) (ci := 9) (v := .int 0) (ty := .int) (C := "RangeCodersModel") (T := T_M) (N := 35) hx hb hg in_M t_M o_M n_M hown hK hP hD hS 0 rfl rfl 23 (by decide) (hg _ k975) (fun _ h9 => h9) rfl (by decide +kernel) rfl rfl (Nat.le_of_ble_eq_true rfl) d_M_read_42 (fun H locs hP hD hS => ?_)
        have hP : va_P (dC, dI) vwCl [(o, Sum.inr (9, mO g 4 fShift fModels fItems fEnded fLow fRange fCache fPend fGoes fOuts (nI is.length) 1 0 0 fAsk fBAsk fCode fRL fRR fX fWrites 0)), ((g 0), Sum.inl (cI, 8, Sum.inl vMany)), ((g 1), Sum.inl (cI, 512, Sum.inl vCounts)), ((g 3), Sum.inl (cI, 512, Sum.inl fN)), ((g 8), Sum.inl (cI, 6000, Sum.inl vIn))] H := hP
        have hD : va_D A [(o, Sum.inr (9, mO g 4 fShift fModels fItems fEnded fLow fRange fCache fPend fGoes fOuts (nI is.length) 1 0 0 fAsk fBAsk fCode fRL fRR fX fWrites 0)), ((g 0), Sum.inl (cI, 8, Sum.inl vMany)), ((g 1), Sum.inl (cI, 512, Sum.inl vCounts)), ((g 3), Sum.inl (cI, 512, Sum.inl fN)), ((g 8), Sum.inl (cI, 6000, Sum.inl vIn))] := hD
        refine lv_aload_n hx hb d_M_read_45 rfl (lv_at hl 1 rfl) ?_
        refine lv_iconst (v := 0) hx hb d_M_read_46 (by decide) ?_
        refine va_put (D := (dC, dI)) (ci := 9) (v := .int 0) (ty := .int) (C := "RangeCodersModel") (T := T_M) (N := 35) hx hb hg in_M t_M o_M n_M hown hK hP hD hS 0 rfl rfl 24 (by decide) (hg _ k976) (fun _ h9 => h9) rfl (by decide +kernel) rfl rfl (Nat.le_of_ble_eq_true rfl) d_M_read_47 (fun H locs hP hD hS => ?_)
        have hP : va_P (dC, dI) vwCl [(o, Sum.inr (9, mO g 4 fShift fModels fItems fEnded fLow fRange fCache fPend fGoes fOuts (nI is.length) 1 0 0 0 fBAsk fCode fRL fRR fX fWrites 0)), ((g 0), Sum.inl (cI, 8, Sum.inl vMany)), ((g 1), Sum.inl (cI, 512, Sum.inl vCounts)), ((g 3), Sum.inl (cI, 512, Sum.inl fN)), ((g 8), Sum.inl (cI, 6000, Sum.inl vIn))] H := hP
        have hD : va_D A [(o, Sum.inr (9, mO g 4 fShift fModels fItems fEnded fLow fRange fCache fPend fGoes fOuts (nI is.length) 1 0 0 0 fBAsk fCode fRL fRR fX fWrites 0)), ((g 0), Sum.inl (cI, 8, Sum.inl vMany)), ((g 1), Sum.inl (cI, 512, Sum.inl vCounts)), ((g 3), Sum.inl (cI, 512, Sum.inl fN)), ((g 8), Sum.inl (cI, 6000, Sum.inl vIn))] := hD
        refine lv_aload_n hx hb d_M_read_50 rfl (lv_at hl 1 rfl) ?_
        refine lv_iconst (v := 0) hx hb d_M_read_51 (by decide) ?_
        refine va_put (D := (dC, dI)) (ci := 9) (v := .int 0) (ty := .int) (C := "RangeCodersModel") (T := T_M) (N := 35) hx hb hg in_M t_M o_M n_M hown hK hP hD hS 0 rfl rfl 25 (by decide) (hg _ k977) (fun _ h9 => h9) rfl (by decide +kernel) rfl rfl (Nat.le_of_ble_eq_true rfl) d_M_read_52 (fun H locs hP hD hS => ?_)
        have hP : va_P (dC, dI) vwCl [(o, Sum.inr (9, mO g 4 fShift fModels fItems fEnded fLow fRange fCache fPend fGoes fOuts (nI is.length) 1 0 0 0 0 fCode fRL fRR fX fWrites 0)), ((g 0), Sum.inl (cI, 8, Sum.inl vMany)), ((g 1), Sum.inl (cI, 512, Sum.inl vCounts)), ((g 3), Sum.inl (cI, 512, Sum.inl fN)), ((g 8), Sum.inl (cI, 6000, Sum.inl vIn))] H := hP
        have hD : va_D A [(o, Sum.inr (9, mO g 4 fShift fModels fItems fEnded fLow fRange fCache fPend fGoes fOuts (nI is.length) 1 0 0 0 0 fCode fRL fRR fX fWrites 0)), ((g 0), Sum.inl (cI, 8, Sum.inl vMany)), ((g 1), Sum.inl (cI, 512, Sum.inl vCounts)), ((g 3), Sum.inl (cI, 512, Sum.inl fN)), ((g 8), Sum.inl (cI, 6000, Sum.inl vIn))] := hD
        refine lv_aload_n hx hb d_M_read_55 rfl (lv_at hl 1 rfl) ?_
        refine lv_lconst (v := 0) hx hb d_M_read_56 (by decide) ?_
        refine va_put (D := (dC, dI)) (ci := 9) (v := .long 0) (ty := .long) (C := "RangeCodersModel") (T := T_M) (N := 35) hx hb hg in_M t_M o_M n_M hown hK hP hD hS 0 rfl rfl 26 (by decide) (hg _ k978) (fun _ h9 => h9) rfl (by decide +kernel) rfl rfl (Nat.le_of_ble_eq_true rfl) d_M_read_57 (fun H locs hP hD hS => ?_)
        have hP : va_P (dC, dI) vwCl [(o, Sum.inr (9, mO g 4 fShift fModels fItems fEnded fLow fRange fCache fPend fGoes fOuts (nI is.length) 1 0 0 0 0 0 fRL fRR fX fWrites 0)), ((g 0), Sum.inl (cI, 8, Sum.inl vMany)), ((g 1), Sum.inl (cI, 512, Sum.inl vCounts)), ((g 3), Sum.inl (cI, 512, Sum.inl fN)), ((g 8), Sum.inl (cI, 6000, Sum.inl vIn))] H := hP
        have hD : va_D A [(o, Sum.inr (9, mO g 4 fShift fModels fItems fEnded fLow fRange fCache fPend fGoes fOuts (nI is.length) 1 0 0 0 0 0 fRL fRR fX fWrites 0)), ((g 0), Sum.inl (cI, 8, Sum.inl vMany)), ((g 1), Sum.inl (cI, 512, Sum.inl vCounts)), ((g 3), Sum.inl (cI, 512, Sum.inl fN)), ((g 8), Sum.inl (cI, 6000, Sum.inl vIn))] := hD
        refine lv_aload_n hx hb d_M_read_60 rfl (lv_at hl 1 rfl) ?_
        refine lv_lconst (v := 0) hx hb d_M_read_61 (by decide) ?_
        refine va_put (D := (dC, dI)) (ci := 9) (v := .long 0) (ty := .long) (C := "RangeCodersModel") (T := T_M) (N := 35) hx hb hg in_M t_M o_M n_M hown hK hP hD hS 0 rfl rfl 27 (by decide) (hg _ k979) (fun _ h9 => h9) rfl (by decide +kernel) rfl rfl (Nat.le_of_ble_eq_true rfl) d_M_read_62 (fun H locs hP hD hS => ?_)
        have hP : va_P (dC, dI) vwCl [(o, Sum.inr (9, mO g 4 fShift fModels fItems fEnded fLow fRange fCache fPend fGoes fOuts (nI is.length) 1 0 0 0 0 0 0 fRR fX fWrites 0)), ((g 0), Sum.inl (cI, 8, Sum.inl vMany)), ((g 1), Sum.inl (cI, 512, Sum.inl vCounts)), ((g 3), Sum.inl (cI, 512, Sum.inl fN)), ((g 8), Sum.inl (cI, 6000, Sum.inl vIn))] H := hP
        have hD : va_D A [(o, Sum.inr (9, mO g 4 fShift fModels fItems fEnded fLow fRange fCache fPend fGoes fOuts (nI is.length) 1 0 0 0 0 0 0 fRR fX fWrites 0)), ((g 0), Sum.inl (cI, 8, Sum.inl vMany)), ((g 1), Sum.inl (cI, 512, Sum.inl vCounts)), ((g 3), Sum.inl (cI, 512, Sum.inl fN)), ((g 8), Sum.inl (cI, 6000, Sum.inl vIn))] := hD
        refine lv_aload_n hx hb d_M_read_65 rfl (lv_at hl 1 rfl) ?_
        refine lv_ldc2 (v := 4294967295) hx hb hown (hg _ k927) d_M_read_66 ?_
        refine va_put (D := (dC, dI)) (ci := 9) (v := .long 4294967295) (ty := .long) (C := "RangeCodersModel") (T := T_M) (N := 35) hx hb hg in_M t_M o_M n_M hown hK hP hD hS 0 rfl rfl 28 (by decide) (hg _ k980) (fun _ h9 => h9) rfl (by decide +kernel) rfl rfl (Nat.le_of_ble_eq_true rfl) d_M_read_69 (fun H locs hP hD hS => ?_)
        have hP : va_P (dC, dI) vwCl [(o, Sum.inr (9, mO g 4 fShift fModels fItems fEnded fLow fRange fCache fPend fGoes fOuts (nI is.length) 1 0 0 0 0 0 0 4294967295 fX fWrites 0)), ((g 0), Sum.inl (cI, 8, Sum.inl vMany)), ((g 1), Sum.inl (cI, 512, Sum.inl vCounts)), ((g 3), Sum.inl (cI, 512, Sum.inl fN)), ((g 8), Sum.inl (cI, 6000, Sum.inl vIn))] H := hP
        have hD : va_D A [(o, Sum.inr (9, mO g 4 fShift fModels fItems fEnded fLow fRange fCache fPend fGoes fOuts (nI is.length) 1 0 0 0 0 0 0 4294967295 fX fWrites 0)), ((g 0), Sum.inl (cI, 8, Sum.inl vMany)), ((g 1), Sum.inl (cI, 512, Sum.inl vCounts)), ((g 3), Sum.inl (cI, 512, Sum.inl fN)), ((g 8), Sum.inl (cI, 6000, Sum.inl vIn))] := hD
        refine lv_aload_n hx hb d_M_read_72 rfl (lv_at hl 1 rfl) ?_
        refine lv_lconst (v := 0) hx hb d_M_read_73 (by decide) ?_
        refine va_put (D := (dC, dI)) (ci := 9) (v := .long 0) (ty := .long) (C := "RangeCodersModel") (T := T_M) (N := 35) hx hb hg in_M t_M o_M n_M hown hK hP hD hS 0 rfl rfl 29 (by decide) (hg _ k981) (fun _ h9 => h9) rfl (by decide +kernel) rfl rfl (Nat.le_of_ble_eq_true rfl) d_M_read_74 (fun H locs hP hD hS => ?_)
        have hP : va_P (dC, dI) vwCl [(o, Sum.inr (9, mO g 4 fShift fModels fItems fEnded fLow fRange fCache fPend fGoes fOuts (nI is.length) 1 0 0 0 0 0 0 4294967295 0 fWrites 0)), ((g 0), Sum.inl (cI, 8, Sum.inl vMany)), ((g 1), Sum.inl (cI, 512, Sum.inl vCounts)), ((g 3), Sum.inl (cI, 512, Sum.inl fN)), ((g 8), Sum.inl (cI, 6000, Sum.inl vIn))] H := hP
        have hD : va_D A [(o, Sum.inr (9, mO g 4 fShift fModels fItems fEnded fLow fRange fCache fPend fGoes fOuts (nI is.length) 1 0 0 0 0 0 0 4294967295 0 fWrites 0)), ((g 0), Sum.inl (cI, 8, Sum.inl vMany)), ((g 1), Sum.inl (cI, 512, Sum.inl vCounts)), ((g 3), Sum.inl (cI, 512, Sum.inl fN)), ((g 8), Sum.inl (cI, 6000, Sum.inl vIn))] := hD
        refine lv_aload_n hx hb d_M_read_77 rfl (lv_at hl 1 rfl) ?_
        refine va_get (D := (dC, dI)) (ci := 9) (v := .int 4) (C := "RangeCodersModel") (T := T_M) (N := 35) hx hb hg in_M hown hK hP 0 rfl rfl 0 (by decide) (hg _ k952) (fun _ h9 => h9) rfl d_M_read_78 ?_
        refine lv_iconst (v := 3) hx hb d_M_read_81 (by decide) ?_
        refine lv_icmp_ge (tgt := 96) hx hb d_M_read_82 (by decide) (fun c_2 => ?_) (fun c_2 => ?_)
        · refine lv_aload_n hx hb d_M_read_96 rfl (lv_at hl 1 rfl) ?_
          refine va_get (D := (dC, dI)) (ci := 9) (v := .int 4) (C := "RangeCodersModel") (T := T_M) (N := 35) hx hb hg in_M hown hK hP 0 rfl rfl 0 (by decide) (hg _ k952) (fun _ h9 => h9) rfl d_M_read_97 ?_
          refine lv_iconst (v := 3) hx hb d_M_read_100 (by decide) ?_
          refine lv_icmp_ne (tgt := 135) hx hb d_M_read_101 (by decide) (fun c_3 => ?_) (fun c_3 => ?_)
          · refine lv_aload_n hx hb d_M_read_135 rfl (lv_at hl 1 rfl) ?_
            refine lv_lconst (v := 1) hx hb d_M_read_136 (by decide) ?_
            refine va_put (D := (dC, dI)) (ci := 9) (v := .long 1) (ty := .long) (C := "RangeCodersModel") (T := T_M) (N := 35) hx hb hg in_M t_M o_M n_M hown hK hP hD hS 0 rfl rfl 29 (by decide) (hg _ k981) (fun _ h9 => h9) rfl (by decide +kernel) rfl rfl (Nat.le_of_ble_eq_true rfl) d_M_read_137 (fun H locs hP hD hS => ?_)
            have hP : va_P (dC, dI) vwCl [(o, Sum.inr (9, mO g 4 fShift fModels fItems fEnded fLow fRange fCache fPend fGoes fOuts (nI is.length) 1 0 0 0 0 0 0 4294967295 1 fWrites 0)), ((g 0), Sum.inl (cI, 8, Sum.inl vMany)), ((g 1), Sum.inl (cI, 512, Sum.inl vCounts)), ((g 3), Sum.inl (cI, 512, Sum.inl fN)), ((g 8), Sum.inl (cI, 6000, Sum.inl vIn))] H := hP
            have hD : va_D A [(o, Sum.inr (9, mO g 4 fShift fModels fItems fEnded fLow fRange fCache fPend fGoes fOuts (nI is.length) 1 0 0 0 0 0 0 4294967295 1 fWrites 0)), ((g 0), Sum.inl (cI, 8, Sum.inl vMany)), ((g 1), Sum.inl (cI, 512, Sum.inl vCounts)), ((g 3), Sum.inl (cI, 512, Sum.inl fN)), ((g 8), Sum.inl (cI, 6000, Sum.inl vIn))] := hD
            refine lv_iconst (v := 0) hx hb d_M_read_140 (by decide) ?_
            refine lv_istore_n (lv' := [(1, Value.int 0), (0, Value.ref o)]) hx hb d_M_read_141 rfl hl (by decide) rfl (fun ls hl => ?_)
            have J_142 : ∀ (n9_142 : Nat) (kk : Nat) (X9 : Nat) (hn9_142 : 9 - kk = n9_142) (hkk : kk ≤ 9) (hX0 : 2 ^ kk ≤ X9) (hX1 : X9 < 2 ^ (kk + 1)) (H : Heap) (locs : List Loc) (ls : Array Slot), va_P (dC, dI) vwCl [(o, Sum.inr (9, mO g 4 fShift fModels fItems fEnded fLow fRange fCache fPend fGoes fOuts (nI is.length) 1 0 0 (nI ((kk + 7) / 8)) (nI kk) 0 0 4294967295 (lN X9) fWrites 0)), ((g 0), Sum.inl (cI, 8, Sum.inl vMany)), ((g 1), Sum.inl (cI, 512, Sum.inl vCounts)), ((g 3), Sum.inl (cI, 512, Sum.inl fN)), ((g 8), Sum.inl (cI, 6000, Sum.inl vIn))] H → va_D A [(o, Sum.inr (9, mO g 4 fShift fModels fItems fEnded fLow fRange fCache fPend fGoes fOuts (nI is.length) 1 0 0 (nI ((kk + 7) / 8)) (nI kk) 0 0 4294967295 (lN X9) fWrites 0)), ((g 0), Sum.inl (cI, 8, Sum.inl vMany)), ((g 1), Sum.inl (cI, 512, Sum.inl vCounts)), ((g 3), Sum.inl (cI, 512, Sum.inl fN)), ((g 8), Sum.inl (cI, 6000, Sum.inl vIn))] → va_S A s.heap H locs → lv_has ls 2 [(1, Value.int (nI kk)), (0, Value.ref o)] → W p l e R s m args below meth c H locs 0 0 Q (F0 m 142 ls []) := by
              intro n9_142
              induction n9_142 using Nat.strongRecOn with
              | ind n9_142 ih9_142 =>
                intro kk X9 hn9_142 hkk hX0 hX1 H locs ls hP hD hS hl
                refine lv_iload_n hx hb d_M_read_142 rfl (lv_at hl 0 rfl) ?_
                refine lv_bipush (v := 9) hx hb d_M_read_143 (by decide) ?_
                refine lv_icmp_ge (tgt := 172) hx hb d_M_read_145 (by decide) (fun c_4 => ?_) (fun c_4 => ?_)
                · have hk9 : kk = 9 := by have := (nI_cmp (a := 9) (b := kk) (by decide) (by omega)).mp c_4; omega
                  subst hk9
                  refine lv_aload_n hx hb d_M_read_172 rfl (lv_at hl 1 rfl) ?_
                  refine va_get (D := (dC, dI)) (ci := 9) (v := .int (nI is.length)) (C := "RangeCodersModel") (T := T_M) (N := 35) hx hb hg in_M hown hK hP 0 rfl rfl 20 (by decide) (hg _ k972) (fun _ h9 => h9) rfl d_M_read_173 ?_
                  exact my_iret (v := (nI is.length)) hx hb hr (rfl) hlocks hQ hK hS (Nat.le_refl _) (Nat.le_refl _) ((1 : Int32), (0 : Int32), (0 : Int32), nI ((9 + 7) / 8), nI 9, (0 : Int64), (0 : Int64), (4294967295 : Int64), lN X9, (0 : Int32), fN) (⟨hT9, fun _ _ => ⟨X9, 9, rfl, rfl, rfl, hX0, hX1, by omega⟩, rfl, rfl⟩) (hP.sub [0, 1, 2, 3, 4] rfl) (hD.sub [0, 1, 2, 3, 4] (by decide +kernel) rfl) d_M_read_176
                · have hkl : kk < 9 := by
                    rcases Nat.lt_or_ge kk 9 with z | z
                    · exact z
                    · exact absurd (nI_le (a := 9) z (by omega)) c_4
                  have hX5 : X9 < 1024 := Nat.lt_of_lt_of_le hX1 (Nat.le_trans (Nat.pow_le_pow_right (by decide) (show kk + 1 ≤ 10 by omega)) (by decide))
                  have hbi := biA_lt is kk
                  refine lv_aload_n hx hb d_M_read_148 rfl (lv_at hl 1 rfl) ?_
                  refine lv_ldc2 (v := 2) hx hb hown (hg _ k1169) d_M_read_149 ?_
                  refine lv_aload_n hx hb d_M_read_152 rfl (lv_at hl 1 rfl) ?_
                  refine va_get (D := (dC, dI)) (ci := 9) (v := .long (lN X9)) (C := "RangeCodersModel") (T := T_M) (N := 35) hx hb hg in_M hown hK hP 0 rfl rfl 29 (by decide) (hg _ k981) (fun _ h9 => h9) rfl d_M_read_153 ?_
                  refine lv_lmul hx hb d_M_read_156 ?_
                  refine lv_topl (fun v_5 ev_5 => ?_)
                  have z9 : v_5 = lN (2 * X9) := by rw [ev_5]; exact lN_mul 2 X9
                  subst z9
                  refine lv_aload_n hx hb d_M_read_157 rfl (lv_at hl 1 rfl) ?_
                  refine my_ci (wr := [((g 0), Sum.inl (cI, 8, Sum.inl vMany)), ((g 1), Sum.inl (cI, 512, Sum.inl vCounts)), ((g 3), Sum.inl (cI, 512, Sum.inl fN))]) (va_runV (As := []) (rest := [Value.long (lN (2 * X9)), Value.ref o]) ⟨hx, hb, hml, hown, hts⟩ (c_M_nextBit l dC dI cI cM cO H.size o g 4 fShift fModels fItems fEnded fLow fRange fCache fPend fGoes fOuts 1 0 0 0 0 4294967295 (lN X9) fWrites 0 vIn is kk (nI ((kk + 7) / 8)) (hIn) (hlen) (hoct) (by omega)) (cwV 0 hts (my_gV k1198 k1200 ks46 k12 k1201) rfl rfl rfl (by decide +kernel) ⟨by rw [hR]; exact Nat.le_of_ble_eq_true rfl, by rw [hR]; exact Nat.le_of_ble_eq_true rfl⟩) (my_preV hK hN (hP.sub [0, 4] rfl) (hD.sub [0, 4] (by decide +kernel) rfl) 0 rfl rfl) rfl rfl hl.1 rfl (lv_room (Nat.le_of_ble_eq_true rfl)) d_M_read_158 ⟨by rw [hR]; exact Nat.le_of_ble_eq_true rfl, by rw [hR]; exact Nat.le_of_ble_eq_true rfl⟩) hP hD hS hA [0, 4] [1, 2, 3] rfl rfl (by decide +kernel) (by decide +kernel) (fun r_158 u9 H locs hw_158 hP hD hS => ?_)
                  have hw_158 : r_158 = nI (biA is kk) := hw_158
                  have hP : va_P (dC, dI) vwCl [((g 0), Sum.inl (cI, 8, Sum.inl vMany)), ((g 1), Sum.inl (cI, 512, Sum.inl vCounts)), ((g 3), Sum.inl (cI, 512, Sum.inl fN)), (o, Sum.inr (9, mO g 4 fShift fModels fItems fEnded fLow fRange fCache fPend fGoes fOuts (nI is.length) 1 0 0 (nI ((kk + 8) / 8)) (nI (kk + 1)) 0 0 4294967295 (lN X9) fWrites 0)), ((g 8), Sum.inl (cI, 6000, Sum.inl vIn))] H := hP
                  have hD : va_D A [((g 0), Sum.inl (cI, 8, Sum.inl vMany)), ((g 1), Sum.inl (cI, 512, Sum.inl vCounts)), ((g 3), Sum.inl (cI, 512, Sum.inl fN)), (o, Sum.inr (9, mO g 4 fShift fModels fItems fEnded fLow fRange fCache fPend fGoes fOuts (nI is.length) 1 0 0 (nI ((kk + 8) / 8)) (nI (kk + 1)) 0 0 4294967295 (lN X9) fWrites 0)), ((g 8), Sum.inl (cI, 6000, Sum.inl vIn))] := hD
                  refine lv_i2l hx hb d_M_read_161 rfl ?_
                  refine lv_topl (fun v_6 ev_6 => ?_)
                  have z9 : v_6 = lN (biA is kk) := by rw [ev_6, hw_158]; exact nI_l (by omega)
                  subst z9
                  refine lv_ladd hx hb d_M_read_162 ?_
                  refine lv_topl (fun v_7 ev_7 => ?_)
                  have z9 : v_7 = lN (2 * X9 + biA is kk) := by rw [ev_7]; exact lN_add _ _
                  subst z9
                  refine va_put (D := (dC, dI)) (ci := 9) (v := .long (lN (2 * X9 + biA is kk))) (ty := .long) (C := "RangeCodersModel") (T := T_M) (N := 35) hx hb hg in_M t_M o_M n_M hown hK hP hD hS 3 rfl rfl 29 (by decide) (hg _ k981) (fun _ h9 => h9) rfl (by decide +kernel) rfl rfl (Nat.le_of_ble_eq_true rfl) d_M_read_163 (fun H locs hP hD hS => ?_)
                  have hP : va_P (dC, dI) vwCl [((g 0), Sum.inl (cI, 8, Sum.inl vMany)), ((g 1), Sum.inl (cI, 512, Sum.inl vCounts)), ((g 3), Sum.inl (cI, 512, Sum.inl fN)), (o, Sum.inr (9, mO g 4 fShift fModels fItems fEnded fLow fRange fCache fPend fGoes fOuts (nI is.length) 1 0 0 (nI ((kk + 8) / 8)) (nI (kk + 1)) 0 0 4294967295 (lN (2 * X9 + biA is kk)) fWrites 0)), ((g 8), Sum.inl (cI, 6000, Sum.inl vIn))] H := hP
                  have hD : va_D A [((g 0), Sum.inl (cI, 8, Sum.inl vMany)), ((g 1), Sum.inl (cI, 512, Sum.inl vCounts)), ((g 3), Sum.inl (cI, 512, Sum.inl fN)), (o, Sum.inr (9, mO g 4 fShift fModels fItems fEnded fLow fRange fCache fPend fGoes fOuts (nI is.length) 1 0 0 (nI ((kk + 8) / 8)) (nI (kk + 1)) 0 0 4294967295 (lN (2 * X9 + biA is kk)) fWrites 0)), ((g 8), Sum.inl (cI, 6000, Sum.inl vIn))] := hD
                  obtain ⟨v_8, ev_8⟩ : ∃ y : Int32, y = (nI kk) + (1) := ⟨_, rfl⟩
                  refine lv_iinc (v := v_8) (lv' := [(1, Value.int v_8), (0, Value.ref o)]) hx hb d_M_read_166 hl (k := 0) rfl (by rw [ev_8]; rfl) (by decide) rfl (fun ls hl => ?_)
                  have z9 : v_8 = nI (kk + 1) := by rw [ev_8]; exact nI_1 _
                  subst z9
                  refine lv_goto (tgt := 142) hx hb d_M_read_169 (by decide) ?_
                  exact ih9_142 _ (by first | omega | (omega)) (kk + 1) (2 * X9 + biA is kk) rfl (by omega) (by rw [Nat.pow_succ]; omega) (by have := biA_lt is kk; rw [Nat.pow_succ]; omega) H locs ls (hP.sub [3, 0, 1, 2, 4] rfl) (hD.sub [3, 0, 1, 2, 4] (by decide +kernel) rfl) hS (lv_sub hl [0, 1] rfl)
            exact J_142 _ (0 : Nat) (1 : Nat) rfl (by decide) (by decide) (by decide) H locs ls (hP.sub [0, 1, 2, 3, 4] rfl) (hD.sub [0, 1, 2, 3, 4] (by decide +kernel) rfl) hS (lv_sub hl [0, 1] rfl)
          · exact absurd c_3 (by decide)
        · exact absurd (by decide) c_2
      · have hjl : jj < km := by
          rcases Nat.lt_or_ge jj km with z | z
          · exact z
          · exact absurd (by rw [hmod]; exact nI_le z (by have := hMD.1; omega)) c_1
        have hk8 := hMD.1
        obtain ⟨hn9, hn2, hn64, C9, hc9, hB9⟩ := hMD.2 jj hjl
        refine lv_aload_n hx hb d_M_read_15 rfl (lv_at hl 1 rfl) ?_
        refine lv_aload_n hx hb d_M_read_16 rfl (lv_at hl 1 rfl) ?_
        refine va_get (D := (dC, dI)) (ci := 9) (v := .ref (g 3)) (C := "RangeCodersModel") (T := T_M) (N := 35) hx hb hg in_M hown hK hP 0 rfl rfl 6 (by decide) (hg _ k958) (fun _ h9 => h9) rfl d_M_read_17 ?_
        refine lv_iload_n hx hb d_M_read_20 rfl (lv_at hl 0 rfl) ?_
        refine my_cv (wr := [((g 8), Sum.inl (cI, 6000, Sum.inl vIn))]) (va_runV (As := [Value.ref (g 3), Value.int (nI jj)]) (rest := []) ⟨hx, hb, hml, hown, hts⟩ (c_M_prepare l dC dI cI cM cO H.size o g 4 fShift fModels fItems fEnded fLow fRange fCache fPend fGoes fOuts (nI is.length) fReads fBad fIR fAsk fBAsk fCode fRL fRR fX fWrites 0 vMany vCounts (g 3) fN jj (N jj) 4 C9 (by omega) (hn9) (hn64) (by omega) (by decide) (by rfl) (hc9) (hB9)) (cwV 2 hts (my_gV k928 k930 ks19 k12 k931) rfl rfl rfl (by decide +kernel) ⟨by rw [hR]; exact Nat.le_of_ble_eq_true rfl, by rw [hR]; exact Nat.le_of_ble_eq_true rfl⟩) (my_preV hK hN (hP.sub [0, 1, 2, 3] rfl) (hD.sub [0, 1, 2, 3] (by decide +kernel) rfl) 0 rfl rfl) rfl rfl hl.1 rfl (lv_room (Nat.le_of_ble_eq_true rfl)) d_M_read_21 ⟨by rw [hR]; exact Nat.le_of_ble_eq_true rfl, by rw [hR]; exact Nat.le_of_ble_eq_true rfl⟩) hP hD hS hA [0, 1, 2, 3] [4] rfl rfl (by decide +kernel) (by decide +kernel) (fun u9 H locs hw_21 hP hD hS => ?_)
        obtain ⟨f2_21, rfl⟩ : ∃ z, z = u9 := ⟨_, rfl⟩
        have hw_21 : sgI f2_21 (64 * jj) (pfN 4 (N jj)) (pf 4 (N jj) C9) ∧ sgO f2_21 fN (64 * jj) 64 := hw_21
        have hP : va_P (dC, dI) vwCl [((g 8), Sum.inl (cI, 6000, Sum.inl vIn)), (o, Sum.inr (9, mO g 4 fShift fModels fItems fEnded fLow fRange fCache fPend fGoes fOuts (nI is.length) fReads fBad fIR fAsk fBAsk fCode fRL fRR fX fWrites 0)), ((g 0), Sum.inl (cI, 8, Sum.inl vMany)), ((g 1), Sum.inl (cI, 512, Sum.inl vCounts)), ((g 3), Sum.inl (cI, 512, Sum.inl f2_21))] H := hP
        have hD : va_D A [((g 8), Sum.inl (cI, 6000, Sum.inl vIn)), (o, Sum.inr (9, mO g 4 fShift fModels fItems fEnded fLow fRange fCache fPend fGoes fOuts (nI is.length) fReads fBad fIR fAsk fBAsk fCode fRL fRR fX fWrites 0)), ((g 0), Sum.inl (cI, 8, Sum.inl vMany)), ((g 1), Sum.inl (cI, 512, Sum.inl vCounts)), ((g 3), Sum.inl (cI, 512, Sum.inl f2_21))] := hD
        have hT8 := TB_step hT9 (MD_N hMD) hjl hw_21.2 (tab_pf hfm hn64 (by omega) hB9 hw_21.1)
        obtain ⟨v_9, ev_9⟩ : ∃ y : Int32, y = (nI jj) + (1) := ⟨_, rfl⟩
        refine lv_iinc (v := v_9) (lv' := [(1, Value.int v_9), (0, Value.ref o)]) hx hb d_M_read_24 hl (k := 0) rfl (by rw [ev_9]; rfl) (by decide) rfl (fun ls hl => ?_)
        have z9 : v_9 = nI (jj + 1) := by rw [ev_9]; exact nI_1 _
        subst z9
        refine lv_goto (tgt := 7) hx hb d_M_read_27 (by decide) ?_
        exact ih9_7 _ (by first | omega | (omega)) (jj + 1) f2_21 rfl (by omega) (hT8) H locs ls (hP.sub [1, 2, 3, 4, 0] rfl) (hD.sub [1, 2, 3, 4, 0] (by decide +kernel) rfl) hS (lv_sub hl [0, 1] rfl)
  exact J_7 _ (0 : Nat) vThen rfl (Nat.zero_le _) (TB_0 _ _ _) H locs ls (hP.sub [0, 1, 2, 3, 4] rfl) (hD.sub [0, 1, 2, 3, 4] (by decide +kernel) rfl) hS (lv_sub hl [0, 1] rfl)

