set_option maxHeartbeats 2000000 in
set_option maxRecDepth 100000 in
theorem c_M_start (l : Launch) (dC : Nat → ClassId) (dI : Nat → Nat → Nat) (cI cM cO : ClassId) (sz : Nat) (o : Nat) (g : Nat → Nat) (fForm : Int32) (fShift : Int32) (fModels : Int32) (fItems : Int32) (fEnded : Int32) (fLow : Int64) (fRange : Int64) (fCache : Int32) (fPend : Int32) (fGoes : Int32) (fOuts : Int32) (fIns : Int32) (fReads : Int32) (fBad : Int32) (fIR : Int32) (fAsk : Int32) (fBAsk : Int32) (fCode : Int64) (fRL : Int64) (fRR : Int64) (fX : Int64) (fWrites : Int32) (fThrown : Int32) (vMany : Nat → Int32) (vCounts : Nat → Int32) (vNow : Nat → Int32) (fm : Nat) (km : Nat) (N : Nat → Nat) (hfm : fm ≤ 4) (hform : fForm = nI fm) (hmod : fModels = nI km) (hMD : MD km N vMany vCounts) : MetV l y_M_start (Cond.code y_M_start prog_14_method_15_code 2 none :: gw) ({ frames := 3, cells := 0, slots := 0, locals := 75 } : Room) (dC, dI) vwCl (kT cI cM cO) [Value.ref o] [(o, Sum.inr (9, mO g fForm fShift fModels fItems fEnded fLow fRange fCache fPend fGoes fOuts fIns fReads fBad fIR fAsk fBAsk fCode fRL fRR fX fWrites fThrown)), ((g 0), Sum.inl (cI, 8, Sum.inl vMany)), ((g 1), Sum.inl (cI, 512, Sum.inl vCounts)), ((g 2), Sum.inl (cI, 512, Sum.inl vNow))] sz (fun (u : Int32 × Int32 × Int64 × Int64 × Int32 × Int32 × Int32 × (Nat → Int32)) => TB fm km N u.2.2.2.2.2.2.2 ∧ u.1 = 0 ∧ u.2.1 = 0 ∧ u.2.2.1 = 0 ∧ u.2.2.2.1 = 4294967295 ∧ u.2.2.2.2.1 = -1 ∧ u.2.2.2.2.2.1 = 0 ∧ u.2.2.2.2.2.2.1 = 0) (fun (u : Int32 × Int32 × Int64 × Int64 × Int32 × Int32 × Int32 × (Nat → Int32)) => [(o, Sum.inr (9, mO g fForm fShift fModels u.1 u.2.1 u.2.2.1 u.2.2.2.1 u.2.2.2.2.1 u.2.2.2.2.2.1 u.2.2.2.2.2.2.1 fOuts fIns fReads fBad fIR fAsk fBAsk fCode fRL fRR fX fWrites fThrown)), ((g 0), Sum.inl (cI, 8, Sum.inl vMany)), ((g 1), Sum.inl (cI, 512, Sum.inl vCounts)), ((g 2), Sum.inl (cI, 512, Sum.inl u.2.2.2.2.2.2.2))]) 0 0 := by
  refine my_ofV (cc := prog_14_method_15_code) (n := 2) (ret := none) (by decide) rfl (Nat.le_of_ble_eq_true rfl) ?_
  intro p e s m args below meth c R Q A ls H locs hx hb hr hts hown hlocks hml hnm hR hQ hA hl hP hK hN hD hS
  have hg : ∀ w ∈ gw, w.before args s = true := fun w h => hts w (List.mem_cons_of_mem _ h)
  have hown : s.vm.findClass "RangeCodersModel" = some m.cls := hown
  have hl : lv_has ls 2 [(0, Value.ref o)] := hl
  refine lv_aload_n hx hb d_M_start_0 rfl (lv_at hl 0 rfl) ?_
  refine lv_iconst (v := 0) hx hb d_M_start_1 (by decide) ?_
  refine va_put (D := (dC, dI)) (ci := 9) (v := .int 0) (ty := .int) (C := "RangeCodersModel") (T := T_M) (N := 35) hx hb hg in_M t_M o_M n_M hown hK hP hD hS 0 rfl rfl 7 (by decide) (hg _ k959) (fun _ h9 => h9) rfl (by decide +kernel) rfl rfl (Nat.le_of_ble_eq_true rfl) d_M_start_2 (fun H locs hP hD hS => ?_)
  have hP : va_P (dC, dI) vwCl [(o, Sum.inr (9, mO g fForm fShift fModels 0 fEnded fLow fRange fCache fPend fGoes fOuts fIns fReads fBad fIR fAsk fBAsk fCode fRL fRR fX fWrites fThrown)), ((g 0), Sum.inl (cI, 8, Sum.inl vMany)), ((g 1), Sum.inl (cI, 512, Sum.inl vCounts)), ((g 2), Sum.inl (cI, 512, Sum.inl vNow))] H := hP
  have hD : va_D A [(o, Sum.inr (9, mO g fForm fShift fModels 0 fEnded fLow fRange fCache fPend fGoes fOuts fIns fReads fBad fIR fAsk fBAsk fCode fRL fRR fX fWrites fThrown)), ((g 0), Sum.inl (cI, 8, Sum.inl vMany)), ((g 1), Sum.inl (cI, 512, Sum.inl vCounts)), ((g 2), Sum.inl (cI, 512, Sum.inl vNow))] := hD
  refine lv_aload_n hx hb d_M_start_5 rfl (lv_at hl 0 rfl) ?_
  refine lv_iconst (v := 0) hx hb d_M_start_6 (by decide) ?_
  refine va_put (D := (dC, dI)) (ci := 9) (v := .int 0) (ty := .boolean) (C := "RangeCodersModel") (T := T_M) (N := 35) hx hb hg in_M t_M o_M n_M hown hK hP hD hS 0 rfl rfl 10 (by decide) (hg _ k962) (fun _ h9 => h9) rfl (by decide +kernel) rfl rfl (Nat.le_of_ble_eq_true rfl) d_M_start_7 (fun H locs hP hD hS => ?_)
  have hP : va_P (dC, dI) vwCl [(o, Sum.inr (9, mO g fForm fShift fModels 0 0 fLow fRange fCache fPend fGoes fOuts fIns fReads fBad fIR fAsk fBAsk fCode fRL fRR fX fWrites fThrown)), ((g 0), Sum.inl (cI, 8, Sum.inl vMany)), ((g 1), Sum.inl (cI, 512, Sum.inl vCounts)), ((g 2), Sum.inl (cI, 512, Sum.inl vNow))] H := hP
  have hD : va_D A [(o, Sum.inr (9, mO g fForm fShift fModels 0 0 fLow fRange fCache fPend fGoes fOuts fIns fReads fBad fIR fAsk fBAsk fCode fRL fRR fX fWrites fThrown)), ((g 0), Sum.inl (cI, 8, Sum.inl vMany)), ((g 1), Sum.inl (cI, 512, Sum.inl vCounts)), ((g 2), Sum.inl (cI, 512, Sum.inl vNow))] := hD
  refine lv_aload_n hx hb d_M_start_10 rfl (lv_at hl 0 rfl) ?_
  refine lv_lconst (v := 0) hx hb d_M_start_11 (by decide) ?_
  refine va_put (D := (dC, dI)) (ci := 9) (v := .long 0) (ty := .long) (C := "RangeCodersModel") (T := T_M) (N := 35) hx hb hg in_M t_M o_M n_M hown hK hP hD hS 0 rfl rfl 11 (by decide) (hg _ k963) (fun _ h9 => h9) rfl (by decide +kernel) rfl rfl (Nat.le_of_ble_eq_true rfl) d_M_start_12 (fun H locs hP hD hS => ?_)
  have hP : va_P (dC, dI) vwCl [(o, Sum.inr (9, mO g fForm fShift fModels 0 0 0 fRange fCache fPend fGoes fOuts fIns fReads fBad fIR fAsk fBAsk fCode fRL fRR fX fWrites fThrown)), ((g 0), Sum.inl (cI, 8, Sum.inl vMany)), ((g 1), Sum.inl (cI, 512, Sum.inl vCounts)), ((g 2), Sum.inl (cI, 512, Sum.inl vNow))] H := hP
  have hD : va_D A [(o, Sum.inr (9, mO g fForm fShift fModels 0 0 0 fRange fCache fPend fGoes fOuts fIns fReads fBad fIR fAsk fBAsk fCode fRL fRR fX fWrites fThrown)), ((g 0), Sum.inl (cI, 8, Sum.inl vMany)), ((g 1), Sum.inl (cI, 512, Sum.inl vCounts)), ((g 2), Sum.inl (cI, 512, Sum.inl vNow))] := hD
  refine lv_aload_n hx hb d_M_start_15 rfl (lv_at hl 0 rfl) ?_
  refine lv_ldc2 (v := 4294967295) hx hb hown (hg _ k927) d_M_start_16 ?_
  refine va_put (D := (dC, dI)) (ci := 9) (v := .long 4294967295) (ty := .long) (C := "RangeCodersModel") (T := T_M) (N := 35) hx hb hg in_M t_M o_M n_M hown hK hP hD hS 0 rfl rfl 12 (by decide) (hg _ k964) (fun _ h9 => h9) rfl (by decide +kernel) rfl rfl (Nat.le_of_ble_eq_true rfl) d_M_start_19 (fun H locs hP hD hS => ?_)
  have hP : va_P (dC, dI) vwCl [(o, Sum.inr (9, mO g fForm fShift fModels 0 0 0 4294967295 fCache fPend fGoes fOuts fIns fReads fBad fIR fAsk fBAsk fCode fRL fRR fX fWrites fThrown)), ((g 0), Sum.inl (cI, 8, Sum.inl vMany)), ((g 1), Sum.inl (cI, 512, Sum.inl vCounts)), ((g 2), Sum.inl (cI, 512, Sum.inl vNow))] H := hP
  have hD : va_D A [(o, Sum.inr (9, mO g fForm fShift fModels 0 0 0 4294967295 fCache fPend fGoes fOuts fIns fReads fBad fIR fAsk fBAsk fCode fRL fRR fX fWrites fThrown)), ((g 0), Sum.inl (cI, 8, Sum.inl vMany)), ((g 1), Sum.inl (cI, 512, Sum.inl vCounts)), ((g 2), Sum.inl (cI, 512, Sum.inl vNow))] := hD
  refine lv_aload_n hx hb d_M_start_22 rfl (lv_at hl 0 rfl) ?_
  refine lv_iconst (v := (-1)) hx hb d_M_start_23 (by decide) ?_
  refine va_put (D := (dC, dI)) (ci := 9) (v := .int (-1)) (ty := .int) (C := "RangeCodersModel") (T := T_M) (N := 35) hx hb hg in_M t_M o_M n_M hown hK hP hD hS 0 rfl rfl 13 (by decide) (hg _ k965) (fun _ h9 => h9) rfl (by decide +kernel) rfl rfl (Nat.le_of_ble_eq_true rfl) d_M_start_24 (fun H locs hP hD hS => ?_)
  have hP : va_P (dC, dI) vwCl [(o, Sum.inr (9, mO g fForm fShift fModels 0 0 0 4294967295 (-1) fPend fGoes fOuts fIns fReads fBad fIR fAsk fBAsk fCode fRL fRR fX fWrites fThrown)), ((g 0), Sum.inl (cI, 8, Sum.inl vMany)), ((g 1), Sum.inl (cI, 512, Sum.inl vCounts)), ((g 2), Sum.inl (cI, 512, Sum.inl vNow))] H := hP
  have hD : va_D A [(o, Sum.inr (9, mO g fForm fShift fModels 0 0 0 4294967295 (-1) fPend fGoes fOuts fIns fReads fBad fIR fAsk fBAsk fCode fRL fRR fX fWrites fThrown)), ((g 0), Sum.inl (cI, 8, Sum.inl vMany)), ((g 1), Sum.inl (cI, 512, Sum.inl vCounts)), ((g 2), Sum.inl (cI, 512, Sum.inl vNow))] := hD
  refine lv_aload_n hx hb d_M_start_27 rfl (lv_at hl 0 rfl) ?_
  refine lv_iconst (v := 0) hx hb d_M_start_28 (by decide) ?_
  refine va_put (D := (dC, dI)) (ci := 9) (v := .int 0) (ty := .int) (C := "RangeCodersModel") (T := T_M) (N := 35) hx hb hg in_M t_M o_M n_M hown hK hP hD hS 0 rfl rfl 14 (by decide) (hg _ k966) (fun _ h9 => h9) rfl (by decide +kernel) rfl rfl (Nat.le_of_ble_eq_true rfl) d_M_start_29 (fun H locs hP hD hS => ?_)
  have hP : va_P (dC, dI) vwCl [(o, Sum.inr (9, mO g fForm fShift fModels 0 0 0 4294967295 (-1) 0 fGoes fOuts fIns fReads fBad fIR fAsk fBAsk fCode fRL fRR fX fWrites fThrown)), ((g 0), Sum.inl (cI, 8, Sum.inl vMany)), ((g 1), Sum.inl (cI, 512, Sum.inl vCounts)), ((g 2), Sum.inl (cI, 512, Sum.inl vNow))] H := hP
  have hD : va_D A [(o, Sum.inr (9, mO g fForm fShift fModels 0 0 0 4294967295 (-1) 0 fGoes fOuts fIns fReads fBad fIR fAsk fBAsk fCode fRL fRR fX fWrites fThrown)), ((g 0), Sum.inl (cI, 8, Sum.inl vMany)), ((g 1), Sum.inl (cI, 512, Sum.inl vCounts)), ((g 2), Sum.inl (cI, 512, Sum.inl vNow))] := hD
  refine lv_aload_n hx hb d_M_start_32 rfl (lv_at hl 0 rfl) ?_
  refine lv_iconst (v := 0) hx hb d_M_start_33 (by decide) ?_
  refine va_put (D := (dC, dI)) (ci := 9) (v := .int 0) (ty := .int) (C := "RangeCodersModel") (T := T_M) (N := 35) hx hb hg in_M t_M o_M n_M hown hK hP hD hS 0 rfl rfl 16 (by decide) (hg _ k968) (fun _ h9 => h9) rfl (by decide +kernel) rfl rfl (Nat.le_of_ble_eq_true rfl) d_M_start_34 (fun H locs hP hD hS => ?_)
  have hP : va_P (dC, dI) vwCl [(o, Sum.inr (9, mO g fForm fShift fModels 0 0 0 4294967295 (-1) 0 0 fOuts fIns fReads fBad fIR fAsk fBAsk fCode fRL fRR fX fWrites fThrown)), ((g 0), Sum.inl (cI, 8, Sum.inl vMany)), ((g 1), Sum.inl (cI, 512, Sum.inl vCounts)), ((g 2), Sum.inl (cI, 512, Sum.inl vNow))] H := hP
  have hD : va_D A [(o, Sum.inr (9, mO g fForm fShift fModels 0 0 0 4294967295 (-1) 0 0 fOuts fIns fReads fBad fIR fAsk fBAsk fCode fRL fRR fX fWrites fThrown)), ((g 0), Sum.inl (cI, 8, Sum.inl vMany)), ((g 1), Sum.inl (cI, 512, Sum.inl vCounts)), ((g 2), Sum.inl (cI, 512, Sum.inl vNow))] := hD
  refine lv_iconst (v := 0) hx hb d_M_start_37 (by decide) ?_
  refine lv_istore_n (lv' := [(1, Value.int 0), (0, Value.ref o)]) hx hb d_M_start_38 rfl hl (by decide) rfl (fun ls hl => ?_)
  have J_39 : ∀ (n9_39 : Nat) (jj : Nat) (fN : Nat → Int32) (hn9_39 : km - jj = n9_39) (hjj : jj ≤ km) (hT9 : TB fm jj N fN) (H : Heap) (locs : List Loc) (ls : Array Slot), va_P (dC, dI) vwCl [(o, Sum.inr (9, mO g fForm fShift fModels 0 0 0 4294967295 (-1) 0 0 fOuts fIns fReads fBad fIR fAsk fBAsk fCode fRL fRR fX fWrites fThrown)), ((g 0), Sum.inl (cI, 8, Sum.inl vMany)), ((g 1), Sum.inl (cI, 512, Sum.inl vCounts)), ((g 2), Sum.inl (cI, 512, Sum.inl fN))] H → va_D A [(o, Sum.inr (9, mO g fForm fShift fModels 0 0 0 4294967295 (-1) 0 0 fOuts fIns fReads fBad fIR fAsk fBAsk fCode fRL fRR fX fWrites fThrown)), ((g 0), Sum.inl (cI, 8, Sum.inl vMany)), ((g 1), Sum.inl (cI, 512, Sum.inl vCounts)), ((g 2), Sum.inl (cI, 512, Sum.inl fN))] → va_S A s.heap H locs → lv_has ls 2 [(1, Value.int (nI jj)), (0, Value.ref o)] → W p l e R s m args below meth c H locs 0 0 Q (F0 m 39 ls []) := by
    intro n9_39
    induction n9_39 using Nat.strongRecOn with
    | ind n9_39 ih9_39 =>
      intro jj fN hn9_39 hjj hT9 H locs ls hP hD hS hl
      refine lv_iload_n hx hb d_M_start_39 rfl (lv_at hl 0 rfl) ?_
      refine lv_aload_n hx hb d_M_start_40 rfl (lv_at hl 1 rfl) ?_
      refine va_get (D := (dC, dI)) (ci := 9) (v := .int fModels) (C := "RangeCodersModel") (T := T_M) (N := 35) hx hb hg in_M hown hK hP 0 rfl rfl 2 (by decide) (hg _ k954) (fun _ h9 => h9) rfl d_M_start_41 ?_
      refine lv_icmp_ge (tgt := 62) hx hb d_M_start_44 (by decide) (fun c_1 => ?_) (fun c_1 => ?_)
      · have hjk : jj = km := by
          have hk8 := hMD.1
          rw [hmod] at c_1
          have := (nI_cmp (by omega) (by omega)).mp c_1
          omega
        subst hjk
        exact my_vret hx hb hr hlocks hQ hK hS (Nat.le_refl _) (Nat.le_refl _) ((0 : Int32), (0 : Int32), (0 : Int64), (4294967295 : Int64), (-1 : Int32), (0 : Int32), (0 : Int32), fN) (⟨hT9, rfl, rfl, rfl, rfl, rfl, rfl, rfl⟩) (hP.sub [0, 1, 2, 3] rfl) (hD.sub [0, 1, 2, 3] (by decide +kernel) rfl) d_M_start_62
      · have hjl : jj < km := by
          rcases Nat.lt_or_ge jj km with z | z
          · exact z
          · exact absurd (by rw [hmod]; exact nI_le z (by have := hMD.1; omega)) c_1
        have hk8 := hMD.1
        obtain ⟨hn9, hn2, hn64, C9, hc9, hB9⟩ := hMD.2 jj hjl
        refine lv_aload_n hx hb d_M_start_47 rfl (lv_at hl 1 rfl) ?_
        refine lv_aload_n hx hb d_M_start_48 rfl (lv_at hl 1 rfl) ?_
        refine va_get (D := (dC, dI)) (ci := 9) (v := .ref (g 2)) (C := "RangeCodersModel") (T := T_M) (N := 35) hx hb hg in_M hown hK hP 0 rfl rfl 5 (by decide) (hg _ k957) (fun _ h9 => h9) rfl d_M_start_49 ?_
        refine lv_iload_n hx hb d_M_start_52 rfl (lv_at hl 0 rfl) ?_
        refine my_cv (wr := []) (va_runV (As := [Value.ref (g 2), Value.int (nI jj)]) (rest := []) ⟨hx, hb, hml, hown, hts⟩ (c_M_prepare l dC dI cI cM cO H.size o g fForm fShift fModels 0 0 0 4294967295 (-1) 0 0 fOuts fIns fReads fBad fIR fAsk fBAsk fCode fRL fRR fX fWrites fThrown vMany vCounts (g 2) fN jj (N jj) fm C9 (by omega) (hn9) (hn64) (by omega) (hfm) (hform) (hc9) (hB9)) (cwV 2 hts (my_gV k928 k930 ks19 k12 k931) rfl rfl rfl (by decide +kernel) ⟨by rw [hR]; exact Nat.le_of_ble_eq_true rfl, by rw [hR]; exact Nat.le_of_ble_eq_true rfl⟩) (my_preV hK hN (hP.sub [0, 1, 2, 3] rfl) (hD.sub [0, 1, 2, 3] (by decide +kernel) rfl) 0 rfl rfl) rfl rfl hl.1 rfl (lv_room (Nat.le_of_ble_eq_true rfl)) d_M_start_53 ⟨by rw [hR]; exact Nat.le_of_ble_eq_true rfl, by rw [hR]; exact Nat.le_of_ble_eq_true rfl⟩) hP hD hS hA [0, 1, 2, 3] [] rfl rfl (by decide +kernel) (by decide +kernel) (fun u9 H locs hw_53 hP hD hS => ?_)
        obtain ⟨f2_53, rfl⟩ : ∃ z, z = u9 := ⟨_, rfl⟩
        have hw_53 : sgI f2_53 (64 * jj) (pfN fm (N jj)) (pf fm (N jj) C9) ∧ sgO f2_53 fN (64 * jj) 64 := hw_53
        have hP : va_P (dC, dI) vwCl [(o, Sum.inr (9, mO g fForm fShift fModels 0 0 0 4294967295 (-1) 0 0 fOuts fIns fReads fBad fIR fAsk fBAsk fCode fRL fRR fX fWrites fThrown)), ((g 0), Sum.inl (cI, 8, Sum.inl vMany)), ((g 1), Sum.inl (cI, 512, Sum.inl vCounts)), ((g 2), Sum.inl (cI, 512, Sum.inl f2_53))] H := hP
        have hD : va_D A [(o, Sum.inr (9, mO g fForm fShift fModels 0 0 0 4294967295 (-1) 0 0 fOuts fIns fReads fBad fIR fAsk fBAsk fCode fRL fRR fX fWrites fThrown)), ((g 0), Sum.inl (cI, 8, Sum.inl vMany)), ((g 1), Sum.inl (cI, 512, Sum.inl vCounts)), ((g 2), Sum.inl (cI, 512, Sum.inl f2_53))] := hD
        have hT8 := TB_step hT9 (MD_N hMD) hjl hw_53.2 (tab_pf hfm hn64 (by omega) hB9 hw_53.1)
        obtain ⟨v_2, ev_2⟩ : ∃ y : Int32, y = (nI jj) + (1) := ⟨_, rfl⟩
        refine lv_iinc (v := v_2) (lv' := [(1, Value.int v_2), (0, Value.ref o)]) hx hb d_M_start_56 hl (k := 0) rfl (by rw [ev_2]; rfl) (by decide) rfl (fun ls hl => ?_)
        have z9 : v_2 = nI (jj + 1) := by rw [ev_2]; exact nI_1 _
        subst z9
        refine lv_goto (tgt := 39) hx hb d_M_start_59 (by decide) ?_
        exact ih9_39 _ (by first | omega | (omega)) (jj + 1) f2_53 rfl (by omega) (hT8) H locs ls (hP.sub [0, 1, 2, 3] rfl) (hD.sub [0, 1, 2, 3] (by decide +kernel) rfl) hS (lv_sub hl [0, 1] rfl)
  exact J_39 _ (0 : Nat) vNow rfl (Nat.zero_le _) (TB_0 _ _ _) H locs ls (hP.sub [0, 1, 2, 3] rfl) (hD.sub [0, 1, 2, 3] (by decide +kernel) rfl) hS (lv_sub hl [0, 1] rfl)
set_option maxHeartbeats 2000000 in
set_option maxRecDepth 100000 in
theorem c_M_told (l : Launch) (dC : Nat → ClassId) (dI : Nat → Nat → Nat) (cI cM cO : ClassId) (sz : Nat) (o : Nat) (g : Nat → Nat) (fForm : Int32) (fShift : Int32) (fModels : Int32) (fItems : Int32) (fEnded : Int32) (fLow : Int64) (fRange : Int64) (fCache : Int32) (fPend : Int32) (fGoes : Int32) (fOuts : Int32) (fIns : Int32) (fReads : Int32) (fBad : Int32) (fIR : Int32) (fAsk : Int32) (fBAsk : Int32) (fCode : Int64) (fRL : Int64) (fRR : Int64) (fX : Int64) (fWrites : Int32) (fThrown : Int32) (p1 : Int32) : MetI l y_M_told (Cond.code y_M_told prog_14_method_60_code 2 (some .int) :: gw) ({ frames := 0, cells := 0, slots := 0, locals := 0 } : Room) (dC, dI) vwCl (kT cI cM cO) [Value.ref o, Value.int p1] [(o, Sum.inr (9, mO g fForm fShift fModels fItems fEnded fLow fRange fCache fPend fGoes fOuts fIns fReads fBad fIR fAsk fBAsk fCode fRL fRR fX fWrites fThrown))] sz (fun (r : Int32) (u : Int32) => True) (fun (u : Int32) => [(o, Sum.inr (9, mO g fForm fShift fModels fItems fEnded fLow fRange fCache fPend fGoes fOuts fIns fReads fBad fIR fAsk fBAsk fCode fRL fRR fX fWrites u))]) 0 0 := by
  refine my_ofI (cc := prog_14_method_60_code) (n := 2) (ret := (some .int)) (by decide) rfl (Nat.le_of_ble_eq_true rfl) ?_
  intro p e s m args below meth c R Q A ls H locs hx hb hr hts hown hlocks hml hnm hR hQ hA hl hP hK hN hD hS
  have hg : ∀ w ∈ gw, w.before args s = true := fun w h => hts w (List.mem_cons_of_mem _ h)
  have hown : s.vm.findClass "RangeCodersModel" = some m.cls := hown
  have hl : lv_has ls 2 [(0, Value.ref o), (1, Value.int p1)] := hl
  refine lv_aload_n hx hb d_M_told_0 rfl (lv_at hl 0 rfl) ?_
  refine lv_iconst (v := 0) hx hb d_M_told_1 (by decide) ?_
  refine va_put (D := (dC, dI)) (ci := 9) (v := .int 0) (ty := .int) (C := "RangeCodersModel") (T := T_M) (N := 35) hx hb hg in_M t_M o_M n_M hown hK hP hD hS 0 rfl rfl 34 (by decide) (hg _ k986) (fun _ h9 => h9) rfl (by decide +kernel) rfl rfl (Nat.le_of_ble_eq_true rfl) d_M_told_2 (fun H locs hP hD hS => ?_)
  have hP : va_P (dC, dI) vwCl [(o, Sum.inr (9, mO g fForm fShift fModels fItems fEnded fLow fRange fCache fPend fGoes fOuts fIns fReads fBad fIR fAsk fBAsk fCode fRL fRR fX fWrites 0))] H := hP
  have hD : va_D A [(o, Sum.inr (9, mO g fForm fShift fModels fItems fEnded fLow fRange fCache fPend fGoes fOuts fIns fReads fBad fIR fAsk fBAsk fCode fRL fRR fX fWrites 0))] := hD
  refine lv_iload_n hx hb d_M_told_5 rfl (lv_at hl 1 rfl) ?_
  by_cases c_1 : p1 = 0
  · refine lv_tableIn (tgt := 52) hx hb d_M_told_6 (by rw [c_1]; decide) (by rw [c_1]; decide) (by rw [c_1]; rfl) (by decide) ?_
    refine lv_aload_n hx hb d_M_told_52 rfl (lv_at hl 0 rfl) ?_
    refine va_get (D := (dC, dI)) (ci := 9) (v := .int fItems) (C := "RangeCodersModel") (T := T_M) (N := 35) hx hb hg in_M hown hK hP 0 rfl rfl 7 (by decide) (hg _ k959) (fun _ h9 => h9) rfl d_M_told_53 ?_
    exact my_iret (v := fItems) hx hb hr (rfl) hlocks hQ hK hS (Nat.le_refl _) (Nat.le_refl _) ((0 : Int32)) (trivial) (hP.sub [0] rfl) (hD.sub [0] (by decide +kernel) rfl) d_M_told_56
  by_cases c_2 : p1 = 1
  · refine lv_tableIn (tgt := 57) hx hb d_M_told_6 (by rw [c_2]; decide) (by rw [c_2]; decide) (by rw [c_2]; rfl) (by decide) ?_
    refine lv_aload_n hx hb d_M_told_57 rfl (lv_at hl 0 rfl) ?_
    refine va_get (D := (dC, dI)) (ci := 9) (v := .int fEnded) (C := "RangeCodersModel") (T := T_M) (N := 35) hx hb hg in_M hown hK hP 0 rfl rfl 10 (by decide) (hg _ k962) (fun _ h9 => h9) rfl d_M_told_58 ?_
    refine lv_if_eq (tgt := 68) hx hb d_M_told_61 (by decide) (fun c_3 => ?_) (fun c_3 => ?_)
    · refine lv_iconst (v := 0) hx hb d_M_told_68 (by decide) ?_
      exact my_iret (v := 0) hx hb hr (rfl) hlocks hQ hK hS (Nat.le_refl _) (Nat.le_refl _) ((0 : Int32)) (trivial) (hP.sub [0] rfl) (hD.sub [0] (by decide +kernel) rfl) d_M_told_69
    · refine lv_iconst (v := 1) hx hb d_M_told_64 (by decide) ?_
      refine lv_goto (tgt := 69) hx hb d_M_told_65 (by decide) ?_
      exact my_iret (v := 1) hx hb hr (rfl) hlocks hQ hK hS (Nat.le_refl _) (Nat.le_refl _) ((0 : Int32)) (trivial) (hP.sub [0] rfl) (hD.sub [0] (by decide +kernel) rfl) d_M_told_69
  by_cases c_4 : p1 = 2
  · refine lv_tableIn (tgt := 70) hx hb d_M_told_6 (by rw [c_4]; decide) (by rw [c_4]; decide) (by rw [c_4]; rfl) (by decide) ?_
    refine lv_aload_n hx hb d_M_told_70 rfl (lv_at hl 0 rfl) ?_
    refine va_get (D := (dC, dI)) (ci := 9) (v := .int fOuts) (C := "RangeCodersModel") (T := T_M) (N := 35) hx hb hg in_M hown hK hP 0 rfl rfl 18 (by decide) (hg _ k970) (fun _ h9 => h9) rfl d_M_told_71 ?_
    exact my_iret (v := fOuts) hx hb hr (rfl) hlocks hQ hK hS (Nat.le_refl _) (Nat.le_refl _) ((0 : Int32)) (trivial) (hP.sub [0] rfl) (hD.sub [0] (by decide +kernel) rfl) d_M_told_74
  by_cases c_5 : p1 = 3
  · refine lv_tableIn (tgt := 75) hx hb d_M_told_6 (by rw [c_5]; decide) (by rw [c_5]; decide) (by rw [c_5]; rfl) (by decide) ?_
    refine lv_aload_n hx hb d_M_told_75 rfl (lv_at hl 0 rfl) ?_
    refine va_get (D := (dC, dI)) (ci := 9) (v := .int fIns) (C := "RangeCodersModel") (T := T_M) (N := 35) hx hb hg in_M hown hK hP 0 rfl rfl 20 (by decide) (hg _ k972) (fun _ h9 => h9) rfl d_M_told_76 ?_
    exact my_iret (v := fIns) hx hb hr (rfl) hlocks hQ hK hS (Nat.le_refl _) (Nat.le_refl _) ((0 : Int32)) (trivial) (hP.sub [0] rfl) (hD.sub [0] (by decide +kernel) rfl) d_M_told_79
  by_cases c_6 : p1 = 4
  · refine lv_tableIn (tgt := 80) hx hb d_M_told_6 (by rw [c_6]; decide) (by rw [c_6]; decide) (by rw [c_6]; rfl) (by decide) ?_
    refine lv_aload_n hx hb d_M_told_80 rfl (lv_at hl 0 rfl) ?_
    refine va_get (D := (dC, dI)) (ci := 9) (v := .int fReads) (C := "RangeCodersModel") (T := T_M) (N := 35) hx hb hg in_M hown hK hP 0 rfl rfl 21 (by decide) (hg _ k973) (fun _ h9 => h9) rfl d_M_told_81 ?_
    refine lv_if_eq (tgt := 94) hx hb d_M_told_84 (by decide) (fun c_7 => ?_) (fun c_7 => ?_)
    · refine lv_iconst (v := 0) hx hb d_M_told_94 (by decide) ?_
      exact my_iret (v := 0) hx hb hr (rfl) hlocks hQ hK hS (Nat.le_refl _) (Nat.le_refl _) ((0 : Int32)) (trivial) (hP.sub [0] rfl) (hD.sub [0] (by decide +kernel) rfl) d_M_told_95
    · refine lv_aload_n hx hb d_M_told_87 rfl (lv_at hl 0 rfl) ?_
      refine va_get (D := (dC, dI)) (ci := 9) (v := .int fIR) (C := "RangeCodersModel") (T := T_M) (N := 35) hx hb hg in_M hown hK hP 0 rfl rfl 23 (by decide) (hg _ k975) (fun _ h9 => h9) rfl d_M_told_88 ?_
      refine lv_goto (tgt := 95) hx hb d_M_told_91 (by decide) ?_
      exact my_iret (v := fIR) hx hb hr (rfl) hlocks hQ hK hS (Nat.le_refl _) (Nat.le_refl _) ((0 : Int32)) (trivial) (hP.sub [0] rfl) (hD.sub [0] (by decide +kernel) rfl) d_M_told_95
  by_cases c_8 : p1 = 5
  · refine lv_tableIn (tgt := 96) hx hb d_M_told_6 (by rw [c_8]; decide) (by rw [c_8]; decide) (by rw [c_8]; rfl) (by decide) ?_
    refine lv_aload_n hx hb d_M_told_96 rfl (lv_at hl 0 rfl) ?_
    refine va_get (D := (dC, dI)) (ci := 9) (v := .int fReads) (C := "RangeCodersModel") (T := T_M) (N := 35) hx hb hg in_M hown hK hP 0 rfl rfl 21 (by decide) (hg _ k973) (fun _ h9 => h9) rfl d_M_told_97 ?_
    refine lv_if_eq (tgt := 110) hx hb d_M_told_100 (by decide) (fun c_9 => ?_) (fun c_9 => ?_)
    · refine lv_iconst (v := 0) hx hb d_M_told_110 (by decide) ?_
      exact my_iret (v := 0) hx hb hr (rfl) hlocks hQ hK hS (Nat.le_refl _) (Nat.le_refl _) ((0 : Int32)) (trivial) (hP.sub [0] rfl) (hD.sub [0] (by decide +kernel) rfl) d_M_told_111
    · refine lv_aload_n hx hb d_M_told_103 rfl (lv_at hl 0 rfl) ?_
      refine va_get (D := (dC, dI)) (ci := 9) (v := .int fAsk) (C := "RangeCodersModel") (T := T_M) (N := 35) hx hb hg in_M hown hK hP 0 rfl rfl 24 (by decide) (hg _ k976) (fun _ h9 => h9) rfl d_M_told_104 ?_
      refine lv_goto (tgt := 111) hx hb d_M_told_107 (by decide) ?_
      exact my_iret (v := fAsk) hx hb hr (rfl) hlocks hQ hK hS (Nat.le_refl _) (Nat.le_refl _) ((0 : Int32)) (trivial) (hP.sub [0] rfl) (hD.sub [0] (by decide +kernel) rfl) d_M_told_111
  by_cases c_10 : p1 = 6
  · refine lv_tableIn (tgt := 112) hx hb d_M_told_6 (by rw [c_10]; decide) (by rw [c_10]; decide) (by rw [c_10]; rfl) (by decide) ?_
    refine lv_aload_n hx hb d_M_told_112 rfl (lv_at hl 0 rfl) ?_
    refine va_get (D := (dC, dI)) (ci := 9) (v := .int fReads) (C := "RangeCodersModel") (T := T_M) (N := 35) hx hb hg in_M hown hK hP 0 rfl rfl 21 (by decide) (hg _ k973) (fun _ h9 => h9) rfl d_M_told_113 ?_
    refine lv_if_eq (tgt := 130) hx hb d_M_told_116 (by decide) (fun c_11 => ?_) (fun c_11 => ?_)
    · refine lv_iconst (v := 0) hx hb d_M_told_130 (by decide) ?_
      exact my_iret (v := 0) hx hb hr (rfl) hlocks hQ hK hS (Nat.le_refl _) (Nat.le_refl _) ((0 : Int32)) (trivial) (hP.sub [0] rfl) (hD.sub [0] (by decide +kernel) rfl) d_M_told_131
    · refine lv_aload_n hx hb d_M_told_119 rfl (lv_at hl 0 rfl) ?_
      refine va_get (D := (dC, dI)) (ci := 9) (v := .int fBad) (C := "RangeCodersModel") (T := T_M) (N := 35) hx hb hg in_M hown hK hP 0 rfl rfl 22 (by decide) (hg _ k974) (fun _ h9 => h9) rfl d_M_told_120 ?_
      refine lv_if_eq (tgt := 130) hx hb d_M_told_123 (by decide) (fun c_12 => ?_) (fun c_12 => ?_)
      · refine lv_iconst (v := 0) hx hb d_M_told_130 (by decide) ?_
        exact my_iret (v := 0) hx hb hr (rfl) hlocks hQ hK hS (Nat.le_refl _) (Nat.le_refl _) ((0 : Int32)) (trivial) (hP.sub [0] rfl) (hD.sub [0] (by decide +kernel) rfl) d_M_told_131
      · refine lv_iconst (v := 1) hx hb d_M_told_126 (by decide) ?_
        refine lv_goto (tgt := 131) hx hb d_M_told_127 (by decide) ?_
        exact my_iret (v := 1) hx hb hr (rfl) hlocks hQ hK hS (Nat.le_refl _) (Nat.le_refl _) ((0 : Int32)) (trivial) (hP.sub [0] rfl) (hD.sub [0] (by decide +kernel) rfl) d_M_told_131
  by_cases c_13 : p1 = 7
  · refine lv_tableIn (tgt := 132) hx hb d_M_told_6 (by rw [c_13]; decide) (by rw [c_13]; decide) (by rw [c_13]; rfl) (by decide) ?_
    refine lv_aload_n hx hb d_M_told_132 rfl (lv_at hl 0 rfl) ?_
    refine va_get (D := (dC, dI)) (ci := 9) (v := .int fReads) (C := "RangeCodersModel") (T := T_M) (N := 35) hx hb hg in_M hown hK hP 0 rfl rfl 21 (by decide) (hg _ k973) (fun _ h9 => h9) rfl d_M_told_133 ?_
    refine lv_if_eq (tgt := 143) hx hb d_M_told_136 (by decide) (fun c_14 => ?_) (fun c_14 => ?_)
    · refine lv_iconst (v := 0) hx hb d_M_told_143 (by decide) ?_
      exact my_iret (v := 0) hx hb hr (rfl) hlocks hQ hK hS (Nat.le_refl _) (Nat.le_refl _) ((0 : Int32)) (trivial) (hP.sub [0] rfl) (hD.sub [0] (by decide +kernel) rfl) d_M_told_144
    · refine lv_iconst (v := 1) hx hb d_M_told_139 (by decide) ?_
      refine lv_goto (tgt := 144) hx hb d_M_told_140 (by decide) ?_
      exact my_iret (v := 1) hx hb hr (rfl) hlocks hQ hK hS (Nat.le_refl _) (Nat.le_refl _) ((0 : Int32)) (trivial) (hP.sub [0] rfl) (hD.sub [0] (by decide +kernel) rfl) d_M_told_144
  refine lv_tableOut (tgt := 145) hx hb d_M_told_6 (by have ac_1 : p1.toInt ≠ 0 := fun z => c_1 (Int32.toInt_inj.mp z); have ac_2 : p1.toInt ≠ 1 := fun z => c_2 (Int32.toInt_inj.mp z); have ac_4 : p1.toInt ≠ 2 := fun z => c_4 (Int32.toInt_inj.mp z); have ac_5 : p1.toInt ≠ 3 := fun z => c_5 (Int32.toInt_inj.mp z); have ac_6 : p1.toInt ≠ 4 := fun z => c_6 (Int32.toInt_inj.mp z); have ac_8 : p1.toInt ≠ 5 := fun z => c_8 (Int32.toInt_inj.mp z); have ac_10 : p1.toInt ≠ 6 := fun z => c_10 (Int32.toInt_inj.mp z); have ac_13 : p1.toInt ≠ 7 := fun z => c_13 (Int32.toInt_inj.mp z); omega) (by decide) ?_
  refine lv_bipush (v := (-2)) hx hb d_M_told_145 (by decide) ?_
  exact my_iret (v := (-2)) hx hb hr (rfl) hlocks hQ hK hS (Nat.le_refl _) (Nat.le_refl _) ((0 : Int32)) (trivial) (hP.sub [0] rfl) (hD.sub [0] (by decide +kernel) rfl) d_M_told_147
set_option maxHeartbeats 2000000 in
set_option maxRecDepth 100000 in
theorem c_M_state (l : Launch) (dC : Nat → ClassId) (dI : Nat → Nat → Nat) (cI cM cO : ClassId) (sz : Nat) (o : Nat) (g : Nat → Nat) (fForm : Int32) (fShift : Int32) (fModels : Int32) (fItems : Int32) (fEnded : Int32) (fLow : Int64) (fRange : Int64) (fCache : Int32) (fPend : Int32) (fGoes : Int32) (fOuts : Int32) (fIns : Int32) (fReads : Int32) (fBad : Int32) (fIR : Int32) (fAsk : Int32) (fBAsk : Int32) (fCode : Int64) (fRL : Int64) (fRR : Int64) (fX : Int64) (fWrites : Int32) (fThrown : Int32) (p1 : Int32) : MetL l y_M_state (Cond.code y_M_state prog_14_method_61_code 2 (some .long) :: gw) ({ frames := 1, cells := 0, slots := 0, locals := 22 } : Room) (dC, dI) vwCl (kT cI cM cO) [Value.ref o, Value.int p1] [(o, Sum.inr (9, mO g fForm fShift fModels fItems fEnded fLow fRange fCache fPend fGoes fOuts fIns fReads fBad fIR fAsk fBAsk fCode fRL fRR fX fWrites fThrown))] sz (fun (r : Int64) (u : Int32) => True) (fun (u : Int32) => [(o, Sum.inr (9, mO g fForm fShift fModels fItems fEnded fLow fRange fCache fPend fGoes fOuts fIns fReads fBad fIR fAsk fBAsk fCode fRL fRR fX fWrites u))]) 0 0 := by
  refine my_ofL (cc := prog_14_method_61_code) (n := 2) (ret := (some .long)) (by decide) rfl (Nat.le_of_ble_eq_true rfl) ?_
  intro p e s m args below meth c R Q A ls H locs hx hb hr hts hown hlocks hml hnm hR hQ hA hl hP hK hN hD hS
  have hg : ∀ w ∈ gw, w.before args s = true := fun w h => hts w (List.mem_cons_of_mem _ h)
  have hown : s.vm.findClass "RangeCodersModel" = some m.cls := hown
  have hl : lv_has ls 2 [(0, Value.ref o), (1, Value.int p1)] := hl
  refine lv_aload_n hx hb d_M_state_0 rfl (lv_at hl 0 rfl) ?_
  refine lv_iconst (v := 0) hx hb d_M_state_1 (by decide) ?_
  refine va_put (D := (dC, dI)) (ci := 9) (v := .int 0) (ty := .int) (C := "RangeCodersModel") (T := T_M) (N := 35) hx hb hg in_M t_M o_M n_M hown hK hP hD hS 0 rfl rfl 34 (by decide) (hg _ k986) (fun _ h9 => h9) rfl (by decide +kernel) rfl rfl (Nat.le_of_ble_eq_true rfl) d_M_state_2 (fun H locs hP hD hS => ?_)
  have hP : va_P (dC, dI) vwCl [(o, Sum.inr (9, mO g fForm fShift fModels fItems fEnded fLow fRange fCache fPend fGoes fOuts fIns fReads fBad fIR fAsk fBAsk fCode fRL fRR fX fWrites 0))] H := hP
  have hD : va_D A [(o, Sum.inr (9, mO g fForm fShift fModels fItems fEnded fLow fRange fCache fPend fGoes fOuts fIns fReads fBad fIR fAsk fBAsk fCode fRL fRR fX fWrites 0))] := hD
  refine lv_iload_n hx hb d_M_state_5 rfl (lv_at hl 1 rfl) ?_
  refine lv_iconst (v := 0) hx hb d_M_state_6 (by decide) ?_
  refine lv_iconst (v := 5) hx hb d_M_state_7 (by decide) ?_
  refine my_ci (wr := [(o, Sum.inr (9, mO g fForm fShift fModels fItems fEnded fLow fRange fCache fPend fGoes fOuts fIns fReads fBad fIR fAsk fBAsk fCode fRL fRR fX fWrites 0))]) (va_runS (As := [Value.int p1, Value.int 0, Value.int 5]) (rest := []) ⟨hx, hb, hml, hown, hts⟩ (c_M_in l dC dI cI cM cO H.size p1 0 5) (cwS 3 hts (my_gS k1062 k1063 k12 k1064) rfl rfl rfl (by decide +kernel) ⟨by rw [hR]; exact Nat.le_of_ble_eq_true rfl, by rw [hR]; exact Nat.le_of_ble_eq_true rfl⟩) (my_pre hK hN (hP.sub [] rfl) (hD.sub [] (by decide +kernel) rfl)) rfl rfl hl.1 rfl (lv_room (Nat.le_of_ble_eq_true rfl)) d_M_state_8 ⟨by rw [hR]; exact Nat.le_of_ble_eq_true rfl, by rw [hR]; exact Nat.le_of_ble_eq_true rfl⟩) hP hD hS hA [] [0] rfl rfl (by decide +kernel) (by decide +kernel) (fun r_8 u9 H locs hw_8 hP hD hS => ?_)
  have hw_8 : r_8 = if 0 ≤ p1 ∧ p1 ≤ 5 then 1 else 0 := hw_8
  have hP : va_P (dC, dI) vwCl [(o, Sum.inr (9, mO g fForm fShift fModels fItems fEnded fLow fRange fCache fPend fGoes fOuts fIns fReads fBad fIR fAsk fBAsk fCode fRL fRR fX fWrites 0))] H := hP
  have hD : va_D A [(o, Sum.inr (9, mO g fForm fShift fModels fItems fEnded fLow fRange fCache fPend fGoes fOuts fIns fReads fBad fIR fAsk fBAsk fCode fRL fRR fX fWrites 0))] := hD
  refine lv_if_ne (tgt := 18) hx hb d_M_state_11 (by decide) (fun c_1 => ?_) (fun c_1 => ?_)
  · refine lv_iload_n hx hb d_M_state_18 rfl (lv_at hl 1 rfl) ?_
    refine lv_iconst (v := 2) hx hb d_M_state_19 (by decide) ?_
    refine lv_icmp_ge (tgt := 51) hx hb d_M_state_20 (by decide) (fun c_2 => ?_) (fun c_2 => ?_)
    · refine lv_aload_n hx hb d_M_state_51 rfl (lv_at hl 0 rfl) ?_
      refine va_get (D := (dC, dI)) (ci := 9) (v := .int fReads) (C := "RangeCodersModel") (T := T_M) (N := 35) hx hb hg in_M hown hK hP 0 rfl rfl 21 (by decide) (hg _ k973) (fun _ h9 => h9) rfl d_M_state_52 ?_
      refine lv_if_ne (tgt := 60) hx hb d_M_state_55 (by decide) (fun c_3 => ?_) (fun c_3 => ?_)
      · refine lv_iload_n hx hb d_M_state_60 rfl (lv_at hl 1 rfl) ?_
        refine lv_iconst (v := 5) hx hb d_M_state_61 (by decide) ?_
        refine lv_icmp_ne (tgt := 82) hx hb d_M_state_62 (by decide) (fun c_4 => ?_) (fun c_4 => ?_)
        · refine lv_aload_n hx hb d_M_state_82 rfl (lv_at hl 0 rfl) ?_
          refine va_get (D := (dC, dI)) (ci := 9) (v := .int fForm) (C := "RangeCodersModel") (T := T_M) (N := 35) hx hb hg in_M hown hK hP 0 rfl rfl 0 (by decide) (hg _ k952) (fun _ h9 => h9) rfl d_M_state_83 ?_
          refine lv_iconst (v := 2) hx hb d_M_state_86 (by decide) ?_
          refine lv_icmp_le (tgt := 92) hx hb d_M_state_87 (by decide) (fun c_5 => ?_) (fun c_5 => ?_)
          · refine lv_iload_n hx hb d_M_state_92 rfl (lv_at hl 1 rfl) ?_
            refine lv_iconst (v := 2) hx hb d_M_state_93 (by decide) ?_
            refine lv_icmp_ne (tgt := 104) hx hb d_M_state_94 (by decide) (fun c_6 => ?_) (fun c_6 => ?_)
            · refine lv_iload_n hx hb d_M_state_104 rfl (lv_at hl 1 rfl) ?_
              refine lv_iconst (v := 3) hx hb d_M_state_105 (by decide) ?_
              refine lv_icmp_ne (tgt := 128) hx hb d_M_state_106 (by decide) (fun c_7 => ?_) (fun c_7 => ?_)
              · refine lv_aload_n hx hb d_M_state_128 rfl (lv_at hl 0 rfl) ?_
                refine va_get (D := (dC, dI)) (ci := 9) (v := .long fRR) (C := "RangeCodersModel") (T := T_M) (N := 35) hx hb hg in_M hown hK hP 0 rfl rfl 28 (by decide) (hg _ k980) (fun _ h9 => h9) rfl d_M_state_129 ?_
                exact my_lret (v := fRR) hx hb hr hlocks hQ hK hS (Nat.le_refl _) (Nat.le_refl _) ((0 : Int32)) (trivial) (hP.sub [0] rfl) (hD.sub [0] (by decide +kernel) rfl) d_M_state_132
              · refine lv_aload_n hx hb d_M_state_109 rfl (lv_at hl 0 rfl) ?_
                refine va_get (D := (dC, dI)) (ci := 9) (v := .int fForm) (C := "RangeCodersModel") (T := T_M) (N := 35) hx hb hg in_M hown hK hP 0 rfl rfl 0 (by decide) (hg _ k952) (fun _ h9 => h9) rfl d_M_state_110 ?_
                refine lv_iconst (v := 1) hx hb d_M_state_113 (by decide) ?_
                refine lv_icmp_ne (tgt := 124) hx hb d_M_state_114 (by decide) (fun c_8 => ?_) (fun c_8 => ?_)
                · refine lv_lconst (v := 0) hx hb d_M_state_124 (by decide) ?_
                  refine lv_goto (tgt := 132) hx hb d_M_state_125 (by decide) ?_
                  exact my_lret (v := 0) hx hb hr hlocks hQ hK hS (Nat.le_refl _) (Nat.le_refl _) ((0 : Int32)) (trivial) (hP.sub [0] rfl) (hD.sub [0] (by decide +kernel) rfl) d_M_state_132
                · refine lv_aload_n hx hb d_M_state_117 rfl (lv_at hl 0 rfl) ?_
                  refine va_get (D := (dC, dI)) (ci := 9) (v := .long fRL) (C := "RangeCodersModel") (T := T_M) (N := 35) hx hb hg in_M hown hK hP 0 rfl rfl 27 (by decide) (hg _ k979) (fun _ h9 => h9) rfl d_M_state_118 ?_
                  refine lv_goto (tgt := 132) hx hb d_M_state_121 (by decide) ?_
                  exact my_lret (v := fRL) hx hb hr hlocks hQ hK hS (Nat.le_refl _) (Nat.le_refl _) ((0 : Int32)) (trivial) (hP.sub [0] rfl) (hD.sub [0] (by decide +kernel) rfl) d_M_state_132
            · refine lv_aload_n hx hb d_M_state_97 rfl (lv_at hl 0 rfl) ?_
              refine va_get (D := (dC, dI)) (ci := 9) (v := .long fCode) (C := "RangeCodersModel") (T := T_M) (N := 35) hx hb hg in_M hown hK hP 0 rfl rfl 26 (by decide) (hg _ k978) (fun _ h9 => h9) rfl d_M_state_98 ?_
              refine lv_goto (tgt := 132) hx hb d_M_state_101 (by decide) ?_
              exact my_lret (v := fCode) hx hb hr hlocks hQ hK hS (Nat.le_refl _) (Nat.le_refl _) ((0 : Int32)) (trivial) (hP.sub [0] rfl) (hD.sub [0] (by decide +kernel) rfl) d_M_state_132
          · refine lv_lconst (v := 0) hx hb d_M_state_90 (by decide) ?_
            exact my_lret (v := 0) hx hb hr hlocks hQ hK hS (Nat.le_refl _) (Nat.le_refl _) ((0 : Int32)) (trivial) (hP.sub [0] rfl) (hD.sub [0] (by decide +kernel) rfl) d_M_state_91
        · refine lv_aload_n hx hb d_M_state_65 rfl (lv_at hl 0 rfl) ?_
          refine va_get (D := (dC, dI)) (ci := 9) (v := .int fForm) (C := "RangeCodersModel") (T := T_M) (N := 35) hx hb hg in_M hown hK hP 0 rfl rfl 0 (by decide) (hg _ k952) (fun _ h9 => h9) rfl d_M_state_66 ?_
          refine lv_iconst (v := 2) hx hb d_M_state_69 (by decide) ?_
          refine lv_icmp_le (tgt := 80) hx hb d_M_state_70 (by decide) (fun c_9 => ?_) (fun c_9 => ?_)
          · refine lv_lconst (v := 0) hx hb d_M_state_80 (by decide) ?_
            exact my_lret (v := 0) hx hb hr hlocks hQ hK hS (Nat.le_refl _) (Nat.le_refl _) ((0 : Int32)) (trivial) (hP.sub [0] rfl) (hD.sub [0] (by decide +kernel) rfl) d_M_state_81
          · refine lv_aload_n hx hb d_M_state_73 rfl (lv_at hl 0 rfl) ?_
            refine va_get (D := (dC, dI)) (ci := 9) (v := .long fX) (C := "RangeCodersModel") (T := T_M) (N := 35) hx hb hg in_M hown hK hP 0 rfl rfl 29 (by decide) (hg _ k981) (fun _ h9 => h9) rfl d_M_state_74 ?_
            refine lv_goto (tgt := 81) hx hb d_M_state_77 (by decide) ?_
            exact my_lret (v := fX) hx hb hr hlocks hQ hK hS (Nat.le_refl _) (Nat.le_refl _) ((0 : Int32)) (trivial) (hP.sub [0] rfl) (hD.sub [0] (by decide +kernel) rfl) d_M_state_81
      · refine lv_lconst (v := 0) hx hb d_M_state_58 (by decide) ?_
        exact my_lret (v := 0) hx hb hr hlocks hQ hK hS (Nat.le_refl _) (Nat.le_refl _) ((0 : Int32)) (trivial) (hP.sub [0] rfl) (hD.sub [0] (by decide +kernel) rfl) d_M_state_59
    · refine lv_aload_n hx hb d_M_state_23 rfl (lv_at hl 0 rfl) ?_
      refine va_get (D := (dC, dI)) (ci := 9) (v := .int fForm) (C := "RangeCodersModel") (T := T_M) (N := 35) hx hb hg in_M hown hK hP 0 rfl rfl 0 (by decide) (hg _ k952) (fun _ h9 => h9) rfl d_M_state_24 ?_
      refine lv_iconst (v := 2) hx hb d_M_state_27 (by decide) ?_
      refine lv_icmp_le (tgt := 35) hx hb d_M_state_28 (by decide) (fun c_10 => ?_) (fun c_10 => ?_)
      · refine lv_iload_n hx hb d_M_state_35 rfl (lv_at hl 1 rfl) ?_
        refine lv_if_ne (tgt := 46) hx hb d_M_state_36 (by decide) (fun c_11 => ?_) (fun c_11 => ?_)
        · refine lv_aload_n hx hb d_M_state_46 rfl (lv_at hl 0 rfl) ?_
          refine va_get (D := (dC, dI)) (ci := 9) (v := .long fRange) (C := "RangeCodersModel") (T := T_M) (N := 35) hx hb hg in_M hown hK hP 0 rfl rfl 12 (by decide) (hg _ k964) (fun _ h9 => h9) rfl d_M_state_47 ?_
          exact my_lret (v := fRange) hx hb hr hlocks hQ hK hS (Nat.le_refl _) (Nat.le_refl _) ((0 : Int32)) (trivial) (hP.sub [0] rfl) (hD.sub [0] (by decide +kernel) rfl) d_M_state_50
        · refine lv_aload_n hx hb d_M_state_39 rfl (lv_at hl 0 rfl) ?_
          refine va_get (D := (dC, dI)) (ci := 9) (v := .long fLow) (C := "RangeCodersModel") (T := T_M) (N := 35) hx hb hg in_M hown hK hP 0 rfl rfl 11 (by decide) (hg _ k963) (fun _ h9 => h9) rfl d_M_state_40 ?_
          refine lv_goto (tgt := 50) hx hb d_M_state_43 (by decide) ?_
          exact my_lret (v := fLow) hx hb hr hlocks hQ hK hS (Nat.le_refl _) (Nat.le_refl _) ((0 : Int32)) (trivial) (hP.sub [0] rfl) (hD.sub [0] (by decide +kernel) rfl) d_M_state_50
      · refine lv_lconst (v := 0) hx hb d_M_state_31 (by decide) ?_
        refine lv_goto (tgt := 50) hx hb d_M_state_32 (by decide) ?_
        exact my_lret (v := 0) hx hb hr hlocks hQ hK hS (Nat.le_refl _) (Nat.le_refl _) ((0 : Int32)) (trivial) (hP.sub [0] rfl) (hD.sub [0] (by decide +kernel) rfl) d_M_state_50
  · refine lv_ldc2 (v := (-2)) hx hb hown (hg _ k1276) d_M_state_14 ?_
    exact my_lret (v := (-2)) hx hb hr hlocks hQ hK hS (Nat.le_refl _) (Nat.le_refl _) ((0 : Int32)) (trivial) (hP.sub [0] rfl) (hD.sub [0] (by decide +kernel) rfl) d_M_state_17
