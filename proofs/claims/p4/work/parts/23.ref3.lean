set_option maxHeartbeats 1000000 in
set_option maxRecDepth 100000 in
/-- scale -/
theorem c_M_scale (l : Launch) (dC : Nat → ClassId) (dI : Nat → Nat → Nat) (cI cM cO : ClassId) (sz : Nat) (o : Nat) (g : Nat → Nat) (fForm : Int32) (fShift : Int32) (fModels : Int32) (fItems : Int32) (fEnded : Int32) (fLow : Int64) (fRange : Int64) (fCache : Int32) (fPend : Int32) (fGoes : Int32) (fOuts : Int32) (fIns : Int32) (fReads : Int32) (fBad : Int32) (fIR : Int32) (fAsk : Int32) (fBAsk : Int32) (fCode : Int64) (fRL : Int64) (fRR : Int64) (fX : Int64) (fWrites : Int32) (fThrown : Int32) (vMany : Nat → Int32) (a : Nat) (f : Nat → Int32) (mm : Nat) (n : Nat) (M : Nat) (F : Nat → Nat) (hmm : mm < 8) (hn : vMany mm = nI n) (hn2 : n ≤ 64) (hn1 : 0 < n) (hM : 1 ≤ M) (hM2 : M ≤ 4096) (hf : sgI f (64 * mm) n F) (hB : bd F n 4095) : MetV l y_M_scale (Cond.code y_M_scale prog_14_method_12_code 8 none :: gw) ({ frames := 1, cells := 0, slots := 0, locals := 24 } : Room) (dC, dI) vwCl (kT cI cM cO) [Value.ref o, Value.ref a, Value.int (nI mm), Value.int (nI M)] [(o, Sum.inr (9, mO g fForm fShift fModels fItems fEnded fLow fRange fCache fPend fGoes fOuts fIns fReads fBad fIR fAsk fBAsk fCode fRL fRR fX fWrites fThrown)), ((g 0), Sum.inl (cI, 8, Sum.inl vMany)), (a, Sum.inl (cI, 512, Sum.inl f))] sz (fun (u : (Nat → Int32)) => sgI u (64 * mm) n (sc n M F) ∧ sgO u f (64 * mm) n) (fun (u : (Nat → Int32)) => [(o, Sum.inr (9, mO g fForm fShift fModels fItems fEnded fLow fRange fCache fPend fGoes fOuts fIns fReads fBad fIR fAsk fBAsk fCode fRL fRR fX fWrites fThrown)), ((g 0), Sum.inl (cI, 8, Sum.inl vMany)), (a, Sum.inl (cI, 512, Sum.inl u))]) 0 0 := by
  refine my_ofV (cc := prog_14_method_12_code) (n := 8) (ret := none) (by decide) rfl (Nat.le_of_ble_eq_true rfl) ?_
  intro p e s m args below meth c R Q A ls H locs hx hb hr hts hown hlocks hml hnm hR hQ hA hl hP hK hN hD hS
  have hg : ∀ w ∈ gw, w.before args s = true := fun w h => hts w (List.mem_cons_of_mem _ h)
  have hown : s.vm.findClass "RangeCodersModel" = some m.cls := hown
  have hl : lv_has ls 8 [(0, Value.ref o), (1, Value.ref a), (2, Value.int (nI mm)), (3, Value.int (nI M))] := hl
  have hs9 := ns_le64 hn2 hB
  refine lv_aload_n hx hb d_M_scale_0 rfl (lv_at hl 0 rfl) ?_
  refine lv_aload_n hx hb d_M_scale_1 rfl (lv_at hl 1 rfl) ?_
  refine lv_iload_n hx hb d_M_scale_2 rfl (lv_at hl 2 rfl) ?_
  refine my_ci (wr := []) (va_runV (As := [Value.ref a, Value.int (nI mm)]) (rest := []) ⟨hx, hb, hml, hown, hts⟩ (c_M_sum l dC dI cI cM cO H.size o g fForm fShift fModels fItems fEnded fLow fRange fCache fPend fGoes fOuts fIns fReads fBad fIR fAsk fBAsk fCode fRL fRR fX fWrites fThrown vMany a f mm n F (by assumption) (by assumption) (by assumption) (by assumption)) (cwV 2 hts (my_gV k936 k938 ks21 k12 k939) rfl rfl rfl (by decide +kernel) ⟨by rw [hR]; exact Nat.le_of_ble_eq_true rfl, by rw [hR]; exact Nat.le_of_ble_eq_true rfl⟩) (my_preV hK hN (hP.sub [0, 1, 2] rfl) (hD.sub [0, 1, 2] (by decide +kernel) rfl) 0 rfl rfl) rfl rfl hl.1 rfl (lv_room (Nat.le_of_ble_eq_true rfl)) d_M_scale_3 ⟨by rw [hR]; exact Nat.le_of_ble_eq_true rfl, by rw [hR]; exact Nat.le_of_ble_eq_true rfl⟩) hP hD hS hA [0, 1, 2] [] rfl rfl (by decide +kernel) (by decide +kernel) (fun r_3 u9 H locs hw_3 hP hD hS => ?_)
  have hw_3 : r_3 = nI (ns F n) := hw_3
  have hP : va_P (dC, dI) vwCl [(o, Sum.inr (9, mO g fForm fShift fModels fItems fEnded fLow fRange fCache fPend fGoes fOuts fIns fReads fBad fIR fAsk fBAsk fCode fRL fRR fX fWrites fThrown)), ((g 0), Sum.inl (cI, 8, Sum.inl vMany)), (a, Sum.inl (cI, 512, Sum.inl f))] H := hP
  have hD : va_D A [(o, Sum.inr (9, mO g fForm fShift fModels fItems fEnded fLow fRange fCache fPend fGoes fOuts fIns fReads fBad fIR fAsk fBAsk fCode fRL fRR fX fWrites fThrown)), ((g 0), Sum.inl (cI, 8, Sum.inl vMany)), (a, Sum.inl (cI, 512, Sum.inl f))] := hD
  refine lv_istore (lv' := [(4, Value.int r_3), (0, Value.ref o), (1, Value.ref a), (2, Value.int (nI mm)), (3, Value.int (nI M))]) hx hb d_M_scale_6 hl (by decide) rfl (fun ls hl => ?_)
  refine lv_iload hx hb d_M_scale_8 (lv_at hl 0 rfl) ?_
  refine lv_if_ne (tgt := 14) hx hb d_M_scale_10 (by decide) (fun c_1 => ?_) (fun c_1 => ?_)
  · have hpos : 0 < ns F n := by
      rcases Nat.eq_zero_or_pos (ns F n) with q | q
      · exact absurd (by rw [hw_3, q]; rfl) c_1
      · exact q
    refine lv_iconst (v := 0) hx hb d_M_scale_14 (by decide) ?_
    refine lv_istore (lv' := [(5, Value.int 0), (4, Value.int r_3), (0, Value.ref o), (1, Value.ref a), (2, Value.int (nI mm)), (3, Value.int (nI M))]) hx hb d_M_scale_15 hl (by decide) rfl (fun ls hl => ?_)
    have J_17 : ∀ (n9_17 : Nat) (fL : Nat → Int32) (i9 : Int32) (j : Nat) (hn9_17 : n - j = n9_17) (hL : sgL fL f (64 * mm) n j (scG n M F) F) (hi : i9 = nI j) (hj : j ≤ n) (H : Heap) (locs : List Loc) (ls : Array Slot), va_P (dC, dI) vwCl [(o, Sum.inr (9, mO g fForm fShift fModels fItems fEnded fLow fRange fCache fPend fGoes fOuts fIns fReads fBad fIR fAsk fBAsk fCode fRL fRR fX fWrites fThrown)), ((g 0), Sum.inl (cI, 8, Sum.inl vMany)), (a, Sum.inl (cI, 512, Sum.inl fL))] H → va_D A [(o, Sum.inr (9, mO g fForm fShift fModels fItems fEnded fLow fRange fCache fPend fGoes fOuts fIns fReads fBad fIR fAsk fBAsk fCode fRL fRR fX fWrites fThrown)), ((g 0), Sum.inl (cI, 8, Sum.inl vMany)), (a, Sum.inl (cI, 512, Sum.inl fL))] → va_S A s.heap H locs → lv_has ls 8 [(5, Value.int i9), (4, Value.int r_3), (0, Value.ref o), (1, Value.ref a), (2, Value.int (nI mm)), (3, Value.int (nI M))] → W p l e R s m args below meth c H locs 0 0 Q (F0 m 17 ls []) := by
      intro n9_17
      induction n9_17 using Nat.strongRecOn with
      | ind n9_17 ih9_17 =>
        intro fL i9 j hn9_17 hL hi hj H locs ls hP hD hS hl
        refine lv_iload hx hb d_M_scale_17 (lv_at hl 0 rfl) ?_
        refine lv_aload_n hx hb d_M_scale_19 rfl (lv_at hl 2 rfl) ?_
        refine va_get (D := (dC, dI)) (ci := 9) (v := .ref (g 0)) (C := "RangeCodersModel") (T := T_M) (N := 35) hx hb hg in_M hown hK hP 0 rfl rfl 3 (by decide) (hg _ k955) (fun _ h9 => h9) rfl d_M_scale_20 ?_
        refine lv_iload_n hx hb d_M_scale_23 rfl (lv_at hl 4 rfl) ?_
        refine va_iald hx hb hK hP 1 0 rfl rfl (vp_in_nI hmm (by decide)) d_M_scale_24 ?_
        refine lv_topi (fun v_2 ev_2 => ?_)
        have hv9 : v_2 = nI n := by subst_vars; rw [nI_clamp (by omega)]; exact hn
        refine lv_icmp_ge (tgt := 84) hx hb d_M_scale_25 (by decide) (fun c_3 => ?_) (fun c_3 => ?_)
        · have J_84 : ∀ (n9_84 : Nat) (fK : Nat → Int32) (G9 : Nat → Nat) (hn9_84 : ns G9 n - M = n9_84) (hI2 : sgI fK (64 * mm) n G9) (hO2 : sgO fK f (64 * mm) n) (hE2 : dec n (ns (scG n M F) n - M) (scG n M F) = dec n (ns G9 n - M) G9) (hB2 : bd G9 n 4096) (H : Heap) (locs : List Loc) (ls : Array Slot), va_P (dC, dI) vwCl [(o, Sum.inr (9, mO g fForm fShift fModels fItems fEnded fLow fRange fCache fPend fGoes fOuts fIns fReads fBad fIR fAsk fBAsk fCode fRL fRR fX fWrites fThrown)), ((g 0), Sum.inl (cI, 8, Sum.inl vMany)), (a, Sum.inl (cI, 512, Sum.inl fK))] H → va_D A [(o, Sum.inr (9, mO g fForm fShift fModels fItems fEnded fLow fRange fCache fPend fGoes fOuts fIns fReads fBad fIR fAsk fBAsk fCode fRL fRR fX fWrites fThrown)), ((g 0), Sum.inl (cI, 8, Sum.inl vMany)), (a, Sum.inl (cI, 512, Sum.inl fK))] → va_S A s.heap H locs → lv_has ls 8 [(4, Value.int r_3), (0, Value.ref o), (1, Value.ref a), (2, Value.int (nI mm)), (3, Value.int (nI M))] → W p l e R s m args below meth c H locs 0 0 Q (F0 m 84 ls []) := by
            intro n9_84
            induction n9_84 using Nat.strongRecOn with
            | ind n9_84 ih9_84 =>
              intro fK G9 hn9_84 hI2 hO2 hE2 hB2 H locs ls hP hD hS hl
              have hs8 := ns_le64 hn2 hB2
              have hB3 : bd G9 n 1000000 := fun k hk => Nat.le_trans (hB2 k hk) (by decide)
              have hg9 := gr_lt G9 hn1
              have hbg := hB2 _ hg9
              refine lv_aload_n hx hb d_M_scale_84 rfl (lv_at hl 1 rfl) ?_
              refine lv_aload_n hx hb d_M_scale_85 rfl (lv_at hl 2 rfl) ?_
              refine lv_iload_n hx hb d_M_scale_86 rfl (lv_at hl 3 rfl) ?_
              refine my_ci (wr := []) (va_runV (As := [Value.ref a, Value.int (nI mm)]) (rest := []) ⟨hx, hb, hml, hown, hts⟩ (c_M_sum l dC dI cI cM cO H.size o g fForm fShift fModels fItems fEnded fLow fRange fCache fPend fGoes fOuts fIns fReads fBad fIR fAsk fBAsk fCode fRL fRR fX fWrites fThrown vMany a fK mm n G9 (by assumption) (by assumption) (by assumption) (hI2)) (cwV 2 hts (my_gV k936 k938 ks21 k12 k939) rfl rfl rfl (by decide +kernel) ⟨by rw [hR]; exact Nat.le_of_ble_eq_true rfl, by rw [hR]; exact Nat.le_of_ble_eq_true rfl⟩) (my_preV hK hN (hP.sub [0, 1, 2] rfl) (hD.sub [0, 1, 2] (by decide +kernel) rfl) 0 rfl rfl) rfl rfl hl.1 rfl (lv_room (Nat.le_of_ble_eq_true rfl)) d_M_scale_87 ⟨by rw [hR]; exact Nat.le_of_ble_eq_true rfl, by rw [hR]; exact Nat.le_of_ble_eq_true rfl⟩) hP hD hS hA [0, 1, 2] [] rfl rfl (by decide +kernel) (by decide +kernel) (fun r_87 u9 H locs hw_87 hP hD hS => ?_)
              have hw_87 : r_87 = nI (ns G9 n) := hw_87
              have hP : va_P (dC, dI) vwCl [(o, Sum.inr (9, mO g fForm fShift fModels fItems fEnded fLow fRange fCache fPend fGoes fOuts fIns fReads fBad fIR fAsk fBAsk fCode fRL fRR fX fWrites fThrown)), ((g 0), Sum.inl (cI, 8, Sum.inl vMany)), (a, Sum.inl (cI, 512, Sum.inl fK))] H := hP
              have hD : va_D A [(o, Sum.inr (9, mO g fForm fShift fModels fItems fEnded fLow fRange fCache fPend fGoes fOuts fIns fReads fBad fIR fAsk fBAsk fCode fRL fRR fX fWrites fThrown)), ((g 0), Sum.inl (cI, 8, Sum.inl vMany)), (a, Sum.inl (cI, 512, Sum.inl fK))] := hD
              refine lv_iload_n hx hb d_M_scale_90 rfl (lv_at hl 4 rfl) ?_
              refine lv_icmp_le (tgt := 115) hx hb d_M_scale_91 (by decide) (fun c_4 => ?_) (fun c_4 => ?_)
              · have hle : ns G9 n ≤ M := by
                  rw [hw_87] at c_4
                  exact (nI_cmp (by omega) (by omega)).mp c_4
                refine lv_iload_n hx hb d_M_scale_115 rfl (lv_at hl 4 rfl) ?_
                refine lv_aload_n hx hb d_M_scale_116 rfl (lv_at hl 1 rfl) ?_
                refine lv_aload_n hx hb d_M_scale_117 rfl (lv_at hl 2 rfl) ?_
                refine lv_iload_n hx hb d_M_scale_118 rfl (lv_at hl 3 rfl) ?_
                refine my_ci (wr := []) (va_runV (As := [Value.ref a, Value.int (nI mm)]) (rest := [Value.int (nI M)]) ⟨hx, hb, hml, hown, hts⟩ (c_M_sum l dC dI cI cM cO H.size o g fForm fShift fModels fItems fEnded fLow fRange fCache fPend fGoes fOuts fIns fReads fBad fIR fAsk fBAsk fCode fRL fRR fX fWrites fThrown vMany a fK mm n G9 (by assumption) (by assumption) (by assumption) (hI2)) (cwV 2 hts (my_gV k936 k938 ks21 k12 k939) rfl rfl rfl (by decide +kernel) ⟨by rw [hR]; exact Nat.le_of_ble_eq_true rfl, by rw [hR]; exact Nat.le_of_ble_eq_true rfl⟩) (my_preV hK hN (hP.sub [0, 1, 2] rfl) (hD.sub [0, 1, 2] (by decide +kernel) rfl) 0 rfl rfl) rfl rfl hl.1 rfl (lv_room (Nat.le_of_ble_eq_true rfl)) d_M_scale_119 ⟨by rw [hR]; exact Nat.le_of_ble_eq_true rfl, by rw [hR]; exact Nat.le_of_ble_eq_true rfl⟩) hP hD hS hA [0, 1, 2] [] rfl rfl (by decide +kernel) (by decide +kernel) (fun r_119 u9 H locs hw_119 hP hD hS => ?_)
                have hw_119 : r_119 = nI (ns G9 n) := hw_119
                have hP : va_P (dC, dI) vwCl [(o, Sum.inr (9, mO g fForm fShift fModels fItems fEnded fLow fRange fCache fPend fGoes fOuts fIns fReads fBad fIR fAsk fBAsk fCode fRL fRR fX fWrites fThrown)), ((g 0), Sum.inl (cI, 8, Sum.inl vMany)), (a, Sum.inl (cI, 512, Sum.inl fK))] H := hP
                have hD : va_D A [(o, Sum.inr (9, mO g fForm fShift fModels fItems fEnded fLow fRange fCache fPend fGoes fOuts fIns fReads fBad fIR fAsk fBAsk fCode fRL fRR fX fWrites fThrown)), ((g 0), Sum.inl (cI, 8, Sum.inl vMany)), (a, Sum.inl (cI, 512, Sum.inl fK))] := hD
                refine lv_isub hx hb d_M_scale_122 ?_
                refine lv_topi (fun v_5 ev_5 => ?_)
                refine lv_istore (lv' := [(5, Value.int v_5), (4, Value.int r_3), (0, Value.ref o), (1, Value.ref a), (2, Value.int (nI mm)), (3, Value.int (nI M))]) hx hb d_M_scale_123 hl (by decide) rfl (fun ls hl => ?_)
                refine lv_aload_n hx hb d_M_scale_125 rfl (lv_at hl 2 rfl) ?_
                refine lv_aload_n hx hb d_M_scale_126 rfl (lv_at hl 3 rfl) ?_
                refine lv_iload_n hx hb d_M_scale_127 rfl (lv_at hl 4 rfl) ?_
                refine my_ci (wr := []) (va_runV (As := [Value.ref a, Value.int (nI mm)]) (rest := []) ⟨hx, hb, hml, hown, hts⟩ (c_M_greatest l dC dI cI cM cO H.size o g fForm fShift fModels fItems fEnded fLow fRange fCache fPend fGoes fOuts fIns fReads fBad fIR fAsk fBAsk fCode fRL fRR fX fWrites fThrown vMany a fK mm n G9 (by assumption) (by assumption) (by assumption) (by assumption) (hI2) (hB3)) (cwV 2 hts (my_gV k948 k950 ks24 k12 k951) rfl rfl rfl (by decide +kernel) ⟨by rw [hR]; exact Nat.le_of_ble_eq_true rfl, by rw [hR]; exact Nat.le_of_ble_eq_true rfl⟩) (my_preV hK hN (hP.sub [0, 1, 2] rfl) (hD.sub [0, 1, 2] (by decide +kernel) rfl) 0 rfl rfl) rfl rfl hl.1 rfl (lv_room (Nat.le_of_ble_eq_true rfl)) d_M_scale_128 ⟨by rw [hR]; exact Nat.le_of_ble_eq_true rfl, by rw [hR]; exact Nat.le_of_ble_eq_true rfl⟩) hP hD hS hA [0, 1, 2] [] rfl rfl (by decide +kernel) (by decide +kernel) (fun r_128 u9 H locs hw_128 hP hD hS => ?_)
                have hw_128 : r_128 = nI (64 * mm + gr G9 n) := hw_128
                have hP : va_P (dC, dI) vwCl [(o, Sum.inr (9, mO g fForm fShift fModels fItems fEnded fLow fRange fCache fPend fGoes fOuts fIns fReads fBad fIR fAsk fBAsk fCode fRL fRR fX fWrites fThrown)), ((g 0), Sum.inl (cI, 8, Sum.inl vMany)), (a, Sum.inl (cI, 512, Sum.inl fK))] H := hP
                have hD : va_D A [(o, Sum.inr (9, mO g fForm fShift fModels fItems fEnded fLow fRange fCache fPend fGoes fOuts fIns fReads fBad fIR fAsk fBAsk fCode fRL fRR fX fWrites fThrown)), ((g 0), Sum.inl (cI, 8, Sum.inl vMany)), (a, Sum.inl (cI, 512, Sum.inl fK))] := hD
                refine lv_istore (lv' := [(6, Value.int r_128), (5, Value.int v_5), (4, Value.int r_3), (0, Value.ref o), (1, Value.ref a), (2, Value.int (nI mm)), (3, Value.int (nI M))]) hx hb d_M_scale_131 hl (by decide) rfl (fun ls hl => ?_)
                refine lv_aload_n hx hb d_M_scale_133 rfl (lv_at hl 4 rfl) ?_
                refine lv_iload hx hb d_M_scale_134 (lv_at hl 0 rfl) ?_
                refine lv_aload_n hx hb d_M_scale_136 rfl (lv_at hl 4 rfl) ?_
                refine lv_iload hx hb d_M_scale_137 (lv_at hl 0 rfl) ?_
                refine va_iald hx hb hK hP 2 0 rfl rfl (by rw [hw_128]; exact vp_in_nI (by omega) (by decide)) d_M_scale_139 ?_
                refine lv_topi (fun v_6 ev_6 => ?_)
                refine lv_iload hx hb d_M_scale_140 (lv_at hl 1 rfl) ?_
                refine lv_iadd hx hb d_M_scale_142 ?_
                refine lv_topi (fun v_7 ev_7 => ?_)
                have hval : v_7 = nI (G9 (gr G9 n) + (M - ns G9 n)) := by
                  subst_vars
                  rw [nI_clamp (by omega), hI2 _ hg9, pk_sub hle, nI_add]
                refine va_iast hx hb hK hP hD hS 2 0 rfl rfl (by rw [hw_128]; exact vp_in_nI (by omega) (by decide)) d_M_scale_143 (fun H locs hP hD hS => ?_)
                have hP : va_P (dC, dI) vwCl [(o, Sum.inr (9, mO g fForm fShift fModels fItems fEnded fLow fRange fCache fPend fGoes fOuts fIns fReads fBad fIR fAsk fBAsk fCode fRL fRR fX fWrites fThrown)), ((g 0), Sum.inl (cI, 8, Sum.inl vMany)), (a, Sum.inl (cI, 512, Sum.inl (upd fK r_128.toNatClampNeg v_7)))] H := hP
                have hD : va_D A [(o, Sum.inr (9, mO g fForm fShift fModels fItems fEnded fLow fRange fCache fPend fGoes fOuts fIns fReads fBad fIR fAsk fBAsk fCode fRL fRR fX fWrites fThrown)), ((g 0), Sum.inl (cI, 8, Sum.inl vMany)), (a, Sum.inl (cI, 512, Sum.inl (upd fK r_128.toNatClampNeg v_7)))] := hD
                have hU := sg_up hI2 hg9 (show r_128.toNatClampNeg = 64 * mm + gr G9 n by rw [hw_128]; exact nI_clamp (by omega)) hval
                exact my_vret hx hb hr hlocks hQ hK hS (Nat.le_refl _) (Nat.le_refl _) (upd fK r_128.toNatClampNeg v_7) (by unfold sc scE; rw [if_neg (by omega), hE2, dec_0 hle]; exact ⟨hU.1, sgO_tr hU.2 hO2⟩) (hP.sub [0, 1, 2] rfl) (hD.sub [0, 1, 2] (by decide +kernel) rfl) d_M_scale_144
              · have hgt : M < ns G9 n := by
                  rcases Nat.lt_or_ge M (ns G9 n) with q | q
                  · exact q
                  · exact absurd (by rw [hw_87]; exact nI_le q (by omega)) c_4
                have hp9 := gr_pos (F := G9) (n := n) (by omega)
                refine lv_aload_n hx hb d_M_scale_94 rfl (lv_at hl 1 rfl) ?_
                refine lv_aload_n hx hb d_M_scale_95 rfl (lv_at hl 2 rfl) ?_
                refine lv_iload_n hx hb d_M_scale_96 rfl (lv_at hl 3 rfl) ?_
                refine my_ci (wr := []) (va_runV (As := [Value.ref a, Value.int (nI mm)]) (rest := []) ⟨hx, hb, hml, hown, hts⟩ (c_M_greatest l dC dI cI cM cO H.size o g fForm fShift fModels fItems fEnded fLow fRange fCache fPend fGoes fOuts fIns fReads fBad fIR fAsk fBAsk fCode fRL fRR fX fWrites fThrown vMany a fK mm n G9 (by assumption) (by assumption) (by assumption) (by assumption) (hI2) (hB3)) (cwV 2 hts (my_gV k948 k950 ks24 k12 k951) rfl rfl rfl (by decide +kernel) ⟨by rw [hR]; exact Nat.le_of_ble_eq_true rfl, by rw [hR]; exact Nat.le_of_ble_eq_true rfl⟩) (my_preV hK hN (hP.sub [0, 1, 2] rfl) (hD.sub [0, 1, 2] (by decide +kernel) rfl) 0 rfl rfl) rfl rfl hl.1 rfl (lv_room (Nat.le_of_ble_eq_true rfl)) d_M_scale_97 ⟨by rw [hR]; exact Nat.le_of_ble_eq_true rfl, by rw [hR]; exact Nat.le_of_ble_eq_true rfl⟩) hP hD hS hA [0, 1, 2] [] rfl rfl (by decide +kernel) (by decide +kernel) (fun r_97 u9 H locs hw_97 hP hD hS => ?_)
                have hw_97 : r_97 = nI (64 * mm + gr G9 n) := hw_97
                have hP : va_P (dC, dI) vwCl [(o, Sum.inr (9, mO g fForm fShift fModels fItems fEnded fLow fRange fCache fPend fGoes fOuts fIns fReads fBad fIR fAsk fBAsk fCode fRL fRR fX fWrites fThrown)), ((g 0), Sum.inl (cI, 8, Sum.inl vMany)), (a, Sum.inl (cI, 512, Sum.inl fK))] H := hP
                have hD : va_D A [(o, Sum.inr (9, mO g fForm fShift fModels fItems fEnded fLow fRange fCache fPend fGoes fOuts fIns fReads fBad fIR fAsk fBAsk fCode fRL fRR fX fWrites fThrown)), ((g 0), Sum.inl (cI, 8, Sum.inl vMany)), (a, Sum.inl (cI, 512, Sum.inl fK))] := hD
                refine lv_istore (lv' := [(5, Value.int r_97), (4, Value.int r_3), (0, Value.ref o), (1, Value.ref a), (2, Value.int (nI mm)), (3, Value.int (nI M))]) hx hb d_M_scale_100 hl (by decide) rfl (fun ls hl => ?_)
                refine lv_aload_n hx hb d_M_scale_102 rfl (lv_at hl 3 rfl) ?_
                refine lv_iload hx hb d_M_scale_103 (lv_at hl 0 rfl) ?_
                refine lv_aload_n hx hb d_M_scale_105 rfl (lv_at hl 3 rfl) ?_
                refine lv_iload hx hb d_M_scale_106 (lv_at hl 0 rfl) ?_
                refine va_iald hx hb hK hP 2 0 rfl rfl (by rw [hw_97]; exact vp_in_nI (by omega) (by decide)) d_M_scale_108 ?_
                refine lv_topi (fun v_8 ev_8 => ?_)
                refine lv_iconst (v := 1) hx hb d_M_scale_109 (by decide) ?_
                refine lv_isub hx hb d_M_scale_110 ?_
                refine lv_topi (fun v_9 ev_9 => ?_)
                have hval : v_9 = nI (G9 (gr G9 n) - 1) := by
                  subst_vars
                  rw [nI_clamp (by omega), hI2 _ hg9]
                  exact pk_sub (b := 1) hp9
                refine va_iast hx hb hK hP hD hS 2 0 rfl rfl (by rw [hw_97]; exact vp_in_nI (by omega) (by decide)) d_M_scale_111 (fun H locs hP hD hS => ?_)
                have hP : va_P (dC, dI) vwCl [(o, Sum.inr (9, mO g fForm fShift fModels fItems fEnded fLow fRange fCache fPend fGoes fOuts fIns fReads fBad fIR fAsk fBAsk fCode fRL fRR fX fWrites fThrown)), ((g 0), Sum.inl (cI, 8, Sum.inl vMany)), (a, Sum.inl (cI, 512, Sum.inl (upd fK r_97.toNatClampNeg v_9)))] H := hP
                have hD : va_D A [(o, Sum.inr (9, mO g fForm fShift fModels fItems fEnded fLow fRange fCache fPend fGoes fOuts fIns fReads fBad fIR fAsk fBAsk fCode fRL fRR fX fWrites fThrown)), ((g 0), Sum.inl (cI, 8, Sum.inl vMany)), (a, Sum.inl (cI, 512, Sum.inl (upd fK r_97.toNatClampNeg v_9)))] := hD
                have hU := sg_up hI2 hg9 (show r_97.toNatClampNeg = 64 * mm + gr G9 n by rw [hw_97]; exact nI_clamp (by omega)) hval
                refine lv_goto (tgt := 84) hx hb d_M_scale_112 (by decide) ?_
                exact ih9_84 _ (by first | omega | (rw [dec_ns hn1 (by omega)]; omega)) (upd fK r_97.toNatClampNeg v_9) (upN G9 (gr G9 n) (G9 (gr G9 n) - 1)) rfl (hU.1) (sgO_tr hU.2 hO2) (by rw [hE2]; exact dec_st hn1 hgt) (dec_bd hB2) H locs ls (hP.sub [0, 1, 2] rfl) (hD.sub [0, 1, 2] (by decide +kernel) rfl) hS (lv_sub hl [1, 2, 3, 4, 5] rfl)
          have hj3 : j = n := by
            rcases Nat.lt_or_ge j n with q | q
            · exact absurd c_3 (by rw [hv9, hi]; exact nI_ge q (by omega))
            · omega
          exact J_84 _ fL (scG n M F) rfl ((sgL_e (hj3 ▸ hL)).1) ((sgL_e (hj3 ▸ hL)).2) (rfl) (fun k hk => Nat.le_trans (scG_le hM k hk) hM2) H locs ls (hP.sub [0, 1, 2] rfl) (hD.sub [0, 1, 2] (by decide +kernel) rfl) hS (lv_sub hl [1, 2, 3, 4, 5] rfl)
        · have hj2 : j < n := by
            rcases Nat.lt_or_ge j n with q | q
            · exact q
            · exact absurd (by rw [hv9, hi]; exact nI_le q (by omega)) c_3
          have hb9 := hB j hj2
          have hmul : F j * M ≤ 4095 * 4096 := Nat.mul_le_mul hb9 hM2
          refine lv_aload_n hx hb d_M_scale_28 rfl (lv_at hl 3 rfl) ?_
          refine lv_bipush (v := 64) hx hb d_M_scale_29 (by decide) ?_
          refine lv_iload_n hx hb d_M_scale_31 rfl (lv_at hl 4 rfl) ?_
          refine lv_imul hx hb d_M_scale_32 ?_
          refine lv_topi (fun v_10 ev_10 => ?_)
          refine lv_iload hx hb d_M_scale_33 (lv_at hl 0 rfl) ?_
          refine lv_iadd hx hb d_M_scale_35 ?_
          refine lv_topi (fun v_11 ev_11 => ?_)
          have hix : v_11 = nI (64 * mm + j) := by subst_vars; exact ix64
          refine va_iald hx hb hK hP 2 0 rfl rfl (by rw [hix]; exact vp_in_nI (by omega) (by decide)) d_M_scale_36 ?_
          refine lv_topi (fun v_12 ev_12 => ?_)
          have hld : v_12 = nI (F j) := by rw [ev_12, hix, nI_clamp (by omega)]; exact sgL_rd hL hj2
          refine lv_istore (lv' := [(6, Value.int v_12), (5, Value.int i9), (4, Value.int r_3), (0, Value.ref o), (1, Value.ref a), (2, Value.int (nI mm)), (3, Value.int (nI M))]) hx hb d_M_scale_37 hl (by decide) rfl (fun ls hl => ?_)
          refine lv_iload hx hb d_M_scale_39 (lv_at hl 0 rfl) ?_
          refine lv_iload_n hx hb d_M_scale_41 rfl (lv_at hl 6 rfl) ?_
          refine lv_imul hx hb d_M_scale_42 ?_
          refine lv_topi (fun v_13 ev_13 => ?_)
          refine lv_iload hx hb d_M_scale_43 (lv_at hl 2 rfl) ?_
          refine lv_idiv hx hb d_M_scale_45 (by rw [hw_3]; exact nI_ne0 hpos (by omega)) ?_
          refine lv_topi (fun v_14 ev_14 => ?_)
          have hdv : v_14 = nI (F j * M / ns F n) := by
            subst_vars
            rw [pk_mul]
            exact pk_div (by omega) hpos (by omega)
          have hdl : F j * M / ns F n ≤ F j * M := Nat.div_le_self _ _
          refine lv_istore (lv' := [(7, Value.int v_14), (6, Value.int v_12), (5, Value.int i9), (4, Value.int r_3), (0, Value.ref o), (1, Value.ref a), (2, Value.int (nI mm)), (3, Value.int (nI M))]) hx hb d_M_scale_46 hl (by decide) rfl (fun ls hl => ?_)
          refine lv_aload_n hx hb d_M_scale_48 rfl (lv_at hl 5 rfl) ?_
          refine lv_bipush (v := 64) hx hb d_M_scale_49 (by decide) ?_
          refine lv_iload_n hx hb d_M_scale_51 rfl (lv_at hl 6 rfl) ?_
          refine lv_imul hx hb d_M_scale_52 ?_
          refine lv_topi (fun v_15 ev_15 => ?_)
          refine lv_iload hx hb d_M_scale_53 (lv_at hl 2 rfl) ?_
          refine lv_iadd hx hb d_M_scale_55 ?_
          refine lv_topi (fun v_16 ev_16 => ?_)
          have hix2 : v_16 = nI (64 * mm + j) := by subst_vars; exact ix64
          refine lv_iload hx hb d_M_scale_56 (lv_at hl 1 rfl) ?_
          refine lv_if_ne (tgt := 65) hx hb d_M_scale_58 (by decide) (fun c_17 => ?_) (fun c_17 => ?_)
          · refine lv_iload hx hb d_M_scale_65 (lv_at hl 0 rfl) ?_
            refine lv_iconst (v := 1) hx hb d_M_scale_67 (by decide) ?_
            refine lv_icmp_ge (tgt := 75) hx hb d_M_scale_68 (by decide) (fun c_18 => ?_) (fun c_18 => ?_)
            · refine lv_iload hx hb d_M_scale_75 (lv_at hl 0 rfl) ?_
              have hval : v_14 = nI (scG n M F j) := by
                unfold scG
                rw [if_neg (fun q => c_17 (by rw [hld, q]; rfl)), if_neg (fun q => by
                  rw [hdv] at c_18
                  have := (nI_cmp (a := 1) (by decide) (by omega)).mp c_18
                  omega)]
                exact hdv
              refine va_iast hx hb hK hP hD hS 2 0 rfl rfl (by rw [hix2]; exact vp_in_nI (by omega) (by decide)) d_M_scale_77 (fun H locs hP hD hS => ?_)
              have hP : va_P (dC, dI) vwCl [(o, Sum.inr (9, mO g fForm fShift fModels fItems fEnded fLow fRange fCache fPend fGoes fOuts fIns fReads fBad fIR fAsk fBAsk fCode fRL fRR fX fWrites fThrown)), ((g 0), Sum.inl (cI, 8, Sum.inl vMany)), (a, Sum.inl (cI, 512, Sum.inl (upd fL v_16.toNatClampNeg v_14)))] H := hP
              have hD : va_D A [(o, Sum.inr (9, mO g fForm fShift fModels fItems fEnded fLow fRange fCache fPend fGoes fOuts fIns fReads fBad fIR fAsk fBAsk fCode fRL fRR fX fWrites fThrown)), ((g 0), Sum.inl (cI, 8, Sum.inl vMany)), (a, Sum.inl (cI, 512, Sum.inl (upd fL v_16.toNatClampNeg v_14)))] := hD
              obtain ⟨v_19, ev_19⟩ : ∃ y : Int32, y = i9 + (1) := ⟨_, rfl⟩
              refine lv_iinc (v := v_19) (lv' := [(5, Value.int v_19), (7, Value.int v_14), (6, Value.int v_12), (4, Value.int r_3), (0, Value.ref o), (1, Value.ref a), (2, Value.int (nI mm)), (3, Value.int (nI M))]) hx hb d_M_scale_78 hl (k := 2) rfl (by rw [ev_19]; rfl) (by decide) rfl (fun ls hl => ?_)
              refine lv_goto (tgt := 17) hx hb d_M_scale_81 (by decide) ?_
              exact ih9_17 _ (by first | omega | (omega)) (upd fL v_16.toNatClampNeg v_14) v_19 (j + 1) rfl (sgL_st hL hj2 (by rw [hix2]; exact nI_clamp (by omega)) hval) (by subst_vars; exact nI_1 j) (by omega) H locs ls (hP.sub [0, 1, 2] rfl) (hD.sub [0, 1, 2] (by decide +kernel) rfl) hS (lv_sub hl [0, 3, 4, 5, 6, 7] rfl)
            · refine lv_iconst (v := 1) hx hb d_M_scale_71 (by decide) ?_
              refine lv_goto (tgt := 77) hx hb d_M_scale_72 (by decide) ?_
              have hval : (1 : Int32) = nI (scG n M F j) := by
                unfold scG
                rw [if_neg (fun q => c_17 (by rw [hld, q]; rfl)), if_pos (by
                  rcases Nat.lt_or_ge (F j * M / ns F n) 1 with q | q
                  · exact q
                  · exact absurd (by rw [hdv]; exact nI_le (a := 1) q (by omega)) c_18)]
                rfl
              refine va_iast hx hb hK hP hD hS 2 0 rfl rfl (by rw [hix2]; exact vp_in_nI (by omega) (by decide)) d_M_scale_77 (fun H locs hP hD hS => ?_)
              have hP : va_P (dC, dI) vwCl [(o, Sum.inr (9, mO g fForm fShift fModels fItems fEnded fLow fRange fCache fPend fGoes fOuts fIns fReads fBad fIR fAsk fBAsk fCode fRL fRR fX fWrites fThrown)), ((g 0), Sum.inl (cI, 8, Sum.inl vMany)), (a, Sum.inl (cI, 512, Sum.inl (upd fL v_16.toNatClampNeg 1)))] H := hP
              have hD : va_D A [(o, Sum.inr (9, mO g fForm fShift fModels fItems fEnded fLow fRange fCache fPend fGoes fOuts fIns fReads fBad fIR fAsk fBAsk fCode fRL fRR fX fWrites fThrown)), ((g 0), Sum.inl (cI, 8, Sum.inl vMany)), (a, Sum.inl (cI, 512, Sum.inl (upd fL v_16.toNatClampNeg 1)))] := hD
              obtain ⟨v_20, ev_20⟩ : ∃ y : Int32, y = i9 + (1) := ⟨_, rfl⟩
              refine lv_iinc (v := v_20) (lv' := [(5, Value.int v_20), (7, Value.int v_14), (6, Value.int v_12), (4, Value.int r_3), (0, Value.ref o), (1, Value.ref a), (2, Value.int (nI mm)), (3, Value.int (nI M))]) hx hb d_M_scale_78 hl (k := 2) rfl (by rw [ev_20]; rfl) (by decide) rfl (fun ls hl => ?_)
              refine lv_goto (tgt := 17) hx hb d_M_scale_81 (by decide) ?_
              exact ih9_17 _ (by first | omega | (omega)) (upd fL v_16.toNatClampNeg 1) v_20 (j + 1) rfl (sgL_st hL hj2 (by rw [hix2]; exact nI_clamp (by omega)) hval) (by subst_vars; exact nI_1 j) (by omega) H locs ls (hP.sub [0, 1, 2] rfl) (hD.sub [0, 1, 2] (by decide +kernel) rfl) hS (lv_sub hl [0, 3, 4, 5, 6, 7] rfl)
          · refine lv_iconst (v := 0) hx hb d_M_scale_61 (by decide) ?_
            refine lv_goto (tgt := 77) hx hb d_M_scale_62 (by decide) ?_
            have hval : (0 : Int32) = nI (scG n M F j) := by
              unfold scG
              rw [if_pos (by
                rcases Nat.eq_zero_or_pos (F j) with q | q
                · exact q
                · exact absurd (by rw [← hld]; exact c_17) (nI_ne0 q (by omega)))]
              rfl
            refine va_iast hx hb hK hP hD hS 2 0 rfl rfl (by rw [hix2]; exact vp_in_nI (by omega) (by decide)) d_M_scale_77 (fun H locs hP hD hS => ?_)
            have hP : va_P (dC, dI) vwCl [(o, Sum.inr (9, mO g fForm fShift fModels fItems fEnded fLow fRange fCache fPend fGoes fOuts fIns fReads fBad fIR fAsk fBAsk fCode fRL fRR fX fWrites fThrown)), ((g 0), Sum.inl (cI, 8, Sum.inl vMany)), (a, Sum.inl (cI, 512, Sum.inl (upd fL v_16.toNatClampNeg 0)))] H := hP
            have hD : va_D A [(o, Sum.inr (9, mO g fForm fShift fModels fItems fEnded fLow fRange fCache fPend fGoes fOuts fIns fReads fBad fIR fAsk fBAsk fCode fRL fRR fX fWrites fThrown)), ((g 0), Sum.inl (cI, 8, Sum.inl vMany)), (a, Sum.inl (cI, 512, Sum.inl (upd fL v_16.toNatClampNeg 0)))] := hD
            obtain ⟨v_21, ev_21⟩ : ∃ y : Int32, y = i9 + (1) := ⟨_, rfl⟩
            refine lv_iinc (v := v_21) (lv' := [(5, Value.int v_21), (7, Value.int v_14), (6, Value.int v_12), (4, Value.int r_3), (0, Value.ref o), (1, Value.ref a), (2, Value.int (nI mm)), (3, Value.int (nI M))]) hx hb d_M_scale_78 hl (k := 2) rfl (by rw [ev_21]; rfl) (by decide) rfl (fun ls hl => ?_)
            refine lv_goto (tgt := 17) hx hb d_M_scale_81 (by decide) ?_
            exact ih9_17 _ (by first | omega | (omega)) (upd fL v_16.toNatClampNeg 0) v_21 (j + 1) rfl (sgL_st hL hj2 (by rw [hix2]; exact nI_clamp (by omega)) hval) (by subst_vars; exact nI_1 j) (by omega) H locs ls (hP.sub [0, 1, 2] rfl) (hD.sub [0, 1, 2] (by decide +kernel) rfl) hS (lv_sub hl [0, 3, 4, 5, 6, 7] rfl)
    exact J_17 _ f 0 0 rfl (sgL_0 hf) (rfl) (Nat.zero_le _) H locs ls (hP.sub [0, 1, 2] rfl) (hD.sub [0, 1, 2] (by decide +kernel) rfl) hS (lv_sub hl [0, 1, 2, 3, 4, 5] rfl)
  · have hz : ns F n = 0 := by
      rcases Nat.eq_zero_or_pos (ns F n) with q | q
      · exact q
      · exact absurd (by rw [← hw_3]; exact c_1) (nI_ne0 q (by omega))
    exact my_vret hx hb hr hlocks hQ hK hS (Nat.le_refl _) (Nat.le_refl _) f (by unfold sc; rw [if_pos hz]; exact ⟨hf, sgO_rf _ _ _⟩) (hP.sub [0, 1, 2] rfl) (hD.sub [0, 1, 2] (by decide +kernel) rfl) d_M_scale_13

