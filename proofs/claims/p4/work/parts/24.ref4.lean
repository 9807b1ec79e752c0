/-- a model's numbers as a message or a reading begins -/
def pf (fm n : Nat) (C : Nat → Nat) : Nat → Nat := if fm = 2 then (fun _ => 1024) else if fm < 2 then les n C else sc n (if fm = 3 then 4096 else 512) C
abbrev pfN (fm n : Nat) : Nat := if fm = 2 then 64 else n
set_option maxHeartbeats 1000000 in
set_option maxRecDepth 100000 in
/-- prepare -/
theorem c_M_prepare (l : Launch) (dC : Nat → ClassId) (dI : Nat → Nat → Nat) (cI cM cO : ClassId) (sz : Nat) (o : Nat) (g : Nat → Nat) (fForm : Int32) (fShift : Int32) (fModels : Int32) (fItems : Int32) (fEnded : Int32) (fLow : Int64) (fRange : Int64) (fCache : Int32) (fPend : Int32) (fGoes : Int32) (fOuts : Int32) (fIns : Int32) (fReads : Int32) (fBad : Int32) (fIR : Int32) (fAsk : Int32) (fBAsk : Int32) (fCode : Int64) (fRL : Int64) (fRR : Int64) (fX : Int64) (fWrites : Int32) (fThrown : Int32) (vMany : Nat → Int32) (vCounts : Nat → Int32) (a : Nat) (f : Nat → Int32) (mm : Nat) (n : Nat) (fm : Nat) (C : Nat → Nat) (hmm : mm < 8) (hn : vMany mm = nI n) (hn2 : n ≤ 64) (hn1 : 0 < n) (hfm : fm ≤ 4) (hform : fForm = nI fm) (hc : sgI vCounts (64 * mm) n C) (hB : bd C n 4095) : MetV l y_M_prepare (Cond.code y_M_prepare prog_14_method_7_code 5 none :: gw) ({ frames := 2, cells := 0, slots := 0, locals := 51 } : Room) (dC, dI) vwCl (kT cI cM cO) [Value.ref o, Value.ref a, Value.int (nI mm)] [(o, Sum.inr (9, mO g fForm fShift fModels fItems fEnded fLow fRange fCache fPend fGoes fOuts fIns fReads fBad fIR fAsk fBAsk fCode fRL fRR fX fWrites fThrown)), ((g 0), Sum.inl (cI, 8, Sum.inl vMany)), ((g 1), Sum.inl (cI, 512, Sum.inl vCounts)), (a, Sum.inl (cI, 512, Sum.inl f))] sz (fun (u : (Nat → Int32)) => sgI u (64 * mm) (pfN fm n) (pf fm n C) ∧ sgO u f (64 * mm) 64) (fun (u : (Nat → Int32)) => [(o, Sum.inr (9, mO g fForm fShift fModels fItems fEnded fLow fRange fCache fPend fGoes fOuts fIns fReads fBad fIR fAsk fBAsk fCode fRL fRR fX fWrites fThrown)), ((g 0), Sum.inl (cI, 8, Sum.inl vMany)), ((g 1), Sum.inl (cI, 512, Sum.inl vCounts)), (a, Sum.inl (cI, 512, Sum.inl u))]) 0 0 := by
  refine my_ofV (cc := prog_14_method_7_code) (n := 5) (ret := none) (by decide) rfl (Nat.le_of_ble_eq_true rfl) ?_
  intro p e s m args below meth c R Q A ls H locs hx hb hr hts hown hlocks hml hnm hR hQ hA hl hP hK hN hD hS
  have hg : ∀ w ∈ gw, w.before args s = true := fun w h => hts w (List.mem_cons_of_mem _ h)
  have hown : s.vm.findClass "RangeCodersModel" = some m.cls := hown
  have hl : lv_has ls 5 [(0, Value.ref o), (1, Value.ref a), (2, Value.int (nI mm))] := hl
  refine lv_bipush (v := 64) hx hb d_M_prepare_0 (by decide) ?_
  refine lv_iload_n hx hb d_M_prepare_2 rfl (lv_at hl 2 rfl) ?_
  refine lv_imul hx hb d_M_prepare_3 ?_
  refine lv_topi (fun v_1 ev_1 => ?_)
  refine lv_istore_n (lv' := [(3, Value.int v_1), (0, Value.ref o), (1, Value.ref a), (2, Value.int (nI mm))]) hx hb d_M_prepare_4 rfl hl (by decide) rfl (fun ls hl => ?_)
  refine lv_aload_n hx hb d_M_prepare_5 rfl (lv_at hl 1 rfl) ?_
  refine va_get (D := (dC, dI)) (ci := 9) (v := .int fForm) (C := "RangeCodersModel") (T := T_M) (N := 35) hx hb hg in_M hown hK hP 0 rfl rfl 0 (by decide) (hg _ k952) (fun _ h9 => h9) rfl d_M_prepare_6 ?_
  refine lv_iconst (v := 2) hx hb d_M_prepare_9 (by decide) ?_
  refine lv_icmp_ne (tgt := 39) hx hb d_M_prepare_10 (by decide) (fun c_2 => ?_) (fun c_2 => ?_)
  · have hf2 : ¬ fm = 2 := fun q => c_2 (by rw [hform, q]; rfl)
    refine lv_iconst (v := 0) hx hb d_M_prepare_39 (by decide) ?_
    refine lv_istore (lv' := [(4, Value.int 0), (3, Value.int v_1), (0, Value.ref o), (1, Value.ref a), (2, Value.int (nI mm))]) hx hb d_M_prepare_40 hl (by decide) rfl (fun ls hl => ?_)
    have J_42 : ∀ (n9_42 : Nat) (fL : Nat → Int32) (i9 : Int32) (j : Nat) (hn9_42 : n - j = n9_42) (hL : sgM fL f (64 * mm) n j C) (hi : i9 = nI j) (hj : j ≤ n) (H : Heap) (locs : List Loc) (ls : Array Slot), va_P (dC, dI) vwCl [(o, Sum.inr (9, mO g fForm fShift fModels fItems fEnded fLow fRange fCache fPend fGoes fOuts fIns fReads fBad fIR fAsk fBAsk fCode fRL fRR fX fWrites fThrown)), ((g 0), Sum.inl (cI, 8, Sum.inl vMany)), ((g 1), Sum.inl (cI, 512, Sum.inl vCounts)), (a, Sum.inl (cI, 512, Sum.inl fL))] H → va_D A [(o, Sum.inr (9, mO g fForm fShift fModels fItems fEnded fLow fRange fCache fPend fGoes fOuts fIns fReads fBad fIR fAsk fBAsk fCode fRL fRR fX fWrites fThrown)), ((g 0), Sum.inl (cI, 8, Sum.inl vMany)), ((g 1), Sum.inl (cI, 512, Sum.inl vCounts)), (a, Sum.inl (cI, 512, Sum.inl fL))] → va_S A s.heap H locs → lv_has ls 5 [(4, Value.int i9), (3, Value.int v_1), (0, Value.ref o), (1, Value.ref a), (2, Value.int (nI mm))] → W p l e R s m args below meth c H locs 0 0 Q (F0 m 42 ls []) := by
      intro n9_42
      induction n9_42 using Nat.strongRecOn with
      | ind n9_42 ih9_42 =>
        intro fL i9 j hn9_42 hL hi hj H locs ls hP hD hS hl
        refine lv_iload hx hb d_M_prepare_42 (lv_at hl 0 rfl) ?_
        refine lv_aload_n hx hb d_M_prepare_44 rfl (lv_at hl 2 rfl) ?_
        refine va_get (D := (dC, dI)) (ci := 9) (v := .ref (g 0)) (C := "RangeCodersModel") (T := T_M) (N := 35) hx hb hg in_M hown hK hP 0 rfl rfl 3 (by decide) (hg _ k955) (fun _ h9 => h9) rfl d_M_prepare_45 ?_
        refine lv_iload_n hx hb d_M_prepare_48 rfl (lv_at hl 4 rfl) ?_
        refine va_iald hx hb hK hP 1 0 rfl rfl (vp_in_nI hmm (by decide)) d_M_prepare_49 ?_
        refine lv_topi (fun v_3 ev_3 => ?_)
        have hv9 : v_3 = nI n := by subst_vars; rw [nI_clamp (by omega)]; exact hn
        refine lv_icmp_ge (tgt := 74) hx hb d_M_prepare_50 (by decide) (fun c_4 => ?_) (fun c_4 => ?_)
        · have hj3 : j = n := by
            rcases Nat.lt_or_ge j n with q | q
            · exact absurd c_4 (by rw [hv9, hi]; exact nI_ge q (by omega))
            · omega
          rw [hj3] at hL
          refine lv_aload_n hx hb d_M_prepare_74 rfl (lv_at hl 2 rfl) ?_
          refine va_get (D := (dC, dI)) (ci := 9) (v := .int fForm) (C := "RangeCodersModel") (T := T_M) (N := 35) hx hb hg in_M hown hK hP 0 rfl rfl 0 (by decide) (hg _ k952) (fun _ h9 => h9) rfl d_M_prepare_75 ?_
          refine lv_iconst (v := 2) hx hb d_M_prepare_78 (by decide) ?_
          refine lv_icmp_ge (tgt := 91) hx hb d_M_prepare_79 (by decide) (fun c_5 => ?_) (fun c_5 => ?_)
          · have hlt : ¬ fm < 2 := by
              rw [hform] at c_5
              have := (nI_cmp (a := 2) (by decide) (by omega)).mp c_5
              omega
            refine lv_aload_n hx hb d_M_prepare_91 rfl (lv_at hl 2 rfl) ?_
            refine lv_aload_n hx hb d_M_prepare_92 rfl (lv_at hl 3 rfl) ?_
            refine lv_iload_n hx hb d_M_prepare_93 rfl (lv_at hl 4 rfl) ?_
            refine lv_aload_n hx hb d_M_prepare_94 rfl (lv_at hl 2 rfl) ?_
            refine va_get (D := (dC, dI)) (ci := 9) (v := .int fForm) (C := "RangeCodersModel") (T := T_M) (N := 35) hx hb hg in_M hown hK hP 0 rfl rfl 0 (by decide) (hg _ k952) (fun _ h9 => h9) rfl d_M_prepare_95 ?_
            refine lv_iconst (v := 3) hx hb d_M_prepare_98 (by decide) ?_
            refine lv_icmp_ne (tgt := 108) hx hb d_M_prepare_99 (by decide) (fun c_6 => ?_) (fun c_6 => ?_)
            · have h3 : ¬ fm = 3 := fun q => c_6 (by rw [hform, q]; rfl)
              refine lv_sipush (v := 512) hx hb d_M_prepare_108 (by decide) ?_
              refine W.eq (g2 := F0 m 111 ls [Value.int (nI 512), Value.int (nI mm), Value.ref a, Value.ref o]) rfl ?_
              refine my_cv (wr := [((g 1), Sum.inl (cI, 512, Sum.inl vCounts))]) (va_runV (As := [Value.ref a, Value.int (nI mm), Value.int (nI 512)]) (rest := []) ⟨hx, hb, hml, hown, hts⟩ (c_M_scale l dC dI cI cM cO H.size o g fForm fShift fModels fItems fEnded fLow fRange fCache fPend fGoes fOuts fIns fReads fBad fIR fAsk fBAsk fCode fRL fRR fX fWrites fThrown vMany a fL mm n 512 C (by assumption) (by assumption) (by assumption) (by assumption) (by decide) (by decide) (hL.1) (hB)) (cwV 3 hts (my_gV k944 k946 ks23 k12 k947) rfl rfl rfl (by decide +kernel) ⟨by rw [hR]; exact Nat.le_of_ble_eq_true rfl, by rw [hR]; exact Nat.le_of_ble_eq_true rfl⟩) (my_preV hK hN (hP.sub [0, 1, 3] rfl) (hD.sub [0, 1, 3] (by decide +kernel) rfl) 0 rfl rfl) rfl rfl hl.1 rfl (lv_room (Nat.le_of_ble_eq_true rfl)) d_M_prepare_111 ⟨by rw [hR]; exact Nat.le_of_ble_eq_true rfl, by rw [hR]; exact Nat.le_of_ble_eq_true rfl⟩) hP hD hS hA [0, 1, 3] [2] rfl rfl (by decide +kernel) (by decide +kernel) (fun u9 H locs hw_111 hP hD hS => ?_)
              obtain ⟨f2_111, rfl⟩ : ∃ z, z = u9 := ⟨_, rfl⟩
              have hw_111 : sgI f2_111 (64 * mm) n (sc n 512 C) ∧ sgO f2_111 fL (64 * mm) n := hw_111
              have hP : va_P (dC, dI) vwCl [((g 1), Sum.inl (cI, 512, Sum.inl vCounts)), (o, Sum.inr (9, mO g fForm fShift fModels fItems fEnded fLow fRange fCache fPend fGoes fOuts fIns fReads fBad fIR fAsk fBAsk fCode fRL fRR fX fWrites fThrown)), ((g 0), Sum.inl (cI, 8, Sum.inl vMany)), (a, Sum.inl (cI, 512, Sum.inl f2_111))] H := hP
              have hD : va_D A [((g 1), Sum.inl (cI, 512, Sum.inl vCounts)), (o, Sum.inr (9, mO g fForm fShift fModels fItems fEnded fLow fRange fCache fPend fGoes fOuts fIns fReads fBad fIR fAsk fBAsk fCode fRL fRR fX fWrites fThrown)), ((g 0), Sum.inl (cI, 8, Sum.inl vMany)), (a, Sum.inl (cI, 512, Sum.inl f2_111))] := hD
              exact my_vret hx hb hr hlocks hQ hK hS (Nat.le_refl _) (Nat.le_refl _) f2_111 (by unfold pfN pf; rw [if_neg hf2, if_neg hf2, if_neg hlt, if_neg h3]; exact ⟨hw_111.1, sgO_w (sgO_tr hw_111.2 hL.2) hn2⟩) (hP.sub [1, 2, 0, 3] rfl) (hD.sub [1, 2, 0, 3] (by decide +kernel) rfl) d_M_prepare_114
            · have h3 : fm = 3 := (nI_eq (a := fm) (b := 3) (by omega) (by decide)).mp (by rw [← hform]; exact c_6)
              refine lv_sipush (v := 4096) hx hb d_M_prepare_102 (by decide) ?_
              refine lv_goto (tgt := 111) hx hb d_M_prepare_105 (by decide) ?_
              refine W.eq (g2 := F0 m 111 ls [Value.int (nI 4096), Value.int (nI mm), Value.ref a, Value.ref o]) rfl ?_
              refine my_cv (wr := [((g 1), Sum.inl (cI, 512, Sum.inl vCounts))]) (va_runV (As := [Value.ref a, Value.int (nI mm), Value.int (nI 4096)]) (rest := []) ⟨hx, hb, hml, hown, hts⟩ (c_M_scale l dC dI cI cM cO H.size o g fForm fShift fModels fItems fEnded fLow fRange fCache fPend fGoes fOuts fIns fReads fBad fIR fAsk fBAsk fCode fRL fRR fX fWrites fThrown vMany a fL mm n 4096 C (by assumption) (by assumption) (by assumption) (by assumption) (by decide) (by decide) (hL.1) (hB)) (cwV 3 hts (my_gV k944 k946 ks23 k12 k947) rfl rfl rfl (by decide +kernel) ⟨by rw [hR]; exact Nat.le_of_ble_eq_true rfl, by rw [hR]; exact Nat.le_of_ble_eq_true rfl⟩) (my_preV hK hN (hP.sub [0, 1, 3] rfl) (hD.sub [0, 1, 3] (by decide +kernel) rfl) 0 rfl rfl) rfl rfl hl.1 rfl (lv_room (Nat.le_of_ble_eq_true rfl)) d_M_prepare_111 ⟨by rw [hR]; exact Nat.le_of_ble_eq_true rfl, by rw [hR]; exact Nat.le_of_ble_eq_true rfl⟩) hP hD hS hA [0, 1, 3] [2] rfl rfl (by decide +kernel) (by decide +kernel) (fun u9 H locs hw_111 hP hD hS => ?_)
              obtain ⟨f2_111, rfl⟩ : ∃ z, z = u9 := ⟨_, rfl⟩
              have hw_111 : sgI f2_111 (64 * mm) n (sc n 4096 C) ∧ sgO f2_111 fL (64 * mm) n := hw_111
              have hP : va_P (dC, dI) vwCl [((g 1), Sum.inl (cI, 512, Sum.inl vCounts)), (o, Sum.inr (9, mO g fForm fShift fModels fItems fEnded fLow fRange fCache fPend fGoes fOuts fIns fReads fBad fIR fAsk fBAsk fCode fRL fRR fX fWrites fThrown)), ((g 0), Sum.inl (cI, 8, Sum.inl vMany)), (a, Sum.inl (cI, 512, Sum.inl f2_111))] H := hP
              have hD : va_D A [((g 1), Sum.inl (cI, 512, Sum.inl vCounts)), (o, Sum.inr (9, mO g fForm fShift fModels fItems fEnded fLow fRange fCache fPend fGoes fOuts fIns fReads fBad fIR fAsk fBAsk fCode fRL fRR fX fWrites fThrown)), ((g 0), Sum.inl (cI, 8, Sum.inl vMany)), (a, Sum.inl (cI, 512, Sum.inl f2_111))] := hD
              exact my_vret hx hb hr hlocks hQ hK hS (Nat.le_refl _) (Nat.le_refl _) f2_111 (by unfold pfN pf; rw [if_neg hf2, if_neg hf2, if_neg hlt, if_pos h3]; exact ⟨hw_111.1, sgO_w (sgO_tr hw_111.2 hL.2) hn2⟩) (hP.sub [1, 2, 0, 3] rfl) (hD.sub [1, 2, 0, 3] (by decide +kernel) rfl) d_M_prepare_114
          · have hlt : fm < 2 := by
              rcases Nat.lt_or_ge fm 2 with q | q
              · exact q
              · exact absurd (by rw [hform]; exact nI_le (a := 2) q (by omega)) c_5
            refine lv_aload_n hx hb d_M_prepare_82 rfl (lv_at hl 2 rfl) ?_
            refine lv_aload_n hx hb d_M_prepare_83 rfl (lv_at hl 3 rfl) ?_
            refine lv_iload_n hx hb d_M_prepare_84 rfl (lv_at hl 4 rfl) ?_
            refine my_cv (wr := [((g 1), Sum.inl (cI, 512, Sum.inl vCounts))]) (va_runV (As := [Value.ref a, Value.int (nI mm)]) (rest := []) ⟨hx, hb, hml, hown, hts⟩ (c_M_lessen l dC dI cI cM cO H.size o g fForm fShift fModels fItems fEnded fLow fRange fCache fPend fGoes fOuts fIns fReads fBad fIR fAsk fBAsk fCode fRL fRR fX fWrites fThrown vMany a fL mm n C (by assumption) (by assumption) (by assumption) (hL.1) (hB)) (cwV 2 hts (my_gV k932 k934 ks20 k12 k935) rfl rfl rfl (by decide +kernel) ⟨by rw [hR]; exact Nat.le_of_ble_eq_true rfl, by rw [hR]; exact Nat.le_of_ble_eq_true rfl⟩) (my_preV hK hN (hP.sub [0, 1, 3] rfl) (hD.sub [0, 1, 3] (by decide +kernel) rfl) 0 rfl rfl) rfl rfl hl.1 rfl (lv_room (Nat.le_of_ble_eq_true rfl)) d_M_prepare_85 ⟨by rw [hR]; exact Nat.le_of_ble_eq_true rfl, by rw [hR]; exact Nat.le_of_ble_eq_true rfl⟩) hP hD hS hA [0, 1, 3] [2] rfl rfl (by decide +kernel) (by decide +kernel) (fun u9 H locs hw_85 hP hD hS => ?_)
            obtain ⟨f2_85, rfl⟩ : ∃ z, z = u9 := ⟨_, rfl⟩
            have hw_85 : sgI f2_85 (64 * mm) n (les n C) ∧ sgO f2_85 fL (64 * mm) n := hw_85
            have hP : va_P (dC, dI) vwCl [((g 1), Sum.inl (cI, 512, Sum.inl vCounts)), (o, Sum.inr (9, mO g fForm fShift fModels fItems fEnded fLow fRange fCache fPend fGoes fOuts fIns fReads fBad fIR fAsk fBAsk fCode fRL fRR fX fWrites fThrown)), ((g 0), Sum.inl (cI, 8, Sum.inl vMany)), (a, Sum.inl (cI, 512, Sum.inl f2_85))] H := hP
            have hD : va_D A [((g 1), Sum.inl (cI, 512, Sum.inl vCounts)), (o, Sum.inr (9, mO g fForm fShift fModels fItems fEnded fLow fRange fCache fPend fGoes fOuts fIns fReads fBad fIR fAsk fBAsk fCode fRL fRR fX fWrites fThrown)), ((g 0), Sum.inl (cI, 8, Sum.inl vMany)), (a, Sum.inl (cI, 512, Sum.inl f2_85))] := hD
            refine lv_goto (tgt := 114) hx hb d_M_prepare_88 (by decide) ?_
            exact my_vret hx hb hr hlocks hQ hK hS (Nat.le_refl _) (Nat.le_refl _) f2_85 (by unfold pfN pf; rw [if_neg hf2, if_neg hf2, if_pos hlt]; exact ⟨hw_85.1, sgO_w (sgO_tr hw_85.2 hL.2) hn2⟩) (hP.sub [1, 2, 0, 3] rfl) (hD.sub [1, 2, 0, 3] (by decide +kernel) rfl) d_M_prepare_114
        · have hj2 : j < n := by
            rcases Nat.lt_or_ge j n with q | q
            · exact q
            · exact absurd (by rw [hv9, hi]; exact nI_le q (by omega)) c_4
          refine lv_aload_n hx hb d_M_prepare_53 rfl (lv_at hl 3 rfl) ?_
          refine lv_iload_n hx hb d_M_prepare_54 rfl (lv_at hl 1 rfl) ?_
          refine lv_iload hx hb d_M_prepare_55 (lv_at hl 0 rfl) ?_
          refine lv_iadd hx hb d_M_prepare_57 ?_
          refine lv_topi (fun v_7 ev_7 => ?_)
          have hix : v_7 = nI (64 * mm + j) := by subst_vars; exact ix64
          refine lv_aload_n hx hb d_M_prepare_58 rfl (lv_at hl 2 rfl) ?_
          refine va_get (D := (dC, dI)) (ci := 9) (v := .ref (g 1)) (C := "RangeCodersModel") (T := T_M) (N := 35) hx hb hg in_M hown hK hP 0 rfl rfl 4 (by decide) (hg _ k956) (fun _ h9 => h9) rfl d_M_prepare_59 ?_
          refine lv_iload_n hx hb d_M_prepare_62 rfl (lv_at hl 1 rfl) ?_
          refine lv_iload hx hb d_M_prepare_63 (lv_at hl 0 rfl) ?_
          refine lv_iadd hx hb d_M_prepare_65 ?_
          refine lv_topi (fun v_8 ev_8 => ?_)
          have hix2 : v_8 = nI (64 * mm + j) := by subst_vars; exact ix64
          refine va_iald hx hb hK hP 2 0 rfl rfl (by rw [hix2]; exact vp_in_nI (by omega) (by decide)) d_M_prepare_66 ?_
          refine lv_topi (fun v_9 ev_9 => ?_)
          have hval : v_9 = nI (C j) := by rw [ev_9, hix2, nI_clamp (by omega)]; exact hc j hj2
          refine va_iast hx hb hK hP hD hS 3 0 rfl rfl (by rw [hix]; exact vp_in_nI (by omega) (by decide)) d_M_prepare_67 (fun H locs hP hD hS => ?_)
          have hP : va_P (dC, dI) vwCl [(o, Sum.inr (9, mO g fForm fShift fModels fItems fEnded fLow fRange fCache fPend fGoes fOuts fIns fReads fBad fIR fAsk fBAsk fCode fRL fRR fX fWrites fThrown)), ((g 0), Sum.inl (cI, 8, Sum.inl vMany)), ((g 1), Sum.inl (cI, 512, Sum.inl vCounts)), (a, Sum.inl (cI, 512, Sum.inl (upd fL v_7.toNatClampNeg v_9)))] H := hP
          have hD : va_D A [(o, Sum.inr (9, mO g fForm fShift fModels fItems fEnded fLow fRange fCache fPend fGoes fOuts fIns fReads fBad fIR fAsk fBAsk fCode fRL fRR fX fWrites fThrown)), ((g 0), Sum.inl (cI, 8, Sum.inl vMany)), ((g 1), Sum.inl (cI, 512, Sum.inl vCounts)), (a, Sum.inl (cI, 512, Sum.inl (upd fL v_7.toNatClampNeg v_9)))] := hD
          obtain ⟨v_10, ev_10⟩ : ∃ y : Int32, y = i9 + (1) := ⟨_, rfl⟩
          refine lv_iinc (v := v_10) (lv' := [(4, Value.int v_10), (3, Value.int v_1), (0, Value.ref o), (1, Value.ref a), (2, Value.int (nI mm))]) hx hb d_M_prepare_68 hl (k := 0) rfl (by rw [ev_10]; rfl) (by decide) rfl (fun ls hl => ?_)
          refine lv_goto (tgt := 42) hx hb d_M_prepare_71 (by decide) ?_
          exact ih9_42 _ (by first | omega | (omega)) (upd fL v_7.toNatClampNeg v_9) v_10 (j + 1) rfl (sgM_st hL hj2 (by rw [hix]; exact nI_clamp (by omega)) hval) (by subst_vars; exact nI_1 j) (by omega) H locs ls (hP.sub [0, 1, 2, 3] rfl) (hD.sub [0, 1, 2, 3] (by decide +kernel) rfl) hS (lv_sub hl [0, 1, 2, 3, 4] rfl)
    exact J_42 _ f 0 0 rfl (sgM_0 _ _ _ _) (rfl) (Nat.zero_le _) H locs ls (hP.sub [0, 1, 2, 3] rfl) (hD.sub [0, 1, 2, 3] (by decide +kernel) rfl) hS (lv_sub hl [0, 1, 2, 3, 4] rfl)
  · have hf2 : fm = 2 := (nI_eq (a := fm) (b := 2) (by omega) (by decide)).mp (by rw [← hform]; exact c_2)
    refine lv_iconst (v := 0) hx hb d_M_prepare_13 (by decide) ?_
    refine lv_istore (lv' := [(4, Value.int 0), (3, Value.int v_1), (0, Value.ref o), (1, Value.ref a), (2, Value.int (nI mm))]) hx hb d_M_prepare_14 hl (by decide) rfl (fun ls hl => ?_)
    have J_16 : ∀ (n9_16 : Nat) (fL : Nat → Int32) (i9 : Int32) (j : Nat) (hn9_16 : 64 - j = n9_16) (hL : sgM fL f (64 * mm) 64 j (fun _ => 1024)) (hi : i9 = nI j) (hj : j ≤ 64) (H : Heap) (locs : List Loc) (ls : Array Slot), va_P (dC, dI) vwCl [(o, Sum.inr (9, mO g fForm fShift fModels fItems fEnded fLow fRange fCache fPend fGoes fOuts fIns fReads fBad fIR fAsk fBAsk fCode fRL fRR fX fWrites fThrown)), ((g 0), Sum.inl (cI, 8, Sum.inl vMany)), ((g 1), Sum.inl (cI, 512, Sum.inl vCounts)), (a, Sum.inl (cI, 512, Sum.inl fL))] H → va_D A [(o, Sum.inr (9, mO g fForm fShift fModels fItems fEnded fLow fRange fCache fPend fGoes fOuts fIns fReads fBad fIR fAsk fBAsk fCode fRL fRR fX fWrites fThrown)), ((g 0), Sum.inl (cI, 8, Sum.inl vMany)), ((g 1), Sum.inl (cI, 512, Sum.inl vCounts)), (a, Sum.inl (cI, 512, Sum.inl fL))] → va_S A s.heap H locs → lv_has ls 5 [(4, Value.int i9), (3, Value.int v_1), (0, Value.ref o), (1, Value.ref a), (2, Value.int (nI mm))] → W p l e R s m args below meth c H locs 0 0 Q (F0 m 16 ls []) := by
      intro n9_16
      induction n9_16 using Nat.strongRecOn with
      | ind n9_16 ih9_16 =>
        intro fL i9 j hn9_16 hL hi hj H locs ls hP hD hS hl
        refine lv_iload hx hb d_M_prepare_16 (lv_at hl 0 rfl) ?_
        refine lv_bipush (v := 64) hx hb d_M_prepare_18 (by decide) ?_
        refine lv_icmp_ge (tgt := 38) hx hb d_M_prepare_20 (by decide) (fun c_11 => ?_) (fun c_11 => ?_)
        · have hj3 : j = 64 := by
            rw [hi] at c_11
            have := (nI_cmp (a := 64) (by decide) (by omega)).mp c_11
            omega
          have hP4 : sgI fL (64 * mm) (pfN fm n) (pf fm n C) ∧ sgO fL f (64 * mm) 64 := by
            unfold pfN pf; rw [if_pos hf2, if_pos hf2]; rw [hj3] at hL; exact hL
          exact my_vret hx hb hr hlocks hQ hK hS (Nat.le_refl _) (Nat.le_refl _) fL (hP4) (hP.sub [0, 1, 2, 3] rfl) (hD.sub [0, 1, 2, 3] (by decide +kernel) rfl) d_M_prepare_38
        · have hj2 : j < 64 := by
            rcases Nat.lt_or_ge j 64 with q | q
            · exact q
            · exact absurd (by rw [hi]; exact nI_le (a := 64) q (by omega)) c_11
          refine lv_aload_n hx hb d_M_prepare_23 rfl (lv_at hl 3 rfl) ?_
          refine lv_iload_n hx hb d_M_prepare_24 rfl (lv_at hl 1 rfl) ?_
          refine lv_iload hx hb d_M_prepare_25 (lv_at hl 0 rfl) ?_
          refine lv_iadd hx hb d_M_prepare_27 ?_
          refine lv_topi (fun v_12 ev_12 => ?_)
          have hix : v_12 = nI (64 * mm + j) := by subst_vars; exact ix64
          refine lv_sipush (v := 1024) hx hb d_M_prepare_28 (by decide) ?_
          refine va_iast hx hb hK hP hD hS 3 0 rfl rfl (by rw [hix]; exact vp_in_nI (by omega) (by decide)) d_M_prepare_31 (fun H locs hP hD hS => ?_)
          have hP : va_P (dC, dI) vwCl [(o, Sum.inr (9, mO g fForm fShift fModels fItems fEnded fLow fRange fCache fPend fGoes fOuts fIns fReads fBad fIR fAsk fBAsk fCode fRL fRR fX fWrites fThrown)), ((g 0), Sum.inl (cI, 8, Sum.inl vMany)), ((g 1), Sum.inl (cI, 512, Sum.inl vCounts)), (a, Sum.inl (cI, 512, Sum.inl (upd fL v_12.toNatClampNeg 1024)))] H := hP
          have hD : va_D A [(o, Sum.inr (9, mO g fForm fShift fModels fItems fEnded fLow fRange fCache fPend fGoes fOuts fIns fReads fBad fIR fAsk fBAsk fCode fRL fRR fX fWrites fThrown)), ((g 0), Sum.inl (cI, 8, Sum.inl vMany)), ((g 1), Sum.inl (cI, 512, Sum.inl vCounts)), (a, Sum.inl (cI, 512, Sum.inl (upd fL v_12.toNatClampNeg 1024)))] := hD
          obtain ⟨v_13, ev_13⟩ : ∃ y : Int32, y = i9 + (1) := ⟨_, rfl⟩
          refine lv_iinc (v := v_13) (lv' := [(4, Value.int v_13), (3, Value.int v_1), (0, Value.ref o), (1, Value.ref a), (2, Value.int (nI mm))]) hx hb d_M_prepare_32 hl (k := 0) rfl (by rw [ev_13]; rfl) (by decide) rfl (fun ls hl => ?_)
          refine lv_goto (tgt := 16) hx hb d_M_prepare_35 (by decide) ?_
          exact ih9_16 _ (by first | omega | (omega)) (upd fL v_12.toNatClampNeg 1024) v_13 (j + 1) rfl (sgM_st hL hj2 (by rw [hix]; exact nI_clamp (by omega)) rfl) (by subst_vars; exact nI_1 j) (by omega) H locs ls (hP.sub [0, 1, 2, 3] rfl) (hD.sub [0, 1, 2, 3] (by decide +kernel) rfl) hS (lv_sub hl [0, 1, 2, 3, 4] rfl)
    exact J_16 _ f 0 0 rfl (sgM_0 _ _ _ _) (rfl) (Nat.zero_le _) H locs ls (hP.sub [0, 1, 2, 3] rfl) (hD.sub [0, 1, 2, 3] (by decide +kernel) rfl) hS (lv_sub hl [0, 1, 2, 3, 4] rfl)

