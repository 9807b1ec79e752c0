set_option maxHeartbeats 2000000 in
set_option maxRecDepth 100000 in
theorem c_M_take (l : Launch) (dC : Nat → ClassId) (dI : Nat → Nat → Nat) (cI cM cO : ClassId) (sz : Nat) (o : Nat) (g : Nat → Nat) (fForm : Int32) (fShift : Int32) (fModels : Int32) (fItems : Int32) (fEnded : Int32) (fLow : Int64) (fRange : Int64) (fCache : Int32) (fPend : Int32) (fGoes : Int32) (fOuts : Int32) (fIns : Int32) (fReads : Int32) (fBad : Int32) (fIR : Int32) (fAsk : Int32) (fBAsk : Int32) (fCode : Int64) (fRL : Int64) (fRR : Int64) (fX : Int64) (fWrites : Int32) (fThrown : Int32) (vOut : Nat → Int32) (vIn : Nat → Int32) (p1 : Int32) (hIN : IN fIns vIn) (hOU : OU fOuts vOut) : MetI l y_M_take (Cond.code y_M_take prog_14_method_38_code 4 (some .int) :: gw) ({ frames := 0, cells := 0, slots := 0, locals := 0 } : Room) (dC, dI) vwCl (kT cI cM cO) [.ref o, .int p1] [(o, .inr (9, mO g fForm fShift fModels fItems fEnded fLow fRange fCache fPend fGoes fOuts fIns fReads fBad fIR fAsk fBAsk fCode fRL fRR fX fWrites fThrown)), ((g 7), .inl (cI, 9000, .inl vOut)), ((g 8), .inl (cI, 6000, .inl vIn))] sz (fun (r : Int32) (u : Int32 × Int32 × Int32 × (Nat → Int32)) => IN u.1 u.2.2.2 ∧ (fReads = 0 → u.2.1 = 0)) (fun (u : Int32 × Int32 × Int32 × (Nat → Int32)) => [(o, .inr (9, mO g fForm fShift fModels fItems fEnded fLow fRange fCache fPend fGoes fOuts u.1 u.2.1 fBad fIR fAsk fBAsk fCode fRL fRR fX fWrites u.2.2.1)), ((g 7), .inl (cI, 9000, .inl vOut)), ((g 8), .inl (cI, 6000, .inl u.2.2.2))]) 0 0 := by
  refine my_ofI (cc := prog_14_method_38_code) (n := 4) (ret := (some .int)) (by decide) rfl (Nat.le_of_ble_eq_true rfl) ?_
  intro p e s m args below meth c R Q A ls H locs hx hb hr hts hown hlocks hml hnm hR hQ hA hl hP hK hN hD hS
  have hg : ∀ w ∈ gw, w.before args s = true := fun w h => hts w (List.mem_cons_of_mem _ h)
  have hown : s.vm.findClass "RangeCodersModel" = some m.cls := hown
  have hl : lv_has ls 4 [(0, .ref o), (1, .int p1)] := hl
  obtain ⟨os, rfl, hO, hos, hoo⟩ := hOU
  have hP : va_P (dC, dI) vwCl [(o, .inr (9, mO g fForm fShift fModels fItems fEnded fLow fRange fCache fPend fGoes (nI os.length) fIns fReads fBad fIR fAsk fBAsk fCode fRL fRR fX fWrites fThrown)), ((g 7), .inl (cI, 9000, .inl vOut)), ((g 8), .inl (cI, 6000, .inl vIn))] H := hP
  have hD : va_D A [(o, .inr (9, mO g fForm fShift fModels fItems fEnded fLow fRange fCache fPend fGoes (nI os.length) fIns fReads fBad fIR fAsk fBAsk fCode fRL fRR fX fWrites fThrown)), ((g 7), .inl (cI, 9000, .inl vOut)), ((g 8), .inl (cI, 6000, .inl vIn))] := hD
  have hl : lv_has ls 4 [(0, .ref o), (1, .int p1)] := hl
  refine lv_aload_n hx hb d_M_take_0 rfl (lv_at hl 0 rfl) ?_
  refine lv_iconst (v := 0) hx hb d_M_take_1 (by decide) ?_
  refine va_put (D := (dC, dI)) (ci := 9) (v := .int 0) (ty := .int) (C := "RangeCodersModel") (T := T_M) (N := 35) hx hb hg in_M t_M o_M n_M hown hK hP hD hS 0 rfl rfl 34 (by decide) (hg _ k986) (fun _ h9 => h9) rfl (by decide +kernel) rfl rfl (Nat.le_of_ble_eq_true rfl) d_M_take_2 (fun H locs hP hD hS => ?_)
  have hP : va_P (dC, dI) vwCl [(o, .inr (9, mO g fForm fShift fModels fItems fEnded fLow fRange fCache fPend fGoes (nI os.length) fIns fReads fBad fIR fAsk fBAsk fCode fRL fRR fX fWrites 0)), ((g 7), .inl (cI, 9000, .inl vOut)), ((g 8), .inl (cI, 6000, .inl vIn))] H := hP
  have hD : va_D A [(o, .inr (9, mO g fForm fShift fModels fItems fEnded fLow fRange fCache fPend fGoes (nI os.length) fIns fReads fBad fIR fAsk fBAsk fCode fRL fRR fX fWrites 0)), ((g 7), .inl (cI, 9000, .inl vOut)), ((g 8), .inl (cI, 6000, .inl vIn))] := hD
  refine lv_iload_n hx hb d_M_take_5 rfl (lv_at hl 1 rfl) ?_
  refine lv_if_lt (tgt := 24) hx hb d_M_take_6 (by decide) (fun c_1 => ?_) (fun c_1 => ?_)
  · refine lv_bipush (v := (-2)) hx hb d_M_take_24 (by decide) ?_
    exact my_iret (v := (-2)) hx hb hr (rfl) hlocks hQ hK hS (Nat.le_refl _) (Nat.le_refl _) (fIns, fReads, (0 : Int32), vIn) (⟨hIN, fun z9 => z9⟩) (hP.sub [0, 1, 2] rfl) (hD.sub [0, 1, 2] (by decide) rfl) d_M_take_26
  · refine lv_iload_n hx hb d_M_take_9 rfl (lv_at hl 1 rfl) ?_
    refine lv_iconst (v := 1) hx hb d_M_take_10 (by decide) ?_
    refine lv_icmp_le (tgt := 27) hx hb d_M_take_11 (by decide) (fun c_2 => ?_) (fun c_2 => ?_)
    · have J_66 : ∀ (nn : Nat) (hn1 : nn ≤ os.length) (hn2 : nn ≤ 6000) (H : Heap) (locs : List Loc) (ls : Array Slot), va_P (dC, dI) vwCl [(o, .inr (9, mO g fForm fShift fModels fItems fEnded fLow fRange fCache fPend fGoes (nI os.length) fIns fReads fBad fIR fAsk fBAsk fCode fRL fRR fX fWrites 0)), ((g 7), .inl (cI, 9000, .inl vOut)), ((g 8), .inl (cI, 6000, .inl vIn))] H → va_D A [(o, .inr (9, mO g fForm fShift fModels fItems fEnded fLow fRange fCache fPend fGoes (nI os.length) fIns fReads fBad fIR fAsk fBAsk fCode fRL fRR fX fWrites 0)), ((g 7), .inl (cI, 9000, .inl vOut)), ((g 8), .inl (cI, 6000, .inl vIn))] → va_S A s.heap H locs → lv_has ls 4 [(2, .int (nI nn)), (0, .ref o), (1, .int p1)] → W p l e R s m args below meth c H locs 0 0 Q (F0 m 66 ls []) := by
        intro nn hn1 hn2 H locs ls hP hD hS hl
        refine lv_iconst (v := 0) hx hb d_M_take_66 (by decide) ?_
        refine lv_istore_n (lv' := [(3, .int 0), (2, .int (nI nn)), (0, .ref o), (1, .int p1)]) hx hb d_M_take_67 rfl hl (by decide) rfl (fun ls hl => ?_)
        have J_68 : ∀ (n9_68 : Nat) (kk : Nat) (fI : Nat → Int32) (hn9_68 : nn - kk = n9_68) (hkk : kk ≤ nn) (hc : ∀ i, i < kk → fI i = vOut i) (H : Heap) (locs : List Loc) (ls : Array Slot), va_P (dC, dI) vwCl [(o, .inr (9, mO g fForm fShift fModels fItems fEnded fLow fRange fCache fPend fGoes (nI os.length) fIns fReads fBad fIR fAsk fBAsk fCode fRL fRR fX fWrites 0)), ((g 7), .inl (cI, 9000, .inl vOut)), ((g 8), .inl (cI, 6000, .inl fI))] H → va_D A [(o, .inr (9, mO g fForm fShift fModels fItems fEnded fLow fRange fCache fPend fGoes (nI os.length) fIns fReads fBad fIR fAsk fBAsk fCode fRL fRR fX fWrites 0)), ((g 7), .inl (cI, 9000, .inl vOut)), ((g 8), .inl (cI, 6000, .inl fI))] → va_S A s.heap H locs → lv_has ls 4 [(3, .int (nI kk)), (2, .int (nI nn)), (0, .ref o), (1, .int p1)] → W p l e R s m args below meth c H locs 0 0 Q (F0 m 68 ls []) := by
          intro n9_68
          induction n9_68 using Nat.strongRecOn with
          | ind n9_68 ih9_68 =>
            intro kk fI hn9_68 hkk hc H locs ls hP hD hS hl
            refine lv_iload_n hx hb d_M_take_68 rfl (lv_at hl 0 rfl) ?_
            refine lv_iload_n hx hb d_M_take_69 rfl (lv_at hl 1 rfl) ?_
            refine lv_icmp_ge (tgt := 91) hx hb d_M_take_70 (by decide) (fun c_3 => ?_) (fun c_3 => ?_)
            · have hkn : kk = nn := by have := (nI_cmp (a := nn) (b := kk) (by omega) (by omega)).mp c_3; omega
              subst hkn
              refine lv_aload_n hx hb d_M_take_91 rfl (lv_at hl 2 rfl) ?_
              refine lv_iload_n hx hb d_M_take_92 rfl (lv_at hl 1 rfl) ?_
              refine va_put (D := (dC, dI)) (ci := 9) (v := .int (nI kk)) (ty := .int) (C := "RangeCodersModel") (T := T_M) (N := 35) hx hb hg in_M t_M o_M n_M hown hK hP hD hS 0 rfl rfl 20 (by decide) (hg _ k972) (fun _ h9 => h9) rfl (by decide +kernel) rfl rfl (Nat.le_of_ble_eq_true rfl) d_M_take_93 (fun H locs hP hD hS => ?_)
              have hP : va_P (dC, dI) vwCl [(o, .inr (9, mO g fForm fShift fModels fItems fEnded fLow fRange fCache fPend fGoes (nI os.length) (nI kk) fReads fBad fIR fAsk fBAsk fCode fRL fRR fX fWrites 0)), ((g 7), .inl (cI, 9000, .inl vOut)), ((g 8), .inl (cI, 6000, .inl fI))] H := hP
              have hD : va_D A [(o, .inr (9, mO g fForm fShift fModels fItems fEnded fLow fRange fCache fPend fGoes (nI os.length) (nI kk) fReads fBad fIR fAsk fBAsk fCode fRL fRR fX fWrites 0)), ((g 7), .inl (cI, 9000, .inl vOut)), ((g 8), .inl (cI, 6000, .inl fI))] := hD
              refine lv_aload_n hx hb d_M_take_96 rfl (lv_at hl 2 rfl) ?_
              refine lv_iconst (v := 0) hx hb d_M_take_97 (by decide) ?_
              refine va_put (D := (dC, dI)) (ci := 9) (v := .int 0) (ty := .boolean) (C := "RangeCodersModel") (T := T_M) (N := 35) hx hb hg in_M t_M o_M n_M hown hK hP hD hS 0 rfl rfl 21 (by decide) (hg _ k973) (fun _ h9 => h9) rfl (by decide +kernel) rfl rfl (Nat.le_of_ble_eq_true rfl) d_M_take_98 (fun H locs hP hD hS => ?_)
              have hP : va_P (dC, dI) vwCl [(o, .inr (9, mO g fForm fShift fModels fItems fEnded fLow fRange fCache fPend fGoes (nI os.length) (nI kk) 0 fBad fIR fAsk fBAsk fCode fRL fRR fX fWrites 0)), ((g 7), .inl (cI, 9000, .inl vOut)), ((g 8), .inl (cI, 6000, .inl fI))] H := hP
              have hD : va_D A [(o, .inr (9, mO g fForm fShift fModels fItems fEnded fLow fRange fCache fPend fGoes (nI os.length) (nI kk) 0 fBad fIR fAsk fBAsk fCode fRL fRR fX fWrites 0)), ((g 7), .inl (cI, 9000, .inl vOut)), ((g 8), .inl (cI, 6000, .inl fI))] := hD
              refine lv_aload_n hx hb d_M_take_101 rfl (lv_at hl 2 rfl) ?_
              refine va_get (D := (dC, dI)) (ci := 9) (v := .int (nI kk)) (C := "RangeCodersModel") (T := T_M) (N := 35) hx hb hg in_M hown hK hP 0 rfl rfl 20 (by decide) (hg _ k972) (fun _ h9 => h9) rfl d_M_take_102 ?_
              exact my_iret (v := nI kk) hx hb hr (rfl) hlocks hQ hK hS (Nat.le_refl _) (Nat.le_refl _) (nI kk, (0 : Int32), (0 : Int32), fI) (⟨IN_take hO hoo hn1 hn2 hc, fun _ => rfl⟩) (hP.sub [0, 1, 2] rfl) (hD.sub [0, 1, 2] (by decide) rfl) d_M_take_105
            · have hkl : kk < nn := by
                rcases Nat.lt_or_ge kk nn with z | z
                · exact z
                · exact absurd (nI_le z (by omega)) c_3
              refine lv_aload_n hx hb d_M_take_73 rfl (lv_at hl 2 rfl) ?_
              refine va_get (D := (dC, dI)) (ci := 9) (v := .ref (g 8)) (C := "RangeCodersModel") (T := T_M) (N := 35) hx hb hg in_M hown hK hP 0 rfl rfl 19 (by decide) (hg _ k971) (fun _ h9 => h9) rfl d_M_take_74 ?_
              refine lv_iload_n hx hb d_M_take_77 rfl (lv_at hl 0 rfl) ?_
              refine lv_aload_n hx hb d_M_take_78 rfl (lv_at hl 2 rfl) ?_
              refine va_get (D := (dC, dI)) (ci := 9) (v := .ref (g 7)) (C := "RangeCodersModel") (T := T_M) (N := 35) hx hb hg in_M hown hK hP 0 rfl rfl 17 (by decide) (hg _ k969) (fun _ h9 => h9) rfl d_M_take_79 ?_
              refine lv_iload_n hx hb d_M_take_82 rfl (lv_at hl 0 rfl) ?_
              refine va_iald hx hb hK hP 1 0 rfl rfl (vp_in_nI (by omega) (by decide)) d_M_take_83 ?_
              refine lv_topi (fun v_4 ev_4 => ?_)
              refine va_iast hx hb hK hP hD hS 2 0 rfl rfl (vp_in_nI (by omega) (by decide)) d_M_take_84 (fun H locs hP hD hS => ?_)
              have hP : va_P (dC, dI) vwCl [(o, .inr (9, mO g fForm fShift fModels fItems fEnded fLow fRange fCache fPend fGoes (nI os.length) fIns fReads fBad fIR fAsk fBAsk fCode fRL fRR fX fWrites 0)), ((g 7), .inl (cI, 9000, .inl vOut)), ((g 8), .inl (cI, 6000, .inl (upd fI (nI kk).toNatClampNeg v_4)))] H := hP
              have hD : va_D A [(o, .inr (9, mO g fForm fShift fModels fItems fEnded fLow fRange fCache fPend fGoes (nI os.length) fIns fReads fBad fIR fAsk fBAsk fCode fRL fRR fX fWrites 0)), ((g 7), .inl (cI, 9000, .inl vOut)), ((g 8), .inl (cI, 6000, .inl (upd fI (nI kk).toNatClampNeg v_4)))] := hD
              have hc8 : ∀ i, i < kk + 1 → (upd fI (nI kk).toNatClampNeg v_4) i = vOut i := cp_st hc (nI_clamp (by omega)) (by rw [ev_4, nI_clamp (by omega)])
              obtain ⟨v_5, ev_5⟩ : ∃ y : Int32, y = (nI kk) + (1) := ⟨_, rfl⟩
              refine lv_iinc (v := v_5) (lv' := [(3, .int v_5), (2, .int (nI nn)), (0, .ref o), (1, .int p1)]) hx hb d_M_take_85 hl (k := 0) rfl (by rw [ev_5]; rfl) (by decide) rfl (fun ls hl => ?_)
              have z9 : v_5 = nI (kk + 1) := by rw [ev_5]; exact nI_1 _
              subst z9
              refine lv_goto (tgt := 68) hx hb d_M_take_88 (by decide) ?_
              exact ih9_68 _ (by first | omega | (omega)) (kk + 1) (upd fI (nI kk).toNatClampNeg v_4) rfl (by omega) (hc8) H locs ls (hP.sub [0, 1, 2] rfl) (hD.sub [0, 1, 2] (by decide) rfl) hS (lv_sub hl [0, 1, 2, 3] rfl)
        exact J_68 _ (0 : Nat) vIn rfl (Nat.zero_le _) (fun _ z => absurd z (Nat.not_lt_zero _)) H locs ls (hP.sub [0, 1, 2] rfl) (hD.sub [0, 1, 2] (by decide) rfl) hS (lv_sub hl [0, 1, 2, 3] rfl)
      refine lv_iload_n hx hb d_M_take_27 rfl (lv_at hl 1 rfl) ?_
      refine lv_if_ne (tgt := 35) hx hb d_M_take_28 (by decide) (fun c_6 => ?_) (fun c_6 => ?_)
      · refine lv_iload_n hx hb d_M_take_35 rfl (lv_at hl 1 rfl) ?_
        refine lv_iconst (v := 1) hx hb d_M_take_36 (by decide) ?_
        refine lv_icmp_ne (tgt := 47) hx hb d_M_take_37 (by decide) (fun c_7 => ?_) (fun c_7 => ?_)
        · exact absurd (n01 c_2 c_1 c_6 c_7) id
        · refine lv_aload_n hx hb d_M_take_40 rfl (lv_at hl 0 rfl) ?_
          refine va_get (D := (dC, dI)) (ci := 9) (v := .int (nI os.length)) (C := "RangeCodersModel") (T := T_M) (N := 35) hx hb hg in_M hown hK hP 0 rfl rfl 18 (by decide) (hg _ k970) (fun _ h9 => h9) rfl d_M_take_41 ?_
          refine lv_goto (tgt := 50) hx hb d_M_take_44 (by decide) ?_
          refine lv_istore_n (lv' := [(2, .int (nI os.length)), (0, .ref o), (1, .int p1)]) hx hb d_M_take_50 rfl hl (by decide) rfl (fun ls hl => ?_)
          refine lv_iload_n hx hb d_M_take_51 rfl (lv_at hl 0 rfl) ?_
          refine lv_sipush (v := 6000) hx hb d_M_take_52 (by decide) ?_
          refine lv_icmp_le (tgt := 64) hx hb d_M_take_55 (by decide) (fun c_8 => ?_) (fun c_8 => ?_)
          · refine lv_iload_n hx hb d_M_take_64 rfl (lv_at hl 0 rfl) ?_
            have h55 : os.length ≤ 6000 := (nI_cmp (b := 6000) (by omega) (by decide)).mp c_8
            refine lv_istore_n (lv' := [(2, .int (nI os.length)), (0, .ref o), (1, .int p1)]) hx hb d_M_take_65 rfl hl (by decide) rfl (fun ls hl => ?_)
            exact J_66 os.length (by omega) (by omega) H locs ls (hP.sub [0, 1, 2] rfl) (hD.sub [0, 1, 2] (by decide) rfl) hS (lv_sub hl [0, 1, 2] rfl)
          · refine lv_sipush (v := 6000) hx hb d_M_take_58 (by decide) ?_
            refine lv_goto (tgt := 65) hx hb d_M_take_61 (by decide) ?_
            have h55 : ¬ os.length ≤ 6000 := fun z => c_8 ((nI_cmp (b := 6000) (by omega) (by decide)).mpr z)
            refine lv_istore_n (lv' := [(2, .int 6000), (0, .ref o), (1, .int p1)]) hx hb d_M_take_65 rfl hl (by decide) rfl (fun ls hl => ?_)
            exact J_66 (6000 : Nat) (by omega) (by omega) H locs ls (hP.sub [0, 1, 2] rfl) (hD.sub [0, 1, 2] (by decide) rfl) hS (lv_sub hl [0, 1, 2] rfl)
      · refine lv_iconst (v := 0) hx hb d_M_take_31 (by decide) ?_
        refine lv_goto (tgt := 50) hx hb d_M_take_32 (by decide) ?_
        refine lv_istore_n (lv' := [(2, .int 0), (0, .ref o), (1, .int p1)]) hx hb d_M_take_50 rfl hl (by decide) rfl (fun ls hl => ?_)
        refine lv_iload_n hx hb d_M_take_51 rfl (lv_at hl 0 rfl) ?_
        refine lv_sipush (v := 6000) hx hb d_M_take_52 (by decide) ?_
        refine lv_icmp_le (tgt := 64) hx hb d_M_take_55 (by decide) (fun c_9 => ?_) (fun c_9 => ?_)
        · refine lv_iload_n hx hb d_M_take_64 rfl (lv_at hl 0 rfl) ?_
          refine lv_istore_n (lv' := [(2, .int 0), (0, .ref o), (1, .int p1)]) hx hb d_M_take_65 rfl hl (by decide) rfl (fun ls hl => ?_)
          exact J_66 (0 : Nat) (by omega) (by omega) H locs ls (hP.sub [0, 1, 2] rfl) (hD.sub [0, 1, 2] (by decide) rfl) hS (lv_sub hl [0, 1, 2] rfl)
        · exact absurd (by decide) c_9
    · refine lv_iload_n hx hb d_M_take_14 rfl (lv_at hl 1 rfl) ?_
      refine lv_iconst (v := 2) hx hb d_M_take_15 (by decide) ?_
      refine lv_isub hx hb d_M_take_16 ?_
      refine lv_topi (fun v_10 ev_10 => ?_)
      refine lv_aload_n hx hb d_M_take_17 rfl (lv_at hl 0 rfl) ?_
      refine va_get (D := (dC, dI)) (ci := 9) (v := .int (nI os.length)) (C := "RangeCodersModel") (T := T_M) (N := 35) hx hb hg in_M hown hK hP 0 rfl rfl 18 (by decide) (hg _ k970) (fun _ h9 => h9) rfl d_M_take_18 ?_
      refine lv_icmp_le (tgt := 27) hx hb d_M_take_21 (by decide) (fun c_11 => ?_) (fun c_11 => ?_)
      · have J_66 : ∀ (nn : Nat) (hn1 : nn ≤ os.length) (hn2 : nn ≤ 6000) (H : Heap) (locs : List Loc) (ls : Array Slot), va_P (dC, dI) vwCl [(o, .inr (9, mO g fForm fShift fModels fItems fEnded fLow fRange fCache fPend fGoes (nI os.length) fIns fReads fBad fIR fAsk fBAsk fCode fRL fRR fX fWrites 0)), ((g 7), .inl (cI, 9000, .inl vOut)), ((g 8), .inl (cI, 6000, .inl vIn))] H → va_D A [(o, .inr (9, mO g fForm fShift fModels fItems fEnded fLow fRange fCache fPend fGoes (nI os.length) fIns fReads fBad fIR fAsk fBAsk fCode fRL fRR fX fWrites 0)), ((g 7), .inl (cI, 9000, .inl vOut)), ((g 8), .inl (cI, 6000, .inl vIn))] → va_S A s.heap H locs → lv_has ls 4 [(2, .int (nI nn)), (0, .ref o), (1, .int p1)] → W p l e R s m args below meth c H locs 0 0 Q (F0 m 66 ls []) := by
          intro nn hn1 hn2 H locs ls hP hD hS hl
          refine lv_iconst (v := 0) hx hb d_M_take_66 (by decide) ?_
          refine lv_istore_n (lv' := [(3, .int 0), (2, .int (nI nn)), (0, .ref o), (1, .int p1)]) hx hb d_M_take_67 rfl hl (by decide) rfl (fun ls hl => ?_)
          have J_68 : ∀ (n9_68 : Nat) (kk : Nat) (fI : Nat → Int32) (hn9_68 : nn - kk = n9_68) (hkk : kk ≤ nn) (hc : ∀ i, i < kk → fI i = vOut i) (H : Heap) (locs : List Loc) (ls : Array Slot), va_P (dC, dI) vwCl [(o, .inr (9, mO g fForm fShift fModels fItems fEnded fLow fRange fCache fPend fGoes (nI os.length) fIns fReads fBad fIR fAsk fBAsk fCode fRL fRR fX fWrites 0)), ((g 7), .inl (cI, 9000, .inl vOut)), ((g 8), .inl (cI, 6000, .inl fI))] H → va_D A [(o, .inr (9, mO g fForm fShift fModels fItems fEnded fLow fRange fCache fPend fGoes (nI os.length) fIns fReads fBad fIR fAsk fBAsk fCode fRL fRR fX fWrites 0)), ((g 7), .inl (cI, 9000, .inl vOut)), ((g 8), .inl (cI, 6000, .inl fI))] → va_S A s.heap H locs → lv_has ls 4 [(3, .int (nI kk)), (2, .int (nI nn)), (0, .ref o), (1, .int p1)] → W p l e R s m args below meth c H locs 0 0 Q (F0 m 68 ls []) := by
            intro n9_68
            induction n9_68 using Nat.strongRecOn with
            | ind n9_68 ih9_68 =>
              intro kk fI hn9_68 hkk hc H locs ls hP hD hS hl
              refine lv_iload_n hx hb d_M_take_68 rfl (lv_at hl 0 rfl) ?_
              refine lv_iload_n hx hb d_M_take_69 rfl (lv_at hl 1 rfl) ?_
              refine lv_icmp_ge (tgt := 91) hx hb d_M_take_70 (by decide) (fun c_12 => ?_) (fun c_12 => ?_)
              · have hkn : kk = nn := by have := (nI_cmp (a := nn) (b := kk) (by omega) (by omega)).mp c_12; omega
                subst hkn
                refine lv_aload_n hx hb d_M_take_91 rfl (lv_at hl 2 rfl) ?_
                refine lv_iload_n hx hb d_M_take_92 rfl (lv_at hl 1 rfl) ?_
                refine va_put (D := (dC, dI)) (ci := 9) (v := .int (nI kk)) (ty := .int) (C := "RangeCodersModel") (T := T_M) (N := 35) hx hb hg in_M t_M o_M n_M hown hK hP hD hS 0 rfl rfl 20 (by decide) (hg _ k972) (fun _ h9 => h9) rfl (by decide +kernel) rfl rfl (Nat.le_of_ble_eq_true rfl) d_M_take_93 (fun H locs hP hD hS => ?_)
                have hP : va_P (dC, dI) vwCl [(o, .inr (9, mO g fForm fShift fModels fItems fEnded fLow fRange fCache fPend fGoes (nI os.length) (nI kk) fReads fBad fIR fAsk fBAsk fCode fRL fRR fX fWrites 0)), ((g 7), .inl (cI, 9000, .inl vOut)), ((g 8), .inl (cI, 6000, .inl fI))] H := hP
                have hD : va_D A [(o, .inr (9, mO g fForm fShift fModels fItems fEnded fLow fRange fCache fPend fGoes (nI os.length) (nI kk) fReads fBad fIR fAsk fBAsk fCode fRL fRR fX fWrites 0)), ((g 7), .inl (cI, 9000, .inl vOut)), ((g 8), .inl (cI, 6000, .inl fI))] := hD
                refine lv_aload_n hx hb d_M_take_96 rfl (lv_at hl 2 rfl) ?_
                refine lv_iconst (v := 0) hx hb d_M_take_97 (by decide) ?_
                refine va_put (D := (dC, dI)) (ci := 9) (v := .int 0) (ty := .boolean) (C := "RangeCodersModel") (T := T_M) (N := 35) hx hb hg in_M t_M o_M n_M hown hK hP hD hS 0 rfl rfl 21 (by decide) (hg _ k973) (fun _ h9 => h9) rfl (by decide +kernel) rfl rfl (Nat.le_of_ble_eq_true rfl) d_M_take_98 (fun H locs hP hD hS => ?_)
                have hP : va_P (dC, dI) vwCl [(o, .inr (9, mO g fForm fShift fModels fItems fEnded fLow fRange fCache fPend fGoes (nI os.length) (nI kk) 0 fBad fIR fAsk fBAsk fCode fRL fRR fX fWrites 0)), ((g 7), .inl (cI, 9000, .inl vOut)), ((g 8), .inl (cI, 6000, .inl fI))] H := hP
                have hD : va_D A [(o, .inr (9, mO g fForm fShift fModels fItems fEnded fLow fRange fCache fPend fGoes (nI os.length) (nI kk) 0 fBad fIR fAsk fBAsk fCode fRL fRR fX fWrites 0)), ((g 7), .inl (cI, 9000, .inl vOut)), ((g 8), .inl (cI, 6000, .inl fI))] := hD
                refine lv_aload_n hx hb d_M_take_101 rfl (lv_at hl 2 rfl) ?_
                refine va_get (D := (dC, dI)) (ci := 9) (v := .int (nI kk)) (C := "RangeCodersModel") (T := T_M) (N := 35) hx hb hg in_M hown hK hP 0 rfl rfl 20 (by decide) (hg _ k972) (fun _ h9 => h9) rfl d_M_take_102 ?_
                exact my_iret (v := nI kk) hx hb hr (rfl) hlocks hQ hK hS (Nat.le_refl _) (Nat.le_refl _) (nI kk, (0 : Int32), (0 : Int32), fI) (⟨IN_take hO hoo hn1 hn2 hc, fun _ => rfl⟩) (hP.sub [0, 1, 2] rfl) (hD.sub [0, 1, 2] (by decide) rfl) d_M_take_105
              · have hkl : kk < nn := by
                  rcases Nat.lt_or_ge kk nn with z | z
                  · exact z
                  · exact absurd (nI_le z (by omega)) c_12
                refine lv_aload_n hx hb d_M_take_73 rfl (lv_at hl 2 rfl) ?_
                refine va_get (D := (dC, dI)) (ci := 9) (v := .ref (g 8)) (C := "RangeCodersModel") (T := T_M) (N := 35) hx hb hg in_M hown hK hP 0 rfl rfl 19 (by decide) (hg _ k971) (fun _ h9 => h9) rfl d_M_take_74 ?_
                refine lv_iload_n hx hb d_M_take_77 rfl (lv_at hl 0 rfl) ?_
                refine lv_aload_n hx hb d_M_take_78 rfl (lv_at hl 2 rfl) ?_
                refine va_get (D := (dC, dI)) (ci := 9) (v := .ref (g 7)) (C := "RangeCodersModel") (T := T_M) (N := 35) hx hb hg in_M hown hK hP 0 rfl rfl 17 (by decide) (hg _ k969) (fun _ h9 => h9) rfl d_M_take_79 ?_
                refine lv_iload_n hx hb d_M_take_82 rfl (lv_at hl 0 rfl) ?_
                refine va_iald hx hb hK hP 1 0 rfl rfl (vp_in_nI (by omega) (by decide)) d_M_take_83 ?_
                refine lv_topi (fun v_13 ev_13 => ?_)
                refine va_iast hx hb hK hP hD hS 2 0 rfl rfl (vp_in_nI (by omega) (by decide)) d_M_take_84 (fun H locs hP hD hS => ?_)
                have hP : va_P (dC, dI) vwCl [(o, .inr (9, mO g fForm fShift fModels fItems fEnded fLow fRange fCache fPend fGoes (nI os.length) fIns fReads fBad fIR fAsk fBAsk fCode fRL fRR fX fWrites 0)), ((g 7), .inl (cI, 9000, .inl vOut)), ((g 8), .inl (cI, 6000, .inl (upd fI (nI kk).toNatClampNeg v_13)))] H := hP
                have hD : va_D A [(o, .inr (9, mO g fForm fShift fModels fItems fEnded fLow fRange fCache fPend fGoes (nI os.length) fIns fReads fBad fIR fAsk fBAsk fCode fRL fRR fX fWrites 0)), ((g 7), .inl (cI, 9000, .inl vOut)), ((g 8), .inl (cI, 6000, .inl (upd fI (nI kk).toNatClampNeg v_13)))] := hD
                have hc8 : ∀ i, i < kk + 1 → (upd fI (nI kk).toNatClampNeg v_13) i = vOut i := cp_st hc (nI_clamp (by omega)) (by rw [ev_13, nI_clamp (by omega)])
                obtain ⟨v_14, ev_14⟩ : ∃ y : Int32, y = (nI kk) + (1) := ⟨_, rfl⟩
                refine lv_iinc (v := v_14) (lv' := [(3, .int v_14), (2, .int (nI nn)), (0, .ref o), (1, .int p1)]) hx hb d_M_take_85 hl (k := 0) rfl (by rw [ev_14]; rfl) (by decide) rfl (fun ls hl => ?_)
                have z9 : v_14 = nI (kk + 1) := by rw [ev_14]; exact nI_1 _
                subst z9
                refine lv_goto (tgt := 68) hx hb d_M_take_88 (by decide) ?_
                exact ih9_68 _ (by first | omega | (omega)) (kk + 1) (upd fI (nI kk).toNatClampNeg v_13) rfl (by omega) (hc8) H locs ls (hP.sub [0, 1, 2] rfl) (hD.sub [0, 1, 2] (by decide) rfl) hS (lv_sub hl [0, 1, 2, 3] rfl)
          exact J_68 _ (0 : Nat) vIn rfl (Nat.zero_le _) (fun _ z => absurd z (Nat.not_lt_zero _)) H locs ls (hP.sub [0, 1, 2] rfl) (hD.sub [0, 1, 2] (by decide) rfl) hS (lv_sub hl [0, 1, 2, 3] rfl)
        refine lv_iload_n hx hb d_M_take_27 rfl (lv_at hl 1 rfl) ?_
        refine lv_if_ne (tgt := 35) hx hb d_M_take_28 (by decide) (fun c_15 => ?_) (fun c_15 => ?_)
        · refine lv_iload_n hx hb d_M_take_35 rfl (lv_at hl 1 rfl) ?_
          refine lv_iconst (v := 1) hx hb d_M_take_36 (by decide) ?_
          refine lv_icmp_ne (tgt := 47) hx hb d_M_take_37 (by decide) (fun c_16 => ?_) (fun c_16 => ?_)
          · refine lv_iload_n hx hb d_M_take_47 rfl (lv_at hl 1 rfl) ?_
            refine lv_iconst (v := 2) hx hb d_M_take_48 (by decide) ?_
            refine lv_isub hx hb d_M_take_49 ?_
            refine lv_topi (fun v_17 ev_17 => ?_)
            obtain ⟨k9, hk9, ek9⟩ := nI_sub2 hos c_1 c_15 c_16 (by rw [← ev_10]; exact c_11)
            have z9 : v_17 = nI k9 := by rw [ev_17]; exact ek9
            subst z9
            refine lv_istore_n (lv' := [(2, .int (nI k9)), (0, .ref o), (1, .int p1)]) hx hb d_M_take_50 rfl hl (by decide) rfl (fun ls hl => ?_)
            refine lv_iload_n hx hb d_M_take_51 rfl (lv_at hl 0 rfl) ?_
            refine lv_sipush (v := 6000) hx hb d_M_take_52 (by decide) ?_
            refine lv_icmp_le (tgt := 64) hx hb d_M_take_55 (by decide) (fun c_18 => ?_) (fun c_18 => ?_)
            · refine lv_iload_n hx hb d_M_take_64 rfl (lv_at hl 0 rfl) ?_
              have h55 : k9 ≤ 6000 := (nI_cmp (b := 6000) (by omega) (by decide)).mp c_18
              refine lv_istore_n (lv' := [(2, .int (nI k9)), (0, .ref o), (1, .int p1)]) hx hb d_M_take_65 rfl hl (by decide) rfl (fun ls hl => ?_)
              exact J_66 k9 (by omega) (by omega) H locs ls (hP.sub [0, 1, 2] rfl) (hD.sub [0, 1, 2] (by decide) rfl) hS (lv_sub hl [0, 1, 2] rfl)
            · refine lv_sipush (v := 6000) hx hb d_M_take_58 (by decide) ?_
              refine lv_goto (tgt := 65) hx hb d_M_take_61 (by decide) ?_
              have h55 : ¬ k9 ≤ 6000 := fun z => c_18 ((nI_cmp (b := 6000) (by omega) (by decide)).mpr z)
              refine lv_istore_n (lv' := [(2, .int 6000), (0, .ref o), (1, .int p1)]) hx hb d_M_take_65 rfl hl (by decide) rfl (fun ls hl => ?_)
              exact J_66 (6000 : Nat) (by omega) (by omega) H locs ls (hP.sub [0, 1, 2] rfl) (hD.sub [0, 1, 2] (by decide) rfl) hS (lv_sub hl [0, 1, 2] rfl)
          · refine lv_aload_n hx hb d_M_take_40 rfl (lv_at hl 0 rfl) ?_
            refine va_get (D := (dC, dI)) (ci := 9) (v := .int (nI os.length)) (C := "RangeCodersModel") (T := T_M) (N := 35) hx hb hg in_M hown hK hP 0 rfl rfl 18 (by decide) (hg _ k970) (fun _ h9 => h9) rfl d_M_take_41 ?_
            refine lv_goto (tgt := 50) hx hb d_M_take_44 (by decide) ?_
            refine lv_istore_n (lv' := [(2, .int (nI os.length)), (0, .ref o), (1, .int p1)]) hx hb d_M_take_50 rfl hl (by decide) rfl (fun ls hl => ?_)
            refine lv_iload_n hx hb d_M_take_51 rfl (lv_at hl 0 rfl) ?_
            refine lv_sipush (v := 6000) hx hb d_M_take_52 (by decide) ?_
            refine lv_icmp_le (tgt := 64) hx hb d_M_take_55 (by decide) (fun c_19 => ?_) (fun c_19 => ?_)
            · refine lv_iload_n hx hb d_M_take_64 rfl (lv_at hl 0 rfl) ?_
              have h55 : os.length ≤ 6000 := (nI_cmp (b := 6000) (by omega) (by decide)).mp c_19
              refine lv_istore_n (lv' := [(2, .int (nI os.length)), (0, .ref o), (1, .int p1)]) hx hb d_M_take_65 rfl hl (by decide) rfl (fun ls hl => ?_)
              exact J_66 os.length (by omega) (by omega) H locs ls (hP.sub [0, 1, 2] rfl) (hD.sub [0, 1, 2] (by decide) rfl) hS (lv_sub hl [0, 1, 2] rfl)
            · refine lv_sipush (v := 6000) hx hb d_M_take_58 (by decide) ?_
              refine lv_goto (tgt := 65) hx hb d_M_take_61 (by decide) ?_
              have h55 : ¬ os.length ≤ 6000 := fun z => c_19 ((nI_cmp (b := 6000) (by omega) (by decide)).mpr z)
              refine lv_istore_n (lv' := [(2, .int 6000), (0, .ref o), (1, .int p1)]) hx hb d_M_take_65 rfl hl (by decide) rfl (fun ls hl => ?_)
              exact J_66 (6000 : Nat) (by omega) (by omega) H locs ls (hP.sub [0, 1, 2] rfl) (hD.sub [0, 1, 2] (by decide) rfl) hS (lv_sub hl [0, 1, 2] rfl)
        · refine lv_iconst (v := 0) hx hb d_M_take_31 (by decide) ?_
          refine lv_goto (tgt := 50) hx hb d_M_take_32 (by decide) ?_
          refine lv_istore_n (lv' := [(2, .int 0), (0, .ref o), (1, .int p1)]) hx hb d_M_take_50 rfl hl (by decide) rfl (fun ls hl => ?_)
          refine lv_iload_n hx hb d_M_take_51 rfl (lv_at hl 0 rfl) ?_
          refine lv_sipush (v := 6000) hx hb d_M_take_52 (by decide) ?_
          refine lv_icmp_le (tgt := 64) hx hb d_M_take_55 (by decide) (fun c_20 => ?_) (fun c_20 => ?_)
          · refine lv_iload_n hx hb d_M_take_64 rfl (lv_at hl 0 rfl) ?_
            refine lv_istore_n (lv' := [(2, .int 0), (0, .ref o), (1, .int p1)]) hx hb d_M_take_65 rfl hl (by decide) rfl (fun ls hl => ?_)
            exact J_66 (0 : Nat) (by omega) (by omega) H locs ls (hP.sub [0, 1, 2] rfl) (hD.sub [0, 1, 2] (by decide) rfl) hS (lv_sub hl [0, 1, 2] rfl)
          · exact absurd (by decide) c_20
      · refine lv_bipush (v := (-2)) hx hb d_M_take_24 (by decide) ?_
        exact my_iret (v := (-2)) hx hb hr (rfl) hlocks hQ hK hS (Nat.le_refl _) (Nat.le_refl _) (fIns, fReads, (0 : Int32), vIn) (⟨hIN, fun z9 => z9⟩) (hP.sub [0, 1, 2] rfl) (hD.sub [0, 1, 2] (by decide) rfl) d_M_take_26
