set_option maxHeartbeats 2000000 in
set_option maxRecDepth 100000 in
theorem c_M_octets (l : Launch) (dC : Nat → ClassId) (dI : Nat → Nat → Nat) (cI cM cO : ClassId) (sz : Nat) (o : Nat) (g : Nat → Nat) (fForm : Int32) (fShift : Int32) (fModels : Int32) (fItems : Int32) (fEnded : Int32) (fLow : Int64) (fRange : Int64) (fCache : Int32) (fPend : Int32) (fGoes : Int32) (fOuts : Int32) (fIns : Int32) (fReads : Int32) (fBad : Int32) (fIR : Int32) (fAsk : Int32) (fBAsk : Int32) (fCode : Int64) (fRL : Int64) (fRR : Int64) (fX : Int64) (fWrites : Int32) (fThrown : Int32) (vIn : Nat → Int32) (p1 : Int32) (hIN : IN fIns vIn) : MetI l y_M_octets (Cond.code y_M_octets prog_14_method_37_code 3 (some .int) :: gw) ({ frames := 0, cells := 0, slots := 0, locals := 0 } : Room) (dC, dI) vwCl (kT cI cM cO) [.ref o, .int p1] [(o, .inr (9, mO g fForm fShift fModels fItems fEnded fLow fRange fCache fPend fGoes fOuts fIns fReads fBad fIR fAsk fBAsk fCode fRL fRR fX fWrites fThrown)), ((g 8), .inl (cI, 6000, .inl vIn))] sz (fun (r : Int32) (u : Int32 × Int32 × (Nat → Int32)) => IN u.1 u.2.2) (fun (u : Int32 × Int32 × (Nat → Int32)) => [(o, .inr (9, mO g fForm fShift fModels fItems fEnded fLow fRange fCache fPend fGoes fOuts u.1 fReads fBad fIR fAsk fBAsk fCode fRL fRR fX fWrites u.2.1)), ((g 8), .inl (cI, 6000, .inl u.2.2))]) 0 0 := by
  refine my_ofI (cc := prog_14_method_37_code) (n := 3) (ret := (some .int)) (by decide) rfl (Nat.le_of_ble_eq_true rfl) ?_
  intro p e s m args below meth c R Q A ls H locs hx hb hr hts hown hlocks hml hnm hR hQ hA hl hP hK hN hD hS
  have hg : ∀ w ∈ gw, w.before args s = true := fun w h => hts w (List.mem_cons_of_mem _ h)
  have hown : s.vm.findClass "RangeCodersModel" = some m.cls := hown
  have hl : lv_has ls 3 [(0, .ref o), (1, .int p1)] := hl
  obtain ⟨is, rfl, hI, hlen, hoct⟩ := hIN
  have hP : va_P (dC, dI) vwCl [(o, .inr (9, mO g fForm fShift fModels fItems fEnded fLow fRange fCache fPend fGoes fOuts (nI is.length) fReads fBad fIR fAsk fBAsk fCode fRL fRR fX fWrites fThrown)), ((g 8), .inl (cI, 6000, .inl vIn))] H := hP
  have hD : va_D A [(o, .inr (9, mO g fForm fShift fModels fItems fEnded fLow fRange fCache fPend fGoes fOuts (nI is.length) fReads fBad fIR fAsk fBAsk fCode fRL fRR fX fWrites fThrown)), ((g 8), .inl (cI, 6000, .inl vIn))] := hD
  have hl : lv_has ls 3 [(0, .ref o), (1, .int p1)] := hl
  refine lv_aload_n hx hb d_M_octets_0 rfl (lv_at hl 0 rfl) ?_
  refine lv_iconst (v := 0) hx hb d_M_octets_1 (by decide) ?_
  refine va_put (D := (dC, dI)) (ci := 9) (v := .int 0) (ty := .int) (C := "RangeCodersModel") (T := T_M) (N := 35) hx hb hg in_M t_M o_M n_M hown hK hP hD hS 0 rfl rfl 34 (by decide) (hg _ k986) (fun _ h9 => h9) rfl (by decide +kernel) rfl rfl (Nat.le_of_ble_eq_true rfl) d_M_octets_2 (fun H locs hP hD hS => ?_)
  have hP : va_P (dC, dI) vwCl [(o, .inr (9, mO g fForm fShift fModels fItems fEnded fLow fRange fCache fPend fGoes fOuts (nI is.length) fReads fBad fIR fAsk fBAsk fCode fRL fRR fX fWrites 0)), ((g 8), .inl (cI, 6000, .inl vIn))] H := hP
  have hD : va_D A [(o, .inr (9, mO g fForm fShift fModels fItems fEnded fLow fRange fCache fPend fGoes fOuts (nI is.length) fReads fBad fIR fAsk fBAsk fCode fRL fRR fX fWrites 0)), ((g 8), .inl (cI, 6000, .inl vIn))] := hD
  refine lv_aload_n hx hb d_M_octets_5 rfl (lv_at hl 0 rfl) ?_
  refine va_get (D := (dC, dI)) (ci := 9) (v := .int (nI is.length)) (C := "RangeCodersModel") (T := T_M) (N := 35) hx hb hg in_M hown hK hP 0 rfl rfl 20 (by decide) (hg _ k972) (fun _ h9 => h9) rfl d_M_octets_6 ?_
  refine lv_iconst (v := 4) hx hb d_M_octets_9 (by decide) ?_
  refine lv_iadd hx hb d_M_octets_10 ?_
  refine lv_topi (fun v_1 ev_1 => ?_)
  refine lv_sipush (v := 6000) hx hb d_M_octets_11 (by decide) ?_
  refine lv_icmp_le (tgt := 20) hx hb d_M_octets_14 (by decide) (fun c_2 => ?_) (fun c_2 => ?_)
  · have hl6 : is.length + 4 ≤ 6000 := by
      rw [ev_1, show (4 : Int32) = nI 4 from rfl, nI_add] at c_2
      have := (nI_cmp (b := 6000) (by omega) (by decide)).mp c_2
      exact this
    refine lv_iconst (v := 3) hx hb d_M_octets_20 (by decide) ?_
    refine lv_istore_n (lv' := [(2, .int 3), (0, .ref o), (1, .int p1)]) hx hb d_M_octets_21 rfl hl (by decide) rfl (fun ls hl => ?_)
    have J_22 : ∀ (n9_22 : Nat) (k9 : Int32) (is9 : List Nat) (fI : Nat → Int32) (hn9_22 : (k9.toInt + 1).toNat = n9_22) (hI9 : gIs fI is9) (ho9 : oct is9) (hk9 : -1 ≤ k9.toInt) (hl9 : (is9.length : Int) + k9.toInt + 1 ≤ 6000) (H : Heap) (locs : List Loc) (ls : Array Slot), va_P (dC, dI) vwCl [(o, .inr (9, mO g fForm fShift fModels fItems fEnded fLow fRange fCache fPend fGoes fOuts (nI is9.length) fReads fBad fIR fAsk fBAsk fCode fRL fRR fX fWrites 0)), ((g 8), .inl (cI, 6000, .inl fI))] H → va_D A [(o, .inr (9, mO g fForm fShift fModels fItems fEnded fLow fRange fCache fPend fGoes fOuts (nI is9.length) fReads fBad fIR fAsk fBAsk fCode fRL fRR fX fWrites 0)), ((g 8), .inl (cI, 6000, .inl fI))] → va_S A s.heap H locs → lv_has ls 3 [(2, .int k9), (0, .ref o), (1, .int p1)] → W p l e R s m args below meth c H locs 0 0 Q (F0 m 22 ls []) := by
      intro n9_22
      induction n9_22 using Nat.strongRecOn with
      | ind n9_22 ih9_22 =>
        intro k9 is9 fI hn9_22 hI9 ho9 hk9 hl9 H locs ls hP hD hS hl
        refine lv_iload_n hx hb d_M_octets_22 rfl (lv_at hl 0 rfl) ?_
        refine lv_if_lt (tgt := 61) hx hb d_M_octets_23 (by decide) (fun c_3 => ?_) (fun c_3 => ?_)
        · refine lv_aload_n hx hb d_M_octets_61 rfl (lv_at hl 1 rfl) ?_
          refine va_get (D := (dC, dI)) (ci := 9) (v := .int (nI is9.length)) (C := "RangeCodersModel") (T := T_M) (N := 35) hx hb hg in_M hown hK hP 0 rfl rfl 20 (by decide) (hg _ k972) (fun _ h9 => h9) rfl d_M_octets_62 ?_
          exact my_iret (v := nI is9.length) hx hb hr (rfl) hlocks hQ hK hS (Nat.le_refl _) (Nat.le_refl _) (nI is9.length, (0 : Int32), fI) (⟨is9, rfl, hI9, by omega, ho9⟩) (hP.sub [0, 1] rfl) (hD.sub [0, 1] (by decide) rfl) d_M_octets_65
        · refine lv_aload_n hx hb d_M_octets_26 rfl (lv_at hl 1 rfl) ?_
          refine va_get (D := (dC, dI)) (ci := 9) (v := .ref (g 8)) (C := "RangeCodersModel") (T := T_M) (N := 35) hx hb hg in_M hown hK hP 0 rfl rfl 19 (by decide) (hg _ k971) (fun _ h9 => h9) rfl d_M_octets_27 ?_
          refine lv_aload_n hx hb d_M_octets_30 rfl (lv_at hl 1 rfl) ?_
          refine va_get (D := (dC, dI)) (ci := 9) (v := .int (nI is9.length)) (C := "RangeCodersModel") (T := T_M) (N := 35) hx hb hg in_M hown hK hP 0 rfl rfl 20 (by decide) (hg _ k972) (fun _ h9 => h9) rfl d_M_octets_31 ?_
          refine lv_iload_n hx hb d_M_octets_34 rfl (lv_at hl 2 rfl) ?_
          refine lv_bipush (v := 8) hx hb d_M_octets_35 (by decide) ?_
          refine lv_iload_n hx hb d_M_octets_37 rfl (lv_at hl 0 rfl) ?_
          refine lv_imul hx hb d_M_octets_38 ?_
          refine lv_topi (fun v_4 ev_4 => ?_)
          refine lv_ishr hx hb d_M_octets_39 ?_
          refine lv_topi (fun v_5 ev_5 => ?_)
          refine lv_sipush (v := 255) hx hb d_M_octets_40 (by decide) ?_
          refine lv_iand hx hb d_M_octets_43 ?_
          refine lv_topi (fun v_6 ev_6 => ?_)
          obtain ⟨x9, hx9, ex9⟩ := and255 v_5
          have hv9 : v_6 = nI x9 := by rw [ev_6]; exact ex9
          have hd9 := I_dn1 (v := k9 + (-1)) c_3 rfl
          refine va_iast hx hb hK hP hD hS 1 0 rfl rfl (vp_in_nI (by omega) (by decide)) d_M_octets_44 (fun H locs hP hD hS => ?_)
          have hP : va_P (dC, dI) vwCl [(o, .inr (9, mO g fForm fShift fModels fItems fEnded fLow fRange fCache fPend fGoes fOuts (nI is9.length) fReads fBad fIR fAsk fBAsk fCode fRL fRR fX fWrites 0)), ((g 8), .inl (cI, 6000, .inl (upd fI (nI is9.length).toNatClampNeg v_6)))] H := hP
          have hD : va_D A [(o, .inr (9, mO g fForm fShift fModels fItems fEnded fLow fRange fCache fPend fGoes fOuts (nI is9.length) fReads fBad fIR fAsk fBAsk fCode fRL fRR fX fWrites 0)), ((g 8), .inl (cI, 6000, .inl (upd fI (nI is9.length).toNatClampNeg v_6)))] := hD
          have hI8 : gIs (upd fI (nI is9.length).toNatClampNeg v_6) (is9 ++ [x9]) := gIs_up hI9 (nI_clamp (by omega)) hv9
          have ho8 : oct (is9 ++ [x9]) := oct_app ho9 (oct_one hx9)
          refine lv_aload_n hx hb d_M_octets_45 rfl (lv_at hl 1 rfl) ?_
          refine lv_dup hx hb d_M_octets_46 rfl ?_
          refine va_get (D := (dC, dI)) (ci := 9) (v := .int (nI is9.length)) (C := "RangeCodersModel") (T := T_M) (N := 35) hx hb hg in_M hown hK hP 0 rfl rfl 20 (by decide) (hg _ k972) (fun _ h9 => h9) rfl d_M_octets_47 ?_
          refine lv_iconst (v := 1) hx hb d_M_octets_50 (by decide) ?_
          refine lv_iadd hx hb d_M_octets_51 ?_
          refine lv_topi (fun v_7 ev_7 => ?_)
          have z9 : v_7 = nI (is9 ++ [x9]).length := by rw [ev_7, List.length_append]; exact nI_1 _
          subst z9
          refine va_put (D := (dC, dI)) (ci := 9) (v := .int (nI (is9 ++ [x9]).length)) (ty := .int) (C := "RangeCodersModel") (T := T_M) (N := 35) hx hb hg in_M t_M o_M n_M hown hK hP hD hS 0 rfl rfl 20 (by decide) (hg _ k972) (fun _ h9 => h9) rfl (by decide +kernel) rfl rfl (Nat.le_of_ble_eq_true rfl) d_M_octets_52 (fun H locs hP hD hS => ?_)
          have hP : va_P (dC, dI) vwCl [(o, .inr (9, mO g fForm fShift fModels fItems fEnded fLow fRange fCache fPend fGoes fOuts (nI (is9 ++ [x9]).length) fReads fBad fIR fAsk fBAsk fCode fRL fRR fX fWrites 0)), ((g 8), .inl (cI, 6000, .inl (upd fI (nI is9.length).toNatClampNeg v_6)))] H := hP
          have hD : va_D A [(o, .inr (9, mO g fForm fShift fModels fItems fEnded fLow fRange fCache fPend fGoes fOuts (nI (is9 ++ [x9]).length) fReads fBad fIR fAsk fBAsk fCode fRL fRR fX fWrites 0)), ((g 8), .inl (cI, 6000, .inl (upd fI (nI is9.length).toNatClampNeg v_6)))] := hD
          obtain ⟨v_8, ev_8⟩ : ∃ y : Int32, y = k9 + (-1) := ⟨_, rfl⟩
          refine lv_iinc (v := v_8) (lv' := [(2, .int v_8), (0, .ref o), (1, .int p1)]) hx hb d_M_octets_55 hl (k := 0) rfl (by rw [ev_8]; rfl) (by decide) rfl (fun ls hl => ?_)
          rw [← ev_8] at hd9
          refine lv_goto (tgt := 22) hx hb d_M_octets_58 (by decide) ?_
          exact ih9_22 _ (by first | omega | (omega)) v_8 (is9 ++ [x9]) (upd fI (nI is9.length).toNatClampNeg v_6) rfl (hI8) (ho8) (by omega) (by rw [List.length_append, List.length_singleton]; omega) H locs ls (hP.sub [0, 1] rfl) (hD.sub [0, 1] (by decide) rfl) hS (lv_sub hl [0, 1, 2] rfl)
    exact J_22 _ (3 : Int32) is vIn rfl (hI) (hoct) (by decide) (by have e3 : (3 : Int32).toInt = 3 := rfl; omega) H locs ls (hP.sub [0, 1] rfl) (hD.sub [0, 1] (by decide) rfl) hS (lv_sub hl [0, 1, 2] rfl)
  · refine lv_bipush (v := (-4)) hx hb d_M_octets_17 (by decide) ?_
    exact my_iret (v := (-4)) hx hb hr (rfl) hlocks hQ hK hS (Nat.le_refl _) (Nat.le_refl _) ((nI is.length), (0 : Int32), vIn) (⟨is, rfl, hI, hlen, hoct⟩) (hP.sub [0, 1] rfl) (hD.sub [0, 1] (by decide) rfl) d_M_octets_19
