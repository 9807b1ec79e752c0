section
set_option maxHeartbeats 2000000 in
set_option maxRecDepth 100000 in
theorem m_end0B (l : Launch) (dC : Nat → ClassId) (dI : Nat → Nat → Nat) (cI cM cO : ClassId) (sz : Nat) (o : Nat) (g : Nat → Nat) (fShift : Int32) (fModels : Int32) (fItems : Int32) (fOuts : Int32) (fIns : Int32) (fReads : Int32) (fBad : Int32) (fIR : Int32) (fAsk : Int32) (fBAsk : Int32) (fCode : Int64) (fRL : Int64) (fRR : Int64) (fX : Int64) (fWrites : Int32) (fThrown : Int32) (vGoing : Nat → Int32) (vOut : Nat → Int32) (Rg : Nat) (L : Nat) (ca : Option Nat) (Pn : Nat) (bs : List Nat) (hE : eOk (Rg, L, ca, Pn, bs)) (hG : gIs vGoing bs) (hN9 : bs.length + Pn ≤ 8000) : MetI l y_M_end (Cond.code y_M_end prog_14_method_31_code 2 (some .int) :: gw) ({ frames := 2, cells := 0, slots := 0, locals := 42 } : Room) (dC, dI) vwCl (kT cI cM cO) [Value.ref o] [(o, Sum.inr (9, mO g 0 fShift fModels fItems 0 (lN L) (lN Rg) (caI ca) (nI Pn) (nI bs.length) fOuts fIns fReads fBad fIR fAsk fBAsk fCode fRL fRR fX fWrites fThrown)), ((g 6), Sum.inl (cI, 9000, Sum.inl vGoing)), ((g 7), Sum.inl (cI, 9000, Sum.inl vOut))] sz (fun (r : Int32) (u : (Nat → Int32) × (Nat → Int32) × Int64 × Int64 × Int32 × Int32 × Int32 × Int32) => r = nI (eB (shK 5 (Rg, L, ca, Pn, bs))).length ∧ u.2.2.2.2.2.2.2 = nI (eB (shK 5 (Rg, L, ca, Pn, bs))).length ∧ gIs u.2.1 (eB (shK 5 (Rg, L, ca, Pn, bs)))) (fun (u : (Nat → Int32) × (Nat → Int32) × Int64 × Int64 × Int32 × Int32 × Int32 × Int32) => [(o, Sum.inr (9, mO g 0 fShift fModels fItems 1 u.2.2.1 u.2.2.2.1 u.2.2.2.2.1 u.2.2.2.2.2.1 u.2.2.2.2.2.2.1 u.2.2.2.2.2.2.2 fIns fReads fBad fIR fAsk fBAsk fCode fRL fRR fX fWrites 0)), ((g 6), Sum.inl (cI, 9000, Sum.inl u.1)), ((g 7), Sum.inl (cI, 9000, Sum.inl u.2.1))]) 0 0 := by
  refine my_ofI (cc := prog_14_method_31_code) (n := 2) (ret := (some .int)) (by decide) rfl (Nat.le_of_ble_eq_true rfl) ?_
  intro p e s m args below meth c R Q A ls H locs hx hb hr hts hown hlocks hml hnm hR hQ hA hl hP hK hN hD hS
  have hg : ∀ w ∈ gw, w.before args s = true := fun w h => hts w (List.mem_cons_of_mem _ h)
  have hown : s.vm.findClass "RangeCodersModel" = some m.cls := hown
  have hl : lv_has ls 2 [(0, Value.ref o)] := hl
  refine lv_aload_n hx hb d_M_end_0 rfl (lv_at hl 0 rfl) ?_
  refine lv_iconst (v := 0) hx hb d_M_end_1 (by decide) ?_
  refine va_put (D := (dC, dI)) (ci := 9) (v := .int 0) (ty := .int) (C := "RangeCodersModel") (T := T_M) (N := 35) hx hb hg in_M t_M o_M n_M hown hK hP hD hS 0 rfl rfl 34 (by decide) (hg _ k986) (fun _ h9 => h9) rfl (o_M 34 (by decide)) rfl rfl (Nat.le_of_ble_eq_true rfl) d_M_end_2 (fun H locs hP hD hS => ?_)
  have hPD : my_PD (dC, dI) vwCl A [(o, Sum.inr (9, mO g 0 fShift fModels fItems 0 (lN L) (lN Rg) (caI ca) (nI Pn) (nI bs.length) fOuts fIns fReads fBad fIR fAsk fBAsk fCode fRL fRR fX fWrites 0)), ((g 6), Sum.inl (cI, 9000, Sum.inl vGoing)), ((g 7), Sum.inl (cI, 9000, Sum.inl vOut))] H := ⟨hP, hD⟩
  have hP := hPD.1
  have hD := hPD.2
  refine lv_aload_n hx hb d_M_end_5 rfl (lv_at hl 0 rfl) ?_
  refine va_get (D := (dC, dI)) (ci := 9) (v := .int 0) (C := "RangeCodersModel") (T := T_M) (N := 35) hx hb hg in_M hown hK hP 0 rfl rfl 10 (by decide) (hg _ k962) (fun _ h9 => h9) rfl d_M_end_6 ?_
  refine lv_if_eq (tgt := 15) hx hb d_M_end_9 (by decide) (fun c_1 => ?_) (fun c_1 => ?_)
  · refine lv_aload_n hx hb d_M_end_15 rfl (lv_at hl 0 rfl) ?_
    refine lv_iconst (v := 1) hx hb d_M_end_16 (by decide) ?_
    refine va_put (D := (dC, dI)) (ci := 9) (v := .int 1) (ty := .boolean) (C := "RangeCodersModel") (T := T_M) (N := 35) hx hb hg in_M t_M o_M n_M hown hK hP hD hS 0 rfl rfl 10 (by decide) (hg _ k962) (fun _ h9 => h9) rfl (o_M 10 (by decide)) rfl rfl (Nat.le_of_ble_eq_true rfl) d_M_end_17 (fun H locs hP hD hS => ?_)
    have hPD : my_PD (dC, dI) vwCl A [(o, Sum.inr (9, mO g 0 fShift fModels fItems 1 (lN L) (lN Rg) (caI ca) (nI Pn) (nI bs.length) fOuts fIns fReads fBad fIR fAsk fBAsk fCode fRL fRR fX fWrites 0)), ((g 6), Sum.inl (cI, 9000, Sum.inl vGoing)), ((g 7), Sum.inl (cI, 9000, Sum.inl vOut))] H := ⟨hP, hD⟩
    have hP := hPD.1
    have hD := hPD.2
    refine lv_aload_n hx hb d_M_end_20 rfl (lv_at hl 0 rfl) ?_
    refine va_get (D := (dC, dI)) (ci := 9) (v := .int 0) (C := "RangeCodersModel") (T := T_M) (N := 35) hx hb hg in_M hown hK hP 0 rfl rfl 0 (by decide) (hg _ k952) (fun _ h9 => h9) rfl d_M_end_21 ?_
    refine lv_if_eq (tgt := 35) hx hb d_M_end_24 (by decide) (fun c_2 => ?_) (fun c_2 => ?_)
    · refine lv_iconst (v := 0) hx hb d_M_end_35 (by decide) ?_
      refine lv_istore_n (lv' := [(1, Value.int 0), (0, Value.ref o)]) hx hb d_M_end_36 rfl hl (by decide) rfl (fun ls hl => ?_)
      have J_37 : ∀ (n9_37 : Nat) (jj : Nat) (e9 : ES) (fG : Nat → Int32) (hn9_37 : 5 - jj = n9_37) (hjj : jj ≤ 5) (hE9 : shK 5 (Rg, L, ca, Pn, bs) = shK (5 - jj) e9) (he9 : eOk e9) (hG9 : gIs fG (eB e9)) (hN8 : eN e9 ≤ 8001 + jj) (H : Heap) (locs : List Loc) (ls : Array Slot), va_P (dC, dI) vwCl [(o, Sum.inr (9, mO g 0 fShift fModels fItems 1 (lN (eL e9)) (lN (eR e9)) (caI (eC e9)) (nI (eP e9)) (nI (eB e9).length) fOuts fIns fReads fBad fIR fAsk fBAsk fCode fRL fRR fX fWrites 0)), ((g 6), Sum.inl (cI, 9000, Sum.inl fG)), ((g 7), Sum.inl (cI, 9000, Sum.inl vOut))] H → va_D A [(o, Sum.inr (9, mO g 0 fShift fModels fItems 1 (lN (eL e9)) (lN (eR e9)) (caI (eC e9)) (nI (eP e9)) (nI (eB e9).length) fOuts fIns fReads fBad fIR fAsk fBAsk fCode fRL fRR fX fWrites 0)), ((g 6), Sum.inl (cI, 9000, Sum.inl fG)), ((g 7), Sum.inl (cI, 9000, Sum.inl vOut))] → va_S A s.heap H locs → lv_has ls 2 [(1, Value.int (nI jj)), (0, Value.ref o)] → W p l e R s m args below meth c H locs 0 0 Q (F0 m 37 ls []) := by
        intro n9_37
        induction n9_37 using Nat.strongRecOn with
        | ind n9_37 ih9_37 =>
          intro jj e9 fG hn9_37 hjj hE9 he9 hG9 hN8 H locs ls hP hD hS hl
          refine lv_iload_n hx hb d_M_end_37 rfl (lv_at hl 0 rfl) ?_
          refine lv_iconst (v := 5) hx hb d_M_end_38 (by decide) ?_
          refine lv_icmp_ge (tgt := 52) hx hb d_M_end_39 (by decide) (fun c_3 => ?_) (fun c_3 => ?_)
          · refine lv_goto (tgt := 125) hx hb d_M_end_52 (by decide) ?_
            have hl9 : (eB e9).length ≤ 8006 := by unfold eN at hN8; omega
            have hj5 : jj = 5 := by have := nI_ge' (n := 5) (by omega) (by decide) c_3; omega
            have hB9 : eB (shK 5 (Rg, L, ca, Pn, bs)) = eB e9 := by rw [hE9, hj5]; rfl
            refine lv_aload_n hx hb d_M_end_125 rfl (lv_at hl 1 rfl) ?_
            refine lv_aload_n hx hb d_M_end_126 rfl (lv_at hl 1 rfl) ?_
            refine va_get (D := (dC, dI)) (ci := 9) (v := .int (nI (eB e9).length)) (C := "RangeCodersModel") (T := T_M) (N := 35) hx hb hg in_M hown hK hP 0 rfl rfl 16 (by decide) (hg _ k968) (fun _ h9 => h9) rfl d_M_end_127 ?_
            refine va_put (D := (dC, dI)) (ci := 9) (v := .int (nI (eB e9).length)) (ty := .int) (C := "RangeCodersModel") (T := T_M) (N := 35) hx hb hg in_M t_M o_M n_M hown hK hP hD hS 0 rfl rfl 18 (by decide) (hg _ k970) (fun _ h9 => h9) rfl (o_M 18 (by decide)) rfl rfl (Nat.le_of_ble_eq_true rfl) d_M_end_130 (fun H locs hP hD hS => ?_)
            have hPD : my_PD (dC, dI) vwCl A [(o, Sum.inr (9, mO g 0 fShift fModels fItems 1 (lN (eL e9)) (lN (eR e9)) (caI (eC e9)) (nI (eP e9)) (nI (eB e9).length) (nI (eB e9).length) fIns fReads fBad fIR fAsk fBAsk fCode fRL fRR fX fWrites 0)), ((g 6), Sum.inl (cI, 9000, Sum.inl fG)), ((g 7), Sum.inl (cI, 9000, Sum.inl vOut))] H := ⟨hP, hD⟩
            have hP := hPD.1
            have hD := hPD.2
            refine lv_iconst (v := 0) hx hb d_M_end_133 (by decide) ?_
            refine lv_istore_n (lv' := [(1, Value.int 0), (0, Value.ref o)]) hx hb d_M_end_134 rfl hl (by decide) rfl (fun ls hl => ?_)
            have J_135 : ∀ (n9_135 : Nat) (kk : Nat) (fO : Nat → Int32) (hn9_135 : (eB e9).length - kk = n9_135) (hkk : kk ≤ (eB e9).length) (hc : ∀ i, i < kk → fO i = fG i) (H : Heap) (locs : List Loc) (ls : Array Slot), va_P (dC, dI) vwCl [(o, Sum.inr (9, mO g 0 fShift fModels fItems 1 (lN (eL e9)) (lN (eR e9)) (caI (eC e9)) (nI (eP e9)) (nI (eB e9).length) (nI (eB e9).length) fIns fReads fBad fIR fAsk fBAsk fCode fRL fRR fX fWrites 0)), ((g 6), Sum.inl (cI, 9000, Sum.inl fG)), ((g 7), Sum.inl (cI, 9000, Sum.inl fO))] H → va_D A [(o, Sum.inr (9, mO g 0 fShift fModels fItems 1 (lN (eL e9)) (lN (eR e9)) (caI (eC e9)) (nI (eP e9)) (nI (eB e9).length) (nI (eB e9).length) fIns fReads fBad fIR fAsk fBAsk fCode fRL fRR fX fWrites 0)), ((g 6), Sum.inl (cI, 9000, Sum.inl fG)), ((g 7), Sum.inl (cI, 9000, Sum.inl fO))] → va_S A s.heap H locs → lv_has ls 2 [(1, Value.int (nI kk)), (0, Value.ref o)] → W p l e R s m args below meth c H locs 0 0 Q (F0 m 135 ls []) := by
              intro n9_135
              induction n9_135 using Nat.strongRecOn with
              | ind n9_135 ih9_135 =>
                intro kk fO hn9_135 hkk hc H locs ls hP hD hS hl
                refine lv_iload_n hx hb d_M_end_135 rfl (lv_at hl 0 rfl) ?_
                refine lv_aload_n hx hb d_M_end_136 rfl (lv_at hl 1 rfl) ?_
                refine va_get (D := (dC, dI)) (ci := 9) (v := .int (nI (eB e9).length)) (C := "RangeCodersModel") (T := T_M) (N := 35) hx hb hg in_M hown hK hP 0 rfl rfl 16 (by decide) (hg _ k968) (fun _ h9 => h9) rfl d_M_end_137 ?_
                refine lv_icmp_ge (tgt := 161) hx hb d_M_end_140 (by decide) (fun c_4 => ?_) (fun c_4 => ?_)
                · have hkn : kk = (eB e9).length := by have := (nI_cmp (a := (eB e9).length) (b := kk) (by omega) (by omega)).mp c_4; omega
                  subst hkn
                  refine lv_aload_n hx hb d_M_end_161 rfl (lv_at hl 1 rfl) ?_
                  refine va_get (D := (dC, dI)) (ci := 9) (v := .int (nI (eB e9).length)) (C := "RangeCodersModel") (T := T_M) (N := 35) hx hb hg in_M hown hK hP 0 rfl rfl 18 (by decide) (hg _ k970) (fun _ h9 => h9) rfl d_M_end_162 ?_
                  exact my_iret (v := nI (eB e9).length) hx hb hr (rfl) hlocks hQ hK hS (Nat.le_refl _) (Nat.le_refl _) (fG, fO, lN (eL e9), lN (eR e9), caI (eC e9), nI (eP e9), nI (eB e9).length, nI (eB e9).length) (⟨by rw [hB9], by rw [hB9], by rw [hB9]; exact gIs_cp hG9 hc⟩) (hP.sub [0, 1, 2] rfl) (hD.sub [0, 1, 2] (by decide +kernel) rfl) d_M_end_165
                · have hkl : kk < (eB e9).length := by
                    rcases Nat.lt_or_ge kk (eB e9).length with z | z
                    · exact z
                    · exact absurd (nI_le z (by omega)) c_4
                  refine lv_aload_n hx hb d_M_end_143 rfl (lv_at hl 1 rfl) ?_
                  refine va_get (D := (dC, dI)) (ci := 9) (v := .ref (g 7)) (C := "RangeCodersModel") (T := T_M) (N := 35) hx hb hg in_M hown hK hP 0 rfl rfl 17 (by decide) (hg _ k969) (fun _ h9 => h9) rfl d_M_end_144 ?_
                  refine lv_iload_n hx hb d_M_end_147 rfl (lv_at hl 0 rfl) ?_
                  refine lv_aload_n hx hb d_M_end_148 rfl (lv_at hl 1 rfl) ?_
                  refine va_get (D := (dC, dI)) (ci := 9) (v := .ref (g 6)) (C := "RangeCodersModel") (T := T_M) (N := 35) hx hb hg in_M hown hK hP 0 rfl rfl 15 (by decide) (hg _ k967) (fun _ h9 => h9) rfl d_M_end_149 ?_
                  refine lv_iload_n hx hb d_M_end_152 rfl (lv_at hl 0 rfl) ?_
                  refine va_iald hx hb hK hP 1 0 rfl rfl (vp_in_nI (by omega) (by decide)) d_M_end_153 ?_
                  refine lv_topi (fun v_5 ev_5 => ?_)
                  refine va_iast hx hb hK hP hD hS 2 0 rfl rfl (vp_in_nI (by omega) (by decide)) d_M_end_154 (fun H locs hP hD hS => ?_)
                  have hPD : my_PD (dC, dI) vwCl A [(o, Sum.inr (9, mO g 0 fShift fModels fItems 1 (lN (eL e9)) (lN (eR e9)) (caI (eC e9)) (nI (eP e9)) (nI (eB e9).length) (nI (eB e9).length) fIns fReads fBad fIR fAsk fBAsk fCode fRL fRR fX fWrites 0)), ((g 6), Sum.inl (cI, 9000, Sum.inl fG)), ((g 7), Sum.inl (cI, 9000, Sum.inl (upd fO (nI kk).toNatClampNeg v_5)))] H := ⟨hP, hD⟩
                  have hP := hPD.1
                  have hD := hPD.2
                  have hc8 : ∀ i, i < kk + 1 → (upd fO (nI kk).toNatClampNeg v_5) i = fG i := cp_st hc (nI_clamp (by omega)) (by rw [ev_5, nI_clamp (by omega)])
                  obtain ⟨v_6, ev_6⟩ : ∃ y : Int32, y = (nI kk) + (1) := ⟨_, rfl⟩
                  refine lv_iinc (v := v_6) (lv' := [(1, Value.int v_6), (0, Value.ref o)]) hx hb d_M_end_155 hl (k := 0) rfl (by rw [ev_6]; rfl) (by decide) rfl (fun ls hl => ?_)
                  have z9 : v_6 = nI (kk + 1) := by rw [ev_6]; exact nI_1 _
                  subst z9
                  refine lv_goto (tgt := 135) hx hb d_M_end_158 (by decide) ?_
                  exact ih9_135 _ (by first | omega | (omega)) (kk + 1) (upd fO (nI kk).toNatClampNeg v_5) rfl (by omega) (hc8) H locs ls (hP.sub [0, 1, 2] rfl) (hD.sub [0, 1, 2] (by decide +kernel) rfl) hS (lv_sub hl [0, 1] rfl)
            exact J_135 _ (0 : Nat) vOut rfl (Nat.zero_le _) (fun _ z => absurd z (Nat.not_lt_zero _)) H locs ls (hP.sub [0, 1, 2] rfl) (hD.sub [0, 1, 2] (by decide +kernel) rfl) hS (lv_sub hl [0, 1] rfl)
          · have hjl : jj < 5 := by
              rcases Nat.lt_or_ge jj 5 with z | z
              · exact z
              · exact absurd (nI_le (a := 5) z (by omega)) c_3
            have hl9 : (eB e9).length + eP e9 + 1 ≤ 8001 + jj := hN8
            refine lv_aload_n hx hb d_M_end_42 rfl (lv_at hl 1 rfl) ?_
            refine my_cv (wr := [((g 7), Sum.inl (cI, 9000, Sum.inl vOut))]) (va_runV (As := []) (rest := []) ⟨hx, hb, hml, hown, hts⟩ (c_M_shifted l dC dI cI cM cO H.size o g 0 fShift fModels fItems 1 fOuts fIns fReads fBad fIR fAsk fBAsk fCode fRL fRR fX fWrites 0 fG (eR e9) (eL e9) (eC e9) (eP e9) (eB e9) (he9.1) (he9.2) (hG9) (by omega)) (cwV 0 hts (my_gV k1102 k1104 ks31 k12 k1105) rfl rfl rfl cu_M_shifted_0 ⟨by rw [hR]; exact Nat.le_of_ble_eq_true rfl, by rw [hR]; exact Nat.le_of_ble_eq_true rfl⟩) (my_preV hK hN (hP.sub [0, 1] rfl) (hD.sub [0, 1] (by decide +kernel) rfl) 0 rfl rfl) rfl rfl hl.1 rfl (lv_room (Nat.le_of_ble_eq_true rfl)) d_M_end_43 ⟨by rw [hR]; exact Nat.le_of_ble_eq_true rfl, by rw [hR]; exact Nat.le_of_ble_eq_true rfl⟩) hP hD hS hA [0, 1] [2] rfl rfl (by decide +kernel) (by decide +kernel) (fun u9 H locs hw_43 hP hD hS => ?_)
            obtain ⟨v2_43, rfl⟩ : ∃ z, z = u9 := ⟨_, rfl⟩
            have hw_43 : gIs v2_43 (shB (eL e9) (eC e9) (eP e9) (eB e9)) := hw_43
            have hPD : my_PD (dC, dI) vwCl A [((g 7), Sum.inl (cI, 9000, Sum.inl vOut)), (o, Sum.inr (9, mO g 0 fShift fModels fItems 1 (lN (shL (eL e9))) (lN (eR e9)) (caI (shC (eL e9) (eC e9))) (nI (shP (eL e9) (eP e9))) (nI (shB (eL e9) (eC e9) (eP e9) (eB e9)).length) fOuts fIns fReads fBad fIR fAsk fBAsk fCode fRL fRR fX fWrites 0)), ((g 6), Sum.inl (cI, 9000, Sum.inl v2_43))] H := ⟨hP, hD⟩
            have hP := hPD.1
            have hD := hPD.2
            obtain ⟨v_7, ev_7⟩ : ∃ y : Int32, y = (nI jj) + (1) := ⟨_, rfl⟩
            refine lv_iinc (v := v_7) (lv' := [(1, Value.int v_7), (0, Value.ref o)]) hx hb d_M_end_46 hl (k := 0) rfl (by rw [ev_7]; rfl) (by decide) rfl (fun ls hl => ?_)
            have z9 : v_7 = nI (jj + 1) := by rw [ev_7]; exact nI_1 _
            subst z9
            refine lv_goto (tgt := 37) hx hb d_M_end_49 (by decide) ?_
            exact ih9_37 _ (by first | omega | (omega)) (jj + 1) (shS e9) v2_43 rfl (by omega) (by rw [hE9, show 5 - jj = (5 - (jj + 1)) + 1 by omega]; rfl) (eOk_sh he9) (hw_43) (Nat.le_trans (eN_sh e9) (by omega)) H locs ls (hP.sub [1, 2, 0] rfl) (hD.sub [1, 2, 0] (by decide +kernel) rfl) hS (lv_sub hl [0, 1] rfl)
      exact J_37 _ (0 : Nat) (Rg, L, ca, Pn, bs) vGoing rfl (by decide) (rfl) (hE) (hG) (show bs.length + Pn + 1 ≤ 8001 + 0 by omega) H locs ls (hP.sub [0, 1, 2] rfl) (hD.sub [0, 1, 2] (by decide +kernel) rfl) hS (lv_sub hl [0, 1] rfl)
    · exact absurd (by decide) c_2
  · exact absurd (by decide) c_1
set_option maxHeartbeats 2000000 in
set_option maxRecDepth 100000 in
theorem m_end2B (l : Launch) (dC : Nat → ClassId) (dI : Nat → Nat → Nat) (cI cM cO : ClassId) (sz : Nat) (o : Nat) (g : Nat → Nat) (fShift : Int32) (fModels : Int32) (fItems : Int32) (fOuts : Int32) (fIns : Int32) (fReads : Int32) (fBad : Int32) (fIR : Int32) (fAsk : Int32) (fBAsk : Int32) (fCode : Int64) (fRL : Int64) (fRR : Int64) (fX : Int64) (fWrites : Int32) (fThrown : Int32) (vGoing : Nat → Int32) (vOut : Nat → Int32) (Rg : Nat) (L : Nat) (ca : Option Nat) (Pn : Nat) (bs : List Nat) (hE : eOk (Rg, L, ca, Pn, bs)) (hG : gIs vGoing bs) (hN9 : bs.length + Pn ≤ 8000) : MetI l y_M_end (Cond.code y_M_end prog_14_method_31_code 2 (some .int) :: gw) ({ frames := 2, cells := 0, slots := 0, locals := 42 } : Room) (dC, dI) vwCl (kT cI cM cO) [Value.ref o] [(o, Sum.inr (9, mO g 2 fShift fModels fItems 0 (lN L) (lN Rg) (caI ca) (nI Pn) (nI bs.length) fOuts fIns fReads fBad fIR fAsk fBAsk fCode fRL fRR fX fWrites fThrown)), ((g 6), Sum.inl (cI, 9000, Sum.inl vGoing)), ((g 7), Sum.inl (cI, 9000, Sum.inl vOut))] sz (fun (r : Int32) (u : (Nat → Int32) × (Nat → Int32) × Int64 × Int64 × Int32 × Int32 × Int32 × Int32) => r = nI (eB (shK 5 (Rg, L, ca, Pn, bs))).length ∧ u.2.2.2.2.2.2.2 = nI (eB (shK 5 (Rg, L, ca, Pn, bs))).length ∧ gIs u.2.1 (eB (shK 5 (Rg, L, ca, Pn, bs)))) (fun (u : (Nat → Int32) × (Nat → Int32) × Int64 × Int64 × Int32 × Int32 × Int32 × Int32) => [(o, Sum.inr (9, mO g 2 fShift fModels fItems 1 u.2.2.1 u.2.2.2.1 u.2.2.2.2.1 u.2.2.2.2.2.1 u.2.2.2.2.2.2.1 u.2.2.2.2.2.2.2 fIns fReads fBad fIR fAsk fBAsk fCode fRL fRR fX fWrites 0)), ((g 6), Sum.inl (cI, 9000, Sum.inl u.1)), ((g 7), Sum.inl (cI, 9000, Sum.inl u.2.1))]) 0 0 := by
  refine my_ofI (cc := prog_14_method_31_code) (n := 2) (ret := (some .int)) (by decide) rfl (Nat.le_of_ble_eq_true rfl) ?_
  intro p e s m args below meth c R Q A ls H locs hx hb hr hts hown hlocks hml hnm hR hQ hA hl hP hK hN hD hS
  have hg : ∀ w ∈ gw, w.before args s = true := fun w h => hts w (List.mem_cons_of_mem _ h)
  have hown : s.vm.findClass "RangeCodersModel" = some m.cls := hown
  have hl : lv_has ls 2 [(0, Value.ref o)] := hl
  refine lv_aload_n hx hb d_M_end_0 rfl (lv_at hl 0 rfl) ?_
  refine lv_iconst (v := 0) hx hb d_M_end_1 (by decide) ?_
  refine va_put (D := (dC, dI)) (ci := 9) (v := .int 0) (ty := .int) (C := "RangeCodersModel") (T := T_M) (N := 35) hx hb hg in_M t_M o_M n_M hown hK hP hD hS 0 rfl rfl 34 (by decide) (hg _ k986) (fun _ h9 => h9) rfl (o_M 34 (by decide)) rfl rfl (Nat.le_of_ble_eq_true rfl) d_M_end_2 (fun H locs hP hD hS => ?_)
  have hPD : my_PD (dC, dI) vwCl A [(o, Sum.inr (9, mO g 2 fShift fModels fItems 0 (lN L) (lN Rg) (caI ca) (nI Pn) (nI bs.length) fOuts fIns fReads fBad fIR fAsk fBAsk fCode fRL fRR fX fWrites 0)), ((g 6), Sum.inl (cI, 9000, Sum.inl vGoing)), ((g 7), Sum.inl (cI, 9000, Sum.inl vOut))] H := ⟨hP, hD⟩
  have hP := hPD.1
  have hD := hPD.2
  refine lv_aload_n hx hb d_M_end_5 rfl (lv_at hl 0 rfl) ?_
  refine va_get (D := (dC, dI)) (ci := 9) (v := .int 0) (C := "RangeCodersModel") (T := T_M) (N := 35) hx hb hg in_M hown hK hP 0 rfl rfl 10 (by decide) (hg _ k962) (fun _ h9 => h9) rfl d_M_end_6 ?_
  refine lv_if_eq (tgt := 15) hx hb d_M_end_9 (by decide) (fun c_1 => ?_) (fun c_1 => ?_)
  · refine lv_aload_n hx hb d_M_end_15 rfl (lv_at hl 0 rfl) ?_
    refine lv_iconst (v := 1) hx hb d_M_end_16 (by decide) ?_
    refine va_put (D := (dC, dI)) (ci := 9) (v := .int 1) (ty := .boolean) (C := "RangeCodersModel") (T := T_M) (N := 35) hx hb hg in_M t_M o_M n_M hown hK hP hD hS 0 rfl rfl 10 (by decide) (hg _ k962) (fun _ h9 => h9) rfl (o_M 10 (by decide)) rfl rfl (Nat.le_of_ble_eq_true rfl) d_M_end_17 (fun H locs hP hD hS => ?_)
    have hPD : my_PD (dC, dI) vwCl A [(o, Sum.inr (9, mO g 2 fShift fModels fItems 1 (lN L) (lN Rg) (caI ca) (nI Pn) (nI bs.length) fOuts fIns fReads fBad fIR fAsk fBAsk fCode fRL fRR fX fWrites 0)), ((g 6), Sum.inl (cI, 9000, Sum.inl vGoing)), ((g 7), Sum.inl (cI, 9000, Sum.inl vOut))] H := ⟨hP, hD⟩
    have hP := hPD.1
    have hD := hPD.2
    refine lv_aload_n hx hb d_M_end_20 rfl (lv_at hl 0 rfl) ?_
    refine va_get (D := (dC, dI)) (ci := 9) (v := .int 2) (C := "RangeCodersModel") (T := T_M) (N := 35) hx hb hg in_M hown hK hP 0 rfl rfl 0 (by decide) (hg _ k952) (fun _ h9 => h9) rfl d_M_end_21 ?_
    refine lv_if_eq (tgt := 35) hx hb d_M_end_24 (by decide) (fun c_2 => ?_) (fun c_2 => ?_)
    · exact absurd c_2 (by decide)
    · refine lv_aload_n hx hb d_M_end_27 rfl (lv_at hl 0 rfl) ?_
      refine va_get (D := (dC, dI)) (ci := 9) (v := .int 2) (C := "RangeCodersModel") (T := T_M) (N := 35) hx hb hg in_M hown hK hP 0 rfl rfl 0 (by decide) (hg _ k952) (fun _ h9 => h9) rfl d_M_end_28 ?_
      refine lv_iconst (v := 2) hx hb d_M_end_31 (by decide) ?_
      refine lv_icmp_ne (tgt := 55) hx hb d_M_end_32 (by decide) (fun c_3 => ?_) (fun c_3 => ?_)
      · exact absurd rfl c_3
      · refine lv_iconst (v := 0) hx hb d_M_end_35 (by decide) ?_
        refine lv_istore_n (lv' := [(1, Value.int 0), (0, Value.ref o)]) hx hb d_M_end_36 rfl hl (by decide) rfl (fun ls hl => ?_)
        have J_37 : ∀ (n9_37 : Nat) (jj : Nat) (e9 : ES) (fG : Nat → Int32) (hn9_37 : 5 - jj = n9_37) (hjj : jj ≤ 5) (hE9 : shK 5 (Rg, L, ca, Pn, bs) = shK (5 - jj) e9) (he9 : eOk e9) (hG9 : gIs fG (eB e9)) (hN8 : eN e9 ≤ 8001 + jj) (H : Heap) (locs : List Loc) (ls : Array Slot), va_P (dC, dI) vwCl [(o, Sum.inr (9, mO g 2 fShift fModels fItems 1 (lN (eL e9)) (lN (eR e9)) (caI (eC e9)) (nI (eP e9)) (nI (eB e9).length) fOuts fIns fReads fBad fIR fAsk fBAsk fCode fRL fRR fX fWrites 0)), ((g 6), Sum.inl (cI, 9000, Sum.inl fG)), ((g 7), Sum.inl (cI, 9000, Sum.inl vOut))] H → va_D A [(o, Sum.inr (9, mO g 2 fShift fModels fItems 1 (lN (eL e9)) (lN (eR e9)) (caI (eC e9)) (nI (eP e9)) (nI (eB e9).length) fOuts fIns fReads fBad fIR fAsk fBAsk fCode fRL fRR fX fWrites 0)), ((g 6), Sum.inl (cI, 9000, Sum.inl fG)), ((g 7), Sum.inl (cI, 9000, Sum.inl vOut))] → va_S A s.heap H locs → lv_has ls 2 [(1, Value.int (nI jj)), (0, Value.ref o)] → W p l e R s m args below meth c H locs 0 0 Q (F0 m 37 ls []) := by
          intro n9_37
          induction n9_37 using Nat.strongRecOn with
          | ind n9_37 ih9_37 =>
            intro jj e9 fG hn9_37 hjj hE9 he9 hG9 hN8 H locs ls hP hD hS hl
            refine lv_iload_n hx hb d_M_end_37 rfl (lv_at hl 0 rfl) ?_
            refine lv_iconst (v := 5) hx hb d_M_end_38 (by decide) ?_
            refine lv_icmp_ge (tgt := 52) hx hb d_M_end_39 (by decide) (fun c_4 => ?_) (fun c_4 => ?_)
            · refine lv_goto (tgt := 125) hx hb d_M_end_52 (by decide) ?_
              have hl9 : (eB e9).length ≤ 8006 := by unfold eN at hN8; omega
              have hj5 : jj = 5 := by have := nI_ge' (n := 5) (by omega) (by decide) c_4; omega
              have hB9 : eB (shK 5 (Rg, L, ca, Pn, bs)) = eB e9 := by rw [hE9, hj5]; rfl
              refine lv_aload_n hx hb d_M_end_125 rfl (lv_at hl 1 rfl) ?_
              refine lv_aload_n hx hb d_M_end_126 rfl (lv_at hl 1 rfl) ?_
              refine va_get (D := (dC, dI)) (ci := 9) (v := .int (nI (eB e9).length)) (C := "RangeCodersModel") (T := T_M) (N := 35) hx hb hg in_M hown hK hP 0 rfl rfl 16 (by decide) (hg _ k968) (fun _ h9 => h9) rfl d_M_end_127 ?_
              refine va_put (D := (dC, dI)) (ci := 9) (v := .int (nI (eB e9).length)) (ty := .int) (C := "RangeCodersModel") (T := T_M) (N := 35) hx hb hg in_M t_M o_M n_M hown hK hP hD hS 0 rfl rfl 18 (by decide) (hg _ k970) (fun _ h9 => h9) rfl (o_M 18 (by decide)) rfl rfl (Nat.le_of_ble_eq_true rfl) d_M_end_130 (fun H locs hP hD hS => ?_)
              have hPD : my_PD (dC, dI) vwCl A [(o, Sum.inr (9, mO g 2 fShift fModels fItems 1 (lN (eL e9)) (lN (eR e9)) (caI (eC e9)) (nI (eP e9)) (nI (eB e9).length) (nI (eB e9).length) fIns fReads fBad fIR fAsk fBAsk fCode fRL fRR fX fWrites 0)), ((g 6), Sum.inl (cI, 9000, Sum.inl fG)), ((g 7), Sum.inl (cI, 9000, Sum.inl vOut))] H := ⟨hP, hD⟩
              have hP := hPD.1
              have hD := hPD.2
              refine lv_iconst (v := 0) hx hb d_M_end_133 (by decide) ?_
              refine lv_istore_n (lv' := [(1, Value.int 0), (0, Value.ref o)]) hx hb d_M_end_134 rfl hl (by decide) rfl (fun ls hl => ?_)
              have J_135 : ∀ (n9_135 : Nat) (kk : Nat) (fO : Nat → Int32) (hn9_135 : (eB e9).length - kk = n9_135) (hkk : kk ≤ (eB e9).length) (hc : ∀ i, i < kk → fO i = fG i) (H : Heap) (locs : List Loc) (ls : Array Slot), va_P (dC, dI) vwCl [(o, Sum.inr (9, mO g 2 fShift fModels fItems 1 (lN (eL e9)) (lN (eR e9)) (caI (eC e9)) (nI (eP e9)) (nI (eB e9).length) (nI (eB e9).length) fIns fReads fBad fIR fAsk fBAsk fCode fRL fRR fX fWrites 0)), ((g 6), Sum.inl (cI, 9000, Sum.inl fG)), ((g 7), Sum.inl (cI, 9000, Sum.inl fO))] H → va_D A [(o, Sum.inr (9, mO g 2 fShift fModels fItems 1 (lN (eL e9)) (lN (eR e9)) (caI (eC e9)) (nI (eP e9)) (nI (eB e9).length) (nI (eB e9).length) fIns fReads fBad fIR fAsk fBAsk fCode fRL fRR fX fWrites 0)), ((g 6), Sum.inl (cI, 9000, Sum.inl fG)), ((g 7), Sum.inl (cI, 9000, Sum.inl fO))] → va_S A s.heap H locs → lv_has ls 2 [(1, Value.int (nI kk)), (0, Value.ref o)] → W p l e R s m args below meth c H locs 0 0 Q (F0 m 135 ls []) := by
                intro n9_135
                induction n9_135 using Nat.strongRecOn with
                | ind n9_135 ih9_135 =>
                  intro kk fO hn9_135 hkk hc H locs ls hP hD hS hl
                  refine lv_iload_n hx hb d_M_end_135 rfl (lv_at hl 0 rfl) ?_
                  refine lv_aload_n hx hb d_M_end_136 rfl (lv_at hl 1 rfl) ?_
                  refine va_get (D := (dC, dI)) (ci := 9) (v := .int (nI (eB e9).length)) (C := "RangeCodersModel") (T := T_M) (N := 35) hx hb hg in_M hown hK hP 0 rfl rfl 16 (by decide) (hg _ k968) (fun _ h9 => h9) rfl d_M_end_137 ?_
                  refine lv_icmp_ge (tgt := 161) hx hb d_M_end_140 (by decide) (fun c_5 => ?_) (fun c_5 => ?_)
                  · have hkn : kk = (eB e9).length := by have := (nI_cmp (a := (eB e9).length) (b := kk) (by omega) (by omega)).mp c_5; omega
                    subst hkn
                    refine lv_aload_n hx hb d_M_end_161 rfl (lv_at hl 1 rfl) ?_
                    refine va_get (D := (dC, dI)) (ci := 9) (v := .int (nI (eB e9).length)) (C := "RangeCodersModel") (T := T_M) (N := 35) hx hb hg in_M hown hK hP 0 rfl rfl 18 (by decide) (hg _ k970) (fun _ h9 => h9) rfl d_M_end_162 ?_
                    exact my_iret (v := nI (eB e9).length) hx hb hr (rfl) hlocks hQ hK hS (Nat.le_refl _) (Nat.le_refl _) (fG, fO, lN (eL e9), lN (eR e9), caI (eC e9), nI (eP e9), nI (eB e9).length, nI (eB e9).length) (⟨by rw [hB9], by rw [hB9], by rw [hB9]; exact gIs_cp hG9 hc⟩) (hP.sub [0, 1, 2] rfl) (hD.sub [0, 1, 2] (by decide +kernel) rfl) d_M_end_165
                  · have hkl : kk < (eB e9).length := by
                      rcases Nat.lt_or_ge kk (eB e9).length with z | z
                      · exact z
                      · exact absurd (nI_le z (by omega)) c_5
                    refine lv_aload_n hx hb d_M_end_143 rfl (lv_at hl 1 rfl) ?_
                    refine va_get (D := (dC, dI)) (ci := 9) (v := .ref (g 7)) (C := "RangeCodersModel") (T := T_M) (N := 35) hx hb hg in_M hown hK hP 0 rfl rfl 17 (by decide) (hg _ k969) (fun _ h9 => h9) rfl d_M_end_144 ?_
                    refine lv_iload_n hx hb d_M_end_147 rfl (lv_at hl 0 rfl) ?_
                    refine lv_aload_n hx hb d_M_end_148 rfl (lv_at hl 1 rfl) ?_
                    refine va_get (D := (dC, dI)) (ci := 9) (v := .ref (g 6)) (C := "RangeCodersModel") (T := T_M) (N := 35) hx hb hg in_M hown hK hP 0 rfl rfl 15 (by decide) (hg _ k967) (fun _ h9 => h9) rfl d_M_end_149 ?_
                    refine lv_iload_n hx hb d_M_end_152 rfl (lv_at hl 0 rfl) ?_
                    refine va_iald hx hb hK hP 1 0 rfl rfl (vp_in_nI (by omega) (by decide)) d_M_end_153 ?_
                    refine lv_topi (fun v_6 ev_6 => ?_)
                    refine va_iast hx hb hK hP hD hS 2 0 rfl rfl (vp_in_nI (by omega) (by decide)) d_M_end_154 (fun H locs hP hD hS => ?_)
                    have hPD : my_PD (dC, dI) vwCl A [(o, Sum.inr (9, mO g 2 fShift fModels fItems 1 (lN (eL e9)) (lN (eR e9)) (caI (eC e9)) (nI (eP e9)) (nI (eB e9).length) (nI (eB e9).length) fIns fReads fBad fIR fAsk fBAsk fCode fRL fRR fX fWrites 0)), ((g 6), Sum.inl (cI, 9000, Sum.inl fG)), ((g 7), Sum.inl (cI, 9000, Sum.inl (upd fO (nI kk).toNatClampNeg v_6)))] H := ⟨hP, hD⟩
                    have hP := hPD.1
                    have hD := hPD.2
                    have hc8 : ∀ i, i < kk + 1 → (upd fO (nI kk).toNatClampNeg v_6) i = fG i := cp_st hc (nI_clamp (by omega)) (by rw [ev_6, nI_clamp (by omega)])
                    obtain ⟨v_7, ev_7⟩ : ∃ y : Int32, y = (nI kk) + (1) := ⟨_, rfl⟩
                    refine lv_iinc (v := v_7) (lv' := [(1, Value.int v_7), (0, Value.ref o)]) hx hb d_M_end_155 hl (k := 0) rfl (by rw [ev_7]; rfl) (by decide) rfl (fun ls hl => ?_)
                    have z9 : v_7 = nI (kk + 1) := by rw [ev_7]; exact nI_1 _
                    subst z9
                    refine lv_goto (tgt := 135) hx hb d_M_end_158 (by decide) ?_
                    exact ih9_135 _ (by first | omega | (omega)) (kk + 1) (upd fO (nI kk).toNatClampNeg v_6) rfl (by omega) (hc8) H locs ls (hP.sub [0, 1, 2] rfl) (hD.sub [0, 1, 2] (by decide +kernel) rfl) hS (lv_sub hl [0, 1] rfl)
              exact J_135 _ (0 : Nat) vOut rfl (Nat.zero_le _) (fun _ z => absurd z (Nat.not_lt_zero _)) H locs ls (hP.sub [0, 1, 2] rfl) (hD.sub [0, 1, 2] (by decide +kernel) rfl) hS (lv_sub hl [0, 1] rfl)
            · have hjl : jj < 5 := by
                rcases Nat.lt_or_ge jj 5 with z | z
                · exact z
                · exact absurd (nI_le (a := 5) z (by omega)) c_4
              have hl9 : (eB e9).length + eP e9 + 1 ≤ 8001 + jj := hN8
              refine lv_aload_n hx hb d_M_end_42 rfl (lv_at hl 1 rfl) ?_
              refine my_cv (wr := [((g 7), Sum.inl (cI, 9000, Sum.inl vOut))]) (va_runV (As := []) (rest := []) ⟨hx, hb, hml, hown, hts⟩ (c_M_shifted l dC dI cI cM cO H.size o g 2 fShift fModels fItems 1 fOuts fIns fReads fBad fIR fAsk fBAsk fCode fRL fRR fX fWrites 0 fG (eR e9) (eL e9) (eC e9) (eP e9) (eB e9) (he9.1) (he9.2) (hG9) (by omega)) (cwV 0 hts (my_gV k1102 k1104 ks31 k12 k1105) rfl rfl rfl cu_M_shifted_0 ⟨by rw [hR]; exact Nat.le_of_ble_eq_true rfl, by rw [hR]; exact Nat.le_of_ble_eq_true rfl⟩) (my_preV hK hN (hP.sub [0, 1] rfl) (hD.sub [0, 1] (by decide +kernel) rfl) 0 rfl rfl) rfl rfl hl.1 rfl (lv_room (Nat.le_of_ble_eq_true rfl)) d_M_end_43 ⟨by rw [hR]; exact Nat.le_of_ble_eq_true rfl, by rw [hR]; exact Nat.le_of_ble_eq_true rfl⟩) hP hD hS hA [0, 1] [2] rfl rfl (by decide +kernel) (by decide +kernel) (fun u9 H locs hw_43 hP hD hS => ?_)
              obtain ⟨v2_43, rfl⟩ : ∃ z, z = u9 := ⟨_, rfl⟩
              have hw_43 : gIs v2_43 (shB (eL e9) (eC e9) (eP e9) (eB e9)) := hw_43
              have hPD : my_PD (dC, dI) vwCl A [((g 7), Sum.inl (cI, 9000, Sum.inl vOut)), (o, Sum.inr (9, mO g 2 fShift fModels fItems 1 (lN (shL (eL e9))) (lN (eR e9)) (caI (shC (eL e9) (eC e9))) (nI (shP (eL e9) (eP e9))) (nI (shB (eL e9) (eC e9) (eP e9) (eB e9)).length) fOuts fIns fReads fBad fIR fAsk fBAsk fCode fRL fRR fX fWrites 0)), ((g 6), Sum.inl (cI, 9000, Sum.inl v2_43))] H := ⟨hP, hD⟩
              have hP := hPD.1
              have hD := hPD.2
              obtain ⟨v_8, ev_8⟩ : ∃ y : Int32, y = (nI jj) + (1) := ⟨_, rfl⟩
              refine lv_iinc (v := v_8) (lv' := [(1, Value.int v_8), (0, Value.ref o)]) hx hb d_M_end_46 hl (k := 0) rfl (by rw [ev_8]; rfl) (by decide) rfl (fun ls hl => ?_)
              have z9 : v_8 = nI (jj + 1) := by rw [ev_8]; exact nI_1 _
              subst z9
              refine lv_goto (tgt := 37) hx hb d_M_end_49 (by decide) ?_
              exact ih9_37 _ (by first | omega | (omega)) (jj + 1) (shS e9) v2_43 rfl (by omega) (by rw [hE9, show 5 - jj = (5 - (jj + 1)) + 1 by omega]; rfl) (eOk_sh he9) (hw_43) (Nat.le_trans (eN_sh e9) (by omega)) H locs ls (hP.sub [1, 2, 0] rfl) (hD.sub [1, 2, 0] (by decide +kernel) rfl) hS (lv_sub hl [0, 1] rfl)
        exact J_37 _ (0 : Nat) (Rg, L, ca, Pn, bs) vGoing rfl (by decide) (rfl) (hE) (hG) (show bs.length + Pn + 1 ≤ 8001 + 0 by omega) H locs ls (hP.sub [0, 1, 2] rfl) (hD.sub [0, 1, 2] (by decide +kernel) rfl) hS (lv_sub hl [0, 1] rfl)
  · exact absurd (by decide) c_1
set_option maxHeartbeats 2000000 in
set_option maxRecDepth 100000 in
theorem m_endA (l : Launch) (dC : Nat → ClassId) (dI : Nat → Nat → Nat) (cI cM cO : ClassId) (sz : Nat) (o : Nat) (g : Nat → Nat) (fForm : Int32) (fShift : Int32) (fModels : Int32) (fItems : Int32) (fEnded : Int32) (fLow : Int64) (fRange : Int64) (fCache : Int32) (fPend : Int32) (fGoes : Int32) (fOuts : Int32) (fIns : Int32) (fReads : Int32) (fBad : Int32) (fIR : Int32) (fAsk : Int32) (fBAsk : Int32) (fCode : Int64) (fRL : Int64) (fRR : Int64) (fX : Int64) (fWrites : Int32) (fThrown : Int32) (hen : ¬ fEnded = 0) : MetI l y_M_end (Cond.code y_M_end prog_14_method_31_code 2 (some .int) :: gw) ({ frames := 0, cells := 0, slots := 0, locals := 0 } : Room) (dC, dI) vwCl (kT cI cM cO) [Value.ref o] [(o, Sum.inr (9, mO g fForm fShift fModels fItems fEnded fLow fRange fCache fPend fGoes fOuts fIns fReads fBad fIR fAsk fBAsk fCode fRL fRR fX fWrites fThrown))] sz (fun (r : Int32) (u : Unit) => r = -3) (fun (u : Unit) => [(o, Sum.inr (9, mO g fForm fShift fModels fItems fEnded fLow fRange fCache fPend fGoes fOuts fIns fReads fBad fIR fAsk fBAsk fCode fRL fRR fX fWrites 0))]) 0 0 := by
  refine my_ofI (cc := prog_14_method_31_code) (n := 2) (ret := (some .int)) (by decide) rfl (Nat.le_of_ble_eq_true rfl) ?_
  intro p e s m args below meth c R Q A ls H locs hx hb hr hts hown hlocks hml hnm hR hQ hA hl hP hK hN hD hS
  have hg : ∀ w ∈ gw, w.before args s = true := fun w h => hts w (List.mem_cons_of_mem _ h)
  have hown : s.vm.findClass "RangeCodersModel" = some m.cls := hown
  have hl : lv_has ls 2 [(0, Value.ref o)] := hl
  refine lv_aload_n hx hb d_M_end_0 rfl (lv_at hl 0 rfl) ?_
  refine lv_iconst (v := 0) hx hb d_M_end_1 (by decide) ?_
  refine va_put (D := (dC, dI)) (ci := 9) (v := .int 0) (ty := .int) (C := "RangeCodersModel") (T := T_M) (N := 35) hx hb hg in_M t_M o_M n_M hown hK hP hD hS 0 rfl rfl 34 (by decide) (hg _ k986) (fun _ h9 => h9) rfl (o_M 34 (by decide)) rfl rfl (Nat.le_of_ble_eq_true rfl) d_M_end_2 (fun H locs hP hD hS => ?_)
  have hPD : my_PD (dC, dI) vwCl A [(o, Sum.inr (9, mO g fForm fShift fModels fItems fEnded fLow fRange fCache fPend fGoes fOuts fIns fReads fBad fIR fAsk fBAsk fCode fRL fRR fX fWrites 0))] H := ⟨hP, hD⟩
  have hP := hPD.1
  have hD := hPD.2
  refine lv_aload_n hx hb d_M_end_5 rfl (lv_at hl 0 rfl) ?_
  refine va_get (D := (dC, dI)) (ci := 9) (v := .int fEnded) (C := "RangeCodersModel") (T := T_M) (N := 35) hx hb hg in_M hown hK hP 0 rfl rfl 10 (by decide) (hg _ k962) (fun _ h9 => h9) rfl d_M_end_6 ?_
  refine lv_if_eq (tgt := 15) hx hb d_M_end_9 (by decide) (fun c_1 => ?_) (fun c_1 => ?_)
  · exact absurd c_1 hen
  · refine lv_bipush (v := (-3)) hx hb d_M_end_12 (by decide) ?_
    exact my_iret (v := (-3)) hx hb hr (rfl) hlocks hQ hK hS (Nat.le_refl _) (Nat.le_refl _) () (rfl) (hP.sub [0] rfl) (hD.sub [0] (by decide +kernel) rfl) d_M_end_14
set_option maxHeartbeats 2000000 in
set_option maxRecDepth 100000 in
theorem m_end1B (l : Launch) (dC : Nat → ClassId) (dI : Nat → Nat → Nat) (cI cM cO : ClassId) (sz : Nat) (o : Nat) (g : Nat → Nat) (fShift : Int32) (fModels : Int32) (fItems : Int32) (fRange : Int64) (fCache : Int32) (fPend : Int32) (fOuts : Int32) (fIns : Int32) (fReads : Int32) (fBad : Int32) (fIR : Int32) (fAsk : Int32) (fBAsk : Int32) (fCode : Int64) (fRL : Int64) (fRR : Int64) (fX : Int64) (fWrites : Int32) (fThrown : Int32) (vGoing : Nat → Int32) (vOut : Nat → Int32) (L : Nat) (bs : List Nat) (hL : L < 4294967296) (hG : gIs vGoing bs) (hN9 : bs.length ≤ 8000) : MetI l y_M_end (Cond.code y_M_end prog_14_method_31_code 2 (some .int) :: gw) ({ frames := 1, cells := 0, slots := 0, locals := 21 } : Room) (dC, dI) vwCl (kT cI cM cO) [Value.ref o] [(o, Sum.inr (9, mO g 1 fShift fModels fItems 0 (lN L) fRange fCache fPend (nI bs.length) fOuts fIns fReads fBad fIR fAsk fBAsk fCode fRL fRR fX fWrites fThrown)), ((g 6), Sum.inl (cI, 9000, Sum.inl vGoing)), ((g 7), Sum.inl (cI, 9000, Sum.inl vOut))] sz (fun (r : Int32) (u : (Nat → Int32) × (Nat → Int32) × Int64 × Int32 × Int32) => r = nI ((tpK 4 (L, bs)).2).length ∧ u.2.2.2.2 = nI ((tpK 4 (L, bs)).2).length ∧ gIs u.2.1 ((tpK 4 (L, bs)).2)) (fun (u : (Nat → Int32) × (Nat → Int32) × Int64 × Int32 × Int32) => [(o, Sum.inr (9, mO g 1 fShift fModels fItems 1 u.2.2.1 fRange fCache fPend u.2.2.2.1 u.2.2.2.2 fIns fReads fBad fIR fAsk fBAsk fCode fRL fRR fX fWrites 0)), ((g 6), Sum.inl (cI, 9000, Sum.inl u.1)), ((g 7), Sum.inl (cI, 9000, Sum.inl u.2.1))]) 0 0 := by
  refine my_ofI (cc := prog_14_method_31_code) (n := 2) (ret := (some .int)) (by decide) rfl (Nat.le_of_ble_eq_true rfl) ?_
  intro p e s m args below meth c R Q A ls H locs hx hb hr hts hown hlocks hml hnm hR hQ hA hl hP hK hN hD hS
  have hg : ∀ w ∈ gw, w.before args s = true := fun w h => hts w (List.mem_cons_of_mem _ h)
  have hown : s.vm.findClass "RangeCodersModel" = some m.cls := hown
  have hl : lv_has ls 2 [(0, Value.ref o)] := hl
  refine lv_aload_n hx hb d_M_end_0 rfl (lv_at hl 0 rfl) ?_
  refine lv_iconst (v := 0) hx hb d_M_end_1 (by decide) ?_
  refine va_put (D := (dC, dI)) (ci := 9) (v := .int 0) (ty := .int) (C := "RangeCodersModel") (T := T_M) (N := 35) hx hb hg in_M t_M o_M n_M hown hK hP hD hS 0 rfl rfl 34 (by decide) (hg _ k986) (fun _ h9 => h9) rfl (o_M 34 (by decide)) rfl rfl (Nat.le_of_ble_eq_true rfl) d_M_end_2 (fun H locs hP hD hS => ?_)
  have hPD : my_PD (dC, dI) vwCl A [(o, Sum.inr (9, mO g 1 fShift fModels fItems 0 (lN L) fRange fCache fPend (nI bs.length) fOuts fIns fReads fBad fIR fAsk fBAsk fCode fRL fRR fX fWrites 0)), ((g 6), Sum.inl (cI, 9000, Sum.inl vGoing)), ((g 7), Sum.inl (cI, 9000, Sum.inl vOut))] H := ⟨hP, hD⟩
  have hP := hPD.1
  have hD := hPD.2
  refine lv_aload_n hx hb d_M_end_5 rfl (lv_at hl 0 rfl) ?_
  refine va_get (D := (dC, dI)) (ci := 9) (v := .int 0) (C := "RangeCodersModel") (T := T_M) (N := 35) hx hb hg in_M hown hK hP 0 rfl rfl 10 (by decide) (hg _ k962) (fun _ h9 => h9) rfl d_M_end_6 ?_
  refine lv_if_eq (tgt := 15) hx hb d_M_end_9 (by decide) (fun c_1 => ?_) (fun c_1 => ?_)
  · refine lv_aload_n hx hb d_M_end_15 rfl (lv_at hl 0 rfl) ?_
    refine lv_iconst (v := 1) hx hb d_M_end_16 (by decide) ?_
    refine va_put (D := (dC, dI)) (ci := 9) (v := .int 1) (ty := .boolean) (C := "RangeCodersModel") (T := T_M) (N := 35) hx hb hg in_M t_M o_M n_M hown hK hP hD hS 0 rfl rfl 10 (by decide) (hg _ k962) (fun _ h9 => h9) rfl (o_M 10 (by decide)) rfl rfl (Nat.le_of_ble_eq_true rfl) d_M_end_17 (fun H locs hP hD hS => ?_)
    have hPD : my_PD (dC, dI) vwCl A [(o, Sum.inr (9, mO g 1 fShift fModels fItems 1 (lN L) fRange fCache fPend (nI bs.length) fOuts fIns fReads fBad fIR fAsk fBAsk fCode fRL fRR fX fWrites 0)), ((g 6), Sum.inl (cI, 9000, Sum.inl vGoing)), ((g 7), Sum.inl (cI, 9000, Sum.inl vOut))] H := ⟨hP, hD⟩
    have hP := hPD.1
    have hD := hPD.2
    refine lv_aload_n hx hb d_M_end_20 rfl (lv_at hl 0 rfl) ?_
    refine va_get (D := (dC, dI)) (ci := 9) (v := .int 1) (C := "RangeCodersModel") (T := T_M) (N := 35) hx hb hg in_M hown hK hP 0 rfl rfl 0 (by decide) (hg _ k952) (fun _ h9 => h9) rfl d_M_end_21 ?_
    refine lv_if_eq (tgt := 35) hx hb d_M_end_24 (by decide) (fun c_2 => ?_) (fun c_2 => ?_)
    · exact absurd c_2 (by decide)
    · refine lv_aload_n hx hb d_M_end_27 rfl (lv_at hl 0 rfl) ?_
      refine va_get (D := (dC, dI)) (ci := 9) (v := .int 1) (C := "RangeCodersModel") (T := T_M) (N := 35) hx hb hg in_M hown hK hP 0 rfl rfl 0 (by decide) (hg _ k952) (fun _ h9 => h9) rfl d_M_end_28 ?_
      refine lv_iconst (v := 2) hx hb d_M_end_31 (by decide) ?_
      refine lv_icmp_ne (tgt := 55) hx hb d_M_end_32 (by decide) (fun c_3 => ?_) (fun c_3 => ?_)
      · refine lv_aload_n hx hb d_M_end_55 rfl (lv_at hl 0 rfl) ?_
        refine va_get (D := (dC, dI)) (ci := 9) (v := .int 1) (C := "RangeCodersModel") (T := T_M) (N := 35) hx hb hg in_M hown hK hP 0 rfl rfl 0 (by decide) (hg _ k952) (fun _ h9 => h9) rfl d_M_end_56 ?_
        refine lv_iconst (v := 1) hx hb d_M_end_59 (by decide) ?_
        refine lv_icmp_ne (tgt := 106) hx hb d_M_end_60 (by decide) (fun c_4 => ?_) (fun c_4 => ?_)
        · exact absurd rfl c_4
        · refine lv_iconst (v := 0) hx hb d_M_end_63 (by decide) ?_
          refine lv_istore_n (lv' := [(1, Value.int 0), (0, Value.ref o)]) hx hb d_M_end_64 rfl hl (by decide) rfl (fun ls hl => ?_)
          have J_65 : ∀ (n9_65 : Nat) (jj : Nat) (e9 : Nat × List Nat) (fG : Nat → Int32) (hn9_65 : 4 - jj = n9_65) (hjj : jj ≤ 4) (hE9 : tpK 4 (L, bs) = tpK (4 - jj) e9) (hL9 : e9.1 < 4294967296) (hG9 : gIs fG e9.2) (hN8 : e9.2.length ≤ 8000 + jj) (H : Heap) (locs : List Loc) (ls : Array Slot), va_P (dC, dI) vwCl [(o, Sum.inr (9, mO g 1 fShift fModels fItems 1 (lN e9.1) fRange fCache fPend (nI e9.2.length) fOuts fIns fReads fBad fIR fAsk fBAsk fCode fRL fRR fX fWrites 0)), ((g 6), Sum.inl (cI, 9000, Sum.inl fG)), ((g 7), Sum.inl (cI, 9000, Sum.inl vOut))] H → va_D A [(o, Sum.inr (9, mO g 1 fShift fModels fItems 1 (lN e9.1) fRange fCache fPend (nI e9.2.length) fOuts fIns fReads fBad fIR fAsk fBAsk fCode fRL fRR fX fWrites 0)), ((g 6), Sum.inl (cI, 9000, Sum.inl fG)), ((g 7), Sum.inl (cI, 9000, Sum.inl vOut))] → va_S A s.heap H locs → lv_has ls 2 [(1, Value.int (nI jj)), (0, Value.ref o)] → W p l e R s m args below meth c H locs 0 0 Q (F0 m 65 ls []) := by
            intro n9_65
            induction n9_65 using Nat.strongRecOn with
            | ind n9_65 ih9_65 =>
              intro jj e9 fG hn9_65 hjj hE9 hL9 hG9 hN8 H locs ls hP hD hS hl
              refine lv_iload_n hx hb d_M_end_65 rfl (lv_at hl 0 rfl) ?_
              refine lv_iconst (v := 4) hx hb d_M_end_66 (by decide) ?_
              refine lv_icmp_ge (tgt := 103) hx hb d_M_end_67 (by decide) (fun c_5 => ?_) (fun c_5 => ?_)
              · refine lv_goto (tgt := 125) hx hb d_M_end_103 (by decide) ?_
                have hj5 : jj = 4 := by have := nI_ge' (n := 4) (by omega) (by decide) c_5; omega
                have hB9 : (tpK 4 (L, bs)).2 = e9.2 := by rw [hE9, hj5]; rfl
                refine lv_aload_n hx hb d_M_end_125 rfl (lv_at hl 1 rfl) ?_
                refine lv_aload_n hx hb d_M_end_126 rfl (lv_at hl 1 rfl) ?_
                refine va_get (D := (dC, dI)) (ci := 9) (v := .int (nI e9.2.length)) (C := "RangeCodersModel") (T := T_M) (N := 35) hx hb hg in_M hown hK hP 0 rfl rfl 16 (by decide) (hg _ k968) (fun _ h9 => h9) rfl d_M_end_127 ?_
                refine va_put (D := (dC, dI)) (ci := 9) (v := .int (nI e9.2.length)) (ty := .int) (C := "RangeCodersModel") (T := T_M) (N := 35) hx hb hg in_M t_M o_M n_M hown hK hP hD hS 0 rfl rfl 18 (by decide) (hg _ k970) (fun _ h9 => h9) rfl (o_M 18 (by decide)) rfl rfl (Nat.le_of_ble_eq_true rfl) d_M_end_130 (fun H locs hP hD hS => ?_)
                have hPD : my_PD (dC, dI) vwCl A [(o, Sum.inr (9, mO g 1 fShift fModels fItems 1 (lN e9.1) fRange fCache fPend (nI e9.2.length) (nI e9.2.length) fIns fReads fBad fIR fAsk fBAsk fCode fRL fRR fX fWrites 0)), ((g 6), Sum.inl (cI, 9000, Sum.inl fG)), ((g 7), Sum.inl (cI, 9000, Sum.inl vOut))] H := ⟨hP, hD⟩
                have hP := hPD.1
                have hD := hPD.2
                refine lv_iconst (v := 0) hx hb d_M_end_133 (by decide) ?_
                refine lv_istore_n (lv' := [(1, Value.int 0), (0, Value.ref o)]) hx hb d_M_end_134 rfl hl (by decide) rfl (fun ls hl => ?_)
                have J_135 : ∀ (n9_135 : Nat) (kk : Nat) (fO : Nat → Int32) (hn9_135 : (e9.2).length - kk = n9_135) (hkk : kk ≤ (e9.2).length) (hc : ∀ i, i < kk → fO i = fG i) (H : Heap) (locs : List Loc) (ls : Array Slot), va_P (dC, dI) vwCl [(o, Sum.inr (9, mO g 1 fShift fModels fItems 1 (lN e9.1) fRange fCache fPend (nI e9.2.length) (nI e9.2.length) fIns fReads fBad fIR fAsk fBAsk fCode fRL fRR fX fWrites 0)), ((g 6), Sum.inl (cI, 9000, Sum.inl fG)), ((g 7), Sum.inl (cI, 9000, Sum.inl fO))] H → va_D A [(o, Sum.inr (9, mO g 1 fShift fModels fItems 1 (lN e9.1) fRange fCache fPend (nI e9.2.length) (nI e9.2.length) fIns fReads fBad fIR fAsk fBAsk fCode fRL fRR fX fWrites 0)), ((g 6), Sum.inl (cI, 9000, Sum.inl fG)), ((g 7), Sum.inl (cI, 9000, Sum.inl fO))] → va_S A s.heap H locs → lv_has ls 2 [(1, Value.int (nI kk)), (0, Value.ref o)] → W p l e R s m args below meth c H locs 0 0 Q (F0 m 135 ls []) := by
                  intro n9_135
                  induction n9_135 using Nat.strongRecOn with
                  | ind n9_135 ih9_135 =>
                    intro kk fO hn9_135 hkk hc H locs ls hP hD hS hl
                    refine lv_iload_n hx hb d_M_end_135 rfl (lv_at hl 0 rfl) ?_
                    refine lv_aload_n hx hb d_M_end_136 rfl (lv_at hl 1 rfl) ?_
                    refine va_get (D := (dC, dI)) (ci := 9) (v := .int (nI e9.2.length)) (C := "RangeCodersModel") (T := T_M) (N := 35) hx hb hg in_M hown hK hP 0 rfl rfl 16 (by decide) (hg _ k968) (fun _ h9 => h9) rfl d_M_end_137 ?_
                    refine lv_icmp_ge (tgt := 161) hx hb d_M_end_140 (by decide) (fun c_6 => ?_) (fun c_6 => ?_)
                    · have hkn : kk = (e9.2).length := by have := (nI_cmp (a := (e9.2).length) (b := kk) (by omega) (by omega)).mp c_6; omega
                      subst hkn
                      refine lv_aload_n hx hb d_M_end_161 rfl (lv_at hl 1 rfl) ?_
                      refine va_get (D := (dC, dI)) (ci := 9) (v := .int (nI e9.2.length)) (C := "RangeCodersModel") (T := T_M) (N := 35) hx hb hg in_M hown hK hP 0 rfl rfl 18 (by decide) (hg _ k970) (fun _ h9 => h9) rfl d_M_end_162 ?_
                      exact my_iret (v := nI e9.2.length) hx hb hr (rfl) hlocks hQ hK hS (Nat.le_refl _) (Nat.le_refl _) (fG, fO, lN e9.1, nI e9.2.length, nI e9.2.length) (⟨by rw [hB9], by rw [hB9], by rw [hB9]; exact gIs_cp hG9 hc⟩) (hP.sub [0, 1, 2] rfl) (hD.sub [0, 1, 2] (by decide +kernel) rfl) d_M_end_165
                    · have hkl : kk < (e9.2).length := by
                        rcases Nat.lt_or_ge kk (e9.2).length with z | z
                        · exact z
                        · exact absurd (nI_le z (by omega)) c_6
                      refine lv_aload_n hx hb d_M_end_143 rfl (lv_at hl 1 rfl) ?_
                      refine va_get (D := (dC, dI)) (ci := 9) (v := .ref (g 7)) (C := "RangeCodersModel") (T := T_M) (N := 35) hx hb hg in_M hown hK hP 0 rfl rfl 17 (by decide) (hg _ k969) (fun _ h9 => h9) rfl d_M_end_144 ?_
                      refine lv_iload_n hx hb d_M_end_147 rfl (lv_at hl 0 rfl) ?_
                      refine lv_aload_n hx hb d_M_end_148 rfl (lv_at hl 1 rfl) ?_
                      refine va_get (D := (dC, dI)) (ci := 9) (v := .ref (g 6)) (C := "RangeCodersModel") (T := T_M) (N := 35) hx hb hg in_M hown hK hP 0 rfl rfl 15 (by decide) (hg _ k967) (fun _ h9 => h9) rfl d_M_end_149 ?_
                      refine lv_iload_n hx hb d_M_end_152 rfl (lv_at hl 0 rfl) ?_
                      refine va_iald hx hb hK hP 1 0 rfl rfl (vp_in_nI (by omega) (by decide)) d_M_end_153 ?_
                      refine lv_topi (fun v_7 ev_7 => ?_)
                      refine va_iast hx hb hK hP hD hS 2 0 rfl rfl (vp_in_nI (by omega) (by decide)) d_M_end_154 (fun H locs hP hD hS => ?_)
                      have hPD : my_PD (dC, dI) vwCl A [(o, Sum.inr (9, mO g 1 fShift fModels fItems 1 (lN e9.1) fRange fCache fPend (nI e9.2.length) (nI e9.2.length) fIns fReads fBad fIR fAsk fBAsk fCode fRL fRR fX fWrites 0)), ((g 6), Sum.inl (cI, 9000, Sum.inl fG)), ((g 7), Sum.inl (cI, 9000, Sum.inl (upd fO (nI kk).toNatClampNeg v_7)))] H := ⟨hP, hD⟩
                      have hP := hPD.1
                      have hD := hPD.2
                      have hc8 : ∀ i, i < kk + 1 → (upd fO (nI kk).toNatClampNeg v_7) i = fG i := cp_st hc (nI_clamp (by omega)) (by rw [ev_7, nI_clamp (by omega)])
                      obtain ⟨v_8, ev_8⟩ : ∃ y : Int32, y = (nI kk) + (1) := ⟨_, rfl⟩
                      refine lv_iinc (v := v_8) (lv' := [(1, Value.int v_8), (0, Value.ref o)]) hx hb d_M_end_155 hl (k := 0) rfl (by rw [ev_8]; rfl) (by decide) rfl (fun ls hl => ?_)
                      have z9 : v_8 = nI (kk + 1) := by rw [ev_8]; exact nI_1 _
                      subst z9
                      refine lv_goto (tgt := 135) hx hb d_M_end_158 (by decide) ?_
                      exact ih9_135 _ (by first | omega | (omega)) (kk + 1) (upd fO (nI kk).toNatClampNeg v_7) rfl (by omega) (hc8) H locs ls (hP.sub [0, 1, 2] rfl) (hD.sub [0, 1, 2] (by decide +kernel) rfl) hS (lv_sub hl [0, 1] rfl)
                exact J_135 _ (0 : Nat) vOut rfl (Nat.zero_le _) (fun _ z => absurd z (Nat.not_lt_zero _)) H locs ls (hP.sub [0, 1, 2] rfl) (hD.sub [0, 1, 2] (by decide +kernel) rfl) hS (lv_sub hl [0, 1] rfl)
              · have hjl : jj < 4 := by
                  rcases Nat.lt_or_ge jj 4 with z | z
                  · exact z
                  · exact absurd (nI_le (a := 4) z (by omega)) c_5
                refine lv_aload_n hx hb d_M_end_70 rfl (lv_at hl 1 rfl) ?_
                refine lv_aload_n hx hb d_M_end_71 rfl (lv_at hl 1 rfl) ?_
                refine va_get (D := (dC, dI)) (ci := 9) (v := .long (lN e9.1)) (C := "RangeCodersModel") (T := T_M) (N := 35) hx hb hg in_M hown hK hP 0 rfl rfl 11 (by decide) (hg _ k963) (fun _ h9 => h9) rfl d_M_end_72 ?_
                refine lv_bipush (v := 24) hx hb d_M_end_75 (by decide) ?_
                refine lv_lshr hx hb d_M_end_77 rfl ?_
                refine lv_topl (fun v_9 ev_9 => ?_)
                have z9 : v_9 = lN (e9.1 / 16777216) := by rw [ev_9]; exact L_shr24 (by omega)
                subst z9
                refine lv_l2i hx hb d_M_end_78 rfl ?_
                refine lv_topi (fun v_10 ev_10 => ?_)
                have z9 : v_10 = nI (e9.1 / 16777216) := by rw [ev_10]; exact lN_i _
                subst z9
                refine my_cv (wr := [((g 7), Sum.inl (cI, 9000, Sum.inl vOut))]) (va_runV (As := [Value.int (nI (e9.1 / 16777216))]) (rest := []) ⟨hx, hb, hml, hown, hts⟩ (c_M_write l dC dI cI cM cO H.size o g 1 fShift fModels fItems 1 (lN e9.1) fRange fCache fPend fOuts fIns fReads fBad fIR fAsk fBAsk fCode fRL fRR fX fWrites 0 fG e9.2 (e9.1 / 16777216) (hG9) (by omega) (by omega)) (cwV 1 hts (my_gV k1107 k1109 ks32 k12 k1110) rfl rfl rfl cu_M_write_1 ⟨by rw [hR]; exact Nat.le_of_ble_eq_true rfl, by rw [hR]; exact Nat.le_of_ble_eq_true rfl⟩) (my_preV hK hN (hP.sub [0, 1] rfl) (hD.sub [0, 1] (by decide +kernel) rfl) 0 rfl rfl) rfl rfl hl.1 rfl (lv_room (Nat.le_of_ble_eq_true rfl)) d_M_end_79 ⟨by rw [hR]; exact Nat.le_of_ble_eq_true rfl, by rw [hR]; exact Nat.le_of_ble_eq_true rfl⟩) hP hD hS hA [0, 1] [2] rfl rfl (by decide +kernel) (by decide +kernel) (fun u9 H locs hw_79 hP hD hS => ?_)
                obtain ⟨v2_79, rfl⟩ : ∃ z, z = u9 := ⟨_, rfl⟩
                have hw_79 : gIs v2_79 (e9.2 ++ [(e9.1 / 16777216) % 256]) := hw_79
                have hPD : my_PD (dC, dI) vwCl A [((g 7), Sum.inl (cI, 9000, Sum.inl vOut)), (o, Sum.inr (9, mO g 1 fShift fModels fItems 1 (lN e9.1) fRange fCache fPend (nI (e9.2 ++ [(e9.1 / 16777216) % 256]).length) fOuts fIns fReads fBad fIR fAsk fBAsk fCode fRL fRR fX fWrites 0)), ((g 6), Sum.inl (cI, 9000, Sum.inl v2_79))] H := ⟨hP, hD⟩
                have hP := hPD.1
                have hD := hPD.2
                refine lv_aload_n hx hb d_M_end_82 rfl (lv_at hl 1 rfl) ?_
                refine lv_aload_n hx hb d_M_end_83 rfl (lv_at hl 1 rfl) ?_
                refine va_get (D := (dC, dI)) (ci := 9) (v := .long (lN e9.1)) (C := "RangeCodersModel") (T := T_M) (N := 35) hx hb hg in_M hown hK hP 1 rfl rfl 11 (by decide) (hg _ k963) (fun _ h9 => h9) rfl d_M_end_84 ?_
                refine lv_bipush (v := 8) hx hb d_M_end_87 (by decide) ?_
                refine lv_lshl hx hb d_M_end_89 rfl ?_
                refine lv_topl (fun v_11 ev_11 => ?_)
                have z9 : v_11 = lN (e9.1 * 256) := by rw [ev_11]; exact L_shl8 _
                subst z9
                refine lv_ldc2 (v := 4294967295) hx hb hown (hg _ k927) d_M_end_90 ?_
                refine lv_land hx hb d_M_end_93 ?_
                refine lv_topl (fun v_12 ev_12 => ?_)
                have z9 : v_12 = lN (mvL e9.1) := by rw [ev_12]; exact L_and32 (by omega)
                subst z9
                refine va_put (D := (dC, dI)) (ci := 9) (v := .long (lN (mvL e9.1))) (ty := .long) (C := "RangeCodersModel") (T := T_M) (N := 35) hx hb hg in_M t_M o_M n_M hown hK hP hD hS 1 rfl rfl 11 (by decide) (hg _ k963) (fun _ h9 => h9) rfl (o_M 11 (by decide)) rfl rfl (Nat.le_of_ble_eq_true rfl) d_M_end_94 (fun H locs hP hD hS => ?_)
                have hPD : my_PD (dC, dI) vwCl A [((g 7), Sum.inl (cI, 9000, Sum.inl vOut)), (o, Sum.inr (9, mO g 1 fShift fModels fItems 1 (lN (mvL e9.1)) fRange fCache fPend (nI (e9.2 ++ [(e9.1 / 16777216) % 256]).length) fOuts fIns fReads fBad fIR fAsk fBAsk fCode fRL fRR fX fWrites 0)), ((g 6), Sum.inl (cI, 9000, Sum.inl v2_79))] H := ⟨hP, hD⟩
                have hP := hPD.1
                have hD := hPD.2
                obtain ⟨v_13, ev_13⟩ : ∃ y : Int32, y = (nI jj) + (1) := ⟨_, rfl⟩
                refine lv_iinc (v := v_13) (lv' := [(1, Value.int v_13), (0, Value.ref o)]) hx hb d_M_end_97 hl (k := 0) rfl (by rw [ev_13]; rfl) (by decide) rfl (fun ls hl => ?_)
                have z9 : v_13 = nI (jj + 1) := by rw [ev_13]; exact nI_1 _
                subst z9
                refine lv_goto (tgt := 65) hx hb d_M_end_100 (by decide) ?_
                exact ih9_65 _ (by first | omega | (omega)) (jj + 1) (mvL e9.1, e9.2 ++ [e9.1 / 16777216 % 256]) v2_79 rfl (by omega) (by rw [hE9, show 4 - jj = (4 - (jj + 1)) + 1 by omega]; rfl) (Nat.mod_lt _ (by decide)) (hw_79) (by show (e9.2 ++ [_]).length ≤ _; rw [List.length_append, List.length_singleton]; omega) H locs ls (hP.sub [1, 2, 0] rfl) (hD.sub [1, 2, 0] (by decide +kernel) rfl) hS (lv_sub hl [0, 1] rfl)
          exact J_65 _ (0 : Nat) (L, bs) vGoing rfl (by decide) (rfl) (hL) (hG) (by show bs.length ≤ _; omega) H locs ls (hP.sub [0, 1, 2] rfl) (hD.sub [0, 1, 2] (by decide +kernel) rfl) hS (lv_sub hl [0, 1] rfl)
      · exact absurd c_3 (by decide)
  · exact absurd (by decide) c_1
set_option maxHeartbeats 2000000 in
set_option maxRecDepth 100000 in
theorem m_end3B (l : Launch) (dC : Nat → ClassId) (dI : Nat → Nat → Nat) (cI cM cO : ClassId) (sz : Nat) (o : Nat) (g : Nat → Nat) (fShift : Int32) (fModels : Int32) (fLow : Int64) (fRange : Int64) (fCache : Int32) (fPend : Int32) (fOuts : Int32) (fIns : Int32) (fReads : Int32) (fBad : Int32) (fIR : Int32) (fAsk : Int32) (fBAsk : Int32) (fCode : Int64) (fRL : Int64) (fRR : Int64) (fX : Int64) (fWrites : Int32) (fThrown : Int32) (vMany : Nat → Int32) (vCounts : Nat → Int32) (vNow : Nat → Int32) (vIM : Nat → Int32) (vIW : Nat → Int32) (vGoing : Nat → Int32) (vOut : Nat → Int32) (vWr : Nat → Int32) (km : Nat) (N : Nat → Nat) (its : List It) (hmod : fModels = nI km) (hMD : MD km N vMany vCounts) (hki : its.length ≤ 600) (hit : itIs vIM vIW its) (hok : ∀ i, i < its.length → itOk 4096 12 km N vNow (itA its i)) : MetI l y_M_end (Cond.code y_M_end prog_14_method_31_code 2 (some .int) :: gw) ({ frames := 2, cells := 0, slots := 0, locals := 54 } : Room) (dC, dI) vwCl (kT cI cM cO) [Value.ref o] [(o, Sum.inr (9, mO g 3 fShift fModels (nI its.length) 0 fLow fRange fCache fPend 0 fOuts fIns fReads fBad fIR fAsk fBAsk fCode fRL fRR fX fWrites fThrown)), ((g 0), Sum.inl (cI, 8, Sum.inl vMany)), ((g 1), Sum.inl (cI, 512, Sum.inl vCounts)), ((g 2), Sum.inl (cI, 512, Sum.inl vNow)), ((g 4), Sum.inl (cI, 600, Sum.inl vIM)), ((g 5), Sum.inl (cI, 600, Sum.inl vIW)), ((g 6), Sum.inl (cI, 9000, Sum.inl vGoing)), ((g 7), Sum.inl (cI, 9000, Sum.inl vOut)), ((g 11), Sum.inl (cI, 20000, Sum.inl vWr))] sz (fun (r : Int32) (u : (Nat → Int32) × (Nat → Int32) × (Nat → Int32) × Int32 × Int32 × Int32) => r = nI ((e3S (Fvw vNow) its).reverse).length ∧ u.2.2.2.2.1 = nI ((e3S (Fvw vNow) its).reverse).length ∧ gIs u.2.1 ((e3S (Fvw vNow) its).reverse)) (fun (u : (Nat → Int32) × (Nat → Int32) × (Nat → Int32) × Int32 × Int32 × Int32) => [(o, Sum.inr (9, mO g 3 fShift fModels (nI its.length) 1 fLow fRange fCache fPend u.2.2.2.1 u.2.2.2.2.1 fIns fReads fBad fIR fAsk fBAsk fCode fRL fRR fX u.2.2.2.2.2 0)), ((g 0), Sum.inl (cI, 8, Sum.inl vMany)), ((g 1), Sum.inl (cI, 512, Sum.inl vCounts)), ((g 2), Sum.inl (cI, 512, Sum.inl vNow)), ((g 4), Sum.inl (cI, 600, Sum.inl vIM)), ((g 5), Sum.inl (cI, 600, Sum.inl vIW)), ((g 6), Sum.inl (cI, 9000, Sum.inl u.1)), ((g 7), Sum.inl (cI, 9000, Sum.inl u.2.1)), ((g 11), Sum.inl (cI, 20000, Sum.inl u.2.2.1))]) 0 0 := by
  refine my_ofI (cc := prog_14_method_31_code) (n := 2) (ret := (some .int)) (by decide) rfl (Nat.le_of_ble_eq_true rfl) ?_
  intro p e s m args below meth c R Q A ls H locs hx hb hr hts hown hlocks hml hnm hR hQ hA hl hP hK hN hD hS
  have hg : ∀ w ∈ gw, w.before args s = true := fun w h => hts w (List.mem_cons_of_mem _ h)
  have hown : s.vm.findClass "RangeCodersModel" = some m.cls := hown
  have hl : lv_has ls 2 [(0, Value.ref o)] := hl
  refine lv_aload_n hx hb d_M_end_0 rfl (lv_at hl 0 rfl) ?_
  refine lv_iconst (v := 0) hx hb d_M_end_1 (by decide) ?_
  refine va_put (D := (dC, dI)) (ci := 9) (v := .int 0) (ty := .int) (C := "RangeCodersModel") (T := T_M) (N := 35) hx hb hg in_M t_M o_M n_M hown hK hP hD hS 0 rfl rfl 34 (by decide) (hg _ k986) (fun _ h9 => h9) rfl (o_M 34 (by decide)) rfl rfl (Nat.le_of_ble_eq_true rfl) d_M_end_2 (fun H locs hP hD hS => ?_)
  have hPD : my_PD (dC, dI) vwCl A [(o, Sum.inr (9, mO g 3 fShift fModels (nI its.length) 0 fLow fRange fCache fPend 0 fOuts fIns fReads fBad fIR fAsk fBAsk fCode fRL fRR fX fWrites 0)), ((g 0), Sum.inl (cI, 8, Sum.inl vMany)), ((g 1), Sum.inl (cI, 512, Sum.inl vCounts)), ((g 2), Sum.inl (cI, 512, Sum.inl vNow)), ((g 4), Sum.inl (cI, 600, Sum.inl vIM)), ((g 5), Sum.inl (cI, 600, Sum.inl vIW)), ((g 6), Sum.inl (cI, 9000, Sum.inl vGoing)), ((g 7), Sum.inl (cI, 9000, Sum.inl vOut)), ((g 11), Sum.inl (cI, 20000, Sum.inl vWr))] H := ⟨hP, hD⟩
  have hP := hPD.1
  have hD := hPD.2
  refine lv_aload_n hx hb d_M_end_5 rfl (lv_at hl 0 rfl) ?_
  refine va_get (D := (dC, dI)) (ci := 9) (v := .int 0) (C := "RangeCodersModel") (T := T_M) (N := 35) hx hb hg in_M hown hK hP 0 rfl rfl 10 (by decide) (hg _ k962) (fun _ h9 => h9) rfl d_M_end_6 ?_
  refine lv_if_eq (tgt := 15) hx hb d_M_end_9 (by decide) (fun c_1 => ?_) (fun c_1 => ?_)
  · refine lv_aload_n hx hb d_M_end_15 rfl (lv_at hl 0 rfl) ?_
    refine lv_iconst (v := 1) hx hb d_M_end_16 (by decide) ?_
    refine va_put (D := (dC, dI)) (ci := 9) (v := .int 1) (ty := .boolean) (C := "RangeCodersModel") (T := T_M) (N := 35) hx hb hg in_M t_M o_M n_M hown hK hP hD hS 0 rfl rfl 10 (by decide) (hg _ k962) (fun _ h9 => h9) rfl (o_M 10 (by decide)) rfl rfl (Nat.le_of_ble_eq_true rfl) d_M_end_17 (fun H locs hP hD hS => ?_)
    have hPD : my_PD (dC, dI) vwCl A [(o, Sum.inr (9, mO g 3 fShift fModels (nI its.length) 1 fLow fRange fCache fPend 0 fOuts fIns fReads fBad fIR fAsk fBAsk fCode fRL fRR fX fWrites 0)), ((g 0), Sum.inl (cI, 8, Sum.inl vMany)), ((g 1), Sum.inl (cI, 512, Sum.inl vCounts)), ((g 2), Sum.inl (cI, 512, Sum.inl vNow)), ((g 4), Sum.inl (cI, 600, Sum.inl vIM)), ((g 5), Sum.inl (cI, 600, Sum.inl vIW)), ((g 6), Sum.inl (cI, 9000, Sum.inl vGoing)), ((g 7), Sum.inl (cI, 9000, Sum.inl vOut)), ((g 11), Sum.inl (cI, 20000, Sum.inl vWr))] H := ⟨hP, hD⟩
    have hP := hPD.1
    have hD := hPD.2
    refine lv_aload_n hx hb d_M_end_20 rfl (lv_at hl 0 rfl) ?_
    refine va_get (D := (dC, dI)) (ci := 9) (v := .int 3) (C := "RangeCodersModel") (T := T_M) (N := 35) hx hb hg in_M hown hK hP 0 rfl rfl 0 (by decide) (hg _ k952) (fun _ h9 => h9) rfl d_M_end_21 ?_
    refine lv_if_eq (tgt := 35) hx hb d_M_end_24 (by decide) (fun c_2 => ?_) (fun c_2 => ?_)
    · exact absurd c_2 (by decide)
    · refine lv_aload_n hx hb d_M_end_27 rfl (lv_at hl 0 rfl) ?_
      refine va_get (D := (dC, dI)) (ci := 9) (v := .int 3) (C := "RangeCodersModel") (T := T_M) (N := 35) hx hb hg in_M hown hK hP 0 rfl rfl 0 (by decide) (hg _ k952) (fun _ h9 => h9) rfl d_M_end_28 ?_
      refine lv_iconst (v := 2) hx hb d_M_end_31 (by decide) ?_
      refine lv_icmp_ne (tgt := 55) hx hb d_M_end_32 (by decide) (fun c_3 => ?_) (fun c_3 => ?_)
      · refine lv_aload_n hx hb d_M_end_55 rfl (lv_at hl 0 rfl) ?_
        refine va_get (D := (dC, dI)) (ci := 9) (v := .int 3) (C := "RangeCodersModel") (T := T_M) (N := 35) hx hb hg in_M hown hK hP 0 rfl rfl 0 (by decide) (hg _ k952) (fun _ h9 => h9) rfl d_M_end_56 ?_
        refine lv_iconst (v := 1) hx hb d_M_end_59 (by decide) ?_
        refine lv_icmp_ne (tgt := 106) hx hb d_M_end_60 (by decide) (fun c_4 => ?_) (fun c_4 => ?_)
        · refine lv_aload_n hx hb d_M_end_106 rfl (lv_at hl 0 rfl) ?_
          refine va_get (D := (dC, dI)) (ci := 9) (v := .int 3) (C := "RangeCodersModel") (T := T_M) (N := 35) hx hb hg in_M hown hK hP 0 rfl rfl 0 (by decide) (hg _ k952) (fun _ h9 => h9) rfl d_M_end_107 ?_
          refine lv_iconst (v := 3) hx hb d_M_end_110 (by decide) ?_
          refine lv_icmp_ne (tgt := 121) hx hb d_M_end_111 (by decide) (fun c_5 => ?_) (fun c_5 => ?_)
          · exact absurd rfl c_5
          · refine lv_aload_n hx hb d_M_end_114 rfl (lv_at hl 0 rfl) ?_
            refine my_cv (wr := [((g 0), Sum.inl (cI, 8, Sum.inl vMany)), ((g 1), Sum.inl (cI, 512, Sum.inl vCounts)), ((g 7), Sum.inl (cI, 9000, Sum.inl vOut))]) (va_runV (As := []) (rest := []) ⟨hx, hb, hml, hown, hts⟩ (c_M_endStack l dC dI cI cM cO H.size o g 3 fShift fModels 1 fLow fRange fCache fPend fOuts fIns fReads fBad fIR fAsk fBAsk fCode fRL fRR fX fWrites 0 vNow vIM vIW vGoing vWr its ([] : List Nat) N (Fvw vNow) (hit) (fun i hi => it3_of hMD (hok i hi)) (hki) (fun i hi => absurd hi (Nat.not_lt_zero i)) (Nat.zero_le _)) (cwV 0 hts (my_gV k1151 k1153 ks40 k12 k1154) rfl rfl rfl cu_M_endStack_0 ⟨by rw [hR]; exact Nat.le_of_ble_eq_true rfl, by rw [hR]; exact Nat.le_of_ble_eq_true rfl⟩) (my_preV hK hN (hP.sub [0, 3, 4, 5, 6, 8] rfl) (hD.sub [0, 3, 4, 5, 6, 8] (by decide +kernel) rfl) 0 rfl rfl) rfl rfl hl.1 rfl (lv_room (Nat.le_of_ble_eq_true rfl)) d_M_end_115 ⟨by rw [hR]; exact Nat.le_of_ble_eq_true rfl, by rw [hR]; exact Nat.le_of_ble_eq_true rfl⟩) hP hD hS hA [0, 3, 4, 5, 6, 8] [1, 2, 7] rfl rfl (by decide +kernel) (by decide +kernel) (fun u9 H locs hw_115 hP hD hS => ?_)
            obtain ⟨g2_115, w2_115⟩ := u9
            have hw_115 : gIs g2_115 (([] : List Nat) ++ (e3S (Fvw vNow) its).reverse.map (· % 256)) := hw_115
            have hPD : my_PD (dC, dI) vwCl A [((g 0), Sum.inl (cI, 8, Sum.inl vMany)), ((g 1), Sum.inl (cI, 512, Sum.inl vCounts)), ((g 7), Sum.inl (cI, 9000, Sum.inl vOut)), (o, Sum.inr (9, mO g 3 fShift fModels (nI its.length) 1 fLow fRange fCache fPend (nI (([] : List Nat) ++ (e3S (Fvw vNow) its).reverse.map (· % 256)).length) fOuts fIns fReads fBad fIR fAsk fBAsk fCode fRL fRR fX (nI (e3S (Fvw vNow) its).length) 0)), ((g 2), Sum.inl (cI, 512, Sum.inl vNow)), ((g 4), Sum.inl (cI, 600, Sum.inl vIM)), ((g 5), Sum.inl (cI, 600, Sum.inl vIW)), ((g 6), Sum.inl (cI, 9000, Sum.inl g2_115)), ((g 11), Sum.inl (cI, 20000, Sum.inl w2_115))] H := ⟨hP, hD⟩
            have hP := hPD.1
            have hD := hPD.2
            refine lv_goto (tgt := 125) hx hb d_M_end_118 (by decide) ?_
            have hP := hP
            rw [e3_out] at hP hD hw_115
            obtain ⟨b9, hb9⟩ : ∃ b, b = (e3S (Fvw vNow) its).reverse := ⟨_, rfl⟩
            rw [← hb9] at hP hD hw_115
            have hl9 : b9.length ≤ 4804 := by rw [hb9, List.length_reverse]; have := e3S_len (Fvw vNow) its; omega
            have hPD : my_PD (dC, dI) vwCl A [((g 0), Sum.inl (cI, 8, Sum.inl vMany)), ((g 1), Sum.inl (cI, 512, Sum.inl vCounts)), ((g 7), Sum.inl (cI, 9000, Sum.inl vOut)), (o, Sum.inr (9, mO g 3 fShift fModels (nI its.length) 1 fLow fRange fCache fPend (nI b9.length) fOuts fIns fReads fBad fIR fAsk fBAsk fCode fRL fRR fX (nI (e3S (Fvw vNow) its).length) 0)), ((g 2), Sum.inl (cI, 512, Sum.inl vNow)), ((g 4), Sum.inl (cI, 600, Sum.inl vIM)), ((g 5), Sum.inl (cI, 600, Sum.inl vIW)), ((g 6), Sum.inl (cI, 9000, Sum.inl g2_115)), ((g 11), Sum.inl (cI, 20000, Sum.inl w2_115))] H := ⟨hP, hD⟩
            have hP := hPD.1
            have hD := hPD.2
            refine lv_aload_n hx hb d_M_end_125 rfl (lv_at hl 0 rfl) ?_
            refine lv_aload_n hx hb d_M_end_126 rfl (lv_at hl 0 rfl) ?_
            refine va_get (D := (dC, dI)) (ci := 9) (v := .int (nI b9.length)) (C := "RangeCodersModel") (T := T_M) (N := 35) hx hb hg in_M hown hK hP 3 rfl rfl 16 (by decide) (hg _ k968) (fun _ h9 => h9) rfl d_M_end_127 ?_
            refine va_put (D := (dC, dI)) (ci := 9) (v := .int (nI b9.length)) (ty := .int) (C := "RangeCodersModel") (T := T_M) (N := 35) hx hb hg in_M t_M o_M n_M hown hK hP hD hS 3 rfl rfl 18 (by decide) (hg _ k970) (fun _ h9 => h9) rfl (o_M 18 (by decide)) rfl rfl (Nat.le_of_ble_eq_true rfl) d_M_end_130 (fun H locs hP hD hS => ?_)
            have hPD : my_PD (dC, dI) vwCl A [((g 0), Sum.inl (cI, 8, Sum.inl vMany)), ((g 1), Sum.inl (cI, 512, Sum.inl vCounts)), ((g 7), Sum.inl (cI, 9000, Sum.inl vOut)), (o, Sum.inr (9, mO g 3 fShift fModels (nI its.length) 1 fLow fRange fCache fPend (nI b9.length) (nI b9.length) fIns fReads fBad fIR fAsk fBAsk fCode fRL fRR fX (nI (e3S (Fvw vNow) its).length) 0)), ((g 2), Sum.inl (cI, 512, Sum.inl vNow)), ((g 4), Sum.inl (cI, 600, Sum.inl vIM)), ((g 5), Sum.inl (cI, 600, Sum.inl vIW)), ((g 6), Sum.inl (cI, 9000, Sum.inl g2_115)), ((g 11), Sum.inl (cI, 20000, Sum.inl w2_115))] H := ⟨hP, hD⟩
            have hP := hPD.1
            have hD := hPD.2
            refine lv_iconst (v := 0) hx hb d_M_end_133 (by decide) ?_
            refine lv_istore_n (lv' := [(1, Value.int 0), (0, Value.ref o)]) hx hb d_M_end_134 rfl hl (by decide) rfl (fun ls hl => ?_)
            have J_135 : ∀ (n9_135 : Nat) (kk : Nat) (fO : Nat → Int32) (hn9_135 : (b9).length - kk = n9_135) (hkk : kk ≤ (b9).length) (hc : ∀ i, i < kk → fO i = g2_115 i) (H : Heap) (locs : List Loc) (ls : Array Slot), va_P (dC, dI) vwCl [((g 0), Sum.inl (cI, 8, Sum.inl vMany)), ((g 1), Sum.inl (cI, 512, Sum.inl vCounts)), ((g 7), Sum.inl (cI, 9000, Sum.inl fO)), (o, Sum.inr (9, mO g 3 fShift fModels (nI its.length) 1 fLow fRange fCache fPend (nI b9.length) (nI b9.length) fIns fReads fBad fIR fAsk fBAsk fCode fRL fRR fX (nI (e3S (Fvw vNow) its).length) 0)), ((g 2), Sum.inl (cI, 512, Sum.inl vNow)), ((g 4), Sum.inl (cI, 600, Sum.inl vIM)), ((g 5), Sum.inl (cI, 600, Sum.inl vIW)), ((g 6), Sum.inl (cI, 9000, Sum.inl g2_115)), ((g 11), Sum.inl (cI, 20000, Sum.inl w2_115))] H → va_D A [((g 0), Sum.inl (cI, 8, Sum.inl vMany)), ((g 1), Sum.inl (cI, 512, Sum.inl vCounts)), ((g 7), Sum.inl (cI, 9000, Sum.inl fO)), (o, Sum.inr (9, mO g 3 fShift fModels (nI its.length) 1 fLow fRange fCache fPend (nI b9.length) (nI b9.length) fIns fReads fBad fIR fAsk fBAsk fCode fRL fRR fX (nI (e3S (Fvw vNow) its).length) 0)), ((g 2), Sum.inl (cI, 512, Sum.inl vNow)), ((g 4), Sum.inl (cI, 600, Sum.inl vIM)), ((g 5), Sum.inl (cI, 600, Sum.inl vIW)), ((g 6), Sum.inl (cI, 9000, Sum.inl g2_115)), ((g 11), Sum.inl (cI, 20000, Sum.inl w2_115))] → va_S A s.heap H locs → lv_has ls 2 [(1, Value.int (nI kk)), (0, Value.ref o)] → W p l e R s m args below meth c H locs 0 0 Q (F0 m 135 ls []) := by
              intro n9_135
              induction n9_135 using Nat.strongRecOn with
              | ind n9_135 ih9_135 =>
                intro kk fO hn9_135 hkk hc H locs ls hP hD hS hl
                refine lv_iload_n hx hb d_M_end_135 rfl (lv_at hl 0 rfl) ?_
                refine lv_aload_n hx hb d_M_end_136 rfl (lv_at hl 1 rfl) ?_
                refine va_get (D := (dC, dI)) (ci := 9) (v := .int (nI b9.length)) (C := "RangeCodersModel") (T := T_M) (N := 35) hx hb hg in_M hown hK hP 3 rfl rfl 16 (by decide) (hg _ k968) (fun _ h9 => h9) rfl d_M_end_137 ?_
                refine lv_icmp_ge (tgt := 161) hx hb d_M_end_140 (by decide) (fun c_6 => ?_) (fun c_6 => ?_)
                · have hkn : kk = (b9).length := by have := (nI_cmp (a := (b9).length) (b := kk) (by omega) (by omega)).mp c_6; omega
                  subst hkn
                  refine lv_aload_n hx hb d_M_end_161 rfl (lv_at hl 1 rfl) ?_
                  refine va_get (D := (dC, dI)) (ci := 9) (v := .int (nI b9.length)) (C := "RangeCodersModel") (T := T_M) (N := 35) hx hb hg in_M hown hK hP 3 rfl rfl 18 (by decide) (hg _ k970) (fun _ h9 => h9) rfl d_M_end_162 ?_
                  exact my_iret (v := nI b9.length) hx hb hr (rfl) hlocks hQ hK hS (Nat.le_refl _) (Nat.le_refl _) (g2_115, fO, w2_115, nI b9.length, nI b9.length, nI (e3S (Fvw vNow) its).length) (⟨by rw [← hb9], by rw [← hb9], by rw [← hb9]; exact gIs_cp hw_115 hc⟩) (hP.sub [3, 0, 1, 4, 5, 6, 7, 2, 8] rfl) (hD.sub [3, 0, 1, 4, 5, 6, 7, 2, 8] (by decide +kernel) rfl) d_M_end_165
                · have hkl : kk < (b9).length := by
                    rcases Nat.lt_or_ge kk (b9).length with z | z
                    · exact z
                    · exact absurd (nI_le z (by omega)) c_6
                  refine lv_aload_n hx hb d_M_end_143 rfl (lv_at hl 1 rfl) ?_
                  refine va_get (D := (dC, dI)) (ci := 9) (v := .ref (g 7)) (C := "RangeCodersModel") (T := T_M) (N := 35) hx hb hg in_M hown hK hP 3 rfl rfl 17 (by decide) (hg _ k969) (fun _ h9 => h9) rfl d_M_end_144 ?_
                  refine lv_iload_n hx hb d_M_end_147 rfl (lv_at hl 0 rfl) ?_
                  refine lv_aload_n hx hb d_M_end_148 rfl (lv_at hl 1 rfl) ?_
                  refine va_get (D := (dC, dI)) (ci := 9) (v := .ref (g 6)) (C := "RangeCodersModel") (T := T_M) (N := 35) hx hb hg in_M hown hK hP 3 rfl rfl 15 (by decide) (hg _ k967) (fun _ h9 => h9) rfl d_M_end_149 ?_
                  refine lv_iload_n hx hb d_M_end_152 rfl (lv_at hl 0 rfl) ?_
                  refine va_iald hx hb hK hP 7 0 rfl rfl (vp_in_nI (by omega) (by decide)) d_M_end_153 ?_
                  refine lv_topi (fun v_7 ev_7 => ?_)
                  refine va_iast hx hb hK hP hD hS 2 0 rfl rfl (vp_in_nI (by omega) (by decide)) d_M_end_154 (fun H locs hP hD hS => ?_)
                  have hPD : my_PD (dC, dI) vwCl A [((g 0), Sum.inl (cI, 8, Sum.inl vMany)), ((g 1), Sum.inl (cI, 512, Sum.inl vCounts)), ((g 7), Sum.inl (cI, 9000, Sum.inl (upd fO (nI kk).toNatClampNeg v_7))), (o, Sum.inr (9, mO g 3 fShift fModels (nI its.length) 1 fLow fRange fCache fPend (nI b9.length) (nI b9.length) fIns fReads fBad fIR fAsk fBAsk fCode fRL fRR fX (nI (e3S (Fvw vNow) its).length) 0)), ((g 2), Sum.inl (cI, 512, Sum.inl vNow)), ((g 4), Sum.inl (cI, 600, Sum.inl vIM)), ((g 5), Sum.inl (cI, 600, Sum.inl vIW)), ((g 6), Sum.inl (cI, 9000, Sum.inl g2_115)), ((g 11), Sum.inl (cI, 20000, Sum.inl w2_115))] H := ⟨hP, hD⟩
                  have hP := hPD.1
                  have hD := hPD.2
                  have hc8 : ∀ i, i < kk + 1 → (upd fO (nI kk).toNatClampNeg v_7) i = g2_115 i := cp_st hc (nI_clamp (by omega)) (by rw [ev_7, nI_clamp (by omega)])
                  obtain ⟨v_8, ev_8⟩ : ∃ y : Int32, y = (nI kk) + (1) := ⟨_, rfl⟩
                  refine lv_iinc (v := v_8) (lv' := [(1, Value.int v_8), (0, Value.ref o)]) hx hb d_M_end_155 hl (k := 0) rfl (by rw [ev_8]; rfl) (by decide) rfl (fun ls hl => ?_)
                  have z9 : v_8 = nI (kk + 1) := by rw [ev_8]; exact nI_1 _
                  subst z9
                  refine lv_goto (tgt := 135) hx hb d_M_end_158 (by decide) ?_
                  exact ih9_135 _ (by first | omega | (omega)) (kk + 1) (upd fO (nI kk).toNatClampNeg v_7) rfl (by omega) (hc8) H locs ls (hP.sub [0, 1, 2, 3, 4, 5, 6, 7, 8] rfl) (hD.sub [0, 1, 2, 3, 4, 5, 6, 7, 8] (by decide +kernel) rfl) hS (lv_sub hl [0, 1] rfl)
            exact J_135 _ (0 : Nat) vOut rfl (Nat.zero_le _) (fun _ z => absurd z (Nat.not_lt_zero _)) H locs ls (hP.sub [0, 1, 2, 3, 4, 5, 6, 7, 8] rfl) (hD.sub [0, 1, 2, 3, 4, 5, 6, 7, 8] (by decide +kernel) rfl) hS (lv_sub hl [0, 1] rfl)
        · exact absurd c_4 (by decide)
      · exact absurd c_3 (by decide)
  · exact absurd (by decide) c_1
set_option maxHeartbeats 2000000 in
set_option maxRecDepth 100000 in
theorem m_start (l : Launch) (dC : Nat → ClassId) (dI : Nat → Nat → Nat) (cI cM cO : ClassId) (sz : Nat) (o : Nat) (g : Nat → Nat) (fForm : Int32) (fShift : Int32) (fModels : Int32) (fItems : Int32) (fEnded : Int32) (fLow : Int64) (fRange : Int64) (fCache : Int32) (fPend : Int32) (fGoes : Int32) (fOuts : Int32) (fIns : Int32) (fReads : Int32) (fBad : Int32) (fIR : Int32) (fAsk : Int32) (fBAsk : Int32) (fCode : Int64) (fRL : Int64) (fRR : Int64) (fX : Int64) (fWrites : Int32) (fThrown : Int32) (vMany : Nat → Int32) (vCounts : Nat → Int32) (vNow : Nat → Int32) (fm : Nat) (km : Nat) (N : Nat → Nat) (hfm : fm ≤ 4) (hform : fForm = nI fm) (hmod : fModels = nI km) (hMD : MD km N vMany vCounts) : MetV l y_M_start (Cond.code y_M_start prog_14_method_15_code 2 none :: gw) ({ frames := 3, cells := 0, slots := 0, locals := 75 } : Room) (dC, dI) vwCl (kT cI cM cO) [Value.ref o] [(o, Sum.inr (9, mO g fForm fShift fModels fItems fEnded fLow fRange fCache fPend fGoes fOuts fIns fReads fBad fIR fAsk fBAsk fCode fRL fRR fX fWrites fThrown)), ((g 0), Sum.inl (cI, 8, Sum.inl vMany)), ((g 1), Sum.inl (cI, 512, Sum.inl vCounts)), ((g 2), Sum.inl (cI, 512, Sum.inl vNow))] sz (fun (u : (Nat → Int32)) => pfA fm km N vCounts u) (fun (u : (Nat → Int32)) => [(o, Sum.inr (9, mO g fForm fShift fModels 0 0 0 4294967295 (-1) 0 0 fOuts fIns fReads fBad fIR fAsk fBAsk fCode fRL fRR fX fWrites fThrown)), ((g 0), Sum.inl (cI, 8, Sum.inl vMany)), ((g 1), Sum.inl (cI, 512, Sum.inl vCounts)), ((g 2), Sum.inl (cI, 512, Sum.inl u))]) 0 0 := by
  refine my_ofV (cc := prog_14_method_15_code) (n := 2) (ret := none) (by decide) rfl (Nat.le_of_ble_eq_true rfl) ?_
  intro p e s m args below meth c R Q A ls H locs hx hb hr hts hown hlocks hml hnm hR hQ hA hl hP hK hN hD hS
  have hg : ∀ w ∈ gw, w.before args s = true := fun w h => hts w (List.mem_cons_of_mem _ h)
  have hown : s.vm.findClass "RangeCodersModel" = some m.cls := hown
  have hl : lv_has ls 2 [(0, Value.ref o)] := hl
  refine lv_aload_n hx hb d_M_start_0 rfl (lv_at hl 0 rfl) ?_
  refine lv_iconst (v := 0) hx hb d_M_start_1 (by decide) ?_
  refine va_put (D := (dC, dI)) (ci := 9) (v := .int 0) (ty := .int) (C := "RangeCodersModel") (T := T_M) (N := 35) hx hb hg in_M t_M o_M n_M hown hK hP hD hS 0 rfl rfl 7 (by decide) (hg _ k959) (fun _ h9 => h9) rfl (o_M 7 (by decide)) rfl rfl (Nat.le_of_ble_eq_true rfl) d_M_start_2 (fun H locs hP hD hS => ?_)
  have hPD : my_PD (dC, dI) vwCl A [(o, Sum.inr (9, mO g fForm fShift fModels 0 fEnded fLow fRange fCache fPend fGoes fOuts fIns fReads fBad fIR fAsk fBAsk fCode fRL fRR fX fWrites fThrown)), ((g 0), Sum.inl (cI, 8, Sum.inl vMany)), ((g 1), Sum.inl (cI, 512, Sum.inl vCounts)), ((g 2), Sum.inl (cI, 512, Sum.inl vNow))] H := ⟨hP, hD⟩
  have hP := hPD.1
  have hD := hPD.2
  refine lv_aload_n hx hb d_M_start_5 rfl (lv_at hl 0 rfl) ?_
  refine lv_iconst (v := 0) hx hb d_M_start_6 (by decide) ?_
  refine va_put (D := (dC, dI)) (ci := 9) (v := .int 0) (ty := .boolean) (C := "RangeCodersModel") (T := T_M) (N := 35) hx hb hg in_M t_M o_M n_M hown hK hP hD hS 0 rfl rfl 10 (by decide) (hg _ k962) (fun _ h9 => h9) rfl (o_M 10 (by decide)) rfl rfl (Nat.le_of_ble_eq_true rfl) d_M_start_7 (fun H locs hP hD hS => ?_)
  have hPD : my_PD (dC, dI) vwCl A [(o, Sum.inr (9, mO g fForm fShift fModels 0 0 fLow fRange fCache fPend fGoes fOuts fIns fReads fBad fIR fAsk fBAsk fCode fRL fRR fX fWrites fThrown)), ((g 0), Sum.inl (cI, 8, Sum.inl vMany)), ((g 1), Sum.inl (cI, 512, Sum.inl vCounts)), ((g 2), Sum.inl (cI, 512, Sum.inl vNow))] H := ⟨hP, hD⟩
  have hP := hPD.1
  have hD := hPD.2
  refine lv_aload_n hx hb d_M_start_10 rfl (lv_at hl 0 rfl) ?_
  refine lv_lconst (v := 0) hx hb d_M_start_11 (by decide) ?_
  refine va_put (D := (dC, dI)) (ci := 9) (v := .long 0) (ty := .long) (C := "RangeCodersModel") (T := T_M) (N := 35) hx hb hg in_M t_M o_M n_M hown hK hP hD hS 0 rfl rfl 11 (by decide) (hg _ k963) (fun _ h9 => h9) rfl (o_M 11 (by decide)) rfl rfl (Nat.le_of_ble_eq_true rfl) d_M_start_12 (fun H locs hP hD hS => ?_)
  have hPD : my_PD (dC, dI) vwCl A [(o, Sum.inr (9, mO g fForm fShift fModels 0 0 0 fRange fCache fPend fGoes fOuts fIns fReads fBad fIR fAsk fBAsk fCode fRL fRR fX fWrites fThrown)), ((g 0), Sum.inl (cI, 8, Sum.inl vMany)), ((g 1), Sum.inl (cI, 512, Sum.inl vCounts)), ((g 2), Sum.inl (cI, 512, Sum.inl vNow))] H := ⟨hP, hD⟩
  have hP := hPD.1
  have hD := hPD.2
  refine lv_aload_n hx hb d_M_start_15 rfl (lv_at hl 0 rfl) ?_
  refine lv_ldc2 (v := 4294967295) hx hb hown (hg _ k927) d_M_start_16 ?_
  refine va_put (D := (dC, dI)) (ci := 9) (v := .long 4294967295) (ty := .long) (C := "RangeCodersModel") (T := T_M) (N := 35) hx hb hg in_M t_M o_M n_M hown hK hP hD hS 0 rfl rfl 12 (by decide) (hg _ k964) (fun _ h9 => h9) rfl (o_M 12 (by decide)) rfl rfl (Nat.le_of_ble_eq_true rfl) d_M_start_19 (fun H locs hP hD hS => ?_)
  have hPD : my_PD (dC, dI) vwCl A [(o, Sum.inr (9, mO g fForm fShift fModels 0 0 0 4294967295 fCache fPend fGoes fOuts fIns fReads fBad fIR fAsk fBAsk fCode fRL fRR fX fWrites fThrown)), ((g 0), Sum.inl (cI, 8, Sum.inl vMany)), ((g 1), Sum.inl (cI, 512, Sum.inl vCounts)), ((g 2), Sum.inl (cI, 512, Sum.inl vNow))] H := ⟨hP, hD⟩
  have hP := hPD.1
  have hD := hPD.2
  refine lv_aload_n hx hb d_M_start_22 rfl (lv_at hl 0 rfl) ?_
  refine lv_iconst (v := (-1)) hx hb d_M_start_23 (by decide) ?_
  refine va_put (D := (dC, dI)) (ci := 9) (v := .int (-1)) (ty := .int) (C := "RangeCodersModel") (T := T_M) (N := 35) hx hb hg in_M t_M o_M n_M hown hK hP hD hS 0 rfl rfl 13 (by decide) (hg _ k965) (fun _ h9 => h9) rfl (o_M 13 (by decide)) rfl rfl (Nat.le_of_ble_eq_true rfl) d_M_start_24 (fun H locs hP hD hS => ?_)
  have hPD : my_PD (dC, dI) vwCl A [(o, Sum.inr (9, mO g fForm fShift fModels 0 0 0 4294967295 (-1) fPend fGoes fOuts fIns fReads fBad fIR fAsk fBAsk fCode fRL fRR fX fWrites fThrown)), ((g 0), Sum.inl (cI, 8, Sum.inl vMany)), ((g 1), Sum.inl (cI, 512, Sum.inl vCounts)), ((g 2), Sum.inl (cI, 512, Sum.inl vNow))] H := ⟨hP, hD⟩
  have hP := hPD.1
  have hD := hPD.2
  refine lv_aload_n hx hb d_M_start_27 rfl (lv_at hl 0 rfl) ?_
  refine lv_iconst (v := 0) hx hb d_M_start_28 (by decide) ?_
  refine va_put (D := (dC, dI)) (ci := 9) (v := .int 0) (ty := .int) (C := "RangeCodersModel") (T := T_M) (N := 35) hx hb hg in_M t_M o_M n_M hown hK hP hD hS 0 rfl rfl 14 (by decide) (hg _ k966) (fun _ h9 => h9) rfl (o_M 14 (by decide)) rfl rfl (Nat.le_of_ble_eq_true rfl) d_M_start_29 (fun H locs hP hD hS => ?_)
  have hPD : my_PD (dC, dI) vwCl A [(o, Sum.inr (9, mO g fForm fShift fModels 0 0 0 4294967295 (-1) 0 fGoes fOuts fIns fReads fBad fIR fAsk fBAsk fCode fRL fRR fX fWrites fThrown)), ((g 0), Sum.inl (cI, 8, Sum.inl vMany)), ((g 1), Sum.inl (cI, 512, Sum.inl vCounts)), ((g 2), Sum.inl (cI, 512, Sum.inl vNow))] H := ⟨hP, hD⟩
  have hP := hPD.1
  have hD := hPD.2
  refine lv_aload_n hx hb d_M_start_32 rfl (lv_at hl 0 rfl) ?_
  refine lv_iconst (v := 0) hx hb d_M_start_33 (by decide) ?_
  refine va_put (D := (dC, dI)) (ci := 9) (v := .int 0) (ty := .int) (C := "RangeCodersModel") (T := T_M) (N := 35) hx hb hg in_M t_M o_M n_M hown hK hP hD hS 0 rfl rfl 16 (by decide) (hg _ k968) (fun _ h9 => h9) rfl (o_M 16 (by decide)) rfl rfl (Nat.le_of_ble_eq_true rfl) d_M_start_34 (fun H locs hP hD hS => ?_)
  have hPD : my_PD (dC, dI) vwCl A [(o, Sum.inr (9, mO g fForm fShift fModels 0 0 0 4294967295 (-1) 0 0 fOuts fIns fReads fBad fIR fAsk fBAsk fCode fRL fRR fX fWrites fThrown)), ((g 0), Sum.inl (cI, 8, Sum.inl vMany)), ((g 1), Sum.inl (cI, 512, Sum.inl vCounts)), ((g 2), Sum.inl (cI, 512, Sum.inl vNow))] H := ⟨hP, hD⟩
  have hP := hPD.1
  have hD := hPD.2
  refine lv_iconst (v := 0) hx hb d_M_start_37 (by decide) ?_
  refine lv_istore_n (lv' := [(1, Value.int 0), (0, Value.ref o)]) hx hb d_M_start_38 rfl hl (by decide) rfl (fun ls hl => ?_)
  have J_39 : ∀ (n9_39 : Nat) (jj : Nat) (fN : Nat → Int32) (hn9_39 : km - jj = n9_39) (hjj : jj ≤ km) (hT9 : pfA fm jj N vCounts fN) (H : Heap) (locs : List Loc) (ls : Array Slot), va_P (dC, dI) vwCl [(o, Sum.inr (9, mO g fForm fShift fModels 0 0 0 4294967295 (-1) 0 0 fOuts fIns fReads fBad fIR fAsk fBAsk fCode fRL fRR fX fWrites fThrown)), ((g 0), Sum.inl (cI, 8, Sum.inl vMany)), ((g 1), Sum.inl (cI, 512, Sum.inl vCounts)), ((g 2), Sum.inl (cI, 512, Sum.inl fN))] H → va_D A [(o, Sum.inr (9, mO g fForm fShift fModels 0 0 0 4294967295 (-1) 0 0 fOuts fIns fReads fBad fIR fAsk fBAsk fCode fRL fRR fX fWrites fThrown)), ((g 0), Sum.inl (cI, 8, Sum.inl vMany)), ((g 1), Sum.inl (cI, 512, Sum.inl vCounts)), ((g 2), Sum.inl (cI, 512, Sum.inl fN))] → va_S A s.heap H locs → lv_has ls 2 [(1, Value.int (nI jj)), (0, Value.ref o)] → W p l e R s m args below meth c H locs 0 0 Q (F0 m 39 ls []) := by
    intro n9_39
    induction n9_39 using Nat.strongRecOn with
    | ind n9_39 ih9_39 =>
      intro jj fN hn9_39 hjj hT9 H locs ls hP hD hS hl
      refine lv_iload_n hx hb d_M_start_39 rfl (lv_at hl 0 rfl) ?_
      refine lv_aload_n hx hb d_M_start_40 rfl (lv_at hl 1 rfl) ?_
      refine va_get (D := (dC, dI)) (ci := 9) (v := .int fModels) (C := "RangeCodersModel") (T := T_M) (N := 35) hx hb hg in_M hown hK hP 0 rfl rfl 2 (by decide) (hg _ k954) (fun _ h9 => h9) rfl d_M_start_41 ?_
      refine lv_icmp_ge (tgt := 62) hx hb d_M_start_44 (by decide) (fun c_1 => ?_) (fun c_1 => ?_)
      · have hjk : jj = km := by
          have hk8 := hMD.1
          rw [hmod] at c_1
          have := (nI_cmp (by omega) (by omega)).mp c_1
          omega
        subst hjk
        exact my_vret hx hb hr hlocks hQ hK hS (Nat.le_refl _) (Nat.le_refl _) (fN) (hT9) (hP.sub [0, 1, 2, 3] rfl) (hD.sub [0, 1, 2, 3] (by decide +kernel) rfl) d_M_start_62
      · have hjl : jj < km := by
          rcases Nat.lt_or_ge jj km with z | z
          · exact z
          · exact absurd (by rw [hmod]; exact nI_le z (by have := hMD.1; omega)) c_1
        have hk8 := hMD.1
        obtain ⟨hn9, hn2, hn64, C9, hc9, hB9⟩ := hMD.2 jj hjl
        have hCC := MD_C hMD hjl
        refine lv_aload_n hx hb d_M_start_47 rfl (lv_at hl 1 rfl) ?_
        refine lv_aload_n hx hb d_M_start_48 rfl (lv_at hl 1 rfl) ?_
        refine va_get (D := (dC, dI)) (ci := 9) (v := .ref (g 2)) (C := "RangeCodersModel") (T := T_M) (N := 35) hx hb hg in_M hown hK hP 0 rfl rfl 5 (by decide) (hg _ k957) (fun _ h9 => h9) rfl d_M_start_49 ?_
        refine lv_iload_n hx hb d_M_start_52 rfl (lv_at hl 0 rfl) ?_
        refine my_cv (wr := []) (va_runV (As := [Value.ref (g 2), Value.int (nI jj)]) (rest := []) ⟨hx, hb, hml, hown, hts⟩ (c_M_prepare l dC dI cI cM cO H.size o g fForm fShift fModels 0 0 0 4294967295 (-1) 0 0 fOuts fIns fReads fBad fIR fAsk fBAsk fCode fRL fRR fX fWrites fThrown vMany vCounts (g 2) fN jj (N jj) fm (Fvw vCounts jj) (by omega) (hn9) (hn64) (by omega) (hfm) (hform) (hCC.1) (hCC.2)) (cwV 2 hts (my_gV k928 k930 ks19 k12 k931) rfl rfl rfl cu_M_prepare_2 ⟨by rw [hR]; exact Nat.le_of_ble_eq_true rfl, by rw [hR]; exact Nat.le_of_ble_eq_true rfl⟩) (my_preV hK hN (hP.sub [0, 1, 2, 3] rfl) (hD.sub [0, 1, 2, 3] (by decide +kernel) rfl) 0 rfl rfl) rfl rfl hl.1 rfl (lv_room (Nat.le_of_ble_eq_true rfl)) d_M_start_53 ⟨by rw [hR]; exact Nat.le_of_ble_eq_true rfl, by rw [hR]; exact Nat.le_of_ble_eq_true rfl⟩) hP hD hS hA [0, 1, 2, 3] [] rfl rfl (by decide +kernel) (by decide +kernel) (fun u9 H locs hw_53 hP hD hS => ?_)
        obtain ⟨f2_53, rfl⟩ : ∃ z, z = u9 := ⟨_, rfl⟩
        have hw_53 : sgI f2_53 (64 * jj) (pfN fm (N jj)) (pf fm (N jj) (Fvw vCounts jj)) ∧ sgO f2_53 fN (64 * jj) 64 := hw_53
        have hPD : my_PD (dC, dI) vwCl A [(o, Sum.inr (9, mO g fForm fShift fModels 0 0 0 4294967295 (-1) 0 0 fOuts fIns fReads fBad fIR fAsk fBAsk fCode fRL fRR fX fWrites fThrown)), ((g 0), Sum.inl (cI, 8, Sum.inl vMany)), ((g 1), Sum.inl (cI, 512, Sum.inl vCounts)), ((g 2), Sum.inl (cI, 512, Sum.inl f2_53))] H := ⟨hP, hD⟩
        have hP := hPD.1
        have hD := hPD.2
        have hT8 := pfA_st hT9 (MD_N hMD) hjl hw_53.2 hw_53.1
        obtain ⟨v_2, ev_2⟩ : ∃ y : Int32, y = (nI jj) + (1) := ⟨_, rfl⟩
        refine lv_iinc (v := v_2) (lv' := [(1, Value.int v_2), (0, Value.ref o)]) hx hb d_M_start_56 hl (k := 0) rfl (by rw [ev_2]; rfl) (by decide) rfl (fun ls hl => ?_)
        have z9 : v_2 = nI (jj + 1) := by rw [ev_2]; exact nI_1 _
        subst z9
        refine lv_goto (tgt := 39) hx hb d_M_start_59 (by decide) ?_
        exact ih9_39 _ (by first | omega | (omega)) (jj + 1) f2_53 rfl (by omega) (hT8) H locs ls (hP.sub [0, 1, 2, 3] rfl) (hD.sub [0, 1, 2, 3] (by decide +kernel) rfl) hS (lv_sub hl [0, 1] rfl)
  exact J_39 _ (0 : Nat) vNow rfl (Nat.zero_le _) (pfA_0 _ _ _ _) H locs ls (hP.sub [0, 1, 2, 3] rfl) (hD.sub [0, 1, 2, 3] (by decide +kernel) rfl) hS (lv_sub hl [0, 1] rfl)
set_option maxHeartbeats 2000000 in
set_option maxRecDepth 100000 in
theorem m_begin (l : Launch) (dC : Nat → ClassId) (dI : Nat → Nat → Nat) (cI cM cO : ClassId) (sz : Nat) (o : Nat) (g : Nat → Nat) (fForm : Int32) (fShift : Int32) (fModels : Int32) (fItems : Int32) (fEnded : Int32) (fLow : Int64) (fRange : Int64) (fCache : Int32) (fPend : Int32) (fGoes : Int32) (fOuts : Int32) (fIns : Int32) (fReads : Int32) (fBad : Int32) (fIR : Int32) (fAsk : Int32) (fBAsk : Int32) (fCode : Int64) (fRL : Int64) (fRR : Int64) (fX : Int64) (fWrites : Int32) (fThrown : Int32) (vMany : Nat → Int32) (vCounts : Nat → Int32) (vNow : Nat → Int32) (fm : Nat) (km : Nat) (N : Nat → Nat) (hfm : fm ≤ 4) (hform : fForm = nI fm) (hmod : fModels = nI km) (hMD : MD km N vMany vCounts) : MetI l y_M_begin (Cond.code y_M_begin prog_14_method_16_code 2 (some .int) :: gw) ({ frames := 4, cells := 0, slots := 0, locals := 96 } : Room) (dC, dI) vwCl (kT cI cM cO) [Value.ref o] [(o, Sum.inr (9, mO g fForm fShift fModels fItems fEnded fLow fRange fCache fPend fGoes fOuts fIns fReads fBad fIR fAsk fBAsk fCode fRL fRR fX fWrites fThrown)), ((g 0), Sum.inl (cI, 8, Sum.inl vMany)), ((g 1), Sum.inl (cI, 512, Sum.inl vCounts)), ((g 2), Sum.inl (cI, 512, Sum.inl vNow))] sz (fun (r : Int32) (u : (Nat → Int32)) => r = fItems ∧ pfA fm km N vCounts u) (fun (u : (Nat → Int32)) => [(o, Sum.inr (9, mO g fForm fShift fModels 0 0 0 4294967295 (-1) 0 0 fOuts fIns fReads fBad fIR fAsk fBAsk fCode fRL fRR fX fWrites 0)), ((g 0), Sum.inl (cI, 8, Sum.inl vMany)), ((g 1), Sum.inl (cI, 512, Sum.inl vCounts)), ((g 2), Sum.inl (cI, 512, Sum.inl u))]) 0 0 := by
  refine my_ofI (cc := prog_14_method_16_code) (n := 2) (ret := (some .int)) (by decide) rfl (Nat.le_of_ble_eq_true rfl) ?_
  intro p e s m args below meth c R Q A ls H locs hx hb hr hts hown hlocks hml hnm hR hQ hA hl hP hK hN hD hS
  have hg : ∀ w ∈ gw, w.before args s = true := fun w h => hts w (List.mem_cons_of_mem _ h)
  have hown : s.vm.findClass "RangeCodersModel" = some m.cls := hown
  have hl : lv_has ls 2 [(0, Value.ref o)] := hl
  refine lv_aload_n hx hb d_M_begin_0 rfl (lv_at hl 0 rfl) ?_
  refine lv_iconst (v := 0) hx hb d_M_begin_1 (by decide) ?_
  refine va_put (D := (dC, dI)) (ci := 9) (v := .int 0) (ty := .int) (C := "RangeCodersModel") (T := T_M) (N := 35) hx hb hg in_M t_M o_M n_M hown hK hP hD hS 0 rfl rfl 34 (by decide) (hg _ k986) (fun _ h9 => h9) rfl (o_M 34 (by decide)) rfl rfl (Nat.le_of_ble_eq_true rfl) d_M_begin_2 (fun H locs hP hD hS => ?_)
  have hPD : my_PD (dC, dI) vwCl A [(o, Sum.inr (9, mO g fForm fShift fModels fItems fEnded fLow fRange fCache fPend fGoes fOuts fIns fReads fBad fIR fAsk fBAsk fCode fRL fRR fX fWrites 0)), ((g 0), Sum.inl (cI, 8, Sum.inl vMany)), ((g 1), Sum.inl (cI, 512, Sum.inl vCounts)), ((g 2), Sum.inl (cI, 512, Sum.inl vNow))] H := ⟨hP, hD⟩
  have hP := hPD.1
  have hD := hPD.2
  refine lv_aload_n hx hb d_M_begin_5 rfl (lv_at hl 0 rfl) ?_
  refine va_get (D := (dC, dI)) (ci := 9) (v := .int fItems) (C := "RangeCodersModel") (T := T_M) (N := 35) hx hb hg in_M hown hK hP 0 rfl rfl 7 (by decide) (hg _ k959) (fun _ h9 => h9) rfl d_M_begin_6 ?_
  refine lv_istore_n (lv' := [(1, Value.int fItems), (0, Value.ref o)]) hx hb d_M_begin_9 rfl hl (by decide) rfl (fun ls hl => ?_)
  refine lv_aload_n hx hb d_M_begin_10 rfl (lv_at hl 1 rfl) ?_
  refine my_cv (wr := []) (va_runV (As := []) (rest := []) ⟨hx, hb, hml, hown, hts⟩ (m_start l dC dI cI cM cO H.size o g fForm fShift fModels fItems fEnded fLow fRange fCache fPend fGoes fOuts fIns fReads fBad fIR fAsk fBAsk fCode fRL fRR fX fWrites 0 vMany vCounts vNow fm km N (by first | assumption | omega) (by first | assumption | omega) (by first | assumption | omega) (by first | assumption | omega)) (cwV 0 hts (my_gV k923 k925 ks18 k12 k926) rfl rfl rfl cu_M_start_0 ⟨by rw [hR]; exact Nat.le_of_ble_eq_true rfl, by rw [hR]; exact Nat.le_of_ble_eq_true rfl⟩) (my_preV hK hN (hP.sub [0, 1, 2, 3] rfl) (hD.sub [0, 1, 2, 3] (by decide +kernel) rfl) 0 rfl rfl) rfl rfl hl.1 rfl (lv_room (Nat.le_of_ble_eq_true rfl)) d_M_begin_11 ⟨by rw [hR]; exact Nat.le_of_ble_eq_true rfl, by rw [hR]; exact Nat.le_of_ble_eq_true rfl⟩) hP hD hS hA [0, 1, 2, 3] [] rfl rfl (by decide +kernel) (by decide +kernel) (fun u9 H locs hw_11 hP hD hS => ?_)
  obtain ⟨vNowq_11, rfl⟩ : ∃ z, z = u9 := ⟨_, rfl⟩
  have hT_11 : pfA fm km N vCounts vNowq_11 := hw_11
  have hPD : my_PD (dC, dI) vwCl A [(o, Sum.inr (9, mO g fForm fShift fModels 0 0 0 4294967295 (-1) 0 0 fOuts fIns fReads fBad fIR fAsk fBAsk fCode fRL fRR fX fWrites 0)), ((g 0), Sum.inl (cI, 8, Sum.inl vMany)), ((g 1), Sum.inl (cI, 512, Sum.inl vCounts)), ((g 2), Sum.inl (cI, 512, Sum.inl vNowq_11))] H := ⟨hP, hD⟩
  have hP := hPD.1
  have hD := hPD.2
  refine lv_iload_n hx hb d_M_begin_14 rfl (lv_at hl 0 rfl) ?_
  exact my_iret (v := fItems) hx hb hr (rfl) hlocks hQ hK hS (Nat.le_refl _) (Nat.le_refl _) (vNowq_11) (⟨rfl, hT_11⟩) (hP.sub [0, 1, 2, 3] rfl) (hD.sub [0, 1, 2, 3] (by decide +kernel) rfl) d_M_begin_15
end
section
set_option maxHeartbeats 20000000 in
set_option maxRecDepth 100000 in
theorem m_endTable (l : Launch) (dC : Nat → ClassId) (dI : Nat → Nat → Nat) (cI cM cO : ClassId) (sz : Nat) (o : Nat) (g : Nat → Nat) (fForm : Int32) (fShift : Int32) (fModels : Int32) (fEnded : Int32) (fLow : Int64) (fRange : Int64) (fCache : Int32) (fPend : Int32) (fOuts : Int32) (fIns : Int32) (fReads : Int32) (fBad : Int32) (fIR : Int32) (fAsk : Int32) (fBAsk : Int32) (fCode : Int64) (fRL : Int64) (fRR : Int64) (fX : Int64) (fWrites : Int32) (fThrown : Int32) (vMany : Nat → Int32) (vCounts : Nat → Int32) (vNow : Nat → Int32) (vIM : Nat → Int32) (vIW : Nat → Int32) (vGoing : Nat → Int32) (vSO : Nat → Int32) (vNO : Nat → Int32) (vWr : Nat → Int32) (km : Nat) (N : Nat → Nat) (its : List It) (hMD : MD km N vMany vCounts) (hki : its.length ≤ 600) (hit : itIs vIM vIW its) (hok : ∀ i, i < its.length → itOk 512 9 km N vNow (itA its i)) : MetV l y_M_endTable (Cond.code y_M_endTable prog_14_method_35_code 9 none :: gw) ({ frames := 1, cells := 0, slots := 0, locals := 26 } : Room) (dC, dI) vwCl (kT cI cM cO) [Value.ref o] [(o, Sum.inr (9, mO g fForm fShift fModels (nI its.length) fEnded fLow fRange fCache fPend 0 fOuts fIns fReads fBad fIR fAsk fBAsk fCode fRL fRR fX fWrites fThrown)), ((g 0), Sum.inl (cI, 8, Sum.inl vMany)), ((g 1), Sum.inl (cI, 512, Sum.inl vCounts)), ((g 2), Sum.inl (cI, 512, Sum.inl vNow)), ((g 4), Sum.inl (cI, 600, Sum.inl vIM)), ((g 5), Sum.inl (cI, 600, Sum.inl vIW)), ((g 6), Sum.inl (cI, 9000, Sum.inl vGoing)), ((g 9), Sum.inl (cI, 512, Sum.inl vSO)), ((g 10), Sum.inl (cI, 512, Sum.inl vNO)), ((g 11), Sum.inl (cI, 20000, Sum.inl vWr))] sz (fun (u : (Nat → Int32) × (Nat → Int32) × (Nat → Int32) × (Nat → Int32) × Int32 × Int32) => u.2.2.2.2.1 = nI (pkB (e4W (Fvw vNow) N its) (((e4W (Fvw vNow) N its).length + 7) / 8)).length ∧ gIs u.1 (pkB (e4W (Fvw vNow) N its) (((e4W (Fvw vNow) N its).length + 7) / 8))) (fun (u : (Nat → Int32) × (Nat → Int32) × (Nat → Int32) × (Nat → Int32) × Int32 × Int32) => [(o, Sum.inr (9, mO g fForm fShift fModels (nI its.length) fEnded fLow fRange fCache fPend u.2.2.2.2.1 fOuts fIns fReads fBad fIR fAsk fBAsk fCode fRL fRR fX u.2.2.2.2.2 fThrown)), ((g 0), Sum.inl (cI, 8, Sum.inl vMany)), ((g 1), Sum.inl (cI, 512, Sum.inl vCounts)), ((g 2), Sum.inl (cI, 512, Sum.inl vNow)), ((g 4), Sum.inl (cI, 600, Sum.inl vIM)), ((g 5), Sum.inl (cI, 600, Sum.inl vIW)), ((g 6), Sum.inl (cI, 9000, Sum.inl u.1)), ((g 9), Sum.inl (cI, 512, Sum.inl u.2.1)), ((g 10), Sum.inl (cI, 512, Sum.inl u.2.2.1)), ((g 11), Sum.inl (cI, 20000, Sum.inl u.2.2.2.1))]) 0 0 := by
  refine my_ofV (cc := prog_14_method_35_code) (n := 9) (ret := none) (by decide) rfl (Nat.le_of_ble_eq_true rfl) ?_
  intro p e s m args below meth c R Q A ls H locs hx hb hr hts hown hlocks hml hnm hR hQ hA hl hP hK hN hD hS
  have hg : ∀ w ∈ gw, w.before args s = true := fun w h => hts w (List.mem_cons_of_mem _ h)
  have hown : s.vm.findClass "RangeCodersModel" = some m.cls := hown
  have hl : lv_has ls 9 [(0, Value.ref o)] := hl
  refine lv_aload_n hx hb d_M_endTable_0 rfl (lv_at hl 0 rfl) ?_
  refine lv_iconst (v := 0) hx hb d_M_endTable_1 (by decide) ?_
  refine va_put (D := (dC, dI)) (ci := 9) (v := .int 0) (ty := .int) (C := "RangeCodersModel") (T := T_M) (N := 35) hx hb hg in_M t_M o_M n_M hown hK hP hD hS 0 rfl rfl 33 (by decide) (hg _ k985) (fun _ h9 => h9) rfl (o_M 33 (by decide)) rfl rfl (Nat.le_of_ble_eq_true rfl) d_M_endTable_2 (fun H locs hP hD hS => ?_)
  have hPD : my_PD (dC, dI) vwCl A [(o, Sum.inr (9, mO g fForm fShift fModels (nI its.length) fEnded fLow fRange fCache fPend 0 fOuts fIns fReads fBad fIR fAsk fBAsk fCode fRL fRR fX 0 fThrown)), ((g 0), Sum.inl (cI, 8, Sum.inl vMany)), ((g 1), Sum.inl (cI, 512, Sum.inl vCounts)), ((g 2), Sum.inl (cI, 512, Sum.inl vNow)), ((g 4), Sum.inl (cI, 600, Sum.inl vIM)), ((g 5), Sum.inl (cI, 600, Sum.inl vIW)), ((g 6), Sum.inl (cI, 9000, Sum.inl vGoing)), ((g 9), Sum.inl (cI, 512, Sum.inl vSO)), ((g 10), Sum.inl (cI, 512, Sum.inl vNO)), ((g 11), Sum.inl (cI, 20000, Sum.inl vWr))] H := ⟨hP, hD⟩
  have hP := hPD.1
  have hD := hPD.2
  refine lv_ldc2 (v := 512) hx hb hown (hg _ k1160) d_M_endTable_5 ?_
  refine W.eq (g2 := F0 m 8 ls [Value.long (lN 512)]) rfl ?_
  refine lv_lstore_n (lv' := [(1, Value.long (lN 512)), (0, Value.ref o)]) hx hb d_M_endTable_8 rfl hl (by decide) rfl (fun ls hl => ?_)
  refine lv_iconst (v := (-1)) hx hb d_M_endTable_9 (by decide) ?_
  refine lv_istore_n (lv' := [(3, Value.int (-1)), (1, Value.long (lN 512)), (0, Value.ref o)]) hx hb d_M_endTable_10 rfl hl (by decide) rfl (fun ls hl => ?_)
  refine lv_aload_n hx hb d_M_endTable_11 rfl (lv_at hl 2 rfl) ?_
  refine va_get (D := (dC, dI)) (ci := 9) (v := .int (nI its.length)) (C := "RangeCodersModel") (T := T_M) (N := 35) hx hb hg in_M hown hK hP 0 rfl rfl 7 (by decide) (hg _ k959) (fun _ h9 => h9) rfl d_M_endTable_12 ?_
  refine lv_iconst (v := 1) hx hb d_M_endTable_15 (by decide) ?_
  refine lv_isub hx hb d_M_endTable_16 ?_
  refine lv_topi (fun v_1 ev_1 => ?_)
  refine lv_istore (lv' := [(4, Value.int v_1), (3, Value.int (-1)), (1, Value.long (lN 512)), (0, Value.ref o)]) hx hb d_M_endTable_17 hl (by decide) rfl (fun ls hl => ?_)
  have J_19 : ∀ (n9_19 : Nat) (V : Nat) (ld : Int32) (i9 : Int32) (k : Nat) (wl : List Nat) (vW : Nat → Int32) (so : Nat → Int32) (no : Nat → Int32) (hn9_19 : k = n9_19) (hE9 : e4N (Fvw vNow) N its its.length (512, []) = e4N (Fvw vNow) N its k (V, wl)) (hV0 : 512 ≤ V) (hV1 : V < 1024) (hi : i9 + 1 = nI k) (hk : k ≤ its.length) (hG : gIs vW wl) (hB : bt2 wl) (hW : wl.length + 9 * k ≤ 9 * its.length) (hld : ldOk km N vNow ld so no) (H : Heap) (locs : List Loc) (ls : Array Slot), va_P (dC, dI) vwCl [(o, Sum.inr (9, mO g fForm fShift fModels (nI its.length) fEnded fLow fRange fCache fPend 0 fOuts fIns fReads fBad fIR fAsk fBAsk fCode fRL fRR fX (nI wl.length) fThrown)), ((g 0), Sum.inl (cI, 8, Sum.inl vMany)), ((g 1), Sum.inl (cI, 512, Sum.inl vCounts)), ((g 2), Sum.inl (cI, 512, Sum.inl vNow)), ((g 4), Sum.inl (cI, 600, Sum.inl vIM)), ((g 5), Sum.inl (cI, 600, Sum.inl vIW)), ((g 6), Sum.inl (cI, 9000, Sum.inl vGoing)), ((g 9), Sum.inl (cI, 512, Sum.inl so)), ((g 10), Sum.inl (cI, 512, Sum.inl no)), ((g 11), Sum.inl (cI, 20000, Sum.inl vW))] H → va_D A [(o, Sum.inr (9, mO g fForm fShift fModels (nI its.length) fEnded fLow fRange fCache fPend 0 fOuts fIns fReads fBad fIR fAsk fBAsk fCode fRL fRR fX (nI wl.length) fThrown)), ((g 0), Sum.inl (cI, 8, Sum.inl vMany)), ((g 1), Sum.inl (cI, 512, Sum.inl vCounts)), ((g 2), Sum.inl (cI, 512, Sum.inl vNow)), ((g 4), Sum.inl (cI, 600, Sum.inl vIM)), ((g 5), Sum.inl (cI, 600, Sum.inl vIW)), ((g 6), Sum.inl (cI, 9000, Sum.inl vGoing)), ((g 9), Sum.inl (cI, 512, Sum.inl so)), ((g 10), Sum.inl (cI, 512, Sum.inl no)), ((g 11), Sum.inl (cI, 20000, Sum.inl vW))] → va_S A s.heap H locs → lv_has ls 9 [(4, Value.int i9), (3, Value.int ld), (1, Value.long (lN V)), (0, Value.ref o)] → W p l e R s m args below meth c H locs 0 0 Q (F0 m 19 ls []) := by
    intro n9_19
    induction n9_19 using Nat.strongRecOn with
    | ind n9_19 ih9_19 =>
      intro V ld i9 k wl vW so no hn9_19 hE9 hV0 hV1 hi hk hG hB hW hld H locs ls hP hD hS hl
      refine lv_iload hx hb d_M_endTable_19 (lv_at hl 0 rfl) ?_
      refine lv_if_lt (tgt := 187) hx hb d_M_endTable_21 (by decide) (fun c_2 => ?_) (fun c_2 => ?_)
      · refine lv_iconst (v := 0) hx hb d_M_endTable_187 (by decide) ?_
        have hkz : k = 0 := by
          rcases Nat.eq_zero_or_pos k with z | z
          · exact z
          · exact absurd (show i9 < 0 from c_2) (by rw [show i9 = nI (k - 1) from by rw [← Int32.add_sub_cancel (a := i9) (b := 1), hi]; exact pk_sub (b := 1) z]; exact nI_pos (by omega))
        refine lv_istore (lv' := [(4, Value.int 0), (3, Value.int ld), (1, Value.long (lN V)), (0, Value.ref o)]) hx hb d_M_endTable_188 hl (by decide) rfl (fun ls hl => ?_)
        have J_190 : ∀ (n9_190 : Nat) (jj : Nat) (wl2 : List Nat) (vW2 : Nat → Int32) (hn9_190 : 9 - jj = n9_190) (hjj : jj ≤ 9) (hwb : wl2 = wl ++ bvL (V - 512) jj) (hG2 : gIs vW2 wl2) (hB2 : bt2 wl2) (hW2 : wl2.length ≤ 5400 + jj) (H : Heap) (locs : List Loc) (ls : Array Slot), va_P (dC, dI) vwCl [(o, Sum.inr (9, mO g fForm fShift fModels (nI its.length) fEnded fLow fRange fCache fPend 0 fOuts fIns fReads fBad fIR fAsk fBAsk fCode fRL fRR fX (nI wl2.length) fThrown)), ((g 0), Sum.inl (cI, 8, Sum.inl vMany)), ((g 1), Sum.inl (cI, 512, Sum.inl vCounts)), ((g 2), Sum.inl (cI, 512, Sum.inl vNow)), ((g 4), Sum.inl (cI, 600, Sum.inl vIM)), ((g 5), Sum.inl (cI, 600, Sum.inl vIW)), ((g 6), Sum.inl (cI, 9000, Sum.inl vGoing)), ((g 9), Sum.inl (cI, 512, Sum.inl so)), ((g 10), Sum.inl (cI, 512, Sum.inl no)), ((g 11), Sum.inl (cI, 20000, Sum.inl vW2))] H → va_D A [(o, Sum.inr (9, mO g fForm fShift fModels (nI its.length) fEnded fLow fRange fCache fPend 0 fOuts fIns fReads fBad fIR fAsk fBAsk fCode fRL fRR fX (nI wl2.length) fThrown)), ((g 0), Sum.inl (cI, 8, Sum.inl vMany)), ((g 1), Sum.inl (cI, 512, Sum.inl vCounts)), ((g 2), Sum.inl (cI, 512, Sum.inl vNow)), ((g 4), Sum.inl (cI, 600, Sum.inl vIM)), ((g 5), Sum.inl (cI, 600, Sum.inl vIW)), ((g 6), Sum.inl (cI, 9000, Sum.inl vGoing)), ((g 9), Sum.inl (cI, 512, Sum.inl so)), ((g 10), Sum.inl (cI, 512, Sum.inl no)), ((g 11), Sum.inl (cI, 20000, Sum.inl vW2))] → va_S A s.heap H locs → lv_has ls 9 [(4, Value.int (nI jj)), (3, Value.int ld), (1, Value.long (lN V)), (0, Value.ref o)] → W p l e R s m args below meth c H locs 0 0 Q (F0 m 190 ls []) := by
          intro n9_190
          induction n9_190 using Nat.strongRecOn with
          | ind n9_190 ih9_190 =>
            intro jj wl2 vW2 hn9_190 hjj hwb hG2 hB2 hW2 H locs ls hP hD hS hl
            refine lv_iload hx hb d_M_endTable_190 (lv_at hl 0 rfl) ?_
            refine lv_bipush (v := 9) hx hb d_M_endTable_192 (by decide) ?_
            refine lv_icmp_ge (tgt := 215) hx hb d_M_endTable_194 (by decide) (fun c_3 => ?_) (fun c_3 => ?_)
            · have hW4 : e4W (Fvw vNow) N its = wl2 := by have hj9 : jj = 9 := (by have := nI_ge' (n := 9) (by omega) (by decide) c_3; omega); unfold e4W; rw [hE9, hkz, hwb, hj9]; rfl
              refine lv_iconst (v := 0) hx hb d_M_endTable_215 (by decide) ?_
              refine lv_istore (lv' := [(4, Value.int 0), (3, Value.int ld), (1, Value.long (lN V)), (0, Value.ref o)]) hx hb d_M_endTable_216 hl (by decide) rfl (fun ls hl => ?_)
              refine lv_iconst (v := 0) hx hb d_M_endTable_218 (by decide) ?_
              refine lv_istore (lv' := [(5, Value.int 0), (4, Value.int 0), (3, Value.int ld), (1, Value.long (lN V)), (0, Value.ref o)]) hx hb d_M_endTable_219 hl (by decide) rfl (fun ls hl => ?_)
              refine lv_aload_n hx hb d_M_endTable_221 rfl (lv_at hl 4 rfl) ?_
              refine va_get (D := (dC, dI)) (ci := 9) (v := .int (nI wl2.length)) (C := "RangeCodersModel") (T := T_M) (N := 35) hx hb hg in_M hown hK hP 0 rfl rfl 33 (by decide) (hg _ k985) (fun _ h9 => h9) rfl d_M_endTable_222 ?_
              refine lv_iconst (v := 1) hx hb d_M_endTable_225 (by decide) ?_
              refine lv_isub hx hb d_M_endTable_226 ?_
              refine lv_topi (fun v_4 ev_4 => ?_)
              refine lv_istore (lv' := [(6, Value.int v_4), (5, Value.int 0), (4, Value.int 0), (3, Value.int ld), (1, Value.long (lN V)), (0, Value.ref o)]) hx hb d_M_endTable_227 hl (by decide) rfl (fun ls hl => ?_)
              have J_229 : ∀ (n9_229 : Nat) (bb : Nat) (nn : Nat) (qq : Nat) (i8 : Int32) (kk : Nat) (gs : List Nat) (fG : Nat → Int32) (hn9_229 : kk = n9_229) (hi8 : i8 + 1 = nI kk) (hkk : kk ≤ wl2.length) (hnn : nn ≤ 7) (hqn : 8 * qq + nn + kk = wl2.length) (hbw : bb = byW wl2 (8 * qq) nn) (hgs : gs = pkB wl2 qq) (hGs : gIs fG gs) (hgl : gs.length + kk ≤ wl2.length) (H : Heap) (locs : List Loc) (ls : Array Slot), va_P (dC, dI) vwCl [(o, Sum.inr (9, mO g fForm fShift fModels (nI its.length) fEnded fLow fRange fCache fPend (nI gs.length) fOuts fIns fReads fBad fIR fAsk fBAsk fCode fRL fRR fX (nI wl2.length) fThrown)), ((g 0), Sum.inl (cI, 8, Sum.inl vMany)), ((g 1), Sum.inl (cI, 512, Sum.inl vCounts)), ((g 2), Sum.inl (cI, 512, Sum.inl vNow)), ((g 4), Sum.inl (cI, 600, Sum.inl vIM)), ((g 5), Sum.inl (cI, 600, Sum.inl vIW)), ((g 6), Sum.inl (cI, 9000, Sum.inl fG)), ((g 9), Sum.inl (cI, 512, Sum.inl so)), ((g 10), Sum.inl (cI, 512, Sum.inl no)), ((g 11), Sum.inl (cI, 20000, Sum.inl vW2))] H → va_D A [(o, Sum.inr (9, mO g fForm fShift fModels (nI its.length) fEnded fLow fRange fCache fPend (nI gs.length) fOuts fIns fReads fBad fIR fAsk fBAsk fCode fRL fRR fX (nI wl2.length) fThrown)), ((g 0), Sum.inl (cI, 8, Sum.inl vMany)), ((g 1), Sum.inl (cI, 512, Sum.inl vCounts)), ((g 2), Sum.inl (cI, 512, Sum.inl vNow)), ((g 4), Sum.inl (cI, 600, Sum.inl vIM)), ((g 5), Sum.inl (cI, 600, Sum.inl vIW)), ((g 6), Sum.inl (cI, 9000, Sum.inl fG)), ((g 9), Sum.inl (cI, 512, Sum.inl so)), ((g 10), Sum.inl (cI, 512, Sum.inl no)), ((g 11), Sum.inl (cI, 20000, Sum.inl vW2))] → va_S A s.heap H locs → lv_has ls 9 [(6, Value.int i8), (5, Value.int (nI nn)), (4, Value.int (nI bb)), (3, Value.int ld), (1, Value.long (lN V)), (0, Value.ref o)] → W p l e R s m args below meth c H locs 0 0 Q (F0 m 229 ls []) := by
                intro n9_229
                induction n9_229 using Nat.strongRecOn with
                | ind n9_229 ih9_229 =>
                  intro bb nn qq i8 kk gs fG hn9_229 hi8 hkk hnn hqn hbw hgs hGs hgl H locs ls hP hD hS hl
                  refine lv_iload hx hb d_M_endTable_229 (lv_at hl 0 rfl) ?_
                  refine lv_if_lt (tgt := 276) hx hb d_M_endTable_231 (by decide) (fun c_5 => ?_) (fun c_5 => ?_)
                  · have hkz2 : kk = 0 := by
                      rcases Nat.eq_zero_or_pos kk with z | z
                      · exact z
                      · exact absurd (show i8 < 0 from c_5) (by rw [show i8 = nI (kk - 1) from by rw [← Int32.add_sub_cancel (a := i8) (b := 1), hi8]; exact pk_sub (b := 1) z]; exact nI_pos (by omega))
                    have hbb : bb < 2 ^ nn := by rw [hbw]; exact byW_lt hB2 _ _
                    refine lv_iload hx hb d_M_endTable_276 (lv_at hl 1 rfl) ?_
                    refine lv_if_le (tgt := 293) hx hb d_M_endTable_278 (by decide) (fun c_6 => ?_) (fun c_6 => ?_)
                    · have hnz : nn = 0 := by rcases Nat.eq_zero_or_pos nn with z | z; exact z; exact absurd c_6 (nI_nle z (by omega))
                      exact my_vret hx hb hr hlocks hQ hK hS (Nat.le_refl _) (Nat.le_refl _) (fG, so, no, vW2, nI gs.length, nI wl2.length) (⟨by rw [hW4, show (wl2.length + 7) / 8 = qq by omega, ← hgs], by rw [hW4, show (wl2.length + 7) / 8 = qq by omega, ← hgs]; exact hGs⟩) (hP.sub [0, 1, 2, 3, 4, 5, 6, 7, 8, 9] rfl) (hD.sub [0, 1, 2, 3, 4, 5, 6, 7, 8, 9] (by decide +kernel) rfl) d_M_endTable_293
                    · have hnz : 0 < nn := by
                        rcases Nat.eq_zero_or_pos nn with z | z
                        · exact absurd (by rw [z]; exact Int32.le_refl _) c_6
                        · exact z
                      refine lv_aload_n hx hb d_M_endTable_281 rfl (lv_at hl 5 rfl) ?_
                      refine lv_iload hx hb d_M_endTable_282 (lv_at hl 2 rfl) ?_
                      refine lv_bipush (v := 8) hx hb d_M_endTable_284 (by decide) ?_
                      refine lv_iload hx hb d_M_endTable_286 (lv_at hl 1 rfl) ?_
                      refine lv_isub hx hb d_M_endTable_288 ?_
                      refine lv_topi (fun v_7 ev_7 => ?_)
                      have z9 : v_7 = nI (8 - nn) := by rw [ev_7]; exact pk_sub (a := 8) (by omega)
                      subst z9
                      refine lv_ishl hx hb d_M_endTable_289 ?_
                      refine lv_topi (fun v_8 ev_8 => ?_)
                      have z9 : v_8 = nI (bb * 2 ^ (8 - nn)) := by rw [ev_8]; exact I_shl (by omega) (by have := pw8 hbb (show nn ≤ 8 by omega); omega)
                      subst z9
                      refine my_cv (wr := [((g 0), Sum.inl (cI, 8, Sum.inl vMany)), ((g 1), Sum.inl (cI, 512, Sum.inl vCounts)), ((g 2), Sum.inl (cI, 512, Sum.inl vNow)), ((g 4), Sum.inl (cI, 600, Sum.inl vIM)), ((g 5), Sum.inl (cI, 600, Sum.inl vIW)), ((g 9), Sum.inl (cI, 512, Sum.inl so)), ((g 10), Sum.inl (cI, 512, Sum.inl no)), ((g 11), Sum.inl (cI, 20000, Sum.inl vW2))]) (va_runV (As := [Value.int (nI (bb * 2 ^ (8 - nn)))]) (rest := []) ⟨hx, hb, hml, hown, hts⟩ (c_M_write l dC dI cI cM cO H.size o g fForm fShift fModels (nI its.length) fEnded fLow fRange fCache fPend fOuts fIns fReads fBad fIR fAsk fBAsk fCode fRL fRR fX (nI wl2.length) fThrown fG gs (bb * 2 ^ (8 - nn)) (hGs) (by omega) (by have := pw8 hbb (show nn ≤ 8 by omega); omega)) (cwV 1 hts (my_gV k1107 k1109 ks32 k12 k1110) rfl rfl rfl cu_M_write_1 ⟨by rw [hR]; exact Nat.le_of_ble_eq_true rfl, by rw [hR]; exact Nat.le_of_ble_eq_true rfl⟩) (my_preV hK hN (hP.sub [0, 6] rfl) (hD.sub [0, 6] (by decide +kernel) rfl) 0 rfl rfl) rfl rfl hl.1 rfl (lv_room (Nat.le_of_ble_eq_true rfl)) d_M_endTable_290 ⟨by rw [hR]; exact Nat.le_of_ble_eq_true rfl, by rw [hR]; exact Nat.le_of_ble_eq_true rfl⟩) hP hD hS hA [0, 6] [1, 2, 3, 4, 5, 7, 8, 9] rfl rfl (by decide +kernel) (by decide +kernel) (fun u9 H locs hw_290 hP hD hS => ?_)
                      obtain ⟨v2_290, rfl⟩ : ∃ z, z = u9 := ⟨_, rfl⟩
                      have hw_290 : gIs v2_290 (gs ++ [(bb * 2 ^ (8 - nn)) % 256]) := hw_290
                      have hPD : my_PD (dC, dI) vwCl A [((g 0), Sum.inl (cI, 8, Sum.inl vMany)), ((g 1), Sum.inl (cI, 512, Sum.inl vCounts)), ((g 2), Sum.inl (cI, 512, Sum.inl vNow)), ((g 4), Sum.inl (cI, 600, Sum.inl vIM)), ((g 5), Sum.inl (cI, 600, Sum.inl vIW)), ((g 9), Sum.inl (cI, 512, Sum.inl so)), ((g 10), Sum.inl (cI, 512, Sum.inl no)), ((g 11), Sum.inl (cI, 20000, Sum.inl vW2)), (o, Sum.inr (9, mO g fForm fShift fModels (nI its.length) fEnded fLow fRange fCache fPend (nI (gs ++ [(bb * 2 ^ (8 - nn)) % 256]).length) fOuts fIns fReads fBad fIR fAsk fBAsk fCode fRL fRR fX (nI wl2.length) fThrown)), ((g 6), Sum.inl (cI, 9000, Sum.inl v2_290))] H := ⟨hP, hD⟩
                      have hP := hPD.1
                      have hD := hPD.2
                      exact my_vret hx hb hr hlocks hQ hK hS (Nat.le_refl _) (Nat.le_refl _) (v2_290, so, no, vW2, nI (gs ++ [(bb * 2 ^ (8 - nn)) % 256]).length, (nI wl2.length)) (⟨by rw [hW4, show (wl2.length + 7) / 8 = qq + 1 by omega, pkB, ← hgs]; have z9 : byW wl2 (8 * qq) 8 = bb * 2 ^ (8 - nn) % 256 := (by rw [hbw, Nat.mod_eq_of_lt (by rw [← hbw]; exact pw8 hbb (by omega))]; have z8 := byW_0 (ws := wl2) (fm := 8 * qq) (k := nn) (by omega) (8 - nn); rw [show nn + (8 - nn) = 8 by omega] at z8; exact z8); rw [z9], by rw [hW4, show (wl2.length + 7) / 8 = qq + 1 by omega, pkB, ← hgs]; have z9 : byW wl2 (8 * qq) 8 = bb * 2 ^ (8 - nn) % 256 := (by rw [hbw, Nat.mod_eq_of_lt (by rw [← hbw]; exact pw8 hbb (by omega))]; have z8 := byW_0 (ws := wl2) (fm := 8 * qq) (k := nn) (by omega) (8 - nn); rw [show nn + (8 - nn) = 8 by omega] at z8; exact z8); rw [z9]; exact hw_290⟩) (hP.sub [8, 0, 1, 2, 3, 4, 9, 5, 6, 7] rfl) (hD.sub [8, 0, 1, 2, 3, 4, 9, 5, 6, 7] (by decide +kernel) rfl) d_M_endTable_293
                  · have hk7 : 1 ≤ kk := by
                      rcases Nat.eq_zero_or_pos kk with z | z
                      · subst z; exact absurd (show i8 < 0 by rw [show i8 = -1 from by rw [← Int32.add_sub_cancel (a := i8) (b := 1), hi8]; rfl]; decide) c_5
                      · exact z
                    have hi7 : i8 = nI (kk - 1) := by rw [← Int32.add_sub_cancel (a := i8) (b := 1), hi8]; exact pk_sub (b := 1) hk7
                    have hbit := bt2_at (i := kk - 1) hB2
                    have hbb : bb < 2 ^ nn := by rw [hbw]; exact byW_lt hB2 _ _
                    have hbs := pw7 (pw_lt hbb hbit) (show nn + 1 ≤ 8 by omega)
                    have hrv : rvB wl2 (8 * qq + nn) = byA wl2 (kk - 1) := by unfold rvB; rw [if_pos (by omega), show wl2.length - 1 - (8 * qq + nn) = kk - 1 by omega]
                    have hbw2 : 2 * bb + byA wl2 (kk - 1) = byW wl2 (8 * qq) (nn + 1) := by rw [byW, ← hbw, hrv]
                    refine lv_iconst (v := 2) hx hb d_M_endTable_234 (by decide) ?_
                    refine lv_iload hx hb d_M_endTable_235 (lv_at hl 2 rfl) ?_
                    refine lv_imul hx hb d_M_endTable_237 ?_
                    refine lv_topi (fun v_9 ev_9 => ?_)
                    refine lv_aload_n hx hb d_M_endTable_238 rfl (lv_at hl 5 rfl) ?_
                    refine va_get (D := (dC, dI)) (ci := 9) (v := .ref (g 11)) (C := "RangeCodersModel") (T := T_M) (N := 35) hx hb hg in_M hown hK hP 0 rfl rfl 32 (by decide) (hg _ k984) (fun _ h9 => h9) rfl d_M_endTable_239 ?_
                    refine lv_iload hx hb d_M_endTable_242 (lv_at hl 0 rfl) ?_
                    refine va_iald hx hb hK hP 9 0 rfl rfl (by rw [hi7]; exact vp_in_nI (by omega) (by decide)) d_M_endTable_244 ?_
                    refine lv_topi (fun v_10 ev_10 => ?_)
                    have z9 : v_10 = nI (byA wl2 (kk - 1)) := by rw [ev_10, hi7, nI_clamp (by omega)]; exact hG2 _ (by omega)
                    subst z9
                    refine lv_iadd hx hb d_M_endTable_245 ?_
                    refine lv_topi (fun v_11 ev_11 => ?_)
                    have z9 : v_11 = nI (2 * bb + byA wl2 (kk - 1)) := by rw [ev_11, ev_9, show (2 : Int32) = nI 2 from rfl, pk_mul, nI_add]
                    subst z9
                    refine lv_istore (lv' := [(4, Value.int (nI (2 * bb + byA wl2 (kk - 1)))), (6, Value.int i8), (5, Value.int (nI nn)), (3, Value.int ld), (1, Value.long (lN V)), (0, Value.ref o)]) hx hb d_M_endTable_246 hl (by decide) rfl (fun ls hl => ?_)
                    obtain ⟨v_12, ev_12⟩ : ∃ y : Int32, y = (nI nn) + (1) := ⟨_, rfl⟩
                    refine lv_iinc (v := v_12) (lv' := [(5, Value.int v_12), (4, Value.int (nI (2 * bb + byA wl2 (kk - 1)))), (6, Value.int i8), (3, Value.int ld), (1, Value.long (lN V)), (0, Value.ref o)]) hx hb d_M_endTable_248 hl (k := 2) rfl (by rw [ev_12]; rfl) (by decide) rfl (fun ls hl => ?_)
                    have z9 : v_12 = nI (nn + 1) := by rw [ev_12]; exact nI_1 _
                    subst z9
                    refine lv_iload hx hb d_M_endTable_251 (lv_at hl 0 rfl) ?_
                    refine lv_bipush (v := 8) hx hb d_M_endTable_253 (by decide) ?_
                    refine lv_icmp_ne (tgt := 270) hx hb d_M_endTable_255 (by decide) (fun c_13 => ?_) (fun c_13 => ?_)
                    · have hn8 : ¬ nn + 1 = 8 := fun z9 => c_13 (by rw [z9]; rfl)
                      obtain ⟨v_14, ev_14⟩ : ∃ y : Int32, y = i8 + (-1) := ⟨_, rfl⟩
                      refine lv_iinc (v := v_14) (lv' := [(6, Value.int v_14), (5, Value.int (nI (nn + 1))), (4, Value.int (nI (2 * bb + byA wl2 (kk - 1)))), (3, Value.int ld), (1, Value.long (lN V)), (0, Value.ref o)]) hx hb d_M_endTable_270 hl (k := 2) rfl (by rw [ev_14]; rfl) (by decide) rfl (fun ls hl => ?_)
                      refine lv_goto (tgt := 229) hx hb d_M_endTable_273 (by decide) ?_
                      exact ih9_229 _ (by first | omega | (omega)) (2 * bb + byA wl2 (kk - 1)) (nn + 1) qq v_14 (kk - 1) gs fG rfl (by rw [ev_14, Int32.add_assoc, show (-1 : Int32) + 1 = 0 from by decide, Int32.add_zero]; exact hi7) (by omega) (by omega) (by omega) (hbw2) (hgs) (hGs) (by omega) H locs ls (hP.sub [0, 1, 2, 3, 4, 5, 6, 7, 8, 9] rfl) (hD.sub [0, 1, 2, 3, 4, 5, 6, 7, 8, 9] (by decide +kernel) rfl) hS (lv_sub hl [0, 1, 2, 3, 4, 5] rfl)
                    · have hn8 : nn + 1 = 8 := nI_inj (by omega) (by decide) c_13
                      have hn8b : byW wl2 (8 * qq) 8 = (2 * bb + byA wl2 (kk - 1)) % 256 := by rw [hbw2, hn8, Nat.mod_eq_of_lt (byW_lt hB2 _ 8)]
                      refine lv_aload_n hx hb d_M_endTable_258 rfl (lv_at hl 5 rfl) ?_
                      refine lv_iload hx hb d_M_endTable_259 (lv_at hl 1 rfl) ?_
                      refine my_cv (wr := [((g 0), Sum.inl (cI, 8, Sum.inl vMany)), ((g 1), Sum.inl (cI, 512, Sum.inl vCounts)), ((g 2), Sum.inl (cI, 512, Sum.inl vNow)), ((g 4), Sum.inl (cI, 600, Sum.inl vIM)), ((g 5), Sum.inl (cI, 600, Sum.inl vIW)), ((g 9), Sum.inl (cI, 512, Sum.inl so)), ((g 10), Sum.inl (cI, 512, Sum.inl no)), ((g 11), Sum.inl (cI, 20000, Sum.inl vW2))]) (va_runV (As := [Value.int (nI (2 * bb + byA wl2 (kk - 1)))]) (rest := []) ⟨hx, hb, hml, hown, hts⟩ (c_M_write l dC dI cI cM cO H.size o g fForm fShift fModels (nI its.length) fEnded fLow fRange fCache fPend fOuts fIns fReads fBad fIR fAsk fBAsk fCode fRL fRR fX (nI wl2.length) fThrown fG gs (2 * bb + byA wl2 (kk - 1)) (hGs) (by omega) (by omega)) (cwV 1 hts (my_gV k1107 k1109 ks32 k12 k1110) rfl rfl rfl cu_M_write_1 ⟨by rw [hR]; exact Nat.le_of_ble_eq_true rfl, by rw [hR]; exact Nat.le_of_ble_eq_true rfl⟩) (my_preV hK hN (hP.sub [0, 6] rfl) (hD.sub [0, 6] (by decide +kernel) rfl) 0 rfl rfl) rfl rfl hl.1 rfl (lv_room (Nat.le_of_ble_eq_true rfl)) d_M_endTable_261 ⟨by rw [hR]; exact Nat.le_of_ble_eq_true rfl, by rw [hR]; exact Nat.le_of_ble_eq_true rfl⟩) hP hD hS hA [0, 6] [1, 2, 3, 4, 5, 7, 8, 9] rfl rfl (by decide +kernel) (by decide +kernel) (fun u9 H locs hw_261 hP hD hS => ?_)
                      obtain ⟨v2_261, rfl⟩ : ∃ z, z = u9 := ⟨_, rfl⟩
                      have hw_261 : gIs v2_261 (gs ++ [(2 * bb + byA wl2 (kk - 1)) % 256]) := hw_261
                      have hPD : my_PD (dC, dI) vwCl A [((g 0), Sum.inl (cI, 8, Sum.inl vMany)), ((g 1), Sum.inl (cI, 512, Sum.inl vCounts)), ((g 2), Sum.inl (cI, 512, Sum.inl vNow)), ((g 4), Sum.inl (cI, 600, Sum.inl vIM)), ((g 5), Sum.inl (cI, 600, Sum.inl vIW)), ((g 9), Sum.inl (cI, 512, Sum.inl so)), ((g 10), Sum.inl (cI, 512, Sum.inl no)), ((g 11), Sum.inl (cI, 20000, Sum.inl vW2)), (o, Sum.inr (9, mO g fForm fShift fModels (nI its.length) fEnded fLow fRange fCache fPend (nI (gs ++ [(2 * bb + byA wl2 (kk - 1)) % 256]).length) fOuts fIns fReads fBad fIR fAsk fBAsk fCode fRL fRR fX (nI wl2.length) fThrown)), ((g 6), Sum.inl (cI, 9000, Sum.inl v2_261))] H := ⟨hP, hD⟩
                      have hP := hPD.1
                      have hD := hPD.2
                      refine lv_iconst (v := 0) hx hb d_M_endTable_264 (by decide) ?_
                      refine lv_istore (lv' := [(4, Value.int 0), (5, Value.int (nI (nn + 1))), (6, Value.int i8), (3, Value.int ld), (1, Value.long (lN V)), (0, Value.ref o)]) hx hb d_M_endTable_265 hl (by decide) rfl (fun ls hl => ?_)
                      refine lv_iconst (v := 0) hx hb d_M_endTable_267 (by decide) ?_
                      refine lv_istore (lv' := [(5, Value.int 0), (4, Value.int 0), (6, Value.int i8), (3, Value.int ld), (1, Value.long (lN V)), (0, Value.ref o)]) hx hb d_M_endTable_268 hl (by decide) rfl (fun ls hl => ?_)
                      obtain ⟨v_15, ev_15⟩ : ∃ y : Int32, y = i8 + (-1) := ⟨_, rfl⟩
                      refine lv_iinc (v := v_15) (lv' := [(6, Value.int v_15), (5, Value.int 0), (4, Value.int 0), (3, Value.int ld), (1, Value.long (lN V)), (0, Value.ref o)]) hx hb d_M_endTable_270 hl (k := 2) rfl (by rw [ev_15]; rfl) (by decide) rfl (fun ls hl => ?_)
                      refine lv_goto (tgt := 229) hx hb d_M_endTable_273 (by decide) ?_
                      exact ih9_229 _ (by first | omega | (omega)) (0 : Nat) (0 : Nat) (qq + 1) v_15 (kk - 1) (gs ++ [(2 * bb + byA wl2 (kk - 1)) % 256]) v2_261 rfl (by rw [ev_15, Int32.add_assoc, show (-1 : Int32) + 1 = 0 from by decide, Int32.add_zero]; exact hi7) (by omega) (by omega) (by omega) (rfl) (by rw [hgs, pkB, hn8b]) (hw_261) (by rw [List.length_append, List.length_singleton]; omega) H locs ls (hP.sub [8, 0, 1, 2, 3, 4, 9, 5, 6, 7] rfl) (hD.sub [8, 0, 1, 2, 3, 4, 9, 5, 6, 7] (by decide +kernel) rfl) hS (lv_sub hl [0, 1, 2, 3, 4, 5] rfl)
              exact J_229 _ (0 : Nat) (0 : Nat) (0 : Nat) v_4 wl2.length ([] : List Nat) vGoing rfl (by rw [ev_4]; exact Int32.sub_add_cancel _ _) (Nat.le_refl _) (by decide) (by omega) (rfl) (rfl) (fun z9 h9 => absurd h9 (Nat.not_lt_zero z9)) (by show 0 + _ ≤ _; omega) H locs ls (hP.sub [0, 1, 2, 3, 4, 5, 6, 7, 8, 9] rfl) (hD.sub [0, 1, 2, 3, 4, 5, 6, 7, 8, 9] (by decide +kernel) rfl) hS (lv_sub hl [0, 1, 2, 3, 4, 5] rfl)
            · have hjl : jj < 9 := by
                rcases Nat.lt_or_ge jj 9 with z | z
                · exact z
                · exact absurd (nI_le (a := 9) z (by omega)) c_3
              refine lv_aload_n hx hb d_M_endTable_197 rfl (lv_at hl 3 rfl) ?_
              refine lv_lload_n hx hb d_M_endTable_198 rfl (lv_at hl 2 rfl) ?_
              refine lv_ldc2 (v := 512) hx hb hown (hg _ k1160) d_M_endTable_199 ?_
              refine lv_lsub hx hb d_M_endTable_202 ?_
              refine lv_topl (fun v_16 ev_16 => ?_)
              have z9 : v_16 = lN (V - 512) := by rw [ev_16]; exact lN_sub hV0
              subst z9
              refine lv_iload hx hb d_M_endTable_203 (lv_at hl 0 rfl) ?_
              refine lv_lshr hx hb d_M_endTable_205 rfl ?_
              refine lv_topl (fun v_17 ev_17 => ?_)
              have z9 : v_17 = lN ((V - 512) / 2 ^ jj) := by rw [ev_17]; exact L_shrV (by omega) hjl
              subst z9
              refine my_cv (wr := [((g 0), Sum.inl (cI, 8, Sum.inl vMany)), ((g 1), Sum.inl (cI, 512, Sum.inl vCounts)), ((g 2), Sum.inl (cI, 512, Sum.inl vNow)), ((g 4), Sum.inl (cI, 600, Sum.inl vIM)), ((g 5), Sum.inl (cI, 600, Sum.inl vIW)), ((g 6), Sum.inl (cI, 9000, Sum.inl vGoing)), ((g 9), Sum.inl (cI, 512, Sum.inl so)), ((g 10), Sum.inl (cI, 512, Sum.inl no))]) (va_runV (As := [Value.long (lN ((V - 512) / 2 ^ jj))]) (rest := []) ⟨hx, hb, hml, hown, hts⟩ (c_M_writeBit l dC dI cI cM cO H.size o g fForm fShift fModels (nI its.length) fEnded fLow fRange fCache fPend 0 fOuts fIns fReads fBad fIR fAsk fBAsk fCode fRL fRR fX fThrown vW2 wl2 ((V - 512) / 2 ^ jj) (hG2) (by omega) (Nat.lt_of_le_of_lt (Nat.div_le_self _ _) (by omega))) (cwV 1 hts (my_gV k1161 k1163 ks42 k12 k1164) rfl rfl rfl cu_M_writeBit_1 ⟨by rw [hR]; exact Nat.le_of_ble_eq_true rfl, by rw [hR]; exact Nat.le_of_ble_eq_true rfl⟩) (my_preV hK hN (hP.sub [0, 9] rfl) (hD.sub [0, 9] (by decide +kernel) rfl) 0 rfl rfl) rfl rfl hl.1 rfl (lv_room (Nat.le_of_ble_eq_true rfl)) d_M_endTable_206 ⟨by rw [hR]; exact Nat.le_of_ble_eq_true rfl, by rw [hR]; exact Nat.le_of_ble_eq_true rfl⟩) hP hD hS hA [0, 9] [1, 2, 3, 4, 5, 6, 7, 8] rfl rfl (by decide +kernel) (by decide +kernel) (fun u9 H locs hw_206 hP hD hS => ?_)
              obtain ⟨v2_206, rfl⟩ : ∃ z, z = u9 := ⟨_, rfl⟩
              have hw_206 : gIs v2_206 (wl2 ++ [((V - 512) / 2 ^ jj) % 2]) := hw_206
              have hPD : my_PD (dC, dI) vwCl A [((g 0), Sum.inl (cI, 8, Sum.inl vMany)), ((g 1), Sum.inl (cI, 512, Sum.inl vCounts)), ((g 2), Sum.inl (cI, 512, Sum.inl vNow)), ((g 4), Sum.inl (cI, 600, Sum.inl vIM)), ((g 5), Sum.inl (cI, 600, Sum.inl vIW)), ((g 6), Sum.inl (cI, 9000, Sum.inl vGoing)), ((g 9), Sum.inl (cI, 512, Sum.inl so)), ((g 10), Sum.inl (cI, 512, Sum.inl no)), (o, Sum.inr (9, mO g fForm fShift fModels (nI its.length) fEnded fLow fRange fCache fPend 0 fOuts fIns fReads fBad fIR fAsk fBAsk fCode fRL fRR fX (nI (wl2 ++ [((V - 512) / 2 ^ jj) % 2]).length) fThrown)), ((g 11), Sum.inl (cI, 20000, Sum.inl v2_206))] H := ⟨hP, hD⟩
              have hP := hPD.1
              have hD := hPD.2
              obtain ⟨v_18, ev_18⟩ : ∃ y : Int32, y = (nI jj) + (1) := ⟨_, rfl⟩
              refine lv_iinc (v := v_18) (lv' := [(4, Value.int v_18), (3, Value.int ld), (1, Value.long (lN V)), (0, Value.ref o)]) hx hb d_M_endTable_209 hl (k := 0) rfl (by rw [ev_18]; rfl) (by decide) rfl (fun ls hl => ?_)
              have z9 : v_18 = nI (jj + 1) := by rw [ev_18]; exact nI_1 _
              subst z9
              refine lv_goto (tgt := 190) hx hb d_M_endTable_212 (by decide) ?_
              exact ih9_190 _ (by first | omega | (omega)) (jj + 1) (wl2 ++ [((V - 512) / 2 ^ jj) % 2]) v2_206 rfl (by omega) (by rw [hwb, bvL, List.append_assoc]) (hw_206) (bt2_add hB2 (Nat.mod_lt _ (by decide))) (by rw [List.length_append, List.length_singleton]; omega) H locs ls (hP.sub [8, 0, 1, 2, 3, 4, 5, 6, 7, 9] rfl) (hD.sub [8, 0, 1, 2, 3, 4, 5, 6, 7, 9] (by decide +kernel) rfl) hS (lv_sub hl [0, 1, 2, 3] rfl)
        exact J_190 _ (0 : Nat) wl vW rfl (by decide) (by rw [bvL, List.append_nil]) (hG) (hB) (by omega) H locs ls (hP.sub [0, 1, 2, 3, 4, 5, 6, 7, 8, 9] rfl) (hD.sub [0, 1, 2, 3, 4, 5, 6, 7, 8, 9] (by decide +kernel) rfl) hS (lv_sub hl [0, 1, 2, 3] rfl)
      · have hk0 : 1 ≤ k := by
          rcases Nat.eq_zero_or_pos k with z | z
          · subst z; exact absurd (show i9 < 0 by rw [show i9 = -1 from by rw [← Int32.add_sub_cancel (a := i9) (b := 1), hi]; rfl]; decide) c_2
          · exact z
        have hi9 : i9 = nI (k - 1) := by rw [← Int32.add_sub_cancel (a := i9) (b := 1), hi]; exact pk_sub (b := 1) hk0
        have hitk := hit (k - 1) (by omega)
        have hokk := hok (k - 1) (by omega)
        have hk8 := hMD.1
        refine lv_aload_n hx hb d_M_endTable_24 rfl (lv_at hl 3 rfl) ?_
        refine va_get (D := (dC, dI)) (ci := 9) (v := .ref (g 4)) (C := "RangeCodersModel") (T := T_M) (N := 35) hx hb hg in_M hown hK hP 0 rfl rfl 8 (by decide) (hg _ k960) (fun _ h9 => h9) rfl d_M_endTable_25 ?_
        refine lv_iload hx hb d_M_endTable_28 (lv_at hl 0 rfl) ?_
        refine va_iald hx hb hK hP 4 0 rfl rfl (by rw [hi9]; exact vp_in_nI (by omega) (by decide)) d_M_endTable_30 ?_
        refine lv_topi (fun v_19 ev_19 => ?_)
        have z9 : v_19 = itM (itA its (k - 1)) := by rw [ev_19, hi9, nI_clamp (by omega)]; exact hitk.1
        subst z9
        refine lv_istore (lv' := [(5, Value.int (itM (itA its (k - 1)))), (4, Value.int i9), (3, Value.int ld), (1, Value.long (lN V)), (0, Value.ref o)]) hx hb d_M_endTable_31 hl (by decide) rfl (fun ls hl => ?_)
        refine lv_aload_n hx hb d_M_endTable_33 rfl (lv_at hl 4 rfl) ?_
        refine va_get (D := (dC, dI)) (ci := 9) (v := .ref (g 5)) (C := "RangeCodersModel") (T := T_M) (N := 35) hx hb hg in_M hown hK hP 0 rfl rfl 9 (by decide) (hg _ k961) (fun _ h9 => h9) rfl d_M_endTable_34 ?_
        refine lv_iload hx hb d_M_endTable_37 (lv_at hl 1 rfl) ?_
        refine va_iald hx hb hK hP 5 0 rfl rfl (by rw [hi9]; exact vp_in_nI (by omega) (by decide)) d_M_endTable_39 ?_
        refine lv_topi (fun v_20 ev_20 => ?_)
        have z9 : v_20 = nI (itA its (k - 1)).2.2 := by rw [ev_20, hi9, nI_clamp (by omega)]; exact hitk.2
        subst z9
        refine lv_istore (lv' := [(6, Value.int (nI (itA its (k - 1)).2.2)), (5, Value.int (itM (itA its (k - 1)))), (4, Value.int i9), (3, Value.int ld), (1, Value.long (lN V)), (0, Value.ref o)]) hx hb d_M_endTable_40 hl (by decide) rfl (fun ls hl => ?_)
        refine lv_iload hx hb d_M_endTable_42 (lv_at hl 1 rfl) ?_
        refine lv_if_ge (tgt := 77) hx hb d_M_endTable_44 (by decide) (fun c_21 => ?_) (fun c_21 => ?_)
        · have hkd : ¬ (itA its (k - 1)).1 = 0 := (itm_pos hk8 (by decide) hokk).mp c_21
          obtain ⟨mm, ss, hmk, hsN, hfp, hs5, hsg, em, es⟩ : ∃ mm ss, mm < km ∧ ss < N mm ∧ 0 < Fvw vNow mm ss ∧ ns (Fvw vNow mm) (N mm) = 512 ∧ sgI vNow (64 * mm) (N mm) (Fvw vNow mm) ∧ itM (itA its (k - 1)) = nI mm ∧ (itA its (k - 1)).2.2 = ss := by
            rcases hokk with q | q
            · exact absurd q.1 hkd
            · exact ⟨_, _, q.2.1, q.2.2.1, q.2.2.2.1, q.2.2.2.2.1, q.2.2.2.2.2, if_neg hkd, rfl⟩
          obtain ⟨hn9, hn2, hn64, -⟩ := hMD.2 mm hmk
          obtain ⟨ff, hff⟩ : ∃ z, z = Fvw vNow mm ss := ⟨_, rfl⟩
          rw [← hff] at hfp
          have hf5 : ff ≤ 512 := by rw [hff, ← hs5]; exact ns_ge hsN
          rw [em, es] at hl
          have hl : lv_has ls 9 [(6, Value.int (nI ss)), (5, Value.int (nI mm)), (4, Value.int i9), (3, Value.int ld), (1, Value.long (lN V)), (0, Value.ref o)] := hl
          have hmk1 : (itA its (k - 1)).2.1 < km := by rcases hokk with q | q; exact absurd q.1 hkd; exact q.2.1
          have em1 : (itA its (k - 1)).2.1 = mm := nI_inj (by omega) (by omega) (by rw [← em]; unfold itM; rw [if_neg hkd])
          refine lv_iload_n hx hb d_M_endTable_77 rfl (lv_at hl 3 rfl) ?_
          have J_96 : ∀ (so9 : Nat → Int32) (no9 : Nat → Int32) (hly : layd so9 no9 (Fvw vNow mm) (N mm)) (H : Heap) (locs : List Loc) (ls : Array Slot), va_P (dC, dI) vwCl [(o, Sum.inr (9, mO g fForm fShift fModels (nI its.length) fEnded fLow fRange fCache fPend 0 fOuts fIns fReads fBad fIR fAsk fBAsk fCode fRL fRR fX (nI wl.length) fThrown)), ((g 0), Sum.inl (cI, 8, Sum.inl vMany)), ((g 1), Sum.inl (cI, 512, Sum.inl vCounts)), ((g 2), Sum.inl (cI, 512, Sum.inl vNow)), ((g 4), Sum.inl (cI, 600, Sum.inl vIM)), ((g 5), Sum.inl (cI, 600, Sum.inl vIW)), ((g 6), Sum.inl (cI, 9000, Sum.inl vGoing)), ((g 9), Sum.inl (cI, 512, Sum.inl so9)), ((g 10), Sum.inl (cI, 512, Sum.inl no9)), ((g 11), Sum.inl (cI, 20000, Sum.inl vW))] H → va_D A [(o, Sum.inr (9, mO g fForm fShift fModels (nI its.length) fEnded fLow fRange fCache fPend 0 fOuts fIns fReads fBad fIR fAsk fBAsk fCode fRL fRR fX (nI wl.length) fThrown)), ((g 0), Sum.inl (cI, 8, Sum.inl vMany)), ((g 1), Sum.inl (cI, 512, Sum.inl vCounts)), ((g 2), Sum.inl (cI, 512, Sum.inl vNow)), ((g 4), Sum.inl (cI, 600, Sum.inl vIM)), ((g 5), Sum.inl (cI, 600, Sum.inl vIW)), ((g 6), Sum.inl (cI, 9000, Sum.inl vGoing)), ((g 9), Sum.inl (cI, 512, Sum.inl so9)), ((g 10), Sum.inl (cI, 512, Sum.inl no9)), ((g 11), Sum.inl (cI, 20000, Sum.inl vW))] → va_S A s.heap H locs → lv_has ls 9 [(3, Value.int (nI mm)), (6, Value.int (nI ss)), (5, Value.int (nI mm)), (4, Value.int i9), (1, Value.long (lN V)), (0, Value.ref o)] → W p l e R s m args below meth c H locs 0 0 Q (F0 m 96 ls []) := by
            intro so9 no9 hly H locs ls hP hD hS hl
            refine lv_aload_n hx hb d_M_endTable_96 rfl (lv_at hl 5 rfl) ?_
            refine va_get (D := (dC, dI)) (ci := 9) (v := .ref (g 2)) (C := "RangeCodersModel") (T := T_M) (N := 35) hx hb hg in_M hown hK hP 0 rfl rfl 5 (by decide) (hg _ k957) (fun _ h9 => h9) rfl d_M_endTable_97 ?_
            refine lv_bipush (v := 64) hx hb d_M_endTable_100 (by decide) ?_
            refine lv_iload hx hb d_M_endTable_102 (lv_at hl 2 rfl) ?_
            refine lv_imul hx hb d_M_endTable_104 ?_
            refine lv_topi (fun v_22 ev_22 => ?_)
            refine lv_iload hx hb d_M_endTable_105 (lv_at hl 1 rfl) ?_
            refine lv_iadd hx hb d_M_endTable_107 ?_
            refine lv_topi (fun v_23 ev_23 => ?_)
            have hix : v_23 = nI (64 * mm + ss) := by rw [ev_23, ev_22]; exact ix64
            refine va_iald hx hb hK hP 3 0 rfl rfl (by rw [hix]; exact vp_in_nI (by omega) (by decide)) d_M_endTable_108 ?_
            refine lv_topi (fun v_24 ev_24 => ?_)
            have z9 : v_24 = nI ff := by rw [ev_24, hix, nI_clamp (by omega), hff]; exact hsg ss hsN
            subst z9
            refine lv_istore (lv' := [(7, Value.int (nI ff)), (3, Value.int (nI mm)), (6, Value.int (nI ss)), (5, Value.int (nI mm)), (4, Value.int i9), (1, Value.long (lN V)), (0, Value.ref o)]) hx hb d_M_endTable_109 hl (by decide) rfl (fun ls hl => ?_)
            have J_111 : ∀ (n9_111 : Nat) (V2 : Nat) (wl2 : List Nat) (vW2 : Nat → Int32) (c9 : Nat) (hn9_111 : V2 = n9_111) (hE8 : t4N ff 10 (V, wl) = t4N ff (10 - c9) (V2, wl2)) (hf2 : ff ≤ V2) (hV2 : V2 < 2 ^ (10 - c9)) (hc9 : c9 ≤ 9) (hG2 : gIs vW2 wl2) (hB2 : bt2 wl2) (hW2 : wl2.length + 9 * k ≤ 9 * its.length + c9) (H : Heap) (locs : List Loc) (ls : Array Slot), va_P (dC, dI) vwCl [(o, Sum.inr (9, mO g fForm fShift fModels (nI its.length) fEnded fLow fRange fCache fPend 0 fOuts fIns fReads fBad fIR fAsk fBAsk fCode fRL fRR fX (nI wl2.length) fThrown)), ((g 0), Sum.inl (cI, 8, Sum.inl vMany)), ((g 1), Sum.inl (cI, 512, Sum.inl vCounts)), ((g 2), Sum.inl (cI, 512, Sum.inl vNow)), ((g 4), Sum.inl (cI, 600, Sum.inl vIM)), ((g 5), Sum.inl (cI, 600, Sum.inl vIW)), ((g 6), Sum.inl (cI, 9000, Sum.inl vGoing)), ((g 9), Sum.inl (cI, 512, Sum.inl so9)), ((g 10), Sum.inl (cI, 512, Sum.inl no9)), ((g 11), Sum.inl (cI, 20000, Sum.inl vW2))] H → va_D A [(o, Sum.inr (9, mO g fForm fShift fModels (nI its.length) fEnded fLow fRange fCache fPend 0 fOuts fIns fReads fBad fIR fAsk fBAsk fCode fRL fRR fX (nI wl2.length) fThrown)), ((g 0), Sum.inl (cI, 8, Sum.inl vMany)), ((g 1), Sum.inl (cI, 512, Sum.inl vCounts)), ((g 2), Sum.inl (cI, 512, Sum.inl vNow)), ((g 4), Sum.inl (cI, 600, Sum.inl vIM)), ((g 5), Sum.inl (cI, 600, Sum.inl vIW)), ((g 6), Sum.inl (cI, 9000, Sum.inl vGoing)), ((g 9), Sum.inl (cI, 512, Sum.inl so9)), ((g 10), Sum.inl (cI, 512, Sum.inl no9)), ((g 11), Sum.inl (cI, 20000, Sum.inl vW2))] → va_S A s.heap H locs → lv_has ls 9 [(1, Value.long (lN V2)), (7, Value.int (nI ff)), (3, Value.int (nI mm)), (6, Value.int (nI ss)), (5, Value.int (nI mm)), (4, Value.int i9), (0, Value.ref o)] → W p l e R s m args below meth c H locs 0 0 Q (F0 m 111 ls []) := by
              intro n9_111
              induction n9_111 using Nat.strongRecOn with
              | ind n9_111 ih9_111 =>
                intro V2 wl2 vW2 c9 hn9_111 hE8 hf2 hV2 hc9 hG2 hB2 hW2 H locs ls hP hD hS hl
                refine lv_lload_n hx hb d_M_endTable_111 rfl (lv_at hl 0 rfl) ?_
                refine lv_ldc2 (v := 2) hx hb hown (hg _ k1169) d_M_endTable_112 ?_
                refine lv_iload hx hb d_M_endTable_115 (lv_at hl 1 rfl) ?_
                refine lv_i2l hx hb d_M_endTable_117 rfl ?_
                refine lv_topl (fun v_25 ev_25 => ?_)
                have z9 : v_25 = lN ff := by rw [ev_25]; exact nI_l (by omega)
                subst z9
                refine lv_lmul hx hb d_M_endTable_118 ?_
                refine lv_topl (fun v_26 ev_26 => ?_)
                have z9 : v_26 = lN (2 * ff) := by rw [ev_26]; exact lN_mul 2 ff
                subst z9
                refine W.lcmp hx hb d_M_endTable_119 ?_
                refine lv_if_lt (tgt := 135) hx hb d_M_endTable_120 (by decide) (fun c_27 => ?_) (fun c_27 => ?_)
                · rw [lg_cmp_lt] at c_27
                  have hlt2 : V2 < 2 * ff := (L_lt (by have := hv_lt hV2; omega) (by omega)).mp c_27
                  obtain ⟨hp0, hpl, hnu⟩ := plO_ok hs5 hsN (d := V2 - ff) (by rw [← hff]; omega)
                  obtain ⟨p0, ep0⟩ : ∃ z, z = plO (Fvw vNow mm) (N mm) ss (V2 - ff) := ⟨_, rfl⟩
                  rw [← ep0] at hp0 hpl hnu
                  have hv10 := hv_lt hV2
                  have hE7 : t4N ff 10 (V, wl) = (V2, wl2) := by rw [hE8, t4N_e (by show ¬ 2 * ff ≤ V2; omega)]
                  refine lv_iconst (v := 0) hx hb d_M_endTable_135 (by decide) ?_
                  refine lv_istore (lv' := [(8, Value.int 0), (1, Value.long (lN V2)), (7, Value.int (nI ff)), (3, Value.int (nI mm)), (6, Value.int (nI ss)), (5, Value.int (nI mm)), (4, Value.int i9), (0, Value.ref o)]) hx hb d_M_endTable_136 hl (by decide) rfl (fun ls hl => ?_)
                  have J_138 : ∀ (n9_138 : Nat) (pp : Nat) (hn9_138 : 512 - pp = n9_138) (hpp : pp ≤ p0) (H : Heap) (locs : List Loc) (ls : Array Slot), va_P (dC, dI) vwCl [(o, Sum.inr (9, mO g fForm fShift fModels (nI its.length) fEnded fLow fRange fCache fPend 0 fOuts fIns fReads fBad fIR fAsk fBAsk fCode fRL fRR fX (nI wl2.length) fThrown)), ((g 0), Sum.inl (cI, 8, Sum.inl vMany)), ((g 1), Sum.inl (cI, 512, Sum.inl vCounts)), ((g 2), Sum.inl (cI, 512, Sum.inl vNow)), ((g 4), Sum.inl (cI, 600, Sum.inl vIM)), ((g 5), Sum.inl (cI, 600, Sum.inl vIW)), ((g 6), Sum.inl (cI, 9000, Sum.inl vGoing)), ((g 9), Sum.inl (cI, 512, Sum.inl so9)), ((g 10), Sum.inl (cI, 512, Sum.inl no9)), ((g 11), Sum.inl (cI, 20000, Sum.inl vW2))] H → va_D A [(o, Sum.inr (9, mO g fForm fShift fModels (nI its.length) fEnded fLow fRange fCache fPend 0 fOuts fIns fReads fBad fIR fAsk fBAsk fCode fRL fRR fX (nI wl2.length) fThrown)), ((g 0), Sum.inl (cI, 8, Sum.inl vMany)), ((g 1), Sum.inl (cI, 512, Sum.inl vCounts)), ((g 2), Sum.inl (cI, 512, Sum.inl vNow)), ((g 4), Sum.inl (cI, 600, Sum.inl vIM)), ((g 5), Sum.inl (cI, 600, Sum.inl vIW)), ((g 6), Sum.inl (cI, 9000, Sum.inl vGoing)), ((g 9), Sum.inl (cI, 512, Sum.inl so9)), ((g 10), Sum.inl (cI, 512, Sum.inl no9)), ((g 11), Sum.inl (cI, 20000, Sum.inl vW2))] → va_S A s.heap H locs → lv_has ls 9 [(8, Value.int (nI pp)), (1, Value.long (lN V2)), (7, Value.int (nI ff)), (3, Value.int (nI mm)), (6, Value.int (nI ss)), (5, Value.int (nI mm)), (4, Value.int i9), (0, Value.ref o)] → W p l e R s m args below meth c H locs 0 0 Q (F0 m 138 ls []) := by
                    intro n9_138
                    induction n9_138 using Nat.strongRecOn with
                    | ind n9_138 ih9_138 =>
                      intro pp hn9_138 hpp H locs ls hP hD hS hl
                      refine lv_aload_n hx hb d_M_endTable_138 rfl (lv_at hl 7 rfl) ?_
                      refine va_get (D := (dC, dI)) (ci := 9) (v := .ref (g 9)) (C := "RangeCodersModel") (T := T_M) (N := 35) hx hb hg in_M hown hK hP 0 rfl rfl 30 (by decide) (hg _ k982) (fun _ h9 => h9) rfl d_M_endTable_139 ?_
                      refine lv_iload hx hb d_M_endTable_142 (lv_at hl 0 rfl) ?_
                      refine va_iald hx hb hK hP 7 0 rfl rfl (vp_in_nI (by omega) (by decide)) d_M_endTable_144 ?_
                      refine lv_topi (fun v_28 ev_28 => ?_)
                      have z9 : v_28 = nI (plc (Fvw vNow mm) (N mm) pp) := by rw [ev_28, nI_clamp (by omega)]; exact hly.1 pp (by omega)
                      subst z9
                      refine lv_iload hx hb d_M_endTable_145 (lv_at hl 4 rfl) ?_
                      refine lv_icmp_ne (tgt := 167) hx hb d_M_endTable_147 (by decide) (fun c_29 => ?_) (fun c_29 => ?_)
                      · have hpn : pp < p0 := by
                          rcases Nat.lt_or_ge pp p0 with z | z
                          · exact z
                          · exact absurd (by rw [show pp = p0 by omega, hpl]) c_29
                        obtain ⟨v_30, ev_30⟩ : ∃ y : Int32, y = (nI pp) + (1) := ⟨_, rfl⟩
                        refine lv_iinc (v := v_30) (lv' := [(8, Value.int v_30), (1, Value.long (lN V2)), (7, Value.int (nI ff)), (3, Value.int (nI mm)), (6, Value.int (nI ss)), (5, Value.int (nI mm)), (4, Value.int i9), (0, Value.ref o)]) hx hb d_M_endTable_167 hl (k := 0) rfl (by rw [ev_30]; rfl) (by decide) rfl (fun ls hl => ?_)
                        have z9 : v_30 = nI (pp + 1) := by rw [ev_30]; exact nI_1 _
                        subst z9
                        refine lv_goto (tgt := 138) hx hb d_M_endTable_170 (by decide) ?_
                        exact ih9_138 _ (by first | omega | (omega)) (pp + 1) rfl (hpn) H locs ls (hP.sub [0, 1, 2, 3, 4, 5, 6, 7, 8, 9] rfl) (hD.sub [0, 1, 2, 3, 4, 5, 6, 7, 8, 9] (by decide +kernel) rfl) hS (lv_sub hl [0, 1, 2, 3, 4, 5, 6, 7] rfl)
                      · refine lv_aload_n hx hb d_M_endTable_150 rfl (lv_at hl 7 rfl) ?_
                        refine va_get (D := (dC, dI)) (ci := 9) (v := .ref (g 10)) (C := "RangeCodersModel") (T := T_M) (N := 35) hx hb hg in_M hown hK hP 0 rfl rfl 31 (by decide) (hg _ k983) (fun _ h9 => h9) rfl d_M_endTable_151 ?_
                        refine lv_iload hx hb d_M_endTable_154 (lv_at hl 0 rfl) ?_
                        refine va_iald hx hb hK hP 8 0 rfl rfl (vp_in_nI (by omega) (by decide)) d_M_endTable_156 ?_
                        refine lv_topi (fun v_31 ev_31 => ?_)
                        have z9 : v_31 = nI (num (Fvw vNow mm) (N mm) pp) := by rw [ev_31, nI_clamp (by omega)]; exact hly.2 pp (by omega)
                        subst z9
                        refine lv_i2l hx hb d_M_endTable_157 rfl ?_
                        refine lv_topl (fun v_32 ev_32 => ?_)
                        have z9 : v_32 = lN (num (Fvw vNow mm) (N mm) pp) := by rw [ev_32]; exact nI_l (Nat.lt_of_le_of_lt (cn_le _ _ _) (by omega))
                        subst z9
                        refine lv_lload_n hx hb d_M_endTable_158 rfl (lv_at hl 1 rfl) ?_
                        refine lv_iload hx hb d_M_endTable_159 (lv_at hl 2 rfl) ?_
                        refine lv_i2l hx hb d_M_endTable_161 rfl ?_
                        refine lv_topl (fun v_33 ev_33 => ?_)
                        have z9 : v_33 = lN ff := by rw [ev_33]; exact nI_l (by omega)
                        subst z9
                        refine lv_lsub hx hb d_M_endTable_162 ?_
                        refine lv_topl (fun v_34 ev_34 => ?_)
                        have z9 : v_34 = lN (V2 - ff) := by rw [ev_34]; exact lN_sub hf2
                        subst z9
                        refine W.lcmp hx hb d_M_endTable_163 ?_
                        refine lv_if_eq (tgt := 173) hx hb d_M_endTable_164 (by decide) (fun c_35 => ?_) (fun c_35 => ?_)
                        · rw [lg_cmp_eq] at c_35
                          refine lv_ldc2 (v := 512) hx hb hown (hg _ k1160) d_M_endTable_173 ?_
                          refine lv_iload hx hb d_M_endTable_176 (lv_at hl 0 rfl) ?_
                          refine lv_i2l hx hb d_M_endTable_178 rfl ?_
                          refine lv_topl (fun v_36 ev_36 => ?_)
                          have z9 : v_36 = lN pp := by rw [ev_36]; exact nI_l (by omega)
                          subst z9
                          refine lv_ladd hx hb d_M_endTable_179 ?_
                          refine lv_topl (fun v_37 ev_37 => ?_)
                          have z9 : v_37 = lN (512 + pp) := by rw [ev_37]; exact lN_add 512 pp
                          subst z9
                          refine lv_lstore_n (lv' := [(1, Value.long (lN (512 + pp))), (8, Value.int (nI pp)), (7, Value.int (nI ff)), (3, Value.int (nI mm)), (6, Value.int (nI ss)), (5, Value.int (nI mm)), (4, Value.int i9), (0, Value.ref o)]) hx hb d_M_endTable_180 rfl hl (by decide) rfl (fun ls hl => ?_)
                          have hpe : pp = p0 := by rw [ep0]; exact plO_eq hs5 (by omega) (nI_inj (by have := plc_lt (p := pp) hs5; omega) (by omega) (c_29)) ((L_eqN (Nat.lt_of_le_of_lt (cn_le _ _ _) (by omega)) (by omega)).mp (c_35)) hsN
                          have hT4 : (512 + pp, wl2) = t4I (Fvw vNow (itA its (k - 1)).2.1) (N (itA its (k - 1)).2.1) (itA its (k - 1)).2.2 (V, wl) := by rw [em1, es]; unfold t4I; rw [← hff, hE7, hpe, ep0]
                          obtain ⟨v_38, ev_38⟩ : ∃ y : Int32, y = i9 + (-1) := ⟨_, rfl⟩
                          refine lv_iinc (v := v_38) (lv' := [(4, Value.int v_38), (1, Value.long (lN (512 + pp))), (8, Value.int (nI pp)), (7, Value.int (nI ff)), (3, Value.int (nI mm)), (6, Value.int (nI ss)), (5, Value.int (nI mm)), (0, Value.ref o)]) hx hb d_M_endTable_181 hl (k := 6) rfl (by rw [ev_38]; rfl) (by decide) rfl (fun ls hl => ?_)
                          refine lv_goto (tgt := 19) hx hb d_M_endTable_184 (by decide) ?_
                          exact ih9_19 _ (by first | omega | (omega)) (512 + pp) (nI mm) v_38 (k - 1) wl2 vW2 so9 no9 rfl (by rw [hE9, show e4N (Fvw vNow) N its k (V, wl) = e4N (Fvw vNow) N its (k - 1 + 1) (V, wl) by rw [Nat.sub_add_cancel hk0], e4N]; unfold e4I; rw [if_neg hkd, ← hT4]) (by omega) (by omega) (by rw [ev_38, Int32.add_assoc, show (-1 : Int32) + 1 = 0 from by decide, Int32.add_zero]; exact hi9) (by omega) (hG2) (hB2) (by omega) (Or.inr ⟨mm, hmk, rfl, hly⟩) H locs ls (hP.sub [0, 1, 2, 3, 4, 5, 6, 7, 8, 9] rfl) (hD.sub [0, 1, 2, 3, 4, 5, 6, 7, 8, 9] (by decide +kernel) rfl) hS (lv_sub hl [0, 4, 1, 7] rfl)
                        · rw [lg_cmp_eq] at c_35
                          have hpn : pp < p0 := by
                            rcases Nat.lt_or_ge pp p0 with z | z
                            · exact z
                            · exact absurd (by rw [show pp = p0 by omega, hnu]) c_35
                          obtain ⟨v_39, ev_39⟩ : ∃ y : Int32, y = (nI pp) + (1) := ⟨_, rfl⟩
                          refine lv_iinc (v := v_39) (lv' := [(8, Value.int v_39), (1, Value.long (lN V2)), (7, Value.int (nI ff)), (3, Value.int (nI mm)), (6, Value.int (nI ss)), (5, Value.int (nI mm)), (4, Value.int i9), (0, Value.ref o)]) hx hb d_M_endTable_167 hl (k := 0) rfl (by rw [ev_39]; rfl) (by decide) rfl (fun ls hl => ?_)
                          have z9 : v_39 = nI (pp + 1) := by rw [ev_39]; exact nI_1 _
                          subst z9
                          refine lv_goto (tgt := 138) hx hb d_M_endTable_170 (by decide) ?_
                          exact ih9_138 _ (by first | omega | (omega)) (pp + 1) rfl (hpn) H locs ls (hP.sub [0, 1, 2, 3, 4, 5, 6, 7, 8, 9] rfl) (hD.sub [0, 1, 2, 3, 4, 5, 6, 7, 8, 9] (by decide +kernel) rfl) hS (lv_sub hl [0, 1, 2, 3, 4, 5, 6, 7] rfl)
                  exact J_138 _ (0 : Nat) rfl (Nat.zero_le _) H locs ls (hP.sub [0, 1, 2, 3, 4, 5, 6, 7, 8, 9] rfl) (hD.sub [0, 1, 2, 3, 4, 5, 6, 7, 8, 9] (by decide +kernel) rfl) hS (lv_sub hl [0, 1, 2, 3, 4, 5, 6, 7] rfl)
                · rw [lg_cmp_lt] at c_27
                  have hge : 2 * ff ≤ V2 := by
                    rcases Nat.lt_or_ge V2 (2 * ff) with z | z
                    · exact absurd ((L_lt (by have := hv_lt hV2; omega) (by omega)).mpr z) c_27
                    · exact z
                  have hc8 := hc_lt hV2 hc9 (by omega)
                  have hv10 := hv_lt hV2
                  refine lv_aload_n hx hb d_M_endTable_123 rfl (lv_at hl 6 rfl) ?_
                  refine lv_lload_n hx hb d_M_endTable_124 rfl (lv_at hl 0 rfl) ?_
                  refine my_cv (wr := [((g 0), Sum.inl (cI, 8, Sum.inl vMany)), ((g 1), Sum.inl (cI, 512, Sum.inl vCounts)), ((g 2), Sum.inl (cI, 512, Sum.inl vNow)), ((g 4), Sum.inl (cI, 600, Sum.inl vIM)), ((g 5), Sum.inl (cI, 600, Sum.inl vIW)), ((g 6), Sum.inl (cI, 9000, Sum.inl vGoing)), ((g 9), Sum.inl (cI, 512, Sum.inl so9)), ((g 10), Sum.inl (cI, 512, Sum.inl no9))]) (va_runV (As := [Value.long (lN V2)]) (rest := []) ⟨hx, hb, hml, hown, hts⟩ (c_M_writeBit l dC dI cI cM cO H.size o g fForm fShift fModels (nI its.length) fEnded fLow fRange fCache fPend 0 fOuts fIns fReads fBad fIR fAsk fBAsk fCode fRL fRR fX fThrown vW2 wl2 V2 (hG2) (by omega) (by omega)) (cwV 1 hts (my_gV k1161 k1163 ks42 k12 k1164) rfl rfl rfl cu_M_writeBit_1 ⟨by rw [hR]; exact Nat.le_of_ble_eq_true rfl, by rw [hR]; exact Nat.le_of_ble_eq_true rfl⟩) (my_preV hK hN (hP.sub [0, 9] rfl) (hD.sub [0, 9] (by decide +kernel) rfl) 0 rfl rfl) rfl rfl hl.1 rfl (lv_room (Nat.le_of_ble_eq_true rfl)) d_M_endTable_125 ⟨by rw [hR]; exact Nat.le_of_ble_eq_true rfl, by rw [hR]; exact Nat.le_of_ble_eq_true rfl⟩) hP hD hS hA [0, 9] [1, 2, 3, 4, 5, 6, 7, 8] rfl rfl (by decide +kernel) (by decide +kernel) (fun u9 H locs hw_125 hP hD hS => ?_)
                  obtain ⟨v2_125, rfl⟩ : ∃ z, z = u9 := ⟨_, rfl⟩
                  have hw_125 : gIs v2_125 (wl2 ++ [V2 % 2]) := hw_125
                  have hPD : my_PD (dC, dI) vwCl A [((g 0), Sum.inl (cI, 8, Sum.inl vMany)), ((g 1), Sum.inl (cI, 512, Sum.inl vCounts)), ((g 2), Sum.inl (cI, 512, Sum.inl vNow)), ((g 4), Sum.inl (cI, 600, Sum.inl vIM)), ((g 5), Sum.inl (cI, 600, Sum.inl vIW)), ((g 6), Sum.inl (cI, 9000, Sum.inl vGoing)), ((g 9), Sum.inl (cI, 512, Sum.inl so9)), ((g 10), Sum.inl (cI, 512, Sum.inl no9)), (o, Sum.inr (9, mO g fForm fShift fModels (nI its.length) fEnded fLow fRange fCache fPend 0 fOuts fIns fReads fBad fIR fAsk fBAsk fCode fRL fRR fX (nI (wl2 ++ [V2 % 2]).length) fThrown)), ((g 11), Sum.inl (cI, 20000, Sum.inl v2_125))] H := ⟨hP, hD⟩
                  have hP := hPD.1
                  have hD := hPD.2
                  refine lv_lload_n hx hb d_M_endTable_128 rfl (lv_at hl 0 rfl) ?_
                  refine lv_iconst (v := 1) hx hb d_M_endTable_129 (by decide) ?_
                  refine lv_lshr hx hb d_M_endTable_130 rfl ?_
                  refine lv_topl (fun v_40 ev_40 => ?_)
                  have z9 : v_40 = lN (V2 / 2) := by rw [ev_40]; exact L_shr1 (by omega)
                  subst z9
                  refine lv_lstore_n (lv' := [(1, Value.long (lN (V2 / 2))), (7, Value.int (nI ff)), (3, Value.int (nI mm)), (6, Value.int (nI ss)), (5, Value.int (nI mm)), (4, Value.int i9), (0, Value.ref o)]) hx hb d_M_endTable_131 rfl hl (by decide) rfl (fun ls hl => ?_)
                  refine lv_goto (tgt := 111) hx hb d_M_endTable_132 (by decide) ?_
                  exact ih9_111 _ (by first | omega | (omega)) (V2 / 2) (wl2 ++ [V2 % 2]) v2_125 (c9 + 1) rfl (by rw [hE8, t4N_s (by omega) hge, show 10 - (c9 + 1) = 10 - c9 - 1 by omega]) (by omega) (hv_st hV2 hc8) (by omega) (hw_125) (bt2_add hB2 (Nat.mod_lt _ (by decide))) (by rw [List.length_append, List.length_singleton]; omega) H locs ls (hP.sub [8, 0, 1, 2, 3, 4, 5, 6, 7, 9] rfl) (hD.sub [8, 0, 1, 2, 3, 4, 5, 6, 7, 9] (by decide +kernel) rfl) hS (lv_sub hl [0, 1, 2, 3, 4, 5, 6] rfl)
            exact J_111 _ V wl vW (0 : Nat) rfl (rfl) (by omega) (hV1) (by omega) (hG) (hB) (hW) H locs ls (hP.sub [0, 1, 2, 3, 4, 5, 6, 7, 8, 9] rfl) (hD.sub [0, 1, 2, 3, 4, 5, 6, 7, 8, 9] (by decide +kernel) rfl) hS (lv_sub hl [5, 0, 1, 2, 3, 4, 6] rfl)
          refine lv_iload hx hb d_M_endTable_78 (lv_at hl 1 rfl) ?_
          refine lv_icmp_eq (tgt := 96) hx hb d_M_endTable_80 (by decide) (fun c_41 => ?_) (fun c_41 => ?_)
          · subst c_41
            exact J_96 so no (ld_lay hk8 hmk hld) H locs ls (hP.sub [0, 1, 2, 3, 4, 5, 6, 7, 8, 9] rfl) (hD.sub [0, 1, 2, 3, 4, 5, 6, 7, 8, 9] (by decide +kernel) rfl) hS (lv_sub hl [3, 0, 1, 2, 4, 5] rfl)
          · refine lv_aload_n hx hb d_M_endTable_83 rfl (lv_at hl 5 rfl) ?_
            refine lv_aload_n hx hb d_M_endTable_84 rfl (lv_at hl 5 rfl) ?_
            refine va_get (D := (dC, dI)) (ci := 9) (v := .ref (g 2)) (C := "RangeCodersModel") (T := T_M) (N := 35) hx hb hg in_M hown hK hP 0 rfl rfl 5 (by decide) (hg _ k957) (fun _ h9 => h9) rfl d_M_endTable_85 ?_
            refine lv_iload hx hb d_M_endTable_88 (lv_at hl 1 rfl) ?_
            refine my_cv (wr := [((g 1), Sum.inl (cI, 512, Sum.inl vCounts)), ((g 4), Sum.inl (cI, 600, Sum.inl vIM)), ((g 5), Sum.inl (cI, 600, Sum.inl vIW)), ((g 6), Sum.inl (cI, 9000, Sum.inl vGoing)), ((g 11), Sum.inl (cI, 20000, Sum.inl vW))]) (va_runV (As := [Value.ref (g 2), Value.int (nI mm)]) (rest := []) ⟨hx, hb, hml, hown, hts⟩ (c_M_lay l dC dI cI cM cO H.size o g fForm fShift fModels (nI its.length) fEnded fLow fRange fCache fPend 0 fOuts fIns fReads fBad fIR fAsk fBAsk fCode fRL fRR fX (nI wl.length) fThrown vMany so no (g 2) vNow mm (N mm) (Fvw vNow mm) (by omega) (hn9) (hn64) (hsg) (hs5)) (cwV 2 hts (my_gV k1165 k1167 ks43 k12 k1168) rfl rfl rfl cu_M_lay_2 ⟨by rw [hR]; exact Nat.le_of_ble_eq_true rfl, by rw [hR]; exact Nat.le_of_ble_eq_true rfl⟩) (my_preV hK hN (hP.sub [0, 1, 3, 7, 8] rfl) (hD.sub [0, 1, 3, 7, 8] (by decide +kernel) rfl) 0 rfl rfl) rfl rfl hl.1 rfl (lv_room (Nat.le_of_ble_eq_true rfl)) d_M_endTable_90 ⟨by rw [hR]; exact Nat.le_of_ble_eq_true rfl, by rw [hR]; exact Nat.le_of_ble_eq_true rfl⟩) hP hD hS hA [0, 1, 3, 7, 8] [2, 4, 5, 6, 9] rfl rfl (by decide +kernel) (by decide +kernel) (fun u9 H locs hw_90 hP hD hS => ?_)
            obtain ⟨so2_90, no2_90⟩ := u9
            have hw_90 : layd so2_90 no2_90 (Fvw vNow mm) (N mm) := hw_90
            have hPD : my_PD (dC, dI) vwCl A [((g 1), Sum.inl (cI, 512, Sum.inl vCounts)), ((g 4), Sum.inl (cI, 600, Sum.inl vIM)), ((g 5), Sum.inl (cI, 600, Sum.inl vIW)), ((g 6), Sum.inl (cI, 9000, Sum.inl vGoing)), ((g 11), Sum.inl (cI, 20000, Sum.inl vW)), (o, Sum.inr (9, mO g fForm fShift fModels (nI its.length) fEnded fLow fRange fCache fPend 0 fOuts fIns fReads fBad fIR fAsk fBAsk fCode fRL fRR fX (nI wl.length) fThrown)), ((g 0), Sum.inl (cI, 8, Sum.inl vMany)), ((g 2), Sum.inl (cI, 512, Sum.inl vNow)), ((g 9), Sum.inl (cI, 512, Sum.inl so2_90)), ((g 10), Sum.inl (cI, 512, Sum.inl no2_90))] H := ⟨hP, hD⟩
            have hP := hPD.1
            have hD := hPD.2
            refine lv_iload hx hb d_M_endTable_93 (lv_at hl 1 rfl) ?_
            refine lv_istore_n (lv' := [(3, Value.int (nI mm)), (6, Value.int (nI ss)), (5, Value.int (nI mm)), (4, Value.int i9), (1, Value.long (lN V)), (0, Value.ref o)]) hx hb d_M_endTable_95 rfl hl (by decide) rfl (fun ls hl => ?_)
            exact J_96 so2_90 no2_90 (hw_90) H locs ls (hP.sub [5, 6, 0, 7, 1, 2, 3, 8, 9, 4] rfl) (hD.sub [5, 6, 0, 7, 1, 2, 3, 8, 9, 4] (by decide +kernel) rfl) hS (lv_sub hl [0, 1, 2, 3, 4, 5] rfl)
        · have hkd : (itA its (k - 1)).1 = 0 := Decidable.not_not.mp (fun z9 => c_21 ((itm_pos hk8 (by decide) hokk).mpr z9))
          obtain ⟨hb1, hb9, hvb⟩ : 1 ≤ (itA its (k - 1)).2.1 ∧ (itA its (k - 1)).2.1 ≤ 9 ∧ (itA its (k - 1)).2.2 < 2 ^ (itA its (k - 1)).2.1 := by
            rcases hokk with q | q
            · exact q.2
            · exact absurd hkd q.1
          have hs9 : (itA its (k - 1)).2.2 < 512 := Nat.lt_of_lt_of_le hvb (Nat.le_trans (Nat.pow_le_pow_right (by decide) hb9) (by decide))
          refine lv_iconst (v := 0) hx hb d_M_endTable_47 (by decide) ?_
          refine lv_istore (lv' := [(7, Value.int 0), (6, Value.int (nI (itA its (k - 1)).2.2)), (5, Value.int (itM (itA its (k - 1)))), (4, Value.int i9), (3, Value.int ld), (1, Value.long (lN V)), (0, Value.ref o)]) hx hb d_M_endTable_48 hl (by decide) rfl (fun ls hl => ?_)
          have J_50 : ∀ (n9_50 : Nat) (jj : Nat) (wl2 : List Nat) (vW2 : Nat → Int32) (hn9_50 : (itA its (k - 1)).2.1 - jj = n9_50) (hjj : jj ≤ (itA its (k - 1)).2.1) (hwb : wl2 = wl ++ bvL (itA its (k - 1)).2.2 jj) (hG2 : gIs vW2 wl2) (hB2 : bt2 wl2) (hW2 : wl2.length + 9 * k ≤ 9 * its.length + jj) (H : Heap) (locs : List Loc) (ls : Array Slot), va_P (dC, dI) vwCl [(o, Sum.inr (9, mO g fForm fShift fModels (nI its.length) fEnded fLow fRange fCache fPend 0 fOuts fIns fReads fBad fIR fAsk fBAsk fCode fRL fRR fX (nI wl2.length) fThrown)), ((g 0), Sum.inl (cI, 8, Sum.inl vMany)), ((g 1), Sum.inl (cI, 512, Sum.inl vCounts)), ((g 2), Sum.inl (cI, 512, Sum.inl vNow)), ((g 4), Sum.inl (cI, 600, Sum.inl vIM)), ((g 5), Sum.inl (cI, 600, Sum.inl vIW)), ((g 6), Sum.inl (cI, 9000, Sum.inl vGoing)), ((g 9), Sum.inl (cI, 512, Sum.inl so)), ((g 10), Sum.inl (cI, 512, Sum.inl no)), ((g 11), Sum.inl (cI, 20000, Sum.inl vW2))] H → va_D A [(o, Sum.inr (9, mO g fForm fShift fModels (nI its.length) fEnded fLow fRange fCache fPend 0 fOuts fIns fReads fBad fIR fAsk fBAsk fCode fRL fRR fX (nI wl2.length) fThrown)), ((g 0), Sum.inl (cI, 8, Sum.inl vMany)), ((g 1), Sum.inl (cI, 512, Sum.inl vCounts)), ((g 2), Sum.inl (cI, 512, Sum.inl vNow)), ((g 4), Sum.inl (cI, 600, Sum.inl vIM)), ((g 5), Sum.inl (cI, 600, Sum.inl vIW)), ((g 6), Sum.inl (cI, 9000, Sum.inl vGoing)), ((g 9), Sum.inl (cI, 512, Sum.inl so)), ((g 10), Sum.inl (cI, 512, Sum.inl no)), ((g 11), Sum.inl (cI, 20000, Sum.inl vW2))] → va_S A s.heap H locs → lv_has ls 9 [(7, Value.int (nI jj)), (6, Value.int (nI (itA its (k - 1)).2.2)), (5, Value.int (itM (itA its (k - 1)))), (4, Value.int i9), (3, Value.int ld), (1, Value.long (lN V)), (0, Value.ref o)] → W p l e R s m args below meth c H locs 0 0 Q (F0 m 50 ls []) := by
            intro n9_50
            induction n9_50 using Nat.strongRecOn with
            | ind n9_50 ih9_50 =>
              intro jj wl2 vW2 hn9_50 hjj hwb hG2 hB2 hW2 H locs ls hP hD hS hl
              refine lv_iload hx hb d_M_endTable_50 (lv_at hl 0 rfl) ?_
              refine lv_iload hx hb d_M_endTable_52 (lv_at hl 2 rfl) ?_
              refine lv_ineg hx hb d_M_endTable_54 ?_
              refine lv_topi (fun v_42 ev_42 => ?_)
              have z9 : v_42 = nI (itA its (k - 1)).2.1 := by rw [ev_42]; exact itm_ng hkd
              subst z9
              refine lv_icmp_ge (tgt := 74) hx hb d_M_endTable_55 (by decide) (fun c_43 => ?_) (fun c_43 => ?_)
              · have hjb : (V, wl2) = (V, wl ++ bvL (itA its (k - 1)).2.2 (itA its (k - 1)).2.1) := by have hj9 : jj = (itA its (k - 1)).2.1 := (by have := nI_ge' (by omega) (by omega) c_43; omega); rw [hwb, hj9]
                refine lv_goto (tgt := 181) hx hb d_M_endTable_74 (by decide) ?_
                obtain ⟨v_44, ev_44⟩ : ∃ y : Int32, y = i9 + (-1) := ⟨_, rfl⟩
                refine lv_iinc (v := v_44) (lv' := [(4, Value.int v_44), (7, Value.int (nI jj)), (6, Value.int (nI (itA its (k - 1)).2.2)), (5, Value.int (itM (itA its (k - 1)))), (3, Value.int ld), (1, Value.long (lN V)), (0, Value.ref o)]) hx hb d_M_endTable_181 hl (k := 3) rfl (by rw [ev_44]; rfl) (by decide) rfl (fun ls hl => ?_)
                refine lv_goto (tgt := 19) hx hb d_M_endTable_184 (by decide) ?_
                exact ih9_19 _ (by first | omega | (omega)) V ld v_44 (k - 1) wl2 vW2 so no rfl (by rw [hE9, show e4N (Fvw vNow) N its k (V, wl) = e4N (Fvw vNow) N its (k - 1 + 1) (V, wl) by rw [Nat.sub_add_cancel hk0], e4N]; unfold e4I; rw [if_pos hkd, ← hjb]) (by omega) (by omega) (by rw [ev_44, Int32.add_assoc, show (-1 : Int32) + 1 = 0 from by decide, Int32.add_zero]; exact hi9) (by omega) (hG2) (hB2) (by omega) (hld) H locs ls (hP.sub [0, 1, 2, 3, 4, 5, 6, 7, 8, 9] rfl) (hD.sub [0, 1, 2, 3, 4, 5, 6, 7, 8, 9] (by decide +kernel) rfl) hS (lv_sub hl [0, 4, 5, 6] rfl)
              · have hjl : jj < (itA its (k - 1)).2.1 := by
                  rcases Nat.lt_or_ge jj ((itA its (k - 1)).2.1) with z | z
                  · exact z
                  · exact absurd (nI_le z (by omega)) c_43
                refine lv_aload_n hx hb d_M_endTable_58 rfl (lv_at hl 6 rfl) ?_
                refine lv_iload hx hb d_M_endTable_59 (lv_at hl 1 rfl) ?_
                refine lv_iload hx hb d_M_endTable_61 (lv_at hl 0 rfl) ?_
                refine lv_ishr hx hb d_M_endTable_63 ?_
                refine lv_topi (fun v_45 ev_45 => ?_)
                have z9 : v_45 = nI ((itA its (k - 1)).2.2 / 2 ^ jj) := by rw [ev_45]; exact I_shr (by omega) (by omega)
                subst z9
                refine lv_i2l hx hb d_M_endTable_64 rfl ?_
                refine lv_topl (fun v_46 ev_46 => ?_)
                have z9 : v_46 = lN ((itA its (k - 1)).2.2 / 2 ^ jj) := by rw [ev_46]; exact nI_l (Nat.lt_of_le_of_lt (Nat.div_le_self _ _) (by omega))
                subst z9
                refine my_cv (wr := [((g 0), Sum.inl (cI, 8, Sum.inl vMany)), ((g 1), Sum.inl (cI, 512, Sum.inl vCounts)), ((g 2), Sum.inl (cI, 512, Sum.inl vNow)), ((g 4), Sum.inl (cI, 600, Sum.inl vIM)), ((g 5), Sum.inl (cI, 600, Sum.inl vIW)), ((g 6), Sum.inl (cI, 9000, Sum.inl vGoing)), ((g 9), Sum.inl (cI, 512, Sum.inl so)), ((g 10), Sum.inl (cI, 512, Sum.inl no))]) (va_runV (As := [Value.long (lN ((itA its (k - 1)).2.2 / 2 ^ jj))]) (rest := []) ⟨hx, hb, hml, hown, hts⟩ (c_M_writeBit l dC dI cI cM cO H.size o g fForm fShift fModels (nI its.length) fEnded fLow fRange fCache fPend 0 fOuts fIns fReads fBad fIR fAsk fBAsk fCode fRL fRR fX fThrown vW2 wl2 ((itA its (k - 1)).2.2 / 2 ^ jj) (hG2) (by omega) (Nat.lt_of_le_of_lt (Nat.div_le_self _ _) (by omega))) (cwV 1 hts (my_gV k1161 k1163 ks42 k12 k1164) rfl rfl rfl cu_M_writeBit_1 ⟨by rw [hR]; exact Nat.le_of_ble_eq_true rfl, by rw [hR]; exact Nat.le_of_ble_eq_true rfl⟩) (my_preV hK hN (hP.sub [0, 9] rfl) (hD.sub [0, 9] (by decide +kernel) rfl) 0 rfl rfl) rfl rfl hl.1 rfl (lv_room (Nat.le_of_ble_eq_true rfl)) d_M_endTable_65 ⟨by rw [hR]; exact Nat.le_of_ble_eq_true rfl, by rw [hR]; exact Nat.le_of_ble_eq_true rfl⟩) hP hD hS hA [0, 9] [1, 2, 3, 4, 5, 6, 7, 8] rfl rfl (by decide +kernel) (by decide +kernel) (fun u9 H locs hw_65 hP hD hS => ?_)
                obtain ⟨v2_65, rfl⟩ : ∃ z, z = u9 := ⟨_, rfl⟩
                have hw_65 : gIs v2_65 (wl2 ++ [((itA its (k - 1)).2.2 / 2 ^ jj) % 2]) := hw_65
                have hPD : my_PD (dC, dI) vwCl A [((g 0), Sum.inl (cI, 8, Sum.inl vMany)), ((g 1), Sum.inl (cI, 512, Sum.inl vCounts)), ((g 2), Sum.inl (cI, 512, Sum.inl vNow)), ((g 4), Sum.inl (cI, 600, Sum.inl vIM)), ((g 5), Sum.inl (cI, 600, Sum.inl vIW)), ((g 6), Sum.inl (cI, 9000, Sum.inl vGoing)), ((g 9), Sum.inl (cI, 512, Sum.inl so)), ((g 10), Sum.inl (cI, 512, Sum.inl no)), (o, Sum.inr (9, mO g fForm fShift fModels (nI its.length) fEnded fLow fRange fCache fPend 0 fOuts fIns fReads fBad fIR fAsk fBAsk fCode fRL fRR fX (nI (wl2 ++ [((itA its (k - 1)).2.2 / 2 ^ jj) % 2]).length) fThrown)), ((g 11), Sum.inl (cI, 20000, Sum.inl v2_65))] H := ⟨hP, hD⟩
                have hP := hPD.1
                have hD := hPD.2
                obtain ⟨v_47, ev_47⟩ : ∃ y : Int32, y = (nI jj) + (1) := ⟨_, rfl⟩
                refine lv_iinc (v := v_47) (lv' := [(7, Value.int v_47), (6, Value.int (nI (itA its (k - 1)).2.2)), (5, Value.int (itM (itA its (k - 1)))), (4, Value.int i9), (3, Value.int ld), (1, Value.long (lN V)), (0, Value.ref o)]) hx hb d_M_endTable_68 hl (k := 0) rfl (by rw [ev_47]; rfl) (by decide) rfl (fun ls hl => ?_)
                have z9 : v_47 = nI (jj + 1) := by rw [ev_47]; exact nI_1 _
                subst z9
                refine lv_goto (tgt := 50) hx hb d_M_endTable_71 (by decide) ?_
                exact ih9_50 _ (by first | omega | (omega)) (jj + 1) (wl2 ++ [((itA its (k - 1)).2.2 / 2 ^ jj) % 2]) v2_65 rfl (by omega) (by rw [hwb, bvL, List.append_assoc]) (hw_65) (bt2_add hB2 (Nat.mod_lt _ (by decide))) (by rw [List.length_append, List.length_singleton]; omega) H locs ls (hP.sub [8, 0, 1, 2, 3, 4, 5, 6, 7, 9] rfl) (hD.sub [8, 0, 1, 2, 3, 4, 5, 6, 7, 9] (by decide +kernel) rfl) hS (lv_sub hl [0, 1, 2, 3, 4, 5, 6] rfl)
          exact J_50 _ (0 : Nat) wl vW rfl (Nat.zero_le _) (by rw [bvL, List.append_nil]) (hG) (hB) (hW) H locs ls (hP.sub [0, 1, 2, 3, 4, 5, 6, 7, 8, 9] rfl) (hD.sub [0, 1, 2, 3, 4, 5, 6, 7, 8, 9] (by decide +kernel) rfl) hS (lv_sub hl [0, 1, 2, 3, 4, 5, 6] rfl)
  exact J_19 _ (512 : Nat) (-1 : Int32) v_1 its.length ([] : List Nat) vWr vSO vNO rfl (rfl) (by omega) (by omega) (by rw [ev_1]; exact Int32.sub_add_cancel _ _) (Nat.le_refl _) (fun z9 h9 => absurd h9 (Nat.not_lt_zero z9)) (fun z9 h9 => absurd h9 List.not_mem_nil) (by show 0 + _ ≤ _; omega) (Or.inl rfl) H locs ls (hP.sub [0, 1, 2, 3, 4, 5, 6, 7, 8, 9] rfl) (hD.sub [0, 1, 2, 3, 4, 5, 6, 7, 8, 9] (by decide +kernel) rfl) hS (lv_sub hl [0, 1, 2, 3] rfl)
set_option maxHeartbeats 2000000 in
set_option maxRecDepth 100000 in
theorem m_end4B (l : Launch) (dC : Nat → ClassId) (dI : Nat → Nat → Nat) (cI cM cO : ClassId) (sz : Nat) (o : Nat) (g : Nat → Nat) (fShift : Int32) (fModels : Int32) (fLow : Int64) (fRange : Int64) (fCache : Int32) (fPend : Int32) (fOuts : Int32) (fIns : Int32) (fReads : Int32) (fBad : Int32) (fIR : Int32) (fAsk : Int32) (fBAsk : Int32) (fCode : Int64) (fRL : Int64) (fRR : Int64) (fX : Int64) (fWrites : Int32) (fThrown : Int32) (vMany : Nat → Int32) (vCounts : Nat → Int32) (vNow : Nat → Int32) (vIM : Nat → Int32) (vIW : Nat → Int32) (vGoing : Nat → Int32) (vSO : Nat → Int32) (vNO : Nat → Int32) (vWr : Nat → Int32) (vOut : Nat → Int32) (km : Nat) (N : Nat → Nat) (its : List It) (hmod : fModels = nI km) (hMD : MD km N vMany vCounts) (hki : its.length ≤ 600) (hit : itIs vIM vIW its) (hok : ∀ i, i < its.length → itOk 512 9 km N vNow (itA its i)) (hwl : (e4W (Fvw vNow) N its).length ≤ 8000) : MetI l y_M_end (Cond.code y_M_end prog_14_method_31_code 2 (some .int) :: gw) ({ frames := 2, cells := 0, slots := 0, locals := 54 } : Room) (dC, dI) vwCl (kT cI cM cO) [Value.ref o] [(o, Sum.inr (9, mO g 4 fShift fModels (nI its.length) 0 fLow fRange fCache fPend 0 fOuts fIns fReads fBad fIR fAsk fBAsk fCode fRL fRR fX fWrites fThrown)), ((g 0), Sum.inl (cI, 8, Sum.inl vMany)), ((g 1), Sum.inl (cI, 512, Sum.inl vCounts)), ((g 2), Sum.inl (cI, 512, Sum.inl vNow)), ((g 4), Sum.inl (cI, 600, Sum.inl vIM)), ((g 5), Sum.inl (cI, 600, Sum.inl vIW)), ((g 6), Sum.inl (cI, 9000, Sum.inl vGoing)), ((g 9), Sum.inl (cI, 512, Sum.inl vSO)), ((g 10), Sum.inl (cI, 512, Sum.inl vNO)), ((g 11), Sum.inl (cI, 20000, Sum.inl vWr)), ((g 7), Sum.inl (cI, 9000, Sum.inl vOut))] sz (fun (r : Int32) (u : (Nat → Int32) × (Nat → Int32) × (Nat → Int32) × (Nat → Int32) × (Nat → Int32) × Int32 × Int32 × Int32) => r = nI (pkB (e4W (Fvw vNow) N its) (((e4W (Fvw vNow) N its).length + 7) / 8)).length ∧ u.2.2.2.2.2.2.2 = nI (pkB (e4W (Fvw vNow) N its) (((e4W (Fvw vNow) N its).length + 7) / 8)).length ∧ gIs u.2.2.2.2.1 (pkB (e4W (Fvw vNow) N its) (((e4W (Fvw vNow) N its).length + 7) / 8))) (fun (u : (Nat → Int32) × (Nat → Int32) × (Nat → Int32) × (Nat → Int32) × (Nat → Int32) × Int32 × Int32 × Int32) => [(o, Sum.inr (9, mO g 4 fShift fModels (nI its.length) 1 fLow fRange fCache fPend u.2.2.2.2.2.1 u.2.2.2.2.2.2.2 fIns fReads fBad fIR fAsk fBAsk fCode fRL fRR fX u.2.2.2.2.2.2.1 0)), ((g 0), Sum.inl (cI, 8, Sum.inl vMany)), ((g 1), Sum.inl (cI, 512, Sum.inl vCounts)), ((g 2), Sum.inl (cI, 512, Sum.inl vNow)), ((g 4), Sum.inl (cI, 600, Sum.inl vIM)), ((g 5), Sum.inl (cI, 600, Sum.inl vIW)), ((g 6), Sum.inl (cI, 9000, Sum.inl u.1)), ((g 9), Sum.inl (cI, 512, Sum.inl u.2.1)), ((g 10), Sum.inl (cI, 512, Sum.inl u.2.2.1)), ((g 11), Sum.inl (cI, 20000, Sum.inl u.2.2.2.1)), ((g 7), Sum.inl (cI, 9000, Sum.inl u.2.2.2.2.1))]) 0 0 := by
  refine my_ofI (cc := prog_14_method_31_code) (n := 2) (ret := (some .int)) (by decide) rfl (Nat.le_of_ble_eq_true rfl) ?_
  intro p e s m args below meth c R Q A ls H locs hx hb hr hts hown hlocks hml hnm hR hQ hA hl hP hK hN hD hS
  have hg : ∀ w ∈ gw, w.before args s = true := fun w h => hts w (List.mem_cons_of_mem _ h)
  have hown : s.vm.findClass "RangeCodersModel" = some m.cls := hown
  have hl : lv_has ls 2 [(0, Value.ref o)] := hl
  refine lv_aload_n hx hb d_M_end_0 rfl (lv_at hl 0 rfl) ?_
  refine lv_iconst (v := 0) hx hb d_M_end_1 (by decide) ?_
  refine va_put (D := (dC, dI)) (ci := 9) (v := .int 0) (ty := .int) (C := "RangeCodersModel") (T := T_M) (N := 35) hx hb hg in_M t_M o_M n_M hown hK hP hD hS 0 rfl rfl 34 (by decide) (hg _ k986) (fun _ h9 => h9) rfl (o_M 34 (by decide)) rfl rfl (Nat.le_of_ble_eq_true rfl) d_M_end_2 (fun H locs hP hD hS => ?_)
  have hPD : my_PD (dC, dI) vwCl A [(o, Sum.inr (9, mO g 4 fShift fModels (nI its.length) 0 fLow fRange fCache fPend 0 fOuts fIns fReads fBad fIR fAsk fBAsk fCode fRL fRR fX fWrites 0)), ((g 0), Sum.inl (cI, 8, Sum.inl vMany)), ((g 1), Sum.inl (cI, 512, Sum.inl vCounts)), ((g 2), Sum.inl (cI, 512, Sum.inl vNow)), ((g 4), Sum.inl (cI, 600, Sum.inl vIM)), ((g 5), Sum.inl (cI, 600, Sum.inl vIW)), ((g 6), Sum.inl (cI, 9000, Sum.inl vGoing)), ((g 9), Sum.inl (cI, 512, Sum.inl vSO)), ((g 10), Sum.inl (cI, 512, Sum.inl vNO)), ((g 11), Sum.inl (cI, 20000, Sum.inl vWr)), ((g 7), Sum.inl (cI, 9000, Sum.inl vOut))] H := ⟨hP, hD⟩
  have hP := hPD.1
  have hD := hPD.2
  refine lv_aload_n hx hb d_M_end_5 rfl (lv_at hl 0 rfl) ?_
  refine va_get (D := (dC, dI)) (ci := 9) (v := .int 0) (C := "RangeCodersModel") (T := T_M) (N := 35) hx hb hg in_M hown hK hP 0 rfl rfl 10 (by decide) (hg _ k962) (fun _ h9 => h9) rfl d_M_end_6 ?_
  refine lv_if_eq (tgt := 15) hx hb d_M_end_9 (by decide) (fun c_1 => ?_) (fun c_1 => ?_)
  · refine lv_aload_n hx hb d_M_end_15 rfl (lv_at hl 0 rfl) ?_
    refine lv_iconst (v := 1) hx hb d_M_end_16 (by decide) ?_
    refine va_put (D := (dC, dI)) (ci := 9) (v := .int 1) (ty := .boolean) (C := "RangeCodersModel") (T := T_M) (N := 35) hx hb hg in_M t_M o_M n_M hown hK hP hD hS 0 rfl rfl 10 (by decide) (hg _ k962) (fun _ h9 => h9) rfl (o_M 10 (by decide)) rfl rfl (Nat.le_of_ble_eq_true rfl) d_M_end_17 (fun H locs hP hD hS => ?_)
    have hPD : my_PD (dC, dI) vwCl A [(o, Sum.inr (9, mO g 4 fShift fModels (nI its.length) 1 fLow fRange fCache fPend 0 fOuts fIns fReads fBad fIR fAsk fBAsk fCode fRL fRR fX fWrites 0)), ((g 0), Sum.inl (cI, 8, Sum.inl vMany)), ((g 1), Sum.inl (cI, 512, Sum.inl vCounts)), ((g 2), Sum.inl (cI, 512, Sum.inl vNow)), ((g 4), Sum.inl (cI, 600, Sum.inl vIM)), ((g 5), Sum.inl (cI, 600, Sum.inl vIW)), ((g 6), Sum.inl (cI, 9000, Sum.inl vGoing)), ((g 9), Sum.inl (cI, 512, Sum.inl vSO)), ((g 10), Sum.inl (cI, 512, Sum.inl vNO)), ((g 11), Sum.inl (cI, 20000, Sum.inl vWr)), ((g 7), Sum.inl (cI, 9000, Sum.inl vOut))] H := ⟨hP, hD⟩
    have hP := hPD.1
    have hD := hPD.2
    refine lv_aload_n hx hb d_M_end_20 rfl (lv_at hl 0 rfl) ?_
    refine va_get (D := (dC, dI)) (ci := 9) (v := .int 4) (C := "RangeCodersModel") (T := T_M) (N := 35) hx hb hg in_M hown hK hP 0 rfl rfl 0 (by decide) (hg _ k952) (fun _ h9 => h9) rfl d_M_end_21 ?_
    refine lv_if_eq (tgt := 35) hx hb d_M_end_24 (by decide) (fun c_2 => ?_) (fun c_2 => ?_)
    · exact absurd c_2 (by decide)
    · refine lv_aload_n hx hb d_M_end_27 rfl (lv_at hl 0 rfl) ?_
      refine va_get (D := (dC, dI)) (ci := 9) (v := .int 4) (C := "RangeCodersModel") (T := T_M) (N := 35) hx hb hg in_M hown hK hP 0 rfl rfl 0 (by decide) (hg _ k952) (fun _ h9 => h9) rfl d_M_end_28 ?_
      refine lv_iconst (v := 2) hx hb d_M_end_31 (by decide) ?_
      refine lv_icmp_ne (tgt := 55) hx hb d_M_end_32 (by decide) (fun c_3 => ?_) (fun c_3 => ?_)
      · refine lv_aload_n hx hb d_M_end_55 rfl (lv_at hl 0 rfl) ?_
        refine va_get (D := (dC, dI)) (ci := 9) (v := .int 4) (C := "RangeCodersModel") (T := T_M) (N := 35) hx hb hg in_M hown hK hP 0 rfl rfl 0 (by decide) (hg _ k952) (fun _ h9 => h9) rfl d_M_end_56 ?_
        refine lv_iconst (v := 1) hx hb d_M_end_59 (by decide) ?_
        refine lv_icmp_ne (tgt := 106) hx hb d_M_end_60 (by decide) (fun c_4 => ?_) (fun c_4 => ?_)
        · refine lv_aload_n hx hb d_M_end_106 rfl (lv_at hl 0 rfl) ?_
          refine va_get (D := (dC, dI)) (ci := 9) (v := .int 4) (C := "RangeCodersModel") (T := T_M) (N := 35) hx hb hg in_M hown hK hP 0 rfl rfl 0 (by decide) (hg _ k952) (fun _ h9 => h9) rfl d_M_end_107 ?_
          refine lv_iconst (v := 3) hx hb d_M_end_110 (by decide) ?_
          refine lv_icmp_ne (tgt := 121) hx hb d_M_end_111 (by decide) (fun c_5 => ?_) (fun c_5 => ?_)
          · refine lv_aload_n hx hb d_M_end_121 rfl (lv_at hl 0 rfl) ?_
            refine my_cv (wr := [((g 7), Sum.inl (cI, 9000, Sum.inl vOut))]) (va_runV (As := []) (rest := []) ⟨hx, hb, hml, hown, hts⟩ (m_endTable l dC dI cI cM cO H.size o g 4 fShift fModels 1 fLow fRange fCache fPend fOuts fIns fReads fBad fIR fAsk fBAsk fCode fRL fRR fX fWrites 0 vMany vCounts vNow vIM vIW vGoing vSO vNO vWr km N its (hMD) (hki) (hit) (hok)) (cwV 0 hts (my_gV k1156 k1158 ks41 k12 k1159) rfl rfl rfl cu_M_endTable_0 ⟨by rw [hR]; exact Nat.le_of_ble_eq_true rfl, by rw [hR]; exact Nat.le_of_ble_eq_true rfl⟩) (my_preV hK hN (hP.sub [0, 1, 2, 3, 4, 5, 6, 7, 8, 9] rfl) (hD.sub [0, 1, 2, 3, 4, 5, 6, 7, 8, 9] (by decide +kernel) rfl) 0 rfl rfl) rfl rfl hl.1 rfl (lv_room (Nat.le_of_ble_eq_true rfl)) d_M_end_122 ⟨by rw [hR]; exact Nat.le_of_ble_eq_true rfl, by rw [hR]; exact Nat.le_of_ble_eq_true rfl⟩) hP hD hS hA [0, 1, 2, 3, 4, 5, 6, 7, 8, 9] [10] rfl rfl (by decide +kernel) (by decide +kernel) (fun u9 H locs hw_122 hP hD hS => ?_)
            obtain ⟨vGoingq_122, vSOq_122, vNOq_122, vWrq_122, fGoesq_122, fWritesq_122⟩ := u9
            obtain ⟨hgq_122, hGq_122⟩ : fGoesq_122 = nI (pkB (e4W (Fvw vNow) N its) (((e4W (Fvw vNow) N its).length + 7) / 8)).length ∧ gIs vGoingq_122 (pkB (e4W (Fvw vNow) N its) (((e4W (Fvw vNow) N its).length + 7) / 8)) := hw_122
            have hPD : my_PD (dC, dI) vwCl A [((g 7), Sum.inl (cI, 9000, Sum.inl vOut)), (o, Sum.inr (9, mO g 4 fShift fModels (nI its.length) 1 fLow fRange fCache fPend fGoesq_122 fOuts fIns fReads fBad fIR fAsk fBAsk fCode fRL fRR fX fWritesq_122 0)), ((g 0), Sum.inl (cI, 8, Sum.inl vMany)), ((g 1), Sum.inl (cI, 512, Sum.inl vCounts)), ((g 2), Sum.inl (cI, 512, Sum.inl vNow)), ((g 4), Sum.inl (cI, 600, Sum.inl vIM)), ((g 5), Sum.inl (cI, 600, Sum.inl vIW)), ((g 6), Sum.inl (cI, 9000, Sum.inl vGoingq_122)), ((g 9), Sum.inl (cI, 512, Sum.inl vSOq_122)), ((g 10), Sum.inl (cI, 512, Sum.inl vNOq_122)), ((g 11), Sum.inl (cI, 20000, Sum.inl vWrq_122))] H := ⟨hP, hD⟩
            have hP := hPD.1
            have hD := hPD.2
            obtain ⟨b9, hb9⟩ : ∃ b, b = pkB (e4W (Fvw vNow) N its) (((e4W (Fvw vNow) N its).length + 7) / 8) := ⟨_, rfl⟩
            rw [← hb9] at hgq_122 hGq_122
            subst hgq_122
            have hl9 : b9.length ≤ 8000 := by rw [hb9, pkB_len]; omega
            have hPD : my_PD (dC, dI) vwCl A [((g 7), Sum.inl (cI, 9000, Sum.inl vOut)), (o, Sum.inr (9, mO g 4 fShift fModels (nI its.length) 1 fLow fRange fCache fPend (nI b9.length) fOuts fIns fReads fBad fIR fAsk fBAsk fCode fRL fRR fX fWritesq_122 0)), ((g 0), Sum.inl (cI, 8, Sum.inl vMany)), ((g 1), Sum.inl (cI, 512, Sum.inl vCounts)), ((g 2), Sum.inl (cI, 512, Sum.inl vNow)), ((g 4), Sum.inl (cI, 600, Sum.inl vIM)), ((g 5), Sum.inl (cI, 600, Sum.inl vIW)), ((g 6), Sum.inl (cI, 9000, Sum.inl vGoingq_122)), ((g 9), Sum.inl (cI, 512, Sum.inl vSOq_122)), ((g 10), Sum.inl (cI, 512, Sum.inl vNOq_122)), ((g 11), Sum.inl (cI, 20000, Sum.inl vWrq_122))] H := ⟨hP, hD⟩
            have hP := hPD.1
            have hD := hPD.2
            refine lv_aload_n hx hb d_M_end_125 rfl (lv_at hl 0 rfl) ?_
            refine lv_aload_n hx hb d_M_end_126 rfl (lv_at hl 0 rfl) ?_
            refine va_get (D := (dC, dI)) (ci := 9) (v := .int (nI b9.length)) (C := "RangeCodersModel") (T := T_M) (N := 35) hx hb hg in_M hown hK hP 1 rfl rfl 16 (by decide) (hg _ k968) (fun _ h9 => h9) rfl d_M_end_127 ?_
            refine va_put (D := (dC, dI)) (ci := 9) (v := .int (nI b9.length)) (ty := .int) (C := "RangeCodersModel") (T := T_M) (N := 35) hx hb hg in_M t_M o_M n_M hown hK hP hD hS 1 rfl rfl 18 (by decide) (hg _ k970) (fun _ h9 => h9) rfl (o_M 18 (by decide)) rfl rfl (Nat.le_of_ble_eq_true rfl) d_M_end_130 (fun H locs hP hD hS => ?_)
            have hPD : my_PD (dC, dI) vwCl A [((g 7), Sum.inl (cI, 9000, Sum.inl vOut)), (o, Sum.inr (9, mO g 4 fShift fModels (nI its.length) 1 fLow fRange fCache fPend (nI b9.length) (nI b9.length) fIns fReads fBad fIR fAsk fBAsk fCode fRL fRR fX fWritesq_122 0)), ((g 0), Sum.inl (cI, 8, Sum.inl vMany)), ((g 1), Sum.inl (cI, 512, Sum.inl vCounts)), ((g 2), Sum.inl (cI, 512, Sum.inl vNow)), ((g 4), Sum.inl (cI, 600, Sum.inl vIM)), ((g 5), Sum.inl (cI, 600, Sum.inl vIW)), ((g 6), Sum.inl (cI, 9000, Sum.inl vGoingq_122)), ((g 9), Sum.inl (cI, 512, Sum.inl vSOq_122)), ((g 10), Sum.inl (cI, 512, Sum.inl vNOq_122)), ((g 11), Sum.inl (cI, 20000, Sum.inl vWrq_122))] H := ⟨hP, hD⟩
            have hP := hPD.1
            have hD := hPD.2
            refine lv_iconst (v := 0) hx hb d_M_end_133 (by decide) ?_
            refine lv_istore_n (lv' := [(1, Value.int 0), (0, Value.ref o)]) hx hb d_M_end_134 rfl hl (by decide) rfl (fun ls hl => ?_)
            have J_135 : ∀ (n9_135 : Nat) (kk : Nat) (fO : Nat → Int32) (hn9_135 : (b9).length - kk = n9_135) (hkk : kk ≤ (b9).length) (hc : ∀ i, i < kk → fO i = vGoingq_122 i) (H : Heap) (locs : List Loc) (ls : Array Slot), va_P (dC, dI) vwCl [((g 7), Sum.inl (cI, 9000, Sum.inl fO)), (o, Sum.inr (9, mO g 4 fShift fModels (nI its.length) 1 fLow fRange fCache fPend (nI b9.length) (nI b9.length) fIns fReads fBad fIR fAsk fBAsk fCode fRL fRR fX fWritesq_122 0)), ((g 0), Sum.inl (cI, 8, Sum.inl vMany)), ((g 1), Sum.inl (cI, 512, Sum.inl vCounts)), ((g 2), Sum.inl (cI, 512, Sum.inl vNow)), ((g 4), Sum.inl (cI, 600, Sum.inl vIM)), ((g 5), Sum.inl (cI, 600, Sum.inl vIW)), ((g 6), Sum.inl (cI, 9000, Sum.inl vGoingq_122)), ((g 9), Sum.inl (cI, 512, Sum.inl vSOq_122)), ((g 10), Sum.inl (cI, 512, Sum.inl vNOq_122)), ((g 11), Sum.inl (cI, 20000, Sum.inl vWrq_122))] H → va_D A [((g 7), Sum.inl (cI, 9000, Sum.inl fO)), (o, Sum.inr (9, mO g 4 fShift fModels (nI its.length) 1 fLow fRange fCache fPend (nI b9.length) (nI b9.length) fIns fReads fBad fIR fAsk fBAsk fCode fRL fRR fX fWritesq_122 0)), ((g 0), Sum.inl (cI, 8, Sum.inl vMany)), ((g 1), Sum.inl (cI, 512, Sum.inl vCounts)), ((g 2), Sum.inl (cI, 512, Sum.inl vNow)), ((g 4), Sum.inl (cI, 600, Sum.inl vIM)), ((g 5), Sum.inl (cI, 600, Sum.inl vIW)), ((g 6), Sum.inl (cI, 9000, Sum.inl vGoingq_122)), ((g 9), Sum.inl (cI, 512, Sum.inl vSOq_122)), ((g 10), Sum.inl (cI, 512, Sum.inl vNOq_122)), ((g 11), Sum.inl (cI, 20000, Sum.inl vWrq_122))] → va_S A s.heap H locs → lv_has ls 2 [(1, Value.int (nI kk)), (0, Value.ref o)] → W p l e R s m args below meth c H locs 0 0 Q (F0 m 135 ls []) := by
              intro n9_135
              induction n9_135 using Nat.strongRecOn with
              | ind n9_135 ih9_135 =>
                intro kk fO hn9_135 hkk hc H locs ls hP hD hS hl
                refine lv_iload_n hx hb d_M_end_135 rfl (lv_at hl 0 rfl) ?_
                refine lv_aload_n hx hb d_M_end_136 rfl (lv_at hl 1 rfl) ?_
                refine va_get (D := (dC, dI)) (ci := 9) (v := .int (nI b9.length)) (C := "RangeCodersModel") (T := T_M) (N := 35) hx hb hg in_M hown hK hP 1 rfl rfl 16 (by decide) (hg _ k968) (fun _ h9 => h9) rfl d_M_end_137 ?_
                refine lv_icmp_ge (tgt := 161) hx hb d_M_end_140 (by decide) (fun c_6 => ?_) (fun c_6 => ?_)
                · have hkn : kk = (b9).length := by have := (nI_cmp (a := (b9).length) (b := kk) (by omega) (by omega)).mp c_6; omega
                  subst hkn
                  refine lv_aload_n hx hb d_M_end_161 rfl (lv_at hl 1 rfl) ?_
                  refine va_get (D := (dC, dI)) (ci := 9) (v := .int (nI b9.length)) (C := "RangeCodersModel") (T := T_M) (N := 35) hx hb hg in_M hown hK hP 1 rfl rfl 18 (by decide) (hg _ k970) (fun _ h9 => h9) rfl d_M_end_162 ?_
                  exact my_iret (v := (nI b9.length)) hx hb hr (rfl) hlocks hQ hK hS (Nat.le_refl _) (Nat.le_refl _) (vGoingq_122, vSOq_122, vNOq_122, vWrq_122, fO, (nI b9.length), fWritesq_122, (nI b9.length)) (⟨by rw [← hb9], by rw [← hb9], by rw [← hb9]; exact gIs_cp hGq_122 hc⟩) (hP.sub [1, 2, 3, 4, 5, 6, 7, 8, 9, 10, 0] rfl) (hD.sub [1, 2, 3, 4, 5, 6, 7, 8, 9, 10, 0] (by decide +kernel) rfl) d_M_end_165
                · have hkl : kk < (b9).length := by
                    rcases Nat.lt_or_ge kk (b9).length with z | z
                    · exact z
                    · exact absurd (nI_le z (by omega)) c_6
                  refine lv_aload_n hx hb d_M_end_143 rfl (lv_at hl 1 rfl) ?_
                  refine va_get (D := (dC, dI)) (ci := 9) (v := .ref (g 7)) (C := "RangeCodersModel") (T := T_M) (N := 35) hx hb hg in_M hown hK hP 1 rfl rfl 17 (by decide) (hg _ k969) (fun _ h9 => h9) rfl d_M_end_144 ?_
                  refine lv_iload_n hx hb d_M_end_147 rfl (lv_at hl 0 rfl) ?_
                  refine lv_aload_n hx hb d_M_end_148 rfl (lv_at hl 1 rfl) ?_
                  refine va_get (D := (dC, dI)) (ci := 9) (v := .ref (g 6)) (C := "RangeCodersModel") (T := T_M) (N := 35) hx hb hg in_M hown hK hP 1 rfl rfl 15 (by decide) (hg _ k967) (fun _ h9 => h9) rfl d_M_end_149 ?_
                  refine lv_iload_n hx hb d_M_end_152 rfl (lv_at hl 0 rfl) ?_
                  refine va_iald hx hb hK hP 7 0 rfl rfl (vp_in_nI (by omega) (by decide)) d_M_end_153 ?_
                  refine lv_topi (fun v_7 ev_7 => ?_)
                  refine va_iast hx hb hK hP hD hS 0 0 rfl rfl (vp_in_nI (by omega) (by decide)) d_M_end_154 (fun H locs hP hD hS => ?_)
                  have hPD : my_PD (dC, dI) vwCl A [((g 7), Sum.inl (cI, 9000, Sum.inl (upd fO (nI kk).toNatClampNeg v_7))), (o, Sum.inr (9, mO g 4 fShift fModels (nI its.length) 1 fLow fRange fCache fPend (nI b9.length) (nI b9.length) fIns fReads fBad fIR fAsk fBAsk fCode fRL fRR fX fWritesq_122 0)), ((g 0), Sum.inl (cI, 8, Sum.inl vMany)), ((g 1), Sum.inl (cI, 512, Sum.inl vCounts)), ((g 2), Sum.inl (cI, 512, Sum.inl vNow)), ((g 4), Sum.inl (cI, 600, Sum.inl vIM)), ((g 5), Sum.inl (cI, 600, Sum.inl vIW)), ((g 6), Sum.inl (cI, 9000, Sum.inl vGoingq_122)), ((g 9), Sum.inl (cI, 512, Sum.inl vSOq_122)), ((g 10), Sum.inl (cI, 512, Sum.inl vNOq_122)), ((g 11), Sum.inl (cI, 20000, Sum.inl vWrq_122))] H := ⟨hP, hD⟩
                  have hP := hPD.1
                  have hD := hPD.2
                  have hc8 : ∀ i, i < kk + 1 → (upd fO (nI kk).toNatClampNeg v_7) i = vGoingq_122 i := cp_st hc (nI_clamp (by omega)) (by rw [ev_7, nI_clamp (by omega)])
                  obtain ⟨v_8, ev_8⟩ : ∃ y : Int32, y = (nI kk) + (1) := ⟨_, rfl⟩
                  refine lv_iinc (v := v_8) (lv' := [(1, Value.int v_8), (0, Value.ref o)]) hx hb d_M_end_155 hl (k := 0) rfl (by rw [ev_8]; rfl) (by decide) rfl (fun ls hl => ?_)
                  have z9 : v_8 = nI (kk + 1) := by rw [ev_8]; exact nI_1 _
                  subst z9
                  refine lv_goto (tgt := 135) hx hb d_M_end_158 (by decide) ?_
                  exact ih9_135 _ (by first | omega | (omega)) (kk + 1) (upd fO (nI kk).toNatClampNeg v_7) rfl (by omega) (hc8) H locs ls (hP.sub [0, 1, 2, 3, 4, 5, 6, 7, 8, 9, 10] rfl) (hD.sub [0, 1, 2, 3, 4, 5, 6, 7, 8, 9, 10] (by decide +kernel) rfl) hS (lv_sub hl [0, 1] rfl)
            exact J_135 _ (0 : Nat) vOut rfl (Nat.zero_le _) (fun _ z => absurd z (Nat.not_lt_zero _)) H locs ls (hP.sub [0, 1, 2, 3, 4, 5, 6, 7, 8, 9, 10] rfl) (hD.sub [0, 1, 2, 3, 4, 5, 6, 7, 8, 9, 10] (by decide +kernel) rfl) hS (lv_sub hl [0, 1] rfl)
          · exact absurd c_5 (by decide)
        · exact absurd c_4 (by decide)
      · exact absurd c_3 (by decide)
  · exact absurd (by decide) c_1
end
section
theorem nb_lt {q n : Nat} (hq : q < 2 ^ 31) (hn : n < 2 ^ 31) (h : 0 ≤ nI q ∧ nI q < nI n) : q < n := by
  have h1 := h.2
  rw [Int32.lt_iff_toInt_lt, nI_toInt hq, nI_toInt hn] at h1
  omega
theorem nb_0 {is : List Nat} {q : Nat} (hn : is.length < 2 ^ 31) (h : ¬ (0 ≤ nI q ∧ nI q < nI is.length)) : byA is q = 0 := by
  have h1 : is.length ≤ q := by
    rcases Nat.lt_or_ge q is.length with z | z
    · exact absurd (has_in z hn) h
    · exact z
  show is.getD q 0 = 0
  rw [List.getD_eq_getElem?_getD, List.getElem?_eq_none h1]
  rfl
/-- CODE and a byte behind it -/
theorem L_code {a b : Nat} (ha : a < 4294967296) (hb : b < 256) : lN (a * 256) ||| lN b = lN (a * 256 + b) := L_or8 hb (by omega)
theorem code_m {a b : Nat} (hb : b < 256) : (a * 256 + b) % 4294967296 = a * 256 % 4294967296 + b := by omega
theorem wnt_lt {tt RR x v : Nat} (h : wnt tt RR x = some v) : v < tt := by
  unfold wnt at h
  split at h
  · cases h
  · split at h
    · cases h; assumption
    · cases h
theorem wnt_0 (RR x : Nat) : wnt 0 RR x = none := by unfold wnt; rw [if_pos (Nat.div_zero _)]
theorem wnt_z {tt RR x : Nat} (h : RR / tt = 0) : wnt tt RR x = none := by unfold wnt; rw [if_pos h]
theorem wnt_b {tt RR x : Nat} (h : 0 < RR / tt) (h2 : ¬ x / (RR / tt) < tt) : wnt tt RR x = none := by unfold wnt; rw [if_neg (by omega), if_neg h2]
theorem wnt_s {tt RR x : Nat} (h : 0 < RR / tt) (h2 : x / (RR / tt) < tt) : wnt tt RR x = some (x / (RR / tt)) := by unfold wnt; rw [if_neg (by omega), if_pos h2]
theorem wnt_ok {tt RR x v : Nat} (h : wnt tt RR x = some v) : 0 < tt ∧ tt ≤ RR ∧ RR / tt * v ≤ x ∧ v < tt := by
  have hl := wnt_lt h
  unfold wnt at h
  split at h
  · cases h
  · rename_i hz
    split at h
    · cases h
      refine ⟨Nat.pos_of_ne_zero (fun z => hz (by rw [z, Nat.div_zero])), ?_, ?_, hl⟩
      · rcases Nat.lt_or_ge RR tt with q | q
        · exact absurd (Nat.div_eq_of_lt q) hz
        · exact q
      · exact Nat.mul_div_le _ _
    · cases h
theorem sh_0 {CD : Nat} (h : CD < 4294967296) : (CD + 4294967296 - 0) % 4294967296 = CD := by omega
theorem nI_nm1 {v : Nat} (hv : v < 2 ^ 31) : ¬ nI v = -1 := fun h => by
  have h2 : (nI v).toInt = -1 := by rw [h]; rfl
  rw [nI_toInt hv] at h2
  omega
theorem r3_b1 {n : Nat} (h : (if n < 8388608 then (0 : Int32) else 1) = 0) : (1 : Int32) = if n < 8388608 then 1 else 0 := by
  by_cases z : n < 8388608
  · rw [if_pos z]
  · rw [if_neg z] at h; exact absurd h (by decide)
theorem r3_b0 {n : Nat} (h : ¬ (if n < 8388608 then (0 : Int32) else 1) = 0) : (0 : Int32) = if n < 8388608 then 1 else 0 := by
  by_cases z : n < 8388608
  · rw [if_pos z] at h; exact absurd rfl h
  · rw [if_neg z]
theorem nI_z0 {n : Nat} (hn : n < 2 ^ 31) (h : nI n ≤ 0) : n = 0 := by
  rcases Nat.eq_zero_or_pos n with z | z
  · exact z
  · exact absurd h (nI_nle z hn)
theorem rbt_0 {bb CD : Nat} (h : CD < bb) : rbt bb CD = 0 := by unfold rbt; rw [if_pos h]
theorem rbt_1 {bb CD : Nat} (h : ¬ CD < bb) : rbt bb CD = 1 := by unfold rbt; rw [if_neg h]
theorem rbS_0 {bb RR CD q : Nat} (h : CD < bb) : rbS bb RR CD q = (bb, CD, q) := by unfold rbS; rw [if_pos h]
theorem rbS_1 {bb RR CD q : Nat} (h : ¬ CD < bb) : rbS bb RR CD q = (RR - bb, CD - bb, q) := by unfold rbS; rw [if_neg h]
/-- what the class's reading is behind an item: as ahead of it, if it was BAD -/
def cbR {α : Type} (x : Option Nat) (a b : α) : α := match x with
  | none => a
  | some _ => b
theorem crd_eq {r : RS} (h : r.2.1 < 4294967296) (hr : r.1 < 4294967296) : lN r.2.1 - lN (rbt (r.1 / 2) r.2.1 * (r.1 / 2)) = lN (crd r) := by
  unfold rbt crd
  by_cases q : r.2.1 < r.1 / 2
  · rw [if_pos q, if_pos q, Nat.zero_mul]
    exact lN_sub (Nat.zero_le _)
  · rw [if_neg q, if_neg q, Nat.one_mul]
    exact lN_sub (by omega)
theorem crd_lt {r : RS} (h : r.2.1 < 4294967296) : crd r < 4294967296 := by
  unfold crd
  split <;> omega
theorem tb_8 {t : Nat} (ht : t < 2 ^ 31) : nI t / 8 = nI (t / 8) := pk_div (d := 8) ht (by decide) (by decide)
theorem tb_m8 {t : Nat} (ht : t < 2 ^ 31) : nI t - nI t / 8 * 8 = nI (t % 8) := pk_rem (d := 8) ht (by decide) (by decide)
theorem nI_gt9 {k9 : Nat} (h : 9 < nI (10 - k9)) : k9 = 0 := by
  have e9 : (9 : Int32).toInt = 9 := rfl
  rw [Int32.lt_iff_toInt_lt, nI_toInt (by omega), e9] at h
  omega
end
section
set_option maxHeartbeats 2000000 in
set_option maxRecDepth 100000 in
theorem f_Carries_nextByte (l : Launch) (dC : Nat → ClassId) (dI : Nat → Nat → Nat) (cI cM cO : ClassId) (sz : Nat) (co : Nat) (xcache : Int32) (xpending : Int32) (xlow : Int64) (xrange : Int64) (xcode : Int64) (xreadLow : Int64) (xreadRange : Int64) (ri : Nat) (ro : Nat) (rw : Nat) (ria : Nat) (rik : Nat) (rif : Nat → Int32) (is : List Nat) (q : Nat) (hri : rOk (nI is.length) rik) (hGri : gIs rif is) (hLri : is.length ≤ 6000) (hq : q < 1000000000) : MetI l y_Coder_nextByte (Cond.code y_Coder_nextByte prog_4_method_15_code 2 (some .int) :: gw) ({ frames := 2, cells := 0, slots := 0, locals := 42 } : Room) (dC, dI) vwCl (kT cI cM cO) [Value.ref co] [(co, Sum.inr (1, [Value.int xcache, Value.int xpending, Value.long xlow, Value.long xrange, Value.long xcode, Value.long xreadLow, Value.long xreadRange, Value.ref ri, Value.ref ro, Value.ref rw, Value.int (nI q)])), (ri, Sum.inr (0, [Value.int (nI is.length), Value.ref ria])), (ria, Sum.inl (cI, rik, Sum.inl rif))] sz (fun (r : Int32) (u : Unit) => r = nI (byA is q)) (fun (u : Unit) => [(co, Sum.inr (1, [Value.int xcache, Value.int xpending, Value.long xlow, Value.long xrange, Value.long xcode, Value.long xreadLow, Value.long xreadRange, Value.ref ri, Value.ref ro, Value.ref rw, Value.int (nI (q + 1))])), (ri, Sum.inr (0, [Value.int (nI is.length), Value.ref ria])), (ria, Sum.inl (cI, rik, Sum.inl rif))]) 0 0 := by
  refine my_ofI (cc := prog_4_method_15_code) (n := 2) (ret := (some .int)) (by decide) rfl (Nat.le_of_ble_eq_true rfl) ?_
  intro p e s m args below meth c R Q A ls H locs hx hb hr hts hown hlocks hml hnm hR hQ hA hl hP hK hN hD hS
  have hg : ∀ w ∈ gw, w.before args s = true := fun w h => hts w (List.mem_cons_of_mem _ h)
  have hown : s.vm.findClass "RangeCoders$Coder" = some m.cls := hown
  have hl : lv_has ls 2 [(0, Value.ref co)] := hl
  have hlti := rOk_lt hri
  refine lv_aload_n hx hb d_Coder_nextByte_0 rfl (lv_at hl 0 rfl) ?_
  refine va_get (D := (dC, dI)) (ci := 1) (v := .ref ri) (C := "RangeCoders$Carries") (T := T_Carries) (N := 11) hx hb hg in_Carries hown hK hP 0 rfl rfl 7 (by decide) (hg _ k101) (fun _ h9 => h9) rfl d_Coder_nextByte_1 ?_
  refine lv_aload_n hx hb d_Coder_nextByte_4 rfl (lv_at hl 0 rfl) ?_
  refine va_get (D := (dC, dI)) (ci := 1) (v := .int (nI q)) (C := "RangeCoders$Carries") (T := T_Carries) (N := 11) hx hb hg in_Carries hown hK hP 0 rfl rfl 10 (by decide) (hg _ k130) (fun _ h9 => h9) rfl d_Coder_nextByte_5 ?_
  refine my_ci (wr := [(co, Sum.inr (1, [Value.int xcache, Value.int xpending, Value.long xlow, Value.long xrange, Value.long xcode, Value.long xreadLow, Value.long xreadRange, Value.ref ri, Value.ref ro, Value.ref rw, Value.int (nI q)]))]) (va_runV (As := [Value.int (nI q)]) (rest := []) ⟨hx, hb, hml, hown, hts⟩ (f_Row_has l dC dI cI cM cO H.size ri ria rik rif is (nI q) (hri) (hGri) (by omega)) (cwV 1 hts (my_gV k750 k663 k664 k6 k665) rfl rfl rfl cu_Row_has_1 ⟨by rw [hR]; exact Nat.le_of_ble_eq_true rfl, by rw [hR]; exact Nat.le_of_ble_eq_true rfl⟩) (my_preV hK hN (hP.sub [1, 2] rfl) (hD.sub [1, 2] (by decide +kernel) rfl) 0 rfl rfl) rfl rfl hl.1 rfl (lv_room (Nat.le_of_ble_eq_true rfl)) d_Coder_nextByte_8 ⟨by rw [hR]; exact Nat.le_of_ble_eq_true rfl, by rw [hR]; exact Nat.le_of_ble_eq_true rfl⟩) hP hD hS hA [1, 2] [0] rfl rfl (by decide +kernel) (by decide +kernel) (fun r_8 u9 H locs hw_8 hP hD hS => ?_)
  obtain ⟨hr_8, hv_8⟩ : (r_8 = if 0 ≤ (nI q) ∧ (nI q) < nI is.length then 1 else 0) ∧ (r_8 ≠ 0 → vp_in (nI q) rik) := hw_8
  have hPD : my_PD (dC, dI) vwCl A [(co, Sum.inr (1, [Value.int xcache, Value.int xpending, Value.long xlow, Value.long xrange, Value.long xcode, Value.long xreadLow, Value.long xreadRange, Value.ref ri, Value.ref ro, Value.ref rw, Value.int (nI q)])), (ri, Sum.inr (0, [Value.int (nI is.length), Value.ref ria])), (ria, Sum.inl (cI, rik, Sum.inl rif))] H := ⟨hP, hD⟩
  have hP := hPD.1
  have hD := hPD.2
  refine lv_if_eq (tgt := 28) hx hb d_Coder_nextByte_11 (by decide) (fun c_1 => ?_) (fun c_1 => ?_)
  · refine lv_iconst (v := 0) hx hb d_Coder_nextByte_28 (by decide) ?_
    refine W.eq (g2 := F0 m 29 ls [Value.int (nI (byA is q))]) (by rw [nb_0 (by omega) (one_eq hr_8 c_1)]; rfl) ?_
    refine lv_istore_n (lv' := [(1, Value.int (nI (byA is q))), (0, Value.ref co)]) hx hb d_Coder_nextByte_29 rfl hl (by decide) rfl (fun ls hl => ?_)
    refine lv_aload_n hx hb d_Coder_nextByte_30 rfl (lv_at hl 1 rfl) ?_
    refine lv_dup hx hb d_Coder_nextByte_31 rfl ?_
    refine va_get (D := (dC, dI)) (ci := 1) (v := .int (nI q)) (C := "RangeCoders$Carries") (T := T_Carries) (N := 11) hx hb hg in_Carries hown hK hP 0 rfl rfl 10 (by decide) (hg _ k130) (fun _ h9 => h9) rfl d_Coder_nextByte_32 ?_
    refine lv_iconst (v := 1) hx hb d_Coder_nextByte_35 (by decide) ?_
    refine lv_iadd hx hb d_Coder_nextByte_36 ?_
    refine lv_topi (fun v_2 ev_2 => ?_)
    have z9 : v_2 = nI (q + 1) := by rw [ev_2]; exact nI_1 _
    subst z9
    refine va_put (D := (dC, dI)) (ci := 1) (v := .int (nI (q + 1))) (ty := .int) (C := "RangeCoders$Carries") (T := T_Carries) (N := 11) hx hb hg in_Carries t_Carries o_Carries n_Carries hown hK hP hD hS 0 rfl rfl 10 (by decide) (hg _ k130) (fun _ h9 => h9) rfl (o_Carries 10 (by decide)) rfl rfl (Nat.le_of_ble_eq_true rfl) d_Coder_nextByte_37 (fun H locs hP hD hS => ?_)
    have hPD : my_PD (dC, dI) vwCl A [(co, Sum.inr (1, [Value.int xcache, Value.int xpending, Value.long xlow, Value.long xrange, Value.long xcode, Value.long xreadLow, Value.long xreadRange, Value.ref ri, Value.ref ro, Value.ref rw, Value.int (nI (q + 1))])), (ri, Sum.inr (0, [Value.int (nI is.length), Value.ref ria])), (ria, Sum.inl (cI, rik, Sum.inl rif))] H := ⟨hP, hD⟩
    have hP := hPD.1
    have hD := hPD.2
    refine lv_iload_n hx hb d_Coder_nextByte_40 rfl (lv_at hl 0 rfl) ?_
    exact my_iret (v := nI (byA is q)) hx hb hr (rfl) hlocks hQ hK hS (Nat.le_refl _) (Nat.le_refl _) () (rfl) (hP.sub [0, 1, 2] rfl) (hD.sub [0, 1, 2] (by decide +kernel) rfl) d_Coder_nextByte_41
  · refine lv_aload_n hx hb d_Coder_nextByte_14 rfl (lv_at hl 0 rfl) ?_
    refine va_get (D := (dC, dI)) (ci := 1) (v := .ref ri) (C := "RangeCoders$Carries") (T := T_Carries) (N := 11) hx hb hg in_Carries hown hK hP 0 rfl rfl 7 (by decide) (hg _ k101) (fun _ h9 => h9) rfl d_Coder_nextByte_15 ?_
    refine lv_aload_n hx hb d_Coder_nextByte_18 rfl (lv_at hl 0 rfl) ?_
    refine va_get (D := (dC, dI)) (ci := 1) (v := .int (nI q)) (C := "RangeCoders$Carries") (T := T_Carries) (N := 11) hx hb hg in_Carries hown hK hP 0 rfl rfl 10 (by decide) (hg _ k130) (fun _ h9 => h9) rfl d_Coder_nextByte_19 ?_
    refine my_ci (wr := [(co, Sum.inr (1, [Value.int xcache, Value.int xpending, Value.long xlow, Value.long xrange, Value.long xcode, Value.long xreadLow, Value.long xreadRange, Value.ref ri, Value.ref ro, Value.ref rw, Value.int (nI q)]))]) (va_runV (As := [Value.int (nI q)]) (rest := []) ⟨hx, hb, hml, hown, hts⟩ (f_Row_at l dC dI cI cM cO H.size ri ria rik rif is (nI q) (hri) (hGri) (by omega)) (cwV 1 hts (my_gV k751 k659 k660 k6 k661) rfl rfl rfl cu_Row_at_1 ⟨by rw [hR]; exact Nat.le_of_ble_eq_true rfl, by rw [hR]; exact Nat.le_of_ble_eq_true rfl⟩) (my_preV hK hN (hP.sub [1, 2] rfl) (hD.sub [1, 2] (by decide +kernel) rfl) 0 rfl rfl) rfl rfl hl.1 rfl (lv_room (Nat.le_of_ble_eq_true rfl)) d_Coder_nextByte_22 ⟨by rw [hR]; exact Nat.le_of_ble_eq_true rfl, by rw [hR]; exact Nat.le_of_ble_eq_true rfl⟩) hP hD hS hA [1, 2] [0] rfl rfl (by decide +kernel) (by decide +kernel) (fun r_22 u9 H locs hw_22 hP hD hS => ?_)
    have hr_22 : r_22 = rAt is (nI q) := hw_22
    have hPD : my_PD (dC, dI) vwCl A [(co, Sum.inr (1, [Value.int xcache, Value.int xpending, Value.long xlow, Value.long xrange, Value.long xcode, Value.long xreadLow, Value.long xreadRange, Value.ref ri, Value.ref ro, Value.ref rw, Value.int (nI q)])), (ri, Sum.inr (0, [Value.int (nI is.length), Value.ref ria])), (ria, Sum.inl (cI, rik, Sum.inl rif))] H := ⟨hP, hD⟩
    have hP := hPD.1
    have hD := hPD.2
    refine lv_goto (tgt := 29) hx hb d_Coder_nextByte_25 (by decide) ?_
    have z9 : r_22 = nI (byA is q) := by rw [hr_22]; exact rAt_nI (nb_lt (by omega) (by omega) (one_ne hr_8 c_1)) (by omega)
    subst z9
    refine lv_istore_n (lv' := [(1, Value.int (nI (byA is q))), (0, Value.ref co)]) hx hb d_Coder_nextByte_29 rfl hl (by decide) rfl (fun ls hl => ?_)
    refine lv_aload_n hx hb d_Coder_nextByte_30 rfl (lv_at hl 1 rfl) ?_
    refine lv_dup hx hb d_Coder_nextByte_31 rfl ?_
    refine va_get (D := (dC, dI)) (ci := 1) (v := .int (nI q)) (C := "RangeCoders$Carries") (T := T_Carries) (N := 11) hx hb hg in_Carries hown hK hP 0 rfl rfl 10 (by decide) (hg _ k130) (fun _ h9 => h9) rfl d_Coder_nextByte_32 ?_
    refine lv_iconst (v := 1) hx hb d_Coder_nextByte_35 (by decide) ?_
    refine lv_iadd hx hb d_Coder_nextByte_36 ?_
    refine lv_topi (fun v_3 ev_3 => ?_)
    have z9 : v_3 = nI (q + 1) := by rw [ev_3]; exact nI_1 _
    subst z9
    refine va_put (D := (dC, dI)) (ci := 1) (v := .int (nI (q + 1))) (ty := .int) (C := "RangeCoders$Carries") (T := T_Carries) (N := 11) hx hb hg in_Carries t_Carries o_Carries n_Carries hown hK hP hD hS 0 rfl rfl 10 (by decide) (hg _ k130) (fun _ h9 => h9) rfl (o_Carries 10 (by decide)) rfl rfl (Nat.le_of_ble_eq_true rfl) d_Coder_nextByte_37 (fun H locs hP hD hS => ?_)
    have hPD : my_PD (dC, dI) vwCl A [(co, Sum.inr (1, [Value.int xcache, Value.int xpending, Value.long xlow, Value.long xrange, Value.long xcode, Value.long xreadLow, Value.long xreadRange, Value.ref ri, Value.ref ro, Value.ref rw, Value.int (nI (q + 1))])), (ri, Sum.inr (0, [Value.int (nI is.length), Value.ref ria])), (ria, Sum.inl (cI, rik, Sum.inl rif))] H := ⟨hP, hD⟩
    have hP := hPD.1
    have hD := hPD.2
    refine lv_iload_n hx hb d_Coder_nextByte_40 rfl (lv_at hl 0 rfl) ?_
    exact my_iret (v := (nI (byA is q))) hx hb hr (rfl) hlocks hQ hK hS (Nat.le_refl _) (Nat.le_refl _) () (rfl) (hP.sub [0, 1, 2] rfl) (hD.sub [0, 1, 2] (by decide +kernel) rfl) d_Coder_nextByte_41
set_option maxHeartbeats 2000000 in
set_option maxRecDepth 100000 in
theorem f_Carries_four (l : Launch) (dC : Nat → ClassId) (dI : Nat → Nat → Nat) (cI cM cO : ClassId) (sz : Nat) (co : Nat) (xcache : Int32) (xpending : Int32) (xlow : Int64) (xrange : Int64) (xcode : Int64) (xreadLow : Int64) (xreadRange : Int64) (ri : Nat) (ro : Nat) (rw : Nat) (xasked : Int32) (ria : Nat) (rik : Nat) (rif : Nat → Int32) (is : List Nat) (hri : rOk (nI is.length) rik) (hGri : gIs rif is) (hLri : is.length ≤ 6000) (hoct : oct is) : MetL l y_Coder_firstFourBytes (Cond.code y_Coder_firstFourBytes prog_4_method_16_code 4 (some .long) :: gw) ({ frames := 3, cells := 0, slots := 0, locals := 63 } : Room) (dC, dI) vwCl (kT cI cM cO) [Value.ref co] [(co, Sum.inr (1, [Value.int xcache, Value.int xpending, Value.long xlow, Value.long xrange, Value.long xcode, Value.long xreadLow, Value.long xreadRange, Value.ref ri, Value.ref ro, Value.ref rw, Value.int xasked])), (ri, Sum.inr (0, [Value.int (nI is.length), Value.ref ria])), (ria, Sum.inl (cI, rik, Sum.inl rif))] sz (fun (r : Int64) (u : Unit) => r = lN (frN is 0 4)) (fun (u : Unit) => [(co, Sum.inr (1, [Value.int xcache, Value.int xpending, Value.long xlow, Value.long xrange, Value.long xcode, Value.long xreadLow, Value.long xreadRange, Value.ref ri, Value.ref ro, Value.ref rw, Value.int (nI 4)])), (ri, Sum.inr (0, [Value.int (nI is.length), Value.ref ria])), (ria, Sum.inl (cI, rik, Sum.inl rif))]) 0 0 := by
  refine my_ofL (cc := prog_4_method_16_code) (n := 4) (ret := (some .long)) (by decide) rfl (Nat.le_of_ble_eq_true rfl) ?_
  intro p e s m args below meth c R Q A ls H locs hx hb hr hts hown hlocks hml hnm hR hQ hA hl hP hK hN hD hS
  have hg : ∀ w ∈ gw, w.before args s = true := fun w h => hts w (List.mem_cons_of_mem _ h)
  have hown : s.vm.findClass "RangeCoders$Coder" = some m.cls := hown
  have hl : lv_has ls 4 [(0, Value.ref co)] := hl
  have hlti := rOk_lt hri
  refine lv_aload_n hx hb d_Coder_firstFourBytes_0 rfl (lv_at hl 0 rfl) ?_
  refine lv_iconst (v := 0) hx hb d_Coder_firstFourBytes_1 (by decide) ?_
  refine va_put (D := (dC, dI)) (ci := 1) (v := .int 0) (ty := .int) (C := "RangeCoders$Carries") (T := T_Carries) (N := 11) hx hb hg in_Carries t_Carries o_Carries n_Carries hown hK hP hD hS 0 rfl rfl 10 (by decide) (hg _ k130) (fun _ h9 => h9) rfl (o_Carries 10 (by decide)) rfl rfl (Nat.le_of_ble_eq_true rfl) d_Coder_firstFourBytes_2 (fun H locs hP hD hS => ?_)
  have hPD : my_PD (dC, dI) vwCl A [(co, Sum.inr (1, [Value.int xcache, Value.int xpending, Value.long xlow, Value.long xrange, Value.long xcode, Value.long xreadLow, Value.long xreadRange, Value.ref ri, Value.ref ro, Value.ref rw, Value.int 0])), (ri, Sum.inr (0, [Value.int (nI is.length), Value.ref ria])), (ria, Sum.inl (cI, rik, Sum.inl rif))] H := ⟨hP, hD⟩
  have hP := hPD.1
  have hD := hPD.2
  refine lv_lconst (v := 0) hx hb d_Coder_firstFourBytes_5 (by decide) ?_
  refine lv_lstore_n (lv' := [(1, Value.long 0), (0, Value.ref co)]) hx hb d_Coder_firstFourBytes_6 rfl hl (by decide) rfl (fun ls hl => ?_)
  refine lv_iconst (v := 0) hx hb d_Coder_firstFourBytes_7 (by decide) ?_
  refine lv_istore_n (lv' := [(3, Value.int 0), (1, Value.long 0), (0, Value.ref co)]) hx hb d_Coder_firstFourBytes_8 rfl hl (by decide) rfl (fun ls hl => ?_)
  have J_9 : ∀ (n9_9 : Nat) (j : Nat) (hn9_9 : 4 - j = n9_9) (hj : j ≤ 4) (H : Heap) (locs : List Loc) (ls : Array Slot), va_P (dC, dI) vwCl [(co, Sum.inr (1, [Value.int xcache, Value.int xpending, Value.long xlow, Value.long xrange, Value.long xcode, Value.long xreadLow, Value.long xreadRange, Value.ref ri, Value.ref ro, Value.ref rw, Value.int (nI j)])), (ri, Sum.inr (0, [Value.int (nI is.length), Value.ref ria])), (ria, Sum.inl (cI, rik, Sum.inl rif))] H → va_D A [(co, Sum.inr (1, [Value.int xcache, Value.int xpending, Value.long xlow, Value.long xrange, Value.long xcode, Value.long xreadLow, Value.long xreadRange, Value.ref ri, Value.ref ro, Value.ref rw, Value.int (nI j)])), (ri, Sum.inr (0, [Value.int (nI is.length), Value.ref ria])), (ria, Sum.inl (cI, rik, Sum.inl rif))] → va_S A s.heap H locs → lv_has ls 4 [(3, Value.int (nI j)), (1, Value.long (lN (frN is 0 j))), (0, Value.ref co)] → W p l e R s m args below meth c H locs 0 0 Q (F0 m 9 ls []) := by
    intro n9_9
    induction n9_9 using Nat.strongRecOn with
    | ind n9_9 ih9_9 =>
      intro j hn9_9 hj H locs ls hP hD hS hl
      have hfl := frN_lt hoct 0 j
      have hp4 : 256 ^ j ≤ 256 ^ 4 := Nat.pow_le_pow_right (by decide) hj
      have hbj := hoct j
      refine lv_iload_n hx hb d_Coder_firstFourBytes_9 rfl (lv_at hl 0 rfl) ?_
      refine lv_iconst (v := 4) hx hb d_Coder_firstFourBytes_10 (by decide) ?_
      refine lv_icmp_ge (tgt := 31) hx hb d_Coder_firstFourBytes_11 (by decide) (fun c_1 => ?_) (fun c_1 => ?_)
      · have hj3 : 4 = j := by have := nI_ge' (n := 4) (by omega) (by decide) c_1; omega
        subst hj3
        have hPD : my_PD (dC, dI) vwCl A [(co, Sum.inr (1, [Value.int xcache, Value.int xpending, Value.long xlow, Value.long xrange, Value.long xcode, Value.long xreadLow, Value.long xreadRange, Value.ref ri, Value.ref ro, Value.ref rw, Value.int (nI 4)])), (ri, Sum.inr (0, [Value.int (nI is.length), Value.ref ria])), (ria, Sum.inl (cI, rik, Sum.inl rif))] H := ⟨hP, hD⟩
        have hP := hPD.1
        have hD := hPD.2
        refine lv_lload_n hx hb d_Coder_firstFourBytes_31 rfl (lv_at hl 1 rfl) ?_
        exact my_lret (v := lN (frN is 0 4)) hx hb hr hlocks hQ hK hS (Nat.le_refl _) (Nat.le_refl _) () (rfl) (hP.sub [0, 1, 2] rfl) (hD.sub [0, 1, 2] (by decide +kernel) rfl) d_Coder_firstFourBytes_32
      · have hj2 : j < 4 := nI_lt' (by omega) c_1
        refine lv_lload_n hx hb d_Coder_firstFourBytes_14 rfl (lv_at hl 1 rfl) ?_
        refine lv_bipush (v := 8) hx hb d_Coder_firstFourBytes_15 (by decide) ?_
        refine lv_lshl hx hb d_Coder_firstFourBytes_17 rfl ?_
        refine lv_topl (fun v_2 ev_2 => ?_)
        have z9 : v_2 = lN (frN is 0 j * 256) := by rw [ev_2]; exact L_shl8 _
        subst z9
        refine lv_aload_n hx hb d_Coder_firstFourBytes_18 rfl (lv_at hl 2 rfl) ?_
        refine my_ci (wr := []) (va_runU (As := []) (rest := [Value.long (lN (frN is 0 j * 256))]) ⟨hx, hb, hml, hown, hts⟩ (f_Carries_nextByte l dC dI cI cM cO H.size co xcache xpending xlow xrange xcode xreadLow xreadRange ri ro rw ria rik rif is j (hri) (hGri) (hLri) (by omega)) (va_cwU 0 hts (my_gU k741 k743 k745 k742 k3 k749) rfl rfl rfl rfl (by decide +kernel) ⟨by rw [hR]; exact Nat.le_of_ble_eq_true rfl, by rw [hR]; exact Nat.le_of_ble_eq_true rfl⟩) (my_preV hK hN (hP.sub [0, 1, 2] rfl) (hD.sub [0, 1, 2] (by decide +kernel) rfl) 0 rfl rfl) rfl rfl hl.1 rfl (lv_room (Nat.le_of_ble_eq_true rfl)) d_Coder_firstFourBytes_19 ⟨by rw [hR]; exact Nat.le_of_ble_eq_true rfl, by rw [hR]; exact Nat.le_of_ble_eq_true rfl⟩) hP hD hS hA [0, 1, 2] [] rfl rfl (by decide +kernel) (by decide +kernel) (fun r_19 u9 H locs hw_19 hP hD hS => ?_)
        have hr_19 : r_19 = nI (byA is j) := hw_19
        have hPD : my_PD (dC, dI) vwCl A [(co, Sum.inr (1, [Value.int xcache, Value.int xpending, Value.long xlow, Value.long xrange, Value.long xcode, Value.long xreadLow, Value.long xreadRange, Value.ref ri, Value.ref ro, Value.ref rw, Value.int (nI (j + 1))])), (ri, Sum.inr (0, [Value.int (nI is.length), Value.ref ria])), (ria, Sum.inl (cI, rik, Sum.inl rif))] H := ⟨hP, hD⟩
        have hP := hPD.1
        have hD := hPD.2
        have z9 : r_19 = nI (byA is j) := hr_19
        subst z9
        refine lv_i2l hx hb d_Coder_firstFourBytes_22 rfl ?_
        refine lv_topl (fun v_3 ev_3 => ?_)
        have z9 : v_3 = lN (byA is j) := by rw [ev_3]; exact nI_l (by omega)
        subst z9
        refine lv_lor hx hb d_Coder_firstFourBytes_23 ?_
        refine lv_topl (fun v_4 ev_4 => ?_)
        have z9 : v_4 = lN (frN is 0 (j + 1)) := by rw [ev_4, L_code (by omega) hbj, frN, Nat.zero_add]
        subst z9
        refine lv_lstore_n (lv' := [(1, Value.long (lN (frN is 0 (j + 1)))), (3, Value.int (nI j)), (0, Value.ref co)]) hx hb d_Coder_firstFourBytes_24 rfl hl (by decide) rfl (fun ls hl => ?_)
        obtain ⟨v_5, ev_5⟩ : ∃ y : Int32, y = (nI j) + (1) := ⟨_, rfl⟩
        refine lv_iinc (v := v_5) (lv' := [(3, Value.int v_5), (1, Value.long (lN (frN is 0 (j + 1)))), (0, Value.ref co)]) hx hb d_Coder_firstFourBytes_25 hl (k := 1) rfl (by rw [ev_5]; rfl) (by decide) rfl (fun ls hl => ?_)
        have z9 : v_5 = nI (j + 1) := by rw [ev_5]; exact nI_1 _
        subst z9
        refine lv_goto (tgt := 9) hx hb d_Coder_firstFourBytes_28 (by decide) ?_
        exact ih9_9 _ (by first | omega | (omega)) (j + 1) rfl (by omega) H locs ls (hP.sub [0, 1, 2] rfl) (hD.sub [0, 1, 2] (by decide +kernel) rfl) hS (lv_sub hl [0, 1, 2] rfl)
  exact J_9 _ (0 : Nat) rfl (by decide) H locs ls (hP.sub [0, 1, 2] rfl) (hD.sub [0, 1, 2] (by decide +kernel) rfl) hS (lv_sub hl [0, 1, 2] rfl)
set_option maxHeartbeats 2000000 in
set_option maxRecDepth 100000 in
theorem f_NoCarries_nextByte (l : Launch) (dC : Nat → ClassId) (dI : Nat → Nat → Nat) (cI cM cO : ClassId) (sz : Nat) (co : Nat) (xlow : Int64) (xrange : Int64) (xcode : Int64) (xreadLow : Int64) (xreadRange : Int64) (ri : Nat) (ro : Nat) (rw : Nat) (ria : Nat) (rik : Nat) (rif : Nat → Int32) (is : List Nat) (q : Nat) (hri : rOk (nI is.length) rik) (hGri : gIs rif is) (hLri : is.length ≤ 6000) (hq : q < 1000000000) : MetI l y_Coder_nextByte (Cond.code y_Coder_nextByte prog_4_method_15_code 2 (some .int) :: gw) ({ frames := 2, cells := 0, slots := 0, locals := 42 } : Room) (dC, dI) vwCl (kT cI cM cO) [Value.ref co] [(co, Sum.inr (2, [Value.long xlow, Value.long xrange, Value.long xcode, Value.long xreadLow, Value.long xreadRange, Value.ref ri, Value.ref ro, Value.ref rw, Value.int (nI q)])), (ri, Sum.inr (0, [Value.int (nI is.length), Value.ref ria])), (ria, Sum.inl (cI, rik, Sum.inl rif))] sz (fun (r : Int32) (u : Unit) => r = nI (byA is q)) (fun (u : Unit) => [(co, Sum.inr (2, [Value.long xlow, Value.long xrange, Value.long xcode, Value.long xreadLow, Value.long xreadRange, Value.ref ri, Value.ref ro, Value.ref rw, Value.int (nI (q + 1))])), (ri, Sum.inr (0, [Value.int (nI is.length), Value.ref ria])), (ria, Sum.inl (cI, rik, Sum.inl rif))]) 0 0 := by
  refine my_ofI (cc := prog_4_method_15_code) (n := 2) (ret := (some .int)) (by decide) rfl (Nat.le_of_ble_eq_true rfl) ?_
  intro p e s m args below meth c R Q A ls H locs hx hb hr hts hown hlocks hml hnm hR hQ hA hl hP hK hN hD hS
  have hg : ∀ w ∈ gw, w.before args s = true := fun w h => hts w (List.mem_cons_of_mem _ h)
  have hown : s.vm.findClass "RangeCoders$Coder" = some m.cls := hown
  have hl : lv_has ls 2 [(0, Value.ref co)] := hl
  have hlti := rOk_lt hri
  refine lv_aload_n hx hb d_Coder_nextByte_0 rfl (lv_at hl 0 rfl) ?_
  refine va_get (D := (dC, dI)) (ci := 2) (v := .ref ri) (C := "RangeCoders$NoCarries") (T := T_NoCarries) (N := 9) hx hb hg in_NoCarries hown hK hP 0 rfl rfl 5 (by decide) (hg _ k101) (fun _ h9 => h9) rfl d_Coder_nextByte_1 ?_
  refine lv_aload_n hx hb d_Coder_nextByte_4 rfl (lv_at hl 0 rfl) ?_
  refine va_get (D := (dC, dI)) (ci := 2) (v := .int (nI q)) (C := "RangeCoders$NoCarries") (T := T_NoCarries) (N := 9) hx hb hg in_NoCarries hown hK hP 0 rfl rfl 8 (by decide) (hg _ k130) (fun _ h9 => h9) rfl d_Coder_nextByte_5 ?_
  refine my_ci (wr := [(co, Sum.inr (2, [Value.long xlow, Value.long xrange, Value.long xcode, Value.long xreadLow, Value.long xreadRange, Value.ref ri, Value.ref ro, Value.ref rw, Value.int (nI q)]))]) (va_runV (As := [Value.int (nI q)]) (rest := []) ⟨hx, hb, hml, hown, hts⟩ (f_Row_has l dC dI cI cM cO H.size ri ria rik rif is (nI q) (hri) (hGri) (by omega)) (cwV 1 hts (my_gV k750 k663 k664 k6 k665) rfl rfl rfl cu_Row_has_1 ⟨by rw [hR]; exact Nat.le_of_ble_eq_true rfl, by rw [hR]; exact Nat.le_of_ble_eq_true rfl⟩) (my_preV hK hN (hP.sub [1, 2] rfl) (hD.sub [1, 2] (by decide +kernel) rfl) 0 rfl rfl) rfl rfl hl.1 rfl (lv_room (Nat.le_of_ble_eq_true rfl)) d_Coder_nextByte_8 ⟨by rw [hR]; exact Nat.le_of_ble_eq_true rfl, by rw [hR]; exact Nat.le_of_ble_eq_true rfl⟩) hP hD hS hA [1, 2] [0] rfl rfl (by decide +kernel) (by decide +kernel) (fun r_8 u9 H locs hw_8 hP hD hS => ?_)
  obtain ⟨hr_8, hv_8⟩ : (r_8 = if 0 ≤ (nI q) ∧ (nI q) < nI is.length then 1 else 0) ∧ (r_8 ≠ 0 → vp_in (nI q) rik) := hw_8
  have hPD : my_PD (dC, dI) vwCl A [(co, Sum.inr (2, [Value.long xlow, Value.long xrange, Value.long xcode, Value.long xreadLow, Value.long xreadRange, Value.ref ri, Value.ref ro, Value.ref rw, Value.int (nI q)])), (ri, Sum.inr (0, [Value.int (nI is.length), Value.ref ria])), (ria, Sum.inl (cI, rik, Sum.inl rif))] H := ⟨hP, hD⟩
  have hP := hPD.1
  have hD := hPD.2
  refine lv_if_eq (tgt := 28) hx hb d_Coder_nextByte_11 (by decide) (fun c_1 => ?_) (fun c_1 => ?_)
  · refine lv_iconst (v := 0) hx hb d_Coder_nextByte_28 (by decide) ?_
    refine W.eq (g2 := F0 m 29 ls [Value.int (nI (byA is q))]) (by rw [nb_0 (by omega) (one_eq hr_8 c_1)]; rfl) ?_
    refine lv_istore_n (lv' := [(1, Value.int (nI (byA is q))), (0, Value.ref co)]) hx hb d_Coder_nextByte_29 rfl hl (by decide) rfl (fun ls hl => ?_)
    refine lv_aload_n hx hb d_Coder_nextByte_30 rfl (lv_at hl 1 rfl) ?_
    refine lv_dup hx hb d_Coder_nextByte_31 rfl ?_
    refine va_get (D := (dC, dI)) (ci := 2) (v := .int (nI q)) (C := "RangeCoders$NoCarries") (T := T_NoCarries) (N := 9) hx hb hg in_NoCarries hown hK hP 0 rfl rfl 8 (by decide) (hg _ k130) (fun _ h9 => h9) rfl d_Coder_nextByte_32 ?_
    refine lv_iconst (v := 1) hx hb d_Coder_nextByte_35 (by decide) ?_
    refine lv_iadd hx hb d_Coder_nextByte_36 ?_
    refine lv_topi (fun v_2 ev_2 => ?_)
    have z9 : v_2 = nI (q + 1) := by rw [ev_2]; exact nI_1 _
    subst z9
    refine va_put (D := (dC, dI)) (ci := 2) (v := .int (nI (q + 1))) (ty := .int) (C := "RangeCoders$NoCarries") (T := T_NoCarries) (N := 9) hx hb hg in_NoCarries t_NoCarries o_NoCarries n_NoCarries hown hK hP hD hS 0 rfl rfl 8 (by decide) (hg _ k130) (fun _ h9 => h9) rfl (o_NoCarries 8 (by decide)) rfl rfl (Nat.le_of_ble_eq_true rfl) d_Coder_nextByte_37 (fun H locs hP hD hS => ?_)
    have hPD : my_PD (dC, dI) vwCl A [(co, Sum.inr (2, [Value.long xlow, Value.long xrange, Value.long xcode, Value.long xreadLow, Value.long xreadRange, Value.ref ri, Value.ref ro, Value.ref rw, Value.int (nI (q + 1))])), (ri, Sum.inr (0, [Value.int (nI is.length), Value.ref ria])), (ria, Sum.inl (cI, rik, Sum.inl rif))] H := ⟨hP, hD⟩
    have hP := hPD.1
    have hD := hPD.2
    refine lv_iload_n hx hb d_Coder_nextByte_40 rfl (lv_at hl 0 rfl) ?_
    exact my_iret (v := nI (byA is q)) hx hb hr (rfl) hlocks hQ hK hS (Nat.le_refl _) (Nat.le_refl _) () (rfl) (hP.sub [0, 1, 2] rfl) (hD.sub [0, 1, 2] (by decide +kernel) rfl) d_Coder_nextByte_41
  · refine lv_aload_n hx hb d_Coder_nextByte_14 rfl (lv_at hl 0 rfl) ?_
    refine va_get (D := (dC, dI)) (ci := 2) (v := .ref ri) (C := "RangeCoders$NoCarries") (T := T_NoCarries) (N := 9) hx hb hg in_NoCarries hown hK hP 0 rfl rfl 5 (by decide) (hg _ k101) (fun _ h9 => h9) rfl d_Coder_nextByte_15 ?_
    refine lv_aload_n hx hb d_Coder_nextByte_18 rfl (lv_at hl 0 rfl) ?_
    refine va_get (D := (dC, dI)) (ci := 2) (v := .int (nI q)) (C := "RangeCoders$NoCarries") (T := T_NoCarries) (N := 9) hx hb hg in_NoCarries hown hK hP 0 rfl rfl 8 (by decide) (hg _ k130) (fun _ h9 => h9) rfl d_Coder_nextByte_19 ?_
    refine my_ci (wr := [(co, Sum.inr (2, [Value.long xlow, Value.long xrange, Value.long xcode, Value.long xreadLow, Value.long xreadRange, Value.ref ri, Value.ref ro, Value.ref rw, Value.int (nI q)]))]) (va_runV (As := [Value.int (nI q)]) (rest := []) ⟨hx, hb, hml, hown, hts⟩ (f_Row_at l dC dI cI cM cO H.size ri ria rik rif is (nI q) (hri) (hGri) (by omega)) (cwV 1 hts (my_gV k751 k659 k660 k6 k661) rfl rfl rfl cu_Row_at_1 ⟨by rw [hR]; exact Nat.le_of_ble_eq_true rfl, by rw [hR]; exact Nat.le_of_ble_eq_true rfl⟩) (my_preV hK hN (hP.sub [1, 2] rfl) (hD.sub [1, 2] (by decide +kernel) rfl) 0 rfl rfl) rfl rfl hl.1 rfl (lv_room (Nat.le_of_ble_eq_true rfl)) d_Coder_nextByte_22 ⟨by rw [hR]; exact Nat.le_of_ble_eq_true rfl, by rw [hR]; exact Nat.le_of_ble_eq_true rfl⟩) hP hD hS hA [1, 2] [0] rfl rfl (by decide +kernel) (by decide +kernel) (fun r_22 u9 H locs hw_22 hP hD hS => ?_)
    have hr_22 : r_22 = rAt is (nI q) := hw_22
    have hPD : my_PD (dC, dI) vwCl A [(co, Sum.inr (2, [Value.long xlow, Value.long xrange, Value.long xcode, Value.long xreadLow, Value.long xreadRange, Value.ref ri, Value.ref ro, Value.ref rw, Value.int (nI q)])), (ri, Sum.inr (0, [Value.int (nI is.length), Value.ref ria])), (ria, Sum.inl (cI, rik, Sum.inl rif))] H := ⟨hP, hD⟩
    have hP := hPD.1
    have hD := hPD.2
    refine lv_goto (tgt := 29) hx hb d_Coder_nextByte_25 (by decide) ?_
    have z9 : r_22 = nI (byA is q) := by rw [hr_22]; exact rAt_nI (nb_lt (by omega) (by omega) (one_ne hr_8 c_1)) (by omega)
    subst z9
    refine lv_istore_n (lv' := [(1, Value.int (nI (byA is q))), (0, Value.ref co)]) hx hb d_Coder_nextByte_29 rfl hl (by decide) rfl (fun ls hl => ?_)
    refine lv_aload_n hx hb d_Coder_nextByte_30 rfl (lv_at hl 1 rfl) ?_
    refine lv_dup hx hb d_Coder_nextByte_31 rfl ?_
    refine va_get (D := (dC, dI)) (ci := 2) (v := .int (nI q)) (C := "RangeCoders$NoCarries") (T := T_NoCarries) (N := 9) hx hb hg in_NoCarries hown hK hP 0 rfl rfl 8 (by decide) (hg _ k130) (fun _ h9 => h9) rfl d_Coder_nextByte_32 ?_
    refine lv_iconst (v := 1) hx hb d_Coder_nextByte_35 (by decide) ?_
    refine lv_iadd hx hb d_Coder_nextByte_36 ?_
    refine lv_topi (fun v_3 ev_3 => ?_)
    have z9 : v_3 = nI (q + 1) := by rw [ev_3]; exact nI_1 _
    subst z9
    refine va_put (D := (dC, dI)) (ci := 2) (v := .int (nI (q + 1))) (ty := .int) (C := "RangeCoders$NoCarries") (T := T_NoCarries) (N := 9) hx hb hg in_NoCarries t_NoCarries o_NoCarries n_NoCarries hown hK hP hD hS 0 rfl rfl 8 (by decide) (hg _ k130) (fun _ h9 => h9) rfl (o_NoCarries 8 (by decide)) rfl rfl (Nat.le_of_ble_eq_true rfl) d_Coder_nextByte_37 (fun H locs hP hD hS => ?_)
    have hPD : my_PD (dC, dI) vwCl A [(co, Sum.inr (2, [Value.long xlow, Value.long xrange, Value.long xcode, Value.long xreadLow, Value.long xreadRange, Value.ref ri, Value.ref ro, Value.ref rw, Value.int (nI (q + 1))])), (ri, Sum.inr (0, [Value.int (nI is.length), Value.ref ria])), (ria, Sum.inl (cI, rik, Sum.inl rif))] H := ⟨hP, hD⟩
    have hP := hPD.1
    have hD := hPD.2
    refine lv_iload_n hx hb d_Coder_nextByte_40 rfl (lv_at hl 0 rfl) ?_
    exact my_iret (v := (nI (byA is q))) hx hb hr (rfl) hlocks hQ hK hS (Nat.le_refl _) (Nat.le_refl _) () (rfl) (hP.sub [0, 1, 2] rfl) (hD.sub [0, 1, 2] (by decide +kernel) rfl) d_Coder_nextByte_41
set_option maxHeartbeats 2000000 in
set_option maxRecDepth 100000 in
theorem f_NoCarries_four (l : Launch) (dC : Nat → ClassId) (dI : Nat → Nat → Nat) (cI cM cO : ClassId) (sz : Nat) (co : Nat) (xlow : Int64) (xrange : Int64) (xcode : Int64) (xreadLow : Int64) (xreadRange : Int64) (ri : Nat) (ro : Nat) (rw : Nat) (xasked : Int32) (ria : Nat) (rik : Nat) (rif : Nat → Int32) (is : List Nat) (hri : rOk (nI is.length) rik) (hGri : gIs rif is) (hLri : is.length ≤ 6000) (hoct : oct is) : MetL l y_Coder_firstFourBytes (Cond.code y_Coder_firstFourBytes prog_4_method_16_code 4 (some .long) :: gw) ({ frames := 3, cells := 0, slots := 0, locals := 63 } : Room) (dC, dI) vwCl (kT cI cM cO) [Value.ref co] [(co, Sum.inr (2, [Value.long xlow, Value.long xrange, Value.long xcode, Value.long xreadLow, Value.long xreadRange, Value.ref ri, Value.ref ro, Value.ref rw, Value.int xasked])), (ri, Sum.inr (0, [Value.int (nI is.length), Value.ref ria])), (ria, Sum.inl (cI, rik, Sum.inl rif))] sz (fun (r : Int64) (u : Unit) => r = lN (frN is 0 4)) (fun (u : Unit) => [(co, Sum.inr (2, [Value.long xlow, Value.long xrange, Value.long xcode, Value.long xreadLow, Value.long xreadRange, Value.ref ri, Value.ref ro, Value.ref rw, Value.int (nI 4)])), (ri, Sum.inr (0, [Value.int (nI is.length), Value.ref ria])), (ria, Sum.inl (cI, rik, Sum.inl rif))]) 0 0 := by
  refine my_ofL (cc := prog_4_method_16_code) (n := 4) (ret := (some .long)) (by decide) rfl (Nat.le_of_ble_eq_true rfl) ?_
  intro p e s m args below meth c R Q A ls H locs hx hb hr hts hown hlocks hml hnm hR hQ hA hl hP hK hN hD hS
  have hg : ∀ w ∈ gw, w.before args s = true := fun w h => hts w (List.mem_cons_of_mem _ h)
  have hown : s.vm.findClass "RangeCoders$Coder" = some m.cls := hown
  have hl : lv_has ls 4 [(0, Value.ref co)] := hl
  have hlti := rOk_lt hri
  refine lv_aload_n hx hb d_Coder_firstFourBytes_0 rfl (lv_at hl 0 rfl) ?_
  refine lv_iconst (v := 0) hx hb d_Coder_firstFourBytes_1 (by decide) ?_
  refine va_put (D := (dC, dI)) (ci := 2) (v := .int 0) (ty := .int) (C := "RangeCoders$NoCarries") (T := T_NoCarries) (N := 9) hx hb hg in_NoCarries t_NoCarries o_NoCarries n_NoCarries hown hK hP hD hS 0 rfl rfl 8 (by decide) (hg _ k130) (fun _ h9 => h9) rfl (o_NoCarries 8 (by decide)) rfl rfl (Nat.le_of_ble_eq_true rfl) d_Coder_firstFourBytes_2 (fun H locs hP hD hS => ?_)
  have hPD : my_PD (dC, dI) vwCl A [(co, Sum.inr (2, [Value.long xlow, Value.long xrange, Value.long xcode, Value.long xreadLow, Value.long xreadRange, Value.ref ri, Value.ref ro, Value.ref rw, Value.int 0])), (ri, Sum.inr (0, [Value.int (nI is.length), Value.ref ria])), (ria, Sum.inl (cI, rik, Sum.inl rif))] H := ⟨hP, hD⟩
  have hP := hPD.1
  have hD := hPD.2
  refine lv_lconst (v := 0) hx hb d_Coder_firstFourBytes_5 (by decide) ?_
  refine lv_lstore_n (lv' := [(1, Value.long 0), (0, Value.ref co)]) hx hb d_Coder_firstFourBytes_6 rfl hl (by decide) rfl (fun ls hl => ?_)
  refine lv_iconst (v := 0) hx hb d_Coder_firstFourBytes_7 (by decide) ?_
  refine lv_istore_n (lv' := [(3, Value.int 0), (1, Value.long 0), (0, Value.ref co)]) hx hb d_Coder_firstFourBytes_8 rfl hl (by decide) rfl (fun ls hl => ?_)
  have J_9 : ∀ (n9_9 : Nat) (j : Nat) (hn9_9 : 4 - j = n9_9) (hj : j ≤ 4) (H : Heap) (locs : List Loc) (ls : Array Slot), va_P (dC, dI) vwCl [(co, Sum.inr (2, [Value.long xlow, Value.long xrange, Value.long xcode, Value.long xreadLow, Value.long xreadRange, Value.ref ri, Value.ref ro, Value.ref rw, Value.int (nI j)])), (ri, Sum.inr (0, [Value.int (nI is.length), Value.ref ria])), (ria, Sum.inl (cI, rik, Sum.inl rif))] H → va_D A [(co, Sum.inr (2, [Value.long xlow, Value.long xrange, Value.long xcode, Value.long xreadLow, Value.long xreadRange, Value.ref ri, Value.ref ro, Value.ref rw, Value.int (nI j)])), (ri, Sum.inr (0, [Value.int (nI is.length), Value.ref ria])), (ria, Sum.inl (cI, rik, Sum.inl rif))] → va_S A s.heap H locs → lv_has ls 4 [(3, Value.int (nI j)), (1, Value.long (lN (frN is 0 j))), (0, Value.ref co)] → W p l e R s m args below meth c H locs 0 0 Q (F0 m 9 ls []) := by
    intro n9_9
    induction n9_9 using Nat.strongRecOn with
    | ind n9_9 ih9_9 =>
      intro j hn9_9 hj H locs ls hP hD hS hl
      have hfl := frN_lt hoct 0 j
      have hp4 : 256 ^ j ≤ 256 ^ 4 := Nat.pow_le_pow_right (by decide) hj
      have hbj := hoct j
      refine lv_iload_n hx hb d_Coder_firstFourBytes_9 rfl (lv_at hl 0 rfl) ?_
      refine lv_iconst (v := 4) hx hb d_Coder_firstFourBytes_10 (by decide) ?_
      refine lv_icmp_ge (tgt := 31) hx hb d_Coder_firstFourBytes_11 (by decide) (fun c_1 => ?_) (fun c_1 => ?_)
      · have hj3 : 4 = j := by have := nI_ge' (n := 4) (by omega) (by decide) c_1; omega
        subst hj3
        have hPD : my_PD (dC, dI) vwCl A [(co, Sum.inr (2, [Value.long xlow, Value.long xrange, Value.long xcode, Value.long xreadLow, Value.long xreadRange, Value.ref ri, Value.ref ro, Value.ref rw, Value.int (nI 4)])), (ri, Sum.inr (0, [Value.int (nI is.length), Value.ref ria])), (ria, Sum.inl (cI, rik, Sum.inl rif))] H := ⟨hP, hD⟩
        have hP := hPD.1
        have hD := hPD.2
        refine lv_lload_n hx hb d_Coder_firstFourBytes_31 rfl (lv_at hl 1 rfl) ?_
        exact my_lret (v := lN (frN is 0 4)) hx hb hr hlocks hQ hK hS (Nat.le_refl _) (Nat.le_refl _) () (rfl) (hP.sub [0, 1, 2] rfl) (hD.sub [0, 1, 2] (by decide +kernel) rfl) d_Coder_firstFourBytes_32
      · have hj2 : j < 4 := nI_lt' (by omega) c_1
        refine lv_lload_n hx hb d_Coder_firstFourBytes_14 rfl (lv_at hl 1 rfl) ?_
        refine lv_bipush (v := 8) hx hb d_Coder_firstFourBytes_15 (by decide) ?_
        refine lv_lshl hx hb d_Coder_firstFourBytes_17 rfl ?_
        refine lv_topl (fun v_2 ev_2 => ?_)
        have z9 : v_2 = lN (frN is 0 j * 256) := by rw [ev_2]; exact L_shl8 _
        subst z9
        refine lv_aload_n hx hb d_Coder_firstFourBytes_18 rfl (lv_at hl 2 rfl) ?_
        refine my_ci (wr := []) (va_runU (As := []) (rest := [Value.long (lN (frN is 0 j * 256))]) ⟨hx, hb, hml, hown, hts⟩ (f_NoCarries_nextByte l dC dI cI cM cO H.size co xlow xrange xcode xreadLow xreadRange ri ro rw ria rik rif is j (hri) (hGri) (hLri) (by omega)) (va_cwU 0 hts (my_gU k741 k743 k746 k742 k3 k749) rfl rfl rfl rfl (by decide +kernel) ⟨by rw [hR]; exact Nat.le_of_ble_eq_true rfl, by rw [hR]; exact Nat.le_of_ble_eq_true rfl⟩) (my_preV hK hN (hP.sub [0, 1, 2] rfl) (hD.sub [0, 1, 2] (by decide +kernel) rfl) 0 rfl rfl) rfl rfl hl.1 rfl (lv_room (Nat.le_of_ble_eq_true rfl)) d_Coder_firstFourBytes_19 ⟨by rw [hR]; exact Nat.le_of_ble_eq_true rfl, by rw [hR]; exact Nat.le_of_ble_eq_true rfl⟩) hP hD hS hA [0, 1, 2] [] rfl rfl (by decide +kernel) (by decide +kernel) (fun r_19 u9 H locs hw_19 hP hD hS => ?_)
        have hr_19 : r_19 = nI (byA is j) := hw_19
        have hPD : my_PD (dC, dI) vwCl A [(co, Sum.inr (2, [Value.long xlow, Value.long xrange, Value.long xcode, Value.long xreadLow, Value.long xreadRange, Value.ref ri, Value.ref ro, Value.ref rw, Value.int (nI (j + 1))])), (ri, Sum.inr (0, [Value.int (nI is.length), Value.ref ria])), (ria, Sum.inl (cI, rik, Sum.inl rif))] H := ⟨hP, hD⟩
        have hP := hPD.1
        have hD := hPD.2
        have z9 : r_19 = nI (byA is j) := hr_19
        subst z9
        refine lv_i2l hx hb d_Coder_firstFourBytes_22 rfl ?_
        refine lv_topl (fun v_3 ev_3 => ?_)
        have z9 : v_3 = lN (byA is j) := by rw [ev_3]; exact nI_l (by omega)
        subst z9
        refine lv_lor hx hb d_Coder_firstFourBytes_23 ?_
        refine lv_topl (fun v_4 ev_4 => ?_)
        have z9 : v_4 = lN (frN is 0 (j + 1)) := by rw [ev_4, L_code (by omega) hbj, frN, Nat.zero_add]
        subst z9
        refine lv_lstore_n (lv' := [(1, Value.long (lN (frN is 0 (j + 1)))), (3, Value.int (nI j)), (0, Value.ref co)]) hx hb d_Coder_firstFourBytes_24 rfl hl (by decide) rfl (fun ls hl => ?_)
        obtain ⟨v_5, ev_5⟩ : ∃ y : Int32, y = (nI j) + (1) := ⟨_, rfl⟩
        refine lv_iinc (v := v_5) (lv' := [(3, Value.int v_5), (1, Value.long (lN (frN is 0 (j + 1)))), (0, Value.ref co)]) hx hb d_Coder_firstFourBytes_25 hl (k := 1) rfl (by rw [ev_5]; rfl) (by decide) rfl (fun ls hl => ?_)
        have z9 : v_5 = nI (j + 1) := by rw [ev_5]; exact nI_1 _
        subst z9
        refine lv_goto (tgt := 9) hx hb d_Coder_firstFourBytes_28 (by decide) ?_
        exact ih9_9 _ (by first | omega | (omega)) (j + 1) rfl (by omega) H locs ls (hP.sub [0, 1, 2] rfl) (hD.sub [0, 1, 2] (by decide +kernel) rfl) hS (lv_sub hl [0, 1, 2] rfl)
  exact J_9 _ (0 : Nat) rfl (by decide) H locs ls (hP.sub [0, 1, 2] rfl) (hD.sub [0, 1, 2] (by decide +kernel) rfl) hS (lv_sub hl [0, 1, 2] rfl)
set_option maxHeartbeats 2000000 in
set_option maxRecDepth 100000 in
theorem f_Bits_nextByte (l : Launch) (dC : Nat → ClassId) (dI : Nat → Nat → Nat) (cI cM cO : ClassId) (sz : Nat) (co : Nat) (xshift : Int32) (xkeptCode : Int64) (xkeptRange : Int64) (xkeptAsked : Int32) (xcache : Int32) (xpending : Int32) (xlow : Int64) (xrange : Int64) (xcode : Int64) (xreadLow : Int64) (xreadRange : Int64) (ri : Nat) (ro : Nat) (rw : Nat) (ria : Nat) (rik : Nat) (rif : Nat → Int32) (is : List Nat) (q : Nat) (hri : rOk (nI is.length) rik) (hGri : gIs rif is) (hLri : is.length ≤ 6000) (hq : q < 1000000000) : MetI l y_Coder_nextByte (Cond.code y_Coder_nextByte prog_4_method_15_code 2 (some .int) :: gw) ({ frames := 2, cells := 0, slots := 0, locals := 42 } : Room) (dC, dI) vwCl (kT cI cM cO) [Value.ref co] [(co, Sum.inr (3, [Value.int xshift, Value.long xkeptCode, Value.long xkeptRange, Value.int xkeptAsked, Value.int xcache, Value.int xpending, Value.long xlow, Value.long xrange, Value.long xcode, Value.long xreadLow, Value.long xreadRange, Value.ref ri, Value.ref ro, Value.ref rw, Value.int (nI q)])), (ri, Sum.inr (0, [Value.int (nI is.length), Value.ref ria])), (ria, Sum.inl (cI, rik, Sum.inl rif))] sz (fun (r : Int32) (u : Unit) => r = nI (byA is q)) (fun (u : Unit) => [(co, Sum.inr (3, [Value.int xshift, Value.long xkeptCode, Value.long xkeptRange, Value.int xkeptAsked, Value.int xcache, Value.int xpending, Value.long xlow, Value.long xrange, Value.long xcode, Value.long xreadLow, Value.long xreadRange, Value.ref ri, Value.ref ro, Value.ref rw, Value.int (nI (q + 1))])), (ri, Sum.inr (0, [Value.int (nI is.length), Value.ref ria])), (ria, Sum.inl (cI, rik, Sum.inl rif))]) 0 0 := by
  refine my_ofI (cc := prog_4_method_15_code) (n := 2) (ret := (some .int)) (by decide) rfl (Nat.le_of_ble_eq_true rfl) ?_
  intro p e s m args below meth c R Q A ls H locs hx hb hr hts hown hlocks hml hnm hR hQ hA hl hP hK hN hD hS
  have hg : ∀ w ∈ gw, w.before args s = true := fun w h => hts w (List.mem_cons_of_mem _ h)
  have hown : s.vm.findClass "RangeCoders$Coder" = some m.cls := hown
  have hl : lv_has ls 2 [(0, Value.ref co)] := hl
  have hlti := rOk_lt hri
  refine lv_aload_n hx hb d_Coder_nextByte_0 rfl (lv_at hl 0 rfl) ?_
  refine va_get (D := (dC, dI)) (ci := 3) (v := .ref ri) (C := "RangeCoders$Bits") (T := T_Bits) (N := 15) hx hb hg in_Bits hown hK hP 0 rfl rfl 11 (by decide) (hg _ k101) (fun _ h9 => h9) rfl d_Coder_nextByte_1 ?_
  refine lv_aload_n hx hb d_Coder_nextByte_4 rfl (lv_at hl 0 rfl) ?_
  refine va_get (D := (dC, dI)) (ci := 3) (v := .int (nI q)) (C := "RangeCoders$Bits") (T := T_Bits) (N := 15) hx hb hg in_Bits hown hK hP 0 rfl rfl 14 (by decide) (hg _ k130) (fun _ h9 => h9) rfl d_Coder_nextByte_5 ?_
  refine my_ci (wr := [(co, Sum.inr (3, [Value.int xshift, Value.long xkeptCode, Value.long xkeptRange, Value.int xkeptAsked, Value.int xcache, Value.int xpending, Value.long xlow, Value.long xrange, Value.long xcode, Value.long xreadLow, Value.long xreadRange, Value.ref ri, Value.ref ro, Value.ref rw, Value.int (nI q)]))]) (va_runV (As := [Value.int (nI q)]) (rest := []) ⟨hx, hb, hml, hown, hts⟩ (f_Row_has l dC dI cI cM cO H.size ri ria rik rif is (nI q) (hri) (hGri) (by omega)) (cwV 1 hts (my_gV k750 k663 k664 k6 k665) rfl rfl rfl cu_Row_has_1 ⟨by rw [hR]; exact Nat.le_of_ble_eq_true rfl, by rw [hR]; exact Nat.le_of_ble_eq_true rfl⟩) (my_preV hK hN (hP.sub [1, 2] rfl) (hD.sub [1, 2] (by decide +kernel) rfl) 0 rfl rfl) rfl rfl hl.1 rfl (lv_room (Nat.le_of_ble_eq_true rfl)) d_Coder_nextByte_8 ⟨by rw [hR]; exact Nat.le_of_ble_eq_true rfl, by rw [hR]; exact Nat.le_of_ble_eq_true rfl⟩) hP hD hS hA [1, 2] [0] rfl rfl (by decide +kernel) (by decide +kernel) (fun r_8 u9 H locs hw_8 hP hD hS => ?_)
  obtain ⟨hr_8, hv_8⟩ : (r_8 = if 0 ≤ (nI q) ∧ (nI q) < nI is.length then 1 else 0) ∧ (r_8 ≠ 0 → vp_in (nI q) rik) := hw_8
  have hPD : my_PD (dC, dI) vwCl A [(co, Sum.inr (3, [Value.int xshift, Value.long xkeptCode, Value.long xkeptRange, Value.int xkeptAsked, Value.int xcache, Value.int xpending, Value.long xlow, Value.long xrange, Value.long xcode, Value.long xreadLow, Value.long xreadRange, Value.ref ri, Value.ref ro, Value.ref rw, Value.int (nI q)])), (ri, Sum.inr (0, [Value.int (nI is.length), Value.ref ria])), (ria, Sum.inl (cI, rik, Sum.inl rif))] H := ⟨hP, hD⟩
  have hP := hPD.1
  have hD := hPD.2
  refine lv_if_eq (tgt := 28) hx hb d_Coder_nextByte_11 (by decide) (fun c_1 => ?_) (fun c_1 => ?_)
  · refine lv_iconst (v := 0) hx hb d_Coder_nextByte_28 (by decide) ?_
    refine W.eq (g2 := F0 m 29 ls [Value.int (nI (byA is q))]) (by rw [nb_0 (by omega) (one_eq hr_8 c_1)]; rfl) ?_
    refine lv_istore_n (lv' := [(1, Value.int (nI (byA is q))), (0, Value.ref co)]) hx hb d_Coder_nextByte_29 rfl hl (by decide) rfl (fun ls hl => ?_)
    refine lv_aload_n hx hb d_Coder_nextByte_30 rfl (lv_at hl 1 rfl) ?_
    refine lv_dup hx hb d_Coder_nextByte_31 rfl ?_
    refine va_get (D := (dC, dI)) (ci := 3) (v := .int (nI q)) (C := "RangeCoders$Bits") (T := T_Bits) (N := 15) hx hb hg in_Bits hown hK hP 0 rfl rfl 14 (by decide) (hg _ k130) (fun _ h9 => h9) rfl d_Coder_nextByte_32 ?_
    refine lv_iconst (v := 1) hx hb d_Coder_nextByte_35 (by decide) ?_
    refine lv_iadd hx hb d_Coder_nextByte_36 ?_
    refine lv_topi (fun v_2 ev_2 => ?_)
    have z9 : v_2 = nI (q + 1) := by rw [ev_2]; exact nI_1 _
    subst z9
    refine va_put (D := (dC, dI)) (ci := 3) (v := .int (nI (q + 1))) (ty := .int) (C := "RangeCoders$Bits") (T := T_Bits) (N := 15) hx hb hg in_Bits t_Bits o_Bits n_Bits hown hK hP hD hS 0 rfl rfl 14 (by decide) (hg _ k130) (fun _ h9 => h9) rfl (o_Bits 14 (by decide)) rfl rfl (Nat.le_of_ble_eq_true rfl) d_Coder_nextByte_37 (fun H locs hP hD hS => ?_)
    have hPD : my_PD (dC, dI) vwCl A [(co, Sum.inr (3, [Value.int xshift, Value.long xkeptCode, Value.long xkeptRange, Value.int xkeptAsked, Value.int xcache, Value.int xpending, Value.long xlow, Value.long xrange, Value.long xcode, Value.long xreadLow, Value.long xreadRange, Value.ref ri, Value.ref ro, Value.ref rw, Value.int (nI (q + 1))])), (ri, Sum.inr (0, [Value.int (nI is.length), Value.ref ria])), (ria, Sum.inl (cI, rik, Sum.inl rif))] H := ⟨hP, hD⟩
    have hP := hPD.1
    have hD := hPD.2
    refine lv_iload_n hx hb d_Coder_nextByte_40 rfl (lv_at hl 0 rfl) ?_
    exact my_iret (v := nI (byA is q)) hx hb hr (rfl) hlocks hQ hK hS (Nat.le_refl _) (Nat.le_refl _) () (rfl) (hP.sub [0, 1, 2] rfl) (hD.sub [0, 1, 2] (by decide +kernel) rfl) d_Coder_nextByte_41
  · refine lv_aload_n hx hb d_Coder_nextByte_14 rfl (lv_at hl 0 rfl) ?_
    refine va_get (D := (dC, dI)) (ci := 3) (v := .ref ri) (C := "RangeCoders$Bits") (T := T_Bits) (N := 15) hx hb hg in_Bits hown hK hP 0 rfl rfl 11 (by decide) (hg _ k101) (fun _ h9 => h9) rfl d_Coder_nextByte_15 ?_
    refine lv_aload_n hx hb d_Coder_nextByte_18 rfl (lv_at hl 0 rfl) ?_
    refine va_get (D := (dC, dI)) (ci := 3) (v := .int (nI q)) (C := "RangeCoders$Bits") (T := T_Bits) (N := 15) hx hb hg in_Bits hown hK hP 0 rfl rfl 14 (by decide) (hg _ k130) (fun _ h9 => h9) rfl d_Coder_nextByte_19 ?_
    refine my_ci (wr := [(co, Sum.inr (3, [Value.int xshift, Value.long xkeptCode, Value.long xkeptRange, Value.int xkeptAsked, Value.int xcache, Value.int xpending, Value.long xlow, Value.long xrange, Value.long xcode, Value.long xreadLow, Value.long xreadRange, Value.ref ri, Value.ref ro, Value.ref rw, Value.int (nI q)]))]) (va_runV (As := [Value.int (nI q)]) (rest := []) ⟨hx, hb, hml, hown, hts⟩ (f_Row_at l dC dI cI cM cO H.size ri ria rik rif is (nI q) (hri) (hGri) (by omega)) (cwV 1 hts (my_gV k751 k659 k660 k6 k661) rfl rfl rfl cu_Row_at_1 ⟨by rw [hR]; exact Nat.le_of_ble_eq_true rfl, by rw [hR]; exact Nat.le_of_ble_eq_true rfl⟩) (my_preV hK hN (hP.sub [1, 2] rfl) (hD.sub [1, 2] (by decide +kernel) rfl) 0 rfl rfl) rfl rfl hl.1 rfl (lv_room (Nat.le_of_ble_eq_true rfl)) d_Coder_nextByte_22 ⟨by rw [hR]; exact Nat.le_of_ble_eq_true rfl, by rw [hR]; exact Nat.le_of_ble_eq_true rfl⟩) hP hD hS hA [1, 2] [0] rfl rfl (by decide +kernel) (by decide +kernel) (fun r_22 u9 H locs hw_22 hP hD hS => ?_)
    have hr_22 : r_22 = rAt is (nI q) := hw_22
    have hPD : my_PD (dC, dI) vwCl A [(co, Sum.inr (3, [Value.int xshift, Value.long xkeptCode, Value.long xkeptRange, Value.int xkeptAsked, Value.int xcache, Value.int xpending, Value.long xlow, Value.long xrange, Value.long xcode, Value.long xreadLow, Value.long xreadRange, Value.ref ri, Value.ref ro, Value.ref rw, Value.int (nI q)])), (ri, Sum.inr (0, [Value.int (nI is.length), Value.ref ria])), (ria, Sum.inl (cI, rik, Sum.inl rif))] H := ⟨hP, hD⟩
    have hP := hPD.1
    have hD := hPD.2
    refine lv_goto (tgt := 29) hx hb d_Coder_nextByte_25 (by decide) ?_
    have z9 : r_22 = nI (byA is q) := by rw [hr_22]; exact rAt_nI (nb_lt (by omega) (by omega) (one_ne hr_8 c_1)) (by omega)
    subst z9
    refine lv_istore_n (lv' := [(1, Value.int (nI (byA is q))), (0, Value.ref co)]) hx hb d_Coder_nextByte_29 rfl hl (by decide) rfl (fun ls hl => ?_)
    refine lv_aload_n hx hb d_Coder_nextByte_30 rfl (lv_at hl 1 rfl) ?_
    refine lv_dup hx hb d_Coder_nextByte_31 rfl ?_
    refine va_get (D := (dC, dI)) (ci := 3) (v := .int (nI q)) (C := "RangeCoders$Bits") (T := T_Bits) (N := 15) hx hb hg in_Bits hown hK hP 0 rfl rfl 14 (by decide) (hg _ k130) (fun _ h9 => h9) rfl d_Coder_nextByte_32 ?_
    refine lv_iconst (v := 1) hx hb d_Coder_nextByte_35 (by decide) ?_
    refine lv_iadd hx hb d_Coder_nextByte_36 ?_
    refine lv_topi (fun v_3 ev_3 => ?_)
    have z9 : v_3 = nI (q + 1) := by rw [ev_3]; exact nI_1 _
    subst z9
    refine va_put (D := (dC, dI)) (ci := 3) (v := .int (nI (q + 1))) (ty := .int) (C := "RangeCoders$Bits") (T := T_Bits) (N := 15) hx hb hg in_Bits t_Bits o_Bits n_Bits hown hK hP hD hS 0 rfl rfl 14 (by decide) (hg _ k130) (fun _ h9 => h9) rfl (o_Bits 14 (by decide)) rfl rfl (Nat.le_of_ble_eq_true rfl) d_Coder_nextByte_37 (fun H locs hP hD hS => ?_)
    have hPD : my_PD (dC, dI) vwCl A [(co, Sum.inr (3, [Value.int xshift, Value.long xkeptCode, Value.long xkeptRange, Value.int xkeptAsked, Value.int xcache, Value.int xpending, Value.long xlow, Value.long xrange, Value.long xcode, Value.long xreadLow, Value.long xreadRange, Value.ref ri, Value.ref ro, Value.ref rw, Value.int (nI (q + 1))])), (ri, Sum.inr (0, [Value.int (nI is.length), Value.ref ria])), (ria, Sum.inl (cI, rik, Sum.inl rif))] H := ⟨hP, hD⟩
    have hP := hPD.1
    have hD := hPD.2
    refine lv_iload_n hx hb d_Coder_nextByte_40 rfl (lv_at hl 0 rfl) ?_
    exact my_iret (v := (nI (byA is q))) hx hb hr (rfl) hlocks hQ hK hS (Nat.le_refl _) (Nat.le_refl _) () (rfl) (hP.sub [0, 1, 2] rfl) (hD.sub [0, 1, 2] (by decide +kernel) rfl) d_Coder_nextByte_41
set_option maxHeartbeats 2000000 in
set_option maxRecDepth 100000 in
theorem f_Bits_four (l : Launch) (dC : Nat → ClassId) (dI : Nat → Nat → Nat) (cI cM cO : ClassId) (sz : Nat) (co : Nat) (xshift : Int32) (xkeptCode : Int64) (xkeptRange : Int64) (xkeptAsked : Int32) (xcache : Int32) (xpending : Int32) (xlow : Int64) (xrange : Int64) (xcode : Int64) (xreadLow : Int64) (xreadRange : Int64) (ri : Nat) (ro : Nat) (rw : Nat) (xasked : Int32) (ria : Nat) (rik : Nat) (rif : Nat → Int32) (is : List Nat) (hri : rOk (nI is.length) rik) (hGri : gIs rif is) (hLri : is.length ≤ 6000) (hoct : oct is) : MetL l y_Coder_firstFourBytes (Cond.code y_Coder_firstFourBytes prog_4_method_16_code 4 (some .long) :: gw) ({ frames := 3, cells := 0, slots := 0, locals := 63 } : Room) (dC, dI) vwCl (kT cI cM cO) [Value.ref co] [(co, Sum.inr (3, [Value.int xshift, Value.long xkeptCode, Value.long xkeptRange, Value.int xkeptAsked, Value.int xcache, Value.int xpending, Value.long xlow, Value.long xrange, Value.long xcode, Value.long xreadLow, Value.long xreadRange, Value.ref ri, Value.ref ro, Value.ref rw, Value.int xasked])), (ri, Sum.inr (0, [Value.int (nI is.length), Value.ref ria])), (ria, Sum.inl (cI, rik, Sum.inl rif))] sz (fun (r : Int64) (u : Unit) => r = lN (frN is 0 4)) (fun (u : Unit) => [(co, Sum.inr (3, [Value.int xshift, Value.long xkeptCode, Value.long xkeptRange, Value.int xkeptAsked, Value.int xcache, Value.int xpending, Value.long xlow, Value.long xrange, Value.long xcode, Value.long xreadLow, Value.long xreadRange, Value.ref ri, Value.ref ro, Value.ref rw, Value.int (nI 4)])), (ri, Sum.inr (0, [Value.int (nI is.length), Value.ref ria])), (ria, Sum.inl (cI, rik, Sum.inl rif))]) 0 0 := by
  refine my_ofL (cc := prog_4_method_16_code) (n := 4) (ret := (some .long)) (by decide) rfl (Nat.le_of_ble_eq_true rfl) ?_
  intro p e s m args below meth c R Q A ls H locs hx hb hr hts hown hlocks hml hnm hR hQ hA hl hP hK hN hD hS
  have hg : ∀ w ∈ gw, w.before args s = true := fun w h => hts w (List.mem_cons_of_mem _ h)
  have hown : s.vm.findClass "RangeCoders$Coder" = some m.cls := hown
  have hl : lv_has ls 4 [(0, Value.ref co)] := hl
  have hlti := rOk_lt hri
  refine lv_aload_n hx hb d_Coder_firstFourBytes_0 rfl (lv_at hl 0 rfl) ?_
  refine lv_iconst (v := 0) hx hb d_Coder_firstFourBytes_1 (by decide) ?_
  refine va_put (D := (dC, dI)) (ci := 3) (v := .int 0) (ty := .int) (C := "RangeCoders$Bits") (T := T_Bits) (N := 15) hx hb hg in_Bits t_Bits o_Bits n_Bits hown hK hP hD hS 0 rfl rfl 14 (by decide) (hg _ k130) (fun _ h9 => h9) rfl (o_Bits 14 (by decide)) rfl rfl (Nat.le_of_ble_eq_true rfl) d_Coder_firstFourBytes_2 (fun H locs hP hD hS => ?_)
  have hPD : my_PD (dC, dI) vwCl A [(co, Sum.inr (3, [Value.int xshift, Value.long xkeptCode, Value.long xkeptRange, Value.int xkeptAsked, Value.int xcache, Value.int xpending, Value.long xlow, Value.long xrange, Value.long xcode, Value.long xreadLow, Value.long xreadRange, Value.ref ri, Value.ref ro, Value.ref rw, Value.int 0])), (ri, Sum.inr (0, [Value.int (nI is.length), Value.ref ria])), (ria, Sum.inl (cI, rik, Sum.inl rif))] H := ⟨hP, hD⟩
  have hP := hPD.1
  have hD := hPD.2
  refine lv_lconst (v := 0) hx hb d_Coder_firstFourBytes_5 (by decide) ?_
  refine lv_lstore_n (lv' := [(1, Value.long 0), (0, Value.ref co)]) hx hb d_Coder_firstFourBytes_6 rfl hl (by decide) rfl (fun ls hl => ?_)
  refine lv_iconst (v := 0) hx hb d_Coder_firstFourBytes_7 (by decide) ?_
  refine lv_istore_n (lv' := [(3, Value.int 0), (1, Value.long 0), (0, Value.ref co)]) hx hb d_Coder_firstFourBytes_8 rfl hl (by decide) rfl (fun ls hl => ?_)
  have J_9 : ∀ (n9_9 : Nat) (j : Nat) (hn9_9 : 4 - j = n9_9) (hj : j ≤ 4) (H : Heap) (locs : List Loc) (ls : Array Slot), va_P (dC, dI) vwCl [(co, Sum.inr (3, [Value.int xshift, Value.long xkeptCode, Value.long xkeptRange, Value.int xkeptAsked, Value.int xcache, Value.int xpending, Value.long xlow, Value.long xrange, Value.long xcode, Value.long xreadLow, Value.long xreadRange, Value.ref ri, Value.ref ro, Value.ref rw, Value.int (nI j)])), (ri, Sum.inr (0, [Value.int (nI is.length), Value.ref ria])), (ria, Sum.inl (cI, rik, Sum.inl rif))] H → va_D A [(co, Sum.inr (3, [Value.int xshift, Value.long xkeptCode, Value.long xkeptRange, Value.int xkeptAsked, Value.int xcache, Value.int xpending, Value.long xlow, Value.long xrange, Value.long xcode, Value.long xreadLow, Value.long xreadRange, Value.ref ri, Value.ref ro, Value.ref rw, Value.int (nI j)])), (ri, Sum.inr (0, [Value.int (nI is.length), Value.ref ria])), (ria, Sum.inl (cI, rik, Sum.inl rif))] → va_S A s.heap H locs → lv_has ls 4 [(3, Value.int (nI j)), (1, Value.long (lN (frN is 0 j))), (0, Value.ref co)] → W p l e R s m args below meth c H locs 0 0 Q (F0 m 9 ls []) := by
    intro n9_9
    induction n9_9 using Nat.strongRecOn with
    | ind n9_9 ih9_9 =>
      intro j hn9_9 hj H locs ls hP hD hS hl
      have hfl := frN_lt hoct 0 j
      have hp4 : 256 ^ j ≤ 256 ^ 4 := Nat.pow_le_pow_right (by decide) hj
      have hbj := hoct j
      refine lv_iload_n hx hb d_Coder_firstFourBytes_9 rfl (lv_at hl 0 rfl) ?_
      refine lv_iconst (v := 4) hx hb d_Coder_firstFourBytes_10 (by decide) ?_
      refine lv_icmp_ge (tgt := 31) hx hb d_Coder_firstFourBytes_11 (by decide) (fun c_1 => ?_) (fun c_1 => ?_)
      · have hj3 : 4 = j := by have := nI_ge' (n := 4) (by omega) (by decide) c_1; omega
        subst hj3
        have hPD : my_PD (dC, dI) vwCl A [(co, Sum.inr (3, [Value.int xshift, Value.long xkeptCode, Value.long xkeptRange, Value.int xkeptAsked, Value.int xcache, Value.int xpending, Value.long xlow, Value.long xrange, Value.long xcode, Value.long xreadLow, Value.long xreadRange, Value.ref ri, Value.ref ro, Value.ref rw, Value.int (nI 4)])), (ri, Sum.inr (0, [Value.int (nI is.length), Value.ref ria])), (ria, Sum.inl (cI, rik, Sum.inl rif))] H := ⟨hP, hD⟩
        have hP := hPD.1
        have hD := hPD.2
        refine lv_lload_n hx hb d_Coder_firstFourBytes_31 rfl (lv_at hl 1 rfl) ?_
        exact my_lret (v := lN (frN is 0 4)) hx hb hr hlocks hQ hK hS (Nat.le_refl _) (Nat.le_refl _) () (rfl) (hP.sub [0, 1, 2] rfl) (hD.sub [0, 1, 2] (by decide +kernel) rfl) d_Coder_firstFourBytes_32
      · have hj2 : j < 4 := nI_lt' (by omega) c_1
        refine lv_lload_n hx hb d_Coder_firstFourBytes_14 rfl (lv_at hl 1 rfl) ?_
        refine lv_bipush (v := 8) hx hb d_Coder_firstFourBytes_15 (by decide) ?_
        refine lv_lshl hx hb d_Coder_firstFourBytes_17 rfl ?_
        refine lv_topl (fun v_2 ev_2 => ?_)
        have z9 : v_2 = lN (frN is 0 j * 256) := by rw [ev_2]; exact L_shl8 _
        subst z9
        refine lv_aload_n hx hb d_Coder_firstFourBytes_18 rfl (lv_at hl 2 rfl) ?_
        refine my_ci (wr := []) (va_runU (As := []) (rest := [Value.long (lN (frN is 0 j * 256))]) ⟨hx, hb, hml, hown, hts⟩ (f_Bits_nextByte l dC dI cI cM cO H.size co xshift xkeptCode xkeptRange xkeptAsked xcache xpending xlow xrange xcode xreadLow xreadRange ri ro rw ria rik rif is j (hri) (hGri) (hLri) (by omega)) (va_cwU 0 hts (my_gU k741 k743 k744 k742 k3 k749) rfl rfl rfl rfl (by decide +kernel) ⟨by rw [hR]; exact Nat.le_of_ble_eq_true rfl, by rw [hR]; exact Nat.le_of_ble_eq_true rfl⟩) (my_preV hK hN (hP.sub [0, 1, 2] rfl) (hD.sub [0, 1, 2] (by decide +kernel) rfl) 0 rfl rfl) rfl rfl hl.1 rfl (lv_room (Nat.le_of_ble_eq_true rfl)) d_Coder_firstFourBytes_19 ⟨by rw [hR]; exact Nat.le_of_ble_eq_true rfl, by rw [hR]; exact Nat.le_of_ble_eq_true rfl⟩) hP hD hS hA [0, 1, 2] [] rfl rfl (by decide +kernel) (by decide +kernel) (fun r_19 u9 H locs hw_19 hP hD hS => ?_)
        have hr_19 : r_19 = nI (byA is j) := hw_19
        have hPD : my_PD (dC, dI) vwCl A [(co, Sum.inr (3, [Value.int xshift, Value.long xkeptCode, Value.long xkeptRange, Value.int xkeptAsked, Value.int xcache, Value.int xpending, Value.long xlow, Value.long xrange, Value.long xcode, Value.long xreadLow, Value.long xreadRange, Value.ref ri, Value.ref ro, Value.ref rw, Value.int (nI (j + 1))])), (ri, Sum.inr (0, [Value.int (nI is.length), Value.ref ria])), (ria, Sum.inl (cI, rik, Sum.inl rif))] H := ⟨hP, hD⟩
        have hP := hPD.1
        have hD := hPD.2
        have z9 : r_19 = nI (byA is j) := hr_19
        subst z9
        refine lv_i2l hx hb d_Coder_firstFourBytes_22 rfl ?_
        refine lv_topl (fun v_3 ev_3 => ?_)
        have z9 : v_3 = lN (byA is j) := by rw [ev_3]; exact nI_l (by omega)
        subst z9
        refine lv_lor hx hb d_Coder_firstFourBytes_23 ?_
        refine lv_topl (fun v_4 ev_4 => ?_)
        have z9 : v_4 = lN (frN is 0 (j + 1)) := by rw [ev_4, L_code (by omega) hbj, frN, Nat.zero_add]
        subst z9
        refine lv_lstore_n (lv' := [(1, Value.long (lN (frN is 0 (j + 1)))), (3, Value.int (nI j)), (0, Value.ref co)]) hx hb d_Coder_firstFourBytes_24 rfl hl (by decide) rfl (fun ls hl => ?_)
        obtain ⟨v_5, ev_5⟩ : ∃ y : Int32, y = (nI j) + (1) := ⟨_, rfl⟩
        refine lv_iinc (v := v_5) (lv' := [(3, Value.int v_5), (1, Value.long (lN (frN is 0 (j + 1)))), (0, Value.ref co)]) hx hb d_Coder_firstFourBytes_25 hl (k := 1) rfl (by rw [ev_5]; rfl) (by decide) rfl (fun ls hl => ?_)
        have z9 : v_5 = nI (j + 1) := by rw [ev_5]; exact nI_1 _
        subst z9
        refine lv_goto (tgt := 9) hx hb d_Coder_firstFourBytes_28 (by decide) ?_
        exact ih9_9 _ (by first | omega | (omega)) (j + 1) rfl (by omega) H locs ls (hP.sub [0, 1, 2] rfl) (hD.sub [0, 1, 2] (by decide +kernel) rfl) hS (lv_sub hl [0, 1, 2] rfl)
  exact J_9 _ (0 : Nat) rfl (by decide) H locs ls (hP.sub [0, 1, 2] rfl) (hD.sub [0, 1, 2] (by decide +kernel) rfl) hS (lv_sub hl [0, 1, 2] rfl)
set_option maxHeartbeats 2000000 in
set_option maxRecDepth 100000 in
theorem f_Stack_nextByte (l : Launch) (dC : Nat → ClassId) (dI : Nat → Nat → Nat) (cI cM cO : ClassId) (sz : Nat) (co : Nat) (xx : Int64) (xreadX : Int64) (soa : Nat) (sna : Nat) (swa : Nat) (xkept : Int32) (ri : Nat) (ro : Nat) (rw : Nat) (ria : Nat) (rik : Nat) (rif : Nat → Int32) (is : List Nat) (q : Nat) (hri : rOk (nI is.length) rik) (hGri : gIs rif is) (hLri : is.length ≤ 6000) (hq : q < 1000000000) : MetI l y_Coder_nextByte (Cond.code y_Coder_nextByte prog_4_method_15_code 2 (some .int) :: gw) ({ frames := 2, cells := 0, slots := 0, locals := 42 } : Room) (dC, dI) vwCl (kT cI cM cO) [Value.ref co] [(co, Sum.inr (4, [Value.long xx, Value.long xreadX, Value.ref soa, Value.ref sna, Value.ref swa, Value.int xkept, Value.ref ri, Value.ref ro, Value.ref rw, Value.int (nI q)])), (ri, Sum.inr (0, [Value.int (nI is.length), Value.ref ria])), (ria, Sum.inl (cI, rik, Sum.inl rif))] sz (fun (r : Int32) (u : Unit) => r = nI (byA is q)) (fun (u : Unit) => [(co, Sum.inr (4, [Value.long xx, Value.long xreadX, Value.ref soa, Value.ref sna, Value.ref swa, Value.int xkept, Value.ref ri, Value.ref ro, Value.ref rw, Value.int (nI (q + 1))])), (ri, Sum.inr (0, [Value.int (nI is.length), Value.ref ria])), (ria, Sum.inl (cI, rik, Sum.inl rif))]) 0 0 := by
  refine my_ofI (cc := prog_4_method_15_code) (n := 2) (ret := (some .int)) (by decide) rfl (Nat.le_of_ble_eq_true rfl) ?_
  intro p e s m args below meth c R Q A ls H locs hx hb hr hts hown hlocks hml hnm hR hQ hA hl hP hK hN hD hS
  have hg : ∀ w ∈ gw, w.before args s = true := fun w h => hts w (List.mem_cons_of_mem _ h)
  have hown : s.vm.findClass "RangeCoders$Coder" = some m.cls := hown
  have hl : lv_has ls 2 [(0, Value.ref co)] := hl
  have hlti := rOk_lt hri
  refine lv_aload_n hx hb d_Coder_nextByte_0 rfl (lv_at hl 0 rfl) ?_
  refine va_get (D := (dC, dI)) (ci := 4) (v := .ref ri) (C := "RangeCoders$Stack") (T := T_Stack) (N := 10) hx hb hg in_Stack hown hK hP 0 rfl rfl 6 (by decide) (hg _ k101) (fun _ h9 => h9) rfl d_Coder_nextByte_1 ?_
  refine lv_aload_n hx hb d_Coder_nextByte_4 rfl (lv_at hl 0 rfl) ?_
  refine va_get (D := (dC, dI)) (ci := 4) (v := .int (nI q)) (C := "RangeCoders$Stack") (T := T_Stack) (N := 10) hx hb hg in_Stack hown hK hP 0 rfl rfl 9 (by decide) (hg _ k130) (fun _ h9 => h9) rfl d_Coder_nextByte_5 ?_
  refine my_ci (wr := [(co, Sum.inr (4, [Value.long xx, Value.long xreadX, Value.ref soa, Value.ref sna, Value.ref swa, Value.int xkept, Value.ref ri, Value.ref ro, Value.ref rw, Value.int (nI q)]))]) (va_runV (As := [Value.int (nI q)]) (rest := []) ⟨hx, hb, hml, hown, hts⟩ (f_Row_has l dC dI cI cM cO H.size ri ria rik rif is (nI q) (hri) (hGri) (by omega)) (cwV 1 hts (my_gV k750 k663 k664 k6 k665) rfl rfl rfl cu_Row_has_1 ⟨by rw [hR]; exact Nat.le_of_ble_eq_true rfl, by rw [hR]; exact Nat.le_of_ble_eq_true rfl⟩) (my_preV hK hN (hP.sub [1, 2] rfl) (hD.sub [1, 2] (by decide +kernel) rfl) 0 rfl rfl) rfl rfl hl.1 rfl (lv_room (Nat.le_of_ble_eq_true rfl)) d_Coder_nextByte_8 ⟨by rw [hR]; exact Nat.le_of_ble_eq_true rfl, by rw [hR]; exact Nat.le_of_ble_eq_true rfl⟩) hP hD hS hA [1, 2] [0] rfl rfl (by decide +kernel) (by decide +kernel) (fun r_8 u9 H locs hw_8 hP hD hS => ?_)
  obtain ⟨hr_8, hv_8⟩ : (r_8 = if 0 ≤ (nI q) ∧ (nI q) < nI is.length then 1 else 0) ∧ (r_8 ≠ 0 → vp_in (nI q) rik) := hw_8
  have hPD : my_PD (dC, dI) vwCl A [(co, Sum.inr (4, [Value.long xx, Value.long xreadX, Value.ref soa, Value.ref sna, Value.ref swa, Value.int xkept, Value.ref ri, Value.ref ro, Value.ref rw, Value.int (nI q)])), (ri, Sum.inr (0, [Value.int (nI is.length), Value.ref ria])), (ria, Sum.inl (cI, rik, Sum.inl rif))] H := ⟨hP, hD⟩
  have hP := hPD.1
  have hD := hPD.2
  refine lv_if_eq (tgt := 28) hx hb d_Coder_nextByte_11 (by decide) (fun c_1 => ?_) (fun c_1 => ?_)
  · refine lv_iconst (v := 0) hx hb d_Coder_nextByte_28 (by decide) ?_
    refine W.eq (g2 := F0 m 29 ls [Value.int (nI (byA is q))]) (by rw [nb_0 (by omega) (one_eq hr_8 c_1)]; rfl) ?_
    refine lv_istore_n (lv' := [(1, Value.int (nI (byA is q))), (0, Value.ref co)]) hx hb d_Coder_nextByte_29 rfl hl (by decide) rfl (fun ls hl => ?_)
    refine lv_aload_n hx hb d_Coder_nextByte_30 rfl (lv_at hl 1 rfl) ?_
    refine lv_dup hx hb d_Coder_nextByte_31 rfl ?_
    refine va_get (D := (dC, dI)) (ci := 4) (v := .int (nI q)) (C := "RangeCoders$Stack") (T := T_Stack) (N := 10) hx hb hg in_Stack hown hK hP 0 rfl rfl 9 (by decide) (hg _ k130) (fun _ h9 => h9) rfl d_Coder_nextByte_32 ?_
    refine lv_iconst (v := 1) hx hb d_Coder_nextByte_35 (by decide) ?_
    refine lv_iadd hx hb d_Coder_nextByte_36 ?_
    refine lv_topi (fun v_2 ev_2 => ?_)
    have z9 : v_2 = nI (q + 1) := by rw [ev_2]; exact nI_1 _
    subst z9
    refine va_put (D := (dC, dI)) (ci := 4) (v := .int (nI (q + 1))) (ty := .int) (C := "RangeCoders$Stack") (T := T_Stack) (N := 10) hx hb hg in_Stack t_Stack o_Stack n_Stack hown hK hP hD hS 0 rfl rfl 9 (by decide) (hg _ k130) (fun _ h9 => h9) rfl (o_Stack 9 (by decide)) rfl rfl (Nat.le_of_ble_eq_true rfl) d_Coder_nextByte_37 (fun H locs hP hD hS => ?_)
    have hPD : my_PD (dC, dI) vwCl A [(co, Sum.inr (4, [Value.long xx, Value.long xreadX, Value.ref soa, Value.ref sna, Value.ref swa, Value.int xkept, Value.ref ri, Value.ref ro, Value.ref rw, Value.int (nI (q + 1))])), (ri, Sum.inr (0, [Value.int (nI is.length), Value.ref ria])), (ria, Sum.inl (cI, rik, Sum.inl rif))] H := ⟨hP, hD⟩
    have hP := hPD.1
    have hD := hPD.2
    refine lv_iload_n hx hb d_Coder_nextByte_40 rfl (lv_at hl 0 rfl) ?_
    exact my_iret (v := nI (byA is q)) hx hb hr (rfl) hlocks hQ hK hS (Nat.le_refl _) (Nat.le_refl _) () (rfl) (hP.sub [0, 1, 2] rfl) (hD.sub [0, 1, 2] (by decide +kernel) rfl) d_Coder_nextByte_41
  · refine lv_aload_n hx hb d_Coder_nextByte_14 rfl (lv_at hl 0 rfl) ?_
    refine va_get (D := (dC, dI)) (ci := 4) (v := .ref ri) (C := "RangeCoders$Stack") (T := T_Stack) (N := 10) hx hb hg in_Stack hown hK hP 0 rfl rfl 6 (by decide) (hg _ k101) (fun _ h9 => h9) rfl d_Coder_nextByte_15 ?_
    refine lv_aload_n hx hb d_Coder_nextByte_18 rfl (lv_at hl 0 rfl) ?_
    refine va_get (D := (dC, dI)) (ci := 4) (v := .int (nI q)) (C := "RangeCoders$Stack") (T := T_Stack) (N := 10) hx hb hg in_Stack hown hK hP 0 rfl rfl 9 (by decide) (hg _ k130) (fun _ h9 => h9) rfl d_Coder_nextByte_19 ?_
    refine my_ci (wr := [(co, Sum.inr (4, [Value.long xx, Value.long xreadX, Value.ref soa, Value.ref sna, Value.ref swa, Value.int xkept, Value.ref ri, Value.ref ro, Value.ref rw, Value.int (nI q)]))]) (va_runV (As := [Value.int (nI q)]) (rest := []) ⟨hx, hb, hml, hown, hts⟩ (f_Row_at l dC dI cI cM cO H.size ri ria rik rif is (nI q) (hri) (hGri) (by omega)) (cwV 1 hts (my_gV k751 k659 k660 k6 k661) rfl rfl rfl cu_Row_at_1 ⟨by rw [hR]; exact Nat.le_of_ble_eq_true rfl, by rw [hR]; exact Nat.le_of_ble_eq_true rfl⟩) (my_preV hK hN (hP.sub [1, 2] rfl) (hD.sub [1, 2] (by decide +kernel) rfl) 0 rfl rfl) rfl rfl hl.1 rfl (lv_room (Nat.le_of_ble_eq_true rfl)) d_Coder_nextByte_22 ⟨by rw [hR]; exact Nat.le_of_ble_eq_true rfl, by rw [hR]; exact Nat.le_of_ble_eq_true rfl⟩) hP hD hS hA [1, 2] [0] rfl rfl (by decide +kernel) (by decide +kernel) (fun r_22 u9 H locs hw_22 hP hD hS => ?_)
    have hr_22 : r_22 = rAt is (nI q) := hw_22
    have hPD : my_PD (dC, dI) vwCl A [(co, Sum.inr (4, [Value.long xx, Value.long xreadX, Value.ref soa, Value.ref sna, Value.ref swa, Value.int xkept, Value.ref ri, Value.ref ro, Value.ref rw, Value.int (nI q)])), (ri, Sum.inr (0, [Value.int (nI is.length), Value.ref ria])), (ria, Sum.inl (cI, rik, Sum.inl rif))] H := ⟨hP, hD⟩
    have hP := hPD.1
    have hD := hPD.2
    refine lv_goto (tgt := 29) hx hb d_Coder_nextByte_25 (by decide) ?_
    have z9 : r_22 = nI (byA is q) := by rw [hr_22]; exact rAt_nI (nb_lt (by omega) (by omega) (one_ne hr_8 c_1)) (by omega)
    subst z9
    refine lv_istore_n (lv' := [(1, Value.int (nI (byA is q))), (0, Value.ref co)]) hx hb d_Coder_nextByte_29 rfl hl (by decide) rfl (fun ls hl => ?_)
    refine lv_aload_n hx hb d_Coder_nextByte_30 rfl (lv_at hl 1 rfl) ?_
    refine lv_dup hx hb d_Coder_nextByte_31 rfl ?_
    refine va_get (D := (dC, dI)) (ci := 4) (v := .int (nI q)) (C := "RangeCoders$Stack") (T := T_Stack) (N := 10) hx hb hg in_Stack hown hK hP 0 rfl rfl 9 (by decide) (hg _ k130) (fun _ h9 => h9) rfl d_Coder_nextByte_32 ?_
    refine lv_iconst (v := 1) hx hb d_Coder_nextByte_35 (by decide) ?_
    refine lv_iadd hx hb d_Coder_nextByte_36 ?_
    refine lv_topi (fun v_3 ev_3 => ?_)
    have z9 : v_3 = nI (q + 1) := by rw [ev_3]; exact nI_1 _
    subst z9
    refine va_put (D := (dC, dI)) (ci := 4) (v := .int (nI (q + 1))) (ty := .int) (C := "RangeCoders$Stack") (T := T_Stack) (N := 10) hx hb hg in_Stack t_Stack o_Stack n_Stack hown hK hP hD hS 0 rfl rfl 9 (by decide) (hg _ k130) (fun _ h9 => h9) rfl (o_Stack 9 (by decide)) rfl rfl (Nat.le_of_ble_eq_true rfl) d_Coder_nextByte_37 (fun H locs hP hD hS => ?_)
    have hPD : my_PD (dC, dI) vwCl A [(co, Sum.inr (4, [Value.long xx, Value.long xreadX, Value.ref soa, Value.ref sna, Value.ref swa, Value.int xkept, Value.ref ri, Value.ref ro, Value.ref rw, Value.int (nI (q + 1))])), (ri, Sum.inr (0, [Value.int (nI is.length), Value.ref ria])), (ria, Sum.inl (cI, rik, Sum.inl rif))] H := ⟨hP, hD⟩
    have hP := hPD.1
    have hD := hPD.2
    refine lv_iload_n hx hb d_Coder_nextByte_40 rfl (lv_at hl 0 rfl) ?_
    exact my_iret (v := (nI (byA is q))) hx hb hr (rfl) hlocks hQ hK hS (Nat.le_refl _) (Nat.le_refl _) () (rfl) (hP.sub [0, 1, 2] rfl) (hD.sub [0, 1, 2] (by decide +kernel) rfl) d_Coder_nextByte_41
set_option maxHeartbeats 2000000 in
set_option maxRecDepth 100000 in
theorem f_Stack_four (l : Launch) (dC : Nat → ClassId) (dI : Nat → Nat → Nat) (cI cM cO : ClassId) (sz : Nat) (co : Nat) (xx : Int64) (xreadX : Int64) (soa : Nat) (sna : Nat) (swa : Nat) (xkept : Int32) (ri : Nat) (ro : Nat) (rw : Nat) (xasked : Int32) (ria : Nat) (rik : Nat) (rif : Nat → Int32) (is : List Nat) (hri : rOk (nI is.length) rik) (hGri : gIs rif is) (hLri : is.length ≤ 6000) (hoct : oct is) : MetL l y_Coder_firstFourBytes (Cond.code y_Coder_firstFourBytes prog_4_method_16_code 4 (some .long) :: gw) ({ frames := 3, cells := 0, slots := 0, locals := 63 } : Room) (dC, dI) vwCl (kT cI cM cO) [Value.ref co] [(co, Sum.inr (4, [Value.long xx, Value.long xreadX, Value.ref soa, Value.ref sna, Value.ref swa, Value.int xkept, Value.ref ri, Value.ref ro, Value.ref rw, Value.int xasked])), (ri, Sum.inr (0, [Value.int (nI is.length), Value.ref ria])), (ria, Sum.inl (cI, rik, Sum.inl rif))] sz (fun (r : Int64) (u : Unit) => r = lN (frN is 0 4)) (fun (u : Unit) => [(co, Sum.inr (4, [Value.long xx, Value.long xreadX, Value.ref soa, Value.ref sna, Value.ref swa, Value.int xkept, Value.ref ri, Value.ref ro, Value.ref rw, Value.int (nI 4)])), (ri, Sum.inr (0, [Value.int (nI is.length), Value.ref ria])), (ria, Sum.inl (cI, rik, Sum.inl rif))]) 0 0 := by
  refine my_ofL (cc := prog_4_method_16_code) (n := 4) (ret := (some .long)) (by decide) rfl (Nat.le_of_ble_eq_true rfl) ?_
  intro p e s m args below meth c R Q A ls H locs hx hb hr hts hown hlocks hml hnm hR hQ hA hl hP hK hN hD hS
  have hg : ∀ w ∈ gw, w.before args s = true := fun w h => hts w (List.mem_cons_of_mem _ h)
  have hown : s.vm.findClass "RangeCoders$Coder" = some m.cls := hown
  have hl : lv_has ls 4 [(0, Value.ref co)] := hl
  have hlti := rOk_lt hri
  refine lv_aload_n hx hb d_Coder_firstFourBytes_0 rfl (lv_at hl 0 rfl) ?_
  refine lv_iconst (v := 0) hx hb d_Coder_firstFourBytes_1 (by decide) ?_
  refine va_put (D := (dC, dI)) (ci := 4) (v := .int 0) (ty := .int) (C := "RangeCoders$Stack") (T := T_Stack) (N := 10) hx hb hg in_Stack t_Stack o_Stack n_Stack hown hK hP hD hS 0 rfl rfl 9 (by decide) (hg _ k130) (fun _ h9 => h9) rfl (o_Stack 9 (by decide)) rfl rfl (Nat.le_of_ble_eq_true rfl) d_Coder_firstFourBytes_2 (fun H locs hP hD hS => ?_)
  have hPD : my_PD (dC, dI) vwCl A [(co, Sum.inr (4, [Value.long xx, Value.long xreadX, Value.ref soa, Value.ref sna, Value.ref swa, Value.int xkept, Value.ref ri, Value.ref ro, Value.ref rw, Value.int 0])), (ri, Sum.inr (0, [Value.int (nI is.length), Value.ref ria])), (ria, Sum.inl (cI, rik, Sum.inl rif))] H := ⟨hP, hD⟩
  have hP := hPD.1
  have hD := hPD.2
  refine lv_lconst (v := 0) hx hb d_Coder_firstFourBytes_5 (by decide) ?_
  refine lv_lstore_n (lv' := [(1, Value.long 0), (0, Value.ref co)]) hx hb d_Coder_firstFourBytes_6 rfl hl (by decide) rfl (fun ls hl => ?_)
  refine lv_iconst (v := 0) hx hb d_Coder_firstFourBytes_7 (by decide) ?_
  refine lv_istore_n (lv' := [(3, Value.int 0), (1, Value.long 0), (0, Value.ref co)]) hx hb d_Coder_firstFourBytes_8 rfl hl (by decide) rfl (fun ls hl => ?_)
  have J_9 : ∀ (n9_9 : Nat) (j : Nat) (hn9_9 : 4 - j = n9_9) (hj : j ≤ 4) (H : Heap) (locs : List Loc) (ls : Array Slot), va_P (dC, dI) vwCl [(co, Sum.inr (4, [Value.long xx, Value.long xreadX, Value.ref soa, Value.ref sna, Value.ref swa, Value.int xkept, Value.ref ri, Value.ref ro, Value.ref rw, Value.int (nI j)])), (ri, Sum.inr (0, [Value.int (nI is.length), Value.ref ria])), (ria, Sum.inl (cI, rik, Sum.inl rif))] H → va_D A [(co, Sum.inr (4, [Value.long xx, Value.long xreadX, Value.ref soa, Value.ref sna, Value.ref swa, Value.int xkept, Value.ref ri, Value.ref ro, Value.ref rw, Value.int (nI j)])), (ri, Sum.inr (0, [Value.int (nI is.length), Value.ref ria])), (ria, Sum.inl (cI, rik, Sum.inl rif))] → va_S A s.heap H locs → lv_has ls 4 [(3, Value.int (nI j)), (1, Value.long (lN (frN is 0 j))), (0, Value.ref co)] → W p l e R s m args below meth c H locs 0 0 Q (F0 m 9 ls []) := by
    intro n9_9
    induction n9_9 using Nat.strongRecOn with
    | ind n9_9 ih9_9 =>
      intro j hn9_9 hj H locs ls hP hD hS hl
      have hfl := frN_lt hoct 0 j
      have hp4 : 256 ^ j ≤ 256 ^ 4 := Nat.pow_le_pow_right (by decide) hj
      have hbj := hoct j
      refine lv_iload_n hx hb d_Coder_firstFourBytes_9 rfl (lv_at hl 0 rfl) ?_
      refine lv_iconst (v := 4) hx hb d_Coder_firstFourBytes_10 (by decide) ?_
      refine lv_icmp_ge (tgt := 31) hx hb d_Coder_firstFourBytes_11 (by decide) (fun c_1 => ?_) (fun c_1 => ?_)
      · have hj3 : 4 = j := by have := nI_ge' (n := 4) (by omega) (by decide) c_1; omega
        subst hj3
        have hPD : my_PD (dC, dI) vwCl A [(co, Sum.inr (4, [Value.long xx, Value.long xreadX, Value.ref soa, Value.ref sna, Value.ref swa, Value.int xkept, Value.ref ri, Value.ref ro, Value.ref rw, Value.int (nI 4)])), (ri, Sum.inr (0, [Value.int (nI is.length), Value.ref ria])), (ria, Sum.inl (cI, rik, Sum.inl rif))] H := ⟨hP, hD⟩
        have hP := hPD.1
        have hD := hPD.2
        refine lv_lload_n hx hb d_Coder_firstFourBytes_31 rfl (lv_at hl 1 rfl) ?_
        exact my_lret (v := lN (frN is 0 4)) hx hb hr hlocks hQ hK hS (Nat.le_refl _) (Nat.le_refl _) () (rfl) (hP.sub [0, 1, 2] rfl) (hD.sub [0, 1, 2] (by decide +kernel) rfl) d_Coder_firstFourBytes_32
      · have hj2 : j < 4 := nI_lt' (by omega) c_1
        refine lv_lload_n hx hb d_Coder_firstFourBytes_14 rfl (lv_at hl 1 rfl) ?_
        refine lv_bipush (v := 8) hx hb d_Coder_firstFourBytes_15 (by decide) ?_
        refine lv_lshl hx hb d_Coder_firstFourBytes_17 rfl ?_
        refine lv_topl (fun v_2 ev_2 => ?_)
        have z9 : v_2 = lN (frN is 0 j * 256) := by rw [ev_2]; exact L_shl8 _
        subst z9
        refine lv_aload_n hx hb d_Coder_firstFourBytes_18 rfl (lv_at hl 2 rfl) ?_
        refine my_ci (wr := []) (va_runU (As := []) (rest := [Value.long (lN (frN is 0 j * 256))]) ⟨hx, hb, hml, hown, hts⟩ (f_Stack_nextByte l dC dI cI cM cO H.size co xx xreadX soa sna swa xkept ri ro rw ria rik rif is j (hri) (hGri) (hLri) (by omega)) (va_cwU 0 hts (my_gU k741 k743 k747 k742 k3 k749) rfl rfl rfl rfl (by decide +kernel) ⟨by rw [hR]; exact Nat.le_of_ble_eq_true rfl, by rw [hR]; exact Nat.le_of_ble_eq_true rfl⟩) (my_preV hK hN (hP.sub [0, 1, 2] rfl) (hD.sub [0, 1, 2] (by decide +kernel) rfl) 0 rfl rfl) rfl rfl hl.1 rfl (lv_room (Nat.le_of_ble_eq_true rfl)) d_Coder_firstFourBytes_19 ⟨by rw [hR]; exact Nat.le_of_ble_eq_true rfl, by rw [hR]; exact Nat.le_of_ble_eq_true rfl⟩) hP hD hS hA [0, 1, 2] [] rfl rfl (by decide +kernel) (by decide +kernel) (fun r_19 u9 H locs hw_19 hP hD hS => ?_)
        have hr_19 : r_19 = nI (byA is j) := hw_19
        have hPD : my_PD (dC, dI) vwCl A [(co, Sum.inr (4, [Value.long xx, Value.long xreadX, Value.ref soa, Value.ref sna, Value.ref swa, Value.int xkept, Value.ref ri, Value.ref ro, Value.ref rw, Value.int (nI (j + 1))])), (ri, Sum.inr (0, [Value.int (nI is.length), Value.ref ria])), (ria, Sum.inl (cI, rik, Sum.inl rif))] H := ⟨hP, hD⟩
        have hP := hPD.1
        have hD := hPD.2
        have z9 : r_19 = nI (byA is j) := hr_19
        subst z9
        refine lv_i2l hx hb d_Coder_firstFourBytes_22 rfl ?_
        refine lv_topl (fun v_3 ev_3 => ?_)
        have z9 : v_3 = lN (byA is j) := by rw [ev_3]; exact nI_l (by omega)
        subst z9
        refine lv_lor hx hb d_Coder_firstFourBytes_23 ?_
        refine lv_topl (fun v_4 ev_4 => ?_)
        have z9 : v_4 = lN (frN is 0 (j + 1)) := by rw [ev_4, L_code (by omega) hbj, frN, Nat.zero_add]
        subst z9
        refine lv_lstore_n (lv' := [(1, Value.long (lN (frN is 0 (j + 1)))), (3, Value.int (nI j)), (0, Value.ref co)]) hx hb d_Coder_firstFourBytes_24 rfl hl (by decide) rfl (fun ls hl => ?_)
        obtain ⟨v_5, ev_5⟩ : ∃ y : Int32, y = (nI j) + (1) := ⟨_, rfl⟩
        refine lv_iinc (v := v_5) (lv' := [(3, Value.int v_5), (1, Value.long (lN (frN is 0 (j + 1)))), (0, Value.ref co)]) hx hb d_Coder_firstFourBytes_25 hl (k := 1) rfl (by rw [ev_5]; rfl) (by decide) rfl (fun ls hl => ?_)
        have z9 : v_5 = nI (j + 1) := by rw [ev_5]; exact nI_1 _
        subst z9
        refine lv_goto (tgt := 9) hx hb d_Coder_firstFourBytes_28 (by decide) ?_
        exact ih9_9 _ (by first | omega | (omega)) (j + 1) rfl (by omega) H locs ls (hP.sub [0, 1, 2] rfl) (hD.sub [0, 1, 2] (by decide +kernel) rfl) hS (lv_sub hl [0, 1, 2] rfl)
  exact J_9 _ (0 : Nat) rfl (by decide) H locs ls (hP.sub [0, 1, 2] rfl) (hD.sub [0, 1, 2] (by decide +kernel) rfl) hS (lv_sub hl [0, 1, 2] rfl)
end
section
set_option maxHeartbeats 2000000 in
set_option maxRecDepth 100000 in
theorem f_Carries_widenReading (l : Launch) (dC : Nat → ClassId) (dI : Nat → Nat → Nat) (cI cM cO : ClassId) (sz : Nat) (co : Nat) (xcache : Int32) (xpending : Int32) (xlow : Int64) (xrange : Int64) (xreadLow : Int64) (ri : Nat) (ro : Nat) (rw : Nat) (ria : Nat) (rik : Nat) (rif : Nat → Int32) (is : List Nat) (RR : Nat) (CD : Nat) (q : Nat) (hri : rOk (nI is.length) rik) (hGri : gIs rif is) (hLri : is.length ≤ 6000) (hoct : oct is) (hR0 : 0 < RR) (hR1 : RR < 4294967296) (hC : CD < 4294967296) (hq : q < 900000000) : MetV l y_Carries_widenReading (Cond.code y_Carries_widenReading prog_3_method_7_code 2 none :: gw) ({ frames := 3, cells := 0, slots := 0, locals := 63 } : Room) (dC, dI) vwCl (kT cI cM cO) [Value.ref co] [(co, Sum.inr (1, [Value.int xcache, Value.int xpending, Value.long xlow, Value.long xrange, Value.long (lN CD), Value.long xreadLow, Value.long (lN RR), Value.ref ri, Value.ref ro, Value.ref rw, Value.int (nI q)])), (ri, Sum.inr (0, [Value.int (nI is.length), Value.ref ria])), (ria, Sum.inl (cI, rik, Sum.inl rif))] sz (fun (u : Unit) => True) (fun (u : Unit) => [(co, Sum.inr (1, [Value.int xcache, Value.int xpending, Value.long xlow, Value.long xrange, Value.long (lN (wrS is (RR, CD, q)).2.1), Value.long xreadLow, Value.long (lN (wrS is (RR, CD, q)).1), Value.ref ri, Value.ref ro, Value.ref rw, Value.int (nI (wrS is (RR, CD, q)).2.2)])), (ri, Sum.inr (0, [Value.int (nI is.length), Value.ref ria])), (ria, Sum.inl (cI, rik, Sum.inl rif))]) 0 0 := by
  refine my_ofV (cc := prog_3_method_7_code) (n := 2) (ret := none) (by decide) rfl (Nat.le_of_ble_eq_true rfl) ?_
  intro p e s m args below meth c R Q A ls H locs hx hb hr hts hown hlocks hml hnm hR hQ hA hl hP hK hN hD hS
  have hg : ∀ w ∈ gw, w.before args s = true := fun w h => hts w (List.mem_cons_of_mem _ h)
  have hown : s.vm.findClass "RangeCoders$Carries" = some m.cls := hown
  have hl : lv_has ls 2 [(0, Value.ref co)] := hl
  have hlti := rOk_lt hri
  refine lv_iconst (v := 0) hx hb d_Carries_widenReading_0 (by decide) ?_
  refine lv_istore_n (lv' := [(1, Value.int 0), (0, Value.ref co)]) hx hb d_Carries_widenReading_1 rfl hl (by decide) rfl (fun ls hl => ?_)
  have J_2 : ∀ (n9_2 : Nat) (e9 : RS) (k9 : Nat) (hn9_2 : k9 = n9_2) (hE9 : wrS is (RR, CD, q) = wrN is k9 e9) (hk5 : 5 ≤ k9) (hk8 : k9 ≤ 8) (hR9 : wb8 k9 ≤ e9.1) (hR32 : e9.1 < 4294967296) (hC9 : e9.2.1 < 4294967296) (hq9 : e9.2.2 + k9 ≤ 900000008) (H : Heap) (locs : List Loc) (ls : Array Slot), va_P (dC, dI) vwCl [(co, Sum.inr (1, [Value.int xcache, Value.int xpending, Value.long xlow, Value.long xrange, Value.long (lN e9.2.1), Value.long xreadLow, Value.long (lN e9.1), Value.ref ri, Value.ref ro, Value.ref rw, Value.int (nI e9.2.2)])), (ri, Sum.inr (0, [Value.int (nI is.length), Value.ref ria])), (ria, Sum.inl (cI, rik, Sum.inl rif))] H → va_D A [(co, Sum.inr (1, [Value.int xcache, Value.int xpending, Value.long xlow, Value.long xrange, Value.long (lN e9.2.1), Value.long xreadLow, Value.long (lN e9.1), Value.ref ri, Value.ref ro, Value.ref rw, Value.int (nI e9.2.2)])), (ri, Sum.inr (0, [Value.int (nI is.length), Value.ref ria])), (ria, Sum.inl (cI, rik, Sum.inl rif))] → va_S A s.heap H locs → lv_has ls 2 [(1, Value.int (nI (8 - k9))), (0, Value.ref co)] → W p l e R s m args below meth c H locs 0 0 Q (F0 m 2 ls []) := by
    intro n9_2
    induction n9_2 using Nat.strongRecOn with
    | ind n9_2 ih9_2 =>
      intro e9 k9 hn9_2 hE9 hk5 hk8 hR9 hR32 hC9 hq9 H locs ls hP hD hS hl
      have hb9 := hoct e9.2.2
      refine lv_iload_n hx hb d_Carries_widenReading_2 rfl (lv_at hl 0 rfl) ?_
      refine lv_bipush (v := 8) hx hb d_Carries_widenReading_3 (by decide) ?_
      refine lv_icmp_ge (tgt := 61) hx hb d_Carries_widenReading_5 (by decide) (fun c_1 => ?_) (fun c_1 => ?_)
      · exact absurd (nI_ge' (n := 8) (by omega) (by decide) c_1) (by omega)
      · refine lv_aload_n hx hb d_Carries_widenReading_8 rfl (lv_at hl 1 rfl) ?_
        refine va_get (D := (dC, dI)) (ci := 1) (v := .long (lN e9.1)) (C := "RangeCoders$Carries") (T := T_Carries) (N := 11) hx hb hg in_Carries hown hK hP 0 rfl rfl 6 (by decide) (hg _ k96) (fun x9 h9 => u_same (hg _ k97) x9 h9) rfl d_Carries_widenReading_9 ?_
        refine lv_ldc2 (v := 16777216) hx hb hown (hg _ k461) d_Carries_widenReading_12 ?_
        refine W.lcmp hx hb d_Carries_widenReading_15 ?_
        refine lv_if_ge (tgt := 61) hx hb d_Carries_widenReading_16 (by decide) (fun c_2 => ?_) (fun c_2 => ?_)
        · rw [lg_cmp_ge] at c_2
          have hge : ¬ e9.1 < 16777216 := by have z := (L_le (a := 16777216) (by decide) (by omega)).mp c_2; omega
          have z9 : e9 = wrS is (RR, CD, q) := by rw [hE9, wrN_e hge]
          subst z9
          exact my_vret hx hb hr hlocks hQ hK hS (Nat.le_refl _) (Nat.le_refl _) () (trivial) (hP.sub [0, 1, 2] rfl) (hD.sub [0, 1, 2] (by decide +kernel) rfl) d_Carries_widenReading_61
        · rw [lg_cmp_ge] at c_2
          have hlt : e9.1 < 16777216 := by
            rcases Nat.lt_or_ge e9.1 16777216 with z | z
            · exact z
            · exact absurd ((L_le (a := 16777216) (by decide) (by omega)).mpr z) c_2
          have hk6 := wb8_k hk5 hR9 hlt
          refine lv_aload_n hx hb d_Carries_widenReading_19 rfl (lv_at hl 1 rfl) ?_
          refine lv_aload_n hx hb d_Carries_widenReading_20 rfl (lv_at hl 1 rfl) ?_
          refine va_get (D := (dC, dI)) (ci := 1) (v := .long (lN e9.1)) (C := "RangeCoders$Carries") (T := T_Carries) (N := 11) hx hb hg in_Carries hown hK hP 0 rfl rfl 6 (by decide) (hg _ k96) (fun x9 h9 => u_same (hg _ k97) x9 h9) rfl d_Carries_widenReading_21 ?_
          refine lv_bipush (v := 8) hx hb d_Carries_widenReading_24 (by decide) ?_
          refine lv_lshl hx hb d_Carries_widenReading_26 rfl ?_
          refine lv_topl (fun v_3 ev_3 => ?_)
          refine lv_ldc2 (v := 4294967295) hx hb hown (hg _ k462) d_Carries_widenReading_27 ?_
          refine lv_land hx hb d_Carries_widenReading_30 ?_
          refine lv_topl (fun v_4 ev_4 => ?_)
          have z9 : v_4 = lN (e9.1 * 256) := by subst_vars; rw [L_shl8, L_and32 (by omega), Nat.mod_eq_of_lt (by omega)]
          subst z9
          refine va_put (D := (dC, dI)) (ci := 1) (v := .long (lN (e9.1 * 256))) (ty := .long) (C := "RangeCoders$Carries") (T := T_Carries) (N := 11) hx hb hg in_Carries t_Carries o_Carries n_Carries hown hK hP hD hS 0 rfl rfl 6 (by decide) (hg _ k96) (fun x9 h9 => u_same (hg _ k97) x9 h9) rfl (o_Carries 6 (by decide)) rfl rfl (Nat.le_of_ble_eq_true rfl) d_Carries_widenReading_31 (fun H locs hP hD hS => ?_)
          have hPD : my_PD (dC, dI) vwCl A [(co, Sum.inr (1, [Value.int xcache, Value.int xpending, Value.long xlow, Value.long xrange, Value.long (lN e9.2.1), Value.long xreadLow, Value.long (lN (e9.1 * 256)), Value.ref ri, Value.ref ro, Value.ref rw, Value.int (nI e9.2.2)])), (ri, Sum.inr (0, [Value.int (nI is.length), Value.ref ria])), (ria, Sum.inl (cI, rik, Sum.inl rif))] H := ⟨hP, hD⟩
          have hP := hPD.1
          have hD := hPD.2
          refine lv_aload_n hx hb d_Carries_widenReading_34 rfl (lv_at hl 1 rfl) ?_
          refine lv_aload_n hx hb d_Carries_widenReading_35 rfl (lv_at hl 1 rfl) ?_
          refine va_get (D := (dC, dI)) (ci := 1) (v := .long (lN e9.2.1)) (C := "RangeCoders$Carries") (T := T_Carries) (N := 11) hx hb hg in_Carries hown hK hP 0 rfl rfl 4 (by decide) (hg _ k86) (fun x9 h9 => u_same (hg _ k87) x9 h9) rfl d_Carries_widenReading_36 ?_
          refine lv_bipush (v := 8) hx hb d_Carries_widenReading_39 (by decide) ?_
          refine lv_lshl hx hb d_Carries_widenReading_41 rfl ?_
          refine lv_topl (fun v_5 ev_5 => ?_)
          have z9 : v_5 = lN (e9.2.1 * 256) := by rw [ev_5]; exact L_shl8 _
          subst z9
          refine lv_aload_n hx hb d_Carries_widenReading_42 rfl (lv_at hl 1 rfl) ?_
          refine my_ci (wr := []) (va_runU (As := []) (rest := [Value.long (lN (e9.2.1 * 256)), Value.ref co]) ⟨hx, hb, hml, hown, hts⟩ (f_Carries_nextByte l dC dI cI cM cO H.size co xcache xpending xlow xrange (lN e9.2.1) xreadLow (lN (e9.1 * 256)) ri ro rw ria rik rif is e9.2.2 (hri) (hGri) (hLri) (by omega)) (va_cwU 0 hts (my_gU k795 k796 k799 k742 k3 k749) rfl rfl rfl rfl (by decide +kernel) ⟨by rw [hR]; exact Nat.le_of_ble_eq_true rfl, by rw [hR]; exact Nat.le_of_ble_eq_true rfl⟩) (my_preV hK hN (hP.sub [0, 1, 2] rfl) (hD.sub [0, 1, 2] (by decide +kernel) rfl) 0 rfl rfl) rfl rfl hl.1 rfl (lv_room (Nat.le_of_ble_eq_true rfl)) d_Carries_widenReading_43 ⟨by rw [hR]; exact Nat.le_of_ble_eq_true rfl, by rw [hR]; exact Nat.le_of_ble_eq_true rfl⟩) hP hD hS hA [0, 1, 2] [] rfl rfl (by decide +kernel) (by decide +kernel) (fun r_43 u9 H locs hw_43 hP hD hS => ?_)
          have hr_43 : r_43 = nI (byA is e9.2.2) := hw_43
          have hPD : my_PD (dC, dI) vwCl A [(co, Sum.inr (1, [Value.int xcache, Value.int xpending, Value.long xlow, Value.long xrange, Value.long (lN e9.2.1), Value.long xreadLow, Value.long (lN (e9.1 * 256)), Value.ref ri, Value.ref ro, Value.ref rw, Value.int (nI (e9.2.2 + 1))])), (ri, Sum.inr (0, [Value.int (nI is.length), Value.ref ria])), (ria, Sum.inl (cI, rik, Sum.inl rif))] H := ⟨hP, hD⟩
          have hP := hPD.1
          have hD := hPD.2
          have z9 : r_43 = nI (byA is e9.2.2) := hr_43
          subst z9
          refine lv_i2l hx hb d_Carries_widenReading_46 rfl ?_
          refine lv_topl (fun v_6 ev_6 => ?_)
          have z9 : v_6 = lN (byA is e9.2.2) := by rw [ev_6]; exact nI_l (by omega)
          subst z9
          refine lv_lor hx hb d_Carries_widenReading_47 ?_
          refine lv_topl (fun v_7 ev_7 => ?_)
          have z9 : v_7 = lN (e9.2.1 * 256 + byA is e9.2.2) := by rw [ev_7]; exact L_code hC9 hb9
          subst z9
          refine lv_ldc2 (v := 4294967295) hx hb hown (hg _ k462) d_Carries_widenReading_48 ?_
          refine lv_land hx hb d_Carries_widenReading_51 ?_
          refine lv_topl (fun v_8 ev_8 => ?_)
          have z9 : v_8 = lN (e9.2.1 * 256 % 4294967296 + byA is e9.2.2) := by rw [ev_8, L_and32 (by omega), code_m hb9]
          subst z9
          refine va_put (D := (dC, dI)) (ci := 1) (v := .long (lN (e9.2.1 * 256 % 4294967296 + byA is e9.2.2))) (ty := .long) (C := "RangeCoders$Carries") (T := T_Carries) (N := 11) hx hb hg in_Carries t_Carries o_Carries n_Carries hown hK hP hD hS 0 rfl rfl 4 (by decide) (hg _ k86) (fun x9 h9 => u_same (hg _ k87) x9 h9) rfl (o_Carries 4 (by decide)) rfl rfl (Nat.le_of_ble_eq_true rfl) d_Carries_widenReading_52 (fun H locs hP hD hS => ?_)
          have hPD : my_PD (dC, dI) vwCl A [(co, Sum.inr (1, [Value.int xcache, Value.int xpending, Value.long xlow, Value.long xrange, Value.long (lN (e9.2.1 * 256 % 4294967296 + byA is e9.2.2)), Value.long xreadLow, Value.long (lN (e9.1 * 256)), Value.ref ri, Value.ref ro, Value.ref rw, Value.int (nI (e9.2.2 + 1))])), (ri, Sum.inr (0, [Value.int (nI is.length), Value.ref ria])), (ria, Sum.inl (cI, rik, Sum.inl rif))] H := ⟨hP, hD⟩
          have hP := hPD.1
          have hD := hPD.2
          obtain ⟨v_9, ev_9⟩ : ∃ y : Int32, y = (nI (8 - k9)) + (1) := ⟨_, rfl⟩
          refine lv_iinc (v := v_9) (lv' := [(1, Value.int v_9), (0, Value.ref co)]) hx hb d_Carries_widenReading_55 hl (k := 0) rfl (by rw [ev_9]; rfl) (by decide) rfl (fun ls hl => ?_)
          have z9 : v_9 = nI (8 - (k9 - 1)) := by rw [ev_9, show 8 - (k9 - 1) = 8 - k9 + 1 by omega]; exact nI_1 _
          subst z9
          refine lv_goto (tgt := 2) hx hb d_Carries_widenReading_58 (by decide) ?_
          exact ih9_2 _ (by first | omega | (omega)) (e9.1 * 256, e9.2.1 * 256 % 4294967296 + byA is e9.2.2, e9.2.2 + 1) (k9 - 1) rfl (by rw [hE9, wrN_s (by omega) hlt]) (by omega) (by omega) (wb8_s hk6 hk8 hR9) (by show e9.1 * 256 < _; omega) (by show e9.2.1 * 256 % 4294967296 + byA is e9.2.2 < _; omega) (by show e9.2.2 + 1 + (k9 - 1) ≤ _; omega) H locs ls (hP.sub [0, 1, 2] rfl) (hD.sub [0, 1, 2] (by decide +kernel) rfl) hS (lv_sub hl [0, 1] rfl)
  exact J_2 _ (RR, CD, q) (8 : Nat) rfl (rfl) (by decide) (by decide) (hR0) (hR1) (hC) (by show q + 8 ≤ _; omega) H locs ls (hP.sub [0, 1, 2] rfl) (hD.sub [0, 1, 2] (by decide +kernel) rfl) hS (lv_sub hl [0, 1] rfl)
set_option maxHeartbeats 2000000 in
set_option maxRecDepth 100000 in
theorem f_Bits_widenReading (l : Launch) (dC : Nat → ClassId) (dI : Nat → Nat → Nat) (cI cM cO : ClassId) (sz : Nat) (co : Nat) (xshift : Int32) (xkeptCode : Int64) (xkeptRange : Int64) (xkeptAsked : Int32) (xcache : Int32) (xpending : Int32) (xlow : Int64) (xrange : Int64) (xreadLow : Int64) (ri : Nat) (ro : Nat) (rw : Nat) (ria : Nat) (rik : Nat) (rif : Nat → Int32) (is : List Nat) (RR : Nat) (CD : Nat) (q : Nat) (hri : rOk (nI is.length) rik) (hGri : gIs rif is) (hLri : is.length ≤ 6000) (hoct : oct is) (hR0 : 0 < RR) (hR1 : RR < 4294967296) (hC : CD < 4294967296) (hq : q < 900000000) : MetV l y_Carries_widenReading (Cond.code y_Carries_widenReading prog_3_method_7_code 2 none :: gw) ({ frames := 3, cells := 0, slots := 0, locals := 63 } : Room) (dC, dI) vwCl (kT cI cM cO) [Value.ref co] [(co, Sum.inr (3, [Value.int xshift, Value.long xkeptCode, Value.long xkeptRange, Value.int xkeptAsked, Value.int xcache, Value.int xpending, Value.long xlow, Value.long xrange, Value.long (lN CD), Value.long xreadLow, Value.long (lN RR), Value.ref ri, Value.ref ro, Value.ref rw, Value.int (nI q)])), (ri, Sum.inr (0, [Value.int (nI is.length), Value.ref ria])), (ria, Sum.inl (cI, rik, Sum.inl rif))] sz (fun (u : Unit) => True) (fun (u : Unit) => [(co, Sum.inr (3, [Value.int xshift, Value.long xkeptCode, Value.long xkeptRange, Value.int xkeptAsked, Value.int xcache, Value.int xpending, Value.long xlow, Value.long xrange, Value.long (lN (wrS is (RR, CD, q)).2.1), Value.long xreadLow, Value.long (lN (wrS is (RR, CD, q)).1), Value.ref ri, Value.ref ro, Value.ref rw, Value.int (nI (wrS is (RR, CD, q)).2.2)])), (ri, Sum.inr (0, [Value.int (nI is.length), Value.ref ria])), (ria, Sum.inl (cI, rik, Sum.inl rif))]) 0 0 := by
  refine my_ofV (cc := prog_3_method_7_code) (n := 2) (ret := none) (by decide) rfl (Nat.le_of_ble_eq_true rfl) ?_
  intro p e s m args below meth c R Q A ls H locs hx hb hr hts hown hlocks hml hnm hR hQ hA hl hP hK hN hD hS
  have hg : ∀ w ∈ gw, w.before args s = true := fun w h => hts w (List.mem_cons_of_mem _ h)
  have hown : s.vm.findClass "RangeCoders$Carries" = some m.cls := hown
  have hl : lv_has ls 2 [(0, Value.ref co)] := hl
  have hlti := rOk_lt hri
  refine lv_iconst (v := 0) hx hb d_Carries_widenReading_0 (by decide) ?_
  refine lv_istore_n (lv' := [(1, Value.int 0), (0, Value.ref co)]) hx hb d_Carries_widenReading_1 rfl hl (by decide) rfl (fun ls hl => ?_)
  have J_2 : ∀ (n9_2 : Nat) (e9 : RS) (k9 : Nat) (hn9_2 : k9 = n9_2) (hE9 : wrS is (RR, CD, q) = wrN is k9 e9) (hk5 : 5 ≤ k9) (hk8 : k9 ≤ 8) (hR9 : wb8 k9 ≤ e9.1) (hR32 : e9.1 < 4294967296) (hC9 : e9.2.1 < 4294967296) (hq9 : e9.2.2 + k9 ≤ 900000008) (H : Heap) (locs : List Loc) (ls : Array Slot), va_P (dC, dI) vwCl [(co, Sum.inr (3, [Value.int xshift, Value.long xkeptCode, Value.long xkeptRange, Value.int xkeptAsked, Value.int xcache, Value.int xpending, Value.long xlow, Value.long xrange, Value.long (lN e9.2.1), Value.long xreadLow, Value.long (lN e9.1), Value.ref ri, Value.ref ro, Value.ref rw, Value.int (nI e9.2.2)])), (ri, Sum.inr (0, [Value.int (nI is.length), Value.ref ria])), (ria, Sum.inl (cI, rik, Sum.inl rif))] H → va_D A [(co, Sum.inr (3, [Value.int xshift, Value.long xkeptCode, Value.long xkeptRange, Value.int xkeptAsked, Value.int xcache, Value.int xpending, Value.long xlow, Value.long xrange, Value.long (lN e9.2.1), Value.long xreadLow, Value.long (lN e9.1), Value.ref ri, Value.ref ro, Value.ref rw, Value.int (nI e9.2.2)])), (ri, Sum.inr (0, [Value.int (nI is.length), Value.ref ria])), (ria, Sum.inl (cI, rik, Sum.inl rif))] → va_S A s.heap H locs → lv_has ls 2 [(1, Value.int (nI (8 - k9))), (0, Value.ref co)] → W p l e R s m args below meth c H locs 0 0 Q (F0 m 2 ls []) := by
    intro n9_2
    induction n9_2 using Nat.strongRecOn with
    | ind n9_2 ih9_2 =>
      intro e9 k9 hn9_2 hE9 hk5 hk8 hR9 hR32 hC9 hq9 H locs ls hP hD hS hl
      have hb9 := hoct e9.2.2
      refine lv_iload_n hx hb d_Carries_widenReading_2 rfl (lv_at hl 0 rfl) ?_
      refine lv_bipush (v := 8) hx hb d_Carries_widenReading_3 (by decide) ?_
      refine lv_icmp_ge (tgt := 61) hx hb d_Carries_widenReading_5 (by decide) (fun c_1 => ?_) (fun c_1 => ?_)
      · exact absurd (nI_ge' (n := 8) (by omega) (by decide) c_1) (by omega)
      · refine lv_aload_n hx hb d_Carries_widenReading_8 rfl (lv_at hl 1 rfl) ?_
        refine va_get (D := (dC, dI)) (ci := 3) (v := .long (lN e9.1)) (C := "RangeCoders$Bits") (T := T_Bits) (N := 15) hx hb hg in_Bits hown hK hP 0 rfl rfl 10 (by decide) (hg _ k96) (fun x9 h9 => u_same (hg _ k97) x9 h9) rfl d_Carries_widenReading_9 ?_
        refine lv_ldc2 (v := 16777216) hx hb hown (hg _ k461) d_Carries_widenReading_12 ?_
        refine W.lcmp hx hb d_Carries_widenReading_15 ?_
        refine lv_if_ge (tgt := 61) hx hb d_Carries_widenReading_16 (by decide) (fun c_2 => ?_) (fun c_2 => ?_)
        · rw [lg_cmp_ge] at c_2
          have hge : ¬ e9.1 < 16777216 := by have z := (L_le (a := 16777216) (by decide) (by omega)).mp c_2; omega
          have z9 : e9 = wrS is (RR, CD, q) := by rw [hE9, wrN_e hge]
          subst z9
          exact my_vret hx hb hr hlocks hQ hK hS (Nat.le_refl _) (Nat.le_refl _) () (trivial) (hP.sub [0, 1, 2] rfl) (hD.sub [0, 1, 2] (by decide +kernel) rfl) d_Carries_widenReading_61
        · rw [lg_cmp_ge] at c_2
          have hlt : e9.1 < 16777216 := by
            rcases Nat.lt_or_ge e9.1 16777216 with z | z
            · exact z
            · exact absurd ((L_le (a := 16777216) (by decide) (by omega)).mpr z) c_2
          have hk6 := wb8_k hk5 hR9 hlt
          refine lv_aload_n hx hb d_Carries_widenReading_19 rfl (lv_at hl 1 rfl) ?_
          refine lv_aload_n hx hb d_Carries_widenReading_20 rfl (lv_at hl 1 rfl) ?_
          refine va_get (D := (dC, dI)) (ci := 3) (v := .long (lN e9.1)) (C := "RangeCoders$Bits") (T := T_Bits) (N := 15) hx hb hg in_Bits hown hK hP 0 rfl rfl 10 (by decide) (hg _ k96) (fun x9 h9 => u_same (hg _ k97) x9 h9) rfl d_Carries_widenReading_21 ?_
          refine lv_bipush (v := 8) hx hb d_Carries_widenReading_24 (by decide) ?_
          refine lv_lshl hx hb d_Carries_widenReading_26 rfl ?_
          refine lv_topl (fun v_3 ev_3 => ?_)
          refine lv_ldc2 (v := 4294967295) hx hb hown (hg _ k462) d_Carries_widenReading_27 ?_
          refine lv_land hx hb d_Carries_widenReading_30 ?_
          refine lv_topl (fun v_4 ev_4 => ?_)
          have z9 : v_4 = lN (e9.1 * 256) := by subst_vars; rw [L_shl8, L_and32 (by omega), Nat.mod_eq_of_lt (by omega)]
          subst z9
          refine va_put (D := (dC, dI)) (ci := 3) (v := .long (lN (e9.1 * 256))) (ty := .long) (C := "RangeCoders$Bits") (T := T_Bits) (N := 15) hx hb hg in_Bits t_Bits o_Bits n_Bits hown hK hP hD hS 0 rfl rfl 10 (by decide) (hg _ k96) (fun x9 h9 => u_same (hg _ k97) x9 h9) rfl (o_Bits 10 (by decide)) rfl rfl (Nat.le_of_ble_eq_true rfl) d_Carries_widenReading_31 (fun H locs hP hD hS => ?_)
          have hPD : my_PD (dC, dI) vwCl A [(co, Sum.inr (3, [Value.int xshift, Value.long xkeptCode, Value.long xkeptRange, Value.int xkeptAsked, Value.int xcache, Value.int xpending, Value.long xlow, Value.long xrange, Value.long (lN e9.2.1), Value.long xreadLow, Value.long (lN (e9.1 * 256)), Value.ref ri, Value.ref ro, Value.ref rw, Value.int (nI e9.2.2)])), (ri, Sum.inr (0, [Value.int (nI is.length), Value.ref ria])), (ria, Sum.inl (cI, rik, Sum.inl rif))] H := ⟨hP, hD⟩
          have hP := hPD.1
          have hD := hPD.2
          refine lv_aload_n hx hb d_Carries_widenReading_34 rfl (lv_at hl 1 rfl) ?_
          refine lv_aload_n hx hb d_Carries_widenReading_35 rfl (lv_at hl 1 rfl) ?_
          refine va_get (D := (dC, dI)) (ci := 3) (v := .long (lN e9.2.1)) (C := "RangeCoders$Bits") (T := T_Bits) (N := 15) hx hb hg in_Bits hown hK hP 0 rfl rfl 8 (by decide) (hg _ k86) (fun x9 h9 => u_same (hg _ k87) x9 h9) rfl d_Carries_widenReading_36 ?_
          refine lv_bipush (v := 8) hx hb d_Carries_widenReading_39 (by decide) ?_
          refine lv_lshl hx hb d_Carries_widenReading_41 rfl ?_
          refine lv_topl (fun v_5 ev_5 => ?_)
          have z9 : v_5 = lN (e9.2.1 * 256) := by rw [ev_5]; exact L_shl8 _
          subst z9
          refine lv_aload_n hx hb d_Carries_widenReading_42 rfl (lv_at hl 1 rfl) ?_
          refine my_ci (wr := []) (va_runU (As := []) (rest := [Value.long (lN (e9.2.1 * 256)), Value.ref co]) ⟨hx, hb, hml, hown, hts⟩ (f_Bits_nextByte l dC dI cI cM cO H.size co xshift xkeptCode xkeptRange xkeptAsked xcache xpending xlow xrange (lN e9.2.1) xreadLow (lN (e9.1 * 256)) ri ro rw ria rik rif is e9.2.2 (hri) (hGri) (hLri) (by omega)) (va_cwU 0 hts (my_gU k795 k796 k798 k742 k3 k749) rfl rfl rfl rfl (by decide +kernel) ⟨by rw [hR]; exact Nat.le_of_ble_eq_true rfl, by rw [hR]; exact Nat.le_of_ble_eq_true rfl⟩) (my_preV hK hN (hP.sub [0, 1, 2] rfl) (hD.sub [0, 1, 2] (by decide +kernel) rfl) 0 rfl rfl) rfl rfl hl.1 rfl (lv_room (Nat.le_of_ble_eq_true rfl)) d_Carries_widenReading_43 ⟨by rw [hR]; exact Nat.le_of_ble_eq_true rfl, by rw [hR]; exact Nat.le_of_ble_eq_true rfl⟩) hP hD hS hA [0, 1, 2] [] rfl rfl (by decide +kernel) (by decide +kernel) (fun r_43 u9 H locs hw_43 hP hD hS => ?_)
          have hr_43 : r_43 = nI (byA is e9.2.2) := hw_43
          have hPD : my_PD (dC, dI) vwCl A [(co, Sum.inr (3, [Value.int xshift, Value.long xkeptCode, Value.long xkeptRange, Value.int xkeptAsked, Value.int xcache, Value.int xpending, Value.long xlow, Value.long xrange, Value.long (lN e9.2.1), Value.long xreadLow, Value.long (lN (e9.1 * 256)), Value.ref ri, Value.ref ro, Value.ref rw, Value.int (nI (e9.2.2 + 1))])), (ri, Sum.inr (0, [Value.int (nI is.length), Value.ref ria])), (ria, Sum.inl (cI, rik, Sum.inl rif))] H := ⟨hP, hD⟩
          have hP := hPD.1
          have hD := hPD.2
          have z9 : r_43 = nI (byA is e9.2.2) := hr_43
          subst z9
          refine lv_i2l hx hb d_Carries_widenReading_46 rfl ?_
          refine lv_topl (fun v_6 ev_6 => ?_)
          have z9 : v_6 = lN (byA is e9.2.2) := by rw [ev_6]; exact nI_l (by omega)
          subst z9
          refine lv_lor hx hb d_Carries_widenReading_47 ?_
          refine lv_topl (fun v_7 ev_7 => ?_)
          have z9 : v_7 = lN (e9.2.1 * 256 + byA is e9.2.2) := by rw [ev_7]; exact L_code hC9 hb9
          subst z9
          refine lv_ldc2 (v := 4294967295) hx hb hown (hg _ k462) d_Carries_widenReading_48 ?_
          refine lv_land hx hb d_Carries_widenReading_51 ?_
          refine lv_topl (fun v_8 ev_8 => ?_)
          have z9 : v_8 = lN (e9.2.1 * 256 % 4294967296 + byA is e9.2.2) := by rw [ev_8, L_and32 (by omega), code_m hb9]
          subst z9
          refine va_put (D := (dC, dI)) (ci := 3) (v := .long (lN (e9.2.1 * 256 % 4294967296 + byA is e9.2.2))) (ty := .long) (C := "RangeCoders$Bits") (T := T_Bits) (N := 15) hx hb hg in_Bits t_Bits o_Bits n_Bits hown hK hP hD hS 0 rfl rfl 8 (by decide) (hg _ k86) (fun x9 h9 => u_same (hg _ k87) x9 h9) rfl (o_Bits 8 (by decide)) rfl rfl (Nat.le_of_ble_eq_true rfl) d_Carries_widenReading_52 (fun H locs hP hD hS => ?_)
          have hPD : my_PD (dC, dI) vwCl A [(co, Sum.inr (3, [Value.int xshift, Value.long xkeptCode, Value.long xkeptRange, Value.int xkeptAsked, Value.int xcache, Value.int xpending, Value.long xlow, Value.long xrange, Value.long (lN (e9.2.1 * 256 % 4294967296 + byA is e9.2.2)), Value.long xreadLow, Value.long (lN (e9.1 * 256)), Value.ref ri, Value.ref ro, Value.ref rw, Value.int (nI (e9.2.2 + 1))])), (ri, Sum.inr (0, [Value.int (nI is.length), Value.ref ria])), (ria, Sum.inl (cI, rik, Sum.inl rif))] H := ⟨hP, hD⟩
          have hP := hPD.1
          have hD := hPD.2
          obtain ⟨v_9, ev_9⟩ : ∃ y : Int32, y = (nI (8 - k9)) + (1) := ⟨_, rfl⟩
          refine lv_iinc (v := v_9) (lv' := [(1, Value.int v_9), (0, Value.ref co)]) hx hb d_Carries_widenReading_55 hl (k := 0) rfl (by rw [ev_9]; rfl) (by decide) rfl (fun ls hl => ?_)
          have z9 : v_9 = nI (8 - (k9 - 1)) := by rw [ev_9, show 8 - (k9 - 1) = 8 - k9 + 1 by omega]; exact nI_1 _
          subst z9
          refine lv_goto (tgt := 2) hx hb d_Carries_widenReading_58 (by decide) ?_
          exact ih9_2 _ (by first | omega | (omega)) (e9.1 * 256, e9.2.1 * 256 % 4294967296 + byA is e9.2.2, e9.2.2 + 1) (k9 - 1) rfl (by rw [hE9, wrN_s (by omega) hlt]) (by omega) (by omega) (wb8_s hk6 hk8 hR9) (by show e9.1 * 256 < _; omega) (by show e9.2.1 * 256 % 4294967296 + byA is e9.2.2 < _; omega) (by show e9.2.2 + 1 + (k9 - 1) ≤ _; omega) H locs ls (hP.sub [0, 1, 2] rfl) (hD.sub [0, 1, 2] (by decide +kernel) rfl) hS (lv_sub hl [0, 1] rfl)
  exact J_2 _ (RR, CD, q) (8 : Nat) rfl (rfl) (by decide) (by decide) (hR0) (hR1) (hC) (by show q + 8 ≤ _; omega) H locs ls (hP.sub [0, 1, 2] rfl) (hD.sub [0, 1, 2] (by decide +kernel) rfl) hS (lv_sub hl [0, 1] rfl)
end
section
set_option maxHeartbeats 2000000 in
set_option maxRecDepth 100000 in
theorem f_Carries_nextShare (l : Launch) (dC : Nat → ClassId) (dI : Nat → Nat → Nat) (cI cM cO : ClassId) (sz : Nat) (co : Nat) (xcache : Int32) (xpending : Int32) (xlow : Int64) (xrange : Int64) (ri : Nat) (ro : Nat) (rw : Nat) (xasked : Int32) (RR : Nat) (CD : Nat) (RL : Nat) (tt : Nat) (hR1 : RR < 4294967296) (hC : CD < 4294967296) (hL : RL < 4294967296) (ht : tt < 2147483648) : MetI l y_Ranged_nextShare (Cond.code y_Ranged_nextShare prog_8_method_14_code 6 (some .int) :: gw) ({ frames := 0, cells := 0, slots := 0, locals := 0 } : Room) (dC, dI) vwCl (kT cI cM cO) [Value.ref co, Value.int (nI tt)] [(co, Sum.inr (1, [Value.int xcache, Value.int xpending, Value.long xlow, Value.long xrange, Value.long (lN CD), Value.long (lN RL), Value.long (lN RR), Value.ref ri, Value.ref ro, Value.ref rw, Value.int xasked]))] sz (fun (r : Int32) (u : Unit) => r = oI (wnt tt RR ((CD + 4294967296 - RL) % 4294967296))) (fun (u : Unit) => [(co, Sum.inr (1, [Value.int xcache, Value.int xpending, Value.long xlow, Value.long xrange, Value.long (lN CD), Value.long (lN RL), Value.long (lN RR), Value.ref ri, Value.ref ro, Value.ref rw, Value.int xasked]))]) 0 0 := by
  refine my_ofI (cc := prog_8_method_14_code) (n := 6) (ret := (some .int)) (by decide) rfl (Nat.le_of_ble_eq_true rfl) ?_
  intro p e s m args below meth c R Q A ls H locs hx hb hr hts hown hlocks hml hnm hR hQ hA hl hP hK hN hD hS
  have hg : ∀ w ∈ gw, w.before args s = true := fun w h => hts w (List.mem_cons_of_mem _ h)
  have hown : s.vm.findClass "RangeCoders$Ranged" = some m.cls := hown
  have hl : lv_has ls 6 [(0, Value.ref co), (1, Value.int (nI tt))] := hl
  have hd5 : RR / tt ≤ RR := Nat.div_le_self _ _
  have hd6 : ((CD + 4294967296 - RL) % 4294967296) / (RR / tt) ≤ ((CD + 4294967296 - RL) % 4294967296) := Nat.div_le_self _ _
  have hd7 : ((CD + 4294967296 - RL) % 4294967296) < 4294967296 := Nat.mod_lt _ (by decide)
  refine lv_iload_n hx hb d_Ranged_nextShare_0 rfl (lv_at hl 1 rfl) ?_
  refine lv_if_le (tgt := 14) hx hb d_Ranged_nextShare_1 (by decide) (fun c_1 => ?_) (fun c_1 => ?_)
  · refine lv_lconst (v := 0) hx hb d_Ranged_nextShare_14 (by decide) ?_
    refine lv_lstore_n (lv' := [(2, Value.long 0), (0, Value.ref co), (1, Value.int (nI tt))]) hx hb d_Ranged_nextShare_15 rfl hl (by decide) rfl (fun ls hl => ?_)
    refine lv_lload_n hx hb d_Ranged_nextShare_16 rfl (lv_at hl 0 rfl) ?_
    refine lv_lconst (v := 0) hx hb d_Ranged_nextShare_17 (by decide) ?_
    refine W.lcmp hx hb d_Ranged_nextShare_18 ?_
    refine lv_if_gt (tgt := 24) hx hb d_Ranged_nextShare_19 (by decide) (fun c_2 => ?_) (fun c_2 => ?_)
    · rw [lg_cmp_gt] at c_2
      exact absurd c_2 (by decide)
    · rw [lg_cmp_gt] at c_2
      refine lv_iconst (v := (-1)) hx hb d_Ranged_nextShare_22 (by decide) ?_
      exact my_iret (v := (-1)) hx hb hr (rfl) hlocks hQ hK hS (Nat.le_refl _) (Nat.le_refl _) () (by rw [show tt = 0 from nI_z0 (by omega) c_1, wnt_0]; rfl) (hP.sub [0] rfl) (hD.sub [0] (by decide +kernel) rfl) d_Ranged_nextShare_23
  · have ht0 : 0 < tt := by
      rcases Nat.eq_zero_or_pos tt with z | z
      · exact absurd (by rw [z]; exact Int32.le_refl _) c_1
      · exact z
    refine lv_aload_n hx hb d_Ranged_nextShare_4 rfl (lv_at hl 0 rfl) ?_
    refine va_get (D := (dC, dI)) (ci := 1) (v := .long (lN RR)) (C := "RangeCoders$Carries") (T := T_Carries) (N := 11) hx hb hg in_Carries hown hK hP 0 rfl rfl 6 (by decide) (hg _ k100) (fun _ h9 => h9) rfl d_Ranged_nextShare_5 ?_
    refine lv_iload_n hx hb d_Ranged_nextShare_8 rfl (lv_at hl 1 rfl) ?_
    refine lv_i2l hx hb d_Ranged_nextShare_9 rfl ?_
    refine lv_topl (fun v_3 ev_3 => ?_)
    refine lv_ldiv hx hb d_Ranged_nextShare_10 (by rw [ev_3]; rw [nI_l (by omega)]; intro z; have := (pk_lEQ (b := 0) (by omega) (by decide)).mp z; omega) ?_
    refine lv_topl (fun v_4 ev_4 => ?_)
    have z9 : v_4 = lN (RR / tt) := by subst_vars; rw [nI_l (by omega)]; exact pk_lDiv (by omega) ht0 (by omega)
    subst z9
    refine lv_goto (tgt := 15) hx hb d_Ranged_nextShare_11 (by decide) ?_
    refine lv_lstore_n (lv' := [(2, Value.long (lN (RR / tt))), (0, Value.ref co), (1, Value.int (nI tt))]) hx hb d_Ranged_nextShare_15 rfl hl (by decide) rfl (fun ls hl => ?_)
    refine lv_lload_n hx hb d_Ranged_nextShare_16 rfl (lv_at hl 0 rfl) ?_
    refine lv_lconst (v := 0) hx hb d_Ranged_nextShare_17 (by decide) ?_
    refine W.lcmp hx hb d_Ranged_nextShare_18 ?_
    refine lv_if_gt (tgt := 24) hx hb d_Ranged_nextShare_19 (by decide) (fun c_5 => ?_) (fun c_5 => ?_)
    · rw [lg_cmp_gt] at c_5
      have hr0 : 0 < RR / tt := (L_lt (a := 0) (by decide) (by omega)).mp c_5
      refine lv_aload_n hx hb d_Ranged_nextShare_24 rfl (lv_at hl 1 rfl) ?_
      refine va_get (D := (dC, dI)) (ci := 1) (v := .long (lN CD)) (C := "RangeCoders$Carries") (T := T_Carries) (N := 11) hx hb hg in_Carries hown hK hP 0 rfl rfl 4 (by decide) (hg _ k90) (fun _ h9 => h9) rfl d_Ranged_nextShare_25 ?_
      refine lv_aload_n hx hb d_Ranged_nextShare_28 rfl (lv_at hl 1 rfl) ?_
      refine va_get (D := (dC, dI)) (ci := 1) (v := .long (lN RL)) (C := "RangeCoders$Carries") (T := T_Carries) (N := 11) hx hb hg in_Carries hown hK hP 0 rfl rfl 5 (by decide) (hg _ k93) (fun _ h9 => h9) rfl d_Ranged_nextShare_29 ?_
      refine lv_lsub hx hb d_Ranged_nextShare_32 ?_
      refine lv_topl (fun v_6 ev_6 => ?_)
      refine lv_ldc2 (v := 4294967295) hx hb hown (hg _ k67) d_Ranged_nextShare_33 ?_
      refine lv_land hx hb d_Ranged_nextShare_36 ?_
      refine lv_topl (fun v_7 ev_7 => ?_)
      have z9 : v_7 = lN ((CD + 4294967296 - RL) % 4294967296) := by subst_vars; exact L_sub32 hC hL
      subst z9
      refine lv_lload_n hx hb d_Ranged_nextShare_37 rfl (lv_at hl 0 rfl) ?_
      refine lv_ldiv hx hb d_Ranged_nextShare_38 (by intro z; have := (pk_lEQ (b := 0) (by omega) (by decide)).mp z; omega) ?_
      refine lv_topl (fun v_8 ev_8 => ?_)
      have z9 : v_8 = lN (((CD + 4294967296 - RL) % 4294967296) / (RR / tt)) := by rw [ev_8]; exact pk_lDiv (by omega) hr0 (by omega)
      subst z9
      refine lv_lstore (lv' := [(4, Value.long (lN (((CD + 4294967296 - RL) % 4294967296) / (RR / tt)))), (2, Value.long (lN (RR / tt))), (0, Value.ref co), (1, Value.int (nI tt))]) hx hb d_Ranged_nextShare_39 hl (by decide) rfl (fun ls hl => ?_)
      refine lv_lload hx hb d_Ranged_nextShare_41 (lv_at hl 0 rfl) ?_
      refine lv_iload_n hx hb d_Ranged_nextShare_43 rfl (lv_at hl 3 rfl) ?_
      refine lv_i2l hx hb d_Ranged_nextShare_44 rfl ?_
      refine lv_topl (fun v_9 ev_9 => ?_)
      have z9 : v_9 = lN tt := by rw [ev_9]; exact nI_l (by omega)
      subst z9
      refine W.lcmp hx hb d_Ranged_nextShare_45 ?_
      refine lv_if_ge (tgt := 55) hx hb d_Ranged_nextShare_46 (by decide) (fun c_10 => ?_) (fun c_10 => ?_)
      · rw [lg_cmp_ge] at c_10
        refine lv_iconst (v := (-1)) hx hb d_Ranged_nextShare_55 (by decide) ?_
        exact my_iret (v := (-1)) hx hb hr (rfl) hlocks hQ hK hS (Nat.le_refl _) (Nat.le_refl _) () (by rw [wnt_b hr0 (by have z := (L_le (by omega) (by omega)).mp c_10; omega)]; rfl) (hP.sub [0] rfl) (hD.sub [0] (by decide +kernel) rfl) d_Ranged_nextShare_56
      · rw [lg_cmp_ge] at c_10
        refine lv_lload hx hb d_Ranged_nextShare_49 (lv_at hl 0 rfl) ?_
        refine lv_l2i hx hb d_Ranged_nextShare_51 rfl ?_
        refine lv_topi (fun v_11 ev_11 => ?_)
        have z9 : v_11 = nI (((CD + 4294967296 - RL) % 4294967296) / (RR / tt)) := by rw [ev_11]; exact lN_i _
        subst z9
        refine lv_goto (tgt := 56) hx hb d_Ranged_nextShare_52 (by decide) ?_
        exact my_iret (v := (nI (((CD + 4294967296 - RL) % 4294967296) / (RR / tt)))) hx hb hr (rfl) hlocks hQ hK hS (Nat.le_refl _) (Nat.le_refl _) () (by rw [wnt_s hr0 (by rcases Nat.lt_or_ge (((CD + 4294967296 - RL) % 4294967296) / (RR / tt)) tt with z | z; exact z; exact absurd ((L_le (by omega) (by omega)).mpr z) c_10)]; rfl) (hP.sub [0] rfl) (hD.sub [0] (by decide +kernel) rfl) d_Ranged_nextShare_56
    · rw [lg_cmp_gt] at c_5
      refine lv_iconst (v := (-1)) hx hb d_Ranged_nextShare_22 (by decide) ?_
      exact my_iret (v := (-1)) hx hb hr (rfl) hlocks hQ hK hS (Nat.le_refl _) (Nat.le_refl _) () (by rw [wnt_z (by rcases Nat.eq_zero_or_pos (RR / tt) with z | z; exact z; exact absurd ((L_lt (a := 0) (by decide) (by omega)).mpr z) c_5)]; rfl) (hP.sub [0] rfl) (hD.sub [0] (by decide +kernel) rfl) d_Ranged_nextShare_23
set_option maxHeartbeats 2000000 in
set_option maxRecDepth 100000 in
theorem f_NoCarries_nextShare (l : Launch) (dC : Nat → ClassId) (dI : Nat → Nat → Nat) (cI cM cO : ClassId) (sz : Nat) (co : Nat) (xlow : Int64) (xrange : Int64) (ri : Nat) (ro : Nat) (rw : Nat) (xasked : Int32) (RR : Nat) (CD : Nat) (RL : Nat) (tt : Nat) (hR1 : RR < 4294967296) (hC : CD < 4294967296) (hL : RL < 4294967296) (ht : tt < 2147483648) : MetI l y_Ranged_nextShare (Cond.code y_Ranged_nextShare prog_8_method_14_code 6 (some .int) :: gw) ({ frames := 0, cells := 0, slots := 0, locals := 0 } : Room) (dC, dI) vwCl (kT cI cM cO) [Value.ref co, Value.int (nI tt)] [(co, Sum.inr (2, [Value.long xlow, Value.long xrange, Value.long (lN CD), Value.long (lN RL), Value.long (lN RR), Value.ref ri, Value.ref ro, Value.ref rw, Value.int xasked]))] sz (fun (r : Int32) (u : Unit) => r = oI (wnt tt RR ((CD + 4294967296 - RL) % 4294967296))) (fun (u : Unit) => [(co, Sum.inr (2, [Value.long xlow, Value.long xrange, Value.long (lN CD), Value.long (lN RL), Value.long (lN RR), Value.ref ri, Value.ref ro, Value.ref rw, Value.int xasked]))]) 0 0 := by
  refine my_ofI (cc := prog_8_method_14_code) (n := 6) (ret := (some .int)) (by decide) rfl (Nat.le_of_ble_eq_true rfl) ?_
  intro p e s m args below meth c R Q A ls H locs hx hb hr hts hown hlocks hml hnm hR hQ hA hl hP hK hN hD hS
  have hg : ∀ w ∈ gw, w.before args s = true := fun w h => hts w (List.mem_cons_of_mem _ h)
  have hown : s.vm.findClass "RangeCoders$Ranged" = some m.cls := hown
  have hl : lv_has ls 6 [(0, Value.ref co), (1, Value.int (nI tt))] := hl
  have hd5 : RR / tt ≤ RR := Nat.div_le_self _ _
  have hd6 : ((CD + 4294967296 - RL) % 4294967296) / (RR / tt) ≤ ((CD + 4294967296 - RL) % 4294967296) := Nat.div_le_self _ _
  have hd7 : ((CD + 4294967296 - RL) % 4294967296) < 4294967296 := Nat.mod_lt _ (by decide)
  refine lv_iload_n hx hb d_Ranged_nextShare_0 rfl (lv_at hl 1 rfl) ?_
  refine lv_if_le (tgt := 14) hx hb d_Ranged_nextShare_1 (by decide) (fun c_1 => ?_) (fun c_1 => ?_)
  · refine lv_lconst (v := 0) hx hb d_Ranged_nextShare_14 (by decide) ?_
    refine lv_lstore_n (lv' := [(2, Value.long 0), (0, Value.ref co), (1, Value.int (nI tt))]) hx hb d_Ranged_nextShare_15 rfl hl (by decide) rfl (fun ls hl => ?_)
    refine lv_lload_n hx hb d_Ranged_nextShare_16 rfl (lv_at hl 0 rfl) ?_
    refine lv_lconst (v := 0) hx hb d_Ranged_nextShare_17 (by decide) ?_
    refine W.lcmp hx hb d_Ranged_nextShare_18 ?_
    refine lv_if_gt (tgt := 24) hx hb d_Ranged_nextShare_19 (by decide) (fun c_2 => ?_) (fun c_2 => ?_)
    · rw [lg_cmp_gt] at c_2
      exact absurd c_2 (by decide)
    · rw [lg_cmp_gt] at c_2
      refine lv_iconst (v := (-1)) hx hb d_Ranged_nextShare_22 (by decide) ?_
      exact my_iret (v := (-1)) hx hb hr (rfl) hlocks hQ hK hS (Nat.le_refl _) (Nat.le_refl _) () (by rw [show tt = 0 from nI_z0 (by omega) c_1, wnt_0]; rfl) (hP.sub [0] rfl) (hD.sub [0] (by decide +kernel) rfl) d_Ranged_nextShare_23
  · have ht0 : 0 < tt := by
      rcases Nat.eq_zero_or_pos tt with z | z
      · exact absurd (by rw [z]; exact Int32.le_refl _) c_1
      · exact z
    refine lv_aload_n hx hb d_Ranged_nextShare_4 rfl (lv_at hl 0 rfl) ?_
    refine va_get (D := (dC, dI)) (ci := 2) (v := .long (lN RR)) (C := "RangeCoders$NoCarries") (T := T_NoCarries) (N := 9) hx hb hg in_NoCarries hown hK hP 0 rfl rfl 4 (by decide) (hg _ k100) (fun _ h9 => h9) rfl d_Ranged_nextShare_5 ?_
    refine lv_iload_n hx hb d_Ranged_nextShare_8 rfl (lv_at hl 1 rfl) ?_
    refine lv_i2l hx hb d_Ranged_nextShare_9 rfl ?_
    refine lv_topl (fun v_3 ev_3 => ?_)
    refine lv_ldiv hx hb d_Ranged_nextShare_10 (by rw [ev_3]; rw [nI_l (by omega)]; intro z; have := (pk_lEQ (b := 0) (by omega) (by decide)).mp z; omega) ?_
    refine lv_topl (fun v_4 ev_4 => ?_)
    have z9 : v_4 = lN (RR / tt) := by subst_vars; rw [nI_l (by omega)]; exact pk_lDiv (by omega) ht0 (by omega)
    subst z9
    refine lv_goto (tgt := 15) hx hb d_Ranged_nextShare_11 (by decide) ?_
    refine lv_lstore_n (lv' := [(2, Value.long (lN (RR / tt))), (0, Value.ref co), (1, Value.int (nI tt))]) hx hb d_Ranged_nextShare_15 rfl hl (by decide) rfl (fun ls hl => ?_)
    refine lv_lload_n hx hb d_Ranged_nextShare_16 rfl (lv_at hl 0 rfl) ?_
    refine lv_lconst (v := 0) hx hb d_Ranged_nextShare_17 (by decide) ?_
    refine W.lcmp hx hb d_Ranged_nextShare_18 ?_
    refine lv_if_gt (tgt := 24) hx hb d_Ranged_nextShare_19 (by decide) (fun c_5 => ?_) (fun c_5 => ?_)
    · rw [lg_cmp_gt] at c_5
      have hr0 : 0 < RR / tt := (L_lt (a := 0) (by decide) (by omega)).mp c_5
      refine lv_aload_n hx hb d_Ranged_nextShare_24 rfl (lv_at hl 1 rfl) ?_
      refine va_get (D := (dC, dI)) (ci := 2) (v := .long (lN CD)) (C := "RangeCoders$NoCarries") (T := T_NoCarries) (N := 9) hx hb hg in_NoCarries hown hK hP 0 rfl rfl 2 (by decide) (hg _ k90) (fun _ h9 => h9) rfl d_Ranged_nextShare_25 ?_
      refine lv_aload_n hx hb d_Ranged_nextShare_28 rfl (lv_at hl 1 rfl) ?_
      refine va_get (D := (dC, dI)) (ci := 2) (v := .long (lN RL)) (C := "RangeCoders$NoCarries") (T := T_NoCarries) (N := 9) hx hb hg in_NoCarries hown hK hP 0 rfl rfl 3 (by decide) (hg _ k93) (fun _ h9 => h9) rfl d_Ranged_nextShare_29 ?_
      refine lv_lsub hx hb d_Ranged_nextShare_32 ?_
      refine lv_topl (fun v_6 ev_6 => ?_)
      refine lv_ldc2 (v := 4294967295) hx hb hown (hg _ k67) d_Ranged_nextShare_33 ?_
      refine lv_land hx hb d_Ranged_nextShare_36 ?_
      refine lv_topl (fun v_7 ev_7 => ?_)
      have z9 : v_7 = lN ((CD + 4294967296 - RL) % 4294967296) := by subst_vars; exact L_sub32 hC hL
      subst z9
      refine lv_lload_n hx hb d_Ranged_nextShare_37 rfl (lv_at hl 0 rfl) ?_
      refine lv_ldiv hx hb d_Ranged_nextShare_38 (by intro z; have := (pk_lEQ (b := 0) (by omega) (by decide)).mp z; omega) ?_
      refine lv_topl (fun v_8 ev_8 => ?_)
      have z9 : v_8 = lN (((CD + 4294967296 - RL) % 4294967296) / (RR / tt)) := by rw [ev_8]; exact pk_lDiv (by omega) hr0 (by omega)
      subst z9
      refine lv_lstore (lv' := [(4, Value.long (lN (((CD + 4294967296 - RL) % 4294967296) / (RR / tt)))), (2, Value.long (lN (RR / tt))), (0, Value.ref co), (1, Value.int (nI tt))]) hx hb d_Ranged_nextShare_39 hl (by decide) rfl (fun ls hl => ?_)
      refine lv_lload hx hb d_Ranged_nextShare_41 (lv_at hl 0 rfl) ?_
      refine lv_iload_n hx hb d_Ranged_nextShare_43 rfl (lv_at hl 3 rfl) ?_
      refine lv_i2l hx hb d_Ranged_nextShare_44 rfl ?_
      refine lv_topl (fun v_9 ev_9 => ?_)
      have z9 : v_9 = lN tt := by rw [ev_9]; exact nI_l (by omega)
      subst z9
      refine W.lcmp hx hb d_Ranged_nextShare_45 ?_
      refine lv_if_ge (tgt := 55) hx hb d_Ranged_nextShare_46 (by decide) (fun c_10 => ?_) (fun c_10 => ?_)
      · rw [lg_cmp_ge] at c_10
        refine lv_iconst (v := (-1)) hx hb d_Ranged_nextShare_55 (by decide) ?_
        exact my_iret (v := (-1)) hx hb hr (rfl) hlocks hQ hK hS (Nat.le_refl _) (Nat.le_refl _) () (by rw [wnt_b hr0 (by have z := (L_le (by omega) (by omega)).mp c_10; omega)]; rfl) (hP.sub [0] rfl) (hD.sub [0] (by decide +kernel) rfl) d_Ranged_nextShare_56
      · rw [lg_cmp_ge] at c_10
        refine lv_lload hx hb d_Ranged_nextShare_49 (lv_at hl 0 rfl) ?_
        refine lv_l2i hx hb d_Ranged_nextShare_51 rfl ?_
        refine lv_topi (fun v_11 ev_11 => ?_)
        have z9 : v_11 = nI (((CD + 4294967296 - RL) % 4294967296) / (RR / tt)) := by rw [ev_11]; exact lN_i _
        subst z9
        refine lv_goto (tgt := 56) hx hb d_Ranged_nextShare_52 (by decide) ?_
        exact my_iret (v := (nI (((CD + 4294967296 - RL) % 4294967296) / (RR / tt)))) hx hb hr (rfl) hlocks hQ hK hS (Nat.le_refl _) (Nat.le_refl _) () (by rw [wnt_s hr0 (by rcases Nat.lt_or_ge (((CD + 4294967296 - RL) % 4294967296) / (RR / tt)) tt with z | z; exact z; exact absurd ((L_le (by omega) (by omega)).mpr z) c_10)]; rfl) (hP.sub [0] rfl) (hD.sub [0] (by decide +kernel) rfl) d_Ranged_nextShare_56
    · rw [lg_cmp_gt] at c_5
      refine lv_iconst (v := (-1)) hx hb d_Ranged_nextShare_22 (by decide) ?_
      exact my_iret (v := (-1)) hx hb hr (rfl) hlocks hQ hK hS (Nat.le_refl _) (Nat.le_refl _) () (by rw [wnt_z (by rcases Nat.eq_zero_or_pos (RR / tt) with z | z; exact z; exact absurd ((L_lt (a := 0) (by decide) (by omega)).mpr z) c_5)]; rfl) (hP.sub [0] rfl) (hD.sub [0] (by decide +kernel) rfl) d_Ranged_nextShare_23
set_option maxHeartbeats 2000000 in
set_option maxRecDepth 100000 in
theorem f_Odds_signAt (l : Launch) (dC : Nat → ClassId) (dI : Nat → Nat → Nat) (cI cM cO : ClassId) (sz : Nat) (oo : Nat) (osg : Int32) (ofc : Int32) (oca : Nat) (opa : Nat) (n : Nat) (ocf : Nat → Int32) (opl : Nat) (opf : Nat → Int32) (F : Nat → Nat) (osm : Int32) (uu : Nat) (hn : n ≤ 64) (hpl : opl ≤ 512) (hf : tbI ocf n F) (hsum : ns F n ≤ 8192) (hu : uu < 2147483648) : MetI l y_Odds_signAt (Cond.code y_Odds_signAt prog_7_method_9_code 4 (some .int) :: gw) ({ frames := 0, cells := 0, slots := 0, locals := 0 } : Room) (dC, dI) vwCl (kT cI cM cO) [Value.ref oo, Value.int (nI uu)] [(oo, Sum.inr (7, [Value.int osg, Value.int osm, Value.int ofc, Value.ref oca, Value.ref opa])), (oca, Sum.inl (cI, n, Sum.inl ocf)), (opa, Sum.inl (cI, opl, Sum.inl opf))] sz (fun (r : Int32) (u : Unit) => r = if uu < ns F n then nI (sgA F n uu) else -1) (fun (u : Unit) => [(oo, Sum.inr (7, [Value.int osg, Value.int osm, Value.int ofc, Value.ref oca, Value.ref opa])), (oca, Sum.inl (cI, n, Sum.inl ocf)), (opa, Sum.inl (cI, opl, Sum.inl opf))]) 0 0 := by
  refine my_ofI (cc := prog_7_method_9_code) (n := 4) (ret := (some .int)) (by decide) rfl (Nat.le_of_ble_eq_true rfl) ?_
  intro p e s m args below meth c R Q A ls H locs hx hb hr hts hown hlocks hml hnm hR hQ hA hl hP hK hN hD hS
  have hg : ∀ w ∈ gw, w.before args s = true := fun w h => hts w (List.mem_cons_of_mem _ h)
  have hown : s.vm.findClass "RangeCoders$Odds" = some m.cls := hown
  have hl : lv_has ls 4 [(0, Value.ref oo), (1, Value.int (nI uu))] := hl
  refine lv_iconst (v := 0) hx hb d_Odds_signAt_0 (by decide) ?_
  refine lv_istore_n (lv' := [(2, Value.int 0), (0, Value.ref oo), (1, Value.int (nI uu))]) hx hb d_Odds_signAt_1 rfl hl (by decide) rfl (fun ls hl => ?_)
  refine lv_iconst (v := 0) hx hb d_Odds_signAt_2 (by decide) ?_
  refine lv_istore_n (lv' := [(3, Value.int 0), (2, Value.int 0), (0, Value.ref oo), (1, Value.int (nI uu))]) hx hb d_Odds_signAt_3 rfl hl (by decide) rfl (fun ls hl => ?_)
  have J_4 : ∀ (n9_4 : Nat) (j : Nat) (hn9_4 : n - j = n9_4) (hj : j ≤ n) (hnj : ns F j ≤ uu) (H : Heap) (locs : List Loc) (ls : Array Slot), va_P (dC, dI) vwCl [(oo, Sum.inr (7, [Value.int osg, Value.int osm, Value.int ofc, Value.ref oca, Value.ref opa])), (oca, Sum.inl (cI, n, Sum.inl ocf)), (opa, Sum.inl (cI, opl, Sum.inl opf))] H → va_D A [(oo, Sum.inr (7, [Value.int osg, Value.int osm, Value.int ofc, Value.ref oca, Value.ref opa])), (oca, Sum.inl (cI, n, Sum.inl ocf)), (opa, Sum.inl (cI, opl, Sum.inl opf))] → va_S A s.heap H locs → lv_has ls 4 [(3, Value.int (nI j)), (2, Value.int (nI (ns F j))), (0, Value.ref oo), (1, Value.int (nI uu))] → W p l e R s m args below meth c H locs 0 0 Q (F0 m 4 ls []) := by
    intro n9_4
    induction n9_4 using Nat.strongRecOn with
    | ind n9_4 ih9_4 =>
      intro j hn9_4 hj hnj H locs ls hP hD hS hl
      refine lv_iload_n hx hb d_Odds_signAt_4 rfl (lv_at hl 0 rfl) ?_
      refine lv_aload_n hx hb d_Odds_signAt_5 rfl (lv_at hl 2 rfl) ?_
      refine va_get (D := (dC, dI)) (ci := 7) (v := .ref oca) (C := "RangeCoders$Odds") (T := T_Odds) (N := 5) hx hb hg in_Odds hown hK hP 0 rfl rfl 3 (by decide) (hg _ k309) (fun _ h9 => h9) rfl d_Odds_signAt_6 ?_
      refine va_alen hx hb hK hP 1 0 rfl rfl (v := nI n) rfl d_Odds_signAt_9 ?_
      refine lv_icmp_ge (tgt := 35) hx hb d_Odds_signAt_10 (by decide) (fun c_1 => ?_) (fun c_1 => ?_)
      · have hj3 : n = j := by have := nI_ge' (by omega) (by omega) c_1; omega
        subst hj3
        have hPD : my_PD (dC, dI) vwCl A [(oo, Sum.inr (7, [Value.int osg, Value.int osm, Value.int ofc, Value.ref oca, Value.ref opa])), (oca, Sum.inl (cI, n, Sum.inl ocf)), (opa, Sum.inl (cI, opl, Sum.inl opf))] H := ⟨hP, hD⟩
        have hP := hPD.1
        have hD := hPD.2
        refine lv_iconst (v := (-1)) hx hb d_Odds_signAt_35 (by decide) ?_
        exact my_iret (v := (-1)) hx hb hr (rfl) hlocks hQ hK hS (Nat.le_refl _) (Nat.le_refl _) () (by rw [if_neg (by omega)]) (hP.sub [0, 1, 2] rfl) (hD.sub [0, 1, 2] (by decide +kernel) rfl) d_Odds_signAt_36
      · have hj2 : j < n := nI_lt' (by omega) c_1
        have hm9 := ns_m F (show j + 1 ≤ n from hj2)
        have hm8 : ns F (j + 1) = ns F j + F j := rfl
        refine lv_iload_n hx hb d_Odds_signAt_13 rfl (lv_at hl 1 rfl) ?_
        refine lv_aload_n hx hb d_Odds_signAt_14 rfl (lv_at hl 2 rfl) ?_
        refine va_get (D := (dC, dI)) (ci := 7) (v := .ref oca) (C := "RangeCoders$Odds") (T := T_Odds) (N := 5) hx hb hg in_Odds hown hK hP 0 rfl rfl 3 (by decide) (hg _ k309) (fun _ h9 => h9) rfl d_Odds_signAt_15 ?_
        refine lv_iload_n hx hb d_Odds_signAt_18 rfl (lv_at hl 0 rfl) ?_
        refine va_iald hx hb hK hP 1 0 rfl rfl (vp_in_nI hj2 (by omega)) d_Odds_signAt_19 ?_
        refine lv_topi (fun v_2 ev_2 => ?_)
        refine lv_iadd hx hb d_Odds_signAt_20 ?_
        refine lv_topi (fun v_3 ev_3 => ?_)
        have z9 : v_3 = nI (ns F (j + 1)) := by subst_vars; rw [tb_rd hf hj2 (by omega), nI_add]; rfl
        subst z9
        refine lv_istore_n (lv' := [(2, Value.int (nI (ns F (j + 1)))), (3, Value.int (nI j)), (0, Value.ref oo), (1, Value.int (nI uu))]) hx hb d_Odds_signAt_21 rfl hl (by decide) rfl (fun ls hl => ?_)
        refine lv_iload_n hx hb d_Odds_signAt_22 rfl (lv_at hl 3 rfl) ?_
        refine lv_iload_n hx hb d_Odds_signAt_23 rfl (lv_at hl 0 rfl) ?_
        refine lv_icmp_ge (tgt := 29) hx hb d_Odds_signAt_24 (by decide) (fun c_4 => ?_) (fun c_4 => ?_)
        · have hnj8 : ns F (j + 1) ≤ uu := nI_ge' (by omega) (by omega) c_4
          obtain ⟨v_5, ev_5⟩ : ∃ y : Int32, y = (nI j) + (1) := ⟨_, rfl⟩
          refine lv_iinc (v := v_5) (lv' := [(3, Value.int v_5), (2, Value.int (nI (ns F (j + 1)))), (0, Value.ref oo), (1, Value.int (nI uu))]) hx hb d_Odds_signAt_29 hl (k := 1) rfl (by rw [ev_5]; rfl) (by decide) rfl (fun ls hl => ?_)
          have z9 : v_5 = nI (j + 1) := by rw [ev_5]; exact nI_1 _
          subst z9
          refine lv_goto (tgt := 4) hx hb d_Odds_signAt_32 (by decide) ?_
          exact ih9_4 _ (by first | omega | (omega)) (j + 1) rfl (by omega) (hnj8) H locs ls (hP.sub [0, 1, 2] rfl) (hD.sub [0, 1, 2] (by decide +kernel) rfl) hS (lv_sub hl [0, 1, 2, 3] rfl)
        · have hlu : uu < ns F j + F j := nI_lt' (by omega) c_4
          refine lv_iload_n hx hb d_Odds_signAt_27 rfl (lv_at hl 1 rfl) ?_
          exact my_iret (v := nI j) hx hb hr (rfl) hlocks hQ hK hS (Nat.le_refl _) (Nat.le_refl _) () (by rw [if_pos (show uu < ns F n from Nat.lt_of_lt_of_le hlu (ns_m F (show j + 1 ≤ n from hj2))), sgA_eq hj2 hnj hlu]) (hP.sub [0, 1, 2] rfl) (hD.sub [0, 1, 2] (by decide +kernel) rfl) d_Odds_signAt_28
  exact J_4 _ (0 : Nat) rfl (Nat.zero_le _) (Nat.zero_le _) H locs ls (hP.sub [0, 1, 2] rfl) (hD.sub [0, 1, 2] (by decide +kernel) rfl) hS (lv_sub hl [0, 1, 2, 3] rfl)
end
section
set_option maxHeartbeats 2000000 in
set_option maxRecDepth 100000 in
theorem f_Carries_readPart (l : Launch) (dC : Nat → ClassId) (dI : Nat → Nat → Nat) (cI cM cO : ClassId) (sz : Nat) (co : Nat) (xcache : Int32) (xpending : Int32) (xlow : Int64) (xrange : Int64) (xreadLow : Int64) (ri : Nat) (ro : Nat) (rw : Nat) (ria : Nat) (rik : Nat) (rif : Nat → Int32) (is : List Nat) (RR : Nat) (CD : Nat) (q : Nat) (cc : Nat) (ff : Nat) (tt : Nat) (hri : rOk (nI is.length) rik) (hGri : gIs rif is) (hLri : is.length ≤ 6000) (hoct : oct is) (ht0 : 0 < tt) (ht1 : tt < 2 ^ 31) (hcf : cc + ff ≤ tt) (hff : 0 < ff) (hRt : tt ≤ RR) (hR1 : RR < 4294967296) (hC : CD < 4294967296) (hCc : RR / tt * cc ≤ CD) (hq : q < 900000000) : MetV l y_Carries_readPart (Cond.code y_Carries_readPart prog_3_method_4_code 6 none :: gw) ({ frames := 4, cells := 0, slots := 0, locals := 84 } : Room) (dC, dI) vwCl (kT cI cM cO) [Value.ref co, Value.int (nI ff), Value.int (nI cc), Value.int (nI tt)] [(co, Sum.inr (1, [Value.int xcache, Value.int xpending, Value.long xlow, Value.long xrange, Value.long (lN CD), Value.long xreadLow, Value.long (lN RR), Value.ref ri, Value.ref ro, Value.ref rw, Value.int (nI q)])), (ri, Sum.inr (0, [Value.int (nI is.length), Value.ref ria])), (ria, Sum.inl (cI, rik, Sum.inl rif))] sz (fun (u : Unit) => True) (fun (u : Unit) => [(co, Sum.inr (1, [Value.int xcache, Value.int xpending, Value.long xlow, Value.long xrange, Value.long (lN (wrS is (RR / tt * ff, CD - RR / tt * cc, q)).2.1), Value.long xreadLow, Value.long (lN (wrS is (RR / tt * ff, CD - RR / tt * cc, q)).1), Value.ref ri, Value.ref ro, Value.ref rw, Value.int (nI (wrS is (RR / tt * ff, CD - RR / tt * cc, q)).2.2)])), (ri, Sum.inr (0, [Value.int (nI is.length), Value.ref ria])), (ria, Sum.inl (cI, rik, Sum.inl rif))]) 0 0 := by
  refine my_ofV (cc := prog_3_method_4_code) (n := 6) (ret := none) (by decide) rfl (Nat.le_of_ble_eq_true rfl) ?_
  intro p e s m args below meth c R Q A ls H locs hx hb hr hts hown hlocks hml hnm hR hQ hA hl hP hK hN hD hS
  have hg : ∀ w ∈ gw, w.before args s = true := fun w h => hts w (List.mem_cons_of_mem _ h)
  have hown : s.vm.findClass "RangeCoders$Carries" = some m.cls := hown
  have hl : lv_has ls 6 [(0, Value.ref co), (1, Value.int (nI ff)), (2, Value.int (nI cc)), (3, Value.int (nI tt))] := hl
  have hlti := rOk_lt hri
  have hd1 : RR / tt * tt ≤ RR := Nat.div_mul_le_self _ _
  have hd2 : RR / tt * cc + RR / tt * ff ≤ RR / tt * tt := by rw [← Nat.mul_add]; exact Nat.mul_le_mul_left _ hcf
  have hd3 : 0 < RR / tt := Nat.div_pos hRt ht0
  have hd4 : 0 < RR / tt * ff := Nat.mul_pos hd3 hff
  have hd5 : RR / tt ≤ RR := Nat.div_le_self _ _
  generalize hrc : RR / tt * cc = rc at hd2
  generalize hrf : RR / tt * ff = rf at hd2 hd4
  rw [hrc] at hCc
  refine lv_iload_n hx hb d_Carries_readPart_0 rfl (lv_at hl 3 rfl) ?_
  refine lv_if_le (tgt := 14) hx hb d_Carries_readPart_1 (by decide) (fun c_1 => ?_) (fun c_1 => ?_)
  · exact absurd c_1 (nI_nle ht0 (by omega))
  · refine lv_aload_n hx hb d_Carries_readPart_4 rfl (lv_at hl 0 rfl) ?_
    refine va_get (D := (dC, dI)) (ci := 1) (v := .long (lN RR)) (C := "RangeCoders$Carries") (T := T_Carries) (N := 11) hx hb hg in_Carries hown hK hP 0 rfl rfl 6 (by decide) (hg _ k96) (fun x9 h9 => u_same (hg _ k97) x9 h9) rfl d_Carries_readPart_5 ?_
    refine lv_iload_n hx hb d_Carries_readPart_8 rfl (lv_at hl 3 rfl) ?_
    refine lv_i2l hx hb d_Carries_readPart_9 rfl ?_
    refine lv_topl (fun v_2 ev_2 => ?_)
    refine lv_ldiv hx hb d_Carries_readPart_10 (by rw [ev_2]; rw [nI_l (by omega)]; intro z; have := (pk_lEQ (b := 0) (by omega) (by decide)).mp z; omega) ?_
    refine lv_topl (fun v_3 ev_3 => ?_)
    refine lv_goto (tgt := 15) hx hb d_Carries_readPart_11 (by decide) ?_
    have z9 : v_3 = lN (RR / tt) := by subst_vars; rw [nI_l (by omega)]; exact pk_lDiv (by omega) ht0 (by omega)
    subst z9
    refine lv_lstore (lv' := [(4, Value.long (lN (RR / tt))), (0, Value.ref co), (1, Value.int (nI ff)), (2, Value.int (nI cc)), (3, Value.int (nI tt))]) hx hb d_Carries_readPart_15 hl (by decide) rfl (fun ls hl => ?_)
    refine lv_aload_n hx hb d_Carries_readPart_17 rfl (lv_at hl 1 rfl) ?_
    refine lv_dup hx hb d_Carries_readPart_18 rfl ?_
    refine va_get (D := (dC, dI)) (ci := 1) (v := .long (lN CD)) (C := "RangeCoders$Carries") (T := T_Carries) (N := 11) hx hb hg in_Carries hown hK hP 0 rfl rfl 4 (by decide) (hg _ k86) (fun x9 h9 => u_same (hg _ k87) x9 h9) rfl d_Carries_readPart_19 ?_
    refine lv_lload hx hb d_Carries_readPart_22 (lv_at hl 0 rfl) ?_
    refine lv_iload_n hx hb d_Carries_readPart_24 rfl (lv_at hl 3 rfl) ?_
    refine lv_i2l hx hb d_Carries_readPart_25 rfl ?_
    refine lv_topl (fun v_4 ev_4 => ?_)
    refine lv_lmul hx hb d_Carries_readPart_26 ?_
    refine lv_topl (fun v_5 ev_5 => ?_)
    refine lv_lsub hx hb d_Carries_readPart_27 ?_
    refine lv_topl (fun v_6 ev_6 => ?_)
    have z9 : v_6 = lN (CD - rc) := by subst_vars; rw [nI_l (by omega), lN_mul]; exact lN_sub hCc
    subst z9
    refine va_put (D := (dC, dI)) (ci := 1) (v := .long (lN (CD - rc))) (ty := .long) (C := "RangeCoders$Carries") (T := T_Carries) (N := 11) hx hb hg in_Carries t_Carries o_Carries n_Carries hown hK hP hD hS 0 rfl rfl 4 (by decide) (hg _ k86) (fun x9 h9 => u_same (hg _ k87) x9 h9) rfl (o_Carries 4 (by decide)) rfl rfl (Nat.le_of_ble_eq_true rfl) d_Carries_readPart_28 (fun H locs hP hD hS => ?_)
    have hPD : my_PD (dC, dI) vwCl A [(co, Sum.inr (1, [Value.int xcache, Value.int xpending, Value.long xlow, Value.long xrange, Value.long (lN (CD - rc)), Value.long xreadLow, Value.long (lN RR), Value.ref ri, Value.ref ro, Value.ref rw, Value.int (nI q)])), (ri, Sum.inr (0, [Value.int (nI is.length), Value.ref ria])), (ria, Sum.inl (cI, rik, Sum.inl rif))] H := ⟨hP, hD⟩
    have hP := hPD.1
    have hD := hPD.2
    refine lv_aload_n hx hb d_Carries_readPart_31 rfl (lv_at hl 1 rfl) ?_
    refine lv_lload hx hb d_Carries_readPart_32 (lv_at hl 0 rfl) ?_
    refine lv_iload_n hx hb d_Carries_readPart_34 rfl (lv_at hl 2 rfl) ?_
    refine lv_i2l hx hb d_Carries_readPart_35 rfl ?_
    refine lv_topl (fun v_7 ev_7 => ?_)
    refine lv_lmul hx hb d_Carries_readPart_36 ?_
    refine lv_topl (fun v_8 ev_8 => ?_)
    have z9 : v_8 = lN rf := by subst_vars; rw [nI_l (by omega), lN_mul]
    subst z9
    refine va_put (D := (dC, dI)) (ci := 1) (v := .long (lN rf)) (ty := .long) (C := "RangeCoders$Carries") (T := T_Carries) (N := 11) hx hb hg in_Carries t_Carries o_Carries n_Carries hown hK hP hD hS 0 rfl rfl 6 (by decide) (hg _ k96) (fun x9 h9 => u_same (hg _ k97) x9 h9) rfl (o_Carries 6 (by decide)) rfl rfl (Nat.le_of_ble_eq_true rfl) d_Carries_readPart_37 (fun H locs hP hD hS => ?_)
    have hPD : my_PD (dC, dI) vwCl A [(co, Sum.inr (1, [Value.int xcache, Value.int xpending, Value.long xlow, Value.long xrange, Value.long (lN (CD - rc)), Value.long xreadLow, Value.long (lN rf), Value.ref ri, Value.ref ro, Value.ref rw, Value.int (nI q)])), (ri, Sum.inr (0, [Value.int (nI is.length), Value.ref ria])), (ria, Sum.inl (cI, rik, Sum.inl rif))] H := ⟨hP, hD⟩
    have hP := hPD.1
    have hD := hPD.2
    refine lv_aload_n hx hb d_Carries_readPart_40 rfl (lv_at hl 1 rfl) ?_
    refine my_cv (wr := []) (va_runV (As := []) (rest := []) ⟨hx, hb, hml, hown, hts⟩ (f_Carries_widenReading l dC dI cI cM cO H.size co xcache xpending xlow xrange xreadLow ri ro rw ria rik rif is rf (CD - rc) q (hri) (hGri) (hLri) (hoct) (hd4) (by omega) (by omega) (hq)) (cwV 0 hts (my_gV k821 k793 k1292 k5 k794) rfl rfl rfl cu_Carries_widenReading_0 ⟨by rw [hR]; exact Nat.le_of_ble_eq_true rfl, by rw [hR]; exact Nat.le_of_ble_eq_true rfl⟩) (my_preV hK hN (hP.sub [0, 1, 2] rfl) (hD.sub [0, 1, 2] (by decide +kernel) rfl) 0 rfl rfl) rfl rfl hl.1 rfl (lv_room (Nat.le_of_ble_eq_true rfl)) d_Carries_readPart_41 ⟨by rw [hR]; exact Nat.le_of_ble_eq_true rfl, by rw [hR]; exact Nat.le_of_ble_eq_true rfl⟩) hP hD hS hA [0, 1, 2] [] rfl rfl (by decide +kernel) (by decide +kernel) (fun u9 H locs hw_41 hP hD hS => ?_)
    have hPD : my_PD (dC, dI) vwCl A [(co, Sum.inr (1, [Value.int xcache, Value.int xpending, Value.long xlow, Value.long xrange, Value.long (lN (wrS is (rf, (CD - rc), q)).2.1), Value.long xreadLow, Value.long (lN (wrS is (rf, (CD - rc), q)).1), Value.ref ri, Value.ref ro, Value.ref rw, Value.int (nI (wrS is (rf, (CD - rc), q)).2.2)])), (ri, Sum.inr (0, [Value.int (nI is.length), Value.ref ria])), (ria, Sum.inl (cI, rik, Sum.inl rif))] H := ⟨hP, hD⟩
    have hP := hPD.1
    have hD := hPD.2
    subst hrc
    subst hrf
    have hPD : my_PD (dC, dI) vwCl A [(co, Sum.inr (1, [Value.int xcache, Value.int xpending, Value.long xlow, Value.long xrange, Value.long (lN (wrS is ((RR / tt * ff), (CD - (RR / tt * cc)), q)).2.1), Value.long xreadLow, Value.long (lN (wrS is ((RR / tt * ff), (CD - (RR / tt * cc)), q)).1), Value.ref ri, Value.ref ro, Value.ref rw, Value.int (nI (wrS is ((RR / tt * ff), (CD - (RR / tt * cc)), q)).2.2)])), (ri, Sum.inr (0, [Value.int (nI is.length), Value.ref ria])), (ria, Sum.inl (cI, rik, Sum.inl rif))] H := ⟨hP, hD⟩
    have hP := hPD.1
    have hD := hPD.2
    exact my_vret hx hb hr hlocks hQ hK hS (Nat.le_refl _) (Nat.le_refl _) () (trivial) (hP.sub [0, 1, 2] rfl) (hD.sub [0, 1, 2] (by decide +kernel) rfl) d_Carries_readPart_44
set_option maxHeartbeats 2000000 in
set_option maxRecDepth 100000 in
theorem f_NoCarries_readPart (l : Launch) (dC : Nat → ClassId) (dI : Nat → Nat → Nat) (cI cM cO : ClassId) (sz : Nat) (co : Nat) (xlow : Int64) (xrange : Int64) (ri : Nat) (ro : Nat) (rw : Nat) (ria : Nat) (rik : Nat) (rif : Nat → Int32) (is : List Nat) (RR : Nat) (RL : Nat) (CD : Nat) (q : Nat) (cc : Nat) (ff : Nat) (tt : Nat) (hri : rOk (nI is.length) rik) (hGri : gIs rif is) (hLri : is.length ≤ 6000) (hoct : oct is) (ht0 : 0 < tt) (ht1 : tt < 2 ^ 31) (hcf : cc + ff ≤ tt) (hff : 0 < ff) (hRt : tt ≤ RR) (hp : pOk RR RL) (hC : CD < 4294967296) (hq : q < 900000000) : MetV l y_NoCarries_readPart (Cond.code y_NoCarries_readPart prog_6_method_3_code 7 none :: gw) ({ frames := 3, cells := 0, slots := 0, locals := 63 } : Room) (dC, dI) vwCl (kT cI cM cO) [Value.ref co, Value.int (nI ff), Value.int (nI cc), Value.int (nI tt)] [(co, Sum.inr (2, [Value.long xlow, Value.long xrange, Value.long (lN CD), Value.long (lN RL), Value.long (lN RR), Value.ref ri, Value.ref ro, Value.ref rw, Value.int (nI q)])), (ri, Sum.inr (0, [Value.int (nI is.length), Value.ref ria])), (ria, Sum.inl (cI, rik, Sum.inl rif))] sz (fun (u : Unit) => True) (fun (u : Unit) => [(co, Sum.inr (2, [Value.long xlow, Value.long xrange, Value.long (lN (prS is (RR / tt * ff, RL + RR / tt * cc, CD, q)).2.2.1), Value.long (lN (prS is (RR / tt * ff, RL + RR / tt * cc, CD, q)).2.1), Value.long (lN (prS is (RR / tt * ff, RL + RR / tt * cc, CD, q)).1), Value.ref ri, Value.ref ro, Value.ref rw, Value.int (nI (prS is (RR / tt * ff, RL + RR / tt * cc, CD, q)).2.2.2)])), (ri, Sum.inr (0, [Value.int (nI is.length), Value.ref ria])), (ria, Sum.inl (cI, rik, Sum.inl rif))]) 0 0 := by
  refine my_ofV (cc := prog_6_method_3_code) (n := 7) (ret := none) (by decide) rfl (Nat.le_of_ble_eq_true rfl) ?_
  intro p e s m args below meth c R Q A ls H locs hx hb hr hts hown hlocks hml hnm hR hQ hA hl hP hK hN hD hS
  have hg : ∀ w ∈ gw, w.before args s = true := fun w h => hts w (List.mem_cons_of_mem _ h)
  have hown : s.vm.findClass "RangeCoders$NoCarries" = some m.cls := hown
  have hl : lv_has ls 7 [(0, Value.ref co), (1, Value.int (nI ff)), (2, Value.int (nI cc)), (3, Value.int (nI tt))] := hl
  have hlti := rOk_lt hri
  obtain ⟨hp1, hp2, hp3, hp4⟩ := id hp
  have hd1 : RR / tt * tt ≤ RR := Nat.div_mul_le_self _ _
  have hd2 : RR / tt * cc + RR / tt * ff ≤ RR / tt * tt := by rw [← Nat.mul_add]; exact Nat.mul_le_mul_left _ hcf
  have hd3 : 0 < RR / tt := Nat.div_pos hRt ht0
  have hd4 : 0 < RR / tt * ff := Nat.mul_pos hd3 hff
  have hd5 : RR / tt ≤ RR := Nat.div_le_self _ _
  generalize hrc : RR / tt * cc = rc at hd2
  generalize hrf : RR / tt * ff = rf at hd2 hd4
  refine lv_iload_n hx hb d_NoCarries_readPart_0 rfl (lv_at hl 3 rfl) ?_
  refine lv_if_le (tgt := 14) hx hb d_NoCarries_readPart_1 (by decide) (fun c_1 => ?_) (fun c_1 => ?_)
  · exact absurd c_1 (nI_nle ht0 (by omega))
  · refine lv_aload_n hx hb d_NoCarries_readPart_4 rfl (lv_at hl 0 rfl) ?_
    refine va_get (D := (dC, dI)) (ci := 2) (v := .long (lN RR)) (C := "RangeCoders$NoCarries") (T := T_NoCarries) (N := 9) hx hb hg in_NoCarries hown hK hP 0 rfl rfl 4 (by decide) (hg _ k94) (fun x9 h9 => u_same (hg _ k95) x9 h9) rfl d_NoCarries_readPart_5 ?_
    refine lv_iload_n hx hb d_NoCarries_readPart_8 rfl (lv_at hl 3 rfl) ?_
    refine lv_i2l hx hb d_NoCarries_readPart_9 rfl ?_
    refine lv_topl (fun v_2 ev_2 => ?_)
    refine lv_ldiv hx hb d_NoCarries_readPart_10 (by rw [ev_2]; rw [nI_l (by omega)]; intro z; have := (pk_lEQ (b := 0) (by omega) (by decide)).mp z; omega) ?_
    refine lv_topl (fun v_3 ev_3 => ?_)
    refine lv_goto (tgt := 15) hx hb d_NoCarries_readPart_11 (by decide) ?_
    have z9 : v_3 = lN (RR / tt) := by subst_vars; rw [nI_l (by omega)]; exact pk_lDiv (by omega) ht0 (by omega)
    subst z9
    refine lv_lstore (lv' := [(4, Value.long (lN (RR / tt))), (0, Value.ref co), (1, Value.int (nI ff)), (2, Value.int (nI cc)), (3, Value.int (nI tt))]) hx hb d_NoCarries_readPart_15 hl (by decide) rfl (fun ls hl => ?_)
    refine lv_aload_n hx hb d_NoCarries_readPart_17 rfl (lv_at hl 1 rfl) ?_
    refine lv_aload_n hx hb d_NoCarries_readPart_18 rfl (lv_at hl 1 rfl) ?_
    refine va_get (D := (dC, dI)) (ci := 2) (v := .long (lN RL)) (C := "RangeCoders$NoCarries") (T := T_NoCarries) (N := 9) hx hb hg in_NoCarries hown hK hP 0 rfl rfl 3 (by decide) (hg _ k91) (fun x9 h9 => u_same (hg _ k92) x9 h9) rfl d_NoCarries_readPart_19 ?_
    refine lv_lload hx hb d_NoCarries_readPart_22 (lv_at hl 0 rfl) ?_
    refine lv_iload_n hx hb d_NoCarries_readPart_24 rfl (lv_at hl 3 rfl) ?_
    refine lv_i2l hx hb d_NoCarries_readPart_25 rfl ?_
    refine lv_topl (fun v_4 ev_4 => ?_)
    refine lv_lmul hx hb d_NoCarries_readPart_26 ?_
    refine lv_topl (fun v_5 ev_5 => ?_)
    refine lv_ladd hx hb d_NoCarries_readPart_27 ?_
    refine lv_topl (fun v_6 ev_6 => ?_)
    refine lv_ldc2 (v := 4294967295) hx hb hown (hg _ k509) d_NoCarries_readPart_28 ?_
    refine lv_land hx hb d_NoCarries_readPart_31 ?_
    refine lv_topl (fun v_7 ev_7 => ?_)
    have z9 : v_7 = lN (RL + rc) := by subst_vars; rw [nI_l (by omega), lN_mul, lN_add, L_and32 (by omega), Nat.mod_eq_of_lt (by omega)]
    subst z9
    refine va_put (D := (dC, dI)) (ci := 2) (v := .long (lN (RL + rc))) (ty := .long) (C := "RangeCoders$NoCarries") (T := T_NoCarries) (N := 9) hx hb hg in_NoCarries t_NoCarries o_NoCarries n_NoCarries hown hK hP hD hS 0 rfl rfl 3 (by decide) (hg _ k91) (fun x9 h9 => u_same (hg _ k92) x9 h9) rfl (o_NoCarries 3 (by decide)) rfl rfl (Nat.le_of_ble_eq_true rfl) d_NoCarries_readPart_32 (fun H locs hP hD hS => ?_)
    have hPD : my_PD (dC, dI) vwCl A [(co, Sum.inr (2, [Value.long xlow, Value.long xrange, Value.long (lN CD), Value.long (lN (RL + rc)), Value.long (lN RR), Value.ref ri, Value.ref ro, Value.ref rw, Value.int (nI q)])), (ri, Sum.inr (0, [Value.int (nI is.length), Value.ref ria])), (ria, Sum.inl (cI, rik, Sum.inl rif))] H := ⟨hP, hD⟩
    have hP := hPD.1
    have hD := hPD.2
    refine lv_aload_n hx hb d_NoCarries_readPart_35 rfl (lv_at hl 1 rfl) ?_
    refine lv_lload hx hb d_NoCarries_readPart_36 (lv_at hl 0 rfl) ?_
    refine lv_iload_n hx hb d_NoCarries_readPart_38 rfl (lv_at hl 2 rfl) ?_
    refine lv_i2l hx hb d_NoCarries_readPart_39 rfl ?_
    refine lv_topl (fun v_8 ev_8 => ?_)
    refine lv_lmul hx hb d_NoCarries_readPart_40 ?_
    refine lv_topl (fun v_9 ev_9 => ?_)
    refine lv_ldc2 (v := 4294967295) hx hb hown (hg _ k509) d_NoCarries_readPart_41 ?_
    refine lv_land hx hb d_NoCarries_readPart_44 ?_
    refine lv_topl (fun v_10 ev_10 => ?_)
    have z9 : v_10 = lN rf := by subst_vars; rw [nI_l (by omega), lN_mul, L_and32 (by omega), Nat.mod_eq_of_lt (by omega)]
    subst z9
    refine va_put (D := (dC, dI)) (ci := 2) (v := .long (lN rf)) (ty := .long) (C := "RangeCoders$NoCarries") (T := T_NoCarries) (N := 9) hx hb hg in_NoCarries t_NoCarries o_NoCarries n_NoCarries hown hK hP hD hS 0 rfl rfl 4 (by decide) (hg _ k94) (fun x9 h9 => u_same (hg _ k95) x9 h9) rfl (o_NoCarries 4 (by decide)) rfl rfl (Nat.le_of_ble_eq_true rfl) d_NoCarries_readPart_45 (fun H locs hP hD hS => ?_)
    have hPD : my_PD (dC, dI) vwCl A [(co, Sum.inr (2, [Value.long xlow, Value.long xrange, Value.long (lN CD), Value.long (lN (RL + rc)), Value.long (lN rf), Value.ref ri, Value.ref ro, Value.ref rw, Value.int (nI q)])), (ri, Sum.inr (0, [Value.int (nI is.length), Value.ref ria])), (ria, Sum.inl (cI, rik, Sum.inl rif))] H := ⟨hP, hD⟩
    have hP := hPD.1
    have hD := hPD.2
    refine lv_iconst (v := 0) hx hb d_NoCarries_readPart_48 (by decide) ?_
    refine lv_istore (lv' := [(6, Value.int 0), (4, Value.long (lN (RR / tt))), (0, Value.ref co), (1, Value.int (nI ff)), (2, Value.int (nI cc)), (3, Value.int (nI tt))]) hx hb d_NoCarries_readPart_49 hl (by decide) rfl (fun ls hl => ?_)
    have J_51 : ∀ (n9_51 : Nat) (e9 : RP) (k9 : Nat) (hn9_51 : k9 = n9_51) (hE9 : prS is (rf, RL + rc, CD, q) = prN is k9 e9) (hI9 : plI k9 e9.1 e9.2.1) (hC9 : e9.2.2.1 < 4294967296) (hq9 : e9.2.2.2 + k9 ≤ 900000008) (H : Heap) (locs : List Loc) (ls : Array Slot), va_P (dC, dI) vwCl [(co, Sum.inr (2, [Value.long xlow, Value.long xrange, Value.long (lN e9.2.2.1), Value.long (lN e9.2.1), Value.long (lN e9.1), Value.ref ri, Value.ref ro, Value.ref rw, Value.int (nI e9.2.2.2)])), (ri, Sum.inr (0, [Value.int (nI is.length), Value.ref ria])), (ria, Sum.inl (cI, rik, Sum.inl rif))] H → va_D A [(co, Sum.inr (2, [Value.long xlow, Value.long xrange, Value.long (lN e9.2.2.1), Value.long (lN e9.2.1), Value.long (lN e9.1), Value.ref ri, Value.ref ro, Value.ref rw, Value.int (nI e9.2.2.2)])), (ri, Sum.inr (0, [Value.int (nI is.length), Value.ref ria])), (ria, Sum.inl (cI, rik, Sum.inl rif))] → va_S A s.heap H locs → lv_has ls 7 [(6, Value.int (nI (8 - k9))), (4, Value.long (lN (RR / tt))), (0, Value.ref co), (1, Value.int (nI ff)), (2, Value.int (nI cc)), (3, Value.int (nI tt))] → W p l e R s m args below meth c H locs 0 0 Q (F0 m 51 ls []) := by
      intro n9_51
      induction n9_51 using Nat.strongRecOn with
      | ind n9_51 ih9_51 =>
        intro e9 k9 hn9_51 hE9 hI9 hC9 hq9 H locs ls hP hD hS hl
        have hk48 := hI9.2.1
        have hk88 := hI9.2.2.1
        obtain ⟨hq1, hq2, hq3, hq4⟩ := hI9.1
        have hb9 := hoct e9.2.2.2
        refine lv_iload hx hb d_NoCarries_readPart_51 (lv_at hl 0 rfl) ?_
        refine lv_bipush (v := 8) hx hb d_NoCarries_readPart_53 (by decide) ?_
        refine lv_icmp_ge (tgt := 129) hx hb d_NoCarries_readPart_55 (by decide) (fun c_11 => ?_) (fun c_11 => ?_)
        · exact absurd (nI_ge' (n := 8) (by omega) (by decide) c_11) (by omega)
        · refine lv_aload_n hx hb d_NoCarries_readPart_58 rfl (lv_at hl 2 rfl) ?_
          refine va_get (D := (dC, dI)) (ci := 2) (v := .long (lN e9.2.1)) (C := "RangeCoders$NoCarries") (T := T_NoCarries) (N := 9) hx hb hg in_NoCarries hown hK hP 0 rfl rfl 3 (by decide) (hg _ k91) (fun x9 h9 => u_same (hg _ k92) x9 h9) rfl d_NoCarries_readPart_59 ?_
          refine lv_aload_n hx hb d_NoCarries_readPart_62 rfl (lv_at hl 2 rfl) ?_
          refine va_get (D := (dC, dI)) (ci := 2) (v := .long (lN e9.1)) (C := "RangeCoders$NoCarries") (T := T_NoCarries) (N := 9) hx hb hg in_NoCarries hown hK hP 0 rfl rfl 4 (by decide) (hg _ k94) (fun x9 h9 => u_same (hg _ k95) x9 h9) rfl d_NoCarries_readPart_63 ?_
          refine my_ci (wr := [(co, Sum.inr (2, [Value.long xlow, Value.long xrange, Value.long (lN e9.2.2.1), Value.long (lN e9.2.1), Value.long (lN e9.1), Value.ref ri, Value.ref ro, Value.ref rw, Value.int (nI e9.2.2.2)])), (ri, Sum.inr (0, [Value.int (nI is.length), Value.ref ria])), (ria, Sum.inl (cI, rik, Sum.inl rif))]) (va_runS (As := [Value.long (lN e9.2.1), Value.long (lN e9.1)]) (rest := []) ⟨hx, hb, hml, hown, hts⟩ (f_NoCarries_mustMove l dC dI cI cM cO H.size e9.2.1 e9.1 (hq1) (by omega)) (cwS 2 hts (my_gS k510 k511 k7 k512) rfl rfl rfl (by decide +kernel) ⟨by rw [hR]; exact Nat.le_of_ble_eq_true rfl, by rw [hR]; exact Nat.le_of_ble_eq_true rfl⟩) (my_pre hK hN (hP.sub [] rfl) (hD.sub [] (by decide +kernel) rfl)) rfl rfl hl.1 rfl (lv_room (Nat.le_of_ble_eq_true rfl)) d_NoCarries_readPart_66 ⟨by rw [hR]; exact Nat.le_of_ble_eq_true rfl, by rw [hR]; exact Nat.le_of_ble_eq_true rfl⟩) hP hD hS hA [] [0, 1, 2] rfl rfl (by decide +kernel) (by decide +kernel) (fun r_66 u9 H locs hw_66 hP hD hS => ?_)
          have hr_66 : r_66 = if mvP e9.2.1 e9.1 then 1 else 0 := hw_66
          have hPD : my_PD (dC, dI) vwCl A [(co, Sum.inr (2, [Value.long xlow, Value.long xrange, Value.long (lN e9.2.2.1), Value.long (lN e9.2.1), Value.long (lN e9.1), Value.ref ri, Value.ref ro, Value.ref rw, Value.int (nI e9.2.2.2)])), (ri, Sum.inr (0, [Value.int (nI is.length), Value.ref ria])), (ria, Sum.inl (cI, rik, Sum.inl rif))] H := ⟨hP, hD⟩
          have hP := hPD.1
          have hD := hPD.2
          refine lv_if_eq (tgt := 129) hx hb d_NoCarries_readPart_69 (by decide) (fun c_12 => ?_) (fun c_12 => ?_)
          · have z9 : e9 = prS is (rf, RL + rc, CD, q) := by rw [hE9, prN_e (one_eq hr_66 c_12)]
            subst z9
            subst hrc
            subst hrf
            have hPD : my_PD (dC, dI) vwCl A [(co, Sum.inr (2, [Value.long xlow, Value.long xrange, Value.long (lN (prS is ((RR / tt * ff), RL + (RR / tt * cc), CD, q)).2.2.1), Value.long (lN (prS is ((RR / tt * ff), RL + (RR / tt * cc), CD, q)).2.1), Value.long (lN (prS is ((RR / tt * ff), RL + (RR / tt * cc), CD, q)).1), Value.ref ri, Value.ref ro, Value.ref rw, Value.int (nI (prS is ((RR / tt * ff), RL + (RR / tt * cc), CD, q)).2.2.2)])), (ri, Sum.inr (0, [Value.int (nI is.length), Value.ref ria])), (ria, Sum.inl (cI, rik, Sum.inl rif))] H := ⟨hP, hD⟩
            have hP := hPD.1
            have hD := hPD.2
            exact my_vret hx hb hr hlocks hQ hK hS (Nat.le_refl _) (Nat.le_refl _) () (trivial) (hP.sub [0, 1, 2] rfl) (hD.sub [0, 1, 2] (by decide +kernel) rfl) d_NoCarries_readPart_129
          · have hmv : mvP e9.2.1 e9.1 := one_ne hr_66 c_12
            refine lv_aload_n hx hb d_NoCarries_readPart_72 rfl (lv_at hl 2 rfl) ?_
            refine lv_aload_n hx hb d_NoCarries_readPart_73 rfl (lv_at hl 2 rfl) ?_
            refine va_get (D := (dC, dI)) (ci := 2) (v := .long (lN e9.2.1)) (C := "RangeCoders$NoCarries") (T := T_NoCarries) (N := 9) hx hb hg in_NoCarries hown hK hP 0 rfl rfl 3 (by decide) (hg _ k91) (fun x9 h9 => u_same (hg _ k92) x9 h9) rfl d_NoCarries_readPart_74 ?_
            refine lv_aload_n hx hb d_NoCarries_readPart_77 rfl (lv_at hl 2 rfl) ?_
            refine va_get (D := (dC, dI)) (ci := 2) (v := .long (lN e9.1)) (C := "RangeCoders$NoCarries") (T := T_NoCarries) (N := 9) hx hb hg in_NoCarries hown hK hP 0 rfl rfl 4 (by decide) (hg _ k94) (fun x9 h9 => u_same (hg _ k95) x9 h9) rfl d_NoCarries_readPart_78 ?_
            refine my_cl (wr := [(co, Sum.inr (2, [Value.long xlow, Value.long xrange, Value.long (lN e9.2.2.1), Value.long (lN e9.2.1), Value.long (lN e9.1), Value.ref ri, Value.ref ro, Value.ref rw, Value.int (nI e9.2.2.2)])), (ri, Sum.inr (0, [Value.int (nI is.length), Value.ref ria])), (ria, Sum.inl (cI, rik, Sum.inl rif))]) (va_runS (As := [Value.long (lN e9.2.1), Value.long (lN e9.1)]) (rest := [Value.ref co]) ⟨hx, hb, hml, hown, hts⟩ (f_NoCarries_moved l dC dI cI cM cO H.size e9.2.1 e9.1 (hq1) (by omega)) (cwS 2 hts (my_gS k517 k518 k7 k519) rfl rfl rfl (by decide +kernel) ⟨by rw [hR]; exact Nat.le_of_ble_eq_true rfl, by rw [hR]; exact Nat.le_of_ble_eq_true rfl⟩) (my_pre hK hN (hP.sub [] rfl) (hD.sub [] (by decide +kernel) rfl)) rfl rfl hl.1 rfl (lv_room (Nat.le_of_ble_eq_true rfl)) d_NoCarries_readPart_81 ⟨by rw [hR]; exact Nat.le_of_ble_eq_true rfl, by rw [hR]; exact Nat.le_of_ble_eq_true rfl⟩) hP hD hS hA [] [0, 1, 2] rfl rfl (by decide +kernel) (by decide +kernel) (fun r_81 u9 H locs hw_81 hP hD hS => ?_)
            have hr_81 : r_81 = lN (mvR e9.2.1 e9.1) := hw_81
            have hPD : my_PD (dC, dI) vwCl A [(co, Sum.inr (2, [Value.long xlow, Value.long xrange, Value.long (lN e9.2.2.1), Value.long (lN e9.2.1), Value.long (lN e9.1), Value.ref ri, Value.ref ro, Value.ref rw, Value.int (nI e9.2.2.2)])), (ri, Sum.inr (0, [Value.int (nI is.length), Value.ref ria])), (ria, Sum.inl (cI, rik, Sum.inl rif))] H := ⟨hP, hD⟩
            have hP := hPD.1
            have hD := hPD.2
            have z9 : r_81 = lN (mvR e9.2.1 e9.1) := hr_81
            subst z9
            refine va_put (D := (dC, dI)) (ci := 2) (v := .long (lN (mvR e9.2.1 e9.1))) (ty := .long) (C := "RangeCoders$NoCarries") (T := T_NoCarries) (N := 9) hx hb hg in_NoCarries t_NoCarries o_NoCarries n_NoCarries hown hK hP hD hS 0 rfl rfl 4 (by decide) (hg _ k94) (fun x9 h9 => u_same (hg _ k95) x9 h9) rfl (o_NoCarries 4 (by decide)) rfl rfl (Nat.le_of_ble_eq_true rfl) d_NoCarries_readPart_84 (fun H locs hP hD hS => ?_)
            have hPD : my_PD (dC, dI) vwCl A [(co, Sum.inr (2, [Value.long xlow, Value.long xrange, Value.long (lN e9.2.2.1), Value.long (lN e9.2.1), Value.long (lN (mvR e9.2.1 e9.1)), Value.ref ri, Value.ref ro, Value.ref rw, Value.int (nI e9.2.2.2)])), (ri, Sum.inr (0, [Value.int (nI is.length), Value.ref ria])), (ria, Sum.inl (cI, rik, Sum.inl rif))] H := ⟨hP, hD⟩
            have hP := hPD.1
            have hD := hPD.2
            refine lv_aload_n hx hb d_NoCarries_readPart_87 rfl (lv_at hl 2 rfl) ?_
            refine lv_aload_n hx hb d_NoCarries_readPart_88 rfl (lv_at hl 2 rfl) ?_
            refine va_get (D := (dC, dI)) (ci := 2) (v := .long (lN e9.2.1)) (C := "RangeCoders$NoCarries") (T := T_NoCarries) (N := 9) hx hb hg in_NoCarries hown hK hP 0 rfl rfl 3 (by decide) (hg _ k91) (fun x9 h9 => u_same (hg _ k92) x9 h9) rfl d_NoCarries_readPart_89 ?_
            refine lv_bipush (v := 8) hx hb d_NoCarries_readPart_92 (by decide) ?_
            refine lv_lshl hx hb d_NoCarries_readPart_94 rfl ?_
            refine lv_topl (fun v_13 ev_13 => ?_)
            refine lv_ldc2 (v := 4294967295) hx hb hown (hg _ k509) d_NoCarries_readPart_95 ?_
            refine lv_land hx hb d_NoCarries_readPart_98 ?_
            refine lv_topl (fun v_14 ev_14 => ?_)
            have z9 : v_14 = lN (mvL e9.2.1) := by subst_vars; rw [L_shl8, L_and32 (by omega)]; rfl
            subst z9
            refine va_put (D := (dC, dI)) (ci := 2) (v := .long (lN (mvL e9.2.1))) (ty := .long) (C := "RangeCoders$NoCarries") (T := T_NoCarries) (N := 9) hx hb hg in_NoCarries t_NoCarries o_NoCarries n_NoCarries hown hK hP hD hS 0 rfl rfl 3 (by decide) (hg _ k91) (fun x9 h9 => u_same (hg _ k92) x9 h9) rfl (o_NoCarries 3 (by decide)) rfl rfl (Nat.le_of_ble_eq_true rfl) d_NoCarries_readPart_99 (fun H locs hP hD hS => ?_)
            have hPD : my_PD (dC, dI) vwCl A [(co, Sum.inr (2, [Value.long xlow, Value.long xrange, Value.long (lN e9.2.2.1), Value.long (lN (mvL e9.2.1)), Value.long (lN (mvR e9.2.1 e9.1)), Value.ref ri, Value.ref ro, Value.ref rw, Value.int (nI e9.2.2.2)])), (ri, Sum.inr (0, [Value.int (nI is.length), Value.ref ria])), (ria, Sum.inl (cI, rik, Sum.inl rif))] H := ⟨hP, hD⟩
            have hP := hPD.1
            have hD := hPD.2
            refine lv_aload_n hx hb d_NoCarries_readPart_102 rfl (lv_at hl 2 rfl) ?_
            refine lv_aload_n hx hb d_NoCarries_readPart_103 rfl (lv_at hl 2 rfl) ?_
            refine va_get (D := (dC, dI)) (ci := 2) (v := .long (lN e9.2.2.1)) (C := "RangeCoders$NoCarries") (T := T_NoCarries) (N := 9) hx hb hg in_NoCarries hown hK hP 0 rfl rfl 2 (by decide) (hg _ k84) (fun x9 h9 => u_same (hg _ k85) x9 h9) rfl d_NoCarries_readPart_104 ?_
            refine lv_bipush (v := 8) hx hb d_NoCarries_readPart_107 (by decide) ?_
            refine lv_lshl hx hb d_NoCarries_readPart_109 rfl ?_
            refine lv_topl (fun v_15 ev_15 => ?_)
            have z9 : v_15 = lN (e9.2.2.1 * 256) := by rw [ev_15]; exact L_shl8 _
            subst z9
            refine lv_aload_n hx hb d_NoCarries_readPart_110 rfl (lv_at hl 2 rfl) ?_
            refine my_ci (wr := []) (va_runU (As := []) (rest := [Value.long (lN (e9.2.2.1 * 256)), Value.ref co]) ⟨hx, hb, hml, hown, hts⟩ (f_NoCarries_nextByte l dC dI cI cM cO H.size co xlow xrange (lN e9.2.2.1) (lN (mvL e9.2.1)) (lN (mvR e9.2.1 e9.1)) ri ro rw ria rik rif is e9.2.2.2 (hri) (hGri) (hLri) (by omega)) (va_cwU 0 hts (my_gU k826 k827 k828 k742 k3 k749) rfl rfl rfl rfl (by decide +kernel) ⟨by rw [hR]; exact Nat.le_of_ble_eq_true rfl, by rw [hR]; exact Nat.le_of_ble_eq_true rfl⟩) (my_preV hK hN (hP.sub [0, 1, 2] rfl) (hD.sub [0, 1, 2] (by decide +kernel) rfl) 0 rfl rfl) rfl rfl hl.1 rfl (lv_room (Nat.le_of_ble_eq_true rfl)) d_NoCarries_readPart_111 ⟨by rw [hR]; exact Nat.le_of_ble_eq_true rfl, by rw [hR]; exact Nat.le_of_ble_eq_true rfl⟩) hP hD hS hA [0, 1, 2] [] rfl rfl (by decide +kernel) (by decide +kernel) (fun r_111 u9 H locs hw_111 hP hD hS => ?_)
            have hr_111 : r_111 = nI (byA is e9.2.2.2) := hw_111
            have hPD : my_PD (dC, dI) vwCl A [(co, Sum.inr (2, [Value.long xlow, Value.long xrange, Value.long (lN e9.2.2.1), Value.long (lN (mvL e9.2.1)), Value.long (lN (mvR e9.2.1 e9.1)), Value.ref ri, Value.ref ro, Value.ref rw, Value.int (nI (e9.2.2.2 + 1))])), (ri, Sum.inr (0, [Value.int (nI is.length), Value.ref ria])), (ria, Sum.inl (cI, rik, Sum.inl rif))] H := ⟨hP, hD⟩
            have hP := hPD.1
            have hD := hPD.2
            have z9 : r_111 = nI (byA is e9.2.2.2) := hr_111
            subst z9
            refine lv_i2l hx hb d_NoCarries_readPart_114 rfl ?_
            refine lv_topl (fun v_16 ev_16 => ?_)
            have z9 : v_16 = lN (byA is e9.2.2.2) := by rw [ev_16]; exact nI_l (by omega)
            subst z9
            refine lv_lor hx hb d_NoCarries_readPart_115 ?_
            refine lv_topl (fun v_17 ev_17 => ?_)
            have z9 : v_17 = lN (e9.2.2.1 * 256 + byA is e9.2.2.2) := by rw [ev_17]; exact L_code hC9 hb9
            subst z9
            refine lv_ldc2 (v := 4294967295) hx hb hown (hg _ k509) d_NoCarries_readPart_116 ?_
            refine lv_land hx hb d_NoCarries_readPart_119 ?_
            refine lv_topl (fun v_18 ev_18 => ?_)
            have z9 : v_18 = lN (e9.2.2.1 * 256 % 4294967296 + byA is e9.2.2.2) := by rw [ev_18, L_and32 (by omega), code_m hb9]
            subst z9
            refine va_put (D := (dC, dI)) (ci := 2) (v := .long (lN (e9.2.2.1 * 256 % 4294967296 + byA is e9.2.2.2))) (ty := .long) (C := "RangeCoders$NoCarries") (T := T_NoCarries) (N := 9) hx hb hg in_NoCarries t_NoCarries o_NoCarries n_NoCarries hown hK hP hD hS 0 rfl rfl 2 (by decide) (hg _ k84) (fun x9 h9 => u_same (hg _ k85) x9 h9) rfl (o_NoCarries 2 (by decide)) rfl rfl (Nat.le_of_ble_eq_true rfl) d_NoCarries_readPart_120 (fun H locs hP hD hS => ?_)
            have hPD : my_PD (dC, dI) vwCl A [(co, Sum.inr (2, [Value.long xlow, Value.long xrange, Value.long (lN (e9.2.2.1 * 256 % 4294967296 + byA is e9.2.2.2)), Value.long (lN (mvL e9.2.1)), Value.long (lN (mvR e9.2.1 e9.1)), Value.ref ri, Value.ref ro, Value.ref rw, Value.int (nI (e9.2.2.2 + 1))])), (ri, Sum.inr (0, [Value.int (nI is.length), Value.ref ria])), (ria, Sum.inl (cI, rik, Sum.inl rif))] H := ⟨hP, hD⟩
            have hP := hPD.1
            have hD := hPD.2
            obtain ⟨v_19, ev_19⟩ : ∃ y : Int32, y = (nI (8 - k9)) + (1) := ⟨_, rfl⟩
            refine lv_iinc (v := v_19) (lv' := [(6, Value.int v_19), (4, Value.long (lN (RR / tt))), (0, Value.ref co), (1, Value.int (nI ff)), (2, Value.int (nI cc)), (3, Value.int (nI tt))]) hx hb d_NoCarries_readPart_123 hl (k := 0) rfl (by rw [ev_19]; rfl) (by decide) rfl (fun ls hl => ?_)
            have z9 : v_19 = nI (8 - (k9 - 1)) := by rw [ev_19, show 8 - (k9 - 1) = 8 - k9 + 1 by omega]; exact nI_1 _
            subst z9
            refine lv_goto (tgt := 51) hx hb d_NoCarries_readPart_126 (by decide) ?_
            exact ih9_51 _ (by first | omega | (omega)) (mvR e9.2.1 e9.1, mvL e9.2.1, e9.2.2.1 * 256 % 4294967296 + byA is e9.2.2.2, e9.2.2.2 + 1) (k9 - 1) rfl (by rw [hE9, prN_s (by omega) hmv]) ((plI_st hI9 hmv).2) (by show e9.2.2.1 * 256 % 4294967296 + byA is e9.2.2.2 < _; omega) (by have z9 := (plI_st hI9 hmv).1; show e9.2.2.2 + 1 + (k9 - 1) ≤ _; omega) H locs ls (hP.sub [0, 1, 2] rfl) (hD.sub [0, 1, 2] (by decide +kernel) rfl) hS (lv_sub hl [0, 1, 2, 3, 4, 5] rfl)
    exact J_51 _ (rf, RL + rc, CD, q) (8 : Nat) rfl (rfl) (plI_0 (R := rf) (L := RL + rc) ⟨by omega, by omega, by omega, fun z => by have := hp4 (by omega); omega⟩) (hC) (by show q + 8 ≤ _; omega) H locs ls (hP.sub [0, 1, 2] rfl) (hD.sub [0, 1, 2] (by decide +kernel) rfl) hS (lv_sub hl [0, 1, 2, 3, 4, 5] rfl)
end
section
set_option maxHeartbeats 2000000 in
set_option maxRecDepth 100000 in
theorem f_Carries_nextSign (l : Launch) (dC : Nat → ClassId) (dI : Nat → Nat → Nat) (cI cM cO : ClassId) (sz : Nat) (co : Nat) (xcache : Int32) (xpending : Int32) (xlow : Int64) (xrange : Int64) (ri : Nat) (ro : Nat) (rw : Nat) (ria : Nat) (rik : Nat) (rif : Nat → Int32) (is : List Nat) (RR : Nat) (CD : Nat) (q : Nat) (oo : Nat) (osg : Int32) (ofc : Int32) (oca : Nat) (opa : Nat) (n : Nat) (ocf : Nat → Int32) (opl : Nat) (opf : Nat → Int32) (F : Nat → Nat) (hri : rOk (nI is.length) rik) (hGri : gIs rif is) (hLri : is.length ≤ 6000) (hoct : oct is) (hn : n ≤ 64) (hpl : opl ≤ 512) (hf : tbI ocf n F) (hfc0 : ofc = 0) (hsum : ns F n ≤ 8192) (hR1 : RR < 4294967296) (hC : CD < 4294967296) (hq : q < 900000000) : MetI l y_Ranged_nextSign (Cond.code y_Ranged_nextSign prog_8_method_11_code 4 (some .int) :: gw) ({ frames := 5, cells := 0, slots := 0, locals := 109 } : Room) (dC, dI) vwCl (kT cI cM cO) [Value.ref co, Value.ref oo] [(co, Sum.inr (1, [Value.int xcache, Value.int xpending, Value.long xlow, Value.long xrange, Value.long (lN CD), Value.long (lN 0), Value.long (lN RR), Value.ref ri, Value.ref ro, Value.ref rw, Value.int (nI q)])), (ri, Sum.inr (0, [Value.int (nI is.length), Value.ref ria])), (ria, Sum.inl (cI, rik, Sum.inl rif)), (oo, Sum.inr (7, [Value.int osg, Value.int (nI (ns F n)), Value.int ofc, Value.ref oca, Value.ref opa])), (oca, Sum.inl (cI, n, Sum.inl ocf)), (opa, Sum.inl (cI, opl, Sum.inl opf))] sz (fun (r : Int32) (u : (Nat → Int32)) => r = oI (gr0 is n F (RR, CD, q)).1 ∧ tbI u n (gr0 is n F (RR, CD, q)).2.2) (fun (u : (Nat → Int32)) => [(co, Sum.inr (1, [Value.int xcache, Value.int xpending, Value.long xlow, Value.long xrange, Value.long (lN ((gr0 is n F (RR, CD, q)).2.1).2.1), Value.long (lN 0), Value.long (lN ((gr0 is n F (RR, CD, q)).2.1).1), Value.ref ri, Value.ref ro, Value.ref rw, Value.int (nI ((gr0 is n F (RR, CD, q)).2.1).2.2)])), (ri, Sum.inr (0, [Value.int (nI is.length), Value.ref ria])), (ria, Sum.inl (cI, rik, Sum.inl rif)), (oo, Sum.inr (7, [Value.int osg, Value.int (nI (ns (gr0 is n F (RR, CD, q)).2.2 n)), Value.int ofc, Value.ref oca, Value.ref opa])), (oca, Sum.inl (cI, n, Sum.inl u)), (opa, Sum.inl (cI, opl, Sum.inl opf))]) 0 0 := by
  refine my_ofI (cc := prog_8_method_11_code) (n := 4) (ret := (some .int)) (by decide) rfl (Nat.le_of_ble_eq_true rfl) ?_
  intro p e s m args below meth c R Q A ls H locs hx hb hr hts hown hlocks hml hnm hR hQ hA hl hP hK hN hD hS
  have hg : ∀ w ∈ gw, w.before args s = true := fun w h => hts w (List.mem_cons_of_mem _ h)
  have hown : s.vm.findClass "RangeCoders$Ranged" = some m.cls := hown
  have hl : lv_has ls 4 [(0, Value.ref co), (1, Value.ref oo)] := hl
  have hlti := rOk_lt hri
  have hbd : bd F n 100000 := fun k hk => by have := ns_ge (F := F) hk; omega
  refine lv_aload_n hx hb d_Ranged_nextSign_0 rfl (lv_at hl 0 rfl) ?_
  refine lv_aload_n hx hb d_Ranged_nextSign_1 rfl (lv_at hl 1 rfl) ?_
  refine va_get (D := (dC, dI)) (ci := 7) (v := .int (nI (ns F n))) (C := "RangeCoders$Odds") (T := T_Odds) (N := 5) hx hb hg in_Odds hown hK hP 3 rfl rfl 1 (by decide) (hg _ k306) (fun _ h9 => h9) rfl d_Ranged_nextSign_2 ?_
  refine my_ci (wr := [(ri, Sum.inr (0, [Value.int (nI is.length), Value.ref ria])), (ria, Sum.inl (cI, rik, Sum.inl rif)), (oo, Sum.inr (7, [Value.int osg, Value.int (nI (ns F n)), Value.int ofc, Value.ref oca, Value.ref opa])), (oca, Sum.inl (cI, n, Sum.inl ocf)), (opa, Sum.inl (cI, opl, Sum.inl opf))]) (va_runU (As := [Value.int (nI (ns F n))]) (rest := []) ⟨hx, hb, hml, hown, hts⟩ (f_Carries_nextShare l dC dI cI cM cO H.size co xcache xpending xlow xrange ri ro rw (nI q) RR CD 0 (ns F n) (hR1) (hC) (by decide) (by omega)) (va_cwU 1 hts (my_gU k807 k1289 kx4 k809 k4 k810) rfl rfl rfl rfl (by decide +kernel) ⟨by rw [hR]; exact Nat.le_of_ble_eq_true rfl, by rw [hR]; exact Nat.le_of_ble_eq_true rfl⟩) (my_preV hK hN (hP.sub [0] rfl) (hD.sub [0] (by decide +kernel) rfl) 0 rfl rfl) rfl rfl hl.1 rfl (lv_room (Nat.le_of_ble_eq_true rfl)) d_Ranged_nextSign_5 ⟨by rw [hR]; exact Nat.le_of_ble_eq_true rfl, by rw [hR]; exact Nat.le_of_ble_eq_true rfl⟩) hP hD hS hA [0] [1, 2, 3, 4, 5] rfl rfl (by decide +kernel) (by decide +kernel) (fun r_5 u9 H locs hw_5 hP hD hS => ?_)
  have hr_5 : r_5 = oI (wnt (ns F n) RR ((CD + 4294967296 - 0) % 4294967296)) := hw_5
  have hPD : my_PD (dC, dI) vwCl A [(ri, Sum.inr (0, [Value.int (nI is.length), Value.ref ria])), (ria, Sum.inl (cI, rik, Sum.inl rif)), (oo, Sum.inr (7, [Value.int osg, Value.int (nI (ns F n)), Value.int ofc, Value.ref oca, Value.ref opa])), (oca, Sum.inl (cI, n, Sum.inl ocf)), (opa, Sum.inl (cI, opl, Sum.inl opf)), (co, Sum.inr (1, [Value.int xcache, Value.int xpending, Value.long xlow, Value.long xrange, Value.long (lN CD), Value.long (lN 0), Value.long (lN RR), Value.ref ri, Value.ref ro, Value.ref rw, Value.int (nI q)]))] H := ⟨hP, hD⟩
  have hP := hPD.1
  have hD := hPD.2
  have hsh : r_5 = oI (wnt (ns F n) RR CD) := (by rw [hr_5, sh_0 hC])
  refine lv_istore_n (lv' := [(2, Value.int r_5), (0, Value.ref co), (1, Value.ref oo)]) hx hb d_Ranged_nextSign_8 rfl hl (by decide) rfl (fun ls hl => ?_)
  refine lv_iload_n hx hb d_Ranged_nextSign_9 rfl (lv_at hl 0 rfl) ?_
  refine lv_iconst (v := (-1)) hx hb d_Ranged_nextSign_10 (by decide) ?_
  refine lv_icmp_ne (tgt := 18) hx hb d_Ranged_nextSign_11 (by decide) (fun c_1 => ?_) (fun c_1 => ?_)
  · obtain ⟨uw9, hu9⟩ : ∃ u, wnt (ns F n) RR CD = some u := by
      cases h9 : wnt (ns F n) RR CD with
      | none => rw [h9] at hsh; exact absurd hsh c_1
      | some u => exact ⟨u, rfl⟩
    obtain ⟨hu0, hu1, hu2, hu3⟩ := wnt_ok hu9
    obtain ⟨hs1, hs2, hs3⟩ := sgA_spec (F := F) (n := n) hu3
    have hFt : 0 < F (sgA F n uw9) := by omega
    have hm1 := ns_m1 F hs1
    have z9 : r_5 = nI uw9 := by rw [hsh, hu9]; rfl
    subst z9
    refine lv_aload_n hx hb d_Ranged_nextSign_18 rfl (lv_at hl 2 rfl) ?_
    refine lv_iload_n hx hb d_Ranged_nextSign_19 rfl (lv_at hl 0 rfl) ?_
    refine my_ci (wr := [(ri, Sum.inr (0, [Value.int (nI is.length), Value.ref ria])), (ria, Sum.inl (cI, rik, Sum.inl rif)), (co, Sum.inr (1, [Value.int xcache, Value.int xpending, Value.long xlow, Value.long xrange, Value.long (lN CD), Value.long (lN 0), Value.long (lN RR), Value.ref ri, Value.ref ro, Value.ref rw, Value.int (nI q)]))]) (va_runV (As := [Value.int (nI uw9)]) (rest := []) ⟨hx, hb, hml, hown, hts⟩ (f_Odds_signAt l dC dI cI cM cO H.size oo osg ofc oca opa n ocf opl opf F (nI (ns F n)) uw9 (by first | assumption | omega) (by first | assumption | omega) (by first | assumption | omega) (by first | assumption | omega) (by omega)) (cwV 1 hts (my_gV k811 k812 k813 k14 k814) rfl rfl rfl cu_Odds_signAt_1 ⟨by rw [hR]; exact Nat.le_of_ble_eq_true rfl, by rw [hR]; exact Nat.le_of_ble_eq_true rfl⟩) (my_preV hK hN (hP.sub [2, 3, 4] rfl) (hD.sub [2, 3, 4] (by decide +kernel) rfl) 0 rfl rfl) rfl rfl hl.1 rfl (lv_room (Nat.le_of_ble_eq_true rfl)) d_Ranged_nextSign_20 ⟨by rw [hR]; exact Nat.le_of_ble_eq_true rfl, by rw [hR]; exact Nat.le_of_ble_eq_true rfl⟩) hP hD hS hA [2, 3, 4] [0, 1, 5] rfl rfl (by decide +kernel) (by decide +kernel) (fun r_20 u9 H locs hw_20 hP hD hS => ?_)
    have hr_20 : r_20 = if uw9 < ns F n then nI (sgA F n uw9) else -1 := hw_20
    have hPD : my_PD (dC, dI) vwCl A [(ri, Sum.inr (0, [Value.int (nI is.length), Value.ref ria])), (ria, Sum.inl (cI, rik, Sum.inl rif)), (co, Sum.inr (1, [Value.int xcache, Value.int xpending, Value.long xlow, Value.long xrange, Value.long (lN CD), Value.long (lN 0), Value.long (lN RR), Value.ref ri, Value.ref ro, Value.ref rw, Value.int (nI q)])), (oo, Sum.inr (7, [Value.int osg, Value.int (nI (ns F n)), Value.int ofc, Value.ref oca, Value.ref opa])), (oca, Sum.inl (cI, n, Sum.inl ocf)), (opa, Sum.inl (cI, opl, Sum.inl opf))] H := ⟨hP, hD⟩
    have hP := hPD.1
    have hD := hPD.2
    have z9 : r_20 = nI (sgA F n uw9) := by rw [hr_20, if_pos hu3]
    subst z9
    refine lv_istore_n (lv' := [(3, Value.int (nI (sgA F n uw9))), (2, Value.int (nI uw9)), (0, Value.ref co), (1, Value.ref oo)]) hx hb d_Ranged_nextSign_23 rfl hl (by decide) rfl (fun ls hl => ?_)
    refine lv_iload_n hx hb d_Ranged_nextSign_24 rfl (lv_at hl 0 rfl) ?_
    refine lv_iconst (v := (-1)) hx hb d_Ranged_nextSign_25 (by decide) ?_
    refine lv_icmp_eq (tgt := 52) hx hb d_Ranged_nextSign_26 (by decide) (fun c_2 => ?_) (fun c_2 => ?_)
    · exact absurd c_2 (nI_nm1 (by omega))
    · refine lv_aload_n hx hb d_Ranged_nextSign_29 rfl (lv_at hl 2 rfl) ?_
      refine lv_aload_n hx hb d_Ranged_nextSign_30 rfl (lv_at hl 3 rfl) ?_
      refine lv_iload_n hx hb d_Ranged_nextSign_31 rfl (lv_at hl 0 rfl) ?_
      refine my_ci (wr := [(ri, Sum.inr (0, [Value.int (nI is.length), Value.ref ria])), (ria, Sum.inl (cI, rik, Sum.inl rif)), (co, Sum.inr (1, [Value.int xcache, Value.int xpending, Value.long xlow, Value.long xrange, Value.long (lN CD), Value.long (lN 0), Value.long (lN RR), Value.ref ri, Value.ref ro, Value.ref rw, Value.int (nI q)]))]) (va_runV (As := [Value.int (nI (sgA F n uw9))]) (rest := [Value.ref co]) ⟨hx, hb, hml, hown, hts⟩ (f_Odds_at l dC dI cI cM cO H.size oo osg ofc oca opa n ocf opl opf (nI (ns F n)) (sgA F n uw9) (by first | assumption | omega) (by first | assumption | omega) (hs1) (by rw [hfc0]; exact nI_pos' (by omega))) (cwV 1 hts (my_gV k493 k436 k437 k14 k438) rfl rfl rfl cu_Odds_at_1 ⟨by rw [hR]; exact Nat.le_of_ble_eq_true rfl, by rw [hR]; exact Nat.le_of_ble_eq_true rfl⟩) (my_preV hK hN (hP.sub [3, 4, 5] rfl) (hD.sub [3, 4, 5] (by decide +kernel) rfl) 0 rfl rfl) rfl rfl hl.1 rfl (lv_room (Nat.le_of_ble_eq_true rfl)) d_Ranged_nextSign_32 ⟨by rw [hR]; exact Nat.le_of_ble_eq_true rfl, by rw [hR]; exact Nat.le_of_ble_eq_true rfl⟩) hP hD hS hA [3, 4, 5] [0, 1, 2] rfl rfl (by decide +kernel) (by decide +kernel) (fun r_32 u9 H locs hw_32 hP hD hS => ?_)
      have hr_32 : r_32 = ocf (sgA F n uw9) := hw_32
      have hPD : my_PD (dC, dI) vwCl A [(ri, Sum.inr (0, [Value.int (nI is.length), Value.ref ria])), (ria, Sum.inl (cI, rik, Sum.inl rif)), (co, Sum.inr (1, [Value.int xcache, Value.int xpending, Value.long xlow, Value.long xrange, Value.long (lN CD), Value.long (lN 0), Value.long (lN RR), Value.ref ri, Value.ref ro, Value.ref rw, Value.int (nI q)])), (oo, Sum.inr (7, [Value.int osg, Value.int (nI (ns F n)), Value.int ofc, Value.ref oca, Value.ref opa])), (oca, Sum.inl (cI, n, Sum.inl ocf)), (opa, Sum.inl (cI, opl, Sum.inl opf))] H := ⟨hP, hD⟩
      have hP := hPD.1
      have hD := hPD.2
      rw [hf (sgA F n uw9) hs1] at hr_32
      have z9 : r_32 = nI (F (sgA F n uw9)) := hr_32
      subst z9
      refine lv_aload_n hx hb d_Ranged_nextSign_35 rfl (lv_at hl 3 rfl) ?_
      refine lv_iload_n hx hb d_Ranged_nextSign_36 rfl (lv_at hl 0 rfl) ?_
      refine my_ci (wr := [(ri, Sum.inr (0, [Value.int (nI is.length), Value.ref ria])), (ria, Sum.inl (cI, rik, Sum.inl rif)), (co, Sum.inr (1, [Value.int xcache, Value.int xpending, Value.long xlow, Value.long xrange, Value.long (lN CD), Value.long (lN 0), Value.long (lN RR), Value.ref ri, Value.ref ro, Value.ref rw, Value.int (nI q)]))]) (va_runV (As := [Value.int (nI (sgA F n uw9))]) (rest := [Value.int (nI (F (sgA F n uw9))), Value.ref co]) ⟨hx, hb, hml, hown, hts⟩ (f_Odds_below l dC dI cI cM cO H.size oo osg ofc oca opa n ocf opl opf F (nI (ns F n)) (sgA F n uw9) (by first | assumption | omega) (by first | assumption | omega) (by first | assumption | omega) (by omega)) (cwV 1 hts (my_gV k494 k495 k496 k14 k497) rfl rfl rfl cu_Odds_below_1 ⟨by rw [hR]; exact Nat.le_of_ble_eq_true rfl, by rw [hR]; exact Nat.le_of_ble_eq_true rfl⟩) (my_preV hK hN (hP.sub [3, 4, 5] rfl) (hD.sub [3, 4, 5] (by decide +kernel) rfl) 0 rfl rfl) rfl rfl hl.1 rfl (lv_room (Nat.le_of_ble_eq_true rfl)) d_Ranged_nextSign_37 ⟨by rw [hR]; exact Nat.le_of_ble_eq_true rfl, by rw [hR]; exact Nat.le_of_ble_eq_true rfl⟩) hP hD hS hA [3, 4, 5] [0, 1, 2] rfl rfl (by decide +kernel) (by decide +kernel) (fun r_37 u9 H locs hw_37 hP hD hS => ?_)
      have hr_37 : r_37 = nI (ns F (sgA F n uw9)) := hw_37
      have hPD : my_PD (dC, dI) vwCl A [(ri, Sum.inr (0, [Value.int (nI is.length), Value.ref ria])), (ria, Sum.inl (cI, rik, Sum.inl rif)), (co, Sum.inr (1, [Value.int xcache, Value.int xpending, Value.long xlow, Value.long xrange, Value.long (lN CD), Value.long (lN 0), Value.long (lN RR), Value.ref ri, Value.ref ro, Value.ref rw, Value.int (nI q)])), (oo, Sum.inr (7, [Value.int osg, Value.int (nI (ns F n)), Value.int ofc, Value.ref oca, Value.ref opa])), (oca, Sum.inl (cI, n, Sum.inl ocf)), (opa, Sum.inl (cI, opl, Sum.inl opf))] H := ⟨hP, hD⟩
      have hP := hPD.1
      have hD := hPD.2
      have z9 : r_37 = nI (ns F (sgA F n uw9)) := hr_37
      subst z9
      refine lv_aload_n hx hb d_Ranged_nextSign_40 rfl (lv_at hl 3 rfl) ?_
      refine va_get (D := (dC, dI)) (ci := 7) (v := .int (nI (ns F n))) (C := "RangeCoders$Odds") (T := T_Odds) (N := 5) hx hb hg in_Odds hown hK hP 3 rfl rfl 1 (by decide) (hg _ k306) (fun _ h9 => h9) rfl d_Ranged_nextSign_41 ?_
      refine my_cv (wr := [(oo, Sum.inr (7, [Value.int osg, Value.int (nI (ns F n)), Value.int ofc, Value.ref oca, Value.ref opa])), (oca, Sum.inl (cI, n, Sum.inl ocf)), (opa, Sum.inl (cI, opl, Sum.inl opf))]) (va_runU (As := [Value.int (nI (F (sgA F n uw9))), Value.int (nI (ns F (sgA F n uw9))), Value.int (nI (ns F n))]) (rest := []) ⟨hx, hb, hml, hown, hts⟩ (f_Carries_readPart l dC dI cI cM cO H.size co xcache xpending xlow xrange (lN 0) ri ro rw ria rik rif is RR CD q (ns F (sgA F n uw9)) (F (sgA F n uw9)) (ns F n) (hri) (hGri) (hLri) (hoct) (hu0) (by omega) (hm1) (hFt) (hu1) (hR1) (hC) (Nat.le_trans (Nat.mul_le_mul_left _ hs2) hu2) (hq)) (va_cwA 3 hts (my_gU k815 k817 k822 k819 k5 k820) rfl rfl rfl (hN.1 _ j816 rfl) (by decide +kernel) ⟨by rw [hR]; exact Nat.le_of_ble_eq_true rfl, by rw [hR]; exact Nat.le_of_ble_eq_true rfl⟩) (my_preV hK hN (hP.sub [2, 0, 1] rfl) (hD.sub [2, 0, 1] (by decide +kernel) rfl) 0 rfl rfl) rfl rfl hl.1 rfl (lv_room (Nat.le_of_ble_eq_true rfl)) d_Ranged_nextSign_44 ⟨by rw [hR]; exact Nat.le_of_ble_eq_true rfl, by rw [hR]; exact Nat.le_of_ble_eq_true rfl⟩) hP hD hS hA [2, 0, 1] [3, 4, 5] rfl rfl (by decide +kernel) (by decide +kernel) (fun u9 H locs hw_44 hP hD hS => ?_)
      have hPD : my_PD (dC, dI) vwCl A [(oo, Sum.inr (7, [Value.int osg, Value.int (nI (ns F n)), Value.int ofc, Value.ref oca, Value.ref opa])), (oca, Sum.inl (cI, n, Sum.inl ocf)), (opa, Sum.inl (cI, opl, Sum.inl opf)), (co, Sum.inr (1, [Value.int xcache, Value.int xpending, Value.long xlow, Value.long xrange, Value.long (lN (wrS is (RR / (ns F n) * (F (sgA F n uw9)), CD - RR / (ns F n) * (ns F (sgA F n uw9)), q)).2.1), Value.long (lN 0), Value.long (lN (wrS is (RR / (ns F n) * (F (sgA F n uw9)), CD - RR / (ns F n) * (ns F (sgA F n uw9)), q)).1), Value.ref ri, Value.ref ro, Value.ref rw, Value.int (nI (wrS is (RR / (ns F n) * (F (sgA F n uw9)), CD - RR / (ns F n) * (ns F (sgA F n uw9)), q)).2.2)])), (ri, Sum.inr (0, [Value.int (nI is.length), Value.ref ria])), (ria, Sum.inl (cI, rik, Sum.inl rif))] H := ⟨hP, hD⟩
      have hP := hPD.1
      have hD := hPD.2
      refine lv_aload_n hx hb d_Ranged_nextSign_47 rfl (lv_at hl 3 rfl) ?_
      refine lv_iload_n hx hb d_Ranged_nextSign_48 rfl (lv_at hl 0 rfl) ?_
      refine my_cv (wr := [(co, Sum.inr (1, [Value.int xcache, Value.int xpending, Value.long xlow, Value.long xrange, Value.long (lN (wrS is (RR / (ns F n) * (F (sgA F n uw9)), CD - RR / (ns F n) * (ns F (sgA F n uw9)), q)).2.1), Value.long (lN 0), Value.long (lN (wrS is (RR / (ns F n) * (F (sgA F n uw9)), CD - RR / (ns F n) * (ns F (sgA F n uw9)), q)).1), Value.ref ri, Value.ref ro, Value.ref rw, Value.int (nI (wrS is (RR / (ns F n) * (F (sgA F n uw9)), CD - RR / (ns F n) * (ns F (sgA F n uw9)), q)).2.2)])), (ri, Sum.inr (0, [Value.int (nI is.length), Value.ref ria])), (ria, Sum.inl (cI, rik, Sum.inl rif))]) (va_runV (As := [Value.int (nI (sgA F n uw9))]) (rest := []) ⟨hx, hb, hml, hown, hts⟩ (f_Odds_learn l dC dI cI cM cO H.size oo osg ofc oca opa n ocf opl opf F (sgA F n uw9) (by first | assumption | omega) (by first | assumption | omega) (by first | assumption | omega) (hs1) (by rw [hfc0]; exact nI_pos' (by omega)) (hbd)) (cwV 1 hts (my_gV k526 k527 k528 k14 k529) rfl rfl rfl cu_Odds_learn_1 ⟨by rw [hR]; exact Nat.le_of_ble_eq_true rfl, by rw [hR]; exact Nat.le_of_ble_eq_true rfl⟩) (my_preV hK hN (hP.sub [0, 1, 2] rfl) (hD.sub [0, 1, 2] (by decide +kernel) rfl) 0 rfl rfl) rfl rfl hl.1 rfl (lv_room (Nat.le_of_ble_eq_true rfl)) d_Ranged_nextSign_49 ⟨by rw [hR]; exact Nat.le_of_ble_eq_true rfl, by rw [hR]; exact Nat.le_of_ble_eq_true rfl⟩) hP hD hS hA [0, 1, 2] [3, 4, 5] rfl rfl (by decide +kernel) (by decide +kernel) (fun u9 H locs hw_49 hP hD hS => ?_)
      obtain ⟨ocfq_49, rfl⟩ : ∃ z, z = u9 := ⟨_, rfl⟩
      have hf_49 : tbI ocfq_49 n (lrn n (sgA F n uw9) F) := hw_49
      have hPD : my_PD (dC, dI) vwCl A [(co, Sum.inr (1, [Value.int xcache, Value.int xpending, Value.long xlow, Value.long xrange, Value.long (lN (wrS is (RR / (ns F n) * (F (sgA F n uw9)), CD - RR / (ns F n) * (ns F (sgA F n uw9)), q)).2.1), Value.long (lN 0), Value.long (lN (wrS is (RR / (ns F n) * (F (sgA F n uw9)), CD - RR / (ns F n) * (ns F (sgA F n uw9)), q)).1), Value.ref ri, Value.ref ro, Value.ref rw, Value.int (nI (wrS is (RR / (ns F n) * (F (sgA F n uw9)), CD - RR / (ns F n) * (ns F (sgA F n uw9)), q)).2.2)])), (ri, Sum.inr (0, [Value.int (nI is.length), Value.ref ria])), (ria, Sum.inl (cI, rik, Sum.inl rif)), (oo, Sum.inr (7, [Value.int osg, Value.int (nI (ns (lrn n (sgA F n uw9) F) n)), Value.int ofc, Value.ref oca, Value.ref opa])), (oca, Sum.inl (cI, n, Sum.inl ocfq_49)), (opa, Sum.inl (cI, opl, Sum.inl opf))] H := ⟨hP, hD⟩
      have hP := hPD.1
      have hD := hPD.2
      have hgr : gr0 is n F (RR, CD, q) = (some (sgA F n uw9), (wrS is (RR / ns F n * F (sgA F n uw9), CD - RR / ns F n * ns F (sgA F n uw9), q)), lrn n (sgA F n uw9) F) := by unfold gr0; simp only [hu9]
      have hsu : (lN (wrS is (RR / (ns F n) * (F (sgA F n uw9)), CD - RR / (ns F n) * (ns F (sgA F n uw9)), q)).1 : Int64) = lN (gr0 is n F (RR, CD, q)).2.1.1 := by rw [hgr]
      rw [hsu] at hP hD
      have hPD : my_PD (dC, dI) vwCl A [(co, Sum.inr (1, [Value.int xcache, Value.int xpending, Value.long xlow, Value.long xrange, Value.long (lN (wrS is (RR / (ns F n) * (F (sgA F n uw9)), CD - RR / (ns F n) * (ns F (sgA F n uw9)), q)).2.1), Value.long (lN 0), Value.long (lN (gr0 is n F (RR, CD, q)).2.1.1), Value.ref ri, Value.ref ro, Value.ref rw, Value.int (nI (wrS is (RR / (ns F n) * (F (sgA F n uw9)), CD - RR / (ns F n) * (ns F (sgA F n uw9)), q)).2.2)])), (ri, Sum.inr (0, [Value.int (nI is.length), Value.ref ria])), (ria, Sum.inl (cI, rik, Sum.inl rif)), (oo, Sum.inr (7, [Value.int osg, Value.int (nI (ns (lrn n (sgA F n uw9) F) n)), Value.int ofc, Value.ref oca, Value.ref opa])), (oca, Sum.inl (cI, n, Sum.inl ocfq_49)), (opa, Sum.inl (cI, opl, Sum.inl opf))] H := ⟨hP, hD⟩
      have hP := hPD.1
      have hD := hPD.2
      have hsu : (lN (wrS is (RR / (ns F n) * (F (sgA F n uw9)), CD - RR / (ns F n) * (ns F (sgA F n uw9)), q)).2.1 : Int64) = lN (gr0 is n F (RR, CD, q)).2.1.2.1 := by rw [hgr]
      rw [hsu] at hP hD
      have hPD : my_PD (dC, dI) vwCl A [(co, Sum.inr (1, [Value.int xcache, Value.int xpending, Value.long xlow, Value.long xrange, Value.long (lN (gr0 is n F (RR, CD, q)).2.1.2.1), Value.long (lN 0), Value.long (lN (gr0 is n F (RR, CD, q)).2.1.1), Value.ref ri, Value.ref ro, Value.ref rw, Value.int (nI (wrS is (RR / (ns F n) * (F (sgA F n uw9)), CD - RR / (ns F n) * (ns F (sgA F n uw9)), q)).2.2)])), (ri, Sum.inr (0, [Value.int (nI is.length), Value.ref ria])), (ria, Sum.inl (cI, rik, Sum.inl rif)), (oo, Sum.inr (7, [Value.int osg, Value.int (nI (ns (lrn n (sgA F n uw9) F) n)), Value.int ofc, Value.ref oca, Value.ref opa])), (oca, Sum.inl (cI, n, Sum.inl ocfq_49)), (opa, Sum.inl (cI, opl, Sum.inl opf))] H := ⟨hP, hD⟩
      have hP := hPD.1
      have hD := hPD.2
      have hsu : (nI (wrS is (RR / (ns F n) * (F (sgA F n uw9)), CD - RR / (ns F n) * (ns F (sgA F n uw9)), q)).2.2 : Int32) = nI (gr0 is n F (RR, CD, q)).2.1.2.2 := by rw [hgr]
      rw [hsu] at hP hD
      have hPD : my_PD (dC, dI) vwCl A [(co, Sum.inr (1, [Value.int xcache, Value.int xpending, Value.long xlow, Value.long xrange, Value.long (lN (gr0 is n F (RR, CD, q)).2.1.2.1), Value.long (lN 0), Value.long (lN (gr0 is n F (RR, CD, q)).2.1.1), Value.ref ri, Value.ref ro, Value.ref rw, Value.int (nI (gr0 is n F (RR, CD, q)).2.1.2.2)])), (ri, Sum.inr (0, [Value.int (nI is.length), Value.ref ria])), (ria, Sum.inl (cI, rik, Sum.inl rif)), (oo, Sum.inr (7, [Value.int osg, Value.int (nI (ns (lrn n (sgA F n uw9) F) n)), Value.int ofc, Value.ref oca, Value.ref opa])), (oca, Sum.inl (cI, n, Sum.inl ocfq_49)), (opa, Sum.inl (cI, opl, Sum.inl opf))] H := ⟨hP, hD⟩
      have hP := hPD.1
      have hD := hPD.2
      have hsu : (nI (ns (lrn n (sgA F n uw9) F) n) : Int32) = nI (ns (gr0 is n F (RR, CD, q)).2.2 n) := by rw [hgr]
      rw [hsu] at hP hD
      have hPD : my_PD (dC, dI) vwCl A [(co, Sum.inr (1, [Value.int xcache, Value.int xpending, Value.long xlow, Value.long xrange, Value.long (lN (gr0 is n F (RR, CD, q)).2.1.2.1), Value.long (lN 0), Value.long (lN (gr0 is n F (RR, CD, q)).2.1.1), Value.ref ri, Value.ref ro, Value.ref rw, Value.int (nI (gr0 is n F (RR, CD, q)).2.1.2.2)])), (ri, Sum.inr (0, [Value.int (nI is.length), Value.ref ria])), (ria, Sum.inl (cI, rik, Sum.inl rif)), (oo, Sum.inr (7, [Value.int osg, Value.int (nI (ns (gr0 is n F (RR, CD, q)).2.2 n)), Value.int ofc, Value.ref oca, Value.ref opa])), (oca, Sum.inl (cI, n, Sum.inl ocfq_49)), (opa, Sum.inl (cI, opl, Sum.inl opf))] H := ⟨hP, hD⟩
      have hP := hPD.1
      have hD := hPD.2
      refine lv_iload_n hx hb d_Ranged_nextSign_52 rfl (lv_at hl 0 rfl) ?_
      exact my_iret (v := (nI (sgA F n uw9))) hx hb hr (rfl) hlocks hQ hK hS (Nat.le_refl _) (Nat.le_refl _) (ocfq_49) (⟨by rw [hgr]; rfl, by rw [hgr]; exact hf_49⟩) (hP.sub [0, 1, 2, 3, 4, 5] rfl) (hD.sub [0, 1, 2, 3, 4, 5] (by decide +kernel) rfl) d_Ranged_nextSign_53
  · refine lv_iconst (v := (-1)) hx hb d_Ranged_nextSign_14 (by decide) ?_
    refine lv_goto (tgt := 23) hx hb d_Ranged_nextSign_15 (by decide) ?_
    refine lv_istore_n (lv' := [(3, Value.int (-1)), (2, Value.int r_5), (0, Value.ref co), (1, Value.ref oo)]) hx hb d_Ranged_nextSign_23 rfl hl (by decide) rfl (fun ls hl => ?_)
    refine lv_iload_n hx hb d_Ranged_nextSign_24 rfl (lv_at hl 0 rfl) ?_
    refine lv_iconst (v := (-1)) hx hb d_Ranged_nextSign_25 (by decide) ?_
    refine lv_icmp_eq (tgt := 52) hx hb d_Ranged_nextSign_26 (by decide) (fun c_3 => ?_) (fun c_3 => ?_)
    · have hn9 : wnt (ns F n) RR CD = none := by
        cases h9 : wnt (ns F n) RR CD with
        | none => rfl
        | some u => rw [h9] at hsh; exact absurd (hsh.symm.trans (c_1)) (nI_nm1 (by have := wnt_lt h9; omega))
      have hgr : gr0 is n F (RR, CD, q) = (none, (RR, CD, q), F) := by unfold gr0; simp only [hn9]
      have hsu : (lN RR : Int64) = lN (gr0 is n F (RR, CD, q)).2.1.1 := by rw [hgr]
      rw [hsu] at hP hD
      have hPD : my_PD (dC, dI) vwCl A [(ri, Sum.inr (0, [Value.int (nI is.length), Value.ref ria])), (ria, Sum.inl (cI, rik, Sum.inl rif)), (oo, Sum.inr (7, [Value.int osg, Value.int (nI (ns F n)), Value.int ofc, Value.ref oca, Value.ref opa])), (oca, Sum.inl (cI, n, Sum.inl ocf)), (opa, Sum.inl (cI, opl, Sum.inl opf)), (co, Sum.inr (1, [Value.int xcache, Value.int xpending, Value.long xlow, Value.long xrange, Value.long (lN CD), Value.long (lN 0), Value.long (lN (gr0 is n F (RR, CD, q)).2.1.1), Value.ref ri, Value.ref ro, Value.ref rw, Value.int (nI q)]))] H := ⟨hP, hD⟩
      have hP := hPD.1
      have hD := hPD.2
      have hsu : (lN CD : Int64) = lN (gr0 is n F (RR, CD, q)).2.1.2.1 := by rw [hgr]
      rw [hsu] at hP hD
      have hPD : my_PD (dC, dI) vwCl A [(ri, Sum.inr (0, [Value.int (nI is.length), Value.ref ria])), (ria, Sum.inl (cI, rik, Sum.inl rif)), (oo, Sum.inr (7, [Value.int osg, Value.int (nI (ns F n)), Value.int ofc, Value.ref oca, Value.ref opa])), (oca, Sum.inl (cI, n, Sum.inl ocf)), (opa, Sum.inl (cI, opl, Sum.inl opf)), (co, Sum.inr (1, [Value.int xcache, Value.int xpending, Value.long xlow, Value.long xrange, Value.long (lN (gr0 is n F (RR, CD, q)).2.1.2.1), Value.long (lN 0), Value.long (lN (gr0 is n F (RR, CD, q)).2.1.1), Value.ref ri, Value.ref ro, Value.ref rw, Value.int (nI q)]))] H := ⟨hP, hD⟩
      have hP := hPD.1
      have hD := hPD.2
      have hsu : ((nI q) : Int32) = nI (gr0 is n F (RR, CD, q)).2.1.2.2 := by rw [hgr]
      rw [hsu] at hP hD
      have hPD : my_PD (dC, dI) vwCl A [(ri, Sum.inr (0, [Value.int (nI is.length), Value.ref ria])), (ria, Sum.inl (cI, rik, Sum.inl rif)), (oo, Sum.inr (7, [Value.int osg, Value.int (nI (ns F n)), Value.int ofc, Value.ref oca, Value.ref opa])), (oca, Sum.inl (cI, n, Sum.inl ocf)), (opa, Sum.inl (cI, opl, Sum.inl opf)), (co, Sum.inr (1, [Value.int xcache, Value.int xpending, Value.long xlow, Value.long xrange, Value.long (lN (gr0 is n F (RR, CD, q)).2.1.2.1), Value.long (lN 0), Value.long (lN (gr0 is n F (RR, CD, q)).2.1.1), Value.ref ri, Value.ref ro, Value.ref rw, Value.int (nI (gr0 is n F (RR, CD, q)).2.1.2.2)]))] H := ⟨hP, hD⟩
      have hP := hPD.1
      have hD := hPD.2
      have hsu : (nI (ns F n) : Int32) = nI (ns (gr0 is n F (RR, CD, q)).2.2 n) := by rw [hgr]
      rw [hsu] at hP hD
      have hPD : my_PD (dC, dI) vwCl A [(ri, Sum.inr (0, [Value.int (nI is.length), Value.ref ria])), (ria, Sum.inl (cI, rik, Sum.inl rif)), (oo, Sum.inr (7, [Value.int osg, Value.int (nI (ns (gr0 is n F (RR, CD, q)).2.2 n)), Value.int ofc, Value.ref oca, Value.ref opa])), (oca, Sum.inl (cI, n, Sum.inl ocf)), (opa, Sum.inl (cI, opl, Sum.inl opf)), (co, Sum.inr (1, [Value.int xcache, Value.int xpending, Value.long xlow, Value.long xrange, Value.long (lN (gr0 is n F (RR, CD, q)).2.1.2.1), Value.long (lN 0), Value.long (lN (gr0 is n F (RR, CD, q)).2.1.1), Value.ref ri, Value.ref ro, Value.ref rw, Value.int (nI (gr0 is n F (RR, CD, q)).2.1.2.2)]))] H := ⟨hP, hD⟩
      have hP := hPD.1
      have hD := hPD.2
      refine lv_iload_n hx hb d_Ranged_nextSign_52 rfl (lv_at hl 0 rfl) ?_
      exact my_iret (v := (-1)) hx hb hr (rfl) hlocks hQ hK hS (Nat.le_refl _) (Nat.le_refl _) (ocf) (⟨by rw [hgr]; rfl, by rw [hgr]; exact hf⟩) (hP.sub [5, 0, 1, 2, 3, 4] rfl) (hD.sub [5, 0, 1, 2, 3, 4] (by decide +kernel) rfl) d_Ranged_nextSign_53
    · exact absurd rfl c_3
set_option maxHeartbeats 2000000 in
set_option maxRecDepth 100000 in
theorem f_Carries_nextValue (l : Launch) (dC : Nat → ClassId) (dI : Nat → Nat → Nat) (cI cM cO : ClassId) (sz : Nat) (co : Nat) (xcache : Int32) (xpending : Int32) (xlow : Int64) (xrange : Int64) (ri : Nat) (ro : Nat) (rw : Nat) (ria : Nat) (rik : Nat) (rif : Nat → Int32) (is : List Nat) (RR : Nat) (CD : Nat) (q : Nat) (b : Nat) (hri : rOk (nI is.length) rik) (hGri : gIs rif is) (hLri : is.length ≤ 6000) (hoct : oct is) (hb1 : 1 ≤ b) (hb2 : b ≤ 12) (hR1 : RR < 4294967296) (hC : CD < 4294967296) (hq : q < 900000000) : MetI l y_Ranged_nextValue (Cond.code y_Ranged_nextValue prog_8_method_12_code 3 (some .int) :: gw) ({ frames := 5, cells := 0, slots := 0, locals := 109 } : Room) (dC, dI) vwCl (kT cI cM cO) [Value.ref co, Value.int (nI b)] [(co, Sum.inr (1, [Value.int xcache, Value.int xpending, Value.long xlow, Value.long xrange, Value.long (lN CD), Value.long (lN 0), Value.long (lN RR), Value.ref ri, Value.ref ro, Value.ref rw, Value.int (nI q)])), (ri, Sum.inr (0, [Value.int (nI is.length), Value.ref ria])), (ria, Sum.inl (cI, rik, Sum.inl rif))] sz (fun (r : Int32) (u : Unit) => r = oI (gv0 is b (RR, CD, q)).1) (fun (u : Unit) => [(co, Sum.inr (1, [Value.int xcache, Value.int xpending, Value.long xlow, Value.long xrange, Value.long (lN ((gv0 is b (RR, CD, q)).2).2.1), Value.long (lN 0), Value.long (lN ((gv0 is b (RR, CD, q)).2).1), Value.ref ri, Value.ref ro, Value.ref rw, Value.int (nI ((gv0 is b (RR, CD, q)).2).2.2)])), (ri, Sum.inr (0, [Value.int (nI is.length), Value.ref ria])), (ria, Sum.inl (cI, rik, Sum.inl rif))]) 0 0 := by
  refine my_ofI (cc := prog_8_method_12_code) (n := 3) (ret := (some .int)) (by decide) rfl (Nat.le_of_ble_eq_true rfl) ?_
  intro p e s m args below meth c R Q A ls H locs hx hb hr hts hown hlocks hml hnm hR hQ hA hl hP hK hN hD hS
  have hg : ∀ w ∈ gw, w.before args s = true := fun w h => hts w (List.mem_cons_of_mem _ h)
  have hown : s.vm.findClass "RangeCoders$Ranged" = some m.cls := hown
  have hl : lv_has ls 3 [(0, Value.ref co), (1, Value.int (nI b))] := hl
  have hlti := rOk_lt hri
  have hpw : 2 ^ b ≤ 2 ^ 12 := Nat.pow_le_pow_right (by decide) hb2
  have hpw0 : 0 < 2 ^ b := Nat.pow_pos (by decide)
  refine lv_aload_n hx hb d_Ranged_nextValue_0 rfl (lv_at hl 0 rfl) ?_
  refine lv_iconst (v := 1) hx hb d_Ranged_nextValue_1 (by decide) ?_
  refine lv_iload_n hx hb d_Ranged_nextValue_2 rfl (lv_at hl 1 rfl) ?_
  refine lv_ishl hx hb d_Ranged_nextValue_3 ?_
  refine lv_topi (fun v_1 ev_1 => ?_)
  have z9 : v_1 = nI (2 ^ b) := by rw [ev_1]; exact shl1 b (by omega)
  subst z9
  refine my_ci (wr := [(ri, Sum.inr (0, [Value.int (nI is.length), Value.ref ria])), (ria, Sum.inl (cI, rik, Sum.inl rif))]) (va_runU (As := [Value.int (nI (2 ^ b))]) (rest := []) ⟨hx, hb, hml, hown, hts⟩ (f_Carries_nextShare l dC dI cI cM cO H.size co xcache xpending xlow xrange ri ro rw (nI q) RR CD 0 (2 ^ b) (hR1) (hC) (by decide) (by omega)) (va_cwU 1 hts (my_gU k807 k1289 kx4 k809 k4 k810) rfl rfl rfl rfl (by decide +kernel) ⟨by rw [hR]; exact Nat.le_of_ble_eq_true rfl, by rw [hR]; exact Nat.le_of_ble_eq_true rfl⟩) (my_preV hK hN (hP.sub [0] rfl) (hD.sub [0] (by decide +kernel) rfl) 0 rfl rfl) rfl rfl hl.1 rfl (lv_room (Nat.le_of_ble_eq_true rfl)) d_Ranged_nextValue_4 ⟨by rw [hR]; exact Nat.le_of_ble_eq_true rfl, by rw [hR]; exact Nat.le_of_ble_eq_true rfl⟩) hP hD hS hA [0] [1, 2] rfl rfl (by decide +kernel) (by decide +kernel) (fun r_4 u9 H locs hw_4 hP hD hS => ?_)
  have hr_4 : r_4 = oI (wnt (2 ^ b) RR ((CD + 4294967296 - 0) % 4294967296)) := hw_4
  have hPD : my_PD (dC, dI) vwCl A [(ri, Sum.inr (0, [Value.int (nI is.length), Value.ref ria])), (ria, Sum.inl (cI, rik, Sum.inl rif)), (co, Sum.inr (1, [Value.int xcache, Value.int xpending, Value.long xlow, Value.long xrange, Value.long (lN CD), Value.long (lN 0), Value.long (lN RR), Value.ref ri, Value.ref ro, Value.ref rw, Value.int (nI q)]))] H := ⟨hP, hD⟩
  have hP := hPD.1
  have hD := hPD.2
  have hsh : r_4 = oI (wnt (2 ^ b) RR CD) := (by rw [hr_4, sh_0 hC])
  refine lv_istore_n (lv' := [(2, Value.int r_4), (0, Value.ref co), (1, Value.int (nI b))]) hx hb d_Ranged_nextValue_7 rfl hl (by decide) rfl (fun ls hl => ?_)
  refine lv_iload_n hx hb d_Ranged_nextValue_8 rfl (lv_at hl 0 rfl) ?_
  refine lv_iconst (v := (-1)) hx hb d_Ranged_nextValue_9 (by decide) ?_
  refine lv_icmp_eq (tgt := 22) hx hb d_Ranged_nextValue_10 (by decide) (fun c_2 => ?_) (fun c_2 => ?_)
  · have hn9 : wnt (2 ^ b) RR CD = none := by
      cases h9 : wnt (2 ^ b) RR CD with
      | none => rfl
      | some u => rw [h9] at hsh; exact absurd (hsh.symm.trans c_2) (nI_nm1 (by have := wnt_lt h9; omega))
    have hgr : gv0 is b (RR, CD, q) = (none, (RR, CD, q)) := by unfold gv0; simp only [hn9]
    have hsu : (lN RR : Int64) = lN (gv0 is b (RR, CD, q)).2.1 := by rw [hgr]
    rw [hsu] at hP hD
    have hPD : my_PD (dC, dI) vwCl A [(ri, Sum.inr (0, [Value.int (nI is.length), Value.ref ria])), (ria, Sum.inl (cI, rik, Sum.inl rif)), (co, Sum.inr (1, [Value.int xcache, Value.int xpending, Value.long xlow, Value.long xrange, Value.long (lN CD), Value.long (lN 0), Value.long (lN (gv0 is b (RR, CD, q)).2.1), Value.ref ri, Value.ref ro, Value.ref rw, Value.int (nI q)]))] H := ⟨hP, hD⟩
    have hP := hPD.1
    have hD := hPD.2
    have hsu : (lN CD : Int64) = lN (gv0 is b (RR, CD, q)).2.2.1 := by rw [hgr]
    rw [hsu] at hP hD
    have hPD : my_PD (dC, dI) vwCl A [(ri, Sum.inr (0, [Value.int (nI is.length), Value.ref ria])), (ria, Sum.inl (cI, rik, Sum.inl rif)), (co, Sum.inr (1, [Value.int xcache, Value.int xpending, Value.long xlow, Value.long xrange, Value.long (lN (gv0 is b (RR, CD, q)).2.2.1), Value.long (lN 0), Value.long (lN (gv0 is b (RR, CD, q)).2.1), Value.ref ri, Value.ref ro, Value.ref rw, Value.int (nI q)]))] H := ⟨hP, hD⟩
    have hP := hPD.1
    have hD := hPD.2
    have hsu : ((nI q) : Int32) = nI (gv0 is b (RR, CD, q)).2.2.2 := by rw [hgr]
    rw [hsu] at hP hD
    have hPD : my_PD (dC, dI) vwCl A [(ri, Sum.inr (0, [Value.int (nI is.length), Value.ref ria])), (ria, Sum.inl (cI, rik, Sum.inl rif)), (co, Sum.inr (1, [Value.int xcache, Value.int xpending, Value.long xlow, Value.long xrange, Value.long (lN (gv0 is b (RR, CD, q)).2.2.1), Value.long (lN 0), Value.long (lN (gv0 is b (RR, CD, q)).2.1), Value.ref ri, Value.ref ro, Value.ref rw, Value.int (nI (gv0 is b (RR, CD, q)).2.2.2)]))] H := ⟨hP, hD⟩
    have hP := hPD.1
    have hD := hPD.2
    refine lv_iload_n hx hb d_Ranged_nextValue_22 rfl (lv_at hl 0 rfl) ?_
    exact my_iret (v := r_4) hx hb hr (rfl) hlocks hQ hK hS (Nat.le_refl _) (Nat.le_refl _) () (by rw [hgr]; exact c_2) (hP.sub [2, 0, 1] rfl) (hD.sub [2, 0, 1] (by decide +kernel) rfl) d_Ranged_nextValue_23
  · obtain ⟨uw9, hu9⟩ : ∃ u, wnt (2 ^ b) RR CD = some u := by
      cases h9 : wnt (2 ^ b) RR CD with
      | none => rw [h9] at hsh; exact absurd hsh c_2
      | some u => exact ⟨u, rfl⟩
    obtain ⟨hu0, hu1, hu2, hu3⟩ := wnt_ok hu9
    have z9 : r_4 = nI uw9 := by rw [hsh, hu9]; rfl
    subst z9
    refine lv_aload_n hx hb d_Ranged_nextValue_13 rfl (lv_at hl 1 rfl) ?_
    refine lv_iconst (v := 1) hx hb d_Ranged_nextValue_14 (by decide) ?_
    refine lv_iload_n hx hb d_Ranged_nextValue_15 rfl (lv_at hl 0 rfl) ?_
    refine lv_iconst (v := 1) hx hb d_Ranged_nextValue_16 (by decide) ?_
    refine lv_iload_n hx hb d_Ranged_nextValue_17 rfl (lv_at hl 2 rfl) ?_
    refine lv_ishl hx hb d_Ranged_nextValue_18 ?_
    refine lv_topi (fun v_3 ev_3 => ?_)
    have z9 : v_3 = nI (2 ^ b) := by rw [ev_3]; exact shl1 b (by omega)
    subst z9
    refine W.eq (g2 := F0 m 19 ls [Value.int (nI (2 ^ b)), Value.int (nI uw9), Value.int (nI 1), Value.ref co]) rfl ?_
    refine my_cv (wr := []) (va_runU (As := [Value.int (nI 1), Value.int (nI uw9), Value.int (nI (2 ^ b))]) (rest := []) ⟨hx, hb, hml, hown, hts⟩ (f_Carries_readPart l dC dI cI cM cO H.size co xcache xpending xlow xrange (lN 0) ri ro rw ria rik rif is RR CD q uw9 1 (2 ^ b) (hri) (hGri) (hLri) (hoct) (hu0) (by omega) (hu3) (by decide) (hu1) (hR1) (hC) (hu2) (hq)) (va_cwA 3 hts (my_gU k815 k817 k822 k819 k5 k820) rfl rfl rfl (hN.1 _ j816 rfl) (by decide +kernel) ⟨by rw [hR]; exact Nat.le_of_ble_eq_true rfl, by rw [hR]; exact Nat.le_of_ble_eq_true rfl⟩) (my_preV hK hN (hP.sub [2, 0, 1] rfl) (hD.sub [2, 0, 1] (by decide +kernel) rfl) 0 rfl rfl) rfl rfl hl.1 rfl (lv_room (Nat.le_of_ble_eq_true rfl)) d_Ranged_nextValue_19 ⟨by rw [hR]; exact Nat.le_of_ble_eq_true rfl, by rw [hR]; exact Nat.le_of_ble_eq_true rfl⟩) hP hD hS hA [2, 0, 1] [] rfl rfl (by decide +kernel) (by decide +kernel) (fun u9 H locs hw_19 hP hD hS => ?_)
    have hPD : my_PD (dC, dI) vwCl A [(co, Sum.inr (1, [Value.int xcache, Value.int xpending, Value.long xlow, Value.long xrange, Value.long (lN (wrS is (RR / (2 ^ b) * 1, CD - RR / (2 ^ b) * uw9, q)).2.1), Value.long (lN 0), Value.long (lN (wrS is (RR / (2 ^ b) * 1, CD - RR / (2 ^ b) * uw9, q)).1), Value.ref ri, Value.ref ro, Value.ref rw, Value.int (nI (wrS is (RR / (2 ^ b) * 1, CD - RR / (2 ^ b) * uw9, q)).2.2)])), (ri, Sum.inr (0, [Value.int (nI is.length), Value.ref ria])), (ria, Sum.inl (cI, rik, Sum.inl rif))] H := ⟨hP, hD⟩
    have hP := hPD.1
    have hD := hPD.2
    have hgr : gv0 is b (RR, CD, q) = (some uw9, (wrS is (RR / 2 ^ b * 1, CD - RR / 2 ^ b * uw9, q))) := by unfold gv0; simp only [hu9]
    have hsu : (lN (wrS is (RR / (2 ^ b) * 1, CD - RR / (2 ^ b) * uw9, q)).1 : Int64) = lN (gv0 is b (RR, CD, q)).2.1 := by rw [hgr]
    rw [hsu] at hP hD
    have hPD : my_PD (dC, dI) vwCl A [(co, Sum.inr (1, [Value.int xcache, Value.int xpending, Value.long xlow, Value.long xrange, Value.long (lN (wrS is (RR / (2 ^ b) * 1, CD - RR / (2 ^ b) * uw9, q)).2.1), Value.long (lN 0), Value.long (lN (gv0 is b (RR, CD, q)).2.1), Value.ref ri, Value.ref ro, Value.ref rw, Value.int (nI (wrS is (RR / (2 ^ b) * 1, CD - RR / (2 ^ b) * uw9, q)).2.2)])), (ri, Sum.inr (0, [Value.int (nI is.length), Value.ref ria])), (ria, Sum.inl (cI, rik, Sum.inl rif))] H := ⟨hP, hD⟩
    have hP := hPD.1
    have hD := hPD.2
    have hsu : (lN (wrS is (RR / (2 ^ b) * 1, CD - RR / (2 ^ b) * uw9, q)).2.1 : Int64) = lN (gv0 is b (RR, CD, q)).2.2.1 := by rw [hgr]
    rw [hsu] at hP hD
    have hPD : my_PD (dC, dI) vwCl A [(co, Sum.inr (1, [Value.int xcache, Value.int xpending, Value.long xlow, Value.long xrange, Value.long (lN (gv0 is b (RR, CD, q)).2.2.1), Value.long (lN 0), Value.long (lN (gv0 is b (RR, CD, q)).2.1), Value.ref ri, Value.ref ro, Value.ref rw, Value.int (nI (wrS is (RR / (2 ^ b) * 1, CD - RR / (2 ^ b) * uw9, q)).2.2)])), (ri, Sum.inr (0, [Value.int (nI is.length), Value.ref ria])), (ria, Sum.inl (cI, rik, Sum.inl rif))] H := ⟨hP, hD⟩
    have hP := hPD.1
    have hD := hPD.2
    have hsu : (nI (wrS is (RR / (2 ^ b) * 1, CD - RR / (2 ^ b) * uw9, q)).2.2 : Int32) = nI (gv0 is b (RR, CD, q)).2.2.2 := by rw [hgr]
    rw [hsu] at hP hD
    have hPD : my_PD (dC, dI) vwCl A [(co, Sum.inr (1, [Value.int xcache, Value.int xpending, Value.long xlow, Value.long xrange, Value.long (lN (gv0 is b (RR, CD, q)).2.2.1), Value.long (lN 0), Value.long (lN (gv0 is b (RR, CD, q)).2.1), Value.ref ri, Value.ref ro, Value.ref rw, Value.int (nI (gv0 is b (RR, CD, q)).2.2.2)])), (ri, Sum.inr (0, [Value.int (nI is.length), Value.ref ria])), (ria, Sum.inl (cI, rik, Sum.inl rif))] H := ⟨hP, hD⟩
    have hP := hPD.1
    have hD := hPD.2
    refine lv_iload_n hx hb d_Ranged_nextValue_22 rfl (lv_at hl 0 rfl) ?_
    exact my_iret (v := (nI uw9)) hx hb hr (rfl) hlocks hQ hK hS (Nat.le_refl _) (Nat.le_refl _) () (by rw [hgr]; rfl) (hP.sub [0, 1, 2] rfl) (hD.sub [0, 1, 2] (by decide +kernel) rfl) d_Ranged_nextValue_23
set_option maxHeartbeats 2000000 in
set_option maxRecDepth 100000 in
theorem f_Carries_openReading (l : Launch) (dC : Nat → ClassId) (dI : Nat → Nat → Nat) (cI cM cO : ClassId) (sz : Nat) (co : Nat) (xcache : Int32) (xpending : Int32) (xlow : Int64) (xrange : Int64) (xcode : Int64) (xreadLow : Int64) (xreadRange : Int64) (ri : Nat) (ro : Nat) (rw : Nat) (xasked : Int32) (ria : Nat) (rik : Nat) (rif : Nat → Int32) (is : List Nat) (hri : rOk (nI is.length) rik) (hGri : gIs rif is) (hLri : is.length ≤ 6000) (hoct : oct is) : MetI l y_Ranged_openReading (Cond.code y_Ranged_openReading prog_8_method_10_code 1 (some .boolean) :: gw) ({ frames := 4, cells := 0, slots := 0, locals := 86 } : Room) (dC, dI) vwCl (kT cI cM cO) [Value.ref co] [(co, Sum.inr (1, [Value.int xcache, Value.int xpending, Value.long xlow, Value.long xrange, Value.long xcode, Value.long xreadLow, Value.long xreadRange, Value.ref ri, Value.ref ro, Value.ref rw, Value.int xasked])), (ri, Sum.inr (0, [Value.int (nI is.length), Value.ref ria])), (ria, Sum.inl (cI, rik, Sum.inl rif))] sz (fun (r : Int32) (u : Unit) => r = 1) (fun (u : Unit) => [(co, Sum.inr (1, [Value.int xcache, Value.int xpending, Value.long xlow, Value.long xrange, Value.long (lN (frN is 0 4)), Value.long (lN 0), Value.long (lN 4294967295), Value.ref ri, Value.ref ro, Value.ref rw, Value.int (nI 4)])), (ri, Sum.inr (0, [Value.int (nI is.length), Value.ref ria])), (ria, Sum.inl (cI, rik, Sum.inl rif))]) 0 0 := by
  refine my_ofI (cc := prog_8_method_10_code) (n := 1) (ret := (some .boolean)) (by decide) rfl (Nat.le_of_ble_eq_true rfl) ?_
  intro p e s m args below meth c R Q A ls H locs hx hb hr hts hown hlocks hml hnm hR hQ hA hl hP hK hN hD hS
  have hg : ∀ w ∈ gw, w.before args s = true := fun w h => hts w (List.mem_cons_of_mem _ h)
  have hown : s.vm.findClass "RangeCoders$Ranged" = some m.cls := hown
  have hl : lv_has ls 1 [(0, Value.ref co)] := hl
  have hlti := rOk_lt hri
  refine lv_aload_n hx hb d_Ranged_openReading_0 rfl (lv_at hl 0 rfl) ?_
  refine lv_aload_n hx hb d_Ranged_openReading_1 rfl (lv_at hl 0 rfl) ?_
  refine my_cl (wr := []) (va_runU (As := []) (rest := [Value.ref co]) ⟨hx, hb, hml, hown, hts⟩ (f_Carries_four l dC dI cI cM cO H.size co xcache xpending xlow xrange xcode xreadLow xreadRange ri ro rw xasked ria rik rif is (hri) (hGri) (hLri) (by first | assumption | omega)) (va_cwU 0 hts (my_gU k733 k734 k737 k739 k3 k740) rfl rfl rfl rfl (by decide +kernel) ⟨by rw [hR]; exact Nat.le_of_ble_eq_true rfl, by rw [hR]; exact Nat.le_of_ble_eq_true rfl⟩) (my_preV hK hN (hP.sub [0, 1, 2] rfl) (hD.sub [0, 1, 2] (by decide +kernel) rfl) 0 rfl rfl) rfl rfl hl.1 rfl (lv_room (Nat.le_of_ble_eq_true rfl)) d_Ranged_openReading_2 ⟨by rw [hR]; exact Nat.le_of_ble_eq_true rfl, by rw [hR]; exact Nat.le_of_ble_eq_true rfl⟩) hP hD hS hA [0, 1, 2] [] rfl rfl (by decide +kernel) (by decide +kernel) (fun r_2 u9 H locs hw_2 hP hD hS => ?_)
  have hr_2 : r_2 = lN (frN is 0 4) := hw_2
  have hPD : my_PD (dC, dI) vwCl A [(co, Sum.inr (1, [Value.int xcache, Value.int xpending, Value.long xlow, Value.long xrange, Value.long xcode, Value.long xreadLow, Value.long xreadRange, Value.ref ri, Value.ref ro, Value.ref rw, Value.int (nI 4)])), (ri, Sum.inr (0, [Value.int (nI is.length), Value.ref ria])), (ria, Sum.inl (cI, rik, Sum.inl rif))] H := ⟨hP, hD⟩
  have hP := hPD.1
  have hD := hPD.2
  have z9 : r_2 = lN (frN is 0 4) := hr_2
  subst z9
  refine va_put (D := (dC, dI)) (ci := 1) (v := .long (lN (frN is 0 4))) (ty := .long) (C := "RangeCoders$Carries") (T := T_Carries) (N := 11) hx hb hg in_Carries t_Carries o_Carries n_Carries hown hK hP hD hS 0 rfl rfl 4 (by decide) (hg _ k90) (fun _ h9 => h9) rfl (o_Carries 4 (by decide)) rfl rfl (Nat.le_of_ble_eq_true rfl) d_Ranged_openReading_5 (fun H locs hP hD hS => ?_)
  have hPD : my_PD (dC, dI) vwCl A [(co, Sum.inr (1, [Value.int xcache, Value.int xpending, Value.long xlow, Value.long xrange, Value.long (lN (frN is 0 4)), Value.long xreadLow, Value.long xreadRange, Value.ref ri, Value.ref ro, Value.ref rw, Value.int (nI 4)])), (ri, Sum.inr (0, [Value.int (nI is.length), Value.ref ria])), (ria, Sum.inl (cI, rik, Sum.inl rif))] H := ⟨hP, hD⟩
  have hP := hPD.1
  have hD := hPD.2
  refine lv_aload_n hx hb d_Ranged_openReading_8 rfl (lv_at hl 0 rfl) ?_
  refine lv_lconst (v := 0) hx hb d_Ranged_openReading_9 (by decide) ?_
  refine va_put (D := (dC, dI)) (ci := 1) (v := .long 0) (ty := .long) (C := "RangeCoders$Carries") (T := T_Carries) (N := 11) hx hb hg in_Carries t_Carries o_Carries n_Carries hown hK hP hD hS 0 rfl rfl 5 (by decide) (hg _ k93) (fun _ h9 => h9) rfl (o_Carries 5 (by decide)) rfl rfl (Nat.le_of_ble_eq_true rfl) d_Ranged_openReading_10 (fun H locs hP hD hS => ?_)
  have hPD : my_PD (dC, dI) vwCl A [(co, Sum.inr (1, [Value.int xcache, Value.int xpending, Value.long xlow, Value.long xrange, Value.long (lN (frN is 0 4)), Value.long 0, Value.long xreadRange, Value.ref ri, Value.ref ro, Value.ref rw, Value.int (nI 4)])), (ri, Sum.inr (0, [Value.int (nI is.length), Value.ref ria])), (ria, Sum.inl (cI, rik, Sum.inl rif))] H := ⟨hP, hD⟩
  have hP := hPD.1
  have hD := hPD.2
  refine lv_aload_n hx hb d_Ranged_openReading_13 rfl (lv_at hl 0 rfl) ?_
  refine lv_ldc2 (v := 4294967295) hx hb hown (hg _ k67) d_Ranged_openReading_14 ?_
  refine va_put (D := (dC, dI)) (ci := 1) (v := .long 4294967295) (ty := .long) (C := "RangeCoders$Carries") (T := T_Carries) (N := 11) hx hb hg in_Carries t_Carries o_Carries n_Carries hown hK hP hD hS 0 rfl rfl 6 (by decide) (hg _ k100) (fun _ h9 => h9) rfl (o_Carries 6 (by decide)) rfl rfl (Nat.le_of_ble_eq_true rfl) d_Ranged_openReading_17 (fun H locs hP hD hS => ?_)
  have hPD : my_PD (dC, dI) vwCl A [(co, Sum.inr (1, [Value.int xcache, Value.int xpending, Value.long xlow, Value.long xrange, Value.long (lN (frN is 0 4)), Value.long 0, Value.long 4294967295, Value.ref ri, Value.ref ro, Value.ref rw, Value.int (nI 4)])), (ri, Sum.inr (0, [Value.int (nI is.length), Value.ref ria])), (ria, Sum.inl (cI, rik, Sum.inl rif))] H := ⟨hP, hD⟩
  have hP := hPD.1
  have hD := hPD.2
  refine lv_iconst (v := 1) hx hb d_Ranged_openReading_20 (by decide) ?_
  exact my_iret (v := 1) hx hb hr (rfl) hlocks hQ hK hS (Nat.le_refl _) (Nat.le_refl _) () (rfl) (hP.sub [0, 1, 2] rfl) (hD.sub [0, 1, 2] (by decide +kernel) rfl) d_Ranged_openReading_21
set_option maxHeartbeats 2000000 in
set_option maxRecDepth 100000 in
theorem f_NoCarries_nextSign (l : Launch) (dC : Nat → ClassId) (dI : Nat → Nat → Nat) (cI cM cO : ClassId) (sz : Nat) (co : Nat) (xlow : Int64) (xrange : Int64) (ri : Nat) (ro : Nat) (rw : Nat) (ria : Nat) (rik : Nat) (rif : Nat → Int32) (is : List Nat) (RR : Nat) (RL : Nat) (CD : Nat) (q : Nat) (oo : Nat) (osg : Int32) (ofc : Int32) (oca : Nat) (opa : Nat) (n : Nat) (ocf : Nat → Int32) (opl : Nat) (opf : Nat → Int32) (F : Nat → Nat) (hri : rOk (nI is.length) rik) (hGri : gIs rif is) (hLri : is.length ≤ 6000) (hoct : oct is) (hn : n ≤ 64) (hpl : opl ≤ 512) (hf : tbI ocf n F) (hfc0 : ofc = 0) (hsum : ns F n ≤ 8192) (hp : pOk RR RL) (hC : CD < 4294967296) (hq : q < 900000000) : MetI l y_Ranged_nextSign (Cond.code y_Ranged_nextSign prog_8_method_11_code 4 (some .int) :: gw) ({ frames := 4, cells := 0, slots := 0, locals := 89 } : Room) (dC, dI) vwCl (kT cI cM cO) [Value.ref co, Value.ref oo] [(co, Sum.inr (2, [Value.long xlow, Value.long xrange, Value.long (lN CD), Value.long (lN RL), Value.long (lN RR), Value.ref ri, Value.ref ro, Value.ref rw, Value.int (nI q)])), (ri, Sum.inr (0, [Value.int (nI is.length), Value.ref ria])), (ria, Sum.inl (cI, rik, Sum.inl rif)), (oo, Sum.inr (7, [Value.int osg, Value.int (nI (ns F n)), Value.int ofc, Value.ref oca, Value.ref opa])), (oca, Sum.inl (cI, n, Sum.inl ocf)), (opa, Sum.inl (cI, opl, Sum.inl opf))] sz (fun (r : Int32) (u : (Nat → Int32)) => r = oI (gr1 is n F (RR, RL, CD, q)).1 ∧ tbI u n (gr1 is n F (RR, RL, CD, q)).2.2) (fun (u : (Nat → Int32)) => [(co, Sum.inr (2, [Value.long xlow, Value.long xrange, Value.long (lN ((gr1 is n F (RR, RL, CD, q)).2.1).2.2.1), Value.long (lN ((gr1 is n F (RR, RL, CD, q)).2.1).2.1), Value.long (lN ((gr1 is n F (RR, RL, CD, q)).2.1).1), Value.ref ri, Value.ref ro, Value.ref rw, Value.int (nI ((gr1 is n F (RR, RL, CD, q)).2.1).2.2.2)])), (ri, Sum.inr (0, [Value.int (nI is.length), Value.ref ria])), (ria, Sum.inl (cI, rik, Sum.inl rif)), (oo, Sum.inr (7, [Value.int osg, Value.int (nI (ns (gr1 is n F (RR, RL, CD, q)).2.2 n)), Value.int ofc, Value.ref oca, Value.ref opa])), (oca, Sum.inl (cI, n, Sum.inl u)), (opa, Sum.inl (cI, opl, Sum.inl opf))]) 0 0 := by
  refine my_ofI (cc := prog_8_method_11_code) (n := 4) (ret := (some .int)) (by decide) rfl (Nat.le_of_ble_eq_true rfl) ?_
  intro p e s m args below meth c R Q A ls H locs hx hb hr hts hown hlocks hml hnm hR hQ hA hl hP hK hN hD hS
  have hg : ∀ w ∈ gw, w.before args s = true := fun w h => hts w (List.mem_cons_of_mem _ h)
  have hown : s.vm.findClass "RangeCoders$Ranged" = some m.cls := hown
  have hl : lv_has ls 4 [(0, Value.ref co), (1, Value.ref oo)] := hl
  have hlti := rOk_lt hri
  obtain ⟨hp1, hp2, hp3, hp4⟩ := id hp
  have hbd : bd F n 100000 := fun k hk => by have := ns_ge (F := F) hk; omega
  refine lv_aload_n hx hb d_Ranged_nextSign_0 rfl (lv_at hl 0 rfl) ?_
  refine lv_aload_n hx hb d_Ranged_nextSign_1 rfl (lv_at hl 1 rfl) ?_
  refine va_get (D := (dC, dI)) (ci := 7) (v := .int (nI (ns F n))) (C := "RangeCoders$Odds") (T := T_Odds) (N := 5) hx hb hg in_Odds hown hK hP 3 rfl rfl 1 (by decide) (hg _ k306) (fun _ h9 => h9) rfl d_Ranged_nextSign_2 ?_
  refine my_ci (wr := [(ri, Sum.inr (0, [Value.int (nI is.length), Value.ref ria])), (ria, Sum.inl (cI, rik, Sum.inl rif)), (oo, Sum.inr (7, [Value.int osg, Value.int (nI (ns F n)), Value.int ofc, Value.ref oca, Value.ref opa])), (oca, Sum.inl (cI, n, Sum.inl ocf)), (opa, Sum.inl (cI, opl, Sum.inl opf))]) (va_runU (As := [Value.int (nI (ns F n))]) (rest := []) ⟨hx, hb, hml, hown, hts⟩ (f_NoCarries_nextShare l dC dI cI cM cO H.size co xlow xrange ri ro rw (nI q) RR CD RL (ns F n) (by omega) (hC) (hp1) (by omega)) (va_cwU 1 hts (my_gU k807 k1289 kx5 k809 k4 k810) rfl rfl rfl rfl (by decide +kernel) ⟨by rw [hR]; exact Nat.le_of_ble_eq_true rfl, by rw [hR]; exact Nat.le_of_ble_eq_true rfl⟩) (my_preV hK hN (hP.sub [0] rfl) (hD.sub [0] (by decide +kernel) rfl) 0 rfl rfl) rfl rfl hl.1 rfl (lv_room (Nat.le_of_ble_eq_true rfl)) d_Ranged_nextSign_5 ⟨by rw [hR]; exact Nat.le_of_ble_eq_true rfl, by rw [hR]; exact Nat.le_of_ble_eq_true rfl⟩) hP hD hS hA [0] [1, 2, 3, 4, 5] rfl rfl (by decide +kernel) (by decide +kernel) (fun r_5 u9 H locs hw_5 hP hD hS => ?_)
  have hr_5 : r_5 = oI (wnt (ns F n) RR ((CD + 4294967296 - RL) % 4294967296)) := hw_5
  have hPD : my_PD (dC, dI) vwCl A [(ri, Sum.inr (0, [Value.int (nI is.length), Value.ref ria])), (ria, Sum.inl (cI, rik, Sum.inl rif)), (oo, Sum.inr (7, [Value.int osg, Value.int (nI (ns F n)), Value.int ofc, Value.ref oca, Value.ref opa])), (oca, Sum.inl (cI, n, Sum.inl ocf)), (opa, Sum.inl (cI, opl, Sum.inl opf)), (co, Sum.inr (2, [Value.long xlow, Value.long xrange, Value.long (lN CD), Value.long (lN RL), Value.long (lN RR), Value.ref ri, Value.ref ro, Value.ref rw, Value.int (nI q)]))] H := ⟨hP, hD⟩
  have hP := hPD.1
  have hD := hPD.2
  have hsh : r_5 = oI (wnt (ns F n) RR ((CD + 4294967296 - RL) % 4294967296)) := hr_5
  refine lv_istore_n (lv' := [(2, Value.int r_5), (0, Value.ref co), (1, Value.ref oo)]) hx hb d_Ranged_nextSign_8 rfl hl (by decide) rfl (fun ls hl => ?_)
  refine lv_iload_n hx hb d_Ranged_nextSign_9 rfl (lv_at hl 0 rfl) ?_
  refine lv_iconst (v := (-1)) hx hb d_Ranged_nextSign_10 (by decide) ?_
  refine lv_icmp_ne (tgt := 18) hx hb d_Ranged_nextSign_11 (by decide) (fun c_1 => ?_) (fun c_1 => ?_)
  · obtain ⟨uw9, hu9⟩ : ∃ u, wnt (ns F n) RR ((CD + 4294967296 - RL) % 4294967296) = some u := by
      cases h9 : wnt (ns F n) RR ((CD + 4294967296 - RL) % 4294967296) with
      | none => rw [h9] at hsh; exact absurd hsh c_1
      | some u => exact ⟨u, rfl⟩
    obtain ⟨hu0, hu1, hu2, hu3⟩ := wnt_ok hu9
    obtain ⟨hs1, hs2, hs3⟩ := sgA_spec (F := F) (n := n) hu3
    have hFt : 0 < F (sgA F n uw9) := by omega
    have hm1 := ns_m1 F hs1
    have z9 : r_5 = nI uw9 := by rw [hsh, hu9]; rfl
    subst z9
    refine lv_aload_n hx hb d_Ranged_nextSign_18 rfl (lv_at hl 2 rfl) ?_
    refine lv_iload_n hx hb d_Ranged_nextSign_19 rfl (lv_at hl 0 rfl) ?_
    refine my_ci (wr := [(ri, Sum.inr (0, [Value.int (nI is.length), Value.ref ria])), (ria, Sum.inl (cI, rik, Sum.inl rif)), (co, Sum.inr (2, [Value.long xlow, Value.long xrange, Value.long (lN CD), Value.long (lN RL), Value.long (lN RR), Value.ref ri, Value.ref ro, Value.ref rw, Value.int (nI q)]))]) (va_runV (As := [Value.int (nI uw9)]) (rest := []) ⟨hx, hb, hml, hown, hts⟩ (f_Odds_signAt l dC dI cI cM cO H.size oo osg ofc oca opa n ocf opl opf F (nI (ns F n)) uw9 (by first | assumption | omega) (by first | assumption | omega) (by first | assumption | omega) (by first | assumption | omega) (by omega)) (cwV 1 hts (my_gV k811 k812 k813 k14 k814) rfl rfl rfl cu_Odds_signAt_1 ⟨by rw [hR]; exact Nat.le_of_ble_eq_true rfl, by rw [hR]; exact Nat.le_of_ble_eq_true rfl⟩) (my_preV hK hN (hP.sub [2, 3, 4] rfl) (hD.sub [2, 3, 4] (by decide +kernel) rfl) 0 rfl rfl) rfl rfl hl.1 rfl (lv_room (Nat.le_of_ble_eq_true rfl)) d_Ranged_nextSign_20 ⟨by rw [hR]; exact Nat.le_of_ble_eq_true rfl, by rw [hR]; exact Nat.le_of_ble_eq_true rfl⟩) hP hD hS hA [2, 3, 4] [0, 1, 5] rfl rfl (by decide +kernel) (by decide +kernel) (fun r_20 u9 H locs hw_20 hP hD hS => ?_)
    have hr_20 : r_20 = if uw9 < ns F n then nI (sgA F n uw9) else -1 := hw_20
    have hPD : my_PD (dC, dI) vwCl A [(ri, Sum.inr (0, [Value.int (nI is.length), Value.ref ria])), (ria, Sum.inl (cI, rik, Sum.inl rif)), (co, Sum.inr (2, [Value.long xlow, Value.long xrange, Value.long (lN CD), Value.long (lN RL), Value.long (lN RR), Value.ref ri, Value.ref ro, Value.ref rw, Value.int (nI q)])), (oo, Sum.inr (7, [Value.int osg, Value.int (nI (ns F n)), Value.int ofc, Value.ref oca, Value.ref opa])), (oca, Sum.inl (cI, n, Sum.inl ocf)), (opa, Sum.inl (cI, opl, Sum.inl opf))] H := ⟨hP, hD⟩
    have hP := hPD.1
    have hD := hPD.2
    have z9 : r_20 = nI (sgA F n uw9) := by rw [hr_20, if_pos hu3]
    subst z9
    refine lv_istore_n (lv' := [(3, Value.int (nI (sgA F n uw9))), (2, Value.int (nI uw9)), (0, Value.ref co), (1, Value.ref oo)]) hx hb d_Ranged_nextSign_23 rfl hl (by decide) rfl (fun ls hl => ?_)
    refine lv_iload_n hx hb d_Ranged_nextSign_24 rfl (lv_at hl 0 rfl) ?_
    refine lv_iconst (v := (-1)) hx hb d_Ranged_nextSign_25 (by decide) ?_
    refine lv_icmp_eq (tgt := 52) hx hb d_Ranged_nextSign_26 (by decide) (fun c_2 => ?_) (fun c_2 => ?_)
    · exact absurd c_2 (nI_nm1 (by omega))
    · refine lv_aload_n hx hb d_Ranged_nextSign_29 rfl (lv_at hl 2 rfl) ?_
      refine lv_aload_n hx hb d_Ranged_nextSign_30 rfl (lv_at hl 3 rfl) ?_
      refine lv_iload_n hx hb d_Ranged_nextSign_31 rfl (lv_at hl 0 rfl) ?_
      refine my_ci (wr := [(ri, Sum.inr (0, [Value.int (nI is.length), Value.ref ria])), (ria, Sum.inl (cI, rik, Sum.inl rif)), (co, Sum.inr (2, [Value.long xlow, Value.long xrange, Value.long (lN CD), Value.long (lN RL), Value.long (lN RR), Value.ref ri, Value.ref ro, Value.ref rw, Value.int (nI q)]))]) (va_runV (As := [Value.int (nI (sgA F n uw9))]) (rest := [Value.ref co]) ⟨hx, hb, hml, hown, hts⟩ (f_Odds_at l dC dI cI cM cO H.size oo osg ofc oca opa n ocf opl opf (nI (ns F n)) (sgA F n uw9) (by first | assumption | omega) (by first | assumption | omega) (hs1) (by rw [hfc0]; exact nI_pos' (by omega))) (cwV 1 hts (my_gV k493 k436 k437 k14 k438) rfl rfl rfl cu_Odds_at_1 ⟨by rw [hR]; exact Nat.le_of_ble_eq_true rfl, by rw [hR]; exact Nat.le_of_ble_eq_true rfl⟩) (my_preV hK hN (hP.sub [3, 4, 5] rfl) (hD.sub [3, 4, 5] (by decide +kernel) rfl) 0 rfl rfl) rfl rfl hl.1 rfl (lv_room (Nat.le_of_ble_eq_true rfl)) d_Ranged_nextSign_32 ⟨by rw [hR]; exact Nat.le_of_ble_eq_true rfl, by rw [hR]; exact Nat.le_of_ble_eq_true rfl⟩) hP hD hS hA [3, 4, 5] [0, 1, 2] rfl rfl (by decide +kernel) (by decide +kernel) (fun r_32 u9 H locs hw_32 hP hD hS => ?_)
      have hr_32 : r_32 = ocf (sgA F n uw9) := hw_32
      have hPD : my_PD (dC, dI) vwCl A [(ri, Sum.inr (0, [Value.int (nI is.length), Value.ref ria])), (ria, Sum.inl (cI, rik, Sum.inl rif)), (co, Sum.inr (2, [Value.long xlow, Value.long xrange, Value.long (lN CD), Value.long (lN RL), Value.long (lN RR), Value.ref ri, Value.ref ro, Value.ref rw, Value.int (nI q)])), (oo, Sum.inr (7, [Value.int osg, Value.int (nI (ns F n)), Value.int ofc, Value.ref oca, Value.ref opa])), (oca, Sum.inl (cI, n, Sum.inl ocf)), (opa, Sum.inl (cI, opl, Sum.inl opf))] H := ⟨hP, hD⟩
      have hP := hPD.1
      have hD := hPD.2
      rw [hf (sgA F n uw9) hs1] at hr_32
      have z9 : r_32 = nI (F (sgA F n uw9)) := hr_32
      subst z9
      refine lv_aload_n hx hb d_Ranged_nextSign_35 rfl (lv_at hl 3 rfl) ?_
      refine lv_iload_n hx hb d_Ranged_nextSign_36 rfl (lv_at hl 0 rfl) ?_
      refine my_ci (wr := [(ri, Sum.inr (0, [Value.int (nI is.length), Value.ref ria])), (ria, Sum.inl (cI, rik, Sum.inl rif)), (co, Sum.inr (2, [Value.long xlow, Value.long xrange, Value.long (lN CD), Value.long (lN RL), Value.long (lN RR), Value.ref ri, Value.ref ro, Value.ref rw, Value.int (nI q)]))]) (va_runV (As := [Value.int (nI (sgA F n uw9))]) (rest := [Value.int (nI (F (sgA F n uw9))), Value.ref co]) ⟨hx, hb, hml, hown, hts⟩ (f_Odds_below l dC dI cI cM cO H.size oo osg ofc oca opa n ocf opl opf F (nI (ns F n)) (sgA F n uw9) (by first | assumption | omega) (by first | assumption | omega) (by first | assumption | omega) (by omega)) (cwV 1 hts (my_gV k494 k495 k496 k14 k497) rfl rfl rfl cu_Odds_below_1 ⟨by rw [hR]; exact Nat.le_of_ble_eq_true rfl, by rw [hR]; exact Nat.le_of_ble_eq_true rfl⟩) (my_preV hK hN (hP.sub [3, 4, 5] rfl) (hD.sub [3, 4, 5] (by decide +kernel) rfl) 0 rfl rfl) rfl rfl hl.1 rfl (lv_room (Nat.le_of_ble_eq_true rfl)) d_Ranged_nextSign_37 ⟨by rw [hR]; exact Nat.le_of_ble_eq_true rfl, by rw [hR]; exact Nat.le_of_ble_eq_true rfl⟩) hP hD hS hA [3, 4, 5] [0, 1, 2] rfl rfl (by decide +kernel) (by decide +kernel) (fun r_37 u9 H locs hw_37 hP hD hS => ?_)
      have hr_37 : r_37 = nI (ns F (sgA F n uw9)) := hw_37
      have hPD : my_PD (dC, dI) vwCl A [(ri, Sum.inr (0, [Value.int (nI is.length), Value.ref ria])), (ria, Sum.inl (cI, rik, Sum.inl rif)), (co, Sum.inr (2, [Value.long xlow, Value.long xrange, Value.long (lN CD), Value.long (lN RL), Value.long (lN RR), Value.ref ri, Value.ref ro, Value.ref rw, Value.int (nI q)])), (oo, Sum.inr (7, [Value.int osg, Value.int (nI (ns F n)), Value.int ofc, Value.ref oca, Value.ref opa])), (oca, Sum.inl (cI, n, Sum.inl ocf)), (opa, Sum.inl (cI, opl, Sum.inl opf))] H := ⟨hP, hD⟩
      have hP := hPD.1
      have hD := hPD.2
      have z9 : r_37 = nI (ns F (sgA F n uw9)) := hr_37
      subst z9
      refine lv_aload_n hx hb d_Ranged_nextSign_40 rfl (lv_at hl 3 rfl) ?_
      refine va_get (D := (dC, dI)) (ci := 7) (v := .int (nI (ns F n))) (C := "RangeCoders$Odds") (T := T_Odds) (N := 5) hx hb hg in_Odds hown hK hP 3 rfl rfl 1 (by decide) (hg _ k306) (fun _ h9 => h9) rfl d_Ranged_nextSign_41 ?_
      refine my_cv (wr := [(oo, Sum.inr (7, [Value.int osg, Value.int (nI (ns F n)), Value.int ofc, Value.ref oca, Value.ref opa])), (oca, Sum.inl (cI, n, Sum.inl ocf)), (opa, Sum.inl (cI, opl, Sum.inl opf))]) (va_runU (As := [Value.int (nI (F (sgA F n uw9))), Value.int (nI (ns F (sgA F n uw9))), Value.int (nI (ns F n))]) (rest := []) ⟨hx, hb, hml, hown, hts⟩ (f_NoCarries_readPart l dC dI cI cM cO H.size co xlow xrange ri ro rw ria rik rif is RR RL CD q (ns F (sgA F n uw9)) (F (sgA F n uw9)) (ns F n) (hri) (hGri) (hLri) (hoct) (hu0) (by omega) (hm1) (hFt) (hu1) (hp) (hC) (hq)) (va_cwA 3 hts (my_gU k815 k817 k823 k824 k7 k825) rfl rfl rfl (hN.1 _ j816 rfl) (by decide +kernel) ⟨by rw [hR]; exact Nat.le_of_ble_eq_true rfl, by rw [hR]; exact Nat.le_of_ble_eq_true rfl⟩) (my_preV hK hN (hP.sub [2, 0, 1] rfl) (hD.sub [2, 0, 1] (by decide +kernel) rfl) 0 rfl rfl) rfl rfl hl.1 rfl (lv_room (Nat.le_of_ble_eq_true rfl)) d_Ranged_nextSign_44 ⟨by rw [hR]; exact Nat.le_of_ble_eq_true rfl, by rw [hR]; exact Nat.le_of_ble_eq_true rfl⟩) hP hD hS hA [2, 0, 1] [3, 4, 5] rfl rfl (by decide +kernel) (by decide +kernel) (fun u9 H locs hw_44 hP hD hS => ?_)
      have hPD : my_PD (dC, dI) vwCl A [(oo, Sum.inr (7, [Value.int osg, Value.int (nI (ns F n)), Value.int ofc, Value.ref oca, Value.ref opa])), (oca, Sum.inl (cI, n, Sum.inl ocf)), (opa, Sum.inl (cI, opl, Sum.inl opf)), (co, Sum.inr (2, [Value.long xlow, Value.long xrange, Value.long (lN (prS is (RR / (ns F n) * (F (sgA F n uw9)), RL + RR / (ns F n) * (ns F (sgA F n uw9)), CD, q)).2.2.1), Value.long (lN (prS is (RR / (ns F n) * (F (sgA F n uw9)), RL + RR / (ns F n) * (ns F (sgA F n uw9)), CD, q)).2.1), Value.long (lN (prS is (RR / (ns F n) * (F (sgA F n uw9)), RL + RR / (ns F n) * (ns F (sgA F n uw9)), CD, q)).1), Value.ref ri, Value.ref ro, Value.ref rw, Value.int (nI (prS is (RR / (ns F n) * (F (sgA F n uw9)), RL + RR / (ns F n) * (ns F (sgA F n uw9)), CD, q)).2.2.2)])), (ri, Sum.inr (0, [Value.int (nI is.length), Value.ref ria])), (ria, Sum.inl (cI, rik, Sum.inl rif))] H := ⟨hP, hD⟩
      have hP := hPD.1
      have hD := hPD.2
      refine lv_aload_n hx hb d_Ranged_nextSign_47 rfl (lv_at hl 3 rfl) ?_
      refine lv_iload_n hx hb d_Ranged_nextSign_48 rfl (lv_at hl 0 rfl) ?_
      refine my_cv (wr := [(co, Sum.inr (2, [Value.long xlow, Value.long xrange, Value.long (lN (prS is (RR / (ns F n) * (F (sgA F n uw9)), RL + RR / (ns F n) * (ns F (sgA F n uw9)), CD, q)).2.2.1), Value.long (lN (prS is (RR / (ns F n) * (F (sgA F n uw9)), RL + RR / (ns F n) * (ns F (sgA F n uw9)), CD, q)).2.1), Value.long (lN (prS is (RR / (ns F n) * (F (sgA F n uw9)), RL + RR / (ns F n) * (ns F (sgA F n uw9)), CD, q)).1), Value.ref ri, Value.ref ro, Value.ref rw, Value.int (nI (prS is (RR / (ns F n) * (F (sgA F n uw9)), RL + RR / (ns F n) * (ns F (sgA F n uw9)), CD, q)).2.2.2)])), (ri, Sum.inr (0, [Value.int (nI is.length), Value.ref ria])), (ria, Sum.inl (cI, rik, Sum.inl rif))]) (va_runV (As := [Value.int (nI (sgA F n uw9))]) (rest := []) ⟨hx, hb, hml, hown, hts⟩ (f_Odds_learn l dC dI cI cM cO H.size oo osg ofc oca opa n ocf opl opf F (sgA F n uw9) (by first | assumption | omega) (by first | assumption | omega) (by first | assumption | omega) (hs1) (by rw [hfc0]; exact nI_pos' (by omega)) (hbd)) (cwV 1 hts (my_gV k526 k527 k528 k14 k529) rfl rfl rfl cu_Odds_learn_1 ⟨by rw [hR]; exact Nat.le_of_ble_eq_true rfl, by rw [hR]; exact Nat.le_of_ble_eq_true rfl⟩) (my_preV hK hN (hP.sub [0, 1, 2] rfl) (hD.sub [0, 1, 2] (by decide +kernel) rfl) 0 rfl rfl) rfl rfl hl.1 rfl (lv_room (Nat.le_of_ble_eq_true rfl)) d_Ranged_nextSign_49 ⟨by rw [hR]; exact Nat.le_of_ble_eq_true rfl, by rw [hR]; exact Nat.le_of_ble_eq_true rfl⟩) hP hD hS hA [0, 1, 2] [3, 4, 5] rfl rfl (by decide +kernel) (by decide +kernel) (fun u9 H locs hw_49 hP hD hS => ?_)
      obtain ⟨ocfq_49, rfl⟩ : ∃ z, z = u9 := ⟨_, rfl⟩
      have hf_49 : tbI ocfq_49 n (lrn n (sgA F n uw9) F) := hw_49
      have hPD : my_PD (dC, dI) vwCl A [(co, Sum.inr (2, [Value.long xlow, Value.long xrange, Value.long (lN (prS is (RR / (ns F n) * (F (sgA F n uw9)), RL + RR / (ns F n) * (ns F (sgA F n uw9)), CD, q)).2.2.1), Value.long (lN (prS is (RR / (ns F n) * (F (sgA F n uw9)), RL + RR / (ns F n) * (ns F (sgA F n uw9)), CD, q)).2.1), Value.long (lN (prS is (RR / (ns F n) * (F (sgA F n uw9)), RL + RR / (ns F n) * (ns F (sgA F n uw9)), CD, q)).1), Value.ref ri, Value.ref ro, Value.ref rw, Value.int (nI (prS is (RR / (ns F n) * (F (sgA F n uw9)), RL + RR / (ns F n) * (ns F (sgA F n uw9)), CD, q)).2.2.2)])), (ri, Sum.inr (0, [Value.int (nI is.length), Value.ref ria])), (ria, Sum.inl (cI, rik, Sum.inl rif)), (oo, Sum.inr (7, [Value.int osg, Value.int (nI (ns (lrn n (sgA F n uw9) F) n)), Value.int ofc, Value.ref oca, Value.ref opa])), (oca, Sum.inl (cI, n, Sum.inl ocfq_49)), (opa, Sum.inl (cI, opl, Sum.inl opf))] H := ⟨hP, hD⟩
      have hP := hPD.1
      have hD := hPD.2
      have hgr : gr1 is n F (RR, RL, CD, q) = (some (sgA F n uw9), (prS is (RR / ns F n * F (sgA F n uw9), RL + RR / ns F n * ns F (sgA F n uw9), CD, q)), lrn n (sgA F n uw9) F) := by unfold gr1; simp only [hu9]
      have hsu : (lN (prS is (RR / (ns F n) * (F (sgA F n uw9)), RL + RR / (ns F n) * (ns F (sgA F n uw9)), CD, q)).1 : Int64) = lN (gr1 is n F (RR, RL, CD, q)).2.1.1 := by rw [hgr]
      rw [hsu] at hP hD
      have hPD : my_PD (dC, dI) vwCl A [(co, Sum.inr (2, [Value.long xlow, Value.long xrange, Value.long (lN (prS is (RR / (ns F n) * (F (sgA F n uw9)), RL + RR / (ns F n) * (ns F (sgA F n uw9)), CD, q)).2.2.1), Value.long (lN (prS is (RR / (ns F n) * (F (sgA F n uw9)), RL + RR / (ns F n) * (ns F (sgA F n uw9)), CD, q)).2.1), Value.long (lN (gr1 is n F (RR, RL, CD, q)).2.1.1), Value.ref ri, Value.ref ro, Value.ref rw, Value.int (nI (prS is (RR / (ns F n) * (F (sgA F n uw9)), RL + RR / (ns F n) * (ns F (sgA F n uw9)), CD, q)).2.2.2)])), (ri, Sum.inr (0, [Value.int (nI is.length), Value.ref ria])), (ria, Sum.inl (cI, rik, Sum.inl rif)), (oo, Sum.inr (7, [Value.int osg, Value.int (nI (ns (lrn n (sgA F n uw9) F) n)), Value.int ofc, Value.ref oca, Value.ref opa])), (oca, Sum.inl (cI, n, Sum.inl ocfq_49)), (opa, Sum.inl (cI, opl, Sum.inl opf))] H := ⟨hP, hD⟩
      have hP := hPD.1
      have hD := hPD.2
      have hsu : (lN (prS is (RR / (ns F n) * (F (sgA F n uw9)), RL + RR / (ns F n) * (ns F (sgA F n uw9)), CD, q)).2.1 : Int64) = lN (gr1 is n F (RR, RL, CD, q)).2.1.2.1 := by rw [hgr]
      rw [hsu] at hP hD
      have hPD : my_PD (dC, dI) vwCl A [(co, Sum.inr (2, [Value.long xlow, Value.long xrange, Value.long (lN (prS is (RR / (ns F n) * (F (sgA F n uw9)), RL + RR / (ns F n) * (ns F (sgA F n uw9)), CD, q)).2.2.1), Value.long (lN (gr1 is n F (RR, RL, CD, q)).2.1.2.1), Value.long (lN (gr1 is n F (RR, RL, CD, q)).2.1.1), Value.ref ri, Value.ref ro, Value.ref rw, Value.int (nI (prS is (RR / (ns F n) * (F (sgA F n uw9)), RL + RR / (ns F n) * (ns F (sgA F n uw9)), CD, q)).2.2.2)])), (ri, Sum.inr (0, [Value.int (nI is.length), Value.ref ria])), (ria, Sum.inl (cI, rik, Sum.inl rif)), (oo, Sum.inr (7, [Value.int osg, Value.int (nI (ns (lrn n (sgA F n uw9) F) n)), Value.int ofc, Value.ref oca, Value.ref opa])), (oca, Sum.inl (cI, n, Sum.inl ocfq_49)), (opa, Sum.inl (cI, opl, Sum.inl opf))] H := ⟨hP, hD⟩
      have hP := hPD.1
      have hD := hPD.2
      have hsu : (lN (prS is (RR / (ns F n) * (F (sgA F n uw9)), RL + RR / (ns F n) * (ns F (sgA F n uw9)), CD, q)).2.2.1 : Int64) = lN (gr1 is n F (RR, RL, CD, q)).2.1.2.2.1 := by rw [hgr]
      rw [hsu] at hP hD
      have hPD : my_PD (dC, dI) vwCl A [(co, Sum.inr (2, [Value.long xlow, Value.long xrange, Value.long (lN (gr1 is n F (RR, RL, CD, q)).2.1.2.2.1), Value.long (lN (gr1 is n F (RR, RL, CD, q)).2.1.2.1), Value.long (lN (gr1 is n F (RR, RL, CD, q)).2.1.1), Value.ref ri, Value.ref ro, Value.ref rw, Value.int (nI (prS is (RR / (ns F n) * (F (sgA F n uw9)), RL + RR / (ns F n) * (ns F (sgA F n uw9)), CD, q)).2.2.2)])), (ri, Sum.inr (0, [Value.int (nI is.length), Value.ref ria])), (ria, Sum.inl (cI, rik, Sum.inl rif)), (oo, Sum.inr (7, [Value.int osg, Value.int (nI (ns (lrn n (sgA F n uw9) F) n)), Value.int ofc, Value.ref oca, Value.ref opa])), (oca, Sum.inl (cI, n, Sum.inl ocfq_49)), (opa, Sum.inl (cI, opl, Sum.inl opf))] H := ⟨hP, hD⟩
      have hP := hPD.1
      have hD := hPD.2
      have hsu : (nI (prS is (RR / (ns F n) * (F (sgA F n uw9)), RL + RR / (ns F n) * (ns F (sgA F n uw9)), CD, q)).2.2.2 : Int32) = nI (gr1 is n F (RR, RL, CD, q)).2.1.2.2.2 := by rw [hgr]
      rw [hsu] at hP hD
      have hPD : my_PD (dC, dI) vwCl A [(co, Sum.inr (2, [Value.long xlow, Value.long xrange, Value.long (lN (gr1 is n F (RR, RL, CD, q)).2.1.2.2.1), Value.long (lN (gr1 is n F (RR, RL, CD, q)).2.1.2.1), Value.long (lN (gr1 is n F (RR, RL, CD, q)).2.1.1), Value.ref ri, Value.ref ro, Value.ref rw, Value.int (nI (gr1 is n F (RR, RL, CD, q)).2.1.2.2.2)])), (ri, Sum.inr (0, [Value.int (nI is.length), Value.ref ria])), (ria, Sum.inl (cI, rik, Sum.inl rif)), (oo, Sum.inr (7, [Value.int osg, Value.int (nI (ns (lrn n (sgA F n uw9) F) n)), Value.int ofc, Value.ref oca, Value.ref opa])), (oca, Sum.inl (cI, n, Sum.inl ocfq_49)), (opa, Sum.inl (cI, opl, Sum.inl opf))] H := ⟨hP, hD⟩
      have hP := hPD.1
      have hD := hPD.2
      have hsu : (nI (ns (lrn n (sgA F n uw9) F) n) : Int32) = nI (ns (gr1 is n F (RR, RL, CD, q)).2.2 n) := by rw [hgr]
      rw [hsu] at hP hD
      have hPD : my_PD (dC, dI) vwCl A [(co, Sum.inr (2, [Value.long xlow, Value.long xrange, Value.long (lN (gr1 is n F (RR, RL, CD, q)).2.1.2.2.1), Value.long (lN (gr1 is n F (RR, RL, CD, q)).2.1.2.1), Value.long (lN (gr1 is n F (RR, RL, CD, q)).2.1.1), Value.ref ri, Value.ref ro, Value.ref rw, Value.int (nI (gr1 is n F (RR, RL, CD, q)).2.1.2.2.2)])), (ri, Sum.inr (0, [Value.int (nI is.length), Value.ref ria])), (ria, Sum.inl (cI, rik, Sum.inl rif)), (oo, Sum.inr (7, [Value.int osg, Value.int (nI (ns (gr1 is n F (RR, RL, CD, q)).2.2 n)), Value.int ofc, Value.ref oca, Value.ref opa])), (oca, Sum.inl (cI, n, Sum.inl ocfq_49)), (opa, Sum.inl (cI, opl, Sum.inl opf))] H := ⟨hP, hD⟩
      have hP := hPD.1
      have hD := hPD.2
      refine lv_iload_n hx hb d_Ranged_nextSign_52 rfl (lv_at hl 0 rfl) ?_
      exact my_iret (v := (nI (sgA F n uw9))) hx hb hr (rfl) hlocks hQ hK hS (Nat.le_refl _) (Nat.le_refl _) (ocfq_49) (⟨by rw [hgr]; rfl, by rw [hgr]; exact hf_49⟩) (hP.sub [0, 1, 2, 3, 4, 5] rfl) (hD.sub [0, 1, 2, 3, 4, 5] (by decide +kernel) rfl) d_Ranged_nextSign_53
  · refine lv_iconst (v := (-1)) hx hb d_Ranged_nextSign_14 (by decide) ?_
    refine lv_goto (tgt := 23) hx hb d_Ranged_nextSign_15 (by decide) ?_
    refine lv_istore_n (lv' := [(3, Value.int (-1)), (2, Value.int r_5), (0, Value.ref co), (1, Value.ref oo)]) hx hb d_Ranged_nextSign_23 rfl hl (by decide) rfl (fun ls hl => ?_)
    refine lv_iload_n hx hb d_Ranged_nextSign_24 rfl (lv_at hl 0 rfl) ?_
    refine lv_iconst (v := (-1)) hx hb d_Ranged_nextSign_25 (by decide) ?_
    refine lv_icmp_eq (tgt := 52) hx hb d_Ranged_nextSign_26 (by decide) (fun c_3 => ?_) (fun c_3 => ?_)
    · have hn9 : wnt (ns F n) RR ((CD + 4294967296 - RL) % 4294967296) = none := by
        cases h9 : wnt (ns F n) RR ((CD + 4294967296 - RL) % 4294967296) with
        | none => rfl
        | some u => rw [h9] at hsh; exact absurd (hsh.symm.trans (c_1)) (nI_nm1 (by have := wnt_lt h9; omega))
      have hgr : gr1 is n F (RR, RL, CD, q) = (none, (RR, RL, CD, q), F) := by unfold gr1; simp only [hn9]
      have hsu : (lN RR : Int64) = lN (gr1 is n F (RR, RL, CD, q)).2.1.1 := by rw [hgr]
      rw [hsu] at hP hD
      have hPD : my_PD (dC, dI) vwCl A [(ri, Sum.inr (0, [Value.int (nI is.length), Value.ref ria])), (ria, Sum.inl (cI, rik, Sum.inl rif)), (oo, Sum.inr (7, [Value.int osg, Value.int (nI (ns F n)), Value.int ofc, Value.ref oca, Value.ref opa])), (oca, Sum.inl (cI, n, Sum.inl ocf)), (opa, Sum.inl (cI, opl, Sum.inl opf)), (co, Sum.inr (2, [Value.long xlow, Value.long xrange, Value.long (lN CD), Value.long (lN RL), Value.long (lN (gr1 is n F (RR, RL, CD, q)).2.1.1), Value.ref ri, Value.ref ro, Value.ref rw, Value.int (nI q)]))] H := ⟨hP, hD⟩
      have hP := hPD.1
      have hD := hPD.2
      have hsu : (lN RL : Int64) = lN (gr1 is n F (RR, RL, CD, q)).2.1.2.1 := by rw [hgr]
      rw [hsu] at hP hD
      have hPD : my_PD (dC, dI) vwCl A [(ri, Sum.inr (0, [Value.int (nI is.length), Value.ref ria])), (ria, Sum.inl (cI, rik, Sum.inl rif)), (oo, Sum.inr (7, [Value.int osg, Value.int (nI (ns F n)), Value.int ofc, Value.ref oca, Value.ref opa])), (oca, Sum.inl (cI, n, Sum.inl ocf)), (opa, Sum.inl (cI, opl, Sum.inl opf)), (co, Sum.inr (2, [Value.long xlow, Value.long xrange, Value.long (lN CD), Value.long (lN (gr1 is n F (RR, RL, CD, q)).2.1.2.1), Value.long (lN (gr1 is n F (RR, RL, CD, q)).2.1.1), Value.ref ri, Value.ref ro, Value.ref rw, Value.int (nI q)]))] H := ⟨hP, hD⟩
      have hP := hPD.1
      have hD := hPD.2
      have hsu : (lN CD : Int64) = lN (gr1 is n F (RR, RL, CD, q)).2.1.2.2.1 := by rw [hgr]
      rw [hsu] at hP hD
      have hPD : my_PD (dC, dI) vwCl A [(ri, Sum.inr (0, [Value.int (nI is.length), Value.ref ria])), (ria, Sum.inl (cI, rik, Sum.inl rif)), (oo, Sum.inr (7, [Value.int osg, Value.int (nI (ns F n)), Value.int ofc, Value.ref oca, Value.ref opa])), (oca, Sum.inl (cI, n, Sum.inl ocf)), (opa, Sum.inl (cI, opl, Sum.inl opf)), (co, Sum.inr (2, [Value.long xlow, Value.long xrange, Value.long (lN (gr1 is n F (RR, RL, CD, q)).2.1.2.2.1), Value.long (lN (gr1 is n F (RR, RL, CD, q)).2.1.2.1), Value.long (lN (gr1 is n F (RR, RL, CD, q)).2.1.1), Value.ref ri, Value.ref ro, Value.ref rw, Value.int (nI q)]))] H := ⟨hP, hD⟩
      have hP := hPD.1
      have hD := hPD.2
      have hsu : ((nI q) : Int32) = nI (gr1 is n F (RR, RL, CD, q)).2.1.2.2.2 := by rw [hgr]
      rw [hsu] at hP hD
      have hPD : my_PD (dC, dI) vwCl A [(ri, Sum.inr (0, [Value.int (nI is.length), Value.ref ria])), (ria, Sum.inl (cI, rik, Sum.inl rif)), (oo, Sum.inr (7, [Value.int osg, Value.int (nI (ns F n)), Value.int ofc, Value.ref oca, Value.ref opa])), (oca, Sum.inl (cI, n, Sum.inl ocf)), (opa, Sum.inl (cI, opl, Sum.inl opf)), (co, Sum.inr (2, [Value.long xlow, Value.long xrange, Value.long (lN (gr1 is n F (RR, RL, CD, q)).2.1.2.2.1), Value.long (lN (gr1 is n F (RR, RL, CD, q)).2.1.2.1), Value.long (lN (gr1 is n F (RR, RL, CD, q)).2.1.1), Value.ref ri, Value.ref ro, Value.ref rw, Value.int (nI (gr1 is n F (RR, RL, CD, q)).2.1.2.2.2)]))] H := ⟨hP, hD⟩
      have hP := hPD.1
      have hD := hPD.2
      have hsu : (nI (ns F n) : Int32) = nI (ns (gr1 is n F (RR, RL, CD, q)).2.2 n) := by rw [hgr]
      rw [hsu] at hP hD
      have hPD : my_PD (dC, dI) vwCl A [(ri, Sum.inr (0, [Value.int (nI is.length), Value.ref ria])), (ria, Sum.inl (cI, rik, Sum.inl rif)), (oo, Sum.inr (7, [Value.int osg, Value.int (nI (ns (gr1 is n F (RR, RL, CD, q)).2.2 n)), Value.int ofc, Value.ref oca, Value.ref opa])), (oca, Sum.inl (cI, n, Sum.inl ocf)), (opa, Sum.inl (cI, opl, Sum.inl opf)), (co, Sum.inr (2, [Value.long xlow, Value.long xrange, Value.long (lN (gr1 is n F (RR, RL, CD, q)).2.1.2.2.1), Value.long (lN (gr1 is n F (RR, RL, CD, q)).2.1.2.1), Value.long (lN (gr1 is n F (RR, RL, CD, q)).2.1.1), Value.ref ri, Value.ref ro, Value.ref rw, Value.int (nI (gr1 is n F (RR, RL, CD, q)).2.1.2.2.2)]))] H := ⟨hP, hD⟩
      have hP := hPD.1
      have hD := hPD.2
      refine lv_iload_n hx hb d_Ranged_nextSign_52 rfl (lv_at hl 0 rfl) ?_
      exact my_iret (v := (-1)) hx hb hr (rfl) hlocks hQ hK hS (Nat.le_refl _) (Nat.le_refl _) (ocf) (⟨by rw [hgr]; rfl, by rw [hgr]; exact hf⟩) (hP.sub [5, 0, 1, 2, 3, 4] rfl) (hD.sub [5, 0, 1, 2, 3, 4] (by decide +kernel) rfl) d_Ranged_nextSign_53
    · exact absurd rfl c_3
set_option maxHeartbeats 2000000 in
set_option maxRecDepth 100000 in
theorem f_NoCarries_nextValue (l : Launch) (dC : Nat → ClassId) (dI : Nat → Nat → Nat) (cI cM cO : ClassId) (sz : Nat) (co : Nat) (xlow : Int64) (xrange : Int64) (ri : Nat) (ro : Nat) (rw : Nat) (ria : Nat) (rik : Nat) (rif : Nat → Int32) (is : List Nat) (RR : Nat) (RL : Nat) (CD : Nat) (q : Nat) (b : Nat) (hri : rOk (nI is.length) rik) (hGri : gIs rif is) (hLri : is.length ≤ 6000) (hoct : oct is) (hb1 : 1 ≤ b) (hb2 : b ≤ 12) (hp : pOk RR RL) (hC : CD < 4294967296) (hq : q < 900000000) : MetI l y_Ranged_nextValue (Cond.code y_Ranged_nextValue prog_8_method_12_code 3 (some .int) :: gw) ({ frames := 4, cells := 0, slots := 0, locals := 89 } : Room) (dC, dI) vwCl (kT cI cM cO) [Value.ref co, Value.int (nI b)] [(co, Sum.inr (2, [Value.long xlow, Value.long xrange, Value.long (lN CD), Value.long (lN RL), Value.long (lN RR), Value.ref ri, Value.ref ro, Value.ref rw, Value.int (nI q)])), (ri, Sum.inr (0, [Value.int (nI is.length), Value.ref ria])), (ria, Sum.inl (cI, rik, Sum.inl rif))] sz (fun (r : Int32) (u : Unit) => r = oI (gv1 is b (RR, RL, CD, q)).1) (fun (u : Unit) => [(co, Sum.inr (2, [Value.long xlow, Value.long xrange, Value.long (lN ((gv1 is b (RR, RL, CD, q)).2).2.2.1), Value.long (lN ((gv1 is b (RR, RL, CD, q)).2).2.1), Value.long (lN ((gv1 is b (RR, RL, CD, q)).2).1), Value.ref ri, Value.ref ro, Value.ref rw, Value.int (nI ((gv1 is b (RR, RL, CD, q)).2).2.2.2)])), (ri, Sum.inr (0, [Value.int (nI is.length), Value.ref ria])), (ria, Sum.inl (cI, rik, Sum.inl rif))]) 0 0 := by
  refine my_ofI (cc := prog_8_method_12_code) (n := 3) (ret := (some .int)) (by decide) rfl (Nat.le_of_ble_eq_true rfl) ?_
  intro p e s m args below meth c R Q A ls H locs hx hb hr hts hown hlocks hml hnm hR hQ hA hl hP hK hN hD hS
  have hg : ∀ w ∈ gw, w.before args s = true := fun w h => hts w (List.mem_cons_of_mem _ h)
  have hown : s.vm.findClass "RangeCoders$Ranged" = some m.cls := hown
  have hl : lv_has ls 3 [(0, Value.ref co), (1, Value.int (nI b))] := hl
  have hlti := rOk_lt hri
  obtain ⟨hp1, hp2, hp3, hp4⟩ := id hp
  have hpw : 2 ^ b ≤ 2 ^ 12 := Nat.pow_le_pow_right (by decide) hb2
  have hpw0 : 0 < 2 ^ b := Nat.pow_pos (by decide)
  refine lv_aload_n hx hb d_Ranged_nextValue_0 rfl (lv_at hl 0 rfl) ?_
  refine lv_iconst (v := 1) hx hb d_Ranged_nextValue_1 (by decide) ?_
  refine lv_iload_n hx hb d_Ranged_nextValue_2 rfl (lv_at hl 1 rfl) ?_
  refine lv_ishl hx hb d_Ranged_nextValue_3 ?_
  refine lv_topi (fun v_1 ev_1 => ?_)
  have z9 : v_1 = nI (2 ^ b) := by rw [ev_1]; exact shl1 b (by omega)
  subst z9
  refine my_ci (wr := [(ri, Sum.inr (0, [Value.int (nI is.length), Value.ref ria])), (ria, Sum.inl (cI, rik, Sum.inl rif))]) (va_runU (As := [Value.int (nI (2 ^ b))]) (rest := []) ⟨hx, hb, hml, hown, hts⟩ (f_NoCarries_nextShare l dC dI cI cM cO H.size co xlow xrange ri ro rw (nI q) RR CD RL (2 ^ b) (by omega) (hC) (hp1) (by omega)) (va_cwU 1 hts (my_gU k807 k1289 kx5 k809 k4 k810) rfl rfl rfl rfl (by decide +kernel) ⟨by rw [hR]; exact Nat.le_of_ble_eq_true rfl, by rw [hR]; exact Nat.le_of_ble_eq_true rfl⟩) (my_preV hK hN (hP.sub [0] rfl) (hD.sub [0] (by decide +kernel) rfl) 0 rfl rfl) rfl rfl hl.1 rfl (lv_room (Nat.le_of_ble_eq_true rfl)) d_Ranged_nextValue_4 ⟨by rw [hR]; exact Nat.le_of_ble_eq_true rfl, by rw [hR]; exact Nat.le_of_ble_eq_true rfl⟩) hP hD hS hA [0] [1, 2] rfl rfl (by decide +kernel) (by decide +kernel) (fun r_4 u9 H locs hw_4 hP hD hS => ?_)
  have hr_4 : r_4 = oI (wnt (2 ^ b) RR ((CD + 4294967296 - RL) % 4294967296)) := hw_4
  have hPD : my_PD (dC, dI) vwCl A [(ri, Sum.inr (0, [Value.int (nI is.length), Value.ref ria])), (ria, Sum.inl (cI, rik, Sum.inl rif)), (co, Sum.inr (2, [Value.long xlow, Value.long xrange, Value.long (lN CD), Value.long (lN RL), Value.long (lN RR), Value.ref ri, Value.ref ro, Value.ref rw, Value.int (nI q)]))] H := ⟨hP, hD⟩
  have hP := hPD.1
  have hD := hPD.2
  have hsh : r_4 = oI (wnt (2 ^ b) RR ((CD + 4294967296 - RL) % 4294967296)) := hr_4
  refine lv_istore_n (lv' := [(2, Value.int r_4), (0, Value.ref co), (1, Value.int (nI b))]) hx hb d_Ranged_nextValue_7 rfl hl (by decide) rfl (fun ls hl => ?_)
  refine lv_iload_n hx hb d_Ranged_nextValue_8 rfl (lv_at hl 0 rfl) ?_
  refine lv_iconst (v := (-1)) hx hb d_Ranged_nextValue_9 (by decide) ?_
  refine lv_icmp_eq (tgt := 22) hx hb d_Ranged_nextValue_10 (by decide) (fun c_2 => ?_) (fun c_2 => ?_)
  · have hn9 : wnt (2 ^ b) RR ((CD + 4294967296 - RL) % 4294967296) = none := by
      cases h9 : wnt (2 ^ b) RR ((CD + 4294967296 - RL) % 4294967296) with
      | none => rfl
      | some u => rw [h9] at hsh; exact absurd (hsh.symm.trans c_2) (nI_nm1 (by have := wnt_lt h9; omega))
    have hgr : gv1 is b (RR, RL, CD, q) = (none, (RR, RL, CD, q)) := by unfold gv1; simp only [hn9]
    have hsu : (lN RR : Int64) = lN (gv1 is b (RR, RL, CD, q)).2.1 := by rw [hgr]
    rw [hsu] at hP hD
    have hPD : my_PD (dC, dI) vwCl A [(ri, Sum.inr (0, [Value.int (nI is.length), Value.ref ria])), (ria, Sum.inl (cI, rik, Sum.inl rif)), (co, Sum.inr (2, [Value.long xlow, Value.long xrange, Value.long (lN CD), Value.long (lN RL), Value.long (lN (gv1 is b (RR, RL, CD, q)).2.1), Value.ref ri, Value.ref ro, Value.ref rw, Value.int (nI q)]))] H := ⟨hP, hD⟩
    have hP := hPD.1
    have hD := hPD.2
    have hsu : (lN RL : Int64) = lN (gv1 is b (RR, RL, CD, q)).2.2.1 := by rw [hgr]
    rw [hsu] at hP hD
    have hPD : my_PD (dC, dI) vwCl A [(ri, Sum.inr (0, [Value.int (nI is.length), Value.ref ria])), (ria, Sum.inl (cI, rik, Sum.inl rif)), (co, Sum.inr (2, [Value.long xlow, Value.long xrange, Value.long (lN CD), Value.long (lN (gv1 is b (RR, RL, CD, q)).2.2.1), Value.long (lN (gv1 is b (RR, RL, CD, q)).2.1), Value.ref ri, Value.ref ro, Value.ref rw, Value.int (nI q)]))] H := ⟨hP, hD⟩
    have hP := hPD.1
    have hD := hPD.2
    have hsu : (lN CD : Int64) = lN (gv1 is b (RR, RL, CD, q)).2.2.2.1 := by rw [hgr]
    rw [hsu] at hP hD
    have hPD : my_PD (dC, dI) vwCl A [(ri, Sum.inr (0, [Value.int (nI is.length), Value.ref ria])), (ria, Sum.inl (cI, rik, Sum.inl rif)), (co, Sum.inr (2, [Value.long xlow, Value.long xrange, Value.long (lN (gv1 is b (RR, RL, CD, q)).2.2.2.1), Value.long (lN (gv1 is b (RR, RL, CD, q)).2.2.1), Value.long (lN (gv1 is b (RR, RL, CD, q)).2.1), Value.ref ri, Value.ref ro, Value.ref rw, Value.int (nI q)]))] H := ⟨hP, hD⟩
    have hP := hPD.1
    have hD := hPD.2
    have hsu : ((nI q) : Int32) = nI (gv1 is b (RR, RL, CD, q)).2.2.2.2 := by rw [hgr]
    rw [hsu] at hP hD
    have hPD : my_PD (dC, dI) vwCl A [(ri, Sum.inr (0, [Value.int (nI is.length), Value.ref ria])), (ria, Sum.inl (cI, rik, Sum.inl rif)), (co, Sum.inr (2, [Value.long xlow, Value.long xrange, Value.long (lN (gv1 is b (RR, RL, CD, q)).2.2.2.1), Value.long (lN (gv1 is b (RR, RL, CD, q)).2.2.1), Value.long (lN (gv1 is b (RR, RL, CD, q)).2.1), Value.ref ri, Value.ref ro, Value.ref rw, Value.int (nI (gv1 is b (RR, RL, CD, q)).2.2.2.2)]))] H := ⟨hP, hD⟩
    have hP := hPD.1
    have hD := hPD.2
    refine lv_iload_n hx hb d_Ranged_nextValue_22 rfl (lv_at hl 0 rfl) ?_
    exact my_iret (v := r_4) hx hb hr (rfl) hlocks hQ hK hS (Nat.le_refl _) (Nat.le_refl _) () (by rw [hgr]; exact c_2) (hP.sub [2, 0, 1] rfl) (hD.sub [2, 0, 1] (by decide +kernel) rfl) d_Ranged_nextValue_23
  · obtain ⟨uw9, hu9⟩ : ∃ u, wnt (2 ^ b) RR ((CD + 4294967296 - RL) % 4294967296) = some u := by
      cases h9 : wnt (2 ^ b) RR ((CD + 4294967296 - RL) % 4294967296) with
      | none => rw [h9] at hsh; exact absurd hsh c_2
      | some u => exact ⟨u, rfl⟩
    obtain ⟨hu0, hu1, hu2, hu3⟩ := wnt_ok hu9
    have z9 : r_4 = nI uw9 := by rw [hsh, hu9]; rfl
    subst z9
    refine lv_aload_n hx hb d_Ranged_nextValue_13 rfl (lv_at hl 1 rfl) ?_
    refine lv_iconst (v := 1) hx hb d_Ranged_nextValue_14 (by decide) ?_
    refine lv_iload_n hx hb d_Ranged_nextValue_15 rfl (lv_at hl 0 rfl) ?_
    refine lv_iconst (v := 1) hx hb d_Ranged_nextValue_16 (by decide) ?_
    refine lv_iload_n hx hb d_Ranged_nextValue_17 rfl (lv_at hl 2 rfl) ?_
    refine lv_ishl hx hb d_Ranged_nextValue_18 ?_
    refine lv_topi (fun v_3 ev_3 => ?_)
    have z9 : v_3 = nI (2 ^ b) := by rw [ev_3]; exact shl1 b (by omega)
    subst z9
    refine W.eq (g2 := F0 m 19 ls [Value.int (nI (2 ^ b)), Value.int (nI uw9), Value.int (nI 1), Value.ref co]) rfl ?_
    refine my_cv (wr := []) (va_runU (As := [Value.int (nI 1), Value.int (nI uw9), Value.int (nI (2 ^ b))]) (rest := []) ⟨hx, hb, hml, hown, hts⟩ (f_NoCarries_readPart l dC dI cI cM cO H.size co xlow xrange ri ro rw ria rik rif is RR RL CD q uw9 1 (2 ^ b) (hri) (hGri) (hLri) (hoct) (hu0) (by omega) (hu3) (by decide) (hu1) (hp) (hC) (hq)) (va_cwA 3 hts (my_gU k815 k817 k823 k824 k7 k825) rfl rfl rfl (hN.1 _ j816 rfl) (by decide +kernel) ⟨by rw [hR]; exact Nat.le_of_ble_eq_true rfl, by rw [hR]; exact Nat.le_of_ble_eq_true rfl⟩) (my_preV hK hN (hP.sub [2, 0, 1] rfl) (hD.sub [2, 0, 1] (by decide +kernel) rfl) 0 rfl rfl) rfl rfl hl.1 rfl (lv_room (Nat.le_of_ble_eq_true rfl)) d_Ranged_nextValue_19 ⟨by rw [hR]; exact Nat.le_of_ble_eq_true rfl, by rw [hR]; exact Nat.le_of_ble_eq_true rfl⟩) hP hD hS hA [2, 0, 1] [] rfl rfl (by decide +kernel) (by decide +kernel) (fun u9 H locs hw_19 hP hD hS => ?_)
    have hPD : my_PD (dC, dI) vwCl A [(co, Sum.inr (2, [Value.long xlow, Value.long xrange, Value.long (lN (prS is (RR / (2 ^ b) * 1, RL + RR / (2 ^ b) * uw9, CD, q)).2.2.1), Value.long (lN (prS is (RR / (2 ^ b) * 1, RL + RR / (2 ^ b) * uw9, CD, q)).2.1), Value.long (lN (prS is (RR / (2 ^ b) * 1, RL + RR / (2 ^ b) * uw9, CD, q)).1), Value.ref ri, Value.ref ro, Value.ref rw, Value.int (nI (prS is (RR / (2 ^ b) * 1, RL + RR / (2 ^ b) * uw9, CD, q)).2.2.2)])), (ri, Sum.inr (0, [Value.int (nI is.length), Value.ref ria])), (ria, Sum.inl (cI, rik, Sum.inl rif))] H := ⟨hP, hD⟩
    have hP := hPD.1
    have hD := hPD.2
    have hgr : gv1 is b (RR, RL, CD, q) = (some uw9, (prS is (RR / 2 ^ b * 1, RL + RR / 2 ^ b * uw9, CD, q))) := by unfold gv1; simp only [hu9]
    have hsu : (lN (prS is (RR / (2 ^ b) * 1, RL + RR / (2 ^ b) * uw9, CD, q)).1 : Int64) = lN (gv1 is b (RR, RL, CD, q)).2.1 := by rw [hgr]
    rw [hsu] at hP hD
    have hPD : my_PD (dC, dI) vwCl A [(co, Sum.inr (2, [Value.long xlow, Value.long xrange, Value.long (lN (prS is (RR / (2 ^ b) * 1, RL + RR / (2 ^ b) * uw9, CD, q)).2.2.1), Value.long (lN (prS is (RR / (2 ^ b) * 1, RL + RR / (2 ^ b) * uw9, CD, q)).2.1), Value.long (lN (gv1 is b (RR, RL, CD, q)).2.1), Value.ref ri, Value.ref ro, Value.ref rw, Value.int (nI (prS is (RR / (2 ^ b) * 1, RL + RR / (2 ^ b) * uw9, CD, q)).2.2.2)])), (ri, Sum.inr (0, [Value.int (nI is.length), Value.ref ria])), (ria, Sum.inl (cI, rik, Sum.inl rif))] H := ⟨hP, hD⟩
    have hP := hPD.1
    have hD := hPD.2
    have hsu : (lN (prS is (RR / (2 ^ b) * 1, RL + RR / (2 ^ b) * uw9, CD, q)).2.1 : Int64) = lN (gv1 is b (RR, RL, CD, q)).2.2.1 := by rw [hgr]
    rw [hsu] at hP hD
    have hPD : my_PD (dC, dI) vwCl A [(co, Sum.inr (2, [Value.long xlow, Value.long xrange, Value.long (lN (prS is (RR / (2 ^ b) * 1, RL + RR / (2 ^ b) * uw9, CD, q)).2.2.1), Value.long (lN (gv1 is b (RR, RL, CD, q)).2.2.1), Value.long (lN (gv1 is b (RR, RL, CD, q)).2.1), Value.ref ri, Value.ref ro, Value.ref rw, Value.int (nI (prS is (RR / (2 ^ b) * 1, RL + RR / (2 ^ b) * uw9, CD, q)).2.2.2)])), (ri, Sum.inr (0, [Value.int (nI is.length), Value.ref ria])), (ria, Sum.inl (cI, rik, Sum.inl rif))] H := ⟨hP, hD⟩
    have hP := hPD.1
    have hD := hPD.2
    have hsu : (lN (prS is (RR / (2 ^ b) * 1, RL + RR / (2 ^ b) * uw9, CD, q)).2.2.1 : Int64) = lN (gv1 is b (RR, RL, CD, q)).2.2.2.1 := by rw [hgr]
    rw [hsu] at hP hD
    have hPD : my_PD (dC, dI) vwCl A [(co, Sum.inr (2, [Value.long xlow, Value.long xrange, Value.long (lN (gv1 is b (RR, RL, CD, q)).2.2.2.1), Value.long (lN (gv1 is b (RR, RL, CD, q)).2.2.1), Value.long (lN (gv1 is b (RR, RL, CD, q)).2.1), Value.ref ri, Value.ref ro, Value.ref rw, Value.int (nI (prS is (RR / (2 ^ b) * 1, RL + RR / (2 ^ b) * uw9, CD, q)).2.2.2)])), (ri, Sum.inr (0, [Value.int (nI is.length), Value.ref ria])), (ria, Sum.inl (cI, rik, Sum.inl rif))] H := ⟨hP, hD⟩
    have hP := hPD.1
    have hD := hPD.2
    have hsu : (nI (prS is (RR / (2 ^ b) * 1, RL + RR / (2 ^ b) * uw9, CD, q)).2.2.2 : Int32) = nI (gv1 is b (RR, RL, CD, q)).2.2.2.2 := by rw [hgr]
    rw [hsu] at hP hD
    have hPD : my_PD (dC, dI) vwCl A [(co, Sum.inr (2, [Value.long xlow, Value.long xrange, Value.long (lN (gv1 is b (RR, RL, CD, q)).2.2.2.1), Value.long (lN (gv1 is b (RR, RL, CD, q)).2.2.1), Value.long (lN (gv1 is b (RR, RL, CD, q)).2.1), Value.ref ri, Value.ref ro, Value.ref rw, Value.int (nI (gv1 is b (RR, RL, CD, q)).2.2.2.2)])), (ri, Sum.inr (0, [Value.int (nI is.length), Value.ref ria])), (ria, Sum.inl (cI, rik, Sum.inl rif))] H := ⟨hP, hD⟩
    have hP := hPD.1
    have hD := hPD.2
    refine lv_iload_n hx hb d_Ranged_nextValue_22 rfl (lv_at hl 0 rfl) ?_
    exact my_iret (v := (nI uw9)) hx hb hr (rfl) hlocks hQ hK hS (Nat.le_refl _) (Nat.le_refl _) () (by rw [hgr]; rfl) (hP.sub [0, 1, 2] rfl) (hD.sub [0, 1, 2] (by decide +kernel) rfl) d_Ranged_nextValue_23
set_option maxHeartbeats 2000000 in
set_option maxRecDepth 100000 in
theorem f_NoCarries_openReading (l : Launch) (dC : Nat → ClassId) (dI : Nat → Nat → Nat) (cI cM cO : ClassId) (sz : Nat) (co : Nat) (xlow : Int64) (xrange : Int64) (xcode : Int64) (xreadLow : Int64) (xreadRange : Int64) (ri : Nat) (ro : Nat) (rw : Nat) (xasked : Int32) (ria : Nat) (rik : Nat) (rif : Nat → Int32) (is : List Nat) (hri : rOk (nI is.length) rik) (hGri : gIs rif is) (hLri : is.length ≤ 6000) (hoct : oct is) : MetI l y_Ranged_openReading (Cond.code y_Ranged_openReading prog_8_method_10_code 1 (some .boolean) :: gw) ({ frames := 4, cells := 0, slots := 0, locals := 86 } : Room) (dC, dI) vwCl (kT cI cM cO) [Value.ref co] [(co, Sum.inr (2, [Value.long xlow, Value.long xrange, Value.long xcode, Value.long xreadLow, Value.long xreadRange, Value.ref ri, Value.ref ro, Value.ref rw, Value.int xasked])), (ri, Sum.inr (0, [Value.int (nI is.length), Value.ref ria])), (ria, Sum.inl (cI, rik, Sum.inl rif))] sz (fun (r : Int32) (u : Unit) => r = 1) (fun (u : Unit) => [(co, Sum.inr (2, [Value.long xlow, Value.long xrange, Value.long (lN (frN is 0 4)), Value.long (lN 0), Value.long (lN 4294967295), Value.ref ri, Value.ref ro, Value.ref rw, Value.int (nI 4)])), (ri, Sum.inr (0, [Value.int (nI is.length), Value.ref ria])), (ria, Sum.inl (cI, rik, Sum.inl rif))]) 0 0 := by
  refine my_ofI (cc := prog_8_method_10_code) (n := 1) (ret := (some .boolean)) (by decide) rfl (Nat.le_of_ble_eq_true rfl) ?_
  intro p e s m args below meth c R Q A ls H locs hx hb hr hts hown hlocks hml hnm hR hQ hA hl hP hK hN hD hS
  have hg : ∀ w ∈ gw, w.before args s = true := fun w h => hts w (List.mem_cons_of_mem _ h)
  have hown : s.vm.findClass "RangeCoders$Ranged" = some m.cls := hown
  have hl : lv_has ls 1 [(0, Value.ref co)] := hl
  have hlti := rOk_lt hri
  refine lv_aload_n hx hb d_Ranged_openReading_0 rfl (lv_at hl 0 rfl) ?_
  refine lv_aload_n hx hb d_Ranged_openReading_1 rfl (lv_at hl 0 rfl) ?_
  refine my_cl (wr := []) (va_runU (As := []) (rest := [Value.ref co]) ⟨hx, hb, hml, hown, hts⟩ (f_NoCarries_four l dC dI cI cM cO H.size co xlow xrange xcode xreadLow xreadRange ri ro rw xasked ria rik rif is (hri) (hGri) (hLri) (by first | assumption | omega)) (va_cwU 0 hts (my_gU k733 k734 k738 k739 k3 k740) rfl rfl rfl rfl (by decide +kernel) ⟨by rw [hR]; exact Nat.le_of_ble_eq_true rfl, by rw [hR]; exact Nat.le_of_ble_eq_true rfl⟩) (my_preV hK hN (hP.sub [0, 1, 2] rfl) (hD.sub [0, 1, 2] (by decide +kernel) rfl) 0 rfl rfl) rfl rfl hl.1 rfl (lv_room (Nat.le_of_ble_eq_true rfl)) d_Ranged_openReading_2 ⟨by rw [hR]; exact Nat.le_of_ble_eq_true rfl, by rw [hR]; exact Nat.le_of_ble_eq_true rfl⟩) hP hD hS hA [0, 1, 2] [] rfl rfl (by decide +kernel) (by decide +kernel) (fun r_2 u9 H locs hw_2 hP hD hS => ?_)
  have hr_2 : r_2 = lN (frN is 0 4) := hw_2
  have hPD : my_PD (dC, dI) vwCl A [(co, Sum.inr (2, [Value.long xlow, Value.long xrange, Value.long xcode, Value.long xreadLow, Value.long xreadRange, Value.ref ri, Value.ref ro, Value.ref rw, Value.int (nI 4)])), (ri, Sum.inr (0, [Value.int (nI is.length), Value.ref ria])), (ria, Sum.inl (cI, rik, Sum.inl rif))] H := ⟨hP, hD⟩
  have hP := hPD.1
  have hD := hPD.2
  have z9 : r_2 = lN (frN is 0 4) := hr_2
  subst z9
  refine va_put (D := (dC, dI)) (ci := 2) (v := .long (lN (frN is 0 4))) (ty := .long) (C := "RangeCoders$NoCarries") (T := T_NoCarries) (N := 9) hx hb hg in_NoCarries t_NoCarries o_NoCarries n_NoCarries hown hK hP hD hS 0 rfl rfl 2 (by decide) (hg _ k90) (fun _ h9 => h9) rfl (o_NoCarries 2 (by decide)) rfl rfl (Nat.le_of_ble_eq_true rfl) d_Ranged_openReading_5 (fun H locs hP hD hS => ?_)
  have hPD : my_PD (dC, dI) vwCl A [(co, Sum.inr (2, [Value.long xlow, Value.long xrange, Value.long (lN (frN is 0 4)), Value.long xreadLow, Value.long xreadRange, Value.ref ri, Value.ref ro, Value.ref rw, Value.int (nI 4)])), (ri, Sum.inr (0, [Value.int (nI is.length), Value.ref ria])), (ria, Sum.inl (cI, rik, Sum.inl rif))] H := ⟨hP, hD⟩
  have hP := hPD.1
  have hD := hPD.2
  refine lv_aload_n hx hb d_Ranged_openReading_8 rfl (lv_at hl 0 rfl) ?_
  refine lv_lconst (v := 0) hx hb d_Ranged_openReading_9 (by decide) ?_
  refine va_put (D := (dC, dI)) (ci := 2) (v := .long 0) (ty := .long) (C := "RangeCoders$NoCarries") (T := T_NoCarries) (N := 9) hx hb hg in_NoCarries t_NoCarries o_NoCarries n_NoCarries hown hK hP hD hS 0 rfl rfl 3 (by decide) (hg _ k93) (fun _ h9 => h9) rfl (o_NoCarries 3 (by decide)) rfl rfl (Nat.le_of_ble_eq_true rfl) d_Ranged_openReading_10 (fun H locs hP hD hS => ?_)
  have hPD : my_PD (dC, dI) vwCl A [(co, Sum.inr (2, [Value.long xlow, Value.long xrange, Value.long (lN (frN is 0 4)), Value.long 0, Value.long xreadRange, Value.ref ri, Value.ref ro, Value.ref rw, Value.int (nI 4)])), (ri, Sum.inr (0, [Value.int (nI is.length), Value.ref ria])), (ria, Sum.inl (cI, rik, Sum.inl rif))] H := ⟨hP, hD⟩
  have hP := hPD.1
  have hD := hPD.2
  refine lv_aload_n hx hb d_Ranged_openReading_13 rfl (lv_at hl 0 rfl) ?_
  refine lv_ldc2 (v := 4294967295) hx hb hown (hg _ k67) d_Ranged_openReading_14 ?_
  refine va_put (D := (dC, dI)) (ci := 2) (v := .long 4294967295) (ty := .long) (C := "RangeCoders$NoCarries") (T := T_NoCarries) (N := 9) hx hb hg in_NoCarries t_NoCarries o_NoCarries n_NoCarries hown hK hP hD hS 0 rfl rfl 4 (by decide) (hg _ k100) (fun _ h9 => h9) rfl (o_NoCarries 4 (by decide)) rfl rfl (Nat.le_of_ble_eq_true rfl) d_Ranged_openReading_17 (fun H locs hP hD hS => ?_)
  have hPD : my_PD (dC, dI) vwCl A [(co, Sum.inr (2, [Value.long xlow, Value.long xrange, Value.long (lN (frN is 0 4)), Value.long 0, Value.long 4294967295, Value.ref ri, Value.ref ro, Value.ref rw, Value.int (nI 4)])), (ri, Sum.inr (0, [Value.int (nI is.length), Value.ref ria])), (ria, Sum.inl (cI, rik, Sum.inl rif))] H := ⟨hP, hD⟩
  have hP := hPD.1
  have hD := hPD.2
  refine lv_iconst (v := 1) hx hb d_Ranged_openReading_20 (by decide) ?_
  exact my_iret (v := 1) hx hb hr (rfl) hlocks hQ hK hS (Nat.le_refl _) (Nat.le_refl _) () (rfl) (hP.sub [0, 1, 2] rfl) (hD.sub [0, 1, 2] (by decide +kernel) rfl) d_Ranged_openReading_21
set_option maxHeartbeats 2000000 in
set_option maxRecDepth 100000 in
theorem f_Bits_openReading (l : Launch) (dC : Nat → ClassId) (dI : Nat → Nat → Nat) (cI cM cO : ClassId) (sz : Nat) (co : Nat) (xshift : Int32) (xkeptCode : Int64) (xkeptRange : Int64) (xkeptAsked : Int32) (xcache : Int32) (xpending : Int32) (xlow : Int64) (xrange : Int64) (xcode : Int64) (xreadLow : Int64) (xreadRange : Int64) (ri : Nat) (ro : Nat) (rw : Nat) (xasked : Int32) (ria : Nat) (rik : Nat) (rif : Nat → Int32) (is : List Nat) (hri : rOk (nI is.length) rik) (hGri : gIs rif is) (hLri : is.length ≤ 6000) (hoct : oct is) : MetI l y_Ranged_openReading (Cond.code y_Ranged_openReading prog_8_method_10_code 1 (some .boolean) :: gw) ({ frames := 4, cells := 0, slots := 0, locals := 86 } : Room) (dC, dI) vwCl (kT cI cM cO) [Value.ref co] [(co, Sum.inr (3, [Value.int xshift, Value.long xkeptCode, Value.long xkeptRange, Value.int xkeptAsked, Value.int xcache, Value.int xpending, Value.long xlow, Value.long xrange, Value.long xcode, Value.long xreadLow, Value.long xreadRange, Value.ref ri, Value.ref ro, Value.ref rw, Value.int xasked])), (ri, Sum.inr (0, [Value.int (nI is.length), Value.ref ria])), (ria, Sum.inl (cI, rik, Sum.inl rif))] sz (fun (r : Int32) (u : Unit) => r = 1) (fun (u : Unit) => [(co, Sum.inr (3, [Value.int xshift, Value.long xkeptCode, Value.long xkeptRange, Value.int xkeptAsked, Value.int xcache, Value.int xpending, Value.long xlow, Value.long xrange, Value.long (lN (frN is 0 4)), Value.long (lN 0), Value.long (lN 4294967295), Value.ref ri, Value.ref ro, Value.ref rw, Value.int (nI 4)])), (ri, Sum.inr (0, [Value.int (nI is.length), Value.ref ria])), (ria, Sum.inl (cI, rik, Sum.inl rif))]) 0 0 := by
  refine my_ofI (cc := prog_8_method_10_code) (n := 1) (ret := (some .boolean)) (by decide) rfl (Nat.le_of_ble_eq_true rfl) ?_
  intro p e s m args below meth c R Q A ls H locs hx hb hr hts hown hlocks hml hnm hR hQ hA hl hP hK hN hD hS
  have hg : ∀ w ∈ gw, w.before args s = true := fun w h => hts w (List.mem_cons_of_mem _ h)
  have hown : s.vm.findClass "RangeCoders$Ranged" = some m.cls := hown
  have hl : lv_has ls 1 [(0, Value.ref co)] := hl
  have hlti := rOk_lt hri
  refine lv_aload_n hx hb d_Ranged_openReading_0 rfl (lv_at hl 0 rfl) ?_
  refine lv_aload_n hx hb d_Ranged_openReading_1 rfl (lv_at hl 0 rfl) ?_
  refine my_cl (wr := []) (va_runU (As := []) (rest := [Value.ref co]) ⟨hx, hb, hml, hown, hts⟩ (f_Bits_four l dC dI cI cM cO H.size co xshift xkeptCode xkeptRange xkeptAsked xcache xpending xlow xrange xcode xreadLow xreadRange ri ro rw xasked ria rik rif is (hri) (hGri) (hLri) (by first | assumption | omega)) (va_cwU 0 hts (my_gU k733 k734 k736 k739 k3 k740) rfl rfl rfl rfl (by decide +kernel) ⟨by rw [hR]; exact Nat.le_of_ble_eq_true rfl, by rw [hR]; exact Nat.le_of_ble_eq_true rfl⟩) (my_preV hK hN (hP.sub [0, 1, 2] rfl) (hD.sub [0, 1, 2] (by decide +kernel) rfl) 0 rfl rfl) rfl rfl hl.1 rfl (lv_room (Nat.le_of_ble_eq_true rfl)) d_Ranged_openReading_2 ⟨by rw [hR]; exact Nat.le_of_ble_eq_true rfl, by rw [hR]; exact Nat.le_of_ble_eq_true rfl⟩) hP hD hS hA [0, 1, 2] [] rfl rfl (by decide +kernel) (by decide +kernel) (fun r_2 u9 H locs hw_2 hP hD hS => ?_)
  have hr_2 : r_2 = lN (frN is 0 4) := hw_2
  have hPD : my_PD (dC, dI) vwCl A [(co, Sum.inr (3, [Value.int xshift, Value.long xkeptCode, Value.long xkeptRange, Value.int xkeptAsked, Value.int xcache, Value.int xpending, Value.long xlow, Value.long xrange, Value.long xcode, Value.long xreadLow, Value.long xreadRange, Value.ref ri, Value.ref ro, Value.ref rw, Value.int (nI 4)])), (ri, Sum.inr (0, [Value.int (nI is.length), Value.ref ria])), (ria, Sum.inl (cI, rik, Sum.inl rif))] H := ⟨hP, hD⟩
  have hP := hPD.1
  have hD := hPD.2
  have z9 : r_2 = lN (frN is 0 4) := hr_2
  subst z9
  refine va_put (D := (dC, dI)) (ci := 3) (v := .long (lN (frN is 0 4))) (ty := .long) (C := "RangeCoders$Bits") (T := T_Bits) (N := 15) hx hb hg in_Bits t_Bits o_Bits n_Bits hown hK hP hD hS 0 rfl rfl 8 (by decide) (hg _ k90) (fun _ h9 => h9) rfl (o_Bits 8 (by decide)) rfl rfl (Nat.le_of_ble_eq_true rfl) d_Ranged_openReading_5 (fun H locs hP hD hS => ?_)
  have hPD : my_PD (dC, dI) vwCl A [(co, Sum.inr (3, [Value.int xshift, Value.long xkeptCode, Value.long xkeptRange, Value.int xkeptAsked, Value.int xcache, Value.int xpending, Value.long xlow, Value.long xrange, Value.long (lN (frN is 0 4)), Value.long xreadLow, Value.long xreadRange, Value.ref ri, Value.ref ro, Value.ref rw, Value.int (nI 4)])), (ri, Sum.inr (0, [Value.int (nI is.length), Value.ref ria])), (ria, Sum.inl (cI, rik, Sum.inl rif))] H := ⟨hP, hD⟩
  have hP := hPD.1
  have hD := hPD.2
  refine lv_aload_n hx hb d_Ranged_openReading_8 rfl (lv_at hl 0 rfl) ?_
  refine lv_lconst (v := 0) hx hb d_Ranged_openReading_9 (by decide) ?_
  refine va_put (D := (dC, dI)) (ci := 3) (v := .long 0) (ty := .long) (C := "RangeCoders$Bits") (T := T_Bits) (N := 15) hx hb hg in_Bits t_Bits o_Bits n_Bits hown hK hP hD hS 0 rfl rfl 9 (by decide) (hg _ k93) (fun _ h9 => h9) rfl (o_Bits 9 (by decide)) rfl rfl (Nat.le_of_ble_eq_true rfl) d_Ranged_openReading_10 (fun H locs hP hD hS => ?_)
  have hPD : my_PD (dC, dI) vwCl A [(co, Sum.inr (3, [Value.int xshift, Value.long xkeptCode, Value.long xkeptRange, Value.int xkeptAsked, Value.int xcache, Value.int xpending, Value.long xlow, Value.long xrange, Value.long (lN (frN is 0 4)), Value.long 0, Value.long xreadRange, Value.ref ri, Value.ref ro, Value.ref rw, Value.int (nI 4)])), (ri, Sum.inr (0, [Value.int (nI is.length), Value.ref ria])), (ria, Sum.inl (cI, rik, Sum.inl rif))] H := ⟨hP, hD⟩
  have hP := hPD.1
  have hD := hPD.2
  refine lv_aload_n hx hb d_Ranged_openReading_13 rfl (lv_at hl 0 rfl) ?_
  refine lv_ldc2 (v := 4294967295) hx hb hown (hg _ k67) d_Ranged_openReading_14 ?_
  refine va_put (D := (dC, dI)) (ci := 3) (v := .long 4294967295) (ty := .long) (C := "RangeCoders$Bits") (T := T_Bits) (N := 15) hx hb hg in_Bits t_Bits o_Bits n_Bits hown hK hP hD hS 0 rfl rfl 10 (by decide) (hg _ k100) (fun _ h9 => h9) rfl (o_Bits 10 (by decide)) rfl rfl (Nat.le_of_ble_eq_true rfl) d_Ranged_openReading_17 (fun H locs hP hD hS => ?_)
  have hPD : my_PD (dC, dI) vwCl A [(co, Sum.inr (3, [Value.int xshift, Value.long xkeptCode, Value.long xkeptRange, Value.int xkeptAsked, Value.int xcache, Value.int xpending, Value.long xlow, Value.long xrange, Value.long (lN (frN is 0 4)), Value.long 0, Value.long 4294967295, Value.ref ri, Value.ref ro, Value.ref rw, Value.int (nI 4)])), (ri, Sum.inr (0, [Value.int (nI is.length), Value.ref ria])), (ria, Sum.inl (cI, rik, Sum.inl rif))] H := ⟨hP, hD⟩
  have hP := hPD.1
  have hD := hPD.2
  refine lv_iconst (v := 1) hx hb d_Ranged_openReading_20 (by decide) ?_
  exact my_iret (v := 1) hx hb hr (rfl) hlocks hQ hK hS (Nat.le_refl _) (Nat.le_refl _) () (rfl) (hP.sub [0, 1, 2] rfl) (hD.sub [0, 1, 2] (by decide +kernel) rfl) d_Ranged_openReading_21
end
