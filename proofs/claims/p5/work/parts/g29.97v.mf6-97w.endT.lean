section
set_option maxHeartbeats 2000000 in
set_option maxRecDepth 100000 in
theorem m_end0B (l : Launch) (dC : Nat → ClassId) (dI : Nat → Nat → Nat) (cI cM cO : ClassId) (sz : Nat) (o : Nat) (g : Nat → Nat) (fShift : Int32) (fModels : Int32) (fItems : Int32) (fOuts : Int32) (fIns : Int32) (fReads : Int32) (fBad : Int32) (fIR : Int32) (fAsk : Int32) (fBAsk : Int32) (fCode : Int64) (fRL : Int64) (fRR : Int64) (fX : Int64) (fWrites : Int32) (fThrown : Int32) (vGoing : Nat → Int32) (vOut : Nat → Int32) (Rg : Nat) (L : Nat) (ca : Option Nat) (Pn : Nat) (bs : List Nat) (hE : eOk (Rg, L, ca, Pn, bs)) (hG : gIs vGoing bs) (hN9 : bs.length + Pn ≤ 8000) : MetI l y_M_end (Cond.code y_M_end prog_14_method_31_code 2 (some .int) :: gw) ({ frames := 2, cells := 0, slots := 0, locals := 42 } : Room) (dC, dI) vwCl (kT cI cM cO) [Value.ref o] [(o, Sum.inr (9, mO g 0 fShift fModels fItems 0 (lN L) (lN Rg) (caI ca) (nI Pn) (nI bs.length) fOuts fIns fReads fBad fIR fAsk fBAsk fCode fRL fRR fX fWrites fThrown)), ((g 6), Sum.inl (cI, 9000, Sum.inl vGoing)), ((g 7), Sum.inl (cI, 9000, Sum.inl vOut))] sz (fun (r : Int32) (u : (Nat → Int32) × (Nat → Int32) × Int64 × Int64 × Int32 × Int32 × Int32 × Int32) => r = nI (eB (shK 5 (Rg, L, ca, Pn, bs))).length ∧ u.2.2.2.2.2.2.2 = nI (eB (shK 5 (Rg, L, ca, Pn, bs))).length ∧ gIs u.2.1 (eB (shK 5 (Rg, L, ca, Pn, bs)))) (fun (u : (Nat → Int32) × (Nat → Int32) × Int64 × Int64 × Int32 × Int32 × Int32 × Int32) => [(o, Sum.inr (9, mO g 0 fShift fModels fItems 1 u.2.2.1 u.2.2.2.1 u.2.2.2.2.1 u.2.2.2.2.2.1 u.2.2.2.2.2.2.1 u.2.2.2.2.2.2.2 fIns fReads fBad fIR fAsk fBAsk fCode fRL fRR fX fWrites 0)), ((g 6), Sum.inl (cI, 9000, Sum.inl u.1)), ((g 7), Sum.inl (cI, 9000, Sum.inl u.2.1))]) 0 0 := by
  refine my_ofI (cc := prog_14_method_31_code) (n := 2) (ret := (some .int)) (by decide) rfl (Nat.le_of_ble_eq_true rfl) ?_
  intro p e s m args below meth c R Q A ls H locs hx hb hr hts hown hlocks hml hnm hR hQ hA hl hP hK hN hD hS
  have hg : ∀ w ∈ gw, w.before args s = true := fun w h => hts w (List.mem_cons_of_mem _ h)
  have hown : s.vm.findClass "RangeCodersModel" = some m.cls := hown
  have hl : lv_has ls 2 [(0, Value.ref o)] := hl
  refine lv_aload_n hx hb d_M_end_0 rfl (lv_at hl 0 rfl) ?_
  refine lv_iconst (v := 0) hx hb d_M_end_1 (by decide) ?_
  refine va_put (D := (dC, dI)) (ci := 9) (v := .int 0) (ty := .int) (C := "RangeCodersModel") (T := T_M) (N := 35) hx hb hg in_M t_M o_M n_M hown hK hP hD hS 0 rfl rfl 34 (by decide) (hg _ k986) (fun _ h9 => h9) rfl (by decide +kernel) rfl rfl (Nat.le_of_ble_eq_true rfl) d_M_end_2 (fun H locs hP hD hS => ?_)
  have hP : va_P (dC, dI) vwCl [(o, Sum.inr (9, mO g 0 fShift fModels fItems 0 (lN L) (lN Rg) (caI ca) (nI Pn) (nI bs.length) fOuts fIns fReads fBad fIR fAsk fBAsk fCode fRL fRR fX fWrites 0)), ((g 6), Sum.inl (cI, 9000, Sum.inl vGoing)), ((g 7), Sum.inl (cI, 9000, Sum.inl vOut))] H := hP
  have hD : va_D A [(o, Sum.inr (9, mO g 0 fShift fModels fItems 0 (lN L) (lN Rg) (caI ca) (nI Pn) (nI bs.length) fOuts fIns fReads fBad fIR fAsk fBAsk fCode fRL fRR fX fWrites 0)), ((g 6), Sum.inl (cI, 9000, Sum.inl vGoing)), ((g 7), Sum.inl (cI, 9000, Sum.inl vOut))] := hD
  refine lv_aload_n hx hb d_M_end_5 rfl (lv_at hl 0 rfl) ?_
  refine va_get (D := (dC, dI)) (ci := 9) (v := .int 0) (C := "RangeCodersModel") (T := T_M) (N := 35) hx hb hg in_M hown hK hP 0 rfl rfl 10 (by decide) (hg _ k962) (fun _ h9 => h9) rfl d_M_end_6 ?_
  refine lv_if_eq (tgt := 15) hx hb d_M_end_9 (by decide) (fun c_1 => ?_) (fun c_1 => ?_)
  · refine lv_aload_n hx hb d_M_end_15 rfl (lv_at hl 0 rfl) ?_
    refine lv_iconst (v := 1) hx hb d_M_end_16 (by decide) ?_
    refine va_put (D := (dC, dI)) (ci := 9) (v := .int 1) (ty := .boolean) (C := "RangeCodersModel") (T := T_M) (N := 35) hx hb hg in_M t_M o_M n_M hown hK hP hD hS 0 rfl rfl 10 (by decide) (hg _ k962) (fun _ h9 => h9) rfl (by decide +kernel) rfl rfl (Nat.le_of_ble_eq_true rfl) d_M_end_17 (fun H locs hP hD hS => ?_)
    have hP : va_P (dC, dI) vwCl [(o, Sum.inr (9, mO g 0 fShift fModels fItems 1 (lN L) (lN Rg) (caI ca) (nI Pn) (nI bs.length) fOuts fIns fReads fBad fIR fAsk fBAsk fCode fRL fRR fX fWrites 0)), ((g 6), Sum.inl (cI, 9000, Sum.inl vGoing)), ((g 7), Sum.inl (cI, 9000, Sum.inl vOut))] H := hP
    have hD : va_D A [(o, Sum.inr (9, mO g 0 fShift fModels fItems 1 (lN L) (lN Rg) (caI ca) (nI Pn) (nI bs.length) fOuts fIns fReads fBad fIR fAsk fBAsk fCode fRL fRR fX fWrites 0)), ((g 6), Sum.inl (cI, 9000, Sum.inl vGoing)), ((g 7), Sum.inl (cI, 9000, Sum.inl vOut))] := hD
    refine lv_aload_n hx hb d_M_end_20 rfl (lv_at hl 0 rfl) ?_
    refine va_get (D := (dC, dI)) (ci := 9) (v := .int 0) (C := "RangeCodersModel") (T := T_M) (N := 35) hx hb hg in_M hown hK hP 0 rfl rfl 0 (by decide) (hg _ k952) (fun _ h9 => h9) rfl d_M_end_21 ?_
    refine lv_if_eq (tgt := 35) hx hb d_M_end_24 (by decide) (fun c_2 => ?_) (fun c_2 => ?_)
    · refine lv_iconst (v := 0) hx hb d_M_end_35 (by decide) ?_
      refine lv_istore_n (lv' := [(1, Value.int 0), (0, Value.ref o)]) hx hb d_M_end_36 rfl hl (by decide) rfl (fun ls hl => ?_)
      have J_37 : ∀ (n9_37 : Nat) (jj : Nat) (e9 : ES) (fG : Nat → Int32) (hn9_37 : 5 - jj = n9_37) (hjj : jj ≤ 5) (hE9 : shK 5 (Rg, L, ca, Pn, bs) = shK (5 - jj) e9) (he9 : eOk e9) (hG9 : gIs fG (eB e9)) (hN8 : eN e9 ≤ 8001 + jj) (H : Heap) (locs : List Loc) (ls : Array Slot), va_P (dC, dI) vwCl [(o, Sum.inr (9, mO g 0 fShift fModels fItems 1 (lN (eL e9)) (lN (eR e9)) (caI (eC e9)) (nI (eP e9)) (nI (eB e9).length) fOuts fIns fReads fBad fIR fAsk fBAsk fCode fRL fRR fX fWrites 0)), ((g 6), Sum.inl (cI, 9000, Sum.inl fG)), ((g 7), Sum.inl (cI, 9000, Sum.inl vOut))] H → va_D A [(o, Sum.inr (9, mO g 0 fShift fModels fItems 1 (lN (eL e9)) (lN (eR e9)) (caI (eC e9)) (nI (eP e9)) (nI (eB e9).length) fOuts fIns fReads fBad fIR fAsk fBAsk fCode fRL fRR fX fWrites 0)), ((g 6), Sum.inl (cI, 9000, Sum.inl fG)), ((g 7), Sum.inl (cI, 9000, Sum.inl vOut))] → va_S A s.heap H locs → lv_has ls 2 [(1, Value.int (nI jj)), (0, Value.ref o)] → W p l e R s m args below meth c H locs 0 0 Q (F0 m 37 ls []) := by
        intro n9_37
        induction n9_37 using Nat.strongRecOn with
        | ind n9_37 ih9_37 =>
          intro jj e9 fG hn9_37 hjj hE9 he9 hG9 hN8 H locs ls hP hD hS hl
          refine lv_iload_n hx hb d_M_end_37 rfl (lv_at hl 0 rfl) ?_
          refine lv_iconst (v := 5) hx hb d_M_end_38 (by decide) ?_
          refine lv_icmp_ge (tgt := 52) hx hb d_M_end_39 (by decide) (fun c_3 => ?_) (fun c_3 => ?_)
          · refine lv_goto (tgt := 125) hx hb d_M_end_52 (by decide) ?_
            have hl9 : (eB e9).length ≤ 8006 := by unfold eN at hN8; omega
            have hj5 : jj = 5 := by have := nI_ge' (n := 5) (by omega) (by decide) c_3; omega
            have hB9 : eB (shK 5 (Rg, L, ca, Pn, bs)) = eB e9 := by rw [hE9, hj5]; rfl
            refine lv_aload_n hx hb d_M_end_125 rfl (lv_at hl 1 rfl) ?_
            refine lv_aload_n hx hb d_M_end_126 rfl (lv_at hl 1 rfl) ?_
            refine va_get (D := (dC, dI)) (ci := 9) (v := .int (nI (eB e9).length)) (C := "RangeCodersModel") (T := T_M) (N := 35) hx hb hg in_M hown hK hP 0 rfl rfl 16 (by decide) (hg _ k968) (fun _ h9 => h9) rfl d_M_end_127 ?_
            refine va_put (D := (dC, dI)) (ci := 9) (v := .int (nI (eB e9).length)) (ty := .int) (C := "RangeCodersModel") (T := T_M) (N := 35) hx hb hg in_M t_M o_M n_M hown hK hP hD hS 0 rfl rfl 18 (by decide) (hg _ k970) (fun _ h9 => h9) rfl (by decide +kernel) rfl rfl (Nat.le_of_ble_eq_true rfl) d_M_end_130 (fun H locs hP hD hS => ?_)
            have hP : va_P (dC, dI) vwCl [(o, Sum.inr (9, mO g 0 fShift fModels fItems 1 (lN (eL e9)) (lN (eR e9)) (caI (eC e9)) (nI (eP e9)) (nI (eB e9).length) (nI (eB e9).length) fIns fReads fBad fIR fAsk fBAsk fCode fRL fRR fX fWrites 0)), ((g 6), Sum.inl (cI, 9000, Sum.inl fG)), ((g 7), Sum.inl (cI, 9000, Sum.inl vOut))] H := hP
            have hD : va_D A [(o, Sum.inr (9, mO g 0 fShift fModels fItems 1 (lN (eL e9)) (lN (eR e9)) (caI (eC e9)) (nI (eP e9)) (nI (eB e9).length) (nI (eB e9).length) fIns fReads fBad fIR fAsk fBAsk fCode fRL fRR fX fWrites 0)), ((g 6), Sum.inl (cI, 9000, Sum.inl fG)), ((g 7), Sum.inl (cI, 9000, Sum.inl vOut))] := hD
            refine lv_iconst (v := 0) hx hb d_M_end_133 (by decide) ?_
            refine lv_istore_n (lv' := [(1, Value.int 0), (0, Value.ref o)]) hx hb d_M_end_134 rfl hl (by decide) rfl (fun ls hl => ?_)
            have J_135 : ∀ (n9_135 : Nat) (kk : Nat) (fO : Nat → Int32) (hn9_135 : (eB e9).length - kk = n9_135) (hkk : kk ≤ (eB e9).length) (hc : ∀ i, i < kk → fO i = fG i) (H : Heap) (locs : List Loc) (ls : Array Slot), va_P (dC, dI) vwCl [(o, Sum.inr (9, mO g 0 fShift fModels fItems 1 (lN (eL e9)) (lN (eR e9)) (caI (eC e9)) (nI (eP e9)) (nI (eB e9).length) (nI (eB e9).length) fIns fReads fBad fIR fAsk fBAsk fCode fRL fRR fX fWrites 0)), ((g 6), Sum.inl (cI, 9000, Sum.inl fG)), ((g 7), Sum.inl (cI, 9000, Sum.inl fO))] H → va_D A [(o, Sum.inr (9, mO g 0 fShift fModels fItems 1 (lN (eL e9)) (lN (eR e9)) (caI (eC e9)) (nI (eP e9)) (nI (eB e9).length) (nI (eB e9).length) fIns fReads fBad fIR fAsk fBAsk fCode fRL fRR fX fWrites 0)), ((g 6), Sum.inl (cI, 9000, Sum.inl fG)), ((g 7), Sum.inl (cI, 9000, Sum.inl fO))] → va_S A s.heap H locs → lv_has ls 2 [(1, Value.int (nI kk)), (0, Value.ref o)] → W p l e R s m args below meth c H locs 0 0 Q (F0 m 135 ls []) := by
              intro n9_135
              induction n9_135 using Nat.strongRecOn with
              | ind n9_135 ih9_135 =>
                intro kk fO hn9_135 hkk hc H locs ls hP hD hS hl
                refine lv_iload_n hx hb d_M_end_135 rfl (lv_at hl 0 rfl) ?_
                refine lv_aload_n hx hb d_M_end_136 rfl (lv_at hl 1 rfl) ?_
                refine va_get (D := (dC, dI)) (ci := 9) (v := .int (nI (eB e9).length)) (C := "RangeCodersModel") (T := T_M) (N := 35) hx hb hg in_M hown hK hP 0 rfl rfl 16 (by decide) (hg _ k968) (fun _ h9 => h9) rfl d_M_end_137 ?_
                refine lv_icmp_ge (tgt := 161) hx hb d_M_end_140 (by decide) (fun c_4 => ?_) (fun c_4 => ?_)
                · have hkn : kk = (eB e9).length := by have := (nI_cmp (a := (eB e9).length) (b := kk) (by omega) (by omega)).mp c_4; omega
                  subst hkn
                  refine lv_aload_n hx hb d_M_end_161 rfl (lv_at hl 1 rfl) ?_
                  refine va_get (D := (dC, dI)) (ci := 9) (v := .int (nI (eB e9).length)) (C := "RangeCodersModel") (T := T_M) (N := 35) hx hb hg in_M hown hK hP 0 rfl rfl 18 (by decide) (hg _ k970) (fun _ h9 => h9) rfl d_M_end_162 ?_
                  exact my_iret (v := nI (eB e9).length) hx hb hr (rfl) hlocks hQ hK hS (Nat.le_refl _) (Nat.le_refl _) (fG, fO, lN (eL e9), lN (eR e9), caI (eC e9), nI (eP e9), nI (eB e9).length, nI (eB e9).length) (⟨by rw [hB9], by rw [hB9], by rw [hB9]; exact gIs_cp hG9 hc⟩) (hP.sub [0, 1, 2] rfl) (hD.sub [0, 1, 2] (by decide +kernel) rfl) d_M_end_165
                · have hkl : kk < (eB e9).length := by
                    rcases Nat.lt_or_ge kk (eB e9).length with z | z
                    · exact z
                    · exact absurd (nI_le z (by omega)) c_4
                  refine lv_aload_n hx hb d_M_end_143 rfl (lv_at hl 1 rfl) ?_
                  refine va_get (D := (dC, dI)) (ci := 9) (v := .ref (g 7)) (C := "RangeCodersModel") (T := T_M) (N := 35) hx hb hg in_M hown hK hP 0 rfl rfl 17 (by decide) (hg _ k969) (fun _ h9 => h9) rfl d_M_end_144 ?_
                  refine lv_iload_n hx hb d_M_end_147 rfl (lv_at hl 0 rfl) ?_
                  refine lv_aload_n hx hb d_M_end_148 rfl (lv_at hl 1 rfl) ?_
                  refine va_get (D := (dC, dI)) (ci := 9) (v := .ref (g 6)) (C := "RangeCodersModel") (T := T_M) (N := 35) hx hb hg in_M hown hK hP 0 rfl rfl 15 (by decide) (hg _ k967) (fun _ h9 => h9) rfl d_M_end_149 ?_
                  refine lv_iload_n hx hb d_M_end_152 rfl (lv_at hl 0 rfl) ?_
                  refine va_iald hx hb hK hP 1 0 rfl rfl (vp_in_nI (by omega) (by decide)) d_M_end_153 ?_
                  refine lv_topi (fun v_5 ev_5 => ?_)
                  refine va_iast hx hb hK hP hD hS 2 0 rfl rfl (vp_in_nI (by omega) (by decide)) d_M_end_154 (fun H locs hP hD hS => ?_)
                  have hP : va_P (dC, dI) vwCl [(o, Sum.inr (9, mO g 0 fShift fModels fItems 1 (lN (eL e9)) (lN (eR e9)) (caI (eC e9)) (nI (eP e9)) (nI (eB e9).length) (nI (eB e9).length) fIns fReads fBad fIR fAsk fBAsk fCode fRL fRR fX fWrites 0)), ((g 6), Sum.inl (cI, 9000, Sum.inl fG)), ((g 7), Sum.inl (cI, 9000, Sum.inl (upd fO (nI kk).toNatClampNeg v_5)))] H := hP
                  have hD : va_D A [(o, Sum.inr (9, mO g 0 fShift fModels fItems 1 (lN (eL e9)) (lN (eR e9)) (caI (eC e9)) (nI (eP e9)) (nI (eB e9).length) (nI (eB e9).length) fIns fReads fBad fIR fAsk fBAsk fCode fRL fRR fX fWrites 0)), ((g 6), Sum.inl (cI, 9000, Sum.inl fG)), ((g 7), Sum.inl (cI, 9000, Sum.inl (upd fO (nI kk).toNatClampNeg v_5)))] := hD
                  have hc8 : ∀ i, i < kk + 1 → (upd fO (nI kk).toNatClampNeg v_5) i = fG i := cp_st hc (nI_clamp (by omega)) (by rw [ev_5, nI_clamp (by omega)])
                  obtain ⟨v_6, ev_6⟩ : ∃ y : Int32, y = (nI kk) + (1) := ⟨_, rfl⟩
                  refine lv_iinc (v := v_6) (lv' := [(1, Value.int v_6), (0, Value.ref o)]) hx hb d_M_end_155 hl (k := 0) rfl (by rw [ev_6]; rfl) (by decide) rfl (fun ls hl => ?_)
                  have z9 : v_6 = nI (kk + 1) := by rw [ev_6]; exact nI_1 _
                  subst z9
                  refine lv_goto (tgt := 135) hx hb d_M_end_158 (by decide) ?_
                  exact ih9_135 _ (by first | omega | (omega)) (kk + 1) (upd fO (nI kk).toNatClampNeg v_5) rfl (by omega) (hc8) H locs ls (hP.sub [0, 1, 2] rfl) (hD.sub [0, 1, 2] (by decide +kernel) rfl) hS (lv_sub hl [0, 1] rfl)
            exact J_135 _ (0 : Nat) vOut rfl (Nat.zero_le _) (fun _ z => absurd z (Nat.not_lt_zero _)) H locs ls (hP.sub [0, 1, 2] rfl) (hD.sub [0, 1, 2] (by decide +kernel) rfl) hS (lv_sub hl [0, 1] rfl)
          · have hjl : jj < 5 := by
              rcases Nat.lt_or_ge jj 5 with z | z
              · exact z
              · exact absurd (nI_le (a := 5) z (by omega)) c_3
            have hl9 : (eB e9).length + eP e9 + 1 ≤ 8001 + jj := hN8
            refine lv_aload_n hx hb d_M_end_42 rfl (lv_at hl 1 rfl) ?_
            refine my_cv (wr := [((g 7), Sum.inl (cI, 9000, Sum.inl vOut))]) (va_runV (As := []) (rest := []) ⟨hx, hb, hml, hown, hts⟩ (c_M_shifted l dC dI cI cM cO H.size o g 0 fShift fModels fItems 1 fOuts fIns fReads fBad fIR fAsk fBAsk fCode fRL fRR fX fWrites 0 fG (eR e9) (eL e9) (eC e9) (eP e9) (eB e9) (he9.1) (he9.2) (hG9) (by omega)) (cwV 0 hts (my_gV k1102 k1104 ks31 k12 k1105) rfl rfl rfl (by decide +kernel) ⟨by rw [hR]; exact Nat.le_of_ble_eq_true rfl, by rw [hR]; exact Nat.le_of_ble_eq_true rfl⟩) (my_preV hK hN (hP.sub [0, 1] rfl) (hD.sub [0, 1] (by decide +kernel) rfl) 0 rfl rfl) rfl rfl hl.1 rfl (lv_room (Nat.le_of_ble_eq_true rfl)) d_M_end_43 ⟨by rw [hR]; exact Nat.le_of_ble_eq_true rfl, by rw [hR]; exact Nat.le_of_ble_eq_true rfl⟩) hP hD hS hA [0, 1] [2] rfl rfl (by decide +kernel) (by decide +kernel) (fun u9 H locs hw_43 hP hD hS => ?_)
            obtain ⟨v2_43, rfl⟩ : ∃ z, z = u9 := ⟨_, rfl⟩
            have hw_43 : gIs v2_43 (shB (eL e9) (eC e9) (eP e9) (eB e9)) := hw_43
            have hP : va_P (dC, dI) vwCl [((g 7), Sum.inl (cI, 9000, Sum.inl vOut)), (o, Sum.inr (9, mO g 0 fShift fModels fItems 1 (lN (shL (eL e9))) (lN (eR e9)) (caI (shC (eL e9) (eC e9))) (nI (shP (eL e9) (eP e9))) (nI (shB (eL e9) (eC e9) (eP e9) (eB e9)).length) fOuts fIns fReads fBad fIR fAsk fBAsk fCode fRL fRR fX fWrites 0)), ((g 6), Sum.inl (cI, 9000, Sum.inl v2_43))] H := hP
            have hD : va_D A [((g 7), Sum.inl (cI, 9000, Sum.inl vOut)), (o, Sum.inr (9, mO g 0 fShift fModels fItems 1 (lN (shL (eL e9))) (lN (eR e9)) (caI (shC (eL e9) (eC e9))) (nI (shP (eL e9) (eP e9))) (nI (shB (eL e9) (eC e9) (eP e9) (eB e9)).length) fOuts fIns fReads fBad fIR fAsk fBAsk fCode fRL fRR fX fWrites 0)), ((g 6), Sum.inl (cI, 9000, Sum.inl v2_43))] := hD
            obtain ⟨v_7, ev_7⟩ : ∃ y : Int32, y = (nI jj) + (1) := ⟨_, rfl⟩
            refine lv_iinc (v := v_7) (lv' := [(1, Value.int v_7), (0, Value.ref o)]) hx hb d_M_end_46 hl (k := 0) rfl (by rw [ev_7]; rfl) (by decide) rfl (fun ls hl => ?_)
            have z9 : v_7 = nI (jj + 1) := by rw [ev_7]; exact nI_1 _
            subst z9
            refine lv_goto (tgt := 37) hx hb d_M_end_49 (by decide) ?_
            exact ih9_37 _ (by first | omega | (omega)) (jj + 1) (shS e9) v2_43 rfl (by omega) (by rw [hE9, show 5 - jj = (5 - (jj + 1)) + 1 by omega]; rfl) (eOk_sh he9) (hw_43) (Nat.le_trans (eN_sh e9) (by omega)) H locs ls (hP.sub [1, 2, 0] rfl) (hD.sub [1, 2, 0] (by decide +kernel) rfl) hS (lv_sub hl [0, 1] rfl)
      exact J_37 _ (0 : Nat) (Rg, L, ca, Pn, bs) vGoing rfl (by decide) (rfl) (hE) (hG) (show bs.length + Pn + 1 ≤ 8001 + 0 by omega) H locs ls (hP.sub [0, 1, 2] rfl) (hD.sub [0, 1, 2] (by decide +kernel) rfl) hS (lv_sub hl [0, 1] rfl)
    · exact absurd (by decide) c_2
  · exact absurd (by decide) c_1
set_option maxHeartbeats 2000000 in
set_option maxRecDepth 100000 in
theorem m_end2B (l : Launch) (dC : Nat → ClassId) (dI : Nat → Nat → Nat) (cI cM cO : ClassId) (sz : Nat) (o : Nat) (g : Nat → Nat) (fShift : Int32) (fModels : Int32) (fItems : Int32) (fOuts : Int32) (fIns : Int32) (fReads : Int32) (fBad : Int32) (fIR : Int32) (fAsk : Int32) (fBAsk : Int32) (fCode : Int64) (fRL : Int64) (fRR : Int64) (fX : Int64) (fWrites : Int32) (fThrown : Int32) (vGoing : Nat → Int32) (vOut : Nat → Int32) (Rg : Nat) (L : Nat) (ca : Option Nat) (Pn : Nat) (bs : List Nat) (hE : eOk (Rg, L, ca, Pn, bs)) (hG : gIs vGoing bs) (hN9 : bs.length + Pn ≤ 8000) : MetI l y_M_end (Cond.code y_M_end prog_14_method_31_code 2 (some .int) :: gw) ({ frames := 2, cells := 0, slots := 0, locals := 42 } : Room) (dC, dI) vwCl (kT cI cM cO) [Value.ref o] [(o, Sum.inr (9, mO g 2 fShift fModels fItems 0 (lN L) (lN Rg) (caI ca) (nI Pn) (nI bs.length) fOuts fIns fReads fBad fIR fAsk fBAsk fCode fRL fRR fX fWrites fThrown)), ((g 6), Sum.inl (cI, 9000, Sum.inl vGoing)), ((g 7), Sum.inl (cI, 9000, Sum.inl vOut))] sz (fun (r : Int32) (u : (Nat → Int32) × (Nat → Int32) × Int64 × Int64 × Int32 × Int32 × Int32 × Int32) => r = nI (eB (shK 5 (Rg, L, ca, Pn, bs))).length ∧ u.2.2.2.2.2.2.2 = nI (eB (shK 5 (Rg, L, ca, Pn, bs))).length ∧ gIs u.2.1 (eB (shK 5 (Rg, L, ca, Pn, bs)))) (fun (u : (Nat → Int32) × (Nat → Int32) × Int64 × Int64 × Int32 × Int32 × Int32 × Int32) => [(o, Sum.inr (9, mO g 2 fShift fModels fItems 1 u.2.2.1 u.2.2.2.1 u.2.2.2.2.1 u.2.2.2.2.2.1 u.2.2.2.2.2.2.1 u.2.2.2.2.2.2.2 fIns fReads fBad fIR fAsk fBAsk fCode fRL fRR fX fWrites 0)), ((g 6), Sum.inl (cI, 9000, Sum.inl u.1)), ((g 7), Sum.inl (cI, 9000, Sum.inl u.2.1))]) 0 0 := by
  refine my_ofI (cc := prog_14_method_31_code) (n := 2) (ret := (some .int)) (by decide) rfl (Nat.le_of_ble_eq_true rfl) ?_
  intro p e s m args below meth c R Q A ls H locs hx hb hr hts hown hlocks hml hnm hR hQ hA hl hP hK hN hD hS
  have hg : ∀ w ∈ gw, w.before args s = true := fun w h => hts w (List.mem_cons_of_mem _ h)
  have hown : s.vm.findClass "RangeCodersModel" = some m.cls := hown
  have hl : lv_has ls 2 [(0, Value.ref o)] := hl
  refine lv_aload_n hx hb d_M_end_0 rfl (lv_at hl 0 rfl) ?_
  refine lv_iconst (v := 0) hx hb d_M_end_1 (by decide) ?_
  refine va_put (D := (dC, dI)) (ci := 9) (v := .int 0) (ty := .int) (C := "RangeCodersModel") (T := T_M) (N := 35) hx hb hg in_M t_M o_M n_M hown hK hP hD hS 0 rfl rfl 34 (by decide) (hg _ k986) (fun _ h9 => h9) rfl (by decide +kernel) rfl rfl (Nat.le_of_ble_eq_true rfl) d_M_end_2 (fun H locs hP hD hS => ?_)
  have hP : va_P (dC, dI) vwCl [(o, Sum.inr (9, mO g 2 fShift fModels fItems 0 (lN L) (lN Rg) (caI ca) (nI Pn) (nI bs.length) fOuts fIns fReads fBad fIR fAsk fBAsk fCode fRL fRR fX fWrites 0)), ((g 6), Sum.inl (cI, 9000, Sum.inl vGoing)), ((g 7), Sum.inl (cI, 9000, Sum.inl vOut))] H := hP
  have hD : va_D A [(o, Sum.inr (9, mO g 2 fShift fModels fItems 0 (lN L) (lN Rg) (caI ca) (nI Pn) (nI bs.length) fOuts fIns fReads fBad fIR fAsk fBAsk fCode fRL fRR fX fWrites 0)), ((g 6), Sum.inl (cI, 9000, Sum.inl vGoing)), ((g 7), Sum.inl (cI, 9000, Sum.inl vOut))] := hD
  refine lv_aload_n hx hb d_M_end_5 rfl (lv_at hl 0 rfl) ?_
  refine va_get (D := (dC, dI)) (ci := 9) (v := .int 0) (C := "RangeCodersModel") (T := T_M) (N := 35) hx hb hg in_M hown hK hP 0 rfl rfl 10 (by decide) (hg _ k962) (fun _ h9 => h9) rfl d_M_end_6 ?_
  refine lv_if_eq (tgt := 15) hx hb d_M_end_9 (by decide) (fun c_1 => ?_) (fun c_1 => ?_)
  · refine lv_aload_n hx hb d_M_end_15 rfl (lv_at hl 0 rfl) ?_
    refine lv_iconst (v := 1) hx hb d_M_end_16 (by decide) ?_
    refine va_put (D := (dC, dI)) (ci := 9) (v := .int 1) (ty := .boolean) (C := "RangeCodersModel") (T := T_M) (N := 35) hx hb hg in_M t_M o_M n_M hown hK hP hD hS 0 rfl rfl 10 (by decide) (hg _ k962) (fun _ h9 => h9) rfl (by decide +kernel) rfl rfl (Nat.le_of_ble_eq_true rfl) d_M_end_17 (fun H locs hP hD hS => ?_)
    have hP : va_P (dC, dI) vwCl [(o, Sum.inr (9, mO g 2 fShift fModels fItems 1 (lN L) (lN Rg) (caI ca) (nI Pn) (nI bs.length) fOuts fIns fReads fBad fIR fAsk fBAsk fCode fRL fRR fX fWrites 0)), ((g 6), Sum.inl (cI, 9000, Sum.inl vGoing)), ((g 7), Sum.inl (cI, 9000, Sum.inl vOut))] H := hP
    have hD : va_D A [(o, Sum.inr (9, mO g 2 fShift fModels fItems 1 (lN L) (lN Rg) (caI ca) (nI Pn) (nI bs.length) fOuts fIns fReads fBad fIR fAsk fBAsk fCode fRL fRR fX fWrites 0)), ((g 6), Sum.inl (cI, 9000, Sum.inl vGoing)), ((g 7), Sum.inl (cI, 9000, Sum.inl vOut))] := hD
    refine lv_aload_n hx hb d_M_end_20 rfl (lv_at hl 0 rfl) ?_
    refine va_get (D := (dC, dI)) (ci := 9) (v := .int 2) (C := "RangeCodersModel") (T := T_M) (N := 35) hx hb hg in_M hown hK hP 0 rfl rfl 0 (by decide) (hg _ k952) (fun _ h9 => h9) rfl d_M_end_21 ?_
    refine lv_if_eq (tgt := 35) hx hb d_M_end_24 (by decide) (fun c_2 => ?_) (fun c_2 => ?_)
    · exact absurd c_2 (by decide)
    · refine lv_aload_n hx hb d_M_end_27 rfl (lv_at hl 0 rfl) ?_
      refine va_get (D := (dC, dI)) (ci := 9) (v := .int 2) (C := "RangeCodersModel") (T := T_M) (N := 35) hx hb hg in_M hown hK hP 0 rfl rfl 0 (by decide) (hg _ k952) (fun _ h9 => h9) rfl d_M_end_28 ?_
      refine lv_iconst (v := 2) hx hb d_M_end_31 (by decide) ?_
      refine lv_icmp_ne (tgt := 55) hx hb d_M_end_32 (by decide) (fun c_3 => ?_) (fun c_3 => ?_)
      · exact absurd rfl c_3
      · refine lv_iconst (v := 0) hx hb d_M_end_35 (by decide) ?_
        refine lv_istore_n (lv' := [(1, Value.int 0), (0, Value.ref o)]) hx hb d_M_end_36 rfl hl (by decide) rfl (fun ls hl => ?_)
        have J_37 : ∀ (n9_37 : Nat) (jj : Nat) (e9 : ES) (fG : Nat → Int32) (hn9_37 : 5 - jj = n9_37) (hjj : jj ≤ 5) (hE9 : shK 5 (Rg, L, ca, Pn, bs) = shK (5 - jj) e9) (he9 : eOk e9) (hG9 : gIs fG (eB e9)) (hN8 : eN e9 ≤ 8001 + jj) (H : Heap) (locs : List Loc) (ls : Array Slot), va_P (dC, dI) vwCl [(o, Sum.inr (9, mO g 2 fShift fModels fItems 1 (lN (eL e9)) (lN (eR e9)) (caI (eC e9)) (nI (eP e9)) (nI (eB e9).length) fOuts fIns fReads fBad fIR fAsk fBAsk fCode fRL fRR fX fWrites 0)), ((g 6), Sum.inl (cI, 9000, Sum.inl fG)), ((g 7), Sum.inl (cI, 9000, Sum.inl vOut))] H → va_D A [(o, Sum.inr (9, mO g 2 fShift fModels fItems 1 (lN (eL e9)) (lN (eR e9)) (caI (eC e9)) (nI (eP e9)) (nI (eB e9).length) fOuts fIns fReads fBad fIR fAsk fBAsk fCode fRL fRR fX fWrites 0)), ((g 6), Sum.inl (cI, 9000, Sum.inl fG)), ((g 7), Sum.inl (cI, 9000, Sum.inl vOut))] → va_S A s.heap H locs → lv_has ls 2 [(1, Value.int (nI jj)), (0, Value.ref o)] → W p l e R s m args below meth c H locs 0 0 Q (F0 m 37 ls []) := by
          intro n9_37
          induction n9_37 using Nat.strongRecOn with
          | ind n9_37 ih9_37 =>
            intro jj e9 fG hn9_37 hjj hE9 he9 hG9 hN8 H locs ls hP hD hS hl
            refine lv_iload_n hx hb d_M_end_37 rfl (lv_at hl 0 rfl) ?_
            refine lv_iconst (v := 5) hx hb d_M_end_38 (by decide) ?_
            refine lv_icmp_ge (tgt := 52) hx hb d_M_end_39 (by decide) (fun c_4 => ?_) (fun c_4 => ?_)
            · refine lv_goto (tgt := 125) hx hb d_M_end_52 (by decide) ?_
              have hl9 : (eB e9).length ≤ 8006 := by unfold eN at hN8; omega
              have hj5 : jj = 5 := by have := nI_ge' (n := 5) (by omega) (by decide) c_4; omega
              have hB9 : eB (shK 5 (Rg, L, ca, Pn, bs)) = eB e9 := by rw [hE9, hj5]; rfl
              refine lv_aload_n hx hb d_M_end_125 rfl (lv_at hl 1 rfl) ?_
              refine lv_aload_n hx hb d_M_end_126 rfl (lv_at hl 1 rfl) ?_
              refine va_get (D := (dC, dI)) (ci := 9) (v := .int (nI (eB e9).length)) (C := "RangeCodersModel") (T := T_M) (N := 35) hx hb hg in_M hown hK hP 0 rfl rfl 16 (by decide) (hg _ k968) (fun _ h9 => h9) rfl d_M_end_127 ?_
              refine va_put (D := (dC, dI)) (ci := 9) (v := .int (nI (eB e9).length)) (ty := .int) (C := "RangeCodersModel") (T := T_M) (N := 35) hx hb hg in_M t_M o_M n_M hown hK hP hD hS 0 rfl rfl 18 (by decide) (hg _ k970) (fun _ h9 => h9) rfl (by decide +kernel) rfl rfl (Nat.le_of_ble_eq_true rfl) d_M_end_130 (fun H locs hP hD hS => ?_)
              have hP : va_P (dC, dI) vwCl [(o, Sum.inr (9, mO g 2 fShift fModels fItems 1 (lN (eL e9)) (lN (eR e9)) (caI (eC e9)) (nI (eP e9)) (nI (eB e9).length) (nI (eB e9).length) fIns fReads fBad fIR fAsk fBAsk fCode fRL fRR fX fWrites 0)), ((g 6), Sum.inl (cI, 9000, Sum.inl fG)), ((g 7), Sum.inl (cI, 9000, Sum.inl vOut))] H := hP
              have hD : va_D A [(o, Sum.inr (9, mO g 2 fShift fModels fItems 1 (lN (eL e9)) (lN (eR e9)) (caI (eC e9)) (nI (eP e9)) (nI (eB e9).length) (nI (eB e9).length) fIns fReads fBad fIR fAsk fBAsk fCode fRL fRR fX fWrites 0)), ((g 6), Sum.inl (cI, 9000, Sum.inl fG)), ((g 7), Sum.inl (cI, 9000, Sum.inl vOut))] := hD
              refine lv_iconst (v := 0) hx hb d_M_end_133 (by decide) ?_
              refine lv_istore_n (lv' := [(1, Value.int 0), (0, Value.ref o)]) hx hb d_M_end_134 rfl hl (by decide) rfl (fun ls hl => ?_)
              have J_135 : ∀ (n9_135 : Nat) (kk : Nat) (fO : Nat → Int32) (hn9_135 : (eB e9).length - kk = n9_135) (hkk : kk ≤ (eB e9).length) (hc : ∀ i, i < kk → fO i = fG i) (H : Heap) (locs : List Loc) (ls : Array Slot), va_P (dC, dI) vwCl [(o, Sum.inr (9, mO g 2 fShift fModels fItems 1 (lN (eL e9)) (lN (eR e9)) (caI (eC e9)) (nI (eP e9)) (nI (eB e9).length) (nI (eB e9).length) fIns fReads fBad fIR fAsk fBAsk fCode fRL fRR fX fWrites 0)), ((g 6), Sum.inl (cI, 9000, Sum.inl fG)), ((g 7), Sum.inl (cI, 9000, Sum.inl fO))] H → va_D A [(o, Sum.inr (9, mO g 2 fShift fModels fItems 1 (lN (eL e9)) (lN (eR e9)) (caI (eC e9)) (nI (eP e9)) (nI (eB e9).length) (nI (eB e9).length) fIns fReads fBad fIR fAsk fBAsk fCode fRL fRR fX fWrites 0)), ((g 6), Sum.inl (cI, 9000, Sum.inl fG)), ((g 7), Sum.inl (cI, 9000, Sum.inl fO))] → va_S A s.heap H locs → lv_has ls 2 [(1, Value.int (nI kk)), (0, Value.ref o)] → W p l e R s m args below meth c H locs 0 0 Q (F0 m 135 ls []) := by
                intro n9_135
                induction n9_135 using Nat.strongRecOn with
                | ind n9_135 ih9_135 =>
                  intro kk fO hn9_135 hkk hc H locs ls hP hD hS hl
                  refine lv_iload_n hx hb d_M_end_135 rfl (lv_at hl 0 rfl) ?_
                  refine lv_aload_n hx hb d_M_end_136 rfl (lv_at hl 1 rfl) ?_
                  refine va_get (D := (dC, dI)) (ci := 9) (v := .int (nI (eB e9).length)) (C := "RangeCodersModel") (T := T_M) (N := 35) hx hb hg in_M hown hK hP 0 rfl rfl 16 (by decide) (hg _ k968) (fun _ h9 => h9) rfl d_M_end_137 ?_
                  refine lv_icmp_ge (tgt := 161) hx hb d_M_end_140 (by decide) (fun c_5 => ?_) (fun c_5 => ?_)
                  · have hkn : kk = (eB e9).length := by have := (nI_cmp (a := (eB e9).length) (b := kk) (by omega) (by omega)).mp c_5; omega
                    subst hkn
                    refine lv_aload_n hx hb d_M_end_161 rfl (lv_at hl 1 rfl) ?_
                    refine va_get (D := (dC, dI)) (ci := 9) (v := .int (nI (eB e9).length)) (C := "RangeCodersModel") (T := T_M) (N := 35) hx hb hg in_M hown hK hP 0 rfl rfl 18 (by decide) (hg _ k970) (fun _ h9 => h9) rfl d_M_end_162 ?_
                    exact my_iret (v := nI (eB e9).length) hx hb hr (rfl) hlocks hQ hK hS (Nat.le_refl _) (Nat.le_refl _) (fG, fO, lN (eL e9), lN (eR e9), caI (eC e9), nI (eP e9), nI (eB e9).length, nI (eB e9).length) (⟨by rw [hB9], by rw [hB9], by rw [hB9]; exact gIs_cp hG9 hc⟩) (hP.sub [0, 1, 2] rfl) (hD.sub [0, 1, 2] (by decide +kernel) rfl) d_M_end_165
                  · have hkl : kk < (eB e9).length := by
                      rcases Nat.lt_or_ge kk (eB e9).length with z | z
                      · exact z
                      · exact absurd (nI_le z (by omega)) c_5
                    refine lv_aload_n hx hb d_M_end_143 rfl (lv_at hl 1 rfl) ?_
                    refine va_get (D := (dC, dI)) (ci := 9) (v := .ref (g 7)) (C := "RangeCodersModel") (T := T_M) (N := 35) hx hb hg in_M hown hK hP 0 rfl rfl 17 (by decide) (hg _ k969) (fun _ h9 => h9) rfl d_M_end_144 ?_
                    refine lv_iload_n hx hb d_M_end_147 rfl (lv_at hl 0 rfl) ?_
                    refine lv_aload_n hx hb d_M_end_148 rfl (lv_at hl 1 rfl) ?_
                    refine va_get (D := (dC, dI)) (ci := 9) (v := .ref (g 6)) (C := "RangeCodersModel") (T := T_M) (N := 35) hx hb hg in_M hown hK hP 0 rfl rfl 15 (by decide) (hg _ k967) (fun _ h9 => h9) rfl d_M_end_149 ?_
                    refine lv_iload_n hx hb d_M_end_152 rfl (lv_at hl 0 rfl) ?_
                    refine va_iald hx hb hK hP 1 0 rfl rfl (vp_in_nI (by omega) (by decide)) d_M_end_153 ?_
                    refine lv_topi (fun v_6 ev_6 => ?_)
                    refine va_iast hx hb hK hP hD hS 2 0 rfl rfl (vp_in_nI (by omega) (by decide)) d_M_end_154 (fun H locs hP hD hS => ?_)
                    have hP : va_P (dC, dI) vwCl [(o, Sum.inr (9, mO g 2 fShift fModels fItems 1 (lN (eL e9)) (lN (eR e9)) (caI (eC e9)) (nI (eP e9)) (nI (eB e9).length) (nI (eB e9).length) fIns fReads fBad fIR fAsk fBAsk fCode fRL fRR fX fWrites 0)), ((g 6), Sum.inl (cI, 9000, Sum.inl fG)), ((g 7), Sum.inl (cI, 9000, Sum.inl (upd fO (nI kk).toNatClampNeg v_6)))] H := hP
                    have hD : va_D A [(o, Sum.inr (9, mO g 2 fShift fModels fItems 1 (lN (eL e9)) (lN (eR e9)) (caI (eC e9)) (nI (eP e9)) (nI (eB e9).length) (nI (eB e9).length) fIns fReads fBad fIR fAsk fBAsk fCode fRL fRR fX fWrites 0)), ((g 6), Sum.inl (cI, 9000, Sum.inl fG)), ((g 7), Sum.inl (cI, 9000, Sum.inl (upd fO (nI kk).toNatClampNeg v_6)))] := hD
                    have hc8 : ∀ i, i < kk + 1 → (upd fO (nI kk).toNatClampNeg v_6) i = fG i := cp_st hc (nI_clamp (by omega)) (by rw [ev_6, nI_clamp (by omega)])
                    obtain ⟨v_7, ev_7⟩ : ∃ y : Int32, y = (nI kk) + (1) := ⟨_, rfl⟩
                    refine lv_iinc (v := v_7) (lv' := [(1, Value.int v_7), (0, Value.ref o)]) hx hb d_M_end_155 hl (k := 0) rfl (by rw [ev_7]; rfl) (by decide) rfl (fun ls hl => ?_)
                    have z9 : v_7 = nI (kk + 1) := by rw [ev_7]; exact nI_1 _
                    subst z9
                    refine lv_goto (tgt := 135) hx hb d_M_end_158 (by decide) ?_
                    exact ih9_135 _ (by first | omega | (omega)) (kk + 1) (upd fO (nI kk).toNatClampNeg v_6) rfl (by omega) (hc8) H locs ls (hP.sub [0, 1, 2] rfl) (hD.sub [0, 1, 2] (by decide +kernel) rfl) hS (lv_sub hl [0, 1] rfl)
              exact J_135 _ (0 : Nat) vOut rfl (Nat.zero_le _) (fun _ z => absurd z (Nat.not_lt_zero _)) H locs ls (hP.sub [0, 1, 2] rfl) (hD.sub [0, 1, 2] (by decide +kernel) rfl) hS (lv_sub hl [0, 1] rfl)
            · have hjl : jj < 5 := by
                rcases Nat.lt_or_ge jj 5 with z | z
                · exact z
                · exact absurd (nI_le (a := 5) z (by omega)) c_4
              have hl9 : (eB e9).length + eP e9 + 1 ≤ 8001 + jj := hN8
              refine lv_aload_n hx hb d_M_end_42 rfl (lv_at hl 1 rfl) ?_
              refine my_cv (wr := [((g 7), Sum.inl (cI, 9000, Sum.inl vOut))]) (va_runV (As := []) (rest := []) ⟨hx, hb, hml, hown, hts⟩ (c_M_shifted l dC dI cI cM cO H.size o g 2 fShift fModels fItems 1 fOuts fIns fReads fBad fIR fAsk fBAsk fCode fRL fRR fX fWrites 0 fG (eR e9) (eL e9) (eC e9) (eP e9) (eB e9) (he9.1) (he9.2) (hG9) (by omega)) (cwV 0 hts (my_gV k1102 k1104 ks31 k12 k1105) rfl rfl rfl (by decide +kernel) ⟨by rw [hR]; exact Nat.le_of_ble_eq_true rfl, by rw [hR]; exact Nat.le_of_ble_eq_true rfl⟩) (my_preV hK hN (hP.sub [0, 1] rfl) (hD.sub [0, 1] (by decide +kernel) rfl) 0 rfl rfl) rfl rfl hl.1 rfl (lv_room (Nat.le_of_ble_eq_true rfl)) d_M_end_43 ⟨by rw [hR]; exact Nat.le_of_ble_eq_true rfl, by rw [hR]; exact Nat.le_of_ble_eq_true rfl⟩) hP hD hS hA [0, 1] [2] rfl rfl (by decide +kernel) (by decide +kernel) (fun u9 H locs hw_43 hP hD hS => ?_)
              obtain ⟨v2_43, rfl⟩ : ∃ z, z = u9 := ⟨_, rfl⟩
              have hw_43 : gIs v2_43 (shB (eL e9) (eC e9) (eP e9) (eB e9)) := hw_43
              have hP : va_P (dC, dI) vwCl [((g 7), Sum.inl (cI, 9000, Sum.inl vOut)), (o, Sum.inr (9, mO g 2 fShift fModels fItems 1 (lN (shL (eL e9))) (lN (eR e9)) (caI (shC (eL e9) (eC e9))) (nI (shP (eL e9) (eP e9))) (nI (shB (eL e9) (eC e9) (eP e9) (eB e9)).length) fOuts fIns fReads fBad fIR fAsk fBAsk fCode fRL fRR fX fWrites 0)), ((g 6), Sum.inl (cI, 9000, Sum.inl v2_43))] H := hP
              have hD : va_D A [((g 7), Sum.inl (cI, 9000, Sum.inl vOut)), (o, Sum.inr (9, mO g 2 fShift fModels fItems 1 (lN (shL (eL e9))) (lN (eR e9)) (caI (shC (eL e9) (eC e9))) (nI (shP (eL e9) (eP e9))) (nI (shB (eL e9) (eC e9) (eP e9) (eB e9)).length) fOuts fIns fReads fBad fIR fAsk fBAsk fCode fRL fRR fX fWrites 0)), ((g 6), Sum.inl (cI, 9000, Sum.inl v2_43))] := hD
              obtain ⟨v_8, ev_8⟩ : ∃ y : Int32, y = (nI jj) + (1) := ⟨_, rfl⟩
              refine lv_iinc (v := v_8) (lv' := [(1, Value.int v_8), (0, Value.ref o)]) hx hb d_M_end_46 hl (k := 0) rfl (by rw [ev_8]; rfl) (by decide) rfl (fun ls hl => ?_)
              have z9 : v_8 = nI (jj + 1) := by rw [ev_8]; exact nI_1 _
              subst z9
              refine lv_goto (tgt := 37) hx hb d_M_end_49 (by decide) ?_
              exact ih9_37 _ (by first | omega | (omega)) (jj + 1) (shS e9) v2_43 rfl (by omega) (by rw [hE9, show 5 - jj = (5 - (jj + 1)) + 1 by omega]; rfl) (eOk_sh he9) (hw_43) (Nat.le_trans (eN_sh e9) (by omega)) H locs ls (hP.sub [1, 2, 0] rfl) (hD.sub [1, 2, 0] (by decide +kernel) rfl) hS (lv_sub hl [0, 1] rfl)
        exact J_37 _ (0 : Nat) (Rg, L, ca, Pn, bs) vGoing rfl (by decide) (rfl) (hE) (hG) (show bs.length + Pn + 1 ≤ 8001 + 0 by omega) H locs ls (hP.sub [0, 1, 2] rfl) (hD.sub [0, 1, 2] (by decide +kernel) rfl) hS (lv_sub hl [0, 1] rfl)
  · exact absurd (by decide) c_1
set_option maxHeartbeats 2000000 in
set_option maxRecDepth 100000 in
theorem m_endA (l : Launch) (dC : Nat → ClassId) (dI : Nat → Nat → Nat) (cI cM cO : ClassId) (sz : Nat) (o : Nat) (g : Nat → Nat) (fForm : Int32) (fShift : Int32) (fModels : Int32) (fItems : Int32) (fEnded : Int32) (fLow : Int64) (fRange : Int64) (fCache : Int32) (fPend : Int32) (fGoes : Int32) (fOuts : Int32) (fIns : Int32) (fReads : Int32) (fBad : Int32) (fIR : Int32) (fAsk : Int32) (fBAsk : Int32) (fCode : Int64) (fRL : Int64) (fRR : Int64) (fX : Int64) (fWrites : Int32) (fThrown : Int32) (hen : ¬ fEnded = 0) : MetI l y_M_end (Cond.code y_M_end prog_14_method_31_code 2 (some .int) :: gw) ({ frames := 0, cells := 0, slots := 0, locals := 0 } : Room) (dC, dI) vwCl (kT cI cM cO) [Value.ref o] [(o, Sum.inr (9, mO g fForm fShift fModels fItems fEnded fLow fRange fCache fPend fGoes fOuts fIns fReads fBad fIR fAsk fBAsk fCode fRL fRR fX fWrites fThrown))] sz (fun (r : Int32) (u : Unit) => r = -3) (fun (u : Unit) => [(o, Sum.inr (9, mO g fForm fShift fModels fItems fEnded fLow fRange fCache fPend fGoes fOuts fIns fReads fBad fIR fAsk fBAsk fCode fRL fRR fX fWrites 0))]) 0 0 := by
  refine my_ofI (cc := prog_14_method_31_code) (n := 2) (ret := (some .int)) (by decide) rfl (Nat.le_of_ble_eq_true rfl) ?_
  intro p e s m args below meth c R Q A ls H locs hx hb hr hts hown hlocks hml hnm hR hQ hA hl hP hK hN hD hS
  have hg : ∀ w ∈ gw, w.before args s = true := fun w h => hts w (List.mem_cons_of_mem _ h)
  have hown : s.vm.findClass "RangeCodersModel" = some m.cls := hown
  have hl : lv_has ls 2 [(0, Value.ref o)] := hl
  refine lv_aload_n hx hb d_M_end_0 rfl (lv_at hl 0 rfl) ?_
  refine lv_iconst (v := 0) hx hb d_M_end_1 (by decide) ?_
  refine va_put (D := (dC, dI)) (ci := 9) (v := .int 0) (ty := .int) (C := "RangeCodersModel") (T := T_M) (N := 35) hx hb hg in_M t_M o_M n_M hown hK hP hD hS 0 rfl rfl 34 (by decide) (hg _ k986) (fun _ h9 => h9) rfl (by decide +kernel) rfl rfl (Nat.le_of_ble_eq_true rfl) d_M_end_2 (fun H locs hP hD hS => ?_)
  have hP : va_P (dC, dI) vwCl [(o, Sum.inr (9, mO g fForm fShift fModels fItems fEnded fLow fRange fCache fPend fGoes fOuts fIns fReads fBad fIR fAsk fBAsk fCode fRL fRR fX fWrites 0))] H := hP
  have hD : va_D A [(o, Sum.inr (9, mO g fForm fShift fModels fItems fEnded fLow fRange fCache fPend fGoes fOuts fIns fReads fBad fIR fAsk fBAsk fCode fRL fRR fX fWrites 0))] := hD
  refine lv_aload_n hx hb d_M_end_5 rfl (lv_at hl 0 rfl) ?_
  refine va_get (D := (dC, dI)) (ci := 9) (v := .int fEnded) (C := "RangeCodersModel") (T := T_M) (N := 35) hx hb hg in_M hown hK hP 0 rfl rfl 10 (by decide) (hg _ k962) (fun _ h9 => h9) rfl d_M_end_6 ?_
  refine lv_if_eq (tgt := 15) hx hb d_M_end_9 (by decide) (fun c_1 => ?_) (fun c_1 => ?_)
  · exact absurd c_1 hen
  · refine lv_bipush (v := (-3)) hx hb d_M_end_12 (by decide) ?_
    exact my_iret (v := (-3)) hx hb hr (rfl) hlocks hQ hK hS (Nat.le_refl _) (Nat.le_refl _) () (rfl) (hP.sub [0] rfl) (hD.sub [0] (by decide +kernel) rfl) d_M_end_14
set_option maxHeartbeats 2000000 in
set_option maxRecDepth 100000 in
theorem m_end1B (l : Launch) (dC : Nat → ClassId) (dI : Nat → Nat → Nat) (cI cM cO : ClassId) (sz : Nat) (o : Nat) (g : Nat → Nat) (fShift : Int32) (fModels : Int32) (fItems : Int32) (fRange : Int64) (fCache : Int32) (fPend : Int32) (fOuts : Int32) (fIns : Int32) (fReads : Int32) (fBad : Int32) (fIR : Int32) (fAsk : Int32) (fBAsk : Int32) (fCode : Int64) (fRL : Int64) (fRR : Int64) (fX : Int64) (fWrites : Int32) (fThrown : Int32) (vGoing : Nat → Int32) (vOut : Nat → Int32) (L : Nat) (bs : List Nat) (hL : L < 4294967296) (hG : gIs vGoing bs) (hN9 : bs.length ≤ 8000) : MetI l y_M_end (Cond.code y_M_end prog_14_method_31_code 2 (some .int) :: gw) ({ frames := 1, cells := 0, slots := 0, locals := 21 } : Room) (dC, dI) vwCl (kT cI cM cO) [Value.ref o] [(o, Sum.inr (9, mO g 1 fShift fModels fItems 0 (lN L) fRange fCache fPend (nI bs.length) fOuts fIns fReads fBad fIR fAsk fBAsk fCode fRL fRR fX fWrites fThrown)), ((g 6), Sum.inl (cI, 9000, Sum.inl vGoing)), ((g 7), Sum.inl (cI, 9000, Sum.inl vOut))] sz (fun (r : Int32) (u : (Nat → Int32) × (Nat → Int32) × Int64 × Int32 × Int32) => r = nI ((tpK 4 (L, bs)).2).length ∧ u.2.2.2.2 = nI ((tpK 4 (L, bs)).2).length ∧ gIs u.2.1 ((tpK 4 (L, bs)).2)) (fun (u : (Nat → Int32) × (Nat → Int32) × Int64 × Int32 × Int32) => [(o, Sum.inr (9, mO g 1 fShift fModels fItems 1 u.2.2.1 fRange fCache fPend u.2.2.2.1 u.2.2.2.2 fIns fReads fBad fIR fAsk fBAsk fCode fRL fRR fX fWrites 0)), ((g 6), Sum.inl (cI, 9000, Sum.inl u.1)), ((g 7), Sum.inl (cI, 9000, Sum.inl u.2.1))]) 0 0 := by
  refine my_ofI (cc := prog_14_method_31_code) (n := 2) (ret := (some .int)) (by decide) rfl (Nat.le_of_ble_eq_true rfl) ?_
  intro p e s m args below meth c R Q A ls H locs hx hb hr hts hown hlocks hml hnm hR hQ hA hl hP hK hN hD hS
  have hg : ∀ w ∈ gw, w.before args s = true := fun w h => hts w (List.mem_cons_of_mem _ h)
  have hown : s.vm.findClass "RangeCodersModel" = some m.cls := hown
  have hl : lv_has ls 2 [(0, Value.ref o)] := hl
  refine lv_aload_n hx hb d_M_end_0 rfl (lv_at hl 0 rfl) ?_
  refine lv_iconst (v := 0) hx hb d_M_end_1 (by decide) ?_
  refine va_put (D := (dC, dI)) (ci := 9) (v := .int 0) (ty := .int) (C := "RangeCodersModel") (T := T_M) (N := 35) hx hb hg in_M t_M o_M n_M hown hK hP hD hS 0 rfl rfl 34 (by decide) (hg _ k986) (fun _ h9 => h9) rfl (by decide +kernel) rfl rfl (Nat.le_of_ble_eq_true rfl) d_M_end_2 (fun H locs hP hD hS => ?_)
  have hP : va_P (dC, dI) vwCl [(o, Sum.inr (9, mO g 1 fShift fModels fItems 0 (lN L) fRange fCache fPend (nI bs.length) fOuts fIns fReads fBad fIR fAsk fBAsk fCode fRL fRR fX fWrites 0)), ((g 6), Sum.inl (cI, 9000, Sum.inl vGoing)), ((g 7), Sum.inl (cI, 9000, Sum.inl vOut))] H := hP
  have hD : va_D A [(o, Sum.inr (9, mO g 1 fShift fModels fItems 0 (lN L) fRange fCache fPend (nI bs.length) fOuts fIns fReads fBad fIR fAsk fBAsk fCode fRL fRR fX fWrites 0)), ((g 6), Sum.inl (cI, 9000, Sum.inl vGoing)), ((g 7), Sum.inl (cI, 9000, Sum.inl vOut))] := hD
  refine lv_aload_n hx hb d_M_end_5 rfl (lv_at hl 0 rfl) ?_
  refine va_get (D := (dC, dI)) (ci := 9) (v := .int 0) (C := "RangeCodersModel") (T := T_M) (N := 35) hx hb hg in_M hown hK hP 0 rfl rfl 10 (by decide) (hg _ k962) (fun _ h9 => h9) rfl d_M_end_6 ?_
  refine lv_if_eq (tgt := 15) hx hb d_M_end_9 (by decide) (fun c_1 => ?_) (fun c_1 => ?_)
  · refine lv_aload_n hx hb d_M_end_15 rfl (lv_at hl 0 rfl) ?_
    refine lv_iconst (v := 1) hx hb d_M_end_16 (by decide) ?_
    refine va_put (D := (dC, dI)) (ci := 9) (v := .int 1) (ty := .boolean) (C := "RangeCodersModel") (T := T_M) (N := 35) hx hb hg in_M t_M o_M n_M hown hK hP hD hS 0 rfl rfl 10 (by decide) (hg _ k962) (fun _ h9 => h9) rfl (by decide +kernel) rfl rfl (Nat.le_of_ble_eq_true rfl) d_M_end_17 (fun H locs hP hD hS => ?_)
    have hP : va_P (dC, dI) vwCl [(o, Sum.inr (9, mO g 1 fShift fModels fItems 1 (lN L) fRange fCache fPend (nI bs.length) fOuts fIns fReads fBad fIR fAsk fBAsk fCode fRL fRR fX fWrites 0)), ((g 6), Sum.inl (cI, 9000, Sum.inl vGoing)), ((g 7), Sum.inl (cI, 9000, Sum.inl vOut))] H := hP
    have hD : va_D A [(o, Sum.inr (9, mO g 1 fShift fModels fItems 1 (lN L) fRange fCache fPend (nI bs.length) fOuts fIns fReads fBad fIR fAsk fBAsk fCode fRL fRR fX fWrites 0)), ((g 6), Sum.inl (cI, 9000, Sum.inl vGoing)), ((g 7), Sum.inl (cI, 9000, Sum.inl vOut))] := hD
    refine lv_aload_n hx hb d_M_end_20 rfl (lv_at hl 0 rfl) ?_
    refine va_get (D := (dC, dI)) (ci := 9) (v := .int 1) (C := "RangeCodersModel") (T := T_M) (N := 35) hx hb hg in_M hown hK hP 0 rfl rfl 0 (by decide) (hg _ k952) (fun _ h9 => h9) rfl d_M_end_21 ?_
    refine lv_if_eq (tgt := 35) hx hb d_M_end_24 (by decide) (fun c_2 => ?_) (fun c_2 => ?_)
    · exact absurd c_2 (by decide)
    · refine lv_aload_n hx hb d_M_end_27 rfl (lv_at hl 0 rfl) ?_
      refine va_get (D := (dC, dI)) (ci := 9) (v := .int 1) (C := "RangeCodersModel") (T := T_M) (N := 35) hx hb hg in_M hown hK hP 0 rfl rfl 0 (by decide) (hg _ k952) (fun _ h9 => h9) rfl d_M_end_28 ?_
      refine lv_iconst (v := 2) hx hb d_M_end_31 (by decide) ?_
      refine lv_icmp_ne (tgt := 55) hx hb d_M_end_32 (by decide) (fun c_3 => ?_) (fun c_3 => ?_)
      · refine lv_aload_n hx hb d_M_end_55 rfl (lv_at hl 0 rfl) ?_
        refine va_get (D := (dC, dI)) (ci := 9) (v := .int 1) (C := "RangeCodersModel") (T := T_M) (N := 35) hx hb hg in_M hown hK hP 0 rfl rfl 0 (by decide) (hg _ k952) (fun _ h9 => h9) rfl d_M_end_56 ?_
        refine lv_iconst (v := 1) hx hb d_M_end_59 (by decide) ?_
        refine lv_icmp_ne (tgt := 106) hx hb d_M_end_60 (by decide) (fun c_4 => ?_) (fun c_4 => ?_)
        · exact absurd rfl c_4
        · refine lv_iconst (v := 0) hx hb d_M_end_63 (by decide) ?_
          refine lv_istore_n (lv' := [(1, Value.int 0), (0, Value.ref o)]) hx hb d_M_end_64 rfl hl (by decide) rfl (fun ls hl => ?_)
          have J_65 : ∀ (n9_65 : Nat) (jj : Nat) (e9 : Nat × List Nat) (fG : Nat → Int32) (hn9_65 : 4 - jj = n9_65) (hjj : jj ≤ 4) (hE9 : tpK 4 (L, bs) = tpK (4 - jj) e9) (hL9 : e9.1 < 4294967296) (hG9 : gIs fG e9.2) (hN8 : e9.2.length ≤ 8000 + jj) (H : Heap) (locs : List Loc) (ls : Array Slot), va_P (dC, dI) vwCl [(o, Sum.inr (9, mO g 1 fShift fModels fItems 1 (lN e9.1) fRange fCache fPend (nI e9.2.length) fOuts fIns fReads fBad fIR fAsk fBAsk fCode fRL fRR fX fWrites 0)), ((g 6), Sum.inl (cI, 9000, Sum.inl fG)), ((g 7), Sum.inl (cI, 9000, Sum.inl vOut))] H → va_D A [(o, Sum.inr (9, mO g 1 fShift fModels fItems 1 (lN e9.1) fRange fCache fPend (nI e9.2.length) fOuts fIns fReads fBad fIR fAsk fBAsk fCode fRL fRR fX fWrites 0)), ((g 6), Sum.inl (cI, 9000, Sum.inl fG)), ((g 7), Sum.inl (cI, 9000, Sum.inl vOut))] → va_S A s.heap H locs → lv_has ls 2 [(1, Value.int (nI jj)), (0, Value.ref o)] → W p l e R s m args below meth c H locs 0 0 Q (F0 m 65 ls []) := by
            intro n9_65
            induction n9_65 using Nat.strongRecOn with
            | ind n9_65 ih9_65 =>
              intro jj e9 fG hn9_65 hjj hE9 hL9 hG9 hN8 H locs ls hP hD hS hl
              refine lv_iload_n hx hb d_M_end_65 rfl (lv_at hl 0 rfl) ?_
              refine lv_iconst (v := 4) hx hb d_M_end_66 (by decide) ?_
              refine lv_icmp_ge (tgt := 103) hx hb d_M_end_67 (by decide) (fun c_5 => ?_) (fun c_5 => ?_)
              · refine lv_goto (tgt := 125) hx hb d_M_end_103 (by decide) ?_
                have hj5 : jj = 4 := by have := nI_ge' (n := 4) (by omega) (by decide) c_5; omega
                have hB9 : (tpK 4 (L, bs)).2 = e9.2 := by rw [hE9, hj5]; rfl
                refine lv_aload_n hx hb d_M_end_125 rfl (lv_at hl 1 rfl) ?_
                refine lv_aload_n hx hb d_M_end_126 rfl (lv_at hl 1 rfl) ?_
                refine va_get (D := (dC, dI)) (ci := 9) (v := .int (nI e9.2.length)) (C := "RangeCodersModel") (T := T_M) (N := 35) hx hb hg in_M hown hK hP 0 rfl rfl 16 (by decide) (hg _ k968) (fun _ h9 => h9) rfl d_M_end_127 ?_
                refine va_put (D := (dC, dI)) (ci := 9) (v := .int (nI e9.2.length)) (ty := .int) (C := "RangeCodersModel") (T := T_M) (N := 35) hx hb hg in_M t_M o_M n_M hown hK hP hD hS 0 rfl rfl 18 (by decide) (hg _ k970) (fun _ h9 => h9) rfl (by decide +kernel) rfl rfl (Nat.le_of_ble_eq_true rfl) d_M_end_130 (fun H locs hP hD hS => ?_)
                have hP : va_P (dC, dI) vwCl [(o, Sum.inr (9, mO g 1 fShift fModels fItems 1 (lN e9.1) fRange fCache fPend (nI e9.2.length) (nI e9.2.length) fIns fReads fBad fIR fAsk fBAsk fCode fRL fRR fX fWrites 0)), ((g 6), Sum.inl (cI, 9000, Sum.inl fG)), ((g 7), Sum.inl (cI, 9000, Sum.inl vOut))] H := hP
                have hD : va_D A [(o, Sum.inr (9, mO g 1 fShift fModels fItems 1 (lN e9.1) fRange fCache fPend (nI e9.2.length) (nI e9.2.length) fIns fReads fBad fIR fAsk fBAsk fCode fRL fRR fX fWrites 0)), ((g 6), Sum.inl (cI, 9000, Sum.inl fG)), ((g 7), Sum.inl (cI, 9000, Sum.inl vOut))] := hD
                refine lv_iconst (v := 0) hx hb d_M_end_133 (by decide) ?_
                refine lv_istore_n (lv' := [(1, Value.int 0), (0, Value.ref o)]) hx hb d_M_end_134 rfl hl (by decide) rfl (fun ls hl => ?_)
                have J_135 : ∀ (n9_135 : Nat) (kk : Nat) (fO : Nat → Int32) (hn9_135 : (e9.2).length - kk = n9_135) (hkk : kk ≤ (e9.2).length) (hc : ∀ i, i < kk → fO i = fG i) (H : Heap) (locs : List Loc) (ls : Array Slot), va_P (dC, dI) vwCl [(o, Sum.inr (9, mO g 1 fShift fModels fItems 1 (lN e9.1) fRange fCache fPend (nI e9.2.length) (nI e9.2.length) fIns fReads fBad fIR fAsk fBAsk fCode fRL fRR fX fWrites 0)), ((g 6), Sum.inl (cI, 9000, Sum.inl fG)), ((g 7), Sum.inl (cI, 9000, Sum.inl fO))] H → va_D A [(o, Sum.inr (9, mO g 1 fShift fModels fItems 1 (lN e9.1) fRange fCache fPend (nI e9.2.length) (nI e9.2.length) fIns fReads fBad fIR fAsk fBAsk fCode fRL fRR fX fWrites 0)), ((g 6), Sum.inl (cI, 9000, Sum.inl fG)), ((g 7), Sum.inl (cI, 9000, Sum.inl fO))] → va_S A s.heap H locs → lv_has ls 2 [(1, Value.int (nI kk)), (0, Value.ref o)] → W p l e R s m args below meth c H locs 0 0 Q (F0 m 135 ls []) := by
                  intro n9_135
                  induction n9_135 using Nat.strongRecOn with
                  | ind n9_135 ih9_135 =>
                    intro kk fO hn9_135 hkk hc H locs ls hP hD hS hl
                    refine lv_iload_n hx hb d_M_end_135 rfl (lv_at hl 0 rfl) ?_
                    refine lv_aload_n hx hb d_M_end_136 rfl (lv_at hl 1 rfl) ?_
                    refine va_get (D := (dC, dI)) (ci := 9) (v := .int (nI e9.2.length)) (C := "RangeCodersModel") (T := T_M) (N := 35) hx hb hg in_M hown hK hP 0 rfl rfl 16 (by decide) (hg _ k968) (fun _ h9 => h9) rfl d_M_end_137 ?_
                    refine lv_icmp_ge (tgt := 161) hx hb d_M_end_140 (by decide) (fun c_6 => ?_) (fun c_6 => ?_)
                    · have hkn : kk = (e9.2).length := by have := (nI_cmp (a := (e9.2).length) (b := kk) (by omega) (by omega)).mp c_6; omega
                      subst hkn
                      refine lv_aload_n hx hb d_M_end_161 rfl (lv_at hl 1 rfl) ?_
                      refine va_get (D := (dC, dI)) (ci := 9) (v := .int (nI e9.2.length)) (C := "RangeCodersModel") (T := T_M) (N := 35) hx hb hg in_M hown hK hP 0 rfl rfl 18 (by decide) (hg _ k970) (fun _ h9 => h9) rfl d_M_end_162 ?_
                      exact my_iret (v := nI e9.2.length) hx hb hr (rfl) hlocks hQ hK hS (Nat.le_refl _) (Nat.le_refl _) (fG, fO, lN e9.1, nI e9.2.length, nI e9.2.length) (⟨by rw [hB9], by rw [hB9], by rw [hB9]; exact gIs_cp hG9 hc⟩) (hP.sub [0, 1, 2] rfl) (hD.sub [0, 1, 2] (by decide +kernel) rfl) d_M_end_165
                    · have hkl : kk < (e9.2).length := by
                        rcases Nat.lt_or_ge kk (e9.2).length with z | z
                        · exact z
                        · exact absurd (nI_le z (by omega)) c_6
                      refine lv_aload_n hx hb d_M_end_143 rfl (lv_at hl 1 rfl) ?_
                      refine va_get (D := (dC, dI)) (ci := 9) (v := .ref (g 7)) (C := "RangeCodersModel") (T := T_M) (N := 35) hx hb hg in_M hown hK hP 0 rfl rfl 17 (by decide) (hg _ k969) (fun _ h9 => h9) rfl d_M_end_144 ?_
                      refine lv_iload_n hx hb d_M_end_147 rfl (lv_at hl 0 rfl) ?_
                      refine lv_aload_n hx hb d_M_end_148 rfl (lv_at hl 1 rfl) ?_
                      refine va_get (D := (dC, dI)) (ci := 9) (v := .ref (g 6)) (C := "RangeCodersModel") (T := T_M) (N := 35) hx hb hg in_M hown hK hP 0 rfl rfl 15 (by decide) (hg _ k967) (fun _ h9 => h9) rfl d_M_end_149 ?_
                      refine lv_iload_n hx hb d_M_end_152 rfl (lv_at hl 0 rfl) ?_
                      refine va_iald hx hb hK hP 1 0 rfl rfl (vp_in_nI (by omega) (by decide)) d_M_end_153 ?_
                      refine lv_topi (fun v_7 ev_7 => ?_)
                      refine va_iast hx hb hK hP hD hS 2 0 rfl rfl (vp_in_nI (by omega) (by decide)) d_M_end_154 (fun H locs hP hD hS => ?_)
                      have hP : va_P (dC, dI) vwCl [(o, Sum.inr (9, mO g 1 fShift fModels fItems 1 (lN e9.1) fRange fCache fPend (nI e9.2.length) (nI e9.2.length) fIns fReads fBad fIR fAsk fBAsk fCode fRL fRR fX fWrites 0)), ((g 6), Sum.inl (cI, 9000, Sum.inl fG)), ((g 7), Sum.inl (cI, 9000, Sum.inl (upd fO (nI kk).toNatClampNeg v_7)))] H := hP
                      have hD : va_D A [(o, Sum.inr (9, mO g 1 fShift fModels fItems 1 (lN e9.1) fRange fCache fPend (nI e9.2.length) (nI e9.2.length) fIns fReads fBad fIR fAsk fBAsk fCode fRL fRR fX fWrites 0)), ((g 6), Sum.inl (cI, 9000, Sum.inl fG)), ((g 7), Sum.inl (cI, 9000, Sum.inl (upd fO (nI kk).toNatClampNeg v_7)))] := hD
                      have hc8 : ∀ i, i < kk + 1 → (upd fO (nI kk).toNatClampNeg v_7) i = fG i := cp_st hc (nI_clamp (by omega)) (by rw [ev_7, nI_clamp (by omega)])
                      obtain ⟨v_8, ev_8⟩ : ∃ y : Int32, y = (nI kk) + (1) := ⟨_, rfl⟩
                      refine lv_iinc (v := v_8) (lv' := [(1, Value.int v_8), (0, Value.ref o)]) hx hb d_M_end_155 hl (k := 0) rfl (by rw [ev_8]; rfl) (by decide) rfl (fun ls hl => ?_)
                      have z9 : v_8 = nI (kk + 1) := by rw [ev_8]; exact nI_1 _
                      subst z9
                      refine lv_goto (tgt := 135) hx hb d_M_end_158 (by decide) ?_
                      exact ih9_135 _ (by first | omega | (omega)) (kk + 1) (upd fO (nI kk).toNatClampNeg v_7) rfl (by omega) (hc8) H locs ls (hP.sub [0, 1, 2] rfl) (hD.sub [0, 1, 2] (by decide +kernel) rfl) hS (lv_sub hl [0, 1] rfl)
                exact J_135 _ (0 : Nat) vOut rfl (Nat.zero_le _) (fun _ z => absurd z (Nat.not_lt_zero _)) H locs ls (hP.sub [0, 1, 2] rfl) (hD.sub [0, 1, 2] (by decide +kernel) rfl) hS (lv_sub hl [0, 1] rfl)
              · have hjl : jj < 4 := by
                  rcases Nat.lt_or_ge jj 4 with z | z
                  · exact z
                  · exact absurd (nI_le (a := 4) z (by omega)) c_5
                refine lv_aload_n hx hb d_M_end_70 rfl (lv_at hl 1 rfl) ?_
                refine lv_aload_n hx hb d_M_end_71 rfl (lv_at hl 1 rfl) ?_
                refine va_get (D := (dC, dI)) (ci := 9) (v := .long (lN e9.1)) (C := "RangeCodersModel") (T := T_M) (N := 35) hx hb hg in_M hown hK hP 0 rfl rfl 11 (by decide) (hg _ k963) (fun _ h9 => h9) rfl d_M_end_72 ?_
                refine lv_bipush (v := 24) hx hb d_M_end_75 (by decide) ?_
                refine lv_lshr hx hb d_M_end_77 rfl ?_
                refine lv_topl (fun v_9 ev_9 => ?_)
                have z9 : v_9 = lN (e9.1 / 16777216) := by rw [ev_9]; exact L_shr24 (by omega)
                subst z9
                refine lv_l2i hx hb d_M_end_78 rfl ?_
                refine lv_topi (fun v_10 ev_10 => ?_)
                have z9 : v_10 = nI (e9.1 / 16777216) := by rw [ev_10]; exact lN_i _
                subst z9
                refine my_cv (wr := [((g 7), Sum.inl (cI, 9000, Sum.inl vOut))]) (va_runV (As := [Value.int (nI (e9.1 / 16777216))]) (rest := []) ⟨hx, hb, hml, hown, hts⟩ (c_M_write l dC dI cI cM cO H.size o g 1 fShift fModels fItems 1 (lN e9.1) fRange fCache fPend fOuts fIns fReads fBad fIR fAsk fBAsk fCode fRL fRR fX fWrites 0 fG e9.2 (e9.1 / 16777216) (hG9) (by omega) (by omega)) (cwV 1 hts (my_gV k1107 k1109 ks32 k12 k1110) rfl rfl rfl (by decide +kernel) ⟨by rw [hR]; exact Nat.le_of_ble_eq_true rfl, by rw [hR]; exact Nat.le_of_ble_eq_true rfl⟩) (my_preV hK hN (hP.sub [0, 1] rfl) (hD.sub [0, 1] (by decide +kernel) rfl) 0 rfl rfl) rfl rfl hl.1 rfl (lv_room (Nat.le_of_ble_eq_true rfl)) d_M_end_79 ⟨by rw [hR]; exact Nat.le_of_ble_eq_true rfl, by rw [hR]; exact Nat.le_of_ble_eq_true rfl⟩) hP hD hS hA [0, 1] [2] rfl rfl (by decide +kernel) (by decide +kernel) (fun u9 H locs hw_79 hP hD hS => ?_)
                obtain ⟨v2_79, rfl⟩ : ∃ z, z = u9 := ⟨_, rfl⟩
                have hw_79 : gIs v2_79 (e9.2 ++ [(e9.1 / 16777216) % 256]) := hw_79
                have hP : va_P (dC, dI) vwCl [((g 7), Sum.inl (cI, 9000, Sum.inl vOut)), (o, Sum.inr (9, mO g 1 fShift fModels fItems 1 (lN e9.1) fRange fCache fPend (nI (e9.2 ++ [(e9.1 / 16777216) % 256]).length) fOuts fIns fReads fBad fIR fAsk fBAsk fCode fRL fRR fX fWrites 0)), ((g 6), Sum.inl (cI, 9000, Sum.inl v2_79))] H := hP
                have hD : va_D A [((g 7), Sum.inl (cI, 9000, Sum.inl vOut)), (o, Sum.inr (9, mO g 1 fShift fModels fItems 1 (lN e9.1) fRange fCache fPend (nI (e9.2 ++ [(e9.1 / 16777216) % 256]).length) fOuts fIns fReads fBad fIR fAsk fBAsk fCode fRL fRR fX fWrites 0)), ((g 6), Sum.inl (cI, 9000, Sum.inl v2_79))] := hD
                refine lv_aload_n hx hb d_M_end_82 rfl (lv_at hl 1 rfl) ?_
                refine lv_aload_n hx hb d_M_end_83 rfl (lv_at hl 1 rfl) ?_
                refine va_get (D := (dC, dI)) (ci := 9) (v := .long (lN e9.1)) (C := "RangeCodersModel") (T := T_M) (N := 35) hx hb hg in_M hown hK hP 1 rfl rfl 11 (by decide) (hg _ k963) (fun _ h9 => h9) rfl d_M_end_84 ?_
                refine lv_bipush (v := 8) hx hb d_M_end_87 (by decide) ?_
                refine lv_lshl hx hb d_M_end_89 rfl ?_
                refine lv_topl (fun v_11 ev_11 => ?_)
                have z9 : v_11 = lN (e9.1 * 256) := by rw [ev_11]; exact L_shl8 _
                subst z9
                refine lv_ldc2 (v := 4294967295) hx hb hown (hg _ k927) d_M_end_90 ?_
                refine lv_land hx hb d_M_end_93 ?_
                refine lv_topl (fun v_12 ev_12 => ?_)
                have z9 : v_12 = lN (mvL e9.1) := by rw [ev_12]; exact L_and32 (by omega)
                subst z9
                refine va_put (D := (dC, dI)) (ci := 9) (v := .long (lN (mvL e9.1))) (ty := .long) (C := "RangeCodersModel") (T := T_M) (N := 35) hx hb hg in_M t_M o_M n_M hown hK hP hD hS 1 rfl rfl 11 (by decide) (hg _ k963) (fun _ h9 => h9) rfl (by decide +kernel) rfl rfl (Nat.le_of_ble_eq_true rfl) d_M_end_94 (fun H locs hP hD hS => ?_)
                have hP : va_P (dC, dI) vwCl [((g 7), Sum.inl (cI, 9000, Sum.inl vOut)), (o, Sum.inr (9, mO g 1 fShift fModels fItems 1 (lN (mvL e9.1)) fRange fCache fPend (nI (e9.2 ++ [(e9.1 / 16777216) % 256]).length) fOuts fIns fReads fBad fIR fAsk fBAsk fCode fRL fRR fX fWrites 0)), ((g 6), Sum.inl (cI, 9000, Sum.inl v2_79))] H := hP
                have hD : va_D A [((g 7), Sum.inl (cI, 9000, Sum.inl vOut)), (o, Sum.inr (9, mO g 1 fShift fModels fItems 1 (lN (mvL e9.1)) fRange fCache fPend (nI (e9.2 ++ [(e9.1 / 16777216) % 256]).length) fOuts fIns fReads fBad fIR fAsk fBAsk fCode fRL fRR fX fWrites 0)), ((g 6), Sum.inl (cI, 9000, Sum.inl v2_79))] := hD
                obtain ⟨v_13, ev_13⟩ : ∃ y : Int32, y = (nI jj) + (1) := ⟨_, rfl⟩
                refine lv_iinc (v := v_13) (lv' := [(1, Value.int v_13), (0, Value.ref o)]) hx hb d_M_end_97 hl (k := 0) rfl (by rw [ev_13]; rfl) (by decide) rfl (fun ls hl => ?_)
                have z9 : v_13 = nI (jj + 1) := by rw [ev_13]; exact nI_1 _
                subst z9
                refine lv_goto (tgt := 65) hx hb d_M_end_100 (by decide) ?_
                exact ih9_65 _ (by first | omega | (omega)) (jj + 1) (mvL e9.1, e9.2 ++ [e9.1 / 16777216 % 256]) v2_79 rfl (by omega) (by rw [hE9, show 4 - jj = (4 - (jj + 1)) + 1 by omega]; rfl) (Nat.mod_lt _ (by decide)) (hw_79) (by show (e9.2 ++ [_]).length ≤ _; rw [List.length_append, List.length_singleton]; omega) H locs ls (hP.sub [1, 2, 0] rfl) (hD.sub [1, 2, 0] (by decide +kernel) rfl) hS (lv_sub hl [0, 1] rfl)
          exact J_65 _ (0 : Nat) (L, bs) vGoing rfl (by decide) (rfl) (hL) (hG) (by show bs.length ≤ _; omega) H locs ls (hP.sub [0, 1, 2] rfl) (hD.sub [0, 1, 2] (by decide +kernel) rfl) hS (lv_sub hl [0, 1] rfl)
      · exact absurd c_3 (by decide)
  · exact absurd (by decide) c_1
set_option maxHeartbeats 2000000 in
set_option maxRecDepth 100000 in
theorem m_end3B (l : Launch) (dC : Nat → ClassId) (dI : Nat → Nat → Nat) (cI cM cO : ClassId) (sz : Nat) (o : Nat) (g : Nat → Nat) (fShift : Int32) (fModels : Int32) (fLow : Int64) (fRange : Int64) (fCache : Int32) (fPend : Int32) (fOuts : Int32) (fIns : Int32) (fReads : Int32) (fBad : Int32) (fIR : Int32) (fAsk : Int32) (fBAsk : Int32) (fCode : Int64) (fRL : Int64) (fRR : Int64) (fX : Int64) (fWrites : Int32) (fThrown : Int32) (vMany : Nat → Int32) (vCounts : Nat → Int32) (vNow : Nat → Int32) (vIM : Nat → Int32) (vIW : Nat → Int32) (vGoing : Nat → Int32) (vOut : Nat → Int32) (vWr : Nat → Int32) (km : Nat) (N : Nat → Nat) (its : List It) (hmod : fModels = nI km) (hMD : MD km N vMany vCounts) (hki : its.length ≤ 600) (hit : itIs vIM vIW its) (hok : ∀ i, i < its.length → itOk 4096 12 km N vNow (itA its i)) : MetI l y_M_end (Cond.code y_M_end prog_14_method_31_code 2 (some .int) :: gw) ({ frames := 2, cells := 0, slots := 0, locals := 54 } : Room) (dC, dI) vwCl (kT cI cM cO) [Value.ref o] [(o, Sum.inr (9, mO g 3 fShift fModels (nI its.length) 0 fLow fRange fCache fPend 0 fOuts fIns fReads fBad fIR fAsk fBAsk fCode fRL fRR fX fWrites fThrown)), ((g 0), Sum.inl (cI, 8, Sum.inl vMany)), ((g 1), Sum.inl (cI, 512, Sum.inl vCounts)), ((g 2), Sum.inl (cI, 512, Sum.inl vNow)), ((g 4), Sum.inl (cI, 600, Sum.inl vIM)), ((g 5), Sum.inl (cI, 600, Sum.inl vIW)), ((g 6), Sum.inl (cI, 9000, Sum.inl vGoing)), ((g 7), Sum.inl (cI, 9000, Sum.inl vOut)), ((g 11), Sum.inl (cI, 20000, Sum.inl vWr))] sz (fun (r : Int32) (u : (Nat → Int32) × (Nat → Int32) × (Nat → Int32) × Int32 × Int32 × Int32) => r = nI ((e3S (Fvw vNow) its).reverse).length ∧ u.2.2.2.2.1 = nI ((e3S (Fvw vNow) its).reverse).length ∧ gIs u.2.1 ((e3S (Fvw vNow) its).reverse)) (fun (u : (Nat → Int32) × (Nat → Int32) × (Nat → Int32) × Int32 × Int32 × Int32) => [(o, Sum.inr (9, mO g 3 fShift fModels (nI its.length) 1 fLow fRange fCache fPend u.2.2.2.1 u.2.2.2.2.1 fIns fReads fBad fIR fAsk fBAsk fCode fRL fRR fX u.2.2.2.2.2 0)), ((g 0), Sum.inl (cI, 8, Sum.inl vMany)), ((g 1), Sum.inl (cI, 512, Sum.inl vCounts)), ((g 2), Sum.inl (cI, 512, Sum.inl vNow)), ((g 4), Sum.inl (cI, 600, Sum.inl vIM)), ((g 5), Sum.inl (cI, 600, Sum.inl vIW)), ((g 6), Sum.inl (cI, 9000, Sum.inl u.1)), ((g 7), Sum.inl (cI, 9000, Sum.inl u.2.1)), ((g 11), Sum.inl (cI, 20000, Sum.inl u.2.2.1))]) 0 0 := by
  refine my_ofI (cc := prog_14_method_31_code) (n := 2) (ret := (some .int)) (by decide) rfl (Nat.le_of_ble_eq_true rfl) ?_
  intro p e s m args below meth c R Q A ls H locs hx hb hr hts hown hlocks hml hnm hR hQ hA hl hP hK hN hD hS
  have hg : ∀ w ∈ gw, w.before args s = true := fun w h => hts w (List.mem_cons_of_mem _ h)
  have hown : s.vm.findClass "RangeCodersModel" = some m.cls := hown
  have hl : lv_has ls 2 [(0, Value.ref o)] := hl
  refine lv_aload_n hx hb d_M_end_0 rfl (lv_at hl 0 rfl) ?_
  refine lv_iconst (v := 0) hx hb d_M_end_1 (by decide) ?_
  refine va_put (D := (dC, dI)) (ci := 9) (v := .int 0) (ty := .int) (C := "RangeCodersModel") (T := T_M) (N := 35) hx hb hg in_M t_M o_M n_M hown hK hP hD hS 0 rfl rfl 34 (by decide) (hg _ k986) (fun _ h9 => h9) rfl (by decide +kernel) rfl rfl (Nat.le_of_ble_eq_true rfl) d_M_end_2 (fun H locs hP hD hS => ?_)
  have hP : va_P (dC, dI) vwCl [(o, Sum.inr (9, mO g 3 fShift fModels (nI its.length) 0 fLow fRange fCache fPend 0 fOuts fIns fReads fBad fIR fAsk fBAsk fCode fRL fRR fX fWrites 0)), ((g 0), Sum.inl (cI, 8, Sum.inl vMany)), ((g 1), Sum.inl (cI, 512, Sum.inl vCounts)), ((g 2), Sum.inl (cI, 512, Sum.inl vNow)), ((g 4), Sum.inl (cI, 600, Sum.inl vIM)), ((g 5), Sum.inl (cI, 600, Sum.inl vIW)), ((g 6), Sum.inl (cI, 9000, Sum.inl vGoing)), ((g 7), Sum.inl (cI, 9000, Sum.inl vOut)), ((g 11), Sum.inl (cI, 20000, Sum.inl vWr))] H := hP
  have hD : va_D A [(o, Sum.inr (9, mO g 3 fShift fModels (nI its.length) 0 fLow fRange fCache fPend 0 fOuts fIns fReads fBad fIR fAsk fBAsk fCode fRL fRR fX fWrites 0)), ((g 0), Sum.inl (cI, 8, Sum.inl vMany)), ((g 1), Sum.inl (cI, 512, Sum.inl vCounts)), ((g 2), Sum.inl (cI, 512, Sum.inl vNow)), ((g 4), Sum.inl (cI, 600, Sum.inl vIM)), ((g 5), Sum.inl (cI, 600, Sum.inl vIW)), ((g 6), Sum.inl (cI, 9000, Sum.inl vGoing)), ((g 7), Sum.inl (cI, 9000, Sum.inl vOut)), ((g 11), Sum.inl (cI, 20000, Sum.inl vWr))] := hD
  refine lv_aload_n hx hb d_M_end_5 rfl (lv_at hl 0 rfl) ?_
  refine va_get (D := (dC, dI)) (ci := 9) (v := .int 0) (C := "RangeCodersModel") (T := T_M) (N := 35) hx hb hg in_M hown hK hP 0 rfl rfl 10 (by decide) (hg _ k962) (fun _ h9 => h9) rfl d_M_end_6 ?_
  refine lv_if_eq (tgt := 15) hx hb d_M_end_9 (by decide) (fun c_1 => ?_) (fun c_1 => ?_)
  · refine lv_aload_n hx hb d_M_end_15 rfl (lv_at hl 0 rfl) ?_
    refine lv_iconst (v := 1) hx hb d_M_end_16 (by decide) ?_
    refine va_put (D := (dC, dI)) (ci := 9) (v := .int 1) (ty := .boolean) (C := "RangeCodersModel") (T := T_M) (N := 35) hx hb hg in_M t_M o_M n_M hown hK hP hD hS 0 rfl rfl 10 (by decide) (hg _ k962) (fun _ h9 => h9) rfl (by decide +kernel) rfl rfl (Nat.le_of_ble_eq_true rfl) d_M_end_17 (fun H locs hP hD hS => ?_)
    have hP : va_P (dC, dI) vwCl [(o, Sum.inr (9, mO g 3 fShift fModels (nI its.length) 1 fLow fRange fCache fPend 0 fOuts fIns fReads fBad fIR fAsk fBAsk fCode fRL fRR fX fWrites 0)), ((g 0), Sum.inl (cI, 8, Sum.inl vMany)), ((g 1), Sum.inl (cI, 512, Sum.inl vCounts)), ((g 2), Sum.inl (cI, 512, Sum.inl vNow)), ((g 4), Sum.inl (cI, 600, Sum.inl vIM)), ((g 5), Sum.inl (cI, 600, Sum.inl vIW)), ((g 6), Sum.inl (cI, 9000, Sum.inl vGoing)), ((g 7), Sum.inl (cI, 9000, Sum.inl vOut)), ((g 11), Sum.inl (cI, 20000, Sum.inl vWr))] H := hP
    have hD : va_D A [(o, Sum.inr (9, mO g 3 fShift fModels (nI its.length) 1 fLow fRange fCache fPend 0 fOuts fIns fReads fBad fIR fAsk fBAsk fCode fRL fRR fX fWrites 0)), ((g 0), Sum.inl (cI, 8, Sum.inl vMany)), ((g 1), Sum.inl (cI, 512, Sum.inl vCounts)), ((g 2), Sum.inl (cI, 512, Sum.inl vNow)), ((g 4), Sum.inl (cI, 600, Sum.inl vIM)), ((g 5), Sum.inl (cI, 600, Sum.inl vIW)), ((g 6), Sum.inl (cI, 9000, Sum.inl vGoing)), ((g 7), Sum.inl (cI, 9000, Sum.inl vOut)), ((g 11), Sum.inl (cI, 20000, Sum.inl vWr))] := hD
    refine lv_aload_n hx hb d_M_end_20 rfl (lv_at hl 0 rfl) ?_
    refine va_get (D := (dC, dI)) (ci := 9) (v := .int 3) (C := "RangeCodersModel") (T := T_M) (N := 35) hx hb hg in_M hown hK hP 0 rfl rfl 0 (by decide) (hg _ k952) (fun _ h9 => h9) rfl d_M_end_21 ?_
    refine lv_if_eq (tgt := 35) hx hb d_M_end_24 (by decide) (fun c_2 => ?_) (fun c_2 => ?_)
    · exact absurd c_2 (by decide)
    · refine lv_aload_n hx hb d_M_end_27 rfl (lv_at hl 0 rfl) ?_
      refine va_get (D := (dC, dI)) (ci := 9) (v := .int 3) (C := "RangeCodersModel") (T := T_M) (N := 35) hx hb hg in_M hown hK hP 0 rfl rfl 0 (by decide) (hg _ k952) (fun _ h9 => h9) rfl d_M_end_28 ?_
      refine lv_iconst (v := 2) hx hb d_M_end_31 (by decide) ?_
      refine lv_icmp_ne (tgt := 55) hx hb d_M_end_32 (by decide) (fun c_3 => ?_) (fun c_3 => ?_)
      · refine lv_aload_n hx hb d_M_end_55 rfl (lv_at hl 0 rfl) ?_
        refine va_get (D := (dC, dI)) (ci := 9) (v := .int 3) (C := "RangeCodersModel") (T := T_M) (N := 35) hx hb hg in_M hown hK hP 0 rfl rfl 0 (by decide) (hg _ k952) (fun _ h9 => h9) rfl d_M_end_56 ?_
        refine lv_iconst (v := 1) hx hb d_M_end_59 (by decide) ?_
        refine lv_icmp_ne (tgt := 106) hx hb d_M_end_60 (by decide) (fun c_4 => ?_) (fun c_4 => ?_)
        · refine lv_aload_n hx hb d_M_end_106 rfl (lv_at hl 0 rfl) ?_
          refine va_get (D := (dC, dI)) (ci := 9) (v := .int 3) (C := "RangeCodersModel") (T := T_M) (N := 35) hx hb hg in_M hown hK hP 0 rfl rfl 0 (by decide) (hg _ k952) (fun _ h9 => h9) rfl d_M_end_107 ?_
          refine lv_iconst (v := 3) hx hb d_M_end_110 (by decide) ?_
          refine lv_icmp_ne (tgt := 121) hx hb d_M_end_111 (by decide) (fun c_5 => ?_) (fun c_5 => ?_)
          · exact absurd rfl c_5
          · refine lv_aload_n hx hb d_M_end_114 rfl (lv_at hl 0 rfl) ?_
            refine my_cv (wr := [((g 0), Sum.inl (cI, 8, Sum.inl vMany)), ((g 1), Sum.inl (cI, 512, Sum.inl vCounts)), ((g 7), Sum.inl (cI, 9000, Sum.inl vOut))]) (va_runV (As := []) (rest := []) ⟨hx, hb, hml, hown, hts⟩ (c_M_endStack l dC dI cI cM cO H.size o g 3 fShift fModels 1 fLow fRange fCache fPend fOuts fIns fReads fBad fIR fAsk fBAsk fCode fRL fRR fX fWrites 0 vNow vIM vIW vGoing vWr its ([] : List Nat) N (Fvw vNow) (hit) (fun i hi => it3_of hMD (hok i hi)) (hki) (fun i hi => absurd hi (Nat.not_lt_zero i)) (Nat.zero_le _)) (cwV 0 hts (my_gV k1151 k1153 ks40 k12 k1154) rfl rfl rfl (by decide +kernel) ⟨by rw [hR]; exact Nat.le_of_ble_eq_true rfl, by rw [hR]; exact Nat.le_of_ble_eq_true rfl⟩) (my_preV hK hN (hP.sub [0, 3, 4, 5, 6, 8] rfl) (hD.sub [0, 3, 4, 5, 6, 8] (by decide +kernel) rfl) 0 rfl rfl) rfl rfl hl.1 rfl (lv_room (Nat.le_of_ble_eq_true rfl)) d_M_end_115 ⟨by rw [hR]; exact Nat.le_of_ble_eq_true rfl, by rw [hR]; exact Nat.le_of_ble_eq_true rfl⟩) hP hD hS hA [0, 3, 4, 5, 6, 8] [1, 2, 7] rfl rfl (by decide +kernel) (by decide +kernel) (fun u9 H locs hw_115 hP hD hS => ?_)
            obtain ⟨g2_115, w2_115⟩ := u9
            have hw_115 : gIs g2_115 (([] : List Nat) ++ (e3S (Fvw vNow) its).reverse.map (· % 256)) := hw_115
            have hP : va_P (dC, dI) vwCl [((g 0), Sum.inl (cI, 8, Sum.inl vMany)), ((g 1), Sum.inl (cI, 512, Sum.inl vCounts)), ((g 7), Sum.inl (cI, 9000, Sum.inl vOut)), (o, Sum.inr (9, mO g 3 fShift fModels (nI its.length) 1 fLow fRange fCache fPend (nI (([] : List Nat) ++ (e3S (Fvw vNow) its).reverse.map (· % 256)).length) fOuts fIns fReads fBad fIR fAsk fBAsk fCode fRL fRR fX (nI (e3S (Fvw vNow) its).length) 0)), ((g 2), Sum.inl (cI, 512, Sum.inl vNow)), ((g 4), Sum.inl (cI, 600, Sum.inl vIM)), ((g 5), Sum.inl (cI, 600, Sum.inl vIW)), ((g 6), Sum.inl (cI, 9000, Sum.inl g2_115)), ((g 11), Sum.inl (cI, 20000, Sum.inl w2_115))] H := hP
            have hD : va_D A [((g 0), Sum.inl (cI, 8, Sum.inl vMany)), ((g 1), Sum.inl (cI, 512, Sum.inl vCounts)), ((g 7), Sum.inl (cI, 9000, Sum.inl vOut)), (o, Sum.inr (9, mO g 3 fShift fModels (nI its.length) 1 fLow fRange fCache fPend (nI (([] : List Nat) ++ (e3S (Fvw vNow) its).reverse.map (· % 256)).length) fOuts fIns fReads fBad fIR fAsk fBAsk fCode fRL fRR fX (nI (e3S (Fvw vNow) its).length) 0)), ((g 2), Sum.inl (cI, 512, Sum.inl vNow)), ((g 4), Sum.inl (cI, 600, Sum.inl vIM)), ((g 5), Sum.inl (cI, 600, Sum.inl vIW)), ((g 6), Sum.inl (cI, 9000, Sum.inl g2_115)), ((g 11), Sum.inl (cI, 20000, Sum.inl w2_115))] := hD
            refine lv_goto (tgt := 125) hx hb d_M_end_118 (by decide) ?_
            have hP := hP
            rw [e3_out] at hP hD hw_115
            obtain ⟨b9, hb9⟩ : ∃ b, b = (e3S (Fvw vNow) its).reverse := ⟨_, rfl⟩
            rw [← hb9] at hP hD hw_115
            have hl9 : b9.length ≤ 4804 := by rw [hb9, List.length_reverse]; have := e3S_len (Fvw vNow) its; omega
            have hP : va_P (dC, dI) vwCl [((g 0), Sum.inl (cI, 8, Sum.inl vMany)), ((g 1), Sum.inl (cI, 512, Sum.inl vCounts)), ((g 7), Sum.inl (cI, 9000, Sum.inl vOut)), (o, Sum.inr (9, mO g 3 fShift fModels (nI its.length) 1 fLow fRange fCache fPend (nI b9.length) fOuts fIns fReads fBad fIR fAsk fBAsk fCode fRL fRR fX (nI (e3S (Fvw vNow) its).length) 0)), ((g 2), Sum.inl (cI, 512, Sum.inl vNow)), ((g 4), Sum.inl (cI, 600, Sum.inl vIM)), ((g 5), Sum.inl (cI, 600, Sum.inl vIW)), ((g 6), Sum.inl (cI, 9000, Sum.inl g2_115)), ((g 11), Sum.inl (cI, 20000, Sum.inl w2_115))] H := hP
            have hD : va_D A [((g 0), Sum.inl (cI, 8, Sum.inl vMany)), ((g 1), Sum.inl (cI, 512, Sum.inl vCounts)), ((g 7), Sum.inl (cI, 9000, Sum.inl vOut)), (o, Sum.inr (9, mO g 3 fShift fModels (nI its.length) 1 fLow fRange fCache fPend (nI b9.length) fOuts fIns fReads fBad fIR fAsk fBAsk fCode fRL fRR fX (nI (e3S (Fvw vNow) its).length) 0)), ((g 2), Sum.inl (cI, 512, Sum.inl vNow)), ((g 4), Sum.inl (cI, 600, Sum.inl vIM)), ((g 5), Sum.inl (cI, 600, Sum.inl vIW)), ((g 6), Sum.inl (cI, 9000, Sum.inl g2_115)), ((g 11), Sum.inl (cI, 20000, Sum.inl w2_115))] := hD
            refine lv_aload_n hx hb d_M_end_125 rfl (lv_at hl 0 rfl) ?_
            refine lv_aload_n hx hb d_M_end_126 rfl (lv_at hl 0 rfl) ?_
            refine va_get (D := (dC, dI)) (ci := 9) (v := .int (nI b9.length)) (C := "RangeCodersModel") (T := T_M) (N := 35) hx hb hg in_M hown hK hP 3 rfl rfl 16 (by decide) (hg _ k968) (fun _ h9 => h9) rfl d_M_end_127 ?_
            refine va_put (D := (dC, dI)) (ci := 9) (v := .int (nI b9.length)) (ty := .int) (C := "RangeCodersModel") (T := T_M) (N := 35) hx hb hg in_M t_M o_M n_M hown hK hP hD hS 3 rfl rfl 18 (by decide) (hg _ k970) (fun _ h9 => h9) rfl (by decide +kernel) rfl rfl (Nat.le_of_ble_eq_true rfl) d_M_end_130 (fun H locs hP hD hS => ?_)
            have hP : va_P (dC, dI) vwCl [((g 0), Sum.inl (cI, 8, Sum.inl vMany)), ((g 1), Sum.inl (cI, 512, Sum.inl vCounts)), ((g 7), Sum.inl (cI, 9000, Sum.inl vOut)), (o, Sum.inr (9, mO g 3 fShift fModels (nI its.length) 1 fLow fRange fCache fPend (nI b9.length) (nI b9.length) fIns fReads fBad fIR fAsk fBAsk fCode fRL fRR fX (nI (e3S (Fvw vNow) its).length) 0)), ((g 2), Sum.inl (cI, 512, Sum.inl vNow)), ((g 4), Sum.inl (cI, 600, Sum.inl vIM)), ((g 5), Sum.inl (cI, 600, Sum.inl vIW)), ((g 6), Sum.inl (cI, 9000, Sum.inl g2_115)), ((g 11), Sum.inl (cI, 20000, Sum.inl w2_115))] H := hP
            have hD : va_D A [((g 0), Sum.inl (cI, 8, Sum.inl vMany)), ((g 1), Sum.inl (cI, 512, Sum.inl vCounts)), ((g 7), Sum.inl (cI, 9000, Sum.inl vOut)), (o, Sum.inr (9, mO g 3 fShift fModels (nI its.length) 1 fLow fRange fCache fPend (nI b9.length) (nI b9.length) fIns fReads fBad fIR fAsk fBAsk fCode fRL fRR fX (nI (e3S (Fvw vNow) its).length) 0)), ((g 2), Sum.inl (cI, 512, Sum.inl vNow)), ((g 4), Sum.inl (cI, 600, Sum.inl vIM)), ((g 5), Sum.inl (cI, 600, Sum.inl vIW)), ((g 6), Sum.inl (cI, 9000, Sum.inl g2_115)), ((g 11), Sum.inl (cI, 20000, Sum.inl w2_115))] := hD
            refine lv_iconst (v := 0) hx hb d_M_end_133 (by decide) ?_
            refine lv_istore_n (lv' := [(1, Value.int 0), (0, Value.ref o)]) hx hb d_M_end_134 rfl hl (by decide) rfl (fun ls hl => ?_)
            have J_135 : ∀ (n9_135 : Nat) (kk : Nat) (fO : Nat → Int32) (hn9_135 : (b9).length - kk = n9_135) (hkk : kk ≤ (b9).length) (hc : ∀ i, i < kk → fO i = g2_115 i) (H : Heap) (locs : List Loc) (ls : Array Slot), va_P (dC, dI) vwCl [((g 0), Sum.inl (cI, 8, Sum.inl vMany)), ((g 1), Sum.inl (cI, 512, Sum.inl vCounts)), ((g 7), Sum.inl (cI, 9000, Sum.inl fO)), (o, Sum.inr (9, mO g 3 fShift fModels (nI its.length) 1 fLow fRange fCache fPend (nI b9.length) (nI b9.length) fIns fReads fBad fIR fAsk fBAsk fCode fRL fRR fX (nI (e3S (Fvw vNow) its).length) 0)), ((g 2), Sum.inl (cI, 512, Sum.inl vNow)), ((g 4), Sum.inl (cI, 600, Sum.inl vIM)), ((g 5), Sum.inl (cI, 600, Sum.inl vIW)), ((g 6), Sum.inl (cI, 9000, Sum.inl g2_115)), ((g 11), Sum.inl (cI, 20000, Sum.inl w2_115))] H → va_D A [((g 0), Sum.inl (cI, 8, Sum.inl vMany)), ((g 1), Sum.inl (cI, 512, Sum.inl vCounts)), ((g 7), Sum.inl (cI, 9000, Sum.inl fO)), (o, Sum.inr (9, mO g 3 fShift fModels (nI its.length) 1 fLow fRange fCache fPend (nI b9.length) (nI b9.length) fIns fReads fBad fIR fAsk fBAsk fCode fRL fRR fX (nI (e3S (Fvw vNow) its).length) 0)), ((g 2), Sum.inl (cI, 512, Sum.inl vNow)), ((g 4), Sum.inl (cI, 600, Sum.inl vIM)), ((g 5), Sum.inl (cI, 600, Sum.inl vIW)), ((g 6), Sum.inl (cI, 9000, Sum.inl g2_115)), ((g 11), Sum.inl (cI, 20000, Sum.inl w2_115))] → va_S A s.heap H locs → lv_has ls 2 [(1, Value.int (nI kk)), (0, Value.ref o)] → W p l e R s m args below meth c H locs 0 0 Q (F0 m 135 ls []) := by
              intro n9_135
              induction n9_135 using Nat.strongRecOn with
              | ind n9_135 ih9_135 =>
                intro kk fO hn9_135 hkk hc H locs ls hP hD hS hl
                refine lv_iload_n hx hb d_M_end_135 rfl (lv_at hl 0 rfl) ?_
                refine lv_aload_n hx hb d_M_end_136 rfl (lv_at hl 1 rfl) ?_
                refine va_get (D := (dC, dI)) (ci := 9) (v := .int (nI b9.length)) (C := "RangeCodersModel") (T := T_M) (N := 35) hx hb hg in_M hown hK hP 3 rfl rfl 16 (by decide) (hg _ k968) (fun _ h9 => h9) rfl d_M_end_137 ?_
                refine lv_icmp_ge (tgt := 161) hx hb d_M_end_140 (by decide) (fun c_6 => ?_) (fun c_6 => ?_)
                · have hkn : kk = (b9).length := by have := (nI_cmp (a := (b9).length) (b := kk) (by omega) (by omega)).mp c_6; omega
                  subst hkn
                  refine lv_aload_n hx hb d_M_end_161 rfl (lv_at hl 1 rfl) ?_
                  refine va_get (D := (dC, dI)) (ci := 9) (v := .int (nI b9.length)) (C := "RangeCodersModel") (T := T_M) (N := 35) hx hb hg in_M hown hK hP 3 rfl rfl 18 (by decide) (hg _ k970) (fun _ h9 => h9) rfl d_M_end_162 ?_
                  exact my_iret (v := nI b9.length) hx hb hr (rfl) hlocks hQ hK hS (Nat.le_refl _) (Nat.le_refl _) (g2_115, fO, w2_115, nI b9.length, nI b9.length, nI (e3S (Fvw vNow) its).length) (⟨by rw [← hb9], by rw [← hb9], by rw [← hb9]; exact gIs_cp hw_115 hc⟩) (hP.sub [3, 0, 1, 4, 5, 6, 7, 2, 8] rfl) (hD.sub [3, 0, 1, 4, 5, 6, 7, 2, 8] (by decide +kernel) rfl) d_M_end_165
                · have hkl : kk < (b9).length := by
                    rcases Nat.lt_or_ge kk (b9).length with z | z
                    · exact z
                    · exact absurd (nI_le z (by omega)) c_6
                  refine lv_aload_n hx hb d_M_end_143 rfl (lv_at hl 1 rfl) ?_
                  refine va_get (D := (dC, dI)) (ci := 9) (v := .ref (g 7)) (C := "RangeCodersModel") (T := T_M) (N := 35) hx hb hg in_M hown hK hP 3 rfl rfl 17 (by decide) (hg _ k969) (fun _ h9 => h9) rfl d_M_end_144 ?_
                  refine lv_iload_n hx hb d_M_end_147 rfl (lv_at hl 0 rfl) ?_
                  refine lv_aload_n hx hb d_M_end_148 rfl (lv_at hl 1 rfl) ?_
                  refine va_get (D := (dC, dI)) (ci := 9) (v := .ref (g 6)) (C := "RangeCodersModel") (T := T_M) (N := 35) hx hb hg in_M hown hK hP 3 rfl rfl 15 (by decide) (hg _ k967) (fun _ h9 => h9) rfl d_M_end_149 ?_
                  refine lv_iload_n hx hb d_M_end_152 rfl (lv_at hl 0 rfl) ?_
                  refine va_iald hx hb hK hP 7 0 rfl rfl (vp_in_nI (by omega) (by decide)) d_M_end_153 ?_
                  refine lv_topi (fun v_7 ev_7 => ?_)
                  refine va_iast hx hb hK hP hD hS 2 0 rfl rfl (vp_in_nI (by omega) (by decide)) d_M_end_154 (fun H locs hP hD hS => ?_)
                  have hP : va_P (dC, dI) vwCl [((g 0), Sum.inl (cI, 8, Sum.inl vMany)), ((g 1), Sum.inl (cI, 512, Sum.inl vCounts)), ((g 7), Sum.inl (cI, 9000, Sum.inl (upd fO (nI kk).toNatClampNeg v_7))), (o, Sum.inr (9, mO g 3 fShift fModels (nI its.length) 1 fLow fRange fCache fPend (nI b9.length) (nI b9.length) fIns fReads fBad fIR fAsk fBAsk fCode fRL fRR fX (nI (e3S (Fvw vNow) its).length) 0)), ((g 2), Sum.inl (cI, 512, Sum.inl vNow)), ((g 4), Sum.inl (cI, 600, Sum.inl vIM)), ((g 5), Sum.inl (cI, 600, Sum.inl vIW)), ((g 6), Sum.inl (cI, 9000, Sum.inl g2_115)), ((g 11), Sum.inl (cI, 20000, Sum.inl w2_115))] H := hP
                  have hD : va_D A [((g 0), Sum.inl (cI, 8, Sum.inl vMany)), ((g 1), Sum.inl (cI, 512, Sum.inl vCounts)), ((g 7), Sum.inl (cI, 9000, Sum.inl (upd fO (nI kk).toNatClampNeg v_7))), (o, Sum.inr (9, mO g 3 fShift fModels (nI its.length) 1 fLow fRange fCache fPend (nI b9.length) (nI b9.length) fIns fReads fBad fIR fAsk fBAsk fCode fRL fRR fX (nI (e3S (Fvw vNow) its).length) 0)), ((g 2), Sum.inl (cI, 512, Sum.inl vNow)), ((g 4), Sum.inl (cI, 600, Sum.inl vIM)), ((g 5), Sum.inl (cI, 600, Sum.inl vIW)), ((g 6), Sum.inl (cI, 9000, Sum.inl g2_115)), ((g 11), Sum.inl (cI, 20000, Sum.inl w2_115))] := hD
                  have hc8 : ∀ i, i < kk + 1 → (upd fO (nI kk).toNatClampNeg v_7) i = g2_115 i := cp_st hc (nI_clamp (by omega)) (by rw [ev_7, nI_clamp (by omega)])
                  obtain ⟨v_8, ev_8⟩ : ∃ y : Int32, y = (nI kk) + (1) := ⟨_, rfl⟩
                  refine lv_iinc (v := v_8) (lv' := [(1, Value.int v_8), (0, Value.ref o)]) hx hb d_M_end_155 hl (k := 0) rfl (by rw [ev_8]; rfl) (by decide) rfl (fun ls hl => ?_)
                  have z9 : v_8 = nI (kk + 1) := by rw [ev_8]; exact nI_1 _
                  subst z9
                  refine lv_goto (tgt := 135) hx hb d_M_end_158 (by decide) ?_
                  exact ih9_135 _ (by first | omega | (omega)) (kk + 1) (upd fO (nI kk).toNatClampNeg v_7) rfl (by omega) (hc8) H locs ls (hP.sub [0, 1, 2, 3, 4, 5, 6, 7, 8] rfl) (hD.sub [0, 1, 2, 3, 4, 5, 6, 7, 8] (by decide +kernel) rfl) hS (lv_sub hl [0, 1] rfl)
            exact J_135 _ (0 : Nat) vOut rfl (Nat.zero_le _) (fun _ z => absurd z (Nat.not_lt_zero _)) H locs ls (hP.sub [0, 1, 2, 3, 4, 5, 6, 7, 8] rfl) (hD.sub [0, 1, 2, 3, 4, 5, 6, 7, 8] (by decide +kernel) rfl) hS (lv_sub hl [0, 1] rfl)
        · exact absurd c_4 (by decide)
      · exact absurd c_3 (by decide)
  · exact absurd (by decide) c_1
set_option maxHeartbeats 2000000 in
set_option maxRecDepth 100000 in
theorem m_start (l : Launch) (dC : Nat → ClassId) (dI : Nat → Nat → Nat) (cI cM cO : ClassId) (sz : Nat) (o : Nat) (g : Nat → Nat) (fForm : Int32) (fShift : Int32) (fModels : Int32) (fItems : Int32) (fEnded : Int32) (fLow : Int64) (fRange : Int64) (fCache : Int32) (fPend : Int32) (fGoes : Int32) (fOuts : Int32) (fIns : Int32) (fReads : Int32) (fBad : Int32) (fIR : Int32) (fAsk : Int32) (fBAsk : Int32) (fCode : Int64) (fRL : Int64) (fRR : Int64) (fX : Int64) (fWrites : Int32) (fThrown : Int32) (vMany : Nat → Int32) (vCounts : Nat → Int32) (vNow : Nat → Int32) (fm : Nat) (km : Nat) (N : Nat → Nat) (hfm : fm ≤ 4) (hform : fForm = nI fm) (hmod : fModels = nI km) (hMD : MD km N vMany vCounts) : MetV l y_M_start (Cond.code y_M_start prog_14_method_15_code 2 none :: gw) ({ frames := 3, cells := 0, slots := 0, locals := 75 } : Room) (dC, dI) vwCl (kT cI cM cO) [Value.ref o] [(o, Sum.inr (9, mO g fForm fShift fModels fItems fEnded fLow fRange fCache fPend fGoes fOuts fIns fReads fBad fIR fAsk fBAsk fCode fRL fRR fX fWrites fThrown)), ((g 0), Sum.inl (cI, 8, Sum.inl vMany)), ((g 1), Sum.inl (cI, 512, Sum.inl vCounts)), ((g 2), Sum.inl (cI, 512, Sum.inl vNow))] sz (fun (u : (Nat → Int32)) => pfA fm km N vCounts u) (fun (u : (Nat → Int32)) => [(o, Sum.inr (9, mO g fForm fShift fModels 0 0 0 4294967295 (-1) 0 0 fOuts fIns fReads fBad fIR fAsk fBAsk fCode fRL fRR fX fWrites fThrown)), ((g 0), Sum.inl (cI, 8, Sum.inl vMany)), ((g 1), Sum.inl (cI, 512, Sum.inl vCounts)), ((g 2), Sum.inl (cI, 512, Sum.inl u))]) 0 0 := by
  refine my_ofV (cc := prog_14_method_15_code) (n := 2) (ret := none) (by decide) rfl (Nat.le_of_ble_eq_true rfl) ?_
  intro p e s m args below meth c R Q A ls H locs hx hb hr hts hown hlocks hml hnm hR hQ hA hl hP hK hN hD hS
  have hg : ∀ w ∈ gw, w.before args s = true := fun w h => hts w (List.mem_cons_of_mem _ h)
  have hown : s.vm.findClass "RangeCodersModel" = some m.cls := hown
  have hl : lv_has ls 2 [(0, Value.ref o)] := hl
  refine lv_aload_n hx hb d_M_start_0 rfl (lv_at hl 0 rfl) ?_
  refine lv_iconst (v := 0) hx hb d_M_start_1 (by decide) ?_
  refine va_put (D := (dC, dI)) (ci := 9) (v := .int 0) (ty := .int) (C := "RangeCodersModel") (T := T_M) (N := 35) hx hb hg in_M t_M o_M n_M hown hK hP hD hS 0 rfl rfl 7 (by decide) (hg _ k959) (fun _ h9 => h9) rfl (by decide +kernel) rfl rfl (Nat.le_of_ble_eq_true rfl) d_M_start_2 (fun H locs hP hD hS => ?_)
  have hP : va_P (dC, dI) vwCl [(o, Sum.inr (9, mO g fForm fShift fModels 0 fEnded fLow fRange fCache fPend fGoes fOuts fIns fReads fBad fIR fAsk fBAsk fCode fRL fRR fX fWrites fThrown)), ((g 0), Sum.inl (cI, 8, Sum.inl vMany)), ((g 1), Sum.inl (cI, 512, Sum.inl vCounts)), ((g 2), Sum.inl (cI, 512, Sum.inl vNow))] H := hP
  have hD : va_D A [(o, Sum.inr (9, mO g fForm fShift fModels 0 fEnded fLow fRange fCache fPend fGoes fOuts fIns fReads fBad fIR fAsk fBAsk fCode fRL fRR fX fWrites fThrown)), ((g 0), Sum.inl (cI, 8, Sum.inl vMany)), ((g 1), Sum.inl (cI, 512, Sum.inl vCounts)), ((g 2), Sum.inl (cI, 512, Sum.inl vNow))] := hD
  refine lv_aload_n hx hb d_M_start_5 rfl (lv_at hl 0 rfl) ?_
  refine lv_iconst (v := 0) hx hb d_M_start_6 (by decide) ?_
  refine va_put (D := (dC, dI)) (ci := 9) (v := .int 0) (ty := .boolean) (C := "RangeCodersModel") (T := T_M) (N := 35) hx hb hg in_M t_M o_M n_M hown hK hP hD hS 0 rfl rfl 10 (by decide) (hg _ k962) (fun _ h9 => h9) rfl (by decide +kernel) rfl rfl (Nat.le_of_ble_eq_true rfl) d_M_start_7 (fun H locs hP hD hS => ?_)
  have hP : va_P (dC, dI) vwCl [(o, Sum.inr (9, mO g fForm fShift fModels 0 0 fLow fRange fCache fPend fGoes fOuts fIns fReads fBad fIR fAsk fBAsk fCode fRL fRR fX fWrites fThrown)), ((g 0), Sum.inl (cI, 8, Sum.inl vMany)), ((g 1), Sum.inl (cI, 512, Sum.inl vCounts)), ((g 2), Sum.inl (cI, 512, Sum.inl vNow))] H := hP
  have hD : va_D A [(o, Sum.inr (9, mO g fForm fShift fModels 0 0 fLow fRange fCache fPend fGoes fOuts fIns fReads fBad fIR fAsk fBAsk fCode fRL fRR fX fWrites fThrown)), ((g 0), Sum.inl (cI, 8, Sum.inl vMany)), ((g 1), Sum.inl (cI, 512, Sum.inl vCounts)), ((g 2), Sum.inl (cI, 512, Sum.inl vNow))] := hD
  refine lv_aload_n hx hb d_M_start_10 rfl (lv_at hl 0 rfl) ?_
  refine lv_lconst (v := 0) hx hb d_M_start_11 (by decide) ?_
  refine va_put (D := (dC, dI)) (ci := 9) (v := .long 0) (ty := .long) (C := "RangeCodersModel") (T := T_M) (N := 35) hx hb hg in_M t_M o_M n_M hown hK hP hD hS 0 rfl rfl 11 (by decide) (hg _ k963) (fun _ h9 => h9) rfl (by decide +kernel) rfl rfl (Nat.le_of_ble_eq_true rfl) d_M_start_12 (fun H locs hP hD hS => ?_)
  have hP : va_P (dC, dI) vwCl [(o, Sum.inr (9, mO g fForm fShift fModels 0 0 0 fRange fCache fPend fGoes fOuts fIns fReads fBad fIR fAsk fBAsk fCode fRL fRR fX fWrites fThrown)), ((g 0), Sum.inl (cI, 8, Sum.inl vMany)), ((g 1), Sum.inl (cI, 512, Sum.inl vCounts)), ((g 2), Sum.inl (cI, 512, Sum.inl vNow))] H := hP
  have hD : va_D A [(o, Sum.inr (9, mO g fForm fShift fModels 0 0 0 fRange fCache fPend fGoes fOuts fIns fReads fBad fIR fAsk fBAsk fCode fRL fRR fX fWrites fThrown)), ((g 0), Sum.inl (cI, 8, Sum.inl vMany)), ((g 1), Sum.inl (cI, 512, Sum.inl vCounts)), ((g 2), Sum.inl (cI, 512, Sum.inl vNow))] := hD
  refine lv_aload_n hx hb d_M_start_15 rfl (lv_at hl 0 rfl) ?_
  refine lv_ldc2 (v := 4294967295) hx hb hown (hg _ k927) d_M_start_16 ?_
  refine va_put (D := (dC, dI)) (ci := 9) (v := .long 4294967295) (ty := .long) (C := "RangeCodersModel") (T := T_M) (N := 35) hx hb hg in_M t_M o_M n_M hown hK hP hD hS 0 rfl rfl 12 (by decide) (hg _ k964) (fun _ h9 => h9) rfl (by decide +kernel) rfl rfl (Nat.le_of_ble_eq_true rfl) d_M_start_19 (fun H locs hP hD hS => ?_)
  have hP : va_P (dC, dI) vwCl [(o, Sum.inr (9, mO g fForm fShift fModels 0 0 0 4294967295 fCache fPend fGoes fOuts fIns fReads fBad fIR fAsk fBAsk fCode fRL fRR fX fWrites fThrown)), ((g 0), Sum.inl (cI, 8, Sum.inl vMany)), ((g 1), Sum.inl (cI, 512, Sum.inl vCounts)), ((g 2), Sum.inl (cI, 512, Sum.inl vNow))] H := hP
  have hD : va_D A [(o, Sum.inr (9, mO g fForm fShift fModels 0 0 0 4294967295 fCache fPend fGoes fOuts fIns fReads fBad fIR fAsk fBAsk fCode fRL fRR fX fWrites fThrown)), ((g 0), Sum.inl (cI, 8, Sum.inl vMany)), ((g 1), Sum.inl (cI, 512, Sum.inl vCounts)), ((g 2), Sum.inl (cI, 512, Sum.inl vNow))] := hD
  refine lv_aload_n hx hb d_M_start_22 rfl (lv_at hl 0 rfl) ?_
  refine lv_iconst (v := (-1)) hx hb d_M_start_23 (by decide) ?_
  refine va_put (D := (dC, dI)) (ci := 9) (v := .int (-1)) (ty := .int) (C := "RangeCodersModel") (T := T_M) (N := 35) hx hb hg in_M t_M o_M n_M hown hK hP hD hS 0 rfl rfl 13 (by decide) (hg _ k965) (fun _ h9 => h9) rfl (by decide +kernel) rfl rfl (Nat.le_of_ble_eq_true rfl) d_M_start_24 (fun H locs hP hD hS => ?_)
  have hP : va_P (dC, dI) vwCl [(o, Sum.inr (9, mO g fForm fShift fModels 0 0 0 4294967295 (-1) fPend fGoes fOuts fIns fReads fBad fIR fAsk fBAsk fCode fRL fRR fX fWrites fThrown)), ((g 0), Sum.inl (cI, 8, Sum.inl vMany)), ((g 1), Sum.inl (cI, 512, Sum.inl vCounts)), ((g 2), Sum.inl (cI, 512, Sum.inl vNow))] H := hP
  have hD : va_D A [(o, Sum.inr (9, mO g fForm fShift fModels 0 0 0 4294967295 (-1) fPend fGoes fOuts fIns fReads fBad fIR fAsk fBAsk fCode fRL fRR fX fWrites fThrown)), ((g 0), Sum.inl (cI, 8, Sum.inl vMany)), ((g 1), Sum.inl (cI, 512, Sum.inl vCounts)), ((g 2), Sum.inl (cI, 512, Sum.inl vNow))] := hD
  refine lv_aload_n hx hb d_M_start_27 rfl (lv_at hl 0 rfl) ?_
  refine lv_iconst (v := 0) hx hb d_M_start_28 (by decide) ?_
  refine va_put (D := (dC, dI)) (ci := 9) (v := .int 0) (ty := .int) (C := "RangeCodersModel") (T := T_M) (N := 35) hx hb hg in_M t_M o_M n_M hown hK hP hD hS 0 rfl rfl 14 (by decide) (hg _ k966) (fun _ h9 => h9) rfl (by decide +kernel) rfl rfl (Nat.le_of_ble_eq_true rfl) d_M_start_29 (fun H locs hP hD hS => ?_)
  have hP : va_P (dC, dI) vwCl [(o, Sum.inr (9, mO g fForm fShift fModels 0 0 0 4294967295 (-1) 0 fGoes fOuts fIns fReads fBad fIR fAsk fBAsk fCode fRL fRR fX fWrites fThrown)), ((g 0), Sum.inl (cI, 8, Sum.inl vMany)), ((g 1), Sum.inl (cI, 512, Sum.inl vCounts)), ((g 2), Sum.inl (cI, 512, Sum.inl vNow))] H := hP
  have hD : va_D A [(o, Sum.inr (9, mO g fForm fShift fModels 0 0 0 4294967295 (-1) 0 fGoes fOuts fIns fReads fBad fIR fAsk fBAsk fCode fRL fRR fX fWrites fThrown)), ((g 0), Sum.inl (cI, 8, Sum.inl vMany)), ((g 1), Sum.inl (cI, 512, Sum.inl vCounts)), ((g 2), Sum.inl (cI, 512, Sum.inl vNow))] := hD
  refine lv_aload_n hx hb d_M_start_32 rfl (lv_at hl 0 rfl) ?_
  refine lv_iconst (v := 0) hx hb d_M_start_33 (by decide) ?_
  refine va_put (D := (dC, dI)) (ci := 9) (v := .int 0) (ty := .int) (C := "RangeCodersModel") (T := T_M) (N := 35) hx hb hg in_M t_M o_M n_M hown hK hP hD hS 0 rfl rfl 16 (by decide) (hg _ k968) (fun _ h9 => h9) rfl (by decide +kernel) rfl rfl (Nat.le_of_ble_eq_true rfl) d_M_start_34 (fun H locs hP hD hS => ?_)
  have hP : va_P (dC, dI) vwCl [(o, Sum.inr (9, mO g fForm fShift fModels 0 0 0 4294967295 (-1) 0 0 fOuts fIns fReads fBad fIR fAsk fBAsk fCode fRL fRR fX fWrites fThrown)), ((g 0), Sum.inl (cI, 8, Sum.inl vMany)), ((g 1), Sum.inl (cI, 512, Sum.inl vCounts)), ((g 2), Sum.inl (cI, 512, Sum.inl vNow))] H := hP
  have hD : va_D A [(o, Sum.inr (9, mO g fForm fShift fModels 0 0 0 4294967295 (-1) 0 0 fOuts fIns fReads fBad fIR fAsk fBAsk fCode fRL fRR fX fWrites fThrown)), ((g 0), Sum.inl (cI, 8, Sum.inl vMany)), ((g 1), Sum.inl (cI, 512, Sum.inl vCounts)), ((g 2), Sum.inl (cI, 512, Sum.inl vNow))] := hD
  refine lv_iconst (v := 0) hx hb d_M_start_37 (by decide) ?_
  refine lv_istore_n (lv' := [(1, Value.int 0), (0, Value.ref o)]) hx hb d_M_start_38 rfl hl (by decide) rfl (fun ls hl => ?_)
  have J_39 : ∀ (n9_39 : Nat) (jj : Nat) (fN : Nat → Int32) (hn9_39 : km - jj = n9_39) (hjj : jj ≤ km) (hT9 : pfA fm jj N vCounts fN) (H : Heap) (locs : List Loc) (ls : Array Slot), va_P (dC, dI) vwCl [(o, Sum.inr (9, mO g fForm fShift fModels 0 0 0 4294967295 (-1) 0 0 fOuts fIns fReads fBad fIR fAsk fBAsk fCode fRL fRR fX fWrites fThrown)), ((g 0), Sum.inl (cI, 8, Sum.inl vMany)), ((g 1), Sum.inl (cI, 512, Sum.inl vCounts)), ((g 2), Sum.inl (cI, 512, Sum.inl fN))] H → va_D A [(o, Sum.inr (9, mO g fForm fShift fModels 0 0 0 4294967295 (-1) 0 0 fOuts fIns fReads fBad fIR fAsk fBAsk fCode fRL fRR fX fWrites fThrown)), ((g 0), Sum.inl (cI, 8, Sum.inl vMany)), ((g 1), Sum.inl (cI, 512, Sum.inl vCounts)), ((g 2), Sum.inl (cI, 512, Sum.inl fN))] → va_S A s.heap H locs → lv_has ls 2 [(1, Value.int (nI jj)), (0, Value.ref o)] → W p l e R s m args below meth c H locs 0 0 Q (F0 m 39 ls []) := by
    intro n9_39
    induction n9_39 using Nat.strongRecOn with
    | ind n9_39 ih9_39 =>
      intro jj fN hn9_39 hjj hT9 H locs ls hP hD hS hl
      refine lv_iload_n hx hb d_M_start_39 rfl (lv_at hl 0 rfl) ?_
      refine lv_aload_n hx hb d_M_start_40 rfl (lv_at hl 1 rfl) ?_
      refine va_get (D := (dC, dI)) (ci := 9) (v := .int fModels) (C := "RangeCodersModel") (T := T_M) (N := 35) hx hb hg in_M hown hK hP 0 rfl rfl 2 (by decide) (hg _ k954) (fun _ h9 => h9) rfl d_M_start_41 ?_
      refine lv_icmp_ge (tgt := 62) hx hb d_M_start_44 (by decide) (fun c_1 => ?_) (fun c_1 => ?_)
      · have hjk : jj = km := by
          have hk8 := hMD.1
          rw [hmod] at c_1
          have := (nI_cmp (by omega) (by omega)).mp c_1
          omega
        subst hjk
        exact my_vret hx hb hr hlocks hQ hK hS (Nat.le_refl _) (Nat.le_refl _) (fN) (hT9) (hP.sub [0, 1, 2, 3] rfl) (hD.sub [0, 1, 2, 3] (by decide +kernel) rfl) d_M_start_62
      · have hjl : jj < km := by
          rcases Nat.lt_or_ge jj km with z | z
          · exact z
          · exact absurd (by rw [hmod]; exact nI_le z (by have := hMD.1; omega)) c_1
        have hk8 := hMD.1
        obtain ⟨hn9, hn2, hn64, C9, hc9, hB9⟩ := hMD.2 jj hjl
        have hCC := MD_C hMD hjl
        refine lv_aload_n hx hb d_M_start_47 rfl (lv_at hl 1 rfl) ?_
        refine lv_aload_n hx hb d_M_start_48 rfl (lv_at hl 1 rfl) ?_
        refine va_get (D := (dC, dI)) (ci := 9) (v := .ref (g 2)) (C := "RangeCodersModel") (T := T_M) (N := 35) hx hb hg in_M hown hK hP 0 rfl rfl 5 (by decide) (hg _ k957) (fun _ h9 => h9) rfl d_M_start_49 ?_
        refine lv_iload_n hx hb d_M_start_52 rfl (lv_at hl 0 rfl) ?_
        refine my_cv (wr := []) (va_runV (As := [Value.ref (g 2), Value.int (nI jj)]) (rest := []) ⟨hx, hb, hml, hown, hts⟩ (c_M_prepare l dC dI cI cM cO H.size o g fForm fShift fModels 0 0 0 4294967295 (-1) 0 0 fOuts fIns fReads fBad fIR fAsk fBAsk fCode fRL fRR fX fWrites fThrown vMany vCounts (g 2) fN jj (N jj) fm (Fvw vCounts jj) (by omega) (hn9) (hn64) (by omega) (hfm) (hform) (hCC.1) (hCC.2)) (cwV 2 hts (my_gV k928 k930 ks19 k12 k931) rfl rfl rfl (by decide +kernel) ⟨by rw [hR]; exact Nat.le_of_ble_eq_true rfl, by rw [hR]; exact Nat.le_of_ble_eq_true rfl⟩) (my_preV hK hN (hP.sub [0, 1, 2, 3] rfl) (hD.sub [0, 1, 2, 3] (by decide +kernel) rfl) 0 rfl rfl) rfl rfl hl.1 rfl (lv_room (Nat.le_of_ble_eq_true rfl)) d_M_start_53 ⟨by rw [hR]; exact Nat.le_of_ble_eq_true rfl, by rw [hR]; exact Nat.le_of_ble_eq_true rfl⟩) hP hD hS hA [0, 1, 2, 3] [] rfl rfl (by decide +kernel) (by decide +kernel) (fun u9 H locs hw_53 hP hD hS => ?_)
        obtain ⟨f2_53, rfl⟩ : ∃ z, z = u9 := ⟨_, rfl⟩
        have hw_53 : sgI f2_53 (64 * jj) (pfN fm (N jj)) (pf fm (N jj) (Fvw vCounts jj)) ∧ sgO f2_53 fN (64 * jj) 64 := hw_53
        have hP : va_P (dC, dI) vwCl [(o, Sum.inr (9, mO g fForm fShift fModels 0 0 0 4294967295 (-1) 0 0 fOuts fIns fReads fBad fIR fAsk fBAsk fCode fRL fRR fX fWrites fThrown)), ((g 0), Sum.inl (cI, 8, Sum.inl vMany)), ((g 1), Sum.inl (cI, 512, Sum.inl vCounts)), ((g 2), Sum.inl (cI, 512, Sum.inl f2_53))] H := hP
        have hD : va_D A [(o, Sum.inr (9, mO g fForm fShift fModels 0 0 0 4294967295 (-1) 0 0 fOuts fIns fReads fBad fIR fAsk fBAsk fCode fRL fRR fX fWrites fThrown)), ((g 0), Sum.inl (cI, 8, Sum.inl vMany)), ((g 1), Sum.inl (cI, 512, Sum.inl vCounts)), ((g 2), Sum.inl (cI, 512, Sum.inl f2_53))] := hD
        have hT8 := pfA_st hT9 (MD_N hMD) hjl hw_53.2 hw_53.1
        obtain ⟨v_2, ev_2⟩ : ∃ y : Int32, y = (nI jj) + (1) := ⟨_, rfl⟩
        refine lv_iinc (v := v_2) (lv' := [(1, Value.int v_2), (0, Value.ref o)]) hx hb d_M_start_56 hl (k := 0) rfl (by rw [ev_2]; rfl) (by decide) rfl (fun ls hl => ?_)
        have z9 : v_2 = nI (jj + 1) := by rw [ev_2]; exact nI_1 _
        subst z9
        refine lv_goto (tgt := 39) hx hb d_M_start_59 (by decide) ?_
        exact ih9_39 _ (by first | omega | (omega)) (jj + 1) f2_53 rfl (by omega) (hT8) H locs ls (hP.sub [0, 1, 2, 3] rfl) (hD.sub [0, 1, 2, 3] (by decide +kernel) rfl) hS (lv_sub hl [0, 1] rfl)
  exact J_39 _ (0 : Nat) vNow rfl (Nat.zero_le _) (pfA_0 _ _ _ _) H locs ls (hP.sub [0, 1, 2, 3] rfl) (hD.sub [0, 1, 2, 3] (by decide +kernel) rfl) hS (lv_sub hl [0, 1] rfl)
set_option maxHeartbeats 2000000 in
set_option maxRecDepth 100000 in
theorem m_begin (l : Launch) (dC : Nat → ClassId) (dI : Nat → Nat → Nat) (cI cM cO : ClassId) (sz : Nat) (o : Nat) (g : Nat → Nat) (fForm : Int32) (fShift : Int32) (fModels : Int32) (fItems : Int32) (fEnded : Int32) (fLow : Int64) (fRange : Int64) (fCache : Int32) (fPend : Int32) (fGoes : Int32) (fOuts : Int32) (fIns : Int32) (fReads : Int32) (fBad : Int32) (fIR : Int32) (fAsk : Int32) (fBAsk : Int32) (fCode : Int64) (fRL : Int64) (fRR : Int64) (fX : Int64) (fWrites : Int32) (fThrown : Int32) (vMany : Nat → Int32) (vCounts : Nat → Int32) (vNow : Nat → Int32) (fm : Nat) (km : Nat) (N : Nat → Nat) (hfm : fm ≤ 4) (hform : fForm = nI fm) (hmod : fModels = nI km) (hMD : MD km N vMany vCounts) : MetI l y_M_begin (Cond.code y_M_begin prog_14_method_16_code 2 (some .int) :: gw) ({ frames := 4, cells := 0, slots := 0, locals := 96 } : Room) (dC, dI) vwCl (kT cI cM cO) [Value.ref o] [(o, Sum.inr (9, mO g fForm fShift fModels fItems fEnded fLow fRange fCache fPend fGoes fOuts fIns fReads fBad fIR fAsk fBAsk fCode fRL fRR fX fWrites fThrown)), ((g 0), Sum.inl (cI, 8, Sum.inl vMany)), ((g 1), Sum.inl (cI, 512, Sum.inl vCounts)), ((g 2), Sum.inl (cI, 512, Sum.inl vNow))] sz (fun (r : Int32) (u : (Nat → Int32)) => r = fItems ∧ pfA fm km N vCounts u) (fun (u : (Nat → Int32)) => [(o, Sum.inr (9, mO g fForm fShift fModels 0 0 0 4294967295 (-1) 0 0 fOuts fIns fReads fBad fIR fAsk fBAsk fCode fRL fRR fX fWrites 0)), ((g 0), Sum.inl (cI, 8, Sum.inl vMany)), ((g 1), Sum.inl (cI, 512, Sum.inl vCounts)), ((g 2), Sum.inl (cI, 512, Sum.inl u))]) 0 0 := by
  refine my_ofI (cc := prog_14_method_16_code) (n := 2) (ret := (some .int)) (by decide) rfl (Nat.le_of_ble_eq_true rfl) ?_
  intro p e s m args below meth c R Q A ls H locs hx hb hr hts hown hlocks hml hnm hR hQ hA hl hP hK hN hD hS
  have hg : ∀ w ∈ gw, w.before args s = true := fun w h => hts w (List.mem_cons_of_mem _ h)
  have hown : s.vm.findClass "RangeCodersModel" = some m.cls := hown
  have hl : lv_has ls 2 [(0, Value.ref o)] := hl
  refine lv_aload_n hx hb d_M_begin_0 rfl (lv_at hl 0 rfl) ?_
  refine lv_iconst (v := 0) hx hb d_M_begin_1 (by decide) ?_
  refine va_put (D := (dC, dI)) (ci := 9) (v := .int 0) (ty := .int) (C := "RangeCodersModel") (T := T_M) (N := 35) hx hb hg in_M t_M o_M n_M hown hK hP hD hS 0 rfl rfl 34 (by decide) (hg _ k986) (fun _ h9 => h9) rfl (by decide +kernel) rfl rfl (Nat.le_of_ble_eq_true rfl) d_M_begin_2 (fun H locs hP hD hS => ?_)
  have hP : va_P (dC, dI) vwCl [(o, Sum.inr (9, mO g fForm fShift fModels fItems fEnded fLow fRange fCache fPend fGoes fOuts fIns fReads fBad fIR fAsk fBAsk fCode fRL fRR fX fWrites 0)), ((g 0), Sum.inl (cI, 8, Sum.inl vMany)), ((g 1), Sum.inl (cI, 512, Sum.inl vCounts)), ((g 2), Sum.inl (cI, 512, Sum.inl vNow))] H := hP
  have hD : va_D A [(o, Sum.inr (9, mO g fForm fShift fModels fItems fEnded fLow fRange fCache fPend fGoes fOuts fIns fReads fBad fIR fAsk fBAsk fCode fRL fRR fX fWrites 0)), ((g 0), Sum.inl (cI, 8, Sum.inl vMany)), ((g 1), Sum.inl (cI, 512, Sum.inl vCounts)), ((g 2), Sum.inl (cI, 512, Sum.inl vNow))] := hD
  refine lv_aload_n hx hb d_M_begin_5 rfl (lv_at hl 0 rfl) ?_
  refine va_get (D := (dC, dI)) (ci := 9) (v := .int fItems) (C := "RangeCodersModel") (T := T_M) (N := 35) hx hb hg in_M hown hK hP 0 rfl rfl 7 (by decide) (hg _ k959) (fun _ h9 => h9) rfl d_M_begin_6 ?_
  refine lv_istore_n (lv' := [(1, Value.int fItems), (0, Value.ref o)]) hx hb d_M_begin_9 rfl hl (by decide) rfl (fun ls hl => ?_)
  refine lv_aload_n hx hb d_M_begin_10 rfl (lv_at hl 1 rfl) ?_
  refine my_cv (wr := []) (va_runV (As := []) (rest := []) ⟨hx, hb, hml, hown, hts⟩ (m_start l dC dI cI cM cO H.size o g fForm fShift fModels fItems fEnded fLow fRange fCache fPend fGoes fOuts fIns fReads fBad fIR fAsk fBAsk fCode fRL fRR fX fWrites 0 vMany vCounts vNow fm km N (by first | assumption | omega) (by first | assumption | omega) (by first | assumption | omega) (by first | assumption | omega)) (cwV 0 hts (my_gV k923 k925 ks18 k12 k926) rfl rfl rfl (by decide +kernel) ⟨by rw [hR]; exact Nat.le_of_ble_eq_true rfl, by rw [hR]; exact Nat.le_of_ble_eq_true rfl⟩) (my_preV hK hN (hP.sub [0, 1, 2, 3] rfl) (hD.sub [0, 1, 2, 3] (by decide +kernel) rfl) 0 rfl rfl) rfl rfl hl.1 rfl (lv_room (Nat.le_of_ble_eq_true rfl)) d_M_begin_11 ⟨by rw [hR]; exact Nat.le_of_ble_eq_true rfl, by rw [hR]; exact Nat.le_of_ble_eq_true rfl⟩) hP hD hS hA [0, 1, 2, 3] [] rfl rfl (by decide +kernel) (by decide +kernel) (fun u9 H locs hw_11 hP hD hS => ?_)
  obtain ⟨vNowq_11, rfl⟩ : ∃ z, z = u9 := ⟨_, rfl⟩
  have hT_11 : pfA fm km N vCounts vNowq_11 := hw_11
  have hP : va_P (dC, dI) vwCl [(o, Sum.inr (9, mO g fForm fShift fModels 0 0 0 4294967295 (-1) 0 0 fOuts fIns fReads fBad fIR fAsk fBAsk fCode fRL fRR fX fWrites 0)), ((g 0), Sum.inl (cI, 8, Sum.inl vMany)), ((g 1), Sum.inl (cI, 512, Sum.inl vCounts)), ((g 2), Sum.inl (cI, 512, Sum.inl vNowq_11))] H := hP
  have hD : va_D A [(o, Sum.inr (9, mO g fForm fShift fModels 0 0 0 4294967295 (-1) 0 0 fOuts fIns fReads fBad fIR fAsk fBAsk fCode fRL fRR fX fWrites 0)), ((g 0), Sum.inl (cI, 8, Sum.inl vMany)), ((g 1), Sum.inl (cI, 512, Sum.inl vCounts)), ((g 2), Sum.inl (cI, 512, Sum.inl vNowq_11))] := hD
  refine lv_iload_n hx hb d_M_begin_14 rfl (lv_at hl 0 rfl) ?_
  exact my_iret (v := fItems) hx hb hr (rfl) hlocks hQ hK hS (Nat.le_refl _) (Nat.le_refl _) (vNowq_11) (⟨rfl, hT_11⟩) (hP.sub [0, 1, 2, 3] rfl) (hD.sub [0, 1, 2, 3] (by decide +kernel) rfl) d_M_begin_15
end
section
set_option maxHeartbeats 20000000 in
set_option maxRecDepth 100000 in
theorem m_endTable (l : Launch) (dC : Nat → ClassId) (dI : Nat → Nat → Nat) (cI cM cO : ClassId) (sz : Nat) (o : Nat) (g : Nat → Nat) (fForm : Int32) (fShift : Int32) (fModels : Int32) (fEnded : Int32) (fLow : Int64) (fRange : Int64) (fCache : Int32) (fPend : Int32) (fOuts : Int32) (fIns : Int32) (fReads : Int32) (fBad : Int32) (fIR : Int32) (fAsk : Int32) (fBAsk : Int32) (fCode : Int64) (fRL : Int64) (fRR : Int64) (fX : Int64) (fWrites : Int32) (fThrown : Int32) (vMany : Nat → Int32) (vCounts : Nat → Int32) (vNow : Nat → Int32) (vIM : Nat → Int32) (vIW : Nat → Int32) (vGoing : Nat → Int32) (vSO : Nat → Int32) (vNO : Nat → Int32) (vWr : Nat → Int32) (km : Nat) (N : Nat → Nat) (its : List It) (hMD : MD km N vMany vCounts) (hki : its.length ≤ 600) (hit : itIs vIM vIW its) (hok : ∀ i, i < its.length → itOk 512 9 km N vNow (itA its i)) : MetV l y_M_endTable (Cond.code y_M_endTable prog_14_method_35_code 9 none :: gw) ({ frames := 1, cells := 0, slots := 0, locals := 26 } : Room) (dC, dI) vwCl (kT cI cM cO) [Value.ref o] [(o, Sum.inr (9, mO g fForm fShift fModels (nI its.length) fEnded fLow fRange fCache fPend 0 fOuts fIns fReads fBad fIR fAsk fBAsk fCode fRL fRR fX fWrites fThrown)), ((g 0), Sum.inl (cI, 8, Sum.inl vMany)), ((g 1), Sum.inl (cI, 512, Sum.inl vCounts)), ((g 2), Sum.inl (cI, 512, Sum.inl vNow)), ((g 4), Sum.inl (cI, 600, Sum.inl vIM)), ((g 5), Sum.inl (cI, 600, Sum.inl vIW)), ((g 6), Sum.inl (cI, 9000, Sum.inl vGoing)), ((g 9), Sum.inl (cI, 512, Sum.inl vSO)), ((g 10), Sum.inl (cI, 512, Sum.inl vNO)), ((g 11), Sum.inl (cI, 20000, Sum.inl vWr))] sz (fun (u : (Nat → Int32) × (Nat → Int32) × (Nat → Int32) × (Nat → Int32) × Int32 × Int32) => u.2.2.2.2.1 = nI (pkB (e4W (Fvw vNow) N its) (((e4W (Fvw vNow) N its).length + 7) / 8)).length ∧ gIs u.1 (pkB (e4W (Fvw vNow) N its) (((e4W (Fvw vNow) N its).length + 7) / 8))) (fun (u : (Nat → Int32) × (Nat → Int32) × (Nat → Int32) × (Nat → Int32) × Int32 × Int32) => [(o, Sum.inr (9, mO g fForm fShift fModels (nI its.length) fEnded fLow fRange fCache fPend u.2.2.2.2.1 fOuts fIns fReads fBad fIR fAsk fBAsk fCode fRL fRR fX u.2.2.2.2.2 fThrown)), ((g 0), Sum.inl (cI, 8, Sum.inl vMany)), ((g 1), Sum.inl (cI, 512, Sum.inl vCounts)), ((g 2), Sum.inl (cI, 512, Sum.inl vNow)), ((g 4), Sum.inl (cI, 600, Sum.inl vIM)), ((g 5), Sum.inl (cI, 600, Sum.inl vIW)), ((g 6), Sum.inl (cI, 9000, Sum.inl u.1)), ((g 9), Sum.inl (cI, 512, Sum.inl u.2.1)), ((g 10), Sum.inl (cI, 512, Sum.inl u.2.2.1)), ((g 11), Sum.inl (cI, 20000, Sum.inl u.2.2.2.1))]) 0 0 := by
  refine my_ofV (cc := prog_14_method_35_code) (n := 9) (ret := none) (by decide) rfl (Nat.le_of_ble_eq_true rfl) ?_
  intro p e s m args below meth c R Q A ls H locs hx hb hr hts hown hlocks hml hnm hR hQ hA hl hP hK hN hD hS
  have hg : ∀ w ∈ gw, w.before args s = true := fun w h => hts w (List.mem_cons_of_mem _ h)
  have hown : s.vm.findClass "RangeCodersModel" = some m.cls := hown
  have hl : lv_has ls 9 [(0, Value.ref o)] := hl
  refine lv_aload_n hx hb d_M_endTable_0 rfl (lv_at hl 0 rfl) ?_
  refine lv_iconst (v := 0) hx hb d_M_endTable_1 (by decide) ?_
  refine va_put (D := (dC, dI)) (ci := 9) (v := .int 0) (ty := .int) (C := "RangeCodersModel") (T := T_M) (N := 35) hx hb hg in_M t_M o_M n_M hown hK hP hD hS 0 rfl rfl 33 (by decide) (hg _ k985) (fun _ h9 => h9) rfl (by decide +kernel) rfl rfl (Nat.le_of_ble_eq_true rfl) d_M_endTable_2 (fun H locs hP hD hS => ?_)
  have hP : va_P (dC, dI) vwCl [(o, Sum.inr (9, mO g fForm fShift fModels (nI its.length) fEnded fLow fRange fCache fPend 0 fOuts fIns fReads fBad fIR fAsk fBAsk fCode fRL fRR fX 0 fThrown)), ((g 0), Sum.inl (cI, 8, Sum.inl vMany)), ((g 1), Sum.inl (cI, 512, Sum.inl vCounts)), ((g 2), Sum.inl (cI, 512, Sum.inl vNow)), ((g 4), Sum.inl (cI, 600, Sum.inl vIM)), ((g 5), Sum.inl (cI, 600, Sum.inl vIW)), ((g 6), Sum.inl (cI, 9000, Sum.inl vGoing)), ((g 9), Sum.inl (cI, 512, Sum.inl vSO)), ((g 10), Sum.inl (cI, 512, Sum.inl vNO)), ((g 11), Sum.inl (cI, 20000, Sum.inl vWr))] H := hP
  have hD : va_D A [(o, Sum.inr (9, mO g fForm fShift fModels (nI its.length) fEnded fLow fRange fCache fPend 0 fOuts fIns fReads fBad fIR fAsk fBAsk fCode fRL fRR fX 0 fThrown)), ((g 0), Sum.inl (cI, 8, Sum.inl vMany)), ((g 1), Sum.inl (cI, 512, Sum.inl vCounts)), ((g 2), Sum.inl (cI, 512, Sum.inl vNow)), ((g 4), Sum.inl (cI, 600, Sum.inl vIM)), ((g 5), Sum.inl (cI, 600, Sum.inl vIW)), ((g 6), Sum.inl (cI, 9000, Sum.inl vGoing)), ((g 9), Sum.inl (cI, 512, Sum.inl vSO)), ((g 10), Sum.inl (cI, 512, Sum.inl vNO)), ((g 11), Sum.inl (cI, 20000, Sum.inl vWr))] := hD
  refine lv_ldc2 (v := 512) hx hb hown (hg _ k1160) d_M_endTable_5 ?_
  refine W.eq (g2 := F0 m 8 ls [Value.long (lN 512)]) rfl ?_
  refine lv_lstore_n (lv' := [(1, Value.long (lN 512)), (0, Value.ref o)]) hx hb d_M_endTable_8 rfl hl (by decide) rfl (fun ls hl => ?_)
  refine lv_iconst (v := (-1)) hx hb d_M_endTable_9 (by decide) ?_
  refine lv_istore_n (lv' := [(3, Value.int (-1)), (1, Value.long (lN 512)), (0, Value.ref o)]) hx hb d_M_endTable_10 rfl hl (by decide) rfl (fun ls hl => ?_)
  refine lv_aload_n hx hb d_M_endTable_11 rfl (lv_at hl 2 rfl) ?_
  refine va_get (D := (dC, dI)) (ci := 9) (v := .int (nI its.length)) (C := "RangeCodersModel") (T := T_M) (N := 35) hx hb hg in_M hown hK hP 0 rfl rfl 7 (by decide) (hg _ k959) (fun _ h9 => h9) rfl d_M_endTable_12 ?_
  refine lv_iconst (v := 1) hx hb d_M_endTable_15 (by decide) ?_
  refine lv_isub hx hb d_M_endTable_16 ?_
  refine lv_topi (fun v_1 ev_1 => ?_)
  refine lv_istore (lv' := [(4, Value.int v_1), (3, Value.int (-1)), (1, Value.long (lN 512)), (0, Value.ref o)]) hx hb d_M_endTable_17 hl (by decide) rfl (fun ls hl => ?_)
  have J_19 : ∀ (n9_19 : Nat) (V : Nat) (ld : Int32) (i9 : Int32) (k : Nat) (wl : List Nat) (vW : Nat → Int32) (so : Nat → Int32) (no : Nat → Int32) (hn9_19 : k = n9_19) (hE9 : e4N (Fvw vNow) N its its.length (512, []) = e4N (Fvw vNow) N its k (V, wl)) (hV0 : 512 ≤ V) (hV1 : V < 1024) (hi : i9 + 1 = nI k) (hk : k ≤ its.length) (hG : gIs vW wl) (hB : bt2 wl) (hW : wl.length + 9 * k ≤ 9 * its.length) (hld : ldOk km N vNow ld so no) (H : Heap) (locs : List Loc) (ls : Array Slot), va_P (dC, dI) vwCl [(o, Sum.inr (9, mO g fForm fShift fModels (nI its.length) fEnded fLow fRange fCache fPend 0 fOuts fIns fReads fBad fIR fAsk fBAsk fCode fRL fRR fX (nI wl.length) fThrown)), ((g 0), Sum.inl (cI, 8, Sum.inl vMany)), ((g 1), Sum.inl (cI, 512, Sum.inl vCounts)), ((g 2), Sum.inl (cI, 512, Sum.inl vNow)), ((g 4), Sum.inl (cI, 600, Sum.inl vIM)), ((g 5), Sum.inl (cI, 600, Sum.inl vIW)), ((g 6), Sum.inl (cI, 9000, Sum.inl vGoing)), ((g 9), Sum.inl (cI, 512, Sum.inl so)), ((g 10), Sum.inl (cI, 512, Sum.inl no)), ((g 11), Sum.inl (cI, 20000, Sum.inl vW))] H → va_D A [(o, Sum.inr (9, mO g fForm fShift fModels (nI its.length) fEnded fLow fRange fCache fPend 0 fOuts fIns fReads fBad fIR fAsk fBAsk fCode fRL fRR fX (nI wl.length) fThrown)), ((g 0), Sum.inl (cI, 8, Sum.inl vMany)), ((g 1), Sum.inl (cI, 512, Sum.inl vCounts)), ((g 2), Sum.inl (cI, 512, Sum.inl vNow)), ((g 4), Sum.inl (cI, 600, Sum.inl vIM)), ((g 5), Sum.inl (cI, 600, Sum.inl vIW)), ((g 6), Sum.inl (cI, 9000, Sum.inl vGoing)), ((g 9), Sum.inl (cI, 512, Sum.inl so)), ((g 10), Sum.inl (cI, 512, Sum.inl no)), ((g 11), Sum.inl (cI, 20000, Sum.inl vW))] → va_S A s.heap H locs → lv_has ls 9 [(4, Value.int i9), (3, Value.int ld), (1, Value.long (lN V)), (0, Value.ref o)] → W p l e R s m args below meth c H locs 0 0 Q (F0 m 19 ls []) := by
    intro n9_19
    induction n9_19 using Nat.strongRecOn with
    | ind n9_19 ih9_19 =>
      intro V ld i9 k wl vW so no hn9_19 hE9 hV0 hV1 hi hk hG hB hW hld H locs ls hP hD hS hl
      refine lv_iload hx hb d_M_endTable_19 (lv_at hl 0 rfl) ?_
      refine lv_if_lt (tgt := 187) hx hb d_M_endTable_21 (by decide) (fun c_2 => ?_) (fun c_2 => ?_)
      · refine lv_iconst (v := 0) hx hb d_M_endTable_187 (by decide) ?_
        have hkz : k = 0 := by
          rcases Nat.eq_zero_or_pos k with z | z
          · exact z
          · exact absurd (show i9 < 0 from c_2) (by rw [show i9 = nI (k - 1) from by rw [← Int32.add_sub_cancel (a := i9) (b := 1), hi]; exact pk_sub (b := 1) z]; exact nI_pos (by omega))
        refine lv_istore (lv' := [(4, Value.int 0), (3, Value.int ld), (1, Value.long (lN V)), (0, Value.ref o)]) hx hb d_M_endTable_188 hl (by decide) rfl (fun ls hl => ?_)
        have J_190 : ∀ (n9_190 : Nat) (jj : Nat) (wl2 : List Nat) (vW2 : Nat → Int32) (hn9_190 : 9 - jj = n9_190) (hjj : jj ≤ 9) (hwb : wl2 = wl ++ bvL (V - 512) jj) (hG2 : gIs vW2 wl2) (hB2 : bt2 wl2) (hW2 : wl2.length ≤ 5400 + jj) (H : Heap) (locs : List Loc) (ls : Array Slot), va_P (dC, dI) vwCl [(o, Sum.inr (9, mO g fForm fShift fModels (nI its.length) fEnded fLow fRange fCache fPend 0 fOuts fIns fReads fBad fIR fAsk fBAsk fCode fRL fRR fX (nI wl2.length) fThrown)), ((g 0), Sum.inl (cI, 8, Sum.inl vMany)), ((g 1), Sum.inl (cI, 512, Sum.inl vCounts)), ((g 2), Sum.inl (cI, 512, Sum.inl vNow)), ((g 4), Sum.inl (cI, 600, Sum.inl vIM)), ((g 5), Sum.inl (cI, 600, Sum.inl vIW)), ((g 6), Sum.inl (cI, 9000, Sum.inl vGoing)), ((g 9), Sum.inl (cI, 512, Sum.inl so)), ((g 10), Sum.inl (cI, 512, Sum.inl no)), ((g 11), Sum.inl (cI, 20000, Sum.inl vW2))] H → va_D A [(o, Sum.inr (9, mO g fForm fShift fModels (nI its.length) fEnded fLow fRange fCache fPend 0 fOuts fIns fReads fBad fIR fAsk fBAsk fCode fRL fRR fX (nI wl2.length) fThrown)), ((g 0), Sum.inl (cI, 8, Sum.inl vMany)), ((g 1), Sum.inl (cI, 512, Sum.inl vCounts)), ((g 2), Sum.inl (cI, 512, Sum.inl vNow)), ((g 4), Sum.inl (cI, 600, Sum.inl vIM)), ((g 5), Sum.inl (cI, 600, Sum.inl vIW)), ((g 6), Sum.inl (cI, 9000, Sum.inl vGoing)), ((g 9), Sum.inl (cI, 512, Sum.inl so)), ((g 10), Sum.inl (cI, 512, Sum.inl no)), ((g 11), Sum.inl (cI, 20000, Sum.inl vW2))] → va_S A s.heap H locs → lv_has ls 9 [(4, Value.int (nI jj)), (3, Value.int ld), (1, Value.long (lN V)), (0, Value.ref o)] → W p l e R s m args below meth c H locs 0 0 Q (F0 m 190 ls []) := by
          intro n9_190
          induction n9_190 using Nat.strongRecOn with
          | ind n9_190 ih9_190 =>
            intro jj wl2 vW2 hn9_190 hjj hwb hG2 hB2 hW2 H locs ls hP hD hS hl
            refine lv_iload hx hb d_M_endTable_190 (lv_at hl 0 rfl) ?_
            refine lv_bipush (v := 9) hx hb d_M_endTable_192 (by decide) ?_
            refine lv_icmp_ge (tgt := 215) hx hb d_M_endTable_194 (by decide) (fun c_3 => ?_) (fun c_3 => ?_)
            · have hW4 : e4W (Fvw vNow) N its = wl2 := by have hj9 : jj = 9 := (by have := nI_ge' (n := 9) (by omega) (by decide) c_3; omega); unfold e4W; rw [hE9, hkz, hwb, hj9]; rfl
              refine lv_iconst (v := 0) hx hb d_M_endTable_215 (by decide) ?_
              refine lv_istore (lv' := [(4, Value.int 0), (3, Value.int ld), (1, Value.long (lN V)), (0, Value.ref o)]) hx hb d_M_endTable_216 hl (by decide) rfl (fun ls hl => ?_)
              refine lv_iconst (v := 0) hx hb d_M_endTable_218 (by decide) ?_
              refine lv_istore (lv' := [(5, Value.int 0), (4, Value.int 0), (3, Value.int ld), (1, Value.long (lN V)), (0, Value.ref o)]) hx hb d_M_endTable_219 hl (by decide) rfl (fun ls hl => ?_)
              refine lv_aload_n hx hb d_M_endTable_221 rfl (lv_at hl 4 rfl) ?_
              refine va_get (D := (dC, dI)) (ci := 9) (v := .int (nI wl2.length)) (C := "RangeCodersModel") (T := T_M) (N := 35) hx hb hg in_M hown hK hP 0 rfl rfl 33 (by decide) (hg _ k985) (fun _ h9 => h9) rfl d_M_endTable_222 ?_
              refine lv_iconst (v := 1) hx hb d_M_endTable_225 (by decide) ?_
              refine lv_isub hx hb d_M_endTable_226 ?_
              refine lv_topi (fun v_4 ev_4 => ?_)
              refine lv_istore (lv' := [(6, Value.int v_4), (5, Value.int 0), (4, Value.int 0), (3, Value.int ld), (1, Value.long (lN V)), (0, Value.ref o)]) hx hb d_M_endTable_227 hl (by decide) rfl (fun ls hl => ?_)
              have J_229 : ∀ (n9_229 : Nat) (bb : Nat) (nn : Nat) (qq : Nat) (i8 : Int32) (kk : Nat) (gs : List Nat) (fG : Nat → Int32) (hn9_229 : kk = n9_229) (hi8 : i8 + 1 = nI kk) (hkk : kk ≤ wl2.length) (hnn : nn ≤ 7) (hqn : 8 * qq + nn + kk = wl2.length) (hbw : bb = byW wl2 (8 * qq) nn) (hgs : gs = pkB wl2 qq) (hGs : gIs fG gs) (hgl : gs.length + kk ≤ wl2.length) (H : Heap) (locs : List Loc) (ls : Array Slot), va_P (dC, dI) vwCl [(o, Sum.inr (9, mO g fForm fShift fModels (nI its.length) fEnded fLow fRange fCache fPend (nI gs.length) fOuts fIns fReads fBad fIR fAsk fBAsk fCode fRL fRR fX (nI wl2.length) fThrown)), ((g 0), Sum.inl (cI, 8, Sum.inl vMany)), ((g 1), Sum.inl (cI, 512, Sum.inl vCounts)), ((g 2), Sum.inl (cI, 512, Sum.inl vNow)), ((g 4), Sum.inl (cI, 600, Sum.inl vIM)), ((g 5), Sum.inl (cI, 600, Sum.inl vIW)), ((g 6), Sum.inl (cI, 9000, Sum.inl fG)), ((g 9), Sum.inl (cI, 512, Sum.inl so)), ((g 10), Sum.inl (cI, 512, Sum.inl no)), ((g 11), Sum.inl (cI, 20000, Sum.inl vW2))] H → va_D A [(o, Sum.inr (9, mO g fForm fShift fModels (nI its.length) fEnded fLow fRange fCache fPend (nI gs.length) fOuts fIns fReads fBad fIR fAsk fBAsk fCode fRL fRR fX (nI wl2.length) fThrown)), ((g 0), Sum.inl (cI, 8, Sum.inl vMany)), ((g 1), Sum.inl (cI, 512, Sum.inl vCounts)), ((g 2), Sum.inl (cI, 512, Sum.inl vNow)), ((g 4), Sum.inl (cI, 600, Sum.inl vIM)), ((g 5), Sum.inl (cI, 600, Sum.inl vIW)), ((g 6), Sum.inl (cI, 9000, Sum.inl fG)), ((g 9), Sum.inl (cI, 512, Sum.inl so)), ((g 10), Sum.inl (cI, 512, Sum.inl no)), ((g 11), Sum.inl (cI, 20000, Sum.inl vW2))] → va_S A s.heap H locs → lv_has ls 9 [(6, Value.int i8), (5, Value.int (nI nn)), (4, Value.int (nI bb)), (3, Value.int ld), (1, Value.long (lN V)), (0, Value.ref o)] → W p l e R s m args below meth c H locs 0 0 Q (F0 m 229 ls []) := by
                intro n9_229
                induction n9_229 using Nat.strongRecOn with
                | ind n9_229 ih9_229 =>
                  intro bb nn qq i8 kk gs fG hn9_229 hi8 hkk hnn hqn hbw hgs hGs hgl H locs ls hP hD hS hl
                  refine lv_iload hx hb d_M_endTable_229 (lv_at hl 0 rfl) ?_
                  refine lv_if_lt (tgt := 276) hx hb d_M_endTable_231 (by decide) (fun c_5 => ?_) (fun c_5 => ?_)
                  · have hkz2 : kk = 0 := by
                      rcases Nat.eq_zero_or_pos kk with z | z
                      · exact z
                      · exact absurd (show i8 < 0 from c_5) (by rw [show i8 = nI (kk - 1) from by rw [← Int32.add_sub_cancel (a := i8) (b := 1), hi8]; exact pk_sub (b := 1) z]; exact nI_pos (by omega))
                    have hbb : bb < 2 ^ nn := by rw [hbw]; exact byW_lt hB2 _ _
                    refine lv_iload hx hb d_M_endTable_276 (lv_at hl 1 rfl) ?_
                    refine lv_if_le (tgt := 293) hx hb d_M_endTable_278 (by decide) (fun c_6 => ?_) (fun c_6 => ?_)
                    · have hnz : nn = 0 := by rcases Nat.eq_zero_or_pos nn with z | z; exact z; exact absurd c_6 (nI_nle z (by omega))
                      exact my_vret hx hb hr hlocks hQ hK hS (Nat.le_refl _) (Nat.le_refl _) (fG, so, no, vW2, nI gs.length, nI wl2.length) (⟨by rw [hW4, show (wl2.length + 7) / 8 = qq by omega, ← hgs], by rw [hW4, show (wl2.length + 7) / 8 = qq by omega, ← hgs]; exact hGs⟩) (hP.sub [0, 1, 2, 3, 4, 5, 6, 7, 8, 9] rfl) (hD.sub [0, 1, 2, 3, 4, 5, 6, 7, 8, 9] (by decide +kernel) rfl) d_M_endTable_293
                    · have hnz : 0 < nn := by
                        rcases Nat.eq_zero_or_pos nn with z | z
                        · exact absurd (by rw [z]; exact Int32.le_refl _) c_6
                        · exact z
                      refine lv_aload_n hx hb d_M_endTable_281 rfl (lv_at hl 5 rfl) ?_
                      refine lv_iload hx hb d_M_endTable_282 (lv_at hl 2 rfl) ?_
                      refine lv_bipush (v := 8) hx hb d_M_endTable_284 (by decide) ?_
                      refine lv_iload hx hb d_M_endTable_286 (lv_at hl 1 rfl) ?_
                      refine lv_isub hx hb d_M_endTable_288 ?_
                      refine lv_topi (fun v_7 ev_7 => ?_)
                      have z9 : v_7 = nI (8 - nn) := by rw [ev_7]; exact pk_sub (a := 8) (by omega)
                      subst z9
                      refine lv_ishl hx hb d_M_endTable_289 ?_
                      refine lv_topi (fun v_8 ev_8 => ?_)
                      have z9 : v_8 = nI (bb * 2 ^ (8 - nn)) := by rw [ev_8]; exact I_shl (by omega) (by have := pw8 hbb (show nn ≤ 8 by omega); omega)
                      subst z9
                      refine my_cv (wr := [((g 0), Sum.inl (cI, 8, Sum.inl vMany)), ((g 1), Sum.inl (cI, 512, Sum.inl vCounts)), ((g 2), Sum.inl (cI, 512, Sum.inl vNow)), ((g 4), Sum.inl (cI, 600, Sum.inl vIM)), ((g 5), Sum.inl (cI, 600, Sum.inl vIW)), ((g 9), Sum.inl (cI, 512, Sum.inl so)), ((g 10), Sum.inl (cI, 512, Sum.inl no)), ((g 11), Sum.inl (cI, 20000, Sum.inl vW2))]) (va_runV (As := [Value.int (nI (bb * 2 ^ (8 - nn)))]) (rest := []) ⟨hx, hb, hml, hown, hts⟩ (c_M_write l dC dI cI cM cO H.size o g fForm fShift fModels (nI its.length) fEnded fLow fRange fCache fPend fOuts fIns fReads fBad fIR fAsk fBAsk fCode fRL fRR fX (nI wl2.length) fThrown fG gs (bb * 2 ^ (8 - nn)) (hGs) (by omega) (by have := pw8 hbb (show nn ≤ 8 by omega); omega)) (cwV 1 hts (my_gV k1107 k1109 ks32 k12 k1110) rfl rfl rfl (by decide +kernel) ⟨by rw [hR]; exact Nat.le_of_ble_eq_true rfl, by rw [hR]; exact Nat.le_of_ble_eq_true rfl⟩) (my_preV hK hN (hP.sub [0, 6] rfl) (hD.sub [0, 6] (by decide +kernel) rfl) 0 rfl rfl) rfl rfl hl.1 rfl (lv_room (Nat.le_of_ble_eq_true rfl)) d_M_endTable_290 ⟨by rw [hR]; exact Nat.le_of_ble_eq_true rfl, by rw [hR]; exact Nat.le_of_ble_eq_true rfl⟩) hP hD hS hA [0, 6] [1, 2, 3, 4, 5, 7, 8, 9] rfl rfl (by decide +kernel) (by decide +kernel) (fun u9 H locs hw_290 hP hD hS => ?_)
                      obtain ⟨v2_290, rfl⟩ : ∃ z, z = u9 := ⟨_, rfl⟩
                      have hw_290 : gIs v2_290 (gs ++ [(bb * 2 ^ (8 - nn)) % 256]) := hw_290
                      have hP : va_P (dC, dI) vwCl [((g 0), Sum.inl (cI, 8, Sum.inl vMany)), ((g 1), Sum.inl (cI, 512, Sum.inl vCounts)), ((g 2), Sum.inl (cI, 512, Sum.inl vNow)), ((g 4), Sum.inl (cI, 600, Sum.inl vIM)), ((g 5), Sum.inl (cI, 600, Sum.inl vIW)), ((g 9), Sum.inl (cI, 512, Sum.inl so)), ((g 10), Sum.inl (cI, 512, Sum.inl no)), ((g 11), Sum.inl (cI, 20000, Sum.inl vW2)), (o, Sum.inr (9, mO g fForm fShift fModels (nI its.length) fEnded fLow fRange fCache fPend (nI (gs ++ [(bb * 2 ^ (8 - nn)) % 256]).length) fOuts fIns fReads fBad fIR fAsk fBAsk fCode fRL fRR fX (nI wl2.length) fThrown)), ((g 6), Sum.inl (cI, 9000, Sum.inl v2_290))] H := hP
                      have hD : va_D A [((g 0), Sum.inl (cI, 8, Sum.inl vMany)), ((g 1), Sum.inl (cI, 512, Sum.inl vCounts)), ((g 2), Sum.inl (cI, 512, Sum.inl vNow)), ((g 4), Sum.inl (cI, 600, Sum.inl vIM)), ((g 5), Sum.inl (cI, 600, Sum.inl vIW)), ((g 9), Sum.inl (cI, 512, Sum.inl so)), ((g 10), Sum.inl (cI, 512, Sum.inl no)), ((g 11), Sum.inl (cI, 20000, Sum.inl vW2)), (o, Sum.inr (9, mO g fForm fShift fModels (nI its.length) fEnded fLow fRange fCache fPend (nI (gs ++ [(bb * 2 ^ (8 - nn)) % 256]).length) fOuts fIns fReads fBad fIR fAsk fBAsk fCode fRL fRR fX (nI wl2.length) fThrown)), ((g 6), Sum.inl (cI, 9000, Sum.inl v2_290))] := hD
                      exact my_vret hx hb hr hlocks hQ hK hS (Nat.le_refl _) (Nat.le_refl _) (v2_290, so, no, vW2, nI (gs ++ [(bb * 2 ^ (8 - nn)) % 256]).length, (nI wl2.length)) (⟨by rw [hW4, show (wl2.length + 7) / 8 = qq + 1 by omega, pkB, ← hgs]; have z9 : byW wl2 (8 * qq) 8 = bb * 2 ^ (8 - nn) % 256 := (by rw [hbw, Nat.mod_eq_of_lt (by rw [← hbw]; exact pw8 hbb (by omega))]; have z8 := byW_0 (ws := wl2) (fm := 8 * qq) (k := nn) (by omega) (8 - nn); rw [show nn + (8 - nn) = 8 by omega] at z8; exact z8); rw [z9], by rw [hW4, show (wl2.length + 7) / 8 = qq + 1 by omega, pkB, ← hgs]; have z9 : byW wl2 (8 * qq) 8 = bb * 2 ^ (8 - nn) % 256 := (by rw [hbw, Nat.mod_eq_of_lt (by rw [← hbw]; exact pw8 hbb (by omega))]; have z8 := byW_0 (ws := wl2) (fm := 8 * qq) (k := nn) (by omega) (8 - nn); rw [show nn + (8 - nn) = 8 by omega] at z8; exact z8); rw [z9]; exact hw_290⟩) (hP.sub [8, 0, 1, 2, 3, 4, 9, 5, 6, 7] rfl) (hD.sub [8, 0, 1, 2, 3, 4, 9, 5, 6, 7] (by decide +kernel) rfl) d_M_endTable_293
                  · have hk7 : 1 ≤ kk := by
                      rcases Nat.eq_zero_or_pos kk with z | z
                      · subst z; exact absurd (show i8 < 0 by rw [show i8 = -1 from by rw [← Int32.add_sub_cancel (a := i8) (b := 1), hi8]; rfl]; decide) c_5
                      · exact z
                    have hi7 : i8 = nI (kk - 1) := by rw [← Int32.add_sub_cancel (a := i8) (b := 1), hi8]; exact pk_sub (b := 1) hk7
                    have hbit := bt2_at (i := kk - 1) hB2
                    have hbb : bb < 2 ^ nn := by rw [hbw]; exact byW_lt hB2 _ _
                    have hbs := pw7 (pw_lt hbb hbit) (show nn + 1 ≤ 8 by omega)
                    have hrv : rvB wl2 (8 * qq + nn) = byA wl2 (kk - 1) := by unfold rvB; rw [if_pos (by omega), show wl2.length - 1 - (8 * qq + nn) = kk - 1 by omega]
                    have hbw2 : 2 * bb + byA wl2 (kk - 1) = byW wl2 (8 * qq) (nn + 1) := by rw [byW, ← hbw, hrv]
                    refine lv_iconst (v := 2) hx hb d_M_endTable_234 (by decide) ?_
                    refine lv_iload hx hb d_M_endTable_235 (lv_at hl 2 rfl) ?_
                    refine lv_imul hx hb d_M_endTable_237 ?_
                    refine lv_topi (fun v_9 ev_9 => ?_)
                    refine lv_aload_n hx hb d_M_endTable_238 rfl (lv_at hl 5 rfl) ?_
                    refine va_get (D := (dC, dI)) (ci := 9) (v := .ref (g 11)) (C := "RangeCodersModel") (T := T_M) (N := 35) hx hb hg in_M hown hK hP 0 rfl rfl 32 (by decide) (hg _ k984) (fun _ h9 => h9) rfl d_M_endTable_239 ?_
                    refine lv_iload hx hb d_M_endTable_242 (lv_at hl 0 rfl) ?_
                    refine va_iald hx hb hK hP 9 0 rfl rfl (by rw [hi7]; exact vp_in_nI (by omega) (by decide)) d_M_endTable_244 ?_
                    refine lv_topi (fun v_10 ev_10 => ?_)
                    have z9 : v_10 = nI (byA wl2 (kk - 1)) := by rw [ev_10, hi7, nI_clamp (by omega)]; exact hG2 _ (by omega)
                    subst z9
                    refine lv_iadd hx hb d_M_endTable_245 ?_
                    refine lv_topi (fun v_11 ev_11 => ?_)
                    have z9 : v_11 = nI (2 * bb + byA wl2 (kk - 1)) := by rw [ev_11, ev_9, show (2 : Int32) = nI 2 from rfl, pk_mul, nI_add]
                    subst z9
                    refine lv_istore (lv' := [(4, Value.int (nI (2 * bb + byA wl2 (kk - 1)))), (6, Value.int i8), (5, Value.int (nI nn)), (3, Value.int ld), (1, Value.long (lN V)), (0, Value.ref o)]) hx hb d_M_endTable_246 hl (by decide) rfl (fun ls hl => ?_)
                    obtain ⟨v_12, ev_12⟩ : ∃ y : Int32, y = (nI nn) + (1) := ⟨_, rfl⟩
                    refine lv_iinc (v := v_12) (lv' := [(5, Value.int v_12), (4, Value.int (nI (2 * bb + byA wl2 (kk - 1)))), (6, Value.int i8), (3, Value.int ld), (1, Value.long (lN V)), (0, Value.ref o)]) hx hb d_M_endTable_248 hl (k := 2) rfl (by rw [ev_12]; rfl) (by decide) rfl (fun ls hl => ?_)
                    have z9 : v_12 = nI (nn + 1) := by rw [ev_12]; exact nI_1 _
                    subst z9
                    refine lv_iload hx hb d_M_endTable_251 (lv_at hl 0 rfl) ?_
                    refine lv_bipush (v := 8) hx hb d_M_endTable_253 (by decide) ?_
                    refine lv_icmp_ne (tgt := 270) hx hb d_M_endTable_255 (by decide) (fun c_13 => ?_) (fun c_13 => ?_)
                    · have hn8 : ¬ nn + 1 = 8 := fun z9 => c_13 (by rw [z9]; rfl)
                      obtain ⟨v_14, ev_14⟩ : ∃ y : Int32, y = i8 + (-1) := ⟨_, rfl⟩
                      refine lv_iinc (v := v_14) (lv' := [(6, Value.int v_14), (5, Value.int (nI (nn + 1))), (4, Value.int (nI (2 * bb + byA wl2 (kk - 1)))), (3, Value.int ld), (1, Value.long (lN V)), (0, Value.ref o)]) hx hb d_M_endTable_270 hl (k := 2) rfl (by rw [ev_14]; rfl) (by decide) rfl (fun ls hl => ?_)
                      refine lv_goto (tgt := 229) hx hb d_M_endTable_273 (by decide) ?_
                      exact ih9_229 _ (by first | omega | (omega)) (2 * bb + byA wl2 (kk - 1)) (nn + 1) qq v_14 (kk - 1) gs fG rfl (by rw [ev_14, Int32.add_assoc, show (-1 : Int32) + 1 = 0 from by decide, Int32.add_zero]; exact hi7) (by omega) (by omega) (by omega) (hbw2) (hgs) (hGs) (by omega) H locs ls (hP.sub [0, 1, 2, 3, 4, 5, 6, 7, 8, 9] rfl) (hD.sub [0, 1, 2, 3, 4, 5, 6, 7, 8, 9] (by decide +kernel) rfl) hS (lv_sub hl [0, 1, 2, 3, 4, 5] rfl)
                    · have hn8 : nn + 1 = 8 := nI_inj (by omega) (by decide) c_13
                      have hn8b : byW wl2 (8 * qq) 8 = (2 * bb + byA wl2 (kk - 1)) % 256 := by rw [hbw2, hn8, Nat.mod_eq_of_lt (byW_lt hB2 _ 8)]
                      refine lv_aload_n hx hb d_M_endTable_258 rfl (lv_at hl 5 rfl) ?_
                      refine lv_iload hx hb d_M_endTable_259 (lv_at hl 1 rfl) ?_
                      refine my_cv (wr := [((g 0), Sum.inl (cI, 8, Sum.inl vMany)), ((g 1), Sum.inl (cI, 512, Sum.inl vCounts)), ((g 2), Sum.inl (cI, 512, Sum.inl vNow)), ((g 4), Sum.inl (cI, 600, Sum.inl vIM)), ((g 5), Sum.inl (cI, 600, Sum.inl vIW)), ((g 9), Sum.inl (cI, 512, Sum.inl so)), ((g 10), Sum.inl (cI, 512, Sum.inl no)), ((g 11), Sum.inl (cI, 20000, Sum.inl vW2))]) (va_runV (As := [Value.int (nI (2 * bb + byA wl2 (kk - 1)))]) (rest := []) ⟨hx, hb, hml, hown, hts⟩ (c_M_write l dC dI cI cM cO H.size o g fForm fShift fModels (nI its.length) fEnded fLow fRange fCache fPend fOuts fIns fReads fBad fIR fAsk fBAsk fCode fRL fRR fX (nI wl2.length) fThrown fG gs (2 * bb + byA wl2 (kk - 1)) (hGs) (by omega) (by omega)) (cwV 1 hts (my_gV k1107 k1109 ks32 k12 k1110) rfl rfl rfl (by decide +kernel) ⟨by rw [hR]; exact Nat.le_of_ble_eq_true rfl, by rw [hR]; exact Nat.le_of_ble_eq_true rfl⟩) (my_preV hK hN (hP.sub [0, 6] rfl) (hD.sub [0, 6] (by decide +kernel) rfl) 0 rfl rfl) rfl rfl hl.1 rfl (lv_room (Nat.le_of_ble_eq_true rfl)) d_M_endTable_261 ⟨by rw [hR]; exact Nat.le_of_ble_eq_true rfl, by rw [hR]; exact Nat.le_of_ble_eq_true rfl⟩) hP hD hS hA [0, 6] [1, 2, 3, 4, 5, 7, 8, 9] rfl rfl (by decide +kernel) (by decide +kernel) (fun u9 H locs hw_261 hP hD hS => ?_)
                      obtain ⟨v2_261, rfl⟩ : ∃ z, z = u9 := ⟨_, rfl⟩
                      have hw_261 : gIs v2_261 (gs ++ [(2 * bb + byA wl2 (kk - 1)) % 256]) := hw_261
                      have hP : va_P (dC, dI) vwCl [((g 0), Sum.inl (cI, 8, Sum.inl vMany)), ((g 1), Sum.inl (cI, 512, Sum.inl vCounts)), ((g 2), Sum.inl (cI, 512, Sum.inl vNow)), ((g 4), Sum.inl (cI, 600, Sum.inl vIM)), ((g 5), Sum.inl (cI, 600, Sum.inl vIW)), ((g 9), Sum.inl (cI, 512, Sum.inl so)), ((g 10), Sum.inl (cI, 512, Sum.inl no)), ((g 11), Sum.inl (cI, 20000, Sum.inl vW2)), (o, Sum.inr (9, mO g fForm fShift fModels (nI its.length) fEnded fLow fRange fCache fPend (nI (gs ++ [(2 * bb + byA wl2 (kk - 1)) % 256]).length) fOuts fIns fReads fBad fIR fAsk fBAsk fCode fRL fRR fX (nI wl2.length) fThrown)), ((g 6), Sum.inl (cI, 9000, Sum.inl v2_261))] H := hP
                      have hD : va_D A [((g 0), Sum.inl (cI, 8, Sum.inl vMany)), ((g 1), Sum.inl (cI, 512, Sum.inl vCounts)), ((g 2), Sum.inl (cI, 512, Sum.inl vNow)), ((g 4), Sum.inl (cI, 600, Sum.inl vIM)), ((g 5), Sum.inl (cI, 600, Sum.inl vIW)), ((g 9), Sum.inl (cI, 512, Sum.inl so)), ((g 10), Sum.inl (cI, 512, Sum.inl no)), ((g 11), Sum.inl (cI, 20000, Sum.inl vW2)), (o, Sum.inr (9, mO g fForm fShift fModels (nI its.length) fEnded fLow fRange fCache fPend (nI (gs ++ [(2 * bb + byA wl2 (kk - 1)) % 256]).length) fOuts fIns fReads fBad fIR fAsk fBAsk fCode fRL fRR fX (nI wl2.length) fThrown)), ((g 6), Sum.inl (cI, 9000, Sum.inl v2_261))] := hD
                      refine lv_iconst (v := 0) hx hb d_M_endTable_264 (by decide) ?_
                      refine lv_istore (lv' := [(4, Value.int 0), (5, Value.int (nI (nn + 1))), (6, Value.int i8), (3, Value.int ld), (1, Value.long (lN V)), (0, Value.ref o)]) hx hb d_M_endTable_265 hl (by decide) rfl (fun ls hl => ?_)
                      refine lv_iconst (v := 0) hx hb d_M_endTable_267 (by decide) ?_
                      refine lv_istore (lv' := [(5, Value.int 0), (4, Value.int 0), (6, Value.int i8), (3, Value.int ld), (1, Value.long (lN V)), (0, Value.ref o)]) hx hb d_M_endTable_268 hl (by decide) rfl (fun ls hl => ?_)
                      obtain ⟨v_15, ev_15⟩ : ∃ y : Int32, y = i8 + (-1) := ⟨_, rfl⟩
                      refine lv_iinc (v := v_15) (lv' := [(6, Value.int v_15), (5, Value.int 0), (4, Value.int 0), (3, Value.int ld), (1, Value.long (lN V)), (0, Value.ref o)]) hx hb d_M_endTable_270 hl (k := 2) rfl (by rw [ev_15]; rfl) (by decide) rfl (fun ls hl => ?_)
                      refine lv_goto (tgt := 229) hx hb d_M_endTable_273 (by decide) ?_
                      exact ih9_229 _ (by first | omega | (omega)) (0 : Nat) (0 : Nat) (qq + 1) v_15 (kk - 1) (gs ++ [(2 * bb + byA wl2 (kk - 1)) % 256]) v2_261 rfl (by rw [ev_15, Int32.add_assoc, show (-1 : Int32) + 1 = 0 from by decide, Int32.add_zero]; exact hi7) (by omega) (by omega) (by omega) (rfl) (by rw [hgs, pkB, hn8b]) (hw_261) (by rw [List.length_append, List.length_singleton]; omega) H locs ls (hP.sub [8, 0, 1, 2, 3, 4, 9, 5, 6, 7] rfl) (hD.sub [8, 0, 1, 2, 3, 4, 9, 5, 6, 7] (by decide +kernel) rfl) hS (lv_sub hl [0, 1, 2, 3, 4, 5] rfl)
              exact J_229 _ (0 : Nat) (0 : Nat) (0 : Nat) v_4 wl2.length ([] : List Nat) vGoing rfl (by rw [ev_4]; exact Int32.sub_add_cancel _ _) (Nat.le_refl _) (by decide) (by omega) (rfl) (rfl) (fun z9 h9 => absurd h9 (Nat.not_lt_zero z9)) (by show 0 + _ ≤ _; omega) H locs ls (hP.sub [0, 1, 2, 3, 4, 5, 6, 7, 8, 9] rfl) (hD.sub [0, 1, 2, 3, 4, 5, 6, 7, 8, 9] (by decide +kernel) rfl) hS (lv_sub hl [0, 1, 2, 3, 4, 5] rfl)
            · have hjl : jj < 9 := by
                rcases Nat.lt_or_ge jj 9 with z | z
                · exact z
                · exact absurd (nI_le (a := 9) z (by omega)) c_3
              refine lv_aload_n hx hb d_M_endTable_197 rfl (lv_at hl 3 rfl) ?_
              refine lv_lload_n hx hb d_M_endTable_198 rfl (lv_at hl 2 rfl) ?_
              refine lv_ldc2 (v := 512) hx hb hown (hg _ k1160) d_M_endTable_199 ?_
              refine lv_lsub hx hb d_M_endTable_202 ?_
              refine lv_topl (fun v_16 ev_16 => ?_)
              have z9 : v_16 = lN (V - 512) := by rw [ev_16]; exact lN_sub hV0
              subst z9
              refine lv_iload hx hb d_M_endTable_203 (lv_at hl 0 rfl) ?_
              refine lv_lshr hx hb d_M_endTable_205 rfl ?_
              refine lv_topl (fun v_17 ev_17 => ?_)
              have z9 : v_17 = lN ((V - 512) / 2 ^ jj) := by rw [ev_17]; exact L_shrV (by omega) hjl
              subst z9
              refine my_cv (wr := [((g 0), Sum.inl (cI, 8, Sum.inl vMany)), ((g 1), Sum.inl (cI, 512, Sum.inl vCounts)), ((g 2), Sum.inl (cI, 512, Sum.inl vNow)), ((g 4), Sum.inl (cI, 600, Sum.inl vIM)), ((g 5), Sum.inl (cI, 600, Sum.inl vIW)), ((g 6), Sum.inl (cI, 9000, Sum.inl vGoing)), ((g 9), Sum.inl (cI, 512, Sum.inl so)), ((g 10), Sum.inl (cI, 512, Sum.inl no))]) (va_runV (As := [Value.long (lN ((V - 512) / 2 ^ jj))]) (rest := []) ⟨hx, hb, hml, hown, hts⟩ (c_M_writeBit l dC dI cI cM cO H.size o g fForm fShift fModels (nI its.length) fEnded fLow fRange fCache fPend 0 fOuts fIns fReads fBad fIR fAsk fBAsk fCode fRL fRR fX fThrown vW2 wl2 ((V - 512) / 2 ^ jj) (hG2) (by omega) (Nat.lt_of_le_of_lt (Nat.div_le_self _ _) (by omega))) (cwV 1 hts (my_gV k1161 k1163 ks42 k12 k1164) rfl rfl rfl (by decide +kernel) ⟨by rw [hR]; exact Nat.le_of_ble_eq_true rfl, by rw [hR]; exact Nat.le_of_ble_eq_true rfl⟩) (my_preV hK hN (hP.sub [0, 9] rfl) (hD.sub [0, 9] (by decide +kernel) rfl) 0 rfl rfl) rfl rfl hl.1 rfl (lv_room (Nat.le_of_ble_eq_true rfl)) d_M_endTable_206 ⟨by rw [hR]; exact Nat.le_of_ble_eq_true rfl, by rw [hR]; exact Nat.le_of_ble_eq_true rfl⟩) hP hD hS hA [0, 9] [1, 2, 3, 4, 5, 6, 7, 8] rfl rfl (by decide +kernel) (by decide +kernel) (fun u9 H locs hw_206 hP hD hS => ?_)
              obtain ⟨v2_206, rfl⟩ : ∃ z, z = u9 := ⟨_, rfl⟩
              have hw_206 : gIs v2_206 (wl2 ++ [((V - 512) / 2 ^ jj) % 2]) := hw_206
              have hP : va_P (dC, dI) vwCl [((g 0), Sum.inl (cI, 8, Sum.inl vMany)), ((g 1), Sum.inl (cI, 512, Sum.inl vCounts)), ((g 2), Sum.inl (cI, 512, Sum.inl vNow)), ((g 4), Sum.inl (cI, 600, Sum.inl vIM)), ((g 5), Sum.inl (cI, 600, Sum.inl vIW)), ((g 6), Sum.inl (cI, 9000, Sum.inl vGoing)), ((g 9), Sum.inl (cI, 512, Sum.inl so)), ((g 10), Sum.inl (cI, 512, Sum.inl no)), (o, Sum.inr (9, mO g fForm fShift fModels (nI its.length) fEnded fLow fRange fCache fPend 0 fOuts fIns fReads fBad fIR fAsk fBAsk fCode fRL fRR fX (nI (wl2 ++ [((V - 512) / 2 ^ jj) % 2]).length) fThrown)), ((g 11), Sum.inl (cI, 20000, Sum.inl v2_206))] H := hP
              have hD : va_D A [((g 0), Sum.inl (cI, 8, Sum.inl vMany)), ((g 1), Sum.inl (cI, 512, Sum.inl vCounts)), ((g 2), Sum.inl (cI, 512, Sum.inl vNow)), ((g 4), Sum.inl (cI, 600, Sum.inl vIM)), ((g 5), Sum.inl (cI, 600, Sum.inl vIW)), ((g 6), Sum.inl (cI, 9000, Sum.inl vGoing)), ((g 9), Sum.inl (cI, 512, Sum.inl so)), ((g 10), Sum.inl (cI, 512, Sum.inl no)), (o, Sum.inr (9, mO g fForm fShift fModels (nI its.length) fEnded fLow fRange fCache fPend 0 fOuts fIns fReads fBad fIR fAsk fBAsk fCode fRL fRR fX (nI (wl2 ++ [((V - 512) / 2 ^ jj) % 2]).length) fThrown)), ((g 11), Sum.inl (cI, 20000, Sum.inl v2_206))] := hD
              obtain ⟨v_18, ev_18⟩ : ∃ y : Int32, y = (nI jj) + (1) := ⟨_, rfl⟩
              refine lv_iinc (v := v_18) (lv' := [(4, Value.int v_18), (3, Value.int ld), (1, Value.long (lN V)), (0, Value.ref o)]) hx hb d_M_endTable_209 hl (k := 0) rfl (by rw [ev_18]; rfl) (by decide) rfl (fun ls hl => ?_)
              have z9 : v_18 = nI (jj + 1) := by rw [ev_18]; exact nI_1 _
              subst z9
              refine lv_goto (tgt := 190) hx hb d_M_endTable_212 (by decide) ?_
              exact ih9_190 _ (by first | omega | (omega)) (jj + 1) (wl2 ++ [((V - 512) / 2 ^ jj) % 2]) v2_206 rfl (by omega) (by rw [hwb, bvL, List.append_assoc]) (hw_206) (bt2_add hB2 (Nat.mod_lt _ (by decide))) (by rw [List.length_append, List.length_singleton]; omega) H locs ls (hP.sub [8, 0, 1, 2, 3, 4, 5, 6, 7, 9] rfl) (hD.sub [8, 0, 1, 2, 3, 4, 5, 6, 7, 9] (by decide +kernel) rfl) hS (lv_sub hl [0, 1, 2, 3] rfl)
        exact J_190 _ (0 : Nat) wl vW rfl (by decide) (by rw [bvL, List.append_nil]) (hG) (hB) (by omega) H locs ls (hP.sub [0, 1, 2, 3, 4, 5, 6, 7, 8, 9] rfl) (hD.sub [0, 1, 2, 3, 4, 5, 6, 7, 8, 9] (by decide +kernel) rfl) hS (lv_sub hl [0, 1, 2, 3] rfl)
      · have hk0 : 1 ≤ k := by
          rcases Nat.eq_zero_or_pos k with z | z
          · subst z; exact absurd (show i9 < 0 by rw [show i9 = -1 from by rw [← Int32.add_sub_cancel (a := i9) (b := 1), hi]; rfl]; decide) c_2
          · exact z
        have hi9 : i9 = nI (k - 1) := by rw [← Int32.add_sub_cancel (a := i9) (b := 1), hi]; exact pk_sub (b := 1) hk0
        have hitk := hit (k - 1) (by omega)
        have hokk := hok (k - 1) (by omega)
        have hk8 := hMD.1
        refine lv_aload_n hx hb d_M_endTable_24 rfl (lv_at hl 3 rfl) ?_
        refine va_get (D := (dC, dI)) (ci := 9) (v := .ref (g 4)) (C := "RangeCodersModel") (T := T_M) (N := 35) hx hb hg in_M hown hK hP 0 rfl rfl 8 (by decide) (hg _ k960) (fun _ h9 => h9) rfl d_M_endTable_25 ?_
        refine lv_iload hx hb d_M_endTable_28 (lv_at hl 0 rfl) ?_
        refine va_iald hx hb hK hP 4 0 rfl rfl (by rw [hi9]; exact vp_in_nI (by omega) (by decide)) d_M_endTable_30 ?_
        refine lv_topi (fun v_19 ev_19 => ?_)
        have z9 : v_19 = itM (itA its (k - 1)) := by rw [ev_19, hi9, nI_clamp (by omega)]; exact hitk.1
        subst z9
        refine lv_istore (lv' := [(5, Value.int (itM (itA its (k - 1)))), (4, Value.int i9), (3, Value.int ld), (1, Value.long (lN V)), (0, Value.ref o)]) hx hb d_M_endTable_31 hl (by decide) rfl (fun ls hl => ?_)
        refine lv_aload_n hx hb d_M_endTable_33 rfl (lv_at hl 4 rfl) ?_
        refine va_get (D := (dC, dI)) (ci := 9) (v := .ref (g 5)) (C := "RangeCodersModel") (T := T_M) (N := 35) hx hb hg in_M hown hK hP 0 rfl rfl 9 (by decide) (hg _ k961) (fun _ h9 => h9) rfl d_M_endTable_34 ?_
        refine lv_iload hx hb d_M_endTable_37 (lv_at hl 1 rfl) ?_
        refine va_iald hx hb hK hP 5 0 rfl rfl (by rw [hi9]; exact vp_in_nI (by omega) (by decide)) d_M_endTable_39 ?_
        refine lv_topi (fun v_20 ev_20 => ?_)
        have z9 : v_20 = nI (itA its (k - 1)).2.2 := by rw [ev_20, hi9, nI_clamp (by omega)]; exact hitk.2
        subst z9
        refine lv_istore (lv' := [(6, Value.int (nI (itA its (k - 1)).2.2)), (5, Value.int (itM (itA its (k - 1)))), (4, Value.int i9), (3, Value.int ld), (1, Value.long (lN V)), (0, Value.ref o)]) hx hb d_M_endTable_40 hl (by decide) rfl (fun ls hl => ?_)
        refine lv_iload hx hb d_M_endTable_42 (lv_at hl 1 rfl) ?_
        refine lv_if_ge (tgt := 77) hx hb d_M_endTable_44 (by decide) (fun c_21 => ?_) (fun c_21 => ?_)
        · have hkd : ¬ (itA its (k - 1)).1 = 0 := (itm_pos hk8 (by decide) hokk).mp c_21
          obtain ⟨mm, ss, hmk, hsN, hfp, hs5, hsg, em, es⟩ : ∃ mm ss, mm < km ∧ ss < N mm ∧ 0 < Fvw vNow mm ss ∧ ns (Fvw vNow mm) (N mm) = 512 ∧ sgI vNow (64 * mm) (N mm) (Fvw vNow mm) ∧ itM (itA its (k - 1)) = nI mm ∧ (itA its (k - 1)).2.2 = ss := by
            rcases hokk with q | q
            · exact absurd q.1 hkd
            · exact ⟨_, _, q.2.1, q.2.2.1, q.2.2.2.1, q.2.2.2.2.1, q.2.2.2.2.2, if_neg hkd, rfl⟩
          obtain ⟨hn9, hn2, hn64, -⟩ := hMD.2 mm hmk
          obtain ⟨ff, hff⟩ : ∃ z, z = Fvw vNow mm ss := ⟨_, rfl⟩
          rw [← hff] at hfp
          have hf5 : ff ≤ 512 := by rw [hff, ← hs5]; exact ns_ge hsN
          rw [em, es] at hl
          have hl : lv_has ls 9 [(6, Value.int (nI ss)), (5, Value.int (nI mm)), (4, Value.int i9), (3, Value.int ld), (1, Value.long (lN V)), (0, Value.ref o)] := hl
          have hmk1 : (itA its (k - 1)).2.1 < km := by rcases hokk with q | q; exact absurd q.1 hkd; exact q.2.1
          have em1 : (itA its (k - 1)).2.1 = mm := nI_inj (by omega) (by omega) (by rw [← em]; unfold itM; rw [if_neg hkd])
          refine lv_iload_n hx hb d_M_endTable_77 rfl (lv_at hl 3 rfl) ?_
          have J_96 : ∀ (so9 : Nat → Int32) (no9 : Nat → Int32) (hly : layd so9 no9 (Fvw vNow mm) (N mm)) (H : Heap) (locs : List Loc) (ls : Array Slot), va_P (dC, dI) vwCl [(o, Sum.inr (9, mO g fForm fShift fModels (nI its.length) fEnded fLow fRange fCache fPend 0 fOuts fIns fReads fBad fIR fAsk fBAsk fCode fRL fRR fX (nI wl.length) fThrown)), ((g 0), Sum.inl (cI, 8, Sum.inl vMany)), ((g 1), Sum.inl (cI, 512, Sum.inl vCounts)), ((g 2), Sum.inl (cI, 512, Sum.inl vNow)), ((g 4), Sum.inl (cI, 600, Sum.inl vIM)), ((g 5), Sum.inl (cI, 600, Sum.inl vIW)), ((g 6), Sum.inl (cI, 9000, Sum.inl vGoing)), ((g 9), Sum.inl (cI, 512, Sum.inl so9)), ((g 10), Sum.inl (cI, 512, Sum.inl no9)), ((g 11), Sum.inl (cI, 20000, Sum.inl vW))] H → va_D A [(o, Sum.inr (9, mO g fForm fShift fModels (nI its.length) fEnded fLow fRange fCache fPend 0 fOuts fIns fReads fBad fIR fAsk fBAsk fCode fRL fRR fX (nI wl.length) fThrown)), ((g 0), Sum.inl (cI, 8, Sum.inl vMany)), ((g 1), Sum.inl (cI, 512, Sum.inl vCounts)), ((g 2), Sum.inl (cI, 512, Sum.inl vNow)), ((g 4), Sum.inl (cI, 600, Sum.inl vIM)), ((g 5), Sum.inl (cI, 600, Sum.inl vIW)), ((g 6), Sum.inl (cI, 9000, Sum.inl vGoing)), ((g 9), Sum.inl (cI, 512, Sum.inl so9)), ((g 10), Sum.inl (cI, 512, Sum.inl no9)), ((g 11), Sum.inl (cI, 20000, Sum.inl vW))] → va_S A s.heap H locs → lv_has ls 9 [(3, Value.int (nI mm)), (6, Value.int (nI ss)), (5, Value.int (nI mm)), (4, Value.int i9), (1, Value.long (lN V)), (0, Value.ref o)] → W p l e R s m args below meth c H locs 0 0 Q (F0 m 96 ls []) := by
            intro so9 no9 hly H locs ls hP hD hS hl
            refine lv_aload_n hx hb d_M_endTable_96 rfl (lv_at hl 5 rfl) ?_
            refine va_get (D := (dC, dI)) (ci := 9) (v := .ref (g 2)) (C := "RangeCodersModel") (T := T_M) (N := 35) hx hb hg in_M hown hK hP 0 rfl rfl 5 (by decide) (hg _ k957) (fun _ h9 => h9) rfl d_M_endTable_97 ?_
            refine lv_bipush (v := 64) hx hb d_M_endTable_100 (by decide) ?_
            refine lv_iload hx hb d_M_endTable_102 (lv_at hl 2 rfl) ?_
            refine lv_imul hx hb d_M_endTable_104 ?_
            refine lv_topi (fun v_22 ev_22 => ?_)
            refine lv_iload hx hb d_M_endTable_105 (lv_at hl 1 rfl) ?_
            refine lv_iadd hx hb d_M_endTable_107 ?_
            refine lv_topi (fun v_23 ev_23 => ?_)
            have hix : v_23 = nI (64 * mm + ss) := by rw [ev_23, ev_22]; exact ix64
            refine va_iald hx hb hK hP 3 0 rfl rfl (by rw [hix]; exact vp_in_nI (by omega) (by decide)) d_M_endTable_108 ?_
            refine lv_topi (fun v_24 ev_24 => ?_)
            have z9 : v_24 = nI ff := by rw [ev_24, hix, nI_clamp (by omega), hff]; exact hsg ss hsN
            subst z9
            refine lv_istore (lv' := [(7, Value.int (nI ff)), (3, Value.int (nI mm)), (6, Value.int (nI ss)), (5, Value.int (nI mm)), (4, Value.int i9), (1, Value.long (lN V)), (0, Value.ref o)]) hx hb d_M_endTable_109 hl (by decide) rfl (fun ls hl => ?_)
            have J_111 : ∀ (n9_111 : Nat) (V2 : Nat) (wl2 : List Nat) (vW2 : Nat → Int32) (c9 : Nat) (hn9_111 : V2 = n9_111) (hE8 : t4N ff 10 (V, wl) = t4N ff (10 - c9) (V2, wl2)) (hf2 : ff ≤ V2) (hV2 : V2 < 2 ^ (10 - c9)) (hc9 : c9 ≤ 9) (hG2 : gIs vW2 wl2) (hB2 : bt2 wl2) (hW2 : wl2.length + 9 * k ≤ 9 * its.length + c9) (H : Heap) (locs : List Loc) (ls : Array Slot), va_P (dC, dI) vwCl [(o, Sum.inr (9, mO g fForm fShift fModels (nI its.length) fEnded fLow fRange fCache fPend 0 fOuts fIns fReads fBad fIR fAsk fBAsk fCode fRL fRR fX (nI wl2.length) fThrown)), ((g 0), Sum.inl (cI, 8, Sum.inl vMany)), ((g 1), Sum.inl (cI, 512, Sum.inl vCounts)), ((g 2), Sum.inl (cI, 512, Sum.inl vNow)), ((g 4), Sum.inl (cI, 600, Sum.inl vIM)), ((g 5), Sum.inl (cI, 600, Sum.inl vIW)), ((g 6), Sum.inl (cI, 9000, Sum.inl vGoing)), ((g 9), Sum.inl (cI, 512, Sum.inl so9)), ((g 10), Sum.inl (cI, 512, Sum.inl no9)), ((g 11), Sum.inl (cI, 20000, Sum.inl vW2))] H → va_D A [(o, Sum.inr (9, mO g fForm fShift fModels (nI its.length) fEnded fLow fRange fCache fPend 0 fOuts fIns fReads fBad fIR fAsk fBAsk fCode fRL fRR fX (nI wl2.length) fThrown)), ((g 0), Sum.inl (cI, 8, Sum.inl vMany)), ((g 1), Sum.inl (cI, 512, Sum.inl vCounts)), ((g 2), Sum.inl (cI, 512, Sum.inl vNow)), ((g 4), Sum.inl (cI, 600, Sum.inl vIM)), ((g 5), Sum.inl (cI, 600, Sum.inl vIW)), ((g 6), Sum.inl (cI, 9000, Sum.inl vGoing)), ((g 9), Sum.inl (cI, 512, Sum.inl so9)), ((g 10), Sum.inl (cI, 512, Sum.inl no9)), ((g 11), Sum.inl (cI, 20000, Sum.inl vW2))] → va_S A s.heap H locs → lv_has ls 9 [(1, Value.long (lN V2)), (7, Value.int (nI ff)), (3, Value.int (nI mm)), (6, Value.int (nI ss)), (5, Value.int (nI mm)), (4, Value.int i9), (0, Value.ref o)] → W p l e R s m args below meth c H locs 0 0 Q (F0 m 111 ls []) := by
              intro n9_111
              induction n9_111 using Nat.strongRecOn with
              | ind n9_111 ih9_111 =>
                intro V2 wl2 vW2 c9 hn9_111 hE8 hf2 hV2 hc9 hG2 hB2 hW2 H locs ls hP hD hS hl
                refine lv_lload_n hx hb d_M_endTable_111 rfl (lv_at hl 0 rfl) ?_
                refine lv_ldc2 (v := 2) hx hb hown (hg _ k1169) d_M_endTable_112 ?_
                refine lv_iload hx hb d_M_endTable_115 (lv_at hl 1 rfl) ?_
                refine lv_i2l hx hb d_M_endTable_117 rfl ?_
                refine lv_topl (fun v_25 ev_25 => ?_)
                have z9 : v_25 = lN ff := by rw [ev_25]; exact nI_l (by omega)
                subst z9
                refine lv_lmul hx hb d_M_endTable_118 ?_
                refine lv_topl (fun v_26 ev_26 => ?_)
                have z9 : v_26 = lN (2 * ff) := by rw [ev_26]; exact lN_mul 2 ff
                subst z9
                refine W.lcmp hx hb d_M_endTable_119 ?_
                refine lv_if_lt (tgt := 135) hx hb d_M_endTable_120 (by decide) (fun c_27 => ?_) (fun c_27 => ?_)
                · rw [lg_cmp_lt] at c_27
                  have hlt2 : V2 < 2 * ff := (L_lt (by have := hv_lt hV2; omega) (by omega)).mp c_27
                  obtain ⟨hp0, hpl, hnu⟩ := plO_ok hs5 hsN (d := V2 - ff) (by rw [← hff]; omega)
                  obtain ⟨p0, ep0⟩ : ∃ z, z = plO (Fvw vNow mm) (N mm) ss (V2 - ff) := ⟨_, rfl⟩
                  rw [← ep0] at hp0 hpl hnu
                  have hv10 := hv_lt hV2
                  have hE7 : t4N ff 10 (V, wl) = (V2, wl2) := by rw [hE8, t4N_e (by show ¬ 2 * ff ≤ V2; omega)]
                  refine lv_iconst (v := 0) hx hb d_M_endTable_135 (by decide) ?_
                  refine lv_istore (lv' := [(8, Value.int 0), (1, Value.long (lN V2)), (7, Value.int (nI ff)), (3, Value.int (nI mm)), (6, Value.int (nI ss)), (5, Value.int (nI mm)), (4, Value.int i9), (0, Value.ref o)]) hx hb d_M_endTable_136 hl (by decide) rfl (fun ls hl => ?_)
                  have J_138 : ∀ (n9_138 : Nat) (pp : Nat) (hn9_138 : 512 - pp = n9_138) (hpp : pp ≤ p0) (H : Heap) (locs : List Loc) (ls : Array Slot), va_P (dC, dI) vwCl [(o, Sum.inr (9, mO g fForm fShift fModels (nI its.length) fEnded fLow fRange fCache fPend 0 fOuts fIns fReads fBad fIR fAsk fBAsk fCode fRL fRR fX (nI wl2.length) fThrown)), ((g 0), Sum.inl (cI, 8, Sum.inl vMany)), ((g 1), Sum.inl (cI, 512, Sum.inl vCounts)), ((g 2), Sum.inl (cI, 512, Sum.inl vNow)), ((g 4), Sum.inl (cI, 600, Sum.inl vIM)), ((g 5), Sum.inl (cI, 600, Sum.inl vIW)), ((g 6), Sum.inl (cI, 9000, Sum.inl vGoing)), ((g 9), Sum.inl (cI, 512, Sum.inl so9)), ((g 10), Sum.inl (cI, 512, Sum.inl no9)), ((g 11), Sum.inl (cI, 20000, Sum.inl vW2))] H → va_D A [(o, Sum.inr (9, mO g fForm fShift fModels (nI its.length) fEnded fLow fRange fCache fPend 0 fOuts fIns fReads fBad fIR fAsk fBAsk fCode fRL fRR fX (nI wl2.length) fThrown)), ((g 0), Sum.inl (cI, 8, Sum.inl vMany)), ((g 1), Sum.inl (cI, 512, Sum.inl vCounts)), ((g 2), Sum.inl (cI, 512, Sum.inl vNow)), ((g 4), Sum.inl (cI, 600, Sum.inl vIM)), ((g 5), Sum.inl (cI, 600, Sum.inl vIW)), ((g 6), Sum.inl (cI, 9000, Sum.inl vGoing)), ((g 9), Sum.inl (cI, 512, Sum.inl so9)), ((g 10), Sum.inl (cI, 512, Sum.inl no9)), ((g 11), Sum.inl (cI, 20000, Sum.inl vW2))] → va_S A s.heap H locs → lv_has ls 9 [(8, Value.int (nI pp)), (1, Value.long (lN V2)), (7, Value.int (nI ff)), (3, Value.int (nI mm)), (6, Value.int (nI ss)), (5, Value.int (nI mm)), (4, Value.int i9), (0, Value.ref o)] → W p l e R s m args below meth c H locs 0 0 Q (F0 m 138 ls []) := by
                    intro n9_138
                    induction n9_138 using Nat.strongRecOn with
                    | ind n9_138 ih9_138 =>
                      intro pp hn9_138 hpp H locs ls hP hD hS hl
                      refine lv_aload_n hx hb d_M_endTable_138 rfl (lv_at hl 7 rfl) ?_
                      refine va_get (D := (dC, dI)) (ci := 9) (v := .ref (g 9)) (C := "RangeCodersModel") (T := T_M) (N := 35) hx hb hg in_M hown hK hP 0 rfl rfl 30 (by decide) (hg _ k982) (fun _ h9 => h9) rfl d_M_endTable_139 ?_
                      refine lv_iload hx hb d_M_endTable_142 (lv_at hl 0 rfl) ?_
                      refine va_iald hx hb hK hP 7 0 rfl rfl (vp_in_nI (by omega) (by decide)) d_M_endTable_144 ?_
                      refine lv_topi (fun v_28 ev_28 => ?_)
                      have z9 : v_28 = nI (plc (Fvw vNow mm) (N mm) pp) := by rw [ev_28, nI_clamp (by omega)]; exact hly.1 pp (by omega)
                      subst z9
                      refine lv_iload hx hb d_M_endTable_145 (lv_at hl 4 rfl) ?_
                      refine lv_icmp_ne (tgt := 167) hx hb d_M_endTable_147 (by decide) (fun c_29 => ?_) (fun c_29 => ?_)
                      · have hpn : pp < p0 := by
                          rcases Nat.lt_or_ge pp p0 with z | z
                          · exact z
                          · exact absurd (by rw [show pp = p0 by omega, hpl]) c_29
                        obtain ⟨v_30, ev_30⟩ : ∃ y : Int32, y = (nI pp) + (1) := ⟨_, rfl⟩
                        refine lv_iinc (v := v_30) (lv' := [(8, Value.int v_30), (1, Value.long (lN V2)), (7, Value.int (nI ff)), (3, Value.int (nI mm)), (6, Value.int (nI ss)), (5, Value.int (nI mm)), (4, Value.int i9), (0, Value.ref o)]) hx hb d_M_endTable_167 hl (k := 0) rfl (by rw [ev_30]; rfl) (by decide) rfl (fun ls hl => ?_)
                        have z9 : v_30 = nI (pp + 1) := by rw [ev_30]; exact nI_1 _
                        subst z9
                        refine lv_goto (tgt := 138) hx hb d_M_endTable_170 (by decide) ?_
                        exact ih9_138 _ (by first | omega | (omega)) (pp + 1) rfl (hpn) H locs ls (hP.sub [0, 1, 2, 3, 4, 5, 6, 7, 8, 9] rfl) (hD.sub [0, 1, 2, 3, 4, 5, 6, 7, 8, 9] (by decide +kernel) rfl) hS (lv_sub hl [0, 1, 2, 3, 4, 5, 6, 7] rfl)
                      · refine lv_aload_n hx hb d_M_endTable_150 rfl (lv_at hl 7 rfl) ?_
                        refine va_get (D := (dC, dI)) (ci := 9) (v := .ref (g 10)) (C := "RangeCodersModel") (T := T_M) (N := 35) hx hb hg in_M hown hK hP 0 rfl rfl 31 (by decide) (hg _ k983) (fun _ h9 => h9) rfl d_M_endTable_151 ?_
                        refine lv_iload hx hb d_M_endTable_154 (lv_at hl 0 rfl) ?_
                        refine va_iald hx hb hK hP 8 0 rfl rfl (vp_in_nI (by omega) (by decide)) d_M_endTable_156 ?_
                        refine lv_topi (fun v_31 ev_31 => ?_)
                        have z9 : v_31 = nI (num (Fvw vNow mm) (N mm) pp) := by rw [ev_31, nI_clamp (by omega)]; exact hly.2 pp (by omega)
                        subst z9
                        refine lv_i2l hx hb d_M_endTable_157 rfl ?_
                        refine lv_topl (fun v_32 ev_32 => ?_)
                        have z9 : v_32 = lN (num (Fvw vNow mm) (N mm) pp) := by rw [ev_32]; exact nI_l (Nat.lt_of_le_of_lt (cn_le _ _ _) (by omega))
                        subst z9
                        refine lv_lload_n hx hb d_M_endTable_158 rfl (lv_at hl 1 rfl) ?_
                        refine lv_iload hx hb d_M_endTable_159 (lv_at hl 2 rfl) ?_
                        refine lv_i2l hx hb d_M_endTable_161 rfl ?_
                        refine lv_topl (fun v_33 ev_33 => ?_)
                        have z9 : v_33 = lN ff := by rw [ev_33]; exact nI_l (by omega)
                        subst z9
                        refine lv_lsub hx hb d_M_endTable_162 ?_
                        refine lv_topl (fun v_34 ev_34 => ?_)
                        have z9 : v_34 = lN (V2 - ff) := by rw [ev_34]; exact lN_sub hf2
                        subst z9
                        refine W.lcmp hx hb d_M_endTable_163 ?_
                        refine lv_if_eq (tgt := 173) hx hb d_M_endTable_164 (by decide) (fun c_35 => ?_) (fun c_35 => ?_)
                        · rw [lg_cmp_eq] at c_35
                          refine lv_ldc2 (v := 512) hx hb hown (hg _ k1160) d_M_endTable_173 ?_
                          refine lv_iload hx hb d_M_endTable_176 (lv_at hl 0 rfl) ?_
                          refine lv_i2l hx hb d_M_endTable_178 rfl ?_
                          refine lv_topl (fun v_36 ev_36 => ?_)
                          have z9 : v_36 = lN pp := by rw [ev_36]; exact nI_l (by omega)
                          subst z9
                          refine lv_ladd hx hb d_M_endTable_179 ?_
                          refine lv_topl (fun v_37 ev_37 => ?_)
                          have z9 : v_37 = lN (512 + pp) := by rw [ev_37]; exact lN_add 512 pp
                          subst z9
                          refine lv_lstore_n (lv' := [(1, Value.long (lN (512 + pp))), (8, Value.int (nI pp)), (7, Value.int (nI ff)), (3, Value.int (nI mm)), (6, Value.int (nI ss)), (5, Value.int (nI mm)), (4, Value.int i9), (0, Value.ref o)]) hx hb d_M_endTable_180 rfl hl (by decide) rfl (fun ls hl => ?_)
                          have hpe : pp = p0 := by rw [ep0]; exact plO_eq hs5 (by omega) (nI_inj (by have := plc_lt (p := pp) hs5; omega) (by omega) (c_29)) ((L_eqN (Nat.lt_of_le_of_lt (cn_le _ _ _) (by omega)) (by omega)).mp (c_35)) hsN
                          have hT4 : (512 + pp, wl2) = t4I (Fvw vNow (itA its (k - 1)).2.1) (N (itA its (k - 1)).2.1) (itA its (k - 1)).2.2 (V, wl) := by rw [em1, es]; unfold t4I; rw [← hff, hE7, hpe, ep0]
                          obtain ⟨v_38, ev_38⟩ : ∃ y : Int32, y = i9 + (-1) := ⟨_, rfl⟩
                          refine lv_iinc (v := v_38) (lv' := [(4, Value.int v_38), (1, Value.long (lN (512 + pp))), (8, Value.int (nI pp)), (7, Value.int (nI ff)), (3, Value.int (nI mm)), (6, Value.int (nI ss)), (5, Value.int (nI mm)), (0, Value.ref o)]) hx hb d_M_endTable_181 hl (k := 6) rfl (by rw [ev_38]; rfl) (by decide) rfl (fun ls hl => ?_)
                          refine lv_goto (tgt := 19) hx hb d_M_endTable_184 (by decide) ?_
                          exact ih9_19 _ (by first | omega | (omega)) (512 + pp) (nI mm) v_38 (k - 1) wl2 vW2 so9 no9 rfl (by rw [hE9, show e4N (Fvw vNow) N its k (V, wl) = e4N (Fvw vNow) N its (k - 1 + 1) (V, wl) by rw [Nat.sub_add_cancel hk0], e4N]; unfold e4I; rw [if_neg hkd, ← hT4]) (by omega) (by omega) (by rw [ev_38, Int32.add_assoc, show (-1 : Int32) + 1 = 0 from by decide, Int32.add_zero]; exact hi9) (by omega) (hG2) (hB2) (by omega) (Or.inr ⟨mm, hmk, rfl, hly⟩) H locs ls (hP.sub [0, 1, 2, 3, 4, 5, 6, 7, 8, 9] rfl) (hD.sub [0, 1, 2, 3, 4, 5, 6, 7, 8, 9] (by decide +kernel) rfl) hS (lv_sub hl [0, 4, 1, 7] rfl)
                        · rw [lg_cmp_eq] at c_35
                          have hpn : pp < p0 := by
                            rcases Nat.lt_or_ge pp p0 with z | z
                            · exact z
                            · exact absurd (by rw [show pp = p0 by omega, hnu]) c_35
                          obtain ⟨v_39, ev_39⟩ : ∃ y : Int32, y = (nI pp) + (1) := ⟨_, rfl⟩
                          refine lv_iinc (v := v_39) (lv' := [(8, Value.int v_39), (1, Value.long (lN V2)), (7, Value.int (nI ff)), (3, Value.int (nI mm)), (6, Value.int (nI ss)), (5, Value.int (nI mm)), (4, Value.int i9), (0, Value.ref o)]) hx hb d_M_endTable_167 hl (k := 0) rfl (by rw [ev_39]; rfl) (by decide) rfl (fun ls hl => ?_)
                          have z9 : v_39 = nI (pp + 1) := by rw [ev_39]; exact nI_1 _
                          subst z9
                          refine lv_goto (tgt := 138) hx hb d_M_endTable_170 (by decide) ?_
                          exact ih9_138 _ (by first | omega | (omega)) (pp + 1) rfl (hpn) H locs ls (hP.sub [0, 1, 2, 3, 4, 5, 6, 7, 8, 9] rfl) (hD.sub [0, 1, 2, 3, 4, 5, 6, 7, 8, 9] (by decide +kernel) rfl) hS (lv_sub hl [0, 1, 2, 3, 4, 5, 6, 7] rfl)
                  exact J_138 _ (0 : Nat) rfl (Nat.zero_le _) H locs ls (hP.sub [0, 1, 2, 3, 4, 5, 6, 7, 8, 9] rfl) (hD.sub [0, 1, 2, 3, 4, 5, 6, 7, 8, 9] (by decide +kernel) rfl) hS (lv_sub hl [0, 1, 2, 3, 4, 5, 6, 7] rfl)
                · rw [lg_cmp_lt] at c_27
                  have hge : 2 * ff ≤ V2 := by
                    rcases Nat.lt_or_ge V2 (2 * ff) with z | z
                    · exact absurd ((L_lt (by have := hv_lt hV2; omega) (by omega)).mpr z) c_27
                    · exact z
                  have hc8 := hc_lt hV2 hc9 (by omega)
                  have hv10 := hv_lt hV2
                  refine lv_aload_n hx hb d_M_endTable_123 rfl (lv_at hl 6 rfl) ?_
                  refine lv_lload_n hx hb d_M_endTable_124 rfl (lv_at hl 0 rfl) ?_
                  refine my_cv (wr := [((g 0), Sum.inl (cI, 8, Sum.inl vMany)), ((g 1), Sum.inl (cI, 512, Sum.inl vCounts)), ((g 2), Sum.inl (cI, 512, Sum.inl vNow)), ((g 4), Sum.inl (cI, 600, Sum.inl vIM)), ((g 5), Sum.inl (cI, 600, Sum.inl vIW)), ((g 6), Sum.inl (cI, 9000, Sum.inl vGoing)), ((g 9), Sum.inl (cI, 512, Sum.inl so9)), ((g 10), Sum.inl (cI, 512, Sum.inl no9))]) (va_runV (As := [Value.long (lN V2)]) (rest := []) ⟨hx, hb, hml, hown, hts⟩ (c_M_writeBit l dC dI cI cM cO H.size o g fForm fShift fModels (nI its.length) fEnded fLow fRange fCache fPend 0 fOuts fIns fReads fBad fIR fAsk fBAsk fCode fRL fRR fX fThrown vW2 wl2 V2 (hG2) (by omega) (by omega)) (cwV 1 hts (my_gV k1161 k1163 ks42 k12 k1164) rfl rfl rfl (by decide +kernel) ⟨by rw [hR]; exact Nat.le_of_ble_eq_true rfl, by rw [hR]; exact Nat.le_of_ble_eq_true rfl⟩) (my_preV hK hN (hP.sub [0, 9] rfl) (hD.sub [0, 9] (by decide +kernel) rfl) 0 rfl rfl) rfl rfl hl.1 rfl (lv_room (Nat.le_of_ble_eq_true rfl)) d_M_endTable_125 ⟨by rw [hR]; exact Nat.le_of_ble_eq_true rfl, by rw [hR]; exact Nat.le_of_ble_eq_true rfl⟩) hP hD hS hA [0, 9] [1, 2, 3, 4, 5, 6, 7, 8] rfl rfl (by decide +kernel) (by decide +kernel) (fun u9 H locs hw_125 hP hD hS => ?_)
                  obtain ⟨v2_125, rfl⟩ : ∃ z, z = u9 := ⟨_, rfl⟩
                  have hw_125 : gIs v2_125 (wl2 ++ [V2 % 2]) := hw_125
                  have hP : va_P (dC, dI) vwCl [((g 0), Sum.inl (cI, 8, Sum.inl vMany)), ((g 1), Sum.inl (cI, 512, Sum.inl vCounts)), ((g 2), Sum.inl (cI, 512, Sum.inl vNow)), ((g 4), Sum.inl (cI, 600, Sum.inl vIM)), ((g 5), Sum.inl (cI, 600, Sum.inl vIW)), ((g 6), Sum.inl (cI, 9000, Sum.inl vGoing)), ((g 9), Sum.inl (cI, 512, Sum.inl so9)), ((g 10), Sum.inl (cI, 512, Sum.inl no9)), (o, Sum.inr (9, mO g fForm fShift fModels (nI its.length) fEnded fLow fRange fCache fPend 0 fOuts fIns fReads fBad fIR fAsk fBAsk fCode fRL fRR fX (nI (wl2 ++ [V2 % 2]).length) fThrown)), ((g 11), Sum.inl (cI, 20000, Sum.inl v2_125))] H := hP
                  have hD : va_D A [((g 0), Sum.inl (cI, 8, Sum.inl vMany)), ((g 1), Sum.inl (cI, 512, Sum.inl vCounts)), ((g 2), Sum.inl (cI, 512, Sum.inl vNow)), ((g 4), Sum.inl (cI, 600, Sum.inl vIM)), ((g 5), Sum.inl (cI, 600, Sum.inl vIW)), ((g 6), Sum.inl (cI, 9000, Sum.inl vGoing)), ((g 9), Sum.inl (cI, 512, Sum.inl so9)), ((g 10), Sum.inl (cI, 512, Sum.inl no9)), (o, Sum.inr (9, mO g fForm fShift fModels (nI its.length) fEnded fLow fRange fCache fPend 0 fOuts fIns fReads fBad fIR fAsk fBAsk fCode fRL fRR fX (nI (wl2 ++ [V2 % 2]).length) fThrown)), ((g 11), Sum.inl (cI, 20000, Sum.inl v2_125))] := hD
                  refine lv_lload_n hx hb d_M_endTable_128 rfl (lv_at hl 0 rfl) ?_
                  refine lv_iconst (v := 1) hx hb d_M_endTable_129 (by decide) ?_
                  refine lv_lshr hx hb d_M_endTable_130 rfl ?_
                  refine lv_topl (fun v_40 ev_40 => ?_)
                  have z9 : v_40 = lN (V2 / 2) := by rw [ev_40]; exact L_shr1 (by omega)
                  subst z9
                  refine lv_lstore_n (lv' := [(1, Value.long (lN (V2 / 2))), (7, Value.int (nI ff)), (3, Value.int (nI mm)), (6, Value.int (nI ss)), (5, Value.int (nI mm)), (4, Value.int i9), (0, Value.ref o)]) hx hb d_M_endTable_131 rfl hl (by decide) rfl (fun ls hl => ?_)
                  refine lv_goto (tgt := 111) hx hb d_M_endTable_132 (by decide) ?_
                  exact ih9_111 _ (by first | omega | (omega)) (V2 / 2) (wl2 ++ [V2 % 2]) v2_125 (c9 + 1) rfl (by rw [hE8, t4N_s (by omega) hge, show 10 - (c9 + 1) = 10 - c9 - 1 by omega]) (by omega) (hv_st hV2 hc8) (by omega) (hw_125) (bt2_add hB2 (Nat.mod_lt _ (by decide))) (by rw [List.length_append, List.length_singleton]; omega) H locs ls (hP.sub [8, 0, 1, 2, 3, 4, 5, 6, 7, 9] rfl) (hD.sub [8, 0, 1, 2, 3, 4, 5, 6, 7, 9] (by decide +kernel) rfl) hS (lv_sub hl [0, 1, 2, 3, 4, 5, 6] rfl)
            exact J_111 _ V wl vW (0 : Nat) rfl (rfl) (by omega) (hV1) (by omega) (hG) (hB) (hW) H locs ls (hP.sub [0, 1, 2, 3, 4, 5, 6, 7, 8, 9] rfl) (hD.sub [0, 1, 2, 3, 4, 5, 6, 7, 8, 9] (by decide +kernel) rfl) hS (lv_sub hl [5, 0, 1, 2, 3, 4, 6] rfl)
          refine lv_iload hx hb d_M_endTable_78 (lv_at hl 1 rfl) ?_
          refine lv_icmp_eq (tgt := 96) hx hb d_M_endTable_80 (by decide) (fun c_41 => ?_) (fun c_41 => ?_)
          · subst c_41
            exact J_96 so no (ld_lay hk8 hmk hld) H locs ls (hP.sub [0, 1, 2, 3, 4, 5, 6, 7, 8, 9] rfl) (hD.sub [0, 1, 2, 3, 4, 5, 6, 7, 8, 9] (by decide +kernel) rfl) hS (lv_sub hl [3, 0, 1, 2, 4, 5] rfl)
          · refine lv_aload_n hx hb d_M_endTable_83 rfl (lv_at hl 5 rfl) ?_
            refine lv_aload_n hx hb d_M_endTable_84 rfl (lv_at hl 5 rfl) ?_
            refine va_get (D := (dC, dI)) (ci := 9) (v := .ref (g 2)) (C := "RangeCodersModel") (T := T_M) (N := 35) hx hb hg in_M hown hK hP 0 rfl rfl 5 (by decide) (hg _ k957) (fun _ h9 => h9) rfl d_M_endTable_85 ?_
            refine lv_iload hx hb d_M_endTable_88 (lv_at hl 1 rfl) ?_
            refine my_cv (wr := [((g 1), Sum.inl (cI, 512, Sum.inl vCounts)), ((g 4), Sum.inl (cI, 600, Sum.inl vIM)), ((g 5), Sum.inl (cI, 600, Sum.inl vIW)), ((g 6), Sum.inl (cI, 9000, Sum.inl vGoing)), ((g 11), Sum.inl (cI, 20000, Sum.inl vW))]) (va_runV (As := [Value.ref (g 2), Value.int (nI mm)]) (rest := []) ⟨hx, hb, hml, hown, hts⟩ (c_M_lay l dC dI cI cM cO H.size o g fForm fShift fModels (nI its.length) fEnded fLow fRange fCache fPend 0 fOuts fIns fReads fBad fIR fAsk fBAsk fCode fRL fRR fX (nI wl.length) fThrown vMany so no (g 2) vNow mm (N mm) (Fvw vNow mm) (by omega) (hn9) (hn64) (hsg) (hs5)) (cwV 2 hts (my_gV k1165 k1167 ks43 k12 k1168) rfl rfl rfl (by decide +kernel) ⟨by rw [hR]; exact Nat.le_of_ble_eq_true rfl, by rw [hR]; exact Nat.le_of_ble_eq_true rfl⟩) (my_preV hK hN (hP.sub [0, 1, 3, 7, 8] rfl) (hD.sub [0, 1, 3, 7, 8] (by decide +kernel) rfl) 0 rfl rfl) rfl rfl hl.1 rfl (lv_room (Nat.le_of_ble_eq_true rfl)) d_M_endTable_90 ⟨by rw [hR]; exact Nat.le_of_ble_eq_true rfl, by rw [hR]; exact Nat.le_of_ble_eq_true rfl⟩) hP hD hS hA [0, 1, 3, 7, 8] [2, 4, 5, 6, 9] rfl rfl (by decide +kernel) (by decide +kernel) (fun u9 H locs hw_90 hP hD hS => ?_)
            obtain ⟨so2_90, no2_90⟩ := u9
            have hw_90 : layd so2_90 no2_90 (Fvw vNow mm) (N mm) := hw_90
            have hP : va_P (dC, dI) vwCl [((g 1), Sum.inl (cI, 512, Sum.inl vCounts)), ((g 4), Sum.inl (cI, 600, Sum.inl vIM)), ((g 5), Sum.inl (cI, 600, Sum.inl vIW)), ((g 6), Sum.inl (cI, 9000, Sum.inl vGoing)), ((g 11), Sum.inl (cI, 20000, Sum.inl vW)), (o, Sum.inr (9, mO g fForm fShift fModels (nI its.length) fEnded fLow fRange fCache fPend 0 fOuts fIns fReads fBad fIR fAsk fBAsk fCode fRL fRR fX (nI wl.length) fThrown)), ((g 0), Sum.inl (cI, 8, Sum.inl vMany)), ((g 2), Sum.inl (cI, 512, Sum.inl vNow)), ((g 9), Sum.inl (cI, 512, Sum.inl so2_90)), ((g 10), Sum.inl (cI, 512, Sum.inl no2_90))] H := hP
            have hD : va_D A [((g 1), Sum.inl (cI, 512, Sum.inl vCounts)), ((g 4), Sum.inl (cI, 600, Sum.inl vIM)), ((g 5), Sum.inl (cI, 600, Sum.inl vIW)), ((g 6), Sum.inl (cI, 9000, Sum.inl vGoing)), ((g 11), Sum.inl (cI, 20000, Sum.inl vW)), (o, Sum.inr (9, mO g fForm fShift fModels (nI its.length) fEnded fLow fRange fCache fPend 0 fOuts fIns fReads fBad fIR fAsk fBAsk fCode fRL fRR fX (nI wl.length) fThrown)), ((g 0), Sum.inl (cI, 8, Sum.inl vMany)), ((g 2), Sum.inl (cI, 512, Sum.inl vNow)), ((g 9), Sum.inl (cI, 512, Sum.inl so2_90)), ((g 10), Sum.inl (cI, 512, Sum.inl no2_90))] := hD
            refine lv_iload hx hb d_M_endTable_93 (lv_at hl 1 rfl) ?_
            refine lv_istore_n (lv' := [(3, Value.int (nI mm)), (6, Value.int (nI ss)), (5, Value.int (nI mm)), (4, Value.int i9), (1, Value.long (lN V)), (0, Value.ref o)]) hx hb d_M_endTable_95 rfl hl (by decide) rfl (fun ls hl => ?_)
            exact J_96 so2_90 no2_90 (hw_90) H locs ls (hP.sub [5, 6, 0, 7, 1, 2, 3, 8, 9, 4] rfl) (hD.sub [5, 6, 0, 7, 1, 2, 3, 8, 9, 4] (by decide +kernel) rfl) hS (lv_sub hl [0, 1, 2, 3, 4, 5] rfl)
        · have hkd : (itA its (k - 1)).1 = 0 := Decidable.not_not.mp (fun z9 => c_21 ((itm_pos hk8 (by decide) hokk).mpr z9))
          obtain ⟨hb1, hb9, hvb⟩ : 1 ≤ (itA its (k - 1)).2.1 ∧ (itA its (k - 1)).2.1 ≤ 9 ∧ (itA its (k - 1)).2.2 < 2 ^ (itA its (k - 1)).2.1 := by
            rcases hokk with q | q
            · exact q.2
            · exact absurd hkd q.1
          have hs9 : (itA its (k - 1)).2.2 < 512 := Nat.lt_of_lt_of_le hvb (Nat.le_trans (Nat.pow_le_pow_right (by decide) hb9) (by decide))
          refine lv_iconst (v := 0) hx hb d_M_endTable_47 (by decide) ?_
          refine lv_istore (lv' := [(7, Value.int 0), (6, Value.int (nI (itA its (k - 1)).2.2)), (5, Value.int (itM (itA its (k - 1)))), (4, Value.int i9), (3, Value.int ld), (1, Value.long (lN V)), (0, Value.ref o)]) hx hb d_M_endTable_48 hl (by decide) rfl (fun ls hl => ?_)
          have J_50 : ∀ (n9_50 : Nat) (jj : Nat) (wl2 : List Nat) (vW2 : Nat → Int32) (hn9_50 : (itA its (k - 1)).2.1 - jj = n9_50) (hjj : jj ≤ (itA its (k - 1)).2.1) (hwb : wl2 = wl ++ bvL (itA its (k - 1)).2.2 jj) (hG2 : gIs vW2 wl2) (hB2 : bt2 wl2) (hW2 : wl2.length + 9 * k ≤ 9 * its.length + jj) (H : Heap) (locs : List Loc) (ls : Array Slot), va_P (dC, dI) vwCl [(o, Sum.inr (9, mO g fForm fShift fModels (nI its.length) fEnded fLow fRange fCache fPend 0 fOuts fIns fReads fBad fIR fAsk fBAsk fCode fRL fRR fX (nI wl2.length) fThrown)), ((g 0), Sum.inl (cI, 8, Sum.inl vMany)), ((g 1), Sum.inl (cI, 512, Sum.inl vCounts)), ((g 2), Sum.inl (cI, 512, Sum.inl vNow)), ((g 4), Sum.inl (cI, 600, Sum.inl vIM)), ((g 5), Sum.inl (cI, 600, Sum.inl vIW)), ((g 6), Sum.inl (cI, 9000, Sum.inl vGoing)), ((g 9), Sum.inl (cI, 512, Sum.inl so)), ((g 10), Sum.inl (cI, 512, Sum.inl no)), ((g 11), Sum.inl (cI, 20000, Sum.inl vW2))] H → va_D A [(o, Sum.inr (9, mO g fForm fShift fModels (nI its.length) fEnded fLow fRange fCache fPend 0 fOuts fIns fReads fBad fIR fAsk fBAsk fCode fRL fRR fX (nI wl2.length) fThrown)), ((g 0), Sum.inl (cI, 8, Sum.inl vMany)), ((g 1), Sum.inl (cI, 512, Sum.inl vCounts)), ((g 2), Sum.inl (cI, 512, Sum.inl vNow)), ((g 4), Sum.inl (cI, 600, Sum.inl vIM)), ((g 5), Sum.inl (cI, 600, Sum.inl vIW)), ((g 6), Sum.inl (cI, 9000, Sum.inl vGoing)), ((g 9), Sum.inl (cI, 512, Sum.inl so)), ((g 10), Sum.inl (cI, 512, Sum.inl no)), ((g 11), Sum.inl (cI, 20000, Sum.inl vW2))] → va_S A s.heap H locs → lv_has ls 9 [(7, Value.int (nI jj)), (6, Value.int (nI (itA its (k - 1)).2.2)), (5, Value.int (itM (itA its (k - 1)))), (4, Value.int i9), (3, Value.int ld), (1, Value.long (lN V)), (0, Value.ref o)] → W p l e R s m args below meth c H locs 0 0 Q (F0 m 50 ls []) := by
            intro n9_50
            induction n9_50 using Nat.strongRecOn with
            | ind n9_50 ih9_50 =>
              intro jj wl2 vW2 hn9_50 hjj hwb hG2 hB2 hW2 H locs ls hP hD hS hl
              refine lv_iload hx hb d_M_endTable_50 (lv_at hl 0 rfl) ?_
              refine lv_iload hx hb d_M_endTable_52 (lv_at hl 2 rfl) ?_
              refine lv_ineg hx hb d_M_endTable_54 ?_
              refine lv_topi (fun v_42 ev_42 => ?_)
              have z9 : v_42 = nI (itA its (k - 1)).2.1 := by rw [ev_42]; exact itm_ng hkd
              subst z9
              refine lv_icmp_ge (tgt := 74) hx hb d_M_endTable_55 (by decide) (fun c_43 => ?_) (fun c_43 => ?_)
              · have hjb : (V, wl2) = (V, wl ++ bvL (itA its (k - 1)).2.2 (itA its (k - 1)).2.1) := by have hj9 : jj = (itA its (k - 1)).2.1 := (by have := nI_ge' (by omega) (by omega) c_43; omega); rw [hwb, hj9]
                refine lv_goto (tgt := 181) hx hb d_M_endTable_74 (by decide) ?_
                obtain ⟨v_44, ev_44⟩ : ∃ y : Int32, y = i9 + (-1) := ⟨_, rfl⟩
                refine lv_iinc (v := v_44) (lv' := [(4, Value.int v_44), (7, Value.int (nI jj)), (6, Value.int (nI (itA its (k - 1)).2.2)), (5, Value.int (itM (itA its (k - 1)))), (3, Value.int ld), (1, Value.long (lN V)), (0, Value.ref o)]) hx hb d_M_endTable_181 hl (k := 3) rfl (by rw [ev_44]; rfl) (by decide) rfl (fun ls hl => ?_)
                refine lv_goto (tgt := 19) hx hb d_M_endTable_184 (by decide) ?_
                exact ih9_19 _ (by first | omega | (omega)) V ld v_44 (k - 1) wl2 vW2 so no rfl (by rw [hE9, show e4N (Fvw vNow) N its k (V, wl) = e4N (Fvw vNow) N its (k - 1 + 1) (V, wl) by rw [Nat.sub_add_cancel hk0], e4N]; unfold e4I; rw [if_pos hkd, ← hjb]) (by omega) (by omega) (by rw [ev_44, Int32.add_assoc, show (-1 : Int32) + 1 = 0 from by decide, Int32.add_zero]; exact hi9) (by omega) (hG2) (hB2) (by omega) (hld) H locs ls (hP.sub [0, 1, 2, 3, 4, 5, 6, 7, 8, 9] rfl) (hD.sub [0, 1, 2, 3, 4, 5, 6, 7, 8, 9] (by decide +kernel) rfl) hS (lv_sub hl [0, 4, 5, 6] rfl)
              · have hjl : jj < (itA its (k - 1)).2.1 := by
                  rcases Nat.lt_or_ge jj ((itA its (k - 1)).2.1) with z | z
                  · exact z
                  · exact absurd (nI_le z (by omega)) c_43
                refine lv_aload_n hx hb d_M_endTable_58 rfl (lv_at hl 6 rfl) ?_
                refine lv_iload hx hb d_M_endTable_59 (lv_at hl 1 rfl) ?_
                refine lv_iload hx hb d_M_endTable_61 (lv_at hl 0 rfl) ?_
                refine lv_ishr hx hb d_M_endTable_63 ?_
                refine lv_topi (fun v_45 ev_45 => ?_)
                have z9 : v_45 = nI ((itA its (k - 1)).2.2 / 2 ^ jj) := by rw [ev_45]; exact I_shr (by omega) (by omega)
                subst z9
                refine lv_i2l hx hb d_M_endTable_64 rfl ?_
                refine lv_topl (fun v_46 ev_46 => ?_)
                have z9 : v_46 = lN ((itA its (k - 1)).2.2 / 2 ^ jj) := by rw [ev_46]; exact nI_l (Nat.lt_of_le_of_lt (Nat.div_le_self _ _) (by omega))
                subst z9
                refine my_cv (wr := [((g 0), Sum.inl (cI, 8, Sum.inl vMany)), ((g 1), Sum.inl (cI, 512, Sum.inl vCounts)), ((g 2), Sum.inl (cI, 512, Sum.inl vNow)), ((g 4), Sum.inl (cI, 600, Sum.inl vIM)), ((g 5), Sum.inl (cI, 600, Sum.inl vIW)), ((g 6), Sum.inl (cI, 9000, Sum.inl vGoing)), ((g 9), Sum.inl (cI, 512, Sum.inl so)), ((g 10), Sum.inl (cI, 512, Sum.inl no))]) (va_runV (As := [Value.long (lN ((itA its (k - 1)).2.2 / 2 ^ jj))]) (rest := []) ⟨hx, hb, hml, hown, hts⟩ (c_M_writeBit l dC dI cI cM cO H.size o g fForm fShift fModels (nI its.length) fEnded fLow fRange fCache fPend 0 fOuts fIns fReads fBad fIR fAsk fBAsk fCode fRL fRR fX fThrown vW2 wl2 ((itA its (k - 1)).2.2 / 2 ^ jj) (hG2) (by omega) (Nat.lt_of_le_of_lt (Nat.div_le_self _ _) (by omega))) (cwV 1 hts (my_gV k1161 k1163 ks42 k12 k1164) rfl rfl rfl (by decide +kernel) ⟨by rw [hR]; exact Nat.le_of_ble_eq_true rfl, by rw [hR]; exact Nat.le_of_ble_eq_true rfl⟩) (my_preV hK hN (hP.sub [0, 9] rfl) (hD.sub [0, 9] (by decide +kernel) rfl) 0 rfl rfl) rfl rfl hl.1 rfl (lv_room (Nat.le_of_ble_eq_true rfl)) d_M_endTable_65 ⟨by rw [hR]; exact Nat.le_of_ble_eq_true rfl, by rw [hR]; exact Nat.le_of_ble_eq_true rfl⟩) hP hD hS hA [0, 9] [1, 2, 3, 4, 5, 6, 7, 8] rfl rfl (by decide +kernel) (by decide +kernel) (fun u9 H locs hw_65 hP hD hS => ?_)
                obtain ⟨v2_65, rfl⟩ : ∃ z, z = u9 := ⟨_, rfl⟩
                have hw_65 : gIs v2_65 (wl2 ++ [((itA its (k - 1)).2.2 / 2 ^ jj) % 2]) := hw_65
                have hP : va_P (dC, dI) vwCl [((g 0), Sum.inl (cI, 8, Sum.inl vMany)), ((g 1), Sum.inl (cI, 512, Sum.inl vCounts)), ((g 2), Sum.inl (cI, 512, Sum.inl vNow)), ((g 4), Sum.inl (cI, 600, Sum.inl vIM)), ((g 5), Sum.inl (cI, 600, Sum.inl vIW)), ((g 6), Sum.inl (cI, 9000, Sum.inl vGoing)), ((g 9), Sum.inl (cI, 512, Sum.inl so)), ((g 10), Sum.inl (cI, 512, Sum.inl no)), (o, Sum.inr (9, mO g fForm fShift fModels (nI its.length) fEnded fLow fRange fCache fPend 0 fOuts fIns fReads fBad fIR fAsk fBAsk fCode fRL fRR fX (nI (wl2 ++ [((itA its (k - 1)).2.2 / 2 ^ jj) % 2]).length) fThrown)), ((g 11), Sum.inl (cI, 20000, Sum.inl v2_65))] H := hP
                have hD : va_D A [((g 0), Sum.inl (cI, 8, Sum.inl vMany)), ((g 1), Sum.inl (cI, 512, Sum.inl vCounts)), ((g 2), Sum.inl (cI, 512, Sum.inl vNow)), ((g 4), Sum.inl (cI, 600, Sum.inl vIM)), ((g 5), Sum.inl (cI, 600, Sum.inl vIW)), ((g 6), Sum.inl (cI, 9000, Sum.inl vGoing)), ((g 9), Sum.inl (cI, 512, Sum.inl so)), ((g 10), Sum.inl (cI, 512, Sum.inl no)), (o, Sum.inr (9, mO g fForm fShift fModels (nI its.length) fEnded fLow fRange fCache fPend 0 fOuts fIns fReads fBad fIR fAsk fBAsk fCode fRL fRR fX (nI (wl2 ++ [((itA its (k - 1)).2.2 / 2 ^ jj) % 2]).length) fThrown)), ((g 11), Sum.inl (cI, 20000, Sum.inl v2_65))] := hD
                obtain ⟨v_47, ev_47⟩ : ∃ y : Int32, y = (nI jj) + (1) := ⟨_, rfl⟩
                refine lv_iinc (v := v_47) (lv' := [(7, Value.int v_47), (6, Value.int (nI (itA its (k - 1)).2.2)), (5, Value.int (itM (itA its (k - 1)))), (4, Value.int i9), (3, Value.int ld), (1, Value.long (lN V)), (0, Value.ref o)]) hx hb d_M_endTable_68 hl (k := 0) rfl (by rw [ev_47]; rfl) (by decide) rfl (fun ls hl => ?_)
                have z9 : v_47 = nI (jj + 1) := by rw [ev_47]; exact nI_1 _
                subst z9
                refine lv_goto (tgt := 50) hx hb d_M_endTable_71 (by decide) ?_
                exact ih9_50 _ (by first | omega | (omega)) (jj + 1) (wl2 ++ [((itA its (k - 1)).2.2 / 2 ^ jj) % 2]) v2_65 rfl (by omega) (by rw [hwb, bvL, List.append_assoc]) (hw_65) (bt2_add hB2 (Nat.mod_lt _ (by decide))) (by rw [List.length_append, List.length_singleton]; omega) H locs ls (hP.sub [8, 0, 1, 2, 3, 4, 5, 6, 7, 9] rfl) (hD.sub [8, 0, 1, 2, 3, 4, 5, 6, 7, 9] (by decide +kernel) rfl) hS (lv_sub hl [0, 1, 2, 3, 4, 5, 6] rfl)
          exact J_50 _ (0 : Nat) wl vW rfl (Nat.zero_le _) (by rw [bvL, List.append_nil]) (hG) (hB) (hW) H locs ls (hP.sub [0, 1, 2, 3, 4, 5, 6, 7, 8, 9] rfl) (hD.sub [0, 1, 2, 3, 4, 5, 6, 7, 8, 9] (by decide +kernel) rfl) hS (lv_sub hl [0, 1, 2, 3, 4, 5, 6] rfl)
  exact J_19 _ (512 : Nat) (-1 : Int32) v_1 its.length ([] : List Nat) vWr vSO vNO rfl (rfl) (by omega) (by omega) (by rw [ev_1]; exact Int32.sub_add_cancel _ _) (Nat.le_refl _) (fun z9 h9 => absurd h9 (Nat.not_lt_zero z9)) (fun z9 h9 => absurd h9 List.not_mem_nil) (by show 0 + _ ≤ _; omega) (Or.inl rfl) H locs ls (hP.sub [0, 1, 2, 3, 4, 5, 6, 7, 8, 9] rfl) (hD.sub [0, 1, 2, 3, 4, 5, 6, 7, 8, 9] (by decide +kernel) rfl) hS (lv_sub hl [0, 1, 2, 3] rfl)
set_option maxHeartbeats 2000000 in
set_option maxRecDepth 100000 in
theorem m_end4B (l : Launch) (dC : Nat → ClassId) (dI : Nat → Nat → Nat) (cI cM cO : ClassId) (sz : Nat) (o : Nat) (g : Nat → Nat) (fShift : Int32) (fModels : Int32) (fLow : Int64) (fRange : Int64) (fCache : Int32) (fPend : Int32) (fOuts : Int32) (fIns : Int32) (fReads : Int32) (fBad : Int32) (fIR : Int32) (fAsk : Int32) (fBAsk : Int32) (fCode : Int64) (fRL : Int64) (fRR : Int64) (fX : Int64) (fWrites : Int32) (fThrown : Int32) (vMany : Nat → Int32) (vCounts : Nat → Int32) (vNow : Nat → Int32) (vIM : Nat → Int32) (vIW : Nat → Int32) (vGoing : Nat → Int32) (vSO : Nat → Int32) (vNO : Nat → Int32) (vWr : Nat → Int32) (vOut : Nat → Int32) (km : Nat) (N : Nat → Nat) (its : List It) (hmod : fModels = nI km) (hMD : MD km N vMany vCounts) (hki : its.length ≤ 600) (hit : itIs vIM vIW its) (hok : ∀ i, i < its.length → itOk 512 9 km N vNow (itA its i)) (hwl : (e4W (Fvw vNow) N its).length ≤ 8000) : MetI l y_M_end (Cond.code y_M_end prog_14_method_31_code 2 (some .int) :: gw) ({ frames := 2, cells := 0, slots := 0, locals := 54 } : Room) (dC, dI) vwCl (kT cI cM cO) [Value.ref o] [(o, Sum.inr (9, mO g 4 fShift fModels (nI its.length) 0 fLow fRange fCache fPend 0 fOuts fIns fReads fBad fIR fAsk fBAsk fCode fRL fRR fX fWrites fThrown)), ((g 0), Sum.inl (cI, 8, Sum.inl vMany)), ((g 1), Sum.inl (cI, 512, Sum.inl vCounts)), ((g 2), Sum.inl (cI, 512, Sum.inl vNow)), ((g 4), Sum.inl (cI, 600, Sum.inl vIM)), ((g 5), Sum.inl (cI, 600, Sum.inl vIW)), ((g 6), Sum.inl (cI, 9000, Sum.inl vGoing)), ((g 9), Sum.inl (cI, 512, Sum.inl vSO)), ((g 10), Sum.inl (cI, 512, Sum.inl vNO)), ((g 11), Sum.inl (cI, 20000, Sum.inl vWr)), ((g 7), Sum.inl (cI, 9000, Sum.inl vOut))] sz (fun (r : Int32) (u : (Nat → Int32) × (Nat → Int32) × (Nat → Int32) × (Nat → Int32) × (Nat → Int32) × Int32 × Int32 × Int32) => r = nI (pkB (e4W (Fvw vNow) N its) (((e4W (Fvw vNow) N its).length + 7) / 8)).length ∧ u.2.2.2.2.2.2.2 = nI (pkB (e4W (Fvw vNow) N its) (((e4W (Fvw vNow) N its).length + 7) / 8)).length ∧ gIs u.2.2.2.2.1 (pkB (e4W (Fvw vNow) N its) (((e4W (Fvw vNow) N its).length + 7) / 8))) (fun (u : (Nat → Int32) × (Nat → Int32) × (Nat → Int32) × (Nat → Int32) × (Nat → Int32) × Int32 × Int32 × Int32) => [(o, Sum.inr (9, mO g 4 fShift fModels (nI its.length) 1 fLow fRange fCache fPend u.2.2.2.2.2.1 u.2.2.2.2.2.2.2 fIns fReads fBad fIR fAsk fBAsk fCode fRL fRR fX u.2.2.2.2.2.2.1 0)), ((g 0), Sum.inl (cI, 8, Sum.inl vMany)), ((g 1), Sum.inl (cI, 512, Sum.inl vCounts)), ((g 2), Sum.inl (cI, 512, Sum.inl vNow)), ((g 4), Sum.inl (cI, 600, Sum.inl vIM)), ((g 5), Sum.inl (cI, 600, Sum.inl vIW)), ((g 6), Sum.inl (cI, 9000, Sum.inl u.1)), ((g 9), Sum.inl (cI, 512, Sum.inl u.2.1)), ((g 10), Sum.inl (cI, 512, Sum.inl u.2.2.1)), ((g 11), Sum.inl (cI, 20000, Sum.inl u.2.2.2.1)), ((g 7), Sum.inl (cI, 9000, Sum.inl u.2.2.2.2.1))]) 0 0 := by
  refine my_ofI (cc := prog_14_method_31_code) (n := 2) (ret := (some .int)) (by decide) rfl (Nat.le_of_ble_eq_true rfl) ?_
  intro p e s m args below meth c R Q A ls H locs hx hb hr hts hown hlocks hml hnm hR hQ hA hl hP hK hN hD hS
  have hg : ∀ w ∈ gw, w.before args s = true := fun w h => hts w (List.mem_cons_of_mem _ h)
  have hown : s.vm.findClass "RangeCodersModel" = some m.cls := hown
  have hl : lv_has ls 2 [(0, Value.ref o)] := hl
  refine lv_aload_n hx hb d_M_end_0 rfl (lv_at hl 0 rfl) ?_
  refine lv_iconst (v := 0) hx hb d_M_end_1 (by decide) ?_
  refine va_put (D := (dC, dI)) (ci := 9) (v := .int 0) (ty := .int) (C := "RangeCodersModel") (T := T_M) (N := 35) hx hb hg in_M t_M o_M n_M hown hK hP hD hS 0 rfl rfl 34 (by decide) (hg _ k986) (fun _ h9 => h9) rfl (by decide +kernel) rfl rfl (Nat.le_of_ble_eq_true rfl) d_M_end_2 (fun H locs hP hD hS => ?_)
  have hP : va_P (dC, dI) vwCl [(o, Sum.inr (9, mO g 4 fShift fModels (nI its.length) 0 fLow fRange fCache fPend 0 fOuts fIns fReads fBad fIR fAsk fBAsk fCode fRL fRR fX fWrites 0)), ((g 0), Sum.inl (cI, 8, Sum.inl vMany)), ((g 1), Sum.inl (cI, 512, Sum.inl vCounts)), ((g 2), Sum.inl (cI, 512, Sum.inl vNow)), ((g 4), Sum.inl (cI, 600, Sum.inl vIM)), ((g 5), Sum.inl (cI, 600, Sum.inl vIW)), ((g 6), Sum.inl (cI, 9000, Sum.inl vGoing)), ((g 9), Sum.inl (cI, 512, Sum.inl vSO)), ((g 10), Sum.inl (cI, 512, Sum.inl vNO)), ((g 11), Sum.inl (cI, 20000, Sum.inl vWr)), ((g 7), Sum.inl (cI, 9000, Sum.inl vOut))] H := hP
  have hD : va_D A [(o, Sum.inr (9, mO g 4 fShift fModels (nI its.length) 0 fLow fRange fCache fPend 0 fOuts fIns fReads fBad fIR fAsk fBAsk fCode fRL fRR fX fWrites 0)), ((g 0), Sum.inl (cI, 8, Sum.inl vMany)), ((g 1), Sum.inl (cI, 512, Sum.inl vCounts)), ((g 2), Sum.inl (cI, 512, Sum.inl vNow)), ((g 4), Sum.inl (cI, 600, Sum.inl vIM)), ((g 5), Sum.inl (cI, 600, Sum.inl vIW)), ((g 6), Sum.inl (cI, 9000, Sum.inl vGoing)), ((g 9), Sum.inl (cI, 512, Sum.inl vSO)), ((g 10), Sum.inl (cI, 512, Sum.inl vNO)), ((g 11), Sum.inl (cI, 20000, Sum.inl vWr)), ((g 7), Sum.inl (cI, 9000, Sum.inl vOut))] := hD
  refine lv_aload_n hx hb d_M_end_5 rfl (lv_at hl 0 rfl) ?_
  refine va_get (D := (dC, dI)) (ci := 9) (v := .int 0) (C := "RangeCodersModel") (T := T_M) (N := 35) hx hb hg in_M hown hK hP 0 rfl rfl 10 (by decide) (hg _ k962) (fun _ h9 => h9) rfl d_M_end_6 ?_
  refine lv_if_eq (tgt := 15) hx hb d_M_end_9 (by decide) (fun c_1 => ?_) (fun c_1 => ?_)
  · refine lv_aload_n hx hb d_M_end_15 rfl (lv_at hl 0 rfl) ?_
    refine lv_iconst (v := 1) hx hb d_M_end_16 (by decide) ?_
    refine va_put (D := (dC, dI)) (ci := 9) (v := .int 1) (ty := .boolean) (C := "RangeCodersModel") (T := T_M) (N := 35) hx hb hg in_M t_M o_M n_M hown hK hP hD hS 0 rfl rfl 10 (by decide) (hg _ k962) (fun _ h9 => h9) rfl (by decide +kernel) rfl rfl (Nat.le_of_ble_eq_true rfl) d_M_end_17 (fun H locs hP hD hS => ?_)
    have hP : va_P (dC, dI) vwCl [(o, Sum.inr (9, mO g 4 fShift fModels (nI its.length) 1 fLow fRange fCache fPend 0 fOuts fIns fReads fBad fIR fAsk fBAsk fCode fRL fRR fX fWrites 0)), ((g 0), Sum.inl (cI, 8, Sum.inl vMany)), ((g 1), Sum.inl (cI, 512, Sum.inl vCounts)), ((g 2), Sum.inl (cI, 512, Sum.inl vNow)), ((g 4), Sum.inl (cI, 600, Sum.inl vIM)), ((g 5), Sum.inl (cI, 600, Sum.inl vIW)), ((g 6), Sum.inl (cI, 9000, Sum.inl vGoing)), ((g 9), Sum.inl (cI, 512, Sum.inl vSO)), ((g 10), Sum.inl (cI, 512, Sum.inl vNO)), ((g 11), Sum.inl (cI, 20000, Sum.inl vWr)), ((g 7), Sum.inl (cI, 9000, Sum.inl vOut))] H := hP
    have hD : va_D A [(o, Sum.inr (9, mO g 4 fShift fModels (nI its.length) 1 fLow fRange fCache fPend 0 fOuts fIns fReads fBad fIR fAsk fBAsk fCode fRL fRR fX fWrites 0)), ((g 0), Sum.inl (cI, 8, Sum.inl vMany)), ((g 1), Sum.inl (cI, 512, Sum.inl vCounts)), ((g 2), Sum.inl (cI, 512, Sum.inl vNow)), ((g 4), Sum.inl (cI, 600, Sum.inl vIM)), ((g 5), Sum.inl (cI, 600, Sum.inl vIW)), ((g 6), Sum.inl (cI, 9000, Sum.inl vGoing)), ((g 9), Sum.inl (cI, 512, Sum.inl vSO)), ((g 10), Sum.inl (cI, 512, Sum.inl vNO)), ((g 11), Sum.inl (cI, 20000, Sum.inl vWr)), ((g 7), Sum.inl (cI, 9000, Sum.inl vOut))] := hD
    refine lv_aload_n hx hb d_M_end_20 rfl (lv_at hl 0 rfl) ?_
    refine va_get (D := (dC, dI)) (ci := 9) (v := .int 4) (C := "RangeCodersModel") (T := T_M) (N := 35) hx hb hg in_M hown hK hP 0 rfl rfl 0 (by decide) (hg _ k952) (fun _ h9 => h9) rfl d_M_end_21 ?_
    refine lv_if_eq (tgt := 35) hx hb d_M_end_24 (by decide) (fun c_2 => ?_) (fun c_2 => ?_)
    · exact absurd c_2 (by decide)
    · refine lv_aload_n hx hb d_M_end_27 rfl (lv_at hl 0 rfl) ?_
      refine va_get (D := (dC, dI)) (ci := 9) (v := .int 4) (C := "RangeCodersModel") (T := T_M) (N := 35) hx hb hg in_M hown hK hP 0 rfl rfl 0 (by decide) (hg _ k952) (fun _ h9 => h9) rfl d_M_end_28 ?_
      refine lv_iconst (v := 2) hx hb d_M_end_31 (by decide) ?_
      refine lv_icmp_ne (tgt := 55) hx hb d_M_end_32 (by decide) (fun c_3 => ?_) (fun c_3 => ?_)
      · refine lv_aload_n hx hb d_M_end_55 rfl (lv_at hl 0 rfl) ?_
        refine va_get (D := (dC, dI)) (ci := 9) (v := .int 4) (C := "RangeCodersModel") (T := T_M) (N := 35) hx hb hg in_M hown hK hP 0 rfl rfl 0 (by decide) (hg _ k952) (fun _ h9 => h9) rfl d_M_end_56 ?_
        refine lv_iconst (v := 1) hx hb d_M_end_59 (by decide) ?_
        refine lv_icmp_ne (tgt := 106) hx hb d_M_end_60 (by decide) (fun c_4 => ?_) (fun c_4 => ?_)
        · refine lv_aload_n hx hb d_M_end_106 rfl (lv_at hl 0 rfl) ?_
          refine va_get (D := (dC, dI)) (ci := 9) (v := .int 4) (C := "RangeCodersModel") (T := T_M) (N := 35) hx hb hg in_M hown hK hP 0 rfl rfl 0 (by decide) (hg _ k952) (fun _ h9 => h9) rfl d_M_end_107 ?_
          refine lv_iconst (v := 3) hx hb d_M_end_110 (by decide) ?_
          refine lv_icmp_ne (tgt := 121) hx hb d_M_end_111 (by decide) (fun c_5 => ?_) (fun c_5 => ?_)
          · refine lv_aload_n hx hb d_M_end_121 rfl (lv_at hl 0 rfl) ?_
            refine my_cv (wr := [((g 7), Sum.inl (cI, 9000, Sum.inl vOut))]) (va_runV (As := []) (rest := []) ⟨hx, hb, hml, hown, hts⟩ (m_endTable l dC dI cI cM cO H.size o g 4 fShift fModels 1 fLow fRange fCache fPend fOuts fIns fReads fBad fIR fAsk fBAsk fCode fRL fRR fX fWrites 0 vMany vCounts vNow vIM vIW vGoing vSO vNO vWr km N its (hMD) (hki) (hit) (hok)) (cwV 0 hts (my_gV k1156 k1158 ks41 k12 k1159) rfl rfl rfl (by decide +kernel) ⟨by rw [hR]; exact Nat.le_of_ble_eq_true rfl, by rw [hR]; exact Nat.le_of_ble_eq_true rfl⟩) (my_preV hK hN (hP.sub [0, 1, 2, 3, 4, 5, 6, 7, 8, 9] rfl) (hD.sub [0, 1, 2, 3, 4, 5, 6, 7, 8, 9] (by decide +kernel) rfl) 0 rfl rfl) rfl rfl hl.1 rfl (lv_room (Nat.le_of_ble_eq_true rfl)) d_M_end_122 ⟨by rw [hR]; exact Nat.le_of_ble_eq_true rfl, by rw [hR]; exact Nat.le_of_ble_eq_true rfl⟩) hP hD hS hA [0, 1, 2, 3, 4, 5, 6, 7, 8, 9] [10] rfl rfl (by decide +kernel) (by decide +kernel) (fun u9 H locs hw_122 hP hD hS => ?_)
            obtain ⟨vGoingq_122, vSOq_122, vNOq_122, vWrq_122, fGoesq_122, fWritesq_122⟩ := u9
            obtain ⟨hgq_122, hGq_122⟩ : fGoesq_122 = nI (pkB (e4W (Fvw vNow) N its) (((e4W (Fvw vNow) N its).length + 7) / 8)).length ∧ gIs vGoingq_122 (pkB (e4W (Fvw vNow) N its) (((e4W (Fvw vNow) N its).length + 7) / 8)) := hw_122
            have hP : va_P (dC, dI) vwCl [((g 7), Sum.inl (cI, 9000, Sum.inl vOut)), (o, Sum.inr (9, mO g 4 fShift fModels (nI its.length) 1 fLow fRange fCache fPend fGoesq_122 fOuts fIns fReads fBad fIR fAsk fBAsk fCode fRL fRR fX fWritesq_122 0)), ((g 0), Sum.inl (cI, 8, Sum.inl vMany)), ((g 1), Sum.inl (cI, 512, Sum.inl vCounts)), ((g 2), Sum.inl (cI, 512, Sum.inl vNow)), ((g 4), Sum.inl (cI, 600, Sum.inl vIM)), ((g 5), Sum.inl (cI, 600, Sum.inl vIW)), ((g 6), Sum.inl (cI, 9000, Sum.inl vGoingq_122)), ((g 9), Sum.inl (cI, 512, Sum.inl vSOq_122)), ((g 10), Sum.inl (cI, 512, Sum.inl vNOq_122)), ((g 11), Sum.inl (cI, 20000, Sum.inl vWrq_122))] H := hP
            have hD : va_D A [((g 7), Sum.inl (cI, 9000, Sum.inl vOut)), (o, Sum.inr (9, mO g 4 fShift fModels (nI its.length) 1 fLow fRange fCache fPend fGoesq_122 fOuts fIns fReads fBad fIR fAsk fBAsk fCode fRL fRR fX fWritesq_122 0)), ((g 0), Sum.inl (cI, 8, Sum.inl vMany)), ((g 1), Sum.inl (cI, 512, Sum.inl vCounts)), ((g 2), Sum.inl (cI, 512, Sum.inl vNow)), ((g 4), Sum.inl (cI, 600, Sum.inl vIM)), ((g 5), Sum.inl (cI, 600, Sum.inl vIW)), ((g 6), Sum.inl (cI, 9000, Sum.inl vGoingq_122)), ((g 9), Sum.inl (cI, 512, Sum.inl vSOq_122)), ((g 10), Sum.inl (cI, 512, Sum.inl vNOq_122)), ((g 11), Sum.inl (cI, 20000, Sum.inl vWrq_122))] := hD
            obtain ⟨b9, hb9⟩ : ∃ b, b = pkB (e4W (Fvw vNow) N its) (((e4W (Fvw vNow) N its).length + 7) / 8) := ⟨_, rfl⟩
            rw [← hb9] at hgq_122 hGq_122
            subst hgq_122
            have hl9 : b9.length ≤ 8000 := by rw [hb9, pkB_len]; omega
            have hP : va_P (dC, dI) vwCl [((g 7), Sum.inl (cI, 9000, Sum.inl vOut)), (o, Sum.inr (9, mO g 4 fShift fModels (nI its.length) 1 fLow fRange fCache fPend (nI b9.length) fOuts fIns fReads fBad fIR fAsk fBAsk fCode fRL fRR fX fWritesq_122 0)), ((g 0), Sum.inl (cI, 8, Sum.inl vMany)), ((g 1), Sum.inl (cI, 512, Sum.inl vCounts)), ((g 2), Sum.inl (cI, 512, Sum.inl vNow)), ((g 4), Sum.inl (cI, 600, Sum.inl vIM)), ((g 5), Sum.inl (cI, 600, Sum.inl vIW)), ((g 6), Sum.inl (cI, 9000, Sum.inl vGoingq_122)), ((g 9), Sum.inl (cI, 512, Sum.inl vSOq_122)), ((g 10), Sum.inl (cI, 512, Sum.inl vNOq_122)), ((g 11), Sum.inl (cI, 20000, Sum.inl vWrq_122))] H := hP
            have hD : va_D A [((g 7), Sum.inl (cI, 9000, Sum.inl vOut)), (o, Sum.inr (9, mO g 4 fShift fModels (nI its.length) 1 fLow fRange fCache fPend (nI b9.length) fOuts fIns fReads fBad fIR fAsk fBAsk fCode fRL fRR fX fWritesq_122 0)), ((g 0), Sum.inl (cI, 8, Sum.inl vMany)), ((g 1), Sum.inl (cI, 512, Sum.inl vCounts)), ((g 2), Sum.inl (cI, 512, Sum.inl vNow)), ((g 4), Sum.inl (cI, 600, Sum.inl vIM)), ((g 5), Sum.inl (cI, 600, Sum.inl vIW)), ((g 6), Sum.inl (cI, 9000, Sum.inl vGoingq_122)), ((g 9), Sum.inl (cI, 512, Sum.inl vSOq_122)), ((g 10), Sum.inl (cI, 512, Sum.inl vNOq_122)), ((g 11), Sum.inl (cI, 20000, Sum.inl vWrq_122))] := hD
            refine lv_aload_n hx hb d_M_end_125 rfl (lv_at hl 0 rfl) ?_
            refine lv_aload_n hx hb d_M_end_126 rfl (lv_at hl 0 rfl) ?_
            refine va_get (D := (dC, dI)) (ci := 9) (v := .int (nI b9.length)) (C := "RangeCodersModel") (T := T_M) (N := 35) hx hb hg in_M hown hK hP 1 rfl rfl 16 (by decide) (hg _ k968) (fun _ h9 => h9) rfl d_M_end_127 ?_
            refine va_put (D := (dC, dI)) (ci := 9) (v := .int (nI b9.length)) (ty := .int) (C := "RangeCodersModel") (T := T_M) (N := 35) hx hb hg in_M t_M o_M n_M hown hK hP hD hS 1 rfl rfl 18 (by decide) (hg _ k970) (fun _ h9 => h9) rfl (by decide +kernel) rfl rfl (Nat.le_of_ble_eq_true rfl) d_M_end_130 (fun H locs hP hD hS => ?_)
            have hP : va_P (dC, dI) vwCl [((g 7), Sum.inl (cI, 9000, Sum.inl vOut)), (o, Sum.inr (9, mO g 4 fShift fModels (nI its.length) 1 fLow fRange fCache fPend (nI b9.length) (nI b9.length) fIns fReads fBad fIR fAsk fBAsk fCode fRL fRR fX fWritesq_122 0)), ((g 0), Sum.inl (cI, 8, Sum.inl vMany)), ((g 1), Sum.inl (cI, 512, Sum.inl vCounts)), ((g 2), Sum.inl (cI, 512, Sum.inl vNow)), ((g 4), Sum.inl (cI, 600, Sum.inl vIM)), ((g 5), Sum.inl (cI, 600, Sum.inl vIW)), ((g 6), Sum.inl (cI, 9000, Sum.inl vGoingq_122)), ((g 9), Sum.inl (cI, 512, Sum.inl vSOq_122)), ((g 10), Sum.inl (cI, 512, Sum.inl vNOq_122)), ((g 11), Sum.inl (cI, 20000, Sum.inl vWrq_122))] H := hP
            have hD : va_D A [((g 7), Sum.inl (cI, 9000, Sum.inl vOut)), (o, Sum.inr (9, mO g 4 fShift fModels (nI its.length) 1 fLow fRange fCache fPend (nI b9.length) (nI b9.length) fIns fReads fBad fIR fAsk fBAsk fCode fRL fRR fX fWritesq_122 0)), ((g 0), Sum.inl (cI, 8, Sum.inl vMany)), ((g 1), Sum.inl (cI, 512, Sum.inl vCounts)), ((g 2), Sum.inl (cI, 512, Sum.inl vNow)), ((g 4), Sum.inl (cI, 600, Sum.inl vIM)), ((g 5), Sum.inl (cI, 600, Sum.inl vIW)), ((g 6), Sum.inl (cI, 9000, Sum.inl vGoingq_122)), ((g 9), Sum.inl (cI, 512, Sum.inl vSOq_122)), ((g 10), Sum.inl (cI, 512, Sum.inl vNOq_122)), ((g 11), Sum.inl (cI, 20000, Sum.inl vWrq_122))] := hD
            refine lv_iconst (v := 0) hx hb d_M_end_133 (by decide) ?_
            refine lv_istore_n (lv' := [(1, Value.int 0), (0, Value.ref o)]) hx hb d_M_end_134 rfl hl (by decide) rfl (fun ls hl => ?_)
            have J_135 : ∀ (n9_135 : Nat) (kk : Nat) (fO : Nat → Int32) (hn9_135 : (b9).length - kk = n9_135) (hkk : kk ≤ (b9).length) (hc : ∀ i, i < kk → fO i = vGoingq_122 i) (H : Heap) (locs : List Loc) (ls : Array Slot), va_P (dC, dI) vwCl [((g 7), Sum.inl (cI, 9000, Sum.inl fO)), (o, Sum.inr (9, mO g 4 fShift fModels (nI its.length) 1 fLow fRange fCache fPend (nI b9.length) (nI b9.length) fIns fReads fBad fIR fAsk fBAsk fCode fRL fRR fX fWritesq_122 0)), ((g 0), Sum.inl (cI, 8, Sum.inl vMany)), ((g 1), Sum.inl (cI, 512, Sum.inl vCounts)), ((g 2), Sum.inl (cI, 512, Sum.inl vNow)), ((g 4), Sum.inl (cI, 600, Sum.inl vIM)), ((g 5), Sum.inl (cI, 600, Sum.inl vIW)), ((g 6), Sum.inl (cI, 9000, Sum.inl vGoingq_122)), ((g 9), Sum.inl (cI, 512, Sum.inl vSOq_122)), ((g 10), Sum.inl (cI, 512, Sum.inl vNOq_122)), ((g 11), Sum.inl (cI, 20000, Sum.inl vWrq_122))] H → va_D A [((g 7), Sum.inl (cI, 9000, Sum.inl fO)), (o, Sum.inr (9, mO g 4 fShift fModels (nI its.length) 1 fLow fRange fCache fPend (nI b9.length) (nI b9.length) fIns fReads fBad fIR fAsk fBAsk fCode fRL fRR fX fWritesq_122 0)), ((g 0), Sum.inl (cI, 8, Sum.inl vMany)), ((g 1), Sum.inl (cI, 512, Sum.inl vCounts)), ((g 2), Sum.inl (cI, 512, Sum.inl vNow)), ((g 4), Sum.inl (cI, 600, Sum.inl vIM)), ((g 5), Sum.inl (cI, 600, Sum.inl vIW)), ((g 6), Sum.inl (cI, 9000, Sum.inl vGoingq_122)), ((g 9), Sum.inl (cI, 512, Sum.inl vSOq_122)), ((g 10), Sum.inl (cI, 512, Sum.inl vNOq_122)), ((g 11), Sum.inl (cI, 20000, Sum.inl vWrq_122))] → va_S A s.heap H locs → lv_has ls 2 [(1, Value.int (nI kk)), (0, Value.ref o)] → W p l e R s m args below meth c H locs 0 0 Q (F0 m 135 ls []) := by
              intro n9_135
              induction n9_135 using Nat.strongRecOn with
              | ind n9_135 ih9_135 =>
                intro kk fO hn9_135 hkk hc H locs ls hP hD hS hl
                refine lv_iload_n hx hb d_M_end_135 rfl (lv_at hl 0 rfl) ?_
                refine lv_aload_n hx hb d_M_end_136 rfl (lv_at hl 1 rfl) ?_
                refine va_get (D := (dC, dI)) (ci := 9) (v := .int (nI b9.length)) (C := "RangeCodersModel") (T := T_M) (N := 35) hx hb hg in_M hown hK hP 1 rfl rfl 16 (by decide) (hg _ k968) (fun _ h9 => h9) rfl d_M_end_137 ?_
                refine lv_icmp_ge (tgt := 161) hx hb d_M_end_140 (by decide) (fun c_6 => ?_) (fun c_6 => ?_)
                · have hkn : kk = (b9).length := by have := (nI_cmp (a := (b9).length) (b := kk) (by omega) (by omega)).mp c_6; omega
                  subst hkn
                  refine lv_aload_n hx hb d_M_end_161 rfl (lv_at hl 1 rfl) ?_
                  refine va_get (D := (dC, dI)) (ci := 9) (v := .int (nI b9.length)) (C := "RangeCodersModel") (T := T_M) (N := 35) hx hb hg in_M hown hK hP 1 rfl rfl 18 (by decide) (hg _ k970) (fun _ h9 => h9) rfl d_M_end_162 ?_
                  exact my_iret (v := (nI b9.length)) hx hb hr (rfl) hlocks hQ hK hS (Nat.le_refl _) (Nat.le_refl _) (vGoingq_122, vSOq_122, vNOq_122, vWrq_122, fO, (nI b9.length), fWritesq_122, (nI b9.length)) (⟨by rw [← hb9], by rw [← hb9], by rw [← hb9]; exact gIs_cp hGq_122 hc⟩) (hP.sub [1, 2, 3, 4, 5, 6, 7, 8, 9, 10, 0] rfl) (hD.sub [1, 2, 3, 4, 5, 6, 7, 8, 9, 10, 0] (by decide +kernel) rfl) d_M_end_165
                · have hkl : kk < (b9).length := by
                    rcases Nat.lt_or_ge kk (b9).length with z | z
                    · exact z
                    · exact absurd (nI_le z (by omega)) c_6
                  refine lv_aload_n hx hb d_M_end_143 rfl (lv_at hl 1 rfl) ?_
                  refine va_get (D := (dC, dI)) (ci := 9) (v := .ref (g 7)) (C := "RangeCodersModel") (T := T_M) (N := 35) hx hb hg in_M hown hK hP 1 rfl rfl 17 (by decide) (hg _ k969) (fun _ h9 => h9) rfl d_M_end_144 ?_
                  refine lv_iload_n hx hb d_M_end_147 rfl (lv_at hl 0 rfl) ?_
                  refine lv_aload_n hx hb d_M_end_148 rfl (lv_at hl 1 rfl) ?_
                  refine va_get (D := (dC, dI)) (ci := 9) (v := .ref (g 6)) (C := "RangeCodersModel") (T := T_M) (N := 35) hx hb hg in_M hown hK hP 1 rfl rfl 15 (by decide) (hg _ k967) (fun _ h9 => h9) rfl d_M_end_149 ?_
                  refine lv_iload_n hx hb d_M_end_152 rfl (lv_at hl 0 rfl) ?_
                  refine va_iald hx hb hK hP 7 0 rfl rfl (vp_in_nI (by omega) (by decide)) d_M_end_153 ?_
                  refine lv_topi (fun v_7 ev_7 => ?_)
                  refine va_iast hx hb hK hP hD hS 0 0 rfl rfl (vp_in_nI (by omega) (by decide)) d_M_end_154 (fun H locs hP hD hS => ?_)
                  have hP : va_P (dC, dI) vwCl [((g 7), Sum.inl (cI, 9000, Sum.inl (upd fO (nI kk).toNatClampNeg v_7))), (o, Sum.inr (9, mO g 4 fShift fModels (nI its.length) 1 fLow fRange fCache fPend (nI b9.length) (nI b9.length) fIns fReads fBad fIR fAsk fBAsk fCode fRL fRR fX fWritesq_122 0)), ((g 0), Sum.inl (cI, 8, Sum.inl vMany)), ((g 1), Sum.inl (cI, 512, Sum.inl vCounts)), ((g 2), Sum.inl (cI, 512, Sum.inl vNow)), ((g 4), Sum.inl (cI, 600, Sum.inl vIM)), ((g 5), Sum.inl (cI, 600, Sum.inl vIW)), ((g 6), Sum.inl (cI, 9000, Sum.inl vGoingq_122)), ((g 9), Sum.inl (cI, 512, Sum.inl vSOq_122)), ((g 10), Sum.inl (cI, 512, Sum.inl vNOq_122)), ((g 11), Sum.inl (cI, 20000, Sum.inl vWrq_122))] H := hP
                  have hD : va_D A [((g 7), Sum.inl (cI, 9000, Sum.inl (upd fO (nI kk).toNatClampNeg v_7))), (o, Sum.inr (9, mO g 4 fShift fModels (nI its.length) 1 fLow fRange fCache fPend (nI b9.length) (nI b9.length) fIns fReads fBad fIR fAsk fBAsk fCode fRL fRR fX fWritesq_122 0)), ((g 0), Sum.inl (cI, 8, Sum.inl vMany)), ((g 1), Sum.inl (cI, 512, Sum.inl vCounts)), ((g 2), Sum.inl (cI, 512, Sum.inl vNow)), ((g 4), Sum.inl (cI, 600, Sum.inl vIM)), ((g 5), Sum.inl (cI, 600, Sum.inl vIW)), ((g 6), Sum.inl (cI, 9000, Sum.inl vGoingq_122)), ((g 9), Sum.inl (cI, 512, Sum.inl vSOq_122)), ((g 10), Sum.inl (cI, 512, Sum.inl vNOq_122)), ((g 11), Sum.inl (cI, 20000, Sum.inl vWrq_122))] := hD
                  have hc8 : ∀ i, i < kk + 1 → (upd fO (nI kk).toNatClampNeg v_7) i = vGoingq_122 i := cp_st hc (nI_clamp (by omega)) (by rw [ev_7, nI_clamp (by omega)])
                  obtain ⟨v_8, ev_8⟩ : ∃ y : Int32, y = (nI kk) + (1) := ⟨_, rfl⟩
                  refine lv_iinc (v := v_8) (lv' := [(1, Value.int v_8), (0, Value.ref o)]) hx hb d_M_end_155 hl (k := 0) rfl (by rw [ev_8]; rfl) (by decide) rfl (fun ls hl => ?_)
                  have z9 : v_8 = nI (kk + 1) := by rw [ev_8]; exact nI_1 _
                  subst z9
                  refine lv_goto (tgt := 135) hx hb d_M_end_158 (by decide) ?_
                  exact ih9_135 _ (by first | omega | (omega)) (kk + 1) (upd fO (nI kk).toNatClampNeg v_7) rfl (by omega) (hc8) H locs ls (hP.sub [0, 1, 2, 3, 4, 5, 6, 7, 8, 9, 10] rfl) (hD.sub [0, 1, 2, 3, 4, 5, 6, 7, 8, 9, 10] (by decide +kernel) rfl) hS (lv_sub hl [0, 1] rfl)
            exact J_135 _ (0 : Nat) vOut rfl (Nat.zero_le _) (fun _ z => absurd z (Nat.not_lt_zero _)) H locs ls (hP.sub [0, 1, 2, 3, 4, 5, 6, 7, 8, 9, 10] rfl) (hD.sub [0, 1, 2, 3, 4, 5, 6, 7, 8, 9, 10] (by decide +kernel) rfl) hS (lv_sub hl [0, 1] rfl)
          · exact absurd c_5 (by decide)
        · exact absurd c_4 (by decide)
      · exact absurd c_3 (by decide)
  · exact absurd (by decide) c_1
end
