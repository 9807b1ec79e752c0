set_option maxHeartbeats 2000000 in
set_option maxRecDepth 100000 in
theorem c_M_end0 (l : Launch) (dC : Nat → ClassId) (dI : Nat → Nat → Nat) (cI cM cO : ClassId) (sz : Nat) (o : Nat) (g : Nat → Nat) (fForm : Int32) (fShift : Int32) (fModels : Int32) (fItems : Int32) (fEnded : Int32) (fLow : Int64) (fRange : Int64) (fCache : Int32) (fPend : Int32) (fGoes : Int32) (fOuts : Int32) (fIns : Int32) (fReads : Int32) (fBad : Int32) (fIR : Int32) (fAsk : Int32) (fBAsk : Int32) (fCode : Int64) (fRL : Int64) (fRR : Int64) (fX : Int64) (fWrites : Int32) (fThrown : Int32) (vGoing : Nat → Int32) (vOut : Nat → Int32) (hfo : fForm = 0) (hen : fEnded = 0) (hI : MI0 fItems fLow fRange fCache fPend fGoes vGoing) : MetI l y_M_end (Cond.code y_M_end prog_14_method_31_code 2 (some .int) :: gw) ({ frames := 2, cells := 0, slots := 0, locals := 42 } : Room) (dC, dI) vwCl (kT cI cM cO) [.ref o] [(o, .inr (9, mO g fForm fShift fModels fItems fEnded fLow fRange fCache fPend fGoes fOuts fIns fReads fBad fIR fAsk fBAsk fCode fRL fRR fX fWrites fThrown)), ((g 6), .inl (cI, 9000, .inl vGoing)), ((g 7), .inl (cI, 9000, .inl vOut))] sz (fun (r : Int32) (u : Int32 × Int64 × Int64 × Int32 × Int32 × Int32 × Int32 × Int32 × (Nat → Int32) × (Nat → Int32)) => OU u.2.2.2.2.2.2.1 u.2.2.2.2.2.2.2.2.2 ∧ ¬ u.1 = 0) (fun (u : Int32 × Int64 × Int64 × Int32 × Int32 × Int32 × Int32 × Int32 × (Nat → Int32) × (Nat → Int32)) => [(o, .inr (9, mO g fForm fShift fModels fItems u.1 u.2.1 u.2.2.1 u.2.2.2.1 u.2.2.2.2.1 u.2.2.2.2.2.1 u.2.2.2.2.2.2.1 fIns fReads fBad fIR fAsk fBAsk fCode fRL fRR fX fWrites u.2.2.2.2.2.2.2.1)), ((g 6), .inl (cI, 9000, .inl u.2.2.2.2.2.2.2.2.1)), ((g 7), .inl (cI, 9000, .inl u.2.2.2.2.2.2.2.2.2))]) 0 0 := by
  refine my_ofI (cc := prog_14_method_31_code) (n := 2) (ret := (some .int)) (by decide) rfl (Nat.le_of_ble_eq_true rfl) ?_
  intro p e s m args below meth c R Q A ls H locs hx hb hr hts hown hlocks hml hnm hR hQ hA hl hP hK hN hD hS
  have hg : ∀ w ∈ gw, w.before args s = true := fun w h => hts w (List.mem_cons_of_mem _ h)
  have hown : s.vm.findClass "RangeCodersModel" = some m.cls := hown
  have hl : lv_has ls 2 [(0, .ref o)] := hl
  subst hfo
  subst hen
  obtain ⟨ki, hki, rfl, Rg, L, ca, Pn, bs, rfl, rfl, rfl, rfl, rfl, hE, hG, ho, hlb⟩ := hI
  have hP : va_P (dC, dI) vwCl [(o, .inr (9, mO g 0 fShift fModels (nI ki) 0 (lN L) (lN Rg) (caI ca) (nI Pn) (nI bs.length) fOuts fIns fReads fBad fIR fAsk fBAsk fCode fRL fRR fX fWrites fThrown)), ((g 6), .inl (cI, 9000, .inl vGoing)), ((g 7), .inl (cI, 9000, .inl vOut))] H := hP
  have hD : va_D A [(o, .inr (9, mO g 0 fShift fModels (nI ki) 0 (lN L) (lN Rg) (caI ca) (nI Pn) (nI bs.length) fOuts fIns fReads fBad fIR fAsk fBAsk fCode fRL fRR fX fWrites fThrown)), ((g 6), .inl (cI, 9000, .inl vGoing)), ((g 7), .inl (cI, 9000, .inl vOut))] := hD
  have hl : lv_has ls 2 [(0, .ref o)] := hl
  refine lv_aload_n hx hb d_M_end_0 rfl (lv_at hl 0 rfl) ?_
  refine lv_iconst (v := 0) hx hb d_M_end_1 (by decide) ?_
  refine va_put (D := (dC, dI)) (ci := 9) (v := .int 0) (ty := .int) (C := "RangeCodersModel") (T := T_M) (N := 35) hx hb hg in_M t_M o_M n_M hown hK hP hD hS 0 rfl rfl 34 (by decide) (hg _ k986) (fun _ h9 => h9) rfl (by decide +kernel) rfl rfl (Nat.le_of_ble_eq_true rfl) d_M_end_2 (fun H locs hP hD hS => ?_)
  have hP : va_P (dC, dI) vwCl [(o, .inr (9, mO g 0 fShift fModels (nI ki) 0 (lN L) (lN Rg) (caI ca) (nI Pn) (nI bs.length) fOuts fIns fReads fBad fIR fAsk fBAsk fCode fRL fRR fX fWrites 0)), ((g 6), .inl (cI, 9000, .inl vGoing)), ((g 7), .inl (cI, 9000, .inl vOut))] H := hP
  have hD : va_D A [(o, .inr (9, mO g 0 fShift fModels (nI ki) 0 (lN L) (lN Rg) (caI ca) (nI Pn) (nI bs.length) fOuts fIns fReads fBad fIR fAsk fBAsk fCode fRL fRR fX fWrites 0)), ((g 6), .inl (cI, 9000, .inl vGoing)), ((g 7), .inl (cI, 9000, .inl vOut))] := hD
  refine lv_aload_n hx hb d_M_end_5 rfl (lv_at hl 0 rfl) ?_
  refine va_get (D := (dC, dI)) (ci := 9) (v := .int 0) (C := "RangeCodersModel") (T := T_M) (N := 35) hx hb hg in_M hown hK hP 0 rfl rfl 10 (by decide) (hg _ k962) (fun _ h9 => h9) rfl d_M_end_6 ?_
  refine lv_if_eq (tgt := 15) hx hb d_M_end_9 (by decide) (fun c_1 => ?_) (fun c_1 => ?_)
  · refine lv_aload_n hx hb d_M_end_15 rfl (lv_at hl 0 rfl) ?_
    refine lv_iconst (v := 1) hx hb d_M_end_16 (by decide) ?_
    refine va_put (D := (dC, dI)) (ci := 9) (v := .int 1) (ty := .boolean) (C := "RangeCodersModel") (T := T_M) (N := 35) hx hb hg in_M t_M o_M n_M hown hK hP hD hS 0 rfl rfl 10 (by decide) (hg _ k962) (fun _ h9 => h9) rfl (by decide +kernel) rfl rfl (Nat.le_of_ble_eq_true rfl) d_M_end_17 (fun H locs hP hD hS => ?_)
    have hP : va_P (dC, dI) vwCl [(o, .inr (9, mO g 0 fShift fModels (nI ki) 1 (lN L) (lN Rg) (caI ca) (nI Pn) (nI bs.length) fOuts fIns fReads fBad fIR fAsk fBAsk fCode fRL fRR fX fWrites 0)), ((g 6), .inl (cI, 9000, .inl vGoing)), ((g 7), .inl (cI, 9000, .inl vOut))] H := hP
    have hD : va_D A [(o, .inr (9, mO g 0 fShift fModels (nI ki) 1 (lN L) (lN Rg) (caI ca) (nI Pn) (nI bs.length) fOuts fIns fReads fBad fIR fAsk fBAsk fCode fRL fRR fX fWrites 0)), ((g 6), .inl (cI, 9000, .inl vGoing)), ((g 7), .inl (cI, 9000, .inl vOut))] := hD
    refine lv_aload_n hx hb d_M_end_20 rfl (lv_at hl 0 rfl) ?_
    refine va_get (D := (dC, dI)) (ci := 9) (v := .int 0) (C := "RangeCodersModel") (T := T_M) (N := 35) hx hb hg in_M hown hK hP 0 rfl rfl 0 (by decide) (hg _ k952) (fun _ h9 => h9) rfl d_M_end_21 ?_
    refine lv_if_eq (tgt := 35) hx hb d_M_end_24 (by decide) (fun c_2 => ?_) (fun c_2 => ?_)
    · refine lv_iconst (v := 0) hx hb d_M_end_35 (by decide) ?_
      refine lv_istore_n (lv' := [(1, .int 0), (0, .ref o)]) hx hb d_M_end_36 rfl hl (by decide) rfl (fun ls hl => ?_)
      have J_37 : ∀ (n9_37 : Nat) (jj : Nat) (e9 : ES) (fG : Nat → Int32) (hn9_37 : 5 - jj = n9_37) (hjj : jj ≤ 5) (he9 : eOk e9) (hG9 : gIs fG (eB e9)) (ho9 : oct (eB e9)) (hN9 : eN e9 ≤ 7201 + jj) (H : Heap) (locs : List Loc) (ls : Array Slot), va_P (dC, dI) vwCl [(o, .inr (9, mO g 0 fShift fModels (nI ki) 1 (lN (eL e9)) (lN (eR e9)) (caI (eC e9)) (nI (eP e9)) (nI (eB e9).length) fOuts fIns fReads fBad fIR fAsk fBAsk fCode fRL fRR fX fWrites 0)), ((g 6), .inl (cI, 9000, .inl fG)), ((g 7), .inl (cI, 9000, .inl vOut))] H → va_D A [(o, .inr (9, mO g 0 fShift fModels (nI ki) 1 (lN (eL e9)) (lN (eR e9)) (caI (eC e9)) (nI (eP e9)) (nI (eB e9).length) fOuts fIns fReads fBad fIR fAsk fBAsk fCode fRL fRR fX fWrites 0)), ((g 6), .inl (cI, 9000, .inl fG)), ((g 7), .inl (cI, 9000, .inl vOut))] → va_S A s.heap H locs → lv_has ls 2 [(1, .int (nI jj)), (0, .ref o)] → W p l e R s m args below meth c H locs 0 0 Q (F0 m 37 ls []) := by
        intro n9_37
        induction n9_37 using Nat.strongRecOn with
        | ind n9_37 ih9_37 =>
          intro jj e9 fG hn9_37 hjj he9 hG9 ho9 hN9 H locs ls hP hD hS hl
          refine lv_iload_n hx hb d_M_end_37 rfl (lv_at hl 0 rfl) ?_
          refine lv_iconst (v := 5) hx hb d_M_end_38 (by decide) ?_
          refine lv_icmp_ge (tgt := 52) hx hb d_M_end_39 (by decide) (fun c_3 => ?_) (fun c_3 => ?_)
          · refine lv_goto (tgt := 125) hx hb d_M_end_52 (by decide) ?_
            have hl9 : (eB e9).length ≤ 7300 := by unfold eN at hN9; omega
            refine lv_aload_n hx hb d_M_end_125 rfl (lv_at hl 1 rfl) ?_
            refine lv_aload_n hx hb d_M_end_126 rfl (lv_at hl 1 rfl) ?_
            refine va_get (D := (dC, dI)) (ci := 9) (v := .int (nI (eB e9).length)) (C := "RangeCodersModel") (T := T_M) (N := 35) hx hb hg in_M hown hK hP 0 rfl rfl 16 (by decide) (hg _ k968) (fun _ h9 => h9) rfl d_M_end_127 ?_
            refine va_put (D := (dC, dI)) (ci := 9) (v := .int (nI (eB e9).length)) (ty := .int) (C := "RangeCodersModel") (T := T_M) (N := 35) hx hb hg in_M t_M o_M n_M hown hK hP hD hS 0 rfl rfl 18 (by decide) (hg _ k970) (fun _ h9 => h9) rfl (by decide +kernel) rfl rfl (Nat.le_of_ble_eq_true rfl) d_M_end_130 (fun H locs hP hD hS => ?_)
            have hP : va_P (dC, dI) vwCl [(o, .inr (9, mO g 0 fShift fModels (nI ki) 1 (lN (eL e9)) (lN (eR e9)) (caI (eC e9)) (nI (eP e9)) (nI (eB e9).length) (nI (eB e9).length) fIns fReads fBad fIR fAsk fBAsk fCode fRL fRR fX fWrites 0)), ((g 6), .inl (cI, 9000, .inl fG)), ((g 7), .inl (cI, 9000, .inl vOut))] H := hP
            have hD : va_D A [(o, .inr (9, mO g 0 fShift fModels (nI ki) 1 (lN (eL e9)) (lN (eR e9)) (caI (eC e9)) (nI (eP e9)) (nI (eB e9).length) (nI (eB e9).length) fIns fReads fBad fIR fAsk fBAsk fCode fRL fRR fX fWrites 0)), ((g 6), .inl (cI, 9000, .inl fG)), ((g 7), .inl (cI, 9000, .inl vOut))] := hD
            refine lv_iconst (v := 0) hx hb d_M_end_133 (by decide) ?_
            refine lv_istore_n (lv' := [(1, .int 0), (0, .ref o)]) hx hb d_M_end_134 rfl hl (by decide) rfl (fun ls hl => ?_)
            have J_135 : ∀ (n9_135 : Nat) (kk : Nat) (fO : Nat → Int32) (hn9_135 : (eB e9).length - kk = n9_135) (hkk : kk ≤ (eB e9).length) (hc : ∀ i, i < kk → fO i = fG i) (H : Heap) (locs : List Loc) (ls : Array Slot), va_P (dC, dI) vwCl [(o, .inr (9, mO g 0 fShift fModels (nI ki) 1 (lN (eL e9)) (lN (eR e9)) (caI (eC e9)) (nI (eP e9)) (nI (eB e9).length) (nI (eB e9).length) fIns fReads fBad fIR fAsk fBAsk fCode fRL fRR fX fWrites 0)), ((g 6), .inl (cI, 9000, .inl fG)), ((g 7), .inl (cI, 9000, .inl fO))] H → va_D A [(o, .inr (9, mO g 0 fShift fModels (nI ki) 1 (lN (eL e9)) (lN (eR e9)) (caI (eC e9)) (nI (eP e9)) (nI (eB e9).length) (nI (eB e9).length) fIns fReads fBad fIR fAsk fBAsk fCode fRL fRR fX fWrites 0)), ((g 6), .inl (cI, 9000, .inl fG)), ((g 7), .inl (cI, 9000, .inl fO))] → va_S A s.heap H locs → lv_has ls 2 [(1, .int (nI kk)), (0, .ref o)] → W p l e R s m args below meth c H locs 0 0 Q (F0 m 135 ls []) := by
              intro n9_135
              induction n9_135 using Nat.strongRecOn with
              | ind n9_135 ih9_135 =>
                intro kk fO hn9_135 hkk hc H locs ls hP hD hS hl
                refine lv_iload_n hx hb d_M_end_135 rfl (lv_at hl 0 rfl) ?_
                refine lv_aload_n hx hb d_M_end_136 rfl (lv_at hl 1 rfl) ?_
                refine va_get (D := (dC, dI)) (ci := 9) (v := .int (nI (eB e9).length)) (C := "RangeCodersModel") (T := T_M) (N := 35) hx hb hg in_M hown hK hP 0 rfl rfl 16 (by decide) (hg _ k968) (fun _ h9 => h9) rfl d_M_end_137 ?_
                refine lv_icmp_ge (tgt := 161) hx hb d_M_end_140 (by decide) (fun c_4 => ?_) (fun c_4 => ?_)
                · have hkn : kk = (eB e9).length := by have := (nI_cmp (a := (eB e9).length) (b := kk) (by omega) (by omega)).mp c_4; omega
                  subst hkn
                  refine lv_aload_n hx hb d_M_end_161 rfl (lv_at hl 1 rfl) ?_
                  refine va_get (D := (dC, dI)) (ci := 9) (v := .int (nI (eB e9).length)) (C := "RangeCodersModel") (T := T_M) (N := 35) hx hb hg in_M hown hK hP 0 rfl rfl 18 (by decide) (hg _ k970) (fun _ h9 => h9) rfl d_M_end_162 ?_
                  exact my_iret (v := nI (eB e9).length) hx hb hr (rfl) hlocks hQ hK hS (Nat.le_refl _) (Nat.le_refl _) ((1 : Int32), lN (eL e9), lN (eR e9), caI (eC e9), nI (eP e9), nI (eB e9).length, nI (eB e9).length, (0 : Int32), fG, fO) (⟨OU_cp hG9 ho9 (by omega) hc, (show ¬ (1 : Int32) = 0 from by decide)⟩) (hP.sub [0, 1, 2] rfl) (hD.sub [0, 1, 2] (by decide) rfl) d_M_end_165
                · have hkl : kk < (eB e9).length := by
                    rcases Nat.lt_or_ge kk (eB e9).length with z | z
                    · exact z
                    · exact absurd (nI_le z (by omega)) c_4
                  refine lv_aload_n hx hb d_M_end_143 rfl (lv_at hl 1 rfl) ?_
                  refine va_get (D := (dC, dI)) (ci := 9) (v := .ref (g 7)) (C := "RangeCodersModel") (T := T_M) (N := 35) hx hb hg in_M hown hK hP 0 rfl rfl 17 (by decide) (hg _ k969) (fun _ h9 => h9) rfl d_M_end_144 ?_
                  refine lv_iload_n hx hb d_M_end_147 rfl (lv_at hl 0 rfl) ?_
                  refine lv_aload_n hx hb d_M_end_148 rfl (lv_at hl 1 rfl) ?_
                  refine va_get (D := (dC, dI)) (ci := 9) (v := .ref (g 6)) (C := "RangeCodersModel") (T := T_M) (N := 35) hx hb hg in_M hown hK hP 0 rfl rfl 15 (by decide) (hg _ k967) (fun _ h9 => h9) rfl d_M_end_149 ?_
                  refine lv_iload_n hx hb d_M_end_152 rfl (lv_at hl 0 rfl) ?_
                  refine va_iald hx hb hK hP 1 0 rfl rfl (vp_in_nI (by omega) (by decide)) d_M_end_153 ?_
                  refine lv_topi (fun v_5 ev_5 => ?_)
                  refine va_iast hx hb hK hP hD hS 2 0 rfl rfl (vp_in_nI (by omega) (by decide)) d_M_end_154 (fun H locs hP hD hS => ?_)
                  have hP : va_P (dC, dI) vwCl [(o, .inr (9, mO g 0 fShift fModels (nI ki) 1 (lN (eL e9)) (lN (eR e9)) (caI (eC e9)) (nI (eP e9)) (nI (eB e9).length) (nI (eB e9).length) fIns fReads fBad fIR fAsk fBAsk fCode fRL fRR fX fWrites 0)), ((g 6), .inl (cI, 9000, .inl fG)), ((g 7), .inl (cI, 9000, .inl (upd fO (nI kk).toNatClampNeg v_5)))] H := hP
                  have hD : va_D A [(o, .inr (9, mO g 0 fShift fModels (nI ki) 1 (lN (eL e9)) (lN (eR e9)) (caI (eC e9)) (nI (eP e9)) (nI (eB e9).length) (nI (eB e9).length) fIns fReads fBad fIR fAsk fBAsk fCode fRL fRR fX fWrites 0)), ((g 6), .inl (cI, 9000, .inl fG)), ((g 7), .inl (cI, 9000, .inl (upd fO (nI kk).toNatClampNeg v_5)))] := hD
                  have hc8 : ∀ i, i < kk + 1 → (upd fO (nI kk).toNatClampNeg v_5) i = fG i := cp_st hc (nI_clamp (by omega)) (by rw [ev_5, nI_clamp (by omega)])
                  obtain ⟨v_6, ev_6⟩ : ∃ y : Int32, y = (nI kk) + (1) := ⟨_, rfl⟩
                  refine lv_iinc (v := v_6) (lv' := [(1, .int v_6), (0, .ref o)]) hx hb d_M_end_155 hl (k := 0) rfl (by rw [ev_6]; rfl) (by decide) rfl (fun ls hl => ?_)
                  have z9 : v_6 = nI (kk + 1) := by rw [ev_6]; exact nI_1 _
                  subst z9
                  refine lv_goto (tgt := 135) hx hb d_M_end_158 (by decide) ?_
                  exact ih9_135 _ (by first | omega | (omega)) (kk + 1) (upd fO (nI kk).toNatClampNeg v_5) rfl (by omega) (hc8) H locs ls (hP.sub [0, 1, 2] rfl) (hD.sub [0, 1, 2] (by decide) rfl) hS (lv_sub hl [0, 1] rfl)
            exact J_135 _ (0 : Nat) vOut rfl (Nat.zero_le _) (fun _ z => absurd z (Nat.not_lt_zero _)) H locs ls (hP.sub [0, 1, 2] rfl) (hD.sub [0, 1, 2] (by decide) rfl) hS (lv_sub hl [0, 1] rfl)
          · have hjl : jj < 5 := by
              rcases Nat.lt_or_ge jj 5 with z | z
              · exact z
              · exact absurd (nI_le (a := 5) z (by omega)) c_3
            have hl9 : (eB e9).length + eP e9 + 1 ≤ 7201 + jj := hN9
            refine lv_aload_n hx hb d_M_end_42 rfl (lv_at hl 1 rfl) ?_
            refine my_cv (wr := [((g 7), .inl (cI, 9000, .inl vOut))]) (va_runV (As := []) (rest := []) ⟨hx, hb, hml, hown, hts⟩ (c_M_shifted l dC dI cI cM cO H.size o g 0 fShift fModels (nI ki) 1 fOuts fIns fReads fBad fIR fAsk fBAsk fCode fRL fRR fX fWrites 0 fG (eR e9) (eL e9) (eC e9) (eP e9) (eB e9) (he9.1) (he9.2) (hG9) (by omega)) (cwV 0 hts (my_gV k1102 k1104 ks31 k12 k1105) rfl rfl rfl (by decide +kernel) ⟨by rw [hR]; exact Nat.le_of_ble_eq_true rfl, by rw [hR]; exact Nat.le_of_ble_eq_true rfl⟩) (my_preV hK hN (hP.sub [0, 1] rfl) (hD.sub [0, 1] (by decide) rfl) 0 rfl rfl) rfl rfl hl.1 rfl (lv_room (Nat.le_of_ble_eq_true rfl)) d_M_end_43 ⟨by rw [hR]; exact Nat.le_of_ble_eq_true rfl, by rw [hR]; exact Nat.le_of_ble_eq_true rfl⟩) hP hD hS hA [0, 1] [2] rfl rfl (by decide) (by decide) (fun u9 H locs hw_43 hP hD hS => ?_)
            obtain ⟨v2_43, rfl⟩ : ∃ z, z = u9 := ⟨_, rfl⟩
            have hw_43 : gIs v2_43 (shB (eL e9) (eC e9) (eP e9) (eB e9)) := hw_43
            have hP : va_P (dC, dI) vwCl [((g 7), .inl (cI, 9000, .inl vOut)), (o, .inr (9, mO g 0 fShift fModels (nI ki) 1 (lN (shL (eL e9))) (lN (eR e9)) (caI (shC (eL e9) (eC e9))) (nI (shP (eL e9) (eP e9))) (nI (shB (eL e9) (eC e9) (eP e9) (eB e9)).length) fOuts fIns fReads fBad fIR fAsk fBAsk fCode fRL fRR fX fWrites 0)), ((g 6), .inl (cI, 9000, .inl v2_43))] H := hP
            have hD : va_D A [((g 7), .inl (cI, 9000, .inl vOut)), (o, .inr (9, mO g 0 fShift fModels (nI ki) 1 (lN (shL (eL e9))) (lN (eR e9)) (caI (shC (eL e9) (eC e9))) (nI (shP (eL e9) (eP e9))) (nI (shB (eL e9) (eC e9) (eP e9) (eB e9)).length) fOuts fIns fReads fBad fIR fAsk fBAsk fCode fRL fRR fX fWrites 0)), ((g 6), .inl (cI, 9000, .inl v2_43))] := hD
            obtain ⟨v_7, ev_7⟩ : ∃ y : Int32, y = (nI jj) + (1) := ⟨_, rfl⟩
            refine lv_iinc (v := v_7) (lv' := [(1, .int v_7), (0, .ref o)]) hx hb d_M_end_46 hl (k := 0) rfl (by rw [ev_7]; rfl) (by decide) rfl (fun ls hl => ?_)
            have z9 : v_7 = nI (jj + 1) := by rw [ev_7]; exact nI_1 _
            subst z9
            refine lv_goto (tgt := 37) hx hb d_M_end_49 (by decide) ?_
            exact ih9_37 _ (by first | omega | (omega)) (jj + 1) (shS e9) v2_43 rfl (by omega) (eOk_sh he9) (hw_43) (oct_shB ho9) (Nat.le_trans (eN_sh e9) (by omega)) H locs ls (hP.sub [1, 2, 0] rfl) (hD.sub [1, 2, 0] (by decide) rfl) hS (lv_sub hl [0, 1] rfl)
      exact J_37 _ (0 : Nat) (Rg, L, ca, Pn, bs) vGoing rfl (by decide) (⟨by have a9 := hE.1; have b9 := hE.2.2.1; show L < 8589934592; have a9 : 16777216 ≤ Rg := a9; have b9 : L + Rg ≤ 8589934592 := b9; omega, hE.2.2.2⟩) (hG) (ho) (show bs.length + Pn + 1 ≤ 7201 + 0 by omega) H locs ls (hP.sub [0, 1, 2] rfl) (hD.sub [0, 1, 2] (by decide) rfl) hS (lv_sub hl [0, 1] rfl)
    · exact absurd (by decide) c_2
  · exact absurd (by decide) c_1
set_option maxHeartbeats 2000000 in
set_option maxRecDepth 100000 in
theorem c_M_end2 (l : Launch) (dC : Nat → ClassId) (dI : Nat → Nat → Nat) (cI cM cO : ClassId) (sz : Nat) (o : Nat) (g : Nat → Nat) (fForm : Int32) (fShift : Int32) (fModels : Int32) (fItems : Int32) (fEnded : Int32) (fLow : Int64) (fRange : Int64) (fCache : Int32) (fPend : Int32) (fGoes : Int32) (fOuts : Int32) (fIns : Int32) (fReads : Int32) (fBad : Int32) (fIR : Int32) (fAsk : Int32) (fBAsk : Int32) (fCode : Int64) (fRL : Int64) (fRR : Int64) (fX : Int64) (fWrites : Int32) (fThrown : Int32) (vGoing : Nat → Int32) (vOut : Nat → Int32) (hfo : fForm = 2) (hen : fEnded = 0) (hI : MI0 fItems fLow fRange fCache fPend fGoes vGoing) : MetI l y_M_end (Cond.code y_M_end prog_14_method_31_code 2 (some .int) :: gw) ({ frames := 2, cells := 0, slots := 0, locals := 42 } : Room) (dC, dI) vwCl (kT cI cM cO) [.ref o] [(o, .inr (9, mO g fForm fShift fModels fItems fEnded fLow fRange fCache fPend fGoes fOuts fIns fReads fBad fIR fAsk fBAsk fCode fRL fRR fX fWrites fThrown)), ((g 6), .inl (cI, 9000, .inl vGoing)), ((g 7), .inl (cI, 9000, .inl vOut))] sz (fun (r : Int32) (u : Int32 × Int64 × Int64 × Int32 × Int32 × Int32 × Int32 × Int32 × (Nat → Int32) × (Nat → Int32)) => OU u.2.2.2.2.2.2.1 u.2.2.2.2.2.2.2.2.2 ∧ ¬ u.1 = 0) (fun (u : Int32 × Int64 × Int64 × Int32 × Int32 × Int32 × Int32 × Int32 × (Nat → Int32) × (Nat → Int32)) => [(o, .inr (9, mO g fForm fShift fModels fItems u.1 u.2.1 u.2.2.1 u.2.2.2.1 u.2.2.2.2.1 u.2.2.2.2.2.1 u.2.2.2.2.2.2.1 fIns fReads fBad fIR fAsk fBAsk fCode fRL fRR fX fWrites u.2.2.2.2.2.2.2.1)), ((g 6), .inl (cI, 9000, .inl u.2.2.2.2.2.2.2.2.1)), ((g 7), .inl (cI, 9000, .inl u.2.2.2.2.2.2.2.2.2))]) 0 0 := by
  refine my_ofI (cc := prog_14_method_31_code) (n := 2) (ret := (some .int)) (by decide) rfl (Nat.le_of_ble_eq_true rfl) ?_
  intro p e s m args below meth c R Q A ls H locs hx hb hr hts hown hlocks hml hnm hR hQ hA hl hP hK hN hD hS
  have hg : ∀ w ∈ gw, w.before args s = true := fun w h => hts w (List.mem_cons_of_mem _ h)
  have hown : s.vm.findClass "RangeCodersModel" = some m.cls := hown
  have hl : lv_has ls 2 [(0, .ref o)] := hl
  subst hfo
  subst hen
  obtain ⟨ki, hki, rfl, Rg, L, ca, Pn, bs, rfl, rfl, rfl, rfl, rfl, hE, hG, ho, hlb⟩ := hI
  have hP : va_P (dC, dI) vwCl [(o, .inr (9, mO g 2 fShift fModels (nI ki) 0 (lN L) (lN Rg) (caI ca) (nI Pn) (nI bs.length) fOuts fIns fReads fBad fIR fAsk fBAsk fCode fRL fRR fX fWrites fThrown)), ((g 6), .inl (cI, 9000, .inl vGoing)), ((g 7), .inl (cI, 9000, .inl vOut))] H := hP
  have hD : va_D A [(o, .inr (9, mO g 2 fShift fModels (nI ki) 0 (lN L) (lN Rg) (caI ca) (nI Pn) (nI bs.length) fOuts fIns fReads fBad fIR fAsk fBAsk fCode fRL fRR fX fWrites fThrown)), ((g 6), .inl (cI, 9000, .inl vGoing)), ((g 7), .inl (cI, 9000, .inl vOut))] := hD
  have hl : lv_has ls 2 [(0, .ref o)] := hl
  refine lv_aload_n hx hb d_M_end_0 rfl (lv_at hl 0 rfl) ?_
  refine lv_iconst (v := 0) hx hb d_M_end_1 (by decide) ?_
  refine va_put (D := (dC, dI)) (ci := 9) (v := .int 0) (ty := .int) (C := "RangeCodersModel") (T := T_M) (N := 35) hx hb hg in_M t_M o_M n_M hown hK hP hD hS 0 rfl rfl 34 (by decide) (hg _ k986) (fun _ h9 => h9) rfl (by decide +kernel) rfl rfl (Nat.le_of_ble_eq_true rfl) d_M_end_2 (fun H locs hP hD hS => ?_)
  have hP : va_P (dC, dI) vwCl [(o, .inr (9, mO g 2 fShift fModels (nI ki) 0 (lN L) (lN Rg) (caI ca) (nI Pn) (nI bs.length) fOuts fIns fReads fBad fIR fAsk fBAsk fCode fRL fRR fX fWrites 0)), ((g 6), .inl (cI, 9000, .inl vGoing)), ((g 7), .inl (cI, 9000, .inl vOut))] H := hP
  have hD : va_D A [(o, .inr (9, mO g 2 fShift fModels (nI ki) 0 (lN L) (lN Rg) (caI ca) (nI Pn) (nI bs.length) fOuts fIns fReads fBad fIR fAsk fBAsk fCode fRL fRR fX fWrites 0)), ((g 6), .inl (cI, 9000, .inl vGoing)), ((g 7), .inl (cI, 9000, .inl vOut))] := hD
  refine lv_aload_n hx hb d_M_end_5 rfl (lv_at hl 0 rfl) ?_
  refine va_get (D := (dC, dI)) (ci := 9) (v := .int 0) (C := "RangeCodersModel") (T := T_M) (N := 35) hx hb hg in_M hown hK hP 0 rfl rfl 10 (by decide) (hg _ k962) (fun _ h9 => h9) rfl d_M_end_6 ?_
  refine lv_if_eq (tgt := 15) hx hb d_M_end_9 (by decide) (fun c_1 => ?_) (fun c_1 => ?_)
  · refine lv_aload_n hx hb d_M_end_15 rfl (lv_at hl 0 rfl) ?_
    refine lv_iconst (v := 1) hx hb d_M_end_16 (by decide) ?_
    refine va_put (D := (dC, dI)) (ci := 9) (v := .int 1) (ty := .boolean) (C := "RangeCodersModel") (T := T_M) (N := 35) hx hb hg in_M t_M o_M n_M hown hK hP hD hS 0 rfl rfl 10 (by decide) (hg _ k962) (fun _ h9 => h9) rfl (by decide +kernel) rfl rfl (Nat.le_of_ble_eq_true rfl) d_M_end_17 (fun H locs hP hD hS => ?_)
    have hP : va_P (dC, dI) vwCl [(o, .inr (9, mO g 2 fShift fModels (nI ki) 1 (lN L) (lN Rg) (caI ca) (nI Pn) (nI bs.length) fOuts fIns fReads fBad fIR fAsk fBAsk fCode fRL fRR fX fWrites 0)), ((g 6), .inl (cI, 9000, .inl vGoing)), ((g 7), .inl (cI, 9000, .inl vOut))] H := hP
    have hD : va_D A [(o, .inr (9, mO g 2 fShift fModels (nI ki) 1 (lN L) (lN Rg) (caI ca) (nI Pn) (nI bs.length) fOuts fIns fReads fBad fIR fAsk fBAsk fCode fRL fRR fX fWrites 0)), ((g 6), .inl (cI, 9000, .inl vGoing)), ((g 7), .inl (cI, 9000, .inl vOut))] := hD
    refine lv_aload_n hx hb d_M_end_20 rfl (lv_at hl 0 rfl) ?_
    refine va_get (D := (dC, dI)) (ci := 9) (v := .int 2) (C := "RangeCodersModel") (T := T_M) (N := 35) hx hb hg in_M hown hK hP 0 rfl rfl 0 (by decide) (hg _ k952) (fun _ h9 => h9) rfl d_M_end_21 ?_
    refine lv_if_eq (tgt := 35) hx hb d_M_end_24 (by decide) (fun c_2 => ?_) (fun c_2 => ?_)
    · exact absurd c_2 (by decide)
    · refine lv_aload_n hx hb d_M_end_27 rfl (lv_at hl 0 rfl) ?_
      refine va_get (D := (dC, dI)) (ci := 9) (v := .int 2) (C := "RangeCodersModel") (T := T_M) (N := 35) hx hb hg in_M hown hK hP 0 rfl rfl 0 (by decide) (hg _ k952) (fun _ h9 => h9) rfl d_M_end_28 ?_
      refine lv_iconst (v := 2) hx hb d_M_end_31 (by decide) ?_
      refine lv_icmp_ne (tgt := 55) hx hb d_M_end_32 (by decide) (fun c_3 => ?_) (fun c_3 => ?_)
      · exact absurd rfl c_3
      · refine lv_iconst (v := 0) hx hb d_M_end_35 (by decide) ?_
        refine lv_istore_n (lv' := [(1, .int 0), (0, .ref o)]) hx hb d_M_end_36 rfl hl (by decide) rfl (fun ls hl => ?_)
        have J_37 : ∀ (n9_37 : Nat) (jj : Nat) (e9 : ES) (fG : Nat → Int32) (hn9_37 : 5 - jj = n9_37) (hjj : jj ≤ 5) (he9 : eOk e9) (hG9 : gIs fG (eB e9)) (ho9 : oct (eB e9)) (hN9 : eN e9 ≤ 7201 + jj) (H : Heap) (locs : List Loc) (ls : Array Slot), va_P (dC, dI) vwCl [(o, .inr (9, mO g 2 fShift fModels (nI ki) 1 (lN (eL e9)) (lN (eR e9)) (caI (eC e9)) (nI (eP e9)) (nI (eB e9).length) fOuts fIns fReads fBad fIR fAsk fBAsk fCode fRL fRR fX fWrites 0)), ((g 6), .inl (cI, 9000, .inl fG)), ((g 7), .inl (cI, 9000, .inl vOut))] H → va_D A [(o, .inr (9, mO g 2 fShift fModels (nI ki) 1 (lN (eL e9)) (lN (eR e9)) (caI (eC e9)) (nI (eP e9)) (nI (eB e9).length) fOuts fIns fReads fBad fIR fAsk fBAsk fCode fRL fRR fX fWrites 0)), ((g 6), .inl (cI, 9000, .inl fG)), ((g 7), .inl (cI, 9000, .inl vOut))] → va_S A s.heap H locs → lv_has ls 2 [(1, .int (nI jj)), (0, .ref o)] → W p l e R s m args below meth c H locs 0 0 Q (F0 m 37 ls []) := by
          intro n9_37
          induction n9_37 using Nat.strongRecOn with
          | ind n9_37 ih9_37 =>
            intro jj e9 fG hn9_37 hjj he9 hG9 ho9 hN9 H locs ls hP hD hS hl
            refine lv_iload_n hx hb d_M_end_37 rfl (lv_at hl 0 rfl) ?_
            refine lv_iconst (v := 5) hx hb d_M_end_38 (by decide) ?_
            refine lv_icmp_ge (tgt := 52) hx hb d_M_end_39 (by decide) (fun c_4 => ?_) (fun c_4 => ?_)
            · refine lv_goto (tgt := 125) hx hb d_M_end_52 (by decide) ?_
              have hl9 : (eB e9).length ≤ 7300 := by unfold eN at hN9; omega
              refine lv_aload_n hx hb d_M_end_125 rfl (lv_at hl 1 rfl) ?_
              refine lv_aload_n hx hb d_M_end_126 rfl (lv_at hl 1 rfl) ?_
              refine va_get (D := (dC, dI)) (ci := 9) (v := .int (nI (eB e9).length)) (C := "RangeCodersModel") (T := T_M) (N := 35) hx hb hg in_M hown hK hP 0 rfl rfl 16 (by decide) (hg _ k968) (fun _ h9 => h9) rfl d_M_end_127 ?_
              refine va_put (D := (dC, dI)) (ci := 9) (v := .int (nI (eB e9).length)) (ty := .int) (C := "RangeCodersModel") (T := T_M) (N := 35) hx hb hg in_M t_M o_M n_M hown hK hP hD hS 0 rfl rfl 18 (by decide) (hg _ k970) (fun _ h9 => h9) rfl (by decide +kernel) rfl rfl (Nat.le_of_ble_eq_true rfl) d_M_end_130 (fun H locs hP hD hS => ?_)
              have hP : va_P (dC, dI) vwCl [(o, .inr (9, mO g 2 fShift fModels (nI ki) 1 (lN (eL e9)) (lN (eR e9)) (caI (eC e9)) (nI (eP e9)) (nI (eB e9).length) (nI (eB e9).length) fIns fReads fBad fIR fAsk fBAsk fCode fRL fRR fX fWrites 0)), ((g 6), .inl (cI, 9000, .inl fG)), ((g 7), .inl (cI, 9000, .inl vOut))] H := hP
              have hD : va_D A [(o, .inr (9, mO g 2 fShift fModels (nI ki) 1 (lN (eL e9)) (lN (eR e9)) (caI (eC e9)) (nI (eP e9)) (nI (eB e9).length) (nI (eB e9).length) fIns fReads fBad fIR fAsk fBAsk fCode fRL fRR fX fWrites 0)), ((g 6), .inl (cI, 9000, .inl fG)), ((g 7), .inl (cI, 9000, .inl vOut))] := hD
              refine lv_iconst (v := 0) hx hb d_M_end_133 (by decide) ?_
              refine lv_istore_n (lv' := [(1, .int 0), (0, .ref o)]) hx hb d_M_end_134 rfl hl (by decide) rfl (fun ls hl => ?_)
              have J_135 : ∀ (n9_135 : Nat) (kk : Nat) (fO : Nat → Int32) (hn9_135 : (eB e9).length - kk = n9_135) (hkk : kk ≤ (eB e9).length) (hc : ∀ i, i < kk → fO i = fG i) (H : Heap) (locs : List Loc) (ls : Array Slot), va_P (dC, dI) vwCl [(o, .inr (9, mO g 2 fShift fModels (nI ki) 1 (lN (eL e9)) (lN (eR e9)) (caI (eC e9)) (nI (eP e9)) (nI (eB e9).length) (nI (eB e9).length) fIns fReads fBad fIR fAsk fBAsk fCode fRL fRR fX fWrites 0)), ((g 6), .inl (cI, 9000, .inl fG)), ((g 7), .inl (cI, 9000, .inl fO))] H → va_D A [(o, .inr (9, mO g 2 fShift fModels (nI ki) 1 (lN (eL e9)) (lN (eR e9)) (caI (eC e9)) (nI (eP e9)) (nI (eB e9).length) (nI (eB e9).length) fIns fReads fBad fIR fAsk fBAsk fCode fRL fRR fX fWrites 0)), ((g 6), .inl (cI, 9000, .inl fG)), ((g 7), .inl (cI, 9000, .inl fO))] → va_S A s.heap H locs → lv_has ls 2 [(1, .int (nI kk)), (0, .ref o)] → W p l e R s m args below meth c H locs 0 0 Q (F0 m 135 ls []) := by
                intro n9_135
                induction n9_135 using Nat.strongRecOn with
                | ind n9_135 ih9_135 =>
                  intro kk fO hn9_135 hkk hc H locs ls hP hD hS hl
                  refine lv_iload_n hx hb d_M_end_135 rfl (lv_at hl 0 rfl) ?_
                  refine lv_aload_n hx hb d_M_end_136 rfl (lv_at hl 1 rfl) ?_
                  refine va_get (D := (dC, dI)) (ci := 9) (v := .int (nI (eB e9).length)) (C := "RangeCodersModel") (T := T_M) (N := 35) hx hb hg in_M hown hK hP 0 rfl rfl 16 (by decide) (hg _ k968) (fun _ h9 => h9) rfl d_M_end_137 ?_
                  refine lv_icmp_ge (tgt := 161) hx hb d_M_end_140 (by decide) (fun c_5 => ?_) (fun c_5 => ?_)
                  · have hkn : kk = (eB e9).length := by have := (nI_cmp (a := (eB e9).length) (b := kk) (by omega) (by omega)).mp c_5; omega
                    subst hkn
                    refine lv_aload_n hx hb d_M_end_161 rfl (lv_at hl 1 rfl) ?_
                    refine va_get (D := (dC, dI)) (ci := 9) (v := .int (nI (eB e9).length)) (C := "RangeCodersModel") (T := T_M) (N := 35) hx hb hg in_M hown hK hP 0 rfl rfl 18 (by decide) (hg _ k970) (fun _ h9 => h9) rfl d_M_end_162 ?_
                    exact my_iret (v := nI (eB e9).length) hx hb hr (rfl) hlocks hQ hK hS (Nat.le_refl _) (Nat.le_refl _) ((1 : Int32), lN (eL e9), lN (eR e9), caI (eC e9), nI (eP e9), nI (eB e9).length, nI (eB e9).length, (0 : Int32), fG, fO) (⟨OU_cp hG9 ho9 (by omega) hc, (show ¬ (1 : Int32) = 0 from by decide)⟩) (hP.sub [0, 1, 2] rfl) (hD.sub [0, 1, 2] (by decide) rfl) d_M_end_165
                  · have hkl : kk < (eB e9).length := by
                      rcases Nat.lt_or_ge kk (eB e9).length with z | z
                      · exact z
                      · exact absurd (nI_le z (by omega)) c_5
                    refine lv_aload_n hx hb d_M_end_143 rfl (lv_at hl 1 rfl) ?_
                    refine va_get (D := (dC, dI)) (ci := 9) (v := .ref (g 7)) (C := "RangeCodersModel") (T := T_M) (N := 35) hx hb hg in_M hown hK hP 0 rfl rfl 17 (by decide) (hg _ k969) (fun _ h9 => h9) rfl d_M_end_144 ?_
                    refine lv_iload_n hx hb d_M_end_147 rfl (lv_at hl 0 rfl) ?_
                    refine lv_aload_n hx hb d_M_end_148 rfl (lv_at hl 1 rfl) ?_
                    refine va_get (D := (dC, dI)) (ci := 9) (v := .ref (g 6)) (C := "RangeCodersModel") (T := T_M) (N := 35) hx hb hg in_M hown hK hP 0 rfl rfl 15 (by decide) (hg _ k967) (fun _ h9 => h9) rfl d_M_end_149 ?_
                    refine lv_iload_n hx hb d_M_end_152 rfl (lv_at hl 0 rfl) ?_
                    refine va_iald hx hb hK hP 1 0 rfl rfl (vp_in_nI (by omega) (by decide)) d_M_end_153 ?_
                    refine lv_topi (fun v_6 ev_6 => ?_)
                    refine va_iast hx hb hK hP hD hS 2 0 rfl rfl (vp_in_nI (by omega) (by decide)) d_M_end_154 (fun H locs hP hD hS => ?_)
                    have hP : va_P (dC, dI) vwCl [(o, .inr (9, mO g 2 fShift fModels (nI ki) 1 (lN (eL e9)) (lN (eR e9)) (caI (eC e9)) (nI (eP e9)) (nI (eB e9).length) (nI (eB e9).length) fIns fReads fBad fIR fAsk fBAsk fCode fRL fRR fX fWrites 0)), ((g 6), .inl (cI, 9000, .inl fG)), ((g 7), .inl (cI, 9000, .inl (upd fO (nI kk).toNatClampNeg v_6)))] H := hP
                    have hD : va_D A [(o, .inr (9, mO g 2 fShift fModels (nI ki) 1 (lN (eL e9)) (lN (eR e9)) (caI (eC e9)) (nI (eP e9)) (nI (eB e9).length) (nI (eB e9).length) fIns fReads fBad fIR fAsk fBAsk fCode fRL fRR fX fWrites 0)), ((g 6), .inl (cI, 9000, .inl fG)), ((g 7), .inl (cI, 9000, .inl (upd fO (nI kk).toNatClampNeg v_6)))] := hD
                    have hc8 : ∀ i, i < kk + 1 → (upd fO (nI kk).toNatClampNeg v_6) i = fG i := cp_st hc (nI_clamp (by omega)) (by rw [ev_6, nI_clamp (by omega)])
                    obtain ⟨v_7, ev_7⟩ : ∃ y : Int32, y = (nI kk) + (1) := ⟨_, rfl⟩
                    refine lv_iinc (v := v_7) (lv' := [(1, .int v_7), (0, .ref o)]) hx hb d_M_end_155 hl (k := 0) rfl (by rw [ev_7]; rfl) (by decide) rfl (fun ls hl => ?_)
                    have z9 : v_7 = nI (kk + 1) := by rw [ev_7]; exact nI_1 _
                    subst z9
                    refine lv_goto (tgt := 135) hx hb d_M_end_158 (by decide) ?_
                    exact ih9_135 _ (by first | omega | (omega)) (kk + 1) (upd fO (nI kk).toNatClampNeg v_6) rfl (by omega) (hc8) H locs ls (hP.sub [0, 1, 2] rfl) (hD.sub [0, 1, 2] (by decide) rfl) hS (lv_sub hl [0, 1] rfl)
              exact J_135 _ (0 : Nat) vOut rfl (Nat.zero_le _) (fun _ z => absurd z (Nat.not_lt_zero _)) H locs ls (hP.sub [0, 1, 2] rfl) (hD.sub [0, 1, 2] (by decide) rfl) hS (lv_sub hl [0, 1] rfl)
            · have hjl : jj < 5 := by
                rcases Nat.lt_or_ge jj 5 with z | z
                · exact z
                · exact absurd (nI_le (a := 5) z (by omega)) c_4
              have hl9 : (eB e9).length + eP e9 + 1 ≤ 7201 + jj := hN9
              refine lv_aload_n hx hb d_M_end_42 rfl (lv_at hl 1 rfl) ?_
              refine my_cv (wr := [((g 7), .inl (cI, 9000, .inl vOut))]) (va_runV (As := []) (rest := []) ⟨hx, hb, hml, hown, hts⟩ (c_M_shifted l dC dI cI cM cO H.size o g 2 fShift fModels (nI ki) 1 fOuts fIns fReads fBad fIR fAsk fBAsk fCode fRL fRR fX fWrites 0 fG (eR e9) (eL e9) (eC e9) (eP e9) (eB e9) (he9.1) (he9.2) (hG9) (by omega)) (cwV 0 hts (my_gV k1102 k1104 ks31 k12 k1105) rfl rfl rfl (by decide +kernel) ⟨by rw [hR]; exact Nat.le_of_ble_eq_true rfl, by rw [hR]; exact Nat.le_of_ble_eq_true rfl⟩) (my_preV hK hN (hP.sub [0, 1] rfl) (hD.sub [0, 1] (by decide) rfl) 0 rfl rfl) rfl rfl hl.1 rfl (lv_room (Nat.le_of_ble_eq_true rfl)) d_M_end_43 ⟨by rw [hR]; exact Nat.le_of_ble_eq_true rfl, by rw [hR]; exact Nat.le_of_ble_eq_true rfl⟩) hP hD hS hA [0, 1] [2] rfl rfl (by decide) (by decide) (fun u9 H locs hw_43 hP hD hS => ?_)
              obtain ⟨v2_43, rfl⟩ : ∃ z, z = u9 := ⟨_, rfl⟩
              have hw_43 : gIs v2_43 (shB (eL e9) (eC e9) (eP e9) (eB e9)) := hw_43
              have hP : va_P (dC, dI) vwCl [((g 7), .inl (cI, 9000, .inl vOut)), (o, .inr (9, mO g 2 fShift fModels (nI ki) 1 (lN (shL (eL e9))) (lN (eR e9)) (caI (shC (eL e9) (eC e9))) (nI (shP (eL e9) (eP e9))) (nI (shB (eL e9) (eC e9) (eP e9) (eB e9)).length) fOuts fIns fReads fBad fIR fAsk fBAsk fCode fRL fRR fX fWrites 0)), ((g 6), .inl (cI, 9000, .inl v2_43))] H := hP
              have hD : va_D A [((g 7), .inl (cI, 9000, .inl vOut)), (o, .inr (9, mO g 2 fShift fModels (nI ki) 1 (lN (shL (eL e9))) (lN (eR e9)) (caI (shC (eL e9) (eC e9))) (nI (shP (eL e9) (eP e9))) (nI (shB (eL e9) (eC e9) (eP e9) (eB e9)).length) fOuts fIns fReads fBad fIR fAsk fBAsk fCode fRL fRR fX fWrites 0)), ((g 6), .inl (cI, 9000, .inl v2_43))] := hD
              obtain ⟨v_8, ev_8⟩ : ∃ y : Int32, y = (nI jj) + (1) := ⟨_, rfl⟩
              refine lv_iinc (v := v_8) (lv' := [(1, .int v_8), (0, .ref o)]) hx hb d_M_end_46 hl (k := 0) rfl (by rw [ev_8]; rfl) (by decide) rfl (fun ls hl => ?_)
              have z9 : v_8 = nI (jj + 1) := by rw [ev_8]; exact nI_1 _
              subst z9
              refine lv_goto (tgt := 37) hx hb d_M_end_49 (by decide) ?_
              exact ih9_37 _ (by first | omega | (omega)) (jj + 1) (shS e9) v2_43 rfl (by omega) (eOk_sh he9) (hw_43) (oct_shB ho9) (Nat.le_trans (eN_sh e9) (by omega)) H locs ls (hP.sub [1, 2, 0] rfl) (hD.sub [1, 2, 0] (by decide) rfl) hS (lv_sub hl [0, 1] rfl)
        exact J_37 _ (0 : Nat) (Rg, L, ca, Pn, bs) vGoing rfl (by decide) (⟨by have a9 := hE.1; have b9 := hE.2.2.1; show L < 8589934592; have a9 : 16777216 ≤ Rg := a9; have b9 : L + Rg ≤ 8589934592 := b9; omega, hE.2.2.2⟩) (hG) (ho) (show bs.length + Pn + 1 ≤ 7201 + 0 by omega) H locs ls (hP.sub [0, 1, 2] rfl) (hD.sub [0, 1, 2] (by decide) rfl) hS (lv_sub hl [0, 1] rfl)
  · exact absurd (by decide) c_1
set_option maxHeartbeats 2000000 in
set_option maxRecDepth 100000 in
theorem c_M_endE (l : Launch) (dC : Nat → ClassId) (dI : Nat → Nat → Nat) (cI cM cO : ClassId) (sz : Nat) (o : Nat) (g : Nat → Nat) (fForm : Int32) (fShift : Int32) (fModels : Int32) (fItems : Int32) (fEnded : Int32) (fLow : Int64) (fRange : Int64) (fCache : Int32) (fPend : Int32) (fGoes : Int32) (fOuts : Int32) (fIns : Int32) (fReads : Int32) (fBad : Int32) (fIR : Int32) (fAsk : Int32) (fBAsk : Int32) (fCode : Int64) (fRL : Int64) (fRR : Int64) (fX : Int64) (fWrites : Int32) (fThrown : Int32) (hen : ¬ fEnded = 0) : MetI l y_M_end (Cond.code y_M_end prog_14_method_31_code 2 (some .int) :: gw) ({ frames := 0, cells := 0, slots := 0, locals := 0 } : Room) (dC, dI) vwCl (kT cI cM cO) [.ref o] [(o, .inr (9, mO g fForm fShift fModels fItems fEnded fLow fRange fCache fPend fGoes fOuts fIns fReads fBad fIR fAsk fBAsk fCode fRL fRR fX fWrites fThrown))] sz (fun (r : Int32) (u : Int32) => True) (fun (u : Int32) => [(o, .inr (9, mO g fForm fShift fModels fItems fEnded fLow fRange fCache fPend fGoes fOuts fIns fReads fBad fIR fAsk fBAsk fCode fRL fRR fX fWrites u))]) 0 0 := by
  refine my_ofI (cc := prog_14_method_31_code) (n := 2) (ret := (some .int)) (by decide) rfl (Nat.le_of_ble_eq_true rfl) ?_
  intro p e s m args below meth c R Q A ls H locs hx hb hr hts hown hlocks hml hnm hR hQ hA hl hP hK hN hD hS
  have hg : ∀ w ∈ gw, w.before args s = true := fun w h => hts w (List.mem_cons_of_mem _ h)
  have hown : s.vm.findClass "RangeCodersModel" = some m.cls := hown
  have hl : lv_has ls 2 [(0, .ref o)] := hl
  refine lv_aload_n hx hb d_M_end_0 rfl (lv_at hl 0 rfl) ?_
  refine lv_iconst (v := 0) hx hb d_M_end_1 (by decide) ?_
  refine va_put (D := (dC, dI)) (ci := 9) (v := .int 0) (ty := .int) (C := "RangeCodersModel") (T := T_M) (N := 35) hx hb hg in_M t_M o_M n_M hown hK hP hD hS 0 rfl rfl 34 (by decide) (hg _ k986) (fun _ h9 => h9) rfl (by decide +kernel) rfl rfl (Nat.le_of_ble_eq_true rfl) d_M_end_2 (fun H locs hP hD hS => ?_)
  have hP : va_P (dC, dI) vwCl [(o, .inr (9, mO g fForm fShift fModels fItems fEnded fLow fRange fCache fPend fGoes fOuts fIns fReads fBad fIR fAsk fBAsk fCode fRL fRR fX fWrites 0))] H := hP
  have hD : va_D A [(o, .inr (9, mO g fForm fShift fModels fItems fEnded fLow fRange fCache fPend fGoes fOuts fIns fReads fBad fIR fAsk fBAsk fCode fRL fRR fX fWrites 0))] := hD
  refine lv_aload_n hx hb d_M_end_5 rfl (lv_at hl 0 rfl) ?_
  refine va_get (D := (dC, dI)) (ci := 9) (v := .int fEnded) (C := "RangeCodersModel") (T := T_M) (N := 35) hx hb hg in_M hown hK hP 0 rfl rfl 10 (by decide) (hg _ k962) (fun _ h9 => h9) rfl d_M_end_6 ?_
  refine lv_if_eq (tgt := 15) hx hb d_M_end_9 (by decide) (fun c_1 => ?_) (fun c_1 => ?_)
  · exact absurd c_1 hen
  · refine lv_bipush (v := (-3)) hx hb d_M_end_12 (by decide) ?_
    exact my_iret (v := (-3)) hx hb hr (rfl) hlocks hQ hK hS (Nat.le_refl _) (Nat.le_refl _) ((0 : Int32)) (trivial) (hP.sub [0] rfl) (hD.sub [0] (by decide) rfl) d_M_end_14
set_option maxHeartbeats 2000000 in
set_option maxRecDepth 100000 in
theorem c_M_end1 (l : Launch) (dC : Nat → ClassId) (dI : Nat → Nat → Nat) (cI cM cO : ClassId) (sz : Nat) (o : Nat) (g : Nat → Nat) (fForm : Int32) (fShift : Int32) (fModels : Int32) (fItems : Int32) (fEnded : Int32) (fLow : Int64) (fRange : Int64) (fCache : Int32) (fPend : Int32) (fGoes : Int32) (fOuts : Int32) (fIns : Int32) (fReads : Int32) (fBad : Int32) (fIR : Int32) (fAsk : Int32) (fBAsk : Int32) (fCode : Int64) (fRL : Int64) (fRR : Int64) (fX : Int64) (fWrites : Int32) (fThrown : Int32) (vGoing : Nat → Int32) (vOut : Nat → Int32) (hfo : fForm = 1) (hen : fEnded = 0) (hI : MI1 fItems fLow fRange fGoes vGoing) : MetI l y_M_end (Cond.code y_M_end prog_14_method_31_code 2 (some .int) :: gw) ({ frames := 1, cells := 0, slots := 0, locals := 21 } : Room) (dC, dI) vwCl (kT cI cM cO) [.ref o] [(o, .inr (9, mO g fForm fShift fModels fItems fEnded fLow fRange fCache fPend fGoes fOuts fIns fReads fBad fIR fAsk fBAsk fCode fRL fRR fX fWrites fThrown)), ((g 6), .inl (cI, 9000, .inl vGoing)), ((g 7), .inl (cI, 9000, .inl vOut))] sz (fun (r : Int32) (u : Int32 × Int64 × Int32 × Int32 × Int32 × (Nat → Int32) × (Nat → Int32)) => OU u.2.2.2.1 u.2.2.2.2.2.2 ∧ ¬ u.1 = 0) (fun (u : Int32 × Int64 × Int32 × Int32 × Int32 × (Nat → Int32) × (Nat → Int32)) => [(o, .inr (9, mO g fForm fShift fModels fItems u.1 u.2.1 fRange fCache fPend u.2.2.1 u.2.2.2.1 fIns fReads fBad fIR fAsk fBAsk fCode fRL fRR fX fWrites u.2.2.2.2.1)), ((g 6), .inl (cI, 9000, .inl u.2.2.2.2.2.1)), ((g 7), .inl (cI, 9000, .inl u.2.2.2.2.2.2))]) 0 0 := by
  refine my_ofI (cc := prog_14_method_31_code) (n := 2) (ret := (some .int)) (by decide) rfl (Nat.le_of_ble_eq_true rfl) ?_
  intro p e s m args below meth c R Q A ls H locs hx hb hr hts hown hlocks hml hnm hR hQ hA hl hP hK hN hD hS
  have hg : ∀ w ∈ gw, w.before args s = true := fun w h => hts w (List.mem_cons_of_mem _ h)
  have hown : s.vm.findClass "RangeCodersModel" = some m.cls := hown
  have hl : lv_has ls 2 [(0, .ref o)] := hl
  subst hfo
  subst hen
  obtain ⟨ki, hki, rfl, Rg, L, bs, rfl, rfl, rfl, hp, hR6, hG, ho, hlb⟩ := hI
  have hP : va_P (dC, dI) vwCl [(o, .inr (9, mO g 1 fShift fModels (nI ki) 0 (lN L) (lN Rg) fCache fPend (nI bs.length) fOuts fIns fReads fBad fIR fAsk fBAsk fCode fRL fRR fX fWrites fThrown)), ((g 6), .inl (cI, 9000, .inl vGoing)), ((g 7), .inl (cI, 9000, .inl vOut))] H := hP
  have hD : va_D A [(o, .inr (9, mO g 1 fShift fModels (nI ki) 0 (lN L) (lN Rg) fCache fPend (nI bs.length) fOuts fIns fReads fBad fIR fAsk fBAsk fCode fRL fRR fX fWrites fThrown)), ((g 6), .inl (cI, 9000, .inl vGoing)), ((g 7), .inl (cI, 9000, .inl vOut))] := hD
  have hl : lv_has ls 2 [(0, .ref o)] := hl
  refine lv_aload_n hx hb d_M_end_0 rfl (lv_at hl 0 rfl) ?_
  refine lv_iconst (v := 0) hx hb d_M_end_1 (by decide) ?_
  refine va_put (D := (dC, dI)) (ci := 9) (v := .int 0) (ty := .int) (C := "RangeCodersModel") (T := T_M) (N := 35) hx hb hg in_M t_M o_M n_M hown hK hP hD hS 0 rfl rfl 34 (by decide) (hg _ k986) (fun _ h9 => h9) rfl (by decide +kernel) rfl rfl (Nat.le_of_ble_eq_true rfl) d_M_end_2 (fun H locs hP hD hS => ?_)
  have hP : va_P (dC, dI) vwCl [(o, .inr (9, mO g 1 fShift fModels (nI ki) 0 (lN L) (lN Rg) fCache fPend (nI bs.length) fOuts fIns fReads fBad fIR fAsk fBAsk fCode fRL fRR fX fWrites 0)), ((g 6), .inl (cI, 9000, .inl vGoing)), ((g 7), .inl (cI, 9000, .inl vOut))] H := hP
  have hD : va_D A [(o, .inr (9, mO g 1 fShift fModels (nI ki) 0 (lN L) (lN Rg) fCache fPend (nI bs.length) fOuts fIns fReads fBad fIR fAsk fBAsk fCode fRL fRR fX fWrites 0)), ((g 6), .inl (cI, 9000, .inl vGoing)), ((g 7), .inl (cI, 9000, .inl vOut))] := hD
  refine lv_aload_n hx hb d_M_end_5 rfl (lv_at hl 0 rfl) ?_
  refine va_get (D := (dC, dI)) (ci := 9) (v := .int 0) (C := "RangeCodersModel") (T := T_M) (N := 35) hx hb hg in_M hown hK hP 0 rfl rfl 10 (by decide) (hg _ k962) (fun _ h9 => h9) rfl d_M_end_6 ?_
  refine lv_if_eq (tgt := 15) hx hb d_M_end_9 (by decide) (fun c_1 => ?_) (fun c_1 => ?_)
  · refine lv_aload_n hx hb d_M_end_15 rfl (lv_at hl 0 rfl) ?_
    refine lv_iconst (v := 1) hx hb d_M_end_16 (by decide) ?_
    refine va_put (D := (dC, dI)) (ci := 9) (v := .int 1) (ty := .boolean) (C := "RangeCodersModel") (T := T_M) (N := 35) hx hb hg in_M t_M o_M n_M hown hK hP hD hS 0 rfl rfl 10 (by decide) (hg _ k962) (fun _ h9 => h9) rfl (by decide +kernel) rfl rfl (Nat.le_of_ble_eq_true rfl) d_M_end_17 (fun H locs hP hD hS => ?_)
    have hP : va_P (dC, dI) vwCl [(o, .inr (9, mO g 1 fShift fModels (nI ki) 1 (lN L) (lN Rg) fCache fPend (nI bs.length) fOuts fIns fReads fBad fIR fAsk fBAsk fCode fRL fRR fX fWrites 0)), ((g 6), .inl (cI, 9000, .inl vGoing)), ((g 7), .inl (cI, 9000, .inl vOut))] H := hP
    have hD : va_D A [(o, .inr (9, mO g 1 fShift fModels (nI ki) 1 (lN L) (lN Rg) fCache fPend (nI bs.length) fOuts fIns fReads fBad fIR fAsk fBAsk fCode fRL fRR fX fWrites 0)), ((g 6), .inl (cI, 9000, .inl vGoing)), ((g 7), .inl (cI, 9000, .inl vOut))] := hD
    refine lv_aload_n hx hb d_M_end_20 rfl (lv_at hl 0 rfl) ?_
    refine va_get (D := (dC, dI)) (ci := 9) (v := .int 1) (C := "RangeCodersModel") (T := T_M) (N := 35) hx hb hg in_M hown hK hP 0 rfl rfl 0 (by decide) (hg _ k952) (fun _ h9 => h9) rfl d_M_end_21 ?_
    refine lv_if_eq (tgt := 35) hx hb d_M_end_24 (by decide) (fun c_2 => ?_) (fun c_2 => ?_)
    · exact absurd c_2 (by decide)
    · refine lv_aload_n hx hb d_M_end_27 rfl (lv_at hl 0 rfl) ?_
      refine va_get (D := (dC, dI)) (ci := 9) (v := .int 1) (C := "RangeCodersModel") (T := T_M) (N := 35) hx hb hg in_M hown hK hP 0 rfl rfl 0 (by decide) (hg _ k952) (fun _ h9 => h9) rfl d_M_end_28 ?_
      refine lv_iconst (v := 2) hx hb d_M_end_31 (by decide) ?_
      refine lv_icmp_ne (tgt := 55) hx hb d_M_end_32 (by decide) (fun c_3 => ?_) (fun c_3 => ?_)
      · refine lv_aload_n hx hb d_M_end_55 rfl (lv_at hl 0 rfl) ?_
        refine va_get (D := (dC, dI)) (ci := 9) (v := .int 1) (C := "RangeCodersModel") (T := T_M) (N := 35) hx hb hg in_M hown hK hP 0 rfl rfl 0 (by decide) (hg _ k952) (fun _ h9 => h9) rfl d_M_end_56 ?_
        refine lv_iconst (v := 1) hx hb d_M_end_59 (by decide) ?_
        refine lv_icmp_ne (tgt := 106) hx hb d_M_end_60 (by decide) (fun c_4 => ?_) (fun c_4 => ?_)
        · exact absurd rfl c_4
        · refine lv_iconst (v := 0) hx hb d_M_end_63 (by decide) ?_
          refine lv_istore_n (lv' := [(1, .int 0), (0, .ref o)]) hx hb d_M_end_64 rfl hl (by decide) rfl (fun ls hl => ?_)
          have J_65 : ∀ (n9_65 : Nat) (jj : Nat) (L9 : Nat) (b9 : List Nat) (fG : Nat → Int32) (hn9_65 : 4 - jj = n9_65) (hjj : jj ≤ 4) (hL9 : L9 < 4294967296) (hG9 : gIs fG b9) (ho9 : oct b9) (hN9 : b9.length ≤ 2400 + jj) (H : Heap) (locs : List Loc) (ls : Array Slot), va_P (dC, dI) vwCl [(o, .inr (9, mO g 1 fShift fModels (nI ki) 1 (lN L9) (lN Rg) fCache fPend (nI b9.length) fOuts fIns fReads fBad fIR fAsk fBAsk fCode fRL fRR fX fWrites 0)), ((g 6), .inl (cI, 9000, .inl fG)), ((g 7), .inl (cI, 9000, .inl vOut))] H → va_D A [(o, .inr (9, mO g 1 fShift fModels (nI ki) 1 (lN L9) (lN Rg) fCache fPend (nI b9.length) fOuts fIns fReads fBad fIR fAsk fBAsk fCode fRL fRR fX fWrites 0)), ((g 6), .inl (cI, 9000, .inl fG)), ((g 7), .inl (cI, 9000, .inl vOut))] → va_S A s.heap H locs → lv_has ls 2 [(1, .int (nI jj)), (0, .ref o)] → W p l e R s m args below meth c H locs 0 0 Q (F0 m 65 ls []) := by
            intro n9_65
            induction n9_65 using Nat.strongRecOn with
            | ind n9_65 ih9_65 =>
              intro jj L9 b9 fG hn9_65 hjj hL9 hG9 ho9 hN9 H locs ls hP hD hS hl
              refine lv_iload_n hx hb d_M_end_65 rfl (lv_at hl 0 rfl) ?_
              refine lv_iconst (v := 4) hx hb d_M_end_66 (by decide) ?_
              refine lv_icmp_ge (tgt := 103) hx hb d_M_end_67 (by decide) (fun c_5 => ?_) (fun c_5 => ?_)
              · refine lv_goto (tgt := 125) hx hb d_M_end_103 (by decide) ?_
                refine lv_aload_n hx hb d_M_end_125 rfl (lv_at hl 1 rfl) ?_
                refine lv_aload_n hx hb d_M_end_126 rfl (lv_at hl 1 rfl) ?_
                refine va_get (D := (dC, dI)) (ci := 9) (v := .int (nI b9.length)) (C := "RangeCodersModel") (T := T_M) (N := 35) hx hb hg in_M hown hK hP 0 rfl rfl 16 (by decide) (hg _ k968) (fun _ h9 => h9) rfl d_M_end_127 ?_
                refine va_put (D := (dC, dI)) (ci := 9) (v := .int (nI b9.length)) (ty := .int) (C := "RangeCodersModel") (T := T_M) (N := 35) hx hb hg in_M t_M o_M n_M hown hK hP hD hS 0 rfl rfl 18 (by decide) (hg _ k970) (fun _ h9 => h9) rfl (by decide +kernel) rfl rfl (Nat.le_of_ble_eq_true rfl) d_M_end_130 (fun H locs hP hD hS => ?_)
                have hP : va_P (dC, dI) vwCl [(o, .inr (9, mO g 1 fShift fModels (nI ki) 1 (lN L9) (lN Rg) fCache fPend (nI b9.length) (nI b9.length) fIns fReads fBad fIR fAsk fBAsk fCode fRL fRR fX fWrites 0)), ((g 6), .inl (cI, 9000, .inl fG)), ((g 7), .inl (cI, 9000, .inl vOut))] H := hP
                have hD : va_D A [(o, .inr (9, mO g 1 fShift fModels (nI ki) 1 (lN L9) (lN Rg) fCache fPend (nI b9.length) (nI b9.length) fIns fReads fBad fIR fAsk fBAsk fCode fRL fRR fX fWrites 0)), ((g 6), .inl (cI, 9000, .inl fG)), ((g 7), .inl (cI, 9000, .inl vOut))] := hD
                refine lv_iconst (v := 0) hx hb d_M_end_133 (by decide) ?_
                refine lv_istore_n (lv' := [(1, .int 0), (0, .ref o)]) hx hb d_M_end_134 rfl hl (by decide) rfl (fun ls hl => ?_)
                have J_135 : ∀ (n9_135 : Nat) (kk : Nat) (fO : Nat → Int32) (hn9_135 : (b9).length - kk = n9_135) (hkk : kk ≤ (b9).length) (hc : ∀ i, i < kk → fO i = fG i) (H : Heap) (locs : List Loc) (ls : Array Slot), va_P (dC, dI) vwCl [(o, .inr (9, mO g 1 fShift fModels (nI ki) 1 (lN L9) (lN Rg) fCache fPend (nI b9.length) (nI b9.length) fIns fReads fBad fIR fAsk fBAsk fCode fRL fRR fX fWrites 0)), ((g 6), .inl (cI, 9000, .inl fG)), ((g 7), .inl (cI, 9000, .inl fO))] H → va_D A [(o, .inr (9, mO g 1 fShift fModels (nI ki) 1 (lN L9) (lN Rg) fCache fPend (nI b9.length) (nI b9.length) fIns fReads fBad fIR fAsk fBAsk fCode fRL fRR fX fWrites 0)), ((g 6), .inl (cI, 9000, .inl fG)), ((g 7), .inl (cI, 9000, .inl fO))] → va_S A s.heap H locs → lv_has ls 2 [(1, .int (nI kk)), (0, .ref o)] → W p l e R s m args below meth c H locs 0 0 Q (F0 m 135 ls []) := by
                  intro n9_135
                  induction n9_135 using Nat.strongRecOn with
                  | ind n9_135 ih9_135 =>
                    intro kk fO hn9_135 hkk hc H locs ls hP hD hS hl
                    refine lv_iload_n hx hb d_M_end_135 rfl (lv_at hl 0 rfl) ?_
                    refine lv_aload_n hx hb d_M_end_136 rfl (lv_at hl 1 rfl) ?_
                    refine va_get (D := (dC, dI)) (ci := 9) (v := .int (nI b9.length)) (C := "RangeCodersModel") (T := T_M) (N := 35) hx hb hg in_M hown hK hP 0 rfl rfl 16 (by decide) (hg _ k968) (fun _ h9 => h9) rfl d_M_end_137 ?_
                    refine lv_icmp_ge (tgt := 161) hx hb d_M_end_140 (by decide) (fun c_6 => ?_) (fun c_6 => ?_)
                    · have hkn : kk = (b9).length := by have := (nI_cmp (a := (b9).length) (b := kk) (by omega) (by omega)).mp c_6; omega
                      subst hkn
                      refine lv_aload_n hx hb d_M_end_161 rfl (lv_at hl 1 rfl) ?_
                      refine va_get (D := (dC, dI)) (ci := 9) (v := .int (nI b9.length)) (C := "RangeCodersModel") (T := T_M) (N := 35) hx hb hg in_M hown hK hP 0 rfl rfl 18 (by decide) (hg _ k970) (fun _ h9 => h9) rfl d_M_end_162 ?_
                      exact my_iret (v := nI b9.length) hx hb hr (rfl) hlocks hQ hK hS (Nat.le_refl _) (Nat.le_refl _) ((1 : Int32), lN L9, nI b9.length, nI b9.length, (0 : Int32), fG, fO) (⟨OU_cp hG9 ho9 (by omega) hc, (show ¬ (1 : Int32) = 0 from by decide)⟩) (hP.sub [0, 1, 2] rfl) (hD.sub [0, 1, 2] (by decide) rfl) d_M_end_165
                    · have hkl : kk < (b9).length := by
                        rcases Nat.lt_or_ge kk (b9).length with z | z
                        · exact z
                        · exact absurd (nI_le z (by omega)) c_6
                      refine lv_aload_n hx hb d_M_end_143 rfl (lv_at hl 1 rfl) ?_
                      refine va_get (D := (dC, dI)) (ci := 9) (v := .ref (g 7)) (C := "RangeCodersModel") (T := T_M) (N := 35) hx hb hg in_M hown hK hP 0 rfl rfl 17 (by decide) (hg _ k969) (fun _ h9 => h9) rfl d_M_end_144 ?_
                      refine lv_iload_n hx hb d_M_end_147 rfl (lv_at hl 0 rfl) ?_
                      refine lv_aload_n hx hb d_M_end_148 rfl (lv_at hl 1 rfl) ?_
                      refine va_get (D := (dC, dI)) (ci := 9) (v := .ref (g 6)) (C := "RangeCodersModel") (T := T_M) (N := 35) hx hb hg in_M hown hK hP 0 rfl rfl 15 (by decide) (hg _ k967) (fun _ h9 => h9) rfl d_M_end_149 ?_
                      refine lv_iload_n hx hb d_M_end_152 rfl (lv_at hl 0 rfl) ?_
                      refine va_iald hx hb hK hP 1 0 rfl rfl (vp_in_nI (by omega) (by decide)) d_M_end_153 ?_
                      refine lv_topi (fun v_7 ev_7 => ?_)
                      refine va_iast hx hb hK hP hD hS 2 0 rfl rfl (vp_in_nI (by omega) (by decide)) d_M_end_154 (fun H locs hP hD hS => ?_)
                      have hP : va_P (dC, dI) vwCl [(o, .inr (9, mO g 1 fShift fModels (nI ki) 1 (lN L9) (lN Rg) fCache fPend (nI b9.length) (nI b9.length) fIns fReads fBad fIR fAsk fBAsk fCode fRL fRR fX fWrites 0)), ((g 6), .inl (cI, 9000, .inl fG)), ((g 7), .inl (cI, 9000, .inl (upd fO (nI kk).toNatClampNeg v_7)))] H := hP
                      have hD : va_D A [(o, .inr (9, mO g 1 fShift fModels (nI ki) 1 (lN L9) (lN Rg) fCache fPend (nI b9.length) (nI b9.length) fIns fReads fBad fIR fAsk fBAsk fCode fRL fRR fX fWrites 0)), ((g 6), .inl (cI, 9000, .inl fG)), ((g 7), .inl (cI, 9000, .inl (upd fO (nI kk).toNatClampNeg v_7)))] := hD
                      have hc8 : ∀ i, i < kk + 1 → (upd fO (nI kk).toNatClampNeg v_7) i = fG i := cp_st hc (nI_clamp (by omega)) (by rw [ev_7, nI_clamp (by omega)])
                      obtain ⟨v_8, ev_8⟩ : ∃ y : Int32, y = (nI kk) + (1) := ⟨_, rfl⟩
                      refine lv_iinc (v := v_8) (lv' := [(1, .int v_8), (0, .ref o)]) hx hb d_M_end_155 hl (k := 0) rfl (by rw [ev_8]; rfl) (by decide) rfl (fun ls hl => ?_)
                      have z9 : v_8 = nI (kk + 1) := by rw [ev_8]; exact nI_1 _
                      subst z9
                      refine lv_goto (tgt := 135) hx hb d_M_end_158 (by decide) ?_
                      exact ih9_135 _ (by first | omega | (omega)) (kk + 1) (upd fO (nI kk).toNatClampNeg v_7) rfl (by omega) (hc8) H locs ls (hP.sub [0, 1, 2] rfl) (hD.sub [0, 1, 2] (by decide) rfl) hS (lv_sub hl [0, 1] rfl)
                exact J_135 _ (0 : Nat) vOut rfl (Nat.zero_le _) (fun _ z => absurd z (Nat.not_lt_zero _)) H locs ls (hP.sub [0, 1, 2] rfl) (hD.sub [0, 1, 2] (by decide) rfl) hS (lv_sub hl [0, 1] rfl)
              · have hjl : jj < 4 := by
                  rcases Nat.lt_or_ge jj 4 with z | z
                  · exact z
                  · exact absurd (nI_le (a := 4) z (by omega)) c_5
                refine lv_aload_n hx hb d_M_end_70 rfl (lv_at hl 1 rfl) ?_
                refine lv_aload_n hx hb d_M_end_71 rfl (lv_at hl 1 rfl) ?_
                refine va_get (D := (dC, dI)) (ci := 9) (v := .long (lN L9)) (C := "RangeCodersModel") (T := T_M) (N := 35) hx hb hg in_M hown hK hP 0 rfl rfl 11 (by decide) (hg _ k963) (fun _ h9 => h9) rfl d_M_end_72 ?_
                refine lv_bipush (v := 24) hx hb d_M_end_75 (by decide) ?_
                refine lv_lshr hx hb d_M_end_77 rfl ?_
                refine lv_topl (fun v_9 ev_9 => ?_)
                have z9 : v_9 = lN (L9 / 16777216) := by rw [ev_9]; exact L_shr24 (by omega)
                subst z9
                refine lv_l2i hx hb d_M_end_78 rfl ?_
                refine lv_topi (fun v_10 ev_10 => ?_)
                have z9 : v_10 = nI (L9 / 16777216) := by rw [ev_10]; exact lN_i _
                subst z9
                refine my_cv (wr := [((g 7), .inl (cI, 9000, .inl vOut))]) (va_runV (As := [.int (nI (L9 / 16777216))]) (rest := []) ⟨hx, hb, hml, hown, hts⟩ (c_M_write l dC dI cI cM cO H.size o g 1 fShift fModels (nI ki) 1 (lN L9) (lN Rg) fCache fPend fOuts fIns fReads fBad fIR fAsk fBAsk fCode fRL fRR fX fWrites 0 fG b9 (L9 / 16777216) (hG9) (by omega) (by omega)) (cwV 1 hts (my_gV k1107 k1109 ks32 k12 k1110) rfl rfl rfl (by decide +kernel) ⟨by rw [hR]; exact Nat.le_of_ble_eq_true rfl, by rw [hR]; exact Nat.le_of_ble_eq_true rfl⟩) (my_preV hK hN (hP.sub [0, 1] rfl) (hD.sub [0, 1] (by decide) rfl) 0 rfl rfl) rfl rfl hl.1 rfl (lv_room (Nat.le_of_ble_eq_true rfl)) d_M_end_79 ⟨by rw [hR]; exact Nat.le_of_ble_eq_true rfl, by rw [hR]; exact Nat.le_of_ble_eq_true rfl⟩) hP hD hS hA [0, 1] [2] rfl rfl (by decide) (by decide) (fun u9 H locs hw_79 hP hD hS => ?_)
                obtain ⟨v2_79, rfl⟩ : ∃ z, z = u9 := ⟨_, rfl⟩
                have hw_79 : gIs v2_79 (b9 ++ [(L9 / 16777216) % 256]) := hw_79
                have hP : va_P (dC, dI) vwCl [((g 7), .inl (cI, 9000, .inl vOut)), (o, .inr (9, mO g 1 fShift fModels (nI ki) 1 (lN L9) (lN Rg) fCache fPend (nI (b9 ++ [(L9 / 16777216) % 256]).length) fOuts fIns fReads fBad fIR fAsk fBAsk fCode fRL fRR fX fWrites 0)), ((g 6), .inl (cI, 9000, .inl v2_79))] H := hP
                have hD : va_D A [((g 7), .inl (cI, 9000, .inl vOut)), (o, .inr (9, mO g 1 fShift fModels (nI ki) 1 (lN L9) (lN Rg) fCache fPend (nI (b9 ++ [(L9 / 16777216) % 256]).length) fOuts fIns fReads fBad fIR fAsk fBAsk fCode fRL fRR fX fWrites 0)), ((g 6), .inl (cI, 9000, .inl v2_79))] := hD
                refine lv_aload_n hx hb d_M_end_82 rfl (lv_at hl 1 rfl) ?_
                refine lv_aload_n hx hb d_M_end_83 rfl (lv_at hl 1 rfl) ?_
                refine va_get (D := (dC, dI)) (ci := 9) (v := .long (lN L9)) (C := "RangeCodersModel") (T := T_M) (N := 35) hx hb hg in_M hown hK hP 1 rfl rfl 11 (by decide) (hg _ k963) (fun _ h9 => h9) rfl d_M_end_84 ?_
                refine lv_bipush (v := 8) hx hb d_M_end_87 (by decide) ?_
                refine lv_lshl hx hb d_M_end_89 rfl ?_
                refine lv_topl (fun v_11 ev_11 => ?_)
                have z9 : v_11 = lN (L9 * 256) := by rw [ev_11]; exact L_shl8 _
                subst z9
                refine lv_ldc2 (v := 4294967295) hx hb hown (hg _ k927) d_M_end_90 ?_
                refine lv_land hx hb d_M_end_93 ?_
                refine lv_topl (fun v_12 ev_12 => ?_)
                have z9 : v_12 = lN (L9 * 256 % 4294967296) := by rw [ev_12]; exact L_and32 (by omega)
                subst z9
                refine va_put (D := (dC, dI)) (ci := 9) (v := .long (lN (L9 * 256 % 4294967296))) (ty := .long) (C := "RangeCodersModel") (T := T_M) (N := 35) hx hb hg in_M t_M o_M n_M hown hK hP hD hS 1 rfl rfl 11 (by decide) (hg _ k963) (fun _ h9 => h9) rfl (by decide +kernel) rfl rfl (Nat.le_of_ble_eq_true rfl) d_M_end_94 (fun H locs hP hD hS => ?_)
                have hP : va_P (dC, dI) vwCl [((g 7), .inl (cI, 9000, .inl vOut)), (o, .inr (9, mO g 1 fShift fModels (nI ki) 1 (lN (L9 * 256 % 4294967296)) (lN Rg) fCache fPend (nI (b9 ++ [(L9 / 16777216) % 256]).length) fOuts fIns fReads fBad fIR fAsk fBAsk fCode fRL fRR fX fWrites 0)), ((g 6), .inl (cI, 9000, .inl v2_79))] H := hP
                have hD : va_D A [((g 7), .inl (cI, 9000, .inl vOut)), (o, .inr (9, mO g 1 fShift fModels (nI ki) 1 (lN (L9 * 256 % 4294967296)) (lN Rg) fCache fPend (nI (b9 ++ [(L9 / 16777216) % 256]).length) fOuts fIns fReads fBad fIR fAsk fBAsk fCode fRL fRR fX fWrites 0)), ((g 6), .inl (cI, 9000, .inl v2_79))] := hD
                obtain ⟨v_13, ev_13⟩ : ∃ y : Int32, y = (nI jj) + (1) := ⟨_, rfl⟩
                refine lv_iinc (v := v_13) (lv' := [(1, .int v_13), (0, .ref o)]) hx hb d_M_end_97 hl (k := 0) rfl (by rw [ev_13]; rfl) (by decide) rfl (fun ls hl => ?_)
                have z9 : v_13 = nI (jj + 1) := by rw [ev_13]; exact nI_1 _
                subst z9
                refine lv_goto (tgt := 65) hx hb d_M_end_100 (by decide) ?_
                exact ih9_65 _ (by first | omega | (omega)) (jj + 1) (L9 * 256 % 4294967296) (b9 ++ [L9 / 16777216 % 256]) v2_79 rfl (by omega) (Nat.mod_lt _ (by decide)) (hw_79) (oct_app ho9 (oct_one (Nat.mod_lt _ (by decide)))) (by rw [List.length_append, List.length_singleton]; omega) H locs ls (hP.sub [1, 2, 0] rfl) (hD.sub [1, 2, 0] (by decide) rfl) hS (lv_sub hl [0, 1] rfl)
          exact J_65 _ (0 : Nat) L bs vGoing rfl (by decide) (hp.1) (hG) (ho) (by omega) H locs ls (hP.sub [0, 1, 2] rfl) (hD.sub [0, 1, 2] (by decide) rfl) hS (lv_sub hl [0, 1] rfl)
      · exact absurd c_3 (by decide)
  · exact absurd (by decide) c_1
