set_option maxHeartbeats 1000000 in
set_option maxRecDepth 100000 in
/-- widenReadPlain -/
theorem c_M_widenReadPlain (l : Launch) (dC : Nat → ClassId) (dI : Nat → Nat → Nat) (cI cM cO : ClassId) (sz : Nat) (o : Nat) (g : Nat → Nat) (fForm : Int32) (fShift : Int32) (fModels : Int32) (fItems : Int32) (fEnded : Int32) (fLow : Int64) (fRange : Int64) (fCache : Int32) (fPend : Int32) (fGoes : Int32) (fOuts : Int32) (fReads : Int32) (fBad : Int32) (fIR : Int32) (fBAsk : Int32) (fX : Int64) (fWrites : Int32) (fThrown : Int32) (vIn : Nat → Int32) (RR : Nat) (L : Nat) (CD : Nat) (is : List Nat) (q : Nat) (hI : gIs vIn is) (hlen : is.length ≤ 6000) (hoct : oct is) (hq : q < 900000) (hp : pOk RR L) (hC : CD < 4294967296) : MetV l y_M_widenReadPlain (Cond.code y_M_widenReadPlain prog_14_method_46_code 3 none :: gw) ({ frames := 1, cells := 0, slots := 0, locals := 21 } : Room) (dC, dI) vwCl (kT cI cM cO) [Value.ref o] [(o, Sum.inr (9, mO g fForm fShift fModels fItems fEnded fLow fRange fCache fPend fGoes fOuts (nI is.length) fReads fBad fIR (nI q) fBAsk (lN CD) (lN L) (lN RR) fX fWrites fThrown)), ((g 8), Sum.inl (cI, 6000, Sum.inl vIn))] sz (fun (u : Unit) => True) (fun (u : Unit) => [(o, Sum.inr (9, mO g fForm fShift fModels fItems fEnded fLow fRange fCache fPend fGoes fOuts (nI is.length) fReads fBad fIR (nI (prS is (RR, L, CD, q)).2.2.2) fBAsk (lN (prS is (RR, L, CD, q)).2.2.1) (lN (prS is (RR, L, CD, q)).2.1) (lN (prS is (RR, L, CD, q)).1) fX fWrites fThrown)), ((g 8), Sum.inl (cI, 6000, Sum.inl vIn))]) 0 0 := by
  refine my_ofV (cc := prog_14_method_46_code) (n := 3) (ret := none) (by decide) rfl (Nat.le_of_ble_eq_true rfl) ?_
  intro p e s m args below meth c R Q A ls H locs hx hb hr hts hown hlocks hml hnm hR hQ hA hl hP hK hN hD hS
  have hg : ∀ w ∈ gw, w.before args s = true := fun w h => hts w (List.mem_cons_of_mem _ h)
  have hown : s.vm.findClass "RangeCodersModel" = some m.cls := hown
  have hl : lv_has ls 3 [(0, Value.ref o)] := hl
  refine lv_iconst (v := 1) hx hb d_M_widenReadPlain_0 (by decide) ?_
  refine lv_istore_n (lv' := [(1, Value.int 1), (0, Value.ref o)]) hx hb d_M_widenReadPlain_1 rfl hl (by decide) rfl (fun ls hl => ?_)
  refine lv_iload_n hx hb d_M_widenReadPlain_2 rfl (lv_at hl 0 rfl) ?_
  refine lv_if_eq (tgt := 142) hx hb d_M_widenReadPlain_3 (by decide) (fun c_1 => ?_) (fun c_1 => ?_)
  · exact absurd c_1 (by decide)
  · have J_6 : ∀ (n9_6 : Nat) (e9 : RP) (k9 : Nat) (hn9_6 : k9 = n9_6) (hE9 : prS is (RR, L, CD, q) = prN is k9 e9) (hi9 : plI k9 e9.1 e9.2.1) (hC9 : e9.2.2.1 < 4294967296) (hq9 : e9.2.2.2 + k9 ≤ 900008) (H : Heap) (locs : List Loc) (ls : Array Slot), va_P (dC, dI) vwCl [(o, Sum.inr (9, mO g fForm fShift fModels fItems fEnded fLow fRange fCache fPend fGoes fOuts (nI is.length) fReads fBad fIR (nI e9.2.2.2) fBAsk (lN e9.2.2.1) (lN e9.2.1) (lN e9.1) fX fWrites fThrown)), ((g 8), Sum.inl (cI, 6000, Sum.inl vIn))] H → va_D A [(o, Sum.inr (9, mO g fForm fShift fModels fItems fEnded fLow fRange fCache fPend fGoes fOuts (nI is.length) fReads fBad fIR (nI e9.2.2.2) fBAsk (lN e9.2.2.1) (lN e9.2.1) (lN e9.1) fX fWrites fThrown)), ((g 8), Sum.inl (cI, 6000, Sum.inl vIn))] → va_S A s.heap H locs → lv_has ls 3 [(0, Value.ref o)] → W p l e R s m args below meth c H locs 0 0 Q (F0 m 6 ls []) := by
      intro n9_6
      induction n9_6 using Nat.strongRecOn with
      | ind n9_6 ih9_6 =>
        intro e9 k9 hn9_6 hE9 hi9 hC9 hq9 H locs ls hP hD hS hl
        obtain ⟨⟨hL1, hR1, hS1, hS2⟩, hk4, hk8, -⟩ := id hi9
        have ho := hoct e9.2.2.2
        refine lv_aload_n hx hb d_M_widenReadPlain_6 rfl (lv_at hl 0 rfl) ?_
        refine va_get (D := (dC, dI)) (ci := 9) (v := .long (lN e9.2.1)) (C := "RangeCodersModel") (T := T_M) (N := 35) hx hb hg in_M hown hK hP 0 rfl rfl 27 (by decide) (hg _ k979) (fun _ h9 => h9) rfl d_M_widenReadPlain_7 ?_
        refine lv_bipush (v := 24) hx hb d_M_widenReadPlain_10 (by decide) ?_
        refine lv_lshr hx hb d_M_widenReadPlain_12 rfl ?_
        refine lv_topl (fun v_2 ev_2 => ?_)
        refine lv_aload_n hx hb d_M_widenReadPlain_13 rfl (lv_at hl 0 rfl) ?_
        refine va_get (D := (dC, dI)) (ci := 9) (v := .long (lN e9.2.1)) (C := "RangeCodersModel") (T := T_M) (N := 35) hx hb hg in_M hown hK hP 0 rfl rfl 27 (by decide) (hg _ k979) (fun _ h9 => h9) rfl d_M_widenReadPlain_14 ?_
        refine lv_aload_n hx hb d_M_widenReadPlain_17 rfl (lv_at hl 0 rfl) ?_
        refine va_get (D := (dC, dI)) (ci := 9) (v := .long (lN e9.1)) (C := "RangeCodersModel") (T := T_M) (N := 35) hx hb hg in_M hown hK hP 0 rfl rfl 28 (by decide) (hg _ k980) (fun _ h9 => h9) rfl d_M_widenReadPlain_18 ?_
        refine lv_ladd hx hb d_M_widenReadPlain_21 ?_
        refine lv_topl (fun v_3 ev_3 => ?_)
        refine lv_ldc2 (v := 4294967295) hx hb hown (hg _ k927) d_M_widenReadPlain_22 ?_
        refine lv_land hx hb d_M_widenReadPlain_25 ?_
        refine lv_topl (fun v_4 ev_4 => ?_)
        refine lv_bipush (v := 24) hx hb d_M_widenReadPlain_26 (by decide) ?_
        refine lv_lshr hx hb d_M_widenReadPlain_28 rfl ?_
        refine lv_topl (fun v_5 ev_5 => ?_)
        have hx9 : v_2 = lN (e9.2.1 / 16777216) := by subst_vars; exact L_shr24 (by omega)
        have hy9 : v_5 = lN ((e9.2.1 + e9.1) % 4294967296 / 16777216) := by subst_vars; rw [lN_add, L_and32 (by omega), L_shr24 (by omega)]
        refine W.lcmp hx hb d_M_widenReadPlain_29 ?_
        refine lv_if_ne (tgt := 37) hx hb d_M_widenReadPlain_30 (by decide) (fun c_6 => ?_) (fun c_6 => ?_)
        · rw [lg_cmp_eq] at c_6
          have hsm : ¬ smT e9.2.1 e9.1 := fun z => c_6 (by rw [hx9, hy9]; exact congrArg lN z)
          refine lv_iconst (v := 0) hx hb d_M_widenReadPlain_37 (by decide) ?_
          refine lv_istore_n (lv' := [(2, Value.int 0), (0, Value.ref o)]) hx hb d_M_widenReadPlain_38 rfl hl (by decide) rfl (fun ls hl => ?_)
          refine lv_iload_n hx hb d_M_widenReadPlain_39 rfl (lv_at hl 0 rfl) ?_
          refine lv_if_ne (tgt := 54) hx hb d_M_widenReadPlain_40 (by decide) (fun c_7 => ?_) (fun c_7 => ?_)
          · exact absurd rfl c_7
          · refine lv_aload_n hx hb d_M_widenReadPlain_43 rfl (lv_at hl 1 rfl) ?_
            refine va_get (D := (dC, dI)) (ci := 9) (v := .long (lN e9.1)) (C := "RangeCodersModel") (T := T_M) (N := 35) hx hb hg in_M hown hK hP 0 rfl rfl 28 (by decide) (hg _ k980) (fun _ h9 => h9) rfl d_M_widenReadPlain_44 ?_
            refine lv_ldc2 (v := 65536) hx hb hown (hg _ k1117) d_M_widenReadPlain_47 ?_
            refine W.lcmp hx hb d_M_widenReadPlain_50 ?_
            refine lv_if_ge (tgt := 58) hx hb d_M_widenReadPlain_51 (by decide) (fun c_8 => ?_) (fun c_8 => ?_)
            · rw [lg_cmp_ge] at c_8
              have hge : 65536 ≤ e9.1 := (L_le (a := 65536) (by decide) (by omega)).mp c_8
              have hnm : ¬ mvP e9.2.1 e9.1 := fun z => z.elim (fun z => hsm z) (fun z => by omega)
              refine lv_iconst (v := 0) hx hb d_M_widenReadPlain_58 (by decide) ?_
              refine lv_istore_n (lv' := [(1, Value.int 0), (2, Value.int 0), (0, Value.ref o)]) hx hb d_M_widenReadPlain_59 rfl hl (by decide) rfl (fun ls hl => ?_)
              refine lv_iload_n hx hb d_M_widenReadPlain_60 rfl (lv_at hl 0 rfl) ?_
              refine lv_if_eq (tgt := 139) hx hb d_M_widenReadPlain_61 (by decide) (fun c_9 => ?_) (fun c_9 => ?_)
              · refine lv_goto (tgt := 2) hx hb d_M_widenReadPlain_139 (by decide) ?_
                refine lv_iload_n hx hb d_M_widenReadPlain_2 rfl (lv_at hl 0 rfl) ?_
                refine lv_if_eq (tgt := 142) hx hb d_M_widenReadPlain_3 (by decide) (fun c_10 => ?_) (fun c_10 => ?_)
                · have z9 : e9 = prS is (RR, L, CD, q) := by rw [hE9, prN_e hnm]
                  subst z9
                  exact my_vret hx hb hr hlocks hQ hK hS (Nat.le_refl _) (Nat.le_refl _) () (trivial) (hP.sub [0, 1] rfl) (hD.sub [0, 1] (by decide +kernel) rfl) d_M_widenReadPlain_142
                · exact absurd (by decide) c_10
              · exact absurd (by decide) c_9
            · rw [lg_cmp_ge] at c_8
              have hlt : e9.1 < 65536 := by
                rcases Nat.lt_or_ge e9.1 65536 with z | z
                · exact z
                · exact absurd ((L_le (a := 65536) (by decide) (by omega)).mpr z) c_8
              refine lv_iconst (v := 1) hx hb d_M_widenReadPlain_54 (by decide) ?_
              refine lv_goto (tgt := 59) hx hb d_M_widenReadPlain_55 (by decide) ?_
              refine lv_istore_n (lv' := [(1, Value.int 1), (2, Value.int 0), (0, Value.ref o)]) hx hb d_M_widenReadPlain_59 rfl hl (by decide) rfl (fun ls hl => ?_)
              refine lv_iload_n hx hb d_M_widenReadPlain_60 rfl (lv_at hl 0 rfl) ?_
              refine lv_if_eq (tgt := 139) hx hb d_M_widenReadPlain_61 (by decide) (fun c_11 => ?_) (fun c_11 => ?_)
              · exact absurd c_11 (by decide)
              · have hmv : mvP e9.2.1 e9.1 := Or.inr hlt
                have hst := plI_st hi9 hmv
                have hng : ngL e9.2.1 < 65536 := Nat.mod_lt _ (by decide)
                refine lv_aload_n hx hb d_M_widenReadPlain_64 rfl (lv_at hl 2 rfl) ?_
                refine lv_iload_n hx hb d_M_widenReadPlain_65 rfl (lv_at hl 1 rfl) ?_
                refine lv_if_eq (tgt := 76) hx hb d_M_widenReadPlain_66 (by decide) (fun c_12 => ?_) (fun c_12 => ?_)
                · refine lv_aload_n hx hb d_M_widenReadPlain_76 rfl (lv_at hl 2 rfl) ?_
                  refine va_get (D := (dC, dI)) (ci := 9) (v := .long (lN e9.2.1)) (C := "RangeCodersModel") (T := T_M) (N := 35) hx hb hg in_M hown hK hP 0 rfl rfl 27 (by decide) (hg _ k979) (fun _ h9 => h9) rfl d_M_widenReadPlain_77 ?_
                  refine lv_lneg hx hb d_M_widenReadPlain_80 ?_
                  refine lv_topl (fun v_13 ev_13 => ?_)
                  refine lv_ldc2 (v := 65535) hx hb hown (hg _ k1118) d_M_widenReadPlain_81 ?_
                  refine lv_land hx hb d_M_widenReadPlain_84 ?_
                  refine lv_topl (fun v_14 ev_14 => ?_)
                  have z9 : v_14 = lN (ngL e9.2.1) := by subst_vars; exact L_ngA (by omega)
                  subst z9
                  refine va_put (D := (dC, dI)) (ci := 9) (v := .long (lN (ngL e9.2.1))) (ty := .long) (C := "RangeCodersModel") (T := T_M) (N := 35) hx hb hg in_M t_M o_M n_M hown hK hP hD hS 0 rfl rfl 28 (by decide) (hg _ k980) (fun _ h9 => h9) rfl (by decide +kernel) rfl rfl (Nat.le_of_ble_eq_true rfl) d_M_widenReadPlain_85 (fun H locs hP hD hS => ?_)
                  have hP : va_P (dC, dI) vwCl [(o, Sum.inr (9, mO g fForm fShift fModels fItems fEnded fLow fRange fCache fPend fGoes fOuts (nI is.length) fReads fBad fIR (nI e9.2.2.2) fBAsk (lN e9.2.2.1) (lN e9.2.1) (lN (ngL e9.2.1)) fX fWrites fThrown)), ((g 8), Sum.inl (cI, 6000, Sum.inl vIn))] H := hP
                  have hD : va_D A [(o, Sum.inr (9, mO g fForm fShift fModels fItems fEnded fLow fRange fCache fPend fGoes fOuts (nI is.length) fReads fBad fIR (nI e9.2.2.2) fBAsk (lN e9.2.2.1) (lN e9.2.1) (lN (ngL e9.2.1)) fX fWrites fThrown)), ((g 8), Sum.inl (cI, 6000, Sum.inl vIn))] := hD
                  refine lv_aload_n hx hb d_M_widenReadPlain_88 rfl (lv_at hl 2 rfl) ?_
                  refine lv_aload_n hx hb d_M_widenReadPlain_89 rfl (lv_at hl 2 rfl) ?_
                  refine va_get (D := (dC, dI)) (ci := 9) (v := .long (lN e9.2.1)) (C := "RangeCodersModel") (T := T_M) (N := 35) hx hb hg in_M hown hK hP 0 rfl rfl 27 (by decide) (hg _ k979) (fun _ h9 => h9) rfl d_M_widenReadPlain_90 ?_
                  refine lv_bipush (v := 8) hx hb d_M_widenReadPlain_93 (by decide) ?_
                  refine lv_lshl hx hb d_M_widenReadPlain_95 rfl ?_
                  refine lv_topl (fun v_15 ev_15 => ?_)
                  refine lv_ldc2 (v := 4294967295) hx hb hown (hg _ k927) d_M_widenReadPlain_96 ?_
                  refine lv_land hx hb d_M_widenReadPlain_99 ?_
                  refine lv_topl (fun v_16 ev_16 => ?_)
                  have z9 : v_16 = lN (mvL e9.2.1) := by subst_vars; rw [L_shl8, L_and32 (by omega)]; rfl
                  subst z9
                  refine va_put (D := (dC, dI)) (ci := 9) (v := .long (lN (mvL e9.2.1))) (ty := .long) (C := "RangeCodersModel") (T := T_M) (N := 35) hx hb hg in_M t_M o_M n_M hown hK hP hD hS 0 rfl rfl 27 (by decide) (hg _ k979) (fun _ h9 => h9) rfl (by decide +kernel) rfl rfl (Nat.le_of_ble_eq_true rfl) d_M_widenReadPlain_100 (fun H locs hP hD hS => ?_)
                  have hP : va_P (dC, dI) vwCl [(o, Sum.inr (9, mO g fForm fShift fModels fItems fEnded fLow fRange fCache fPend fGoes fOuts (nI is.length) fReads fBad fIR (nI e9.2.2.2) fBAsk (lN e9.2.2.1) (lN (mvL e9.2.1)) (lN (ngL e9.2.1)) fX fWrites fThrown)), ((g 8), Sum.inl (cI, 6000, Sum.inl vIn))] H := hP
                  have hD : va_D A [(o, Sum.inr (9, mO g fForm fShift fModels fItems fEnded fLow fRange fCache fPend fGoes fOuts (nI is.length) fReads fBad fIR (nI e9.2.2.2) fBAsk (lN e9.2.2.1) (lN (mvL e9.2.1)) (lN (ngL e9.2.1)) fX fWrites fThrown)), ((g 8), Sum.inl (cI, 6000, Sum.inl vIn))] := hD
                  refine lv_aload_n hx hb d_M_widenReadPlain_103 rfl (lv_at hl 2 rfl) ?_
                  refine lv_aload_n hx hb d_M_widenReadPlain_104 rfl (lv_at hl 2 rfl) ?_
                  refine va_get (D := (dC, dI)) (ci := 9) (v := .long (lN (ngL e9.2.1))) (C := "RangeCodersModel") (T := T_M) (N := 35) hx hb hg in_M hown hK hP 0 rfl rfl 28 (by decide) (hg _ k980) (fun _ h9 => h9) rfl d_M_widenReadPlain_105 ?_
                  refine lv_bipush (v := 8) hx hb d_M_widenReadPlain_108 (by decide) ?_
                  refine lv_lshl hx hb d_M_widenReadPlain_110 rfl ?_
                  refine lv_topl (fun v_17 ev_17 => ?_)
                  refine lv_ldc2 (v := 4294967295) hx hb hown (hg _ k927) d_M_widenReadPlain_111 ?_
                  refine lv_land hx hb d_M_widenReadPlain_114 ?_
                  refine lv_topl (fun v_18 ev_18 => ?_)
                  have z9 : v_18 = lN (mvR e9.2.1 e9.1) := by subst_vars; rw [L_shl8, L_and32 (by omega)]; unfold mvR; rw [if_neg hsm]
                  subst z9
                  refine va_put (D := (dC, dI)) (ci := 9) (v := .long (lN (mvR e9.2.1 e9.1))) (ty := .long) (C := "RangeCodersModel") (T := T_M) (N := 35) hx hb hg in_M t_M o_M n_M hown hK hP hD hS 0 rfl rfl 28 (by decide) (hg _ k980) (fun _ h9 => h9) rfl (by decide +kernel) rfl rfl (Nat.le_of_ble_eq_true rfl) d_M_widenReadPlain_115 (fun H locs hP hD hS => ?_)
                  have hP : va_P (dC, dI) vwCl [(o, Sum.inr (9, mO g fForm fShift fModels fItems fEnded fLow fRange fCache fPend fGoes fOuts (nI is.length) fReads fBad fIR (nI e9.2.2.2) fBAsk (lN e9.2.2.1) (lN (mvL e9.2.1)) (lN (mvR e9.2.1 e9.1)) fX fWrites fThrown)), ((g 8), Sum.inl (cI, 6000, Sum.inl vIn))] H := hP
                  have hD : va_D A [(o, Sum.inr (9, mO g fForm fShift fModels fItems fEnded fLow fRange fCache fPend fGoes fOuts (nI is.length) fReads fBad fIR (nI e9.2.2.2) fBAsk (lN e9.2.2.1) (lN (mvL e9.2.1)) (lN (mvR e9.2.1 e9.1)) fX fWrites fThrown)), ((g 8), Sum.inl (cI, 6000, Sum.inl vIn))] := hD
                  refine lv_aload_n hx hb d_M_widenReadPlain_118 rfl (lv_at hl 2 rfl) ?_
                  refine lv_aload_n hx hb d_M_widenReadPlain_119 rfl (lv_at hl 2 rfl) ?_
                  refine va_get (D := (dC, dI)) (ci := 9) (v := .long (lN e9.2.2.1)) (C := "RangeCodersModel") (T := T_M) (N := 35) hx hb hg in_M hown hK hP 0 rfl rfl 26 (by decide) (hg _ k978) (fun _ h9 => h9) rfl d_M_widenReadPlain_120 ?_
                  refine lv_bipush (v := 8) hx hb d_M_widenReadPlain_123 (by decide) ?_
                  refine lv_lshl hx hb d_M_widenReadPlain_125 rfl ?_
                  refine lv_topl (fun v_19 ev_19 => ?_)
                  refine lv_ldc2 (v := 4294967295) hx hb hown (hg _ k927) d_M_widenReadPlain_126 ?_
                  refine lv_land hx hb d_M_widenReadPlain_129 ?_
                  refine lv_topl (fun v_20 ev_20 => ?_)
                  refine lv_aload_n hx hb d_M_widenReadPlain_130 rfl (lv_at hl 2 rfl) ?_
                  refine my_ci (wr := []) (va_runV (As := []) (rest := [Value.long v_20, Value.ref o]) ⟨hx, hb, hml, hown, hts⟩ (c_M_next l dC dI cI cM cO H.size o g fForm fShift fModels fItems fEnded fLow fRange fCache fPend fGoes fOuts fReads fBad fIR fBAsk (lN e9.2.2.1) (lN (mvL e9.2.1)) (lN (mvR e9.2.1 e9.1)) fX fWrites fThrown vIn is e9.2.2.2 (by assumption) (by assumption) (by assumption) (by omega)) (cwV 0 hts (my_gV k1194 k1196 ks45 k12 k1197) rfl rfl rfl (by decide +kernel) ⟨by rw [hR]; exact Nat.le_of_ble_eq_true rfl, by rw [hR]; exact Nat.le_of_ble_eq_true rfl⟩) (my_preV hK hN (hP.sub [0, 1] rfl) (hD.sub [0, 1] (by decide +kernel) rfl) 0 rfl rfl) rfl rfl hl.1 rfl (lv_room (Nat.le_of_ble_eq_true rfl)) d_M_widenReadPlain_131 ⟨by rw [hR]; exact Nat.le_of_ble_eq_true rfl, by rw [hR]; exact Nat.le_of_ble_eq_true rfl⟩) hP hD hS hA [0, 1] [] rfl rfl (by decide +kernel) (by decide +kernel) (fun r_131 u9 H locs hw_131 hP hD hS => ?_)
                  have hw_131 : r_131 = nI (byA is e9.2.2.2) := hw_131
                  have hP : va_P (dC, dI) vwCl [(o, Sum.inr (9, mO g fForm fShift fModels fItems fEnded fLow fRange fCache fPend fGoes fOuts (nI is.length) fReads fBad fIR (nI (e9.2.2.2 + 1)) fBAsk (lN e9.2.2.1) (lN (mvL e9.2.1)) (lN (mvR e9.2.1 e9.1)) fX fWrites fThrown)), ((g 8), Sum.inl (cI, 6000, Sum.inl vIn))] H := hP
                  have hD : va_D A [(o, Sum.inr (9, mO g fForm fShift fModels fItems fEnded fLow fRange fCache fPend fGoes fOuts (nI is.length) fReads fBad fIR (nI (e9.2.2.2 + 1)) fBAsk (lN e9.2.2.1) (lN (mvL e9.2.1)) (lN (mvR e9.2.1 e9.1)) fX fWrites fThrown)), ((g 8), Sum.inl (cI, 6000, Sum.inl vIn))] := hD
                  refine lv_i2l hx hb d_M_widenReadPlain_134 rfl ?_
                  refine lv_topl (fun v_21 ev_21 => ?_)
                  refine lv_ladd hx hb d_M_widenReadPlain_135 ?_
                  refine lv_topl (fun v_22 ev_22 => ?_)
                  have z9 : v_22 = lN (e9.2.2.1 * 256 % 4294967296 + byA is e9.2.2.2) := by subst_vars; rw [L_shl8, L_and32 (by omega), nI_l (by omega), lN_add]
                  subst z9
                  refine va_put (D := (dC, dI)) (ci := 9) (v := .long (lN (e9.2.2.1 * 256 % 4294967296 + byA is e9.2.2.2))) (ty := .long) (C := "RangeCodersModel") (T := T_M) (N := 35) hx hb hg in_M t_M o_M n_M hown hK hP hD hS 0 rfl rfl 26 (by decide) (hg _ k978) (fun _ h9 => h9) rfl (by decide +kernel) rfl rfl (Nat.le_of_ble_eq_true rfl) d_M_widenReadPlain_136 (fun H locs hP hD hS => ?_)
                  have hP : va_P (dC, dI) vwCl [(o, Sum.inr (9, mO g fForm fShift fModels fItems fEnded fLow fRange fCache fPend fGoes fOuts (nI is.length) fReads fBad fIR (nI (e9.2.2.2 + 1)) fBAsk (lN (e9.2.2.1 * 256 % 4294967296 + byA is e9.2.2.2)) (lN (mvL e9.2.1)) (lN (mvR e9.2.1 e9.1)) fX fWrites fThrown)), ((g 8), Sum.inl (cI, 6000, Sum.inl vIn))] H := hP
                  have hD : va_D A [(o, Sum.inr (9, mO g fForm fShift fModels fItems fEnded fLow fRange fCache fPend fGoes fOuts (nI is.length) fReads fBad fIR (nI (e9.2.2.2 + 1)) fBAsk (lN (e9.2.2.1 * 256 % 4294967296 + byA is e9.2.2.2)) (lN (mvL e9.2.1)) (lN (mvR e9.2.1 e9.1)) fX fWrites fThrown)), ((g 8), Sum.inl (cI, 6000, Sum.inl vIn))] := hD
                  refine lv_goto (tgt := 2) hx hb d_M_widenReadPlain_139 (by decide) ?_
                  refine lv_iload_n hx hb d_M_widenReadPlain_2 rfl (lv_at hl 0 rfl) ?_
                  refine lv_if_eq (tgt := 142) hx hb d_M_widenReadPlain_3 (by decide) (fun c_23 => ?_) (fun c_23 => ?_)
                  · exact absurd c_23 (by decide)
                  · exact ih9_6 _ (by first | omega | (omega)) (mvR e9.2.1 e9.1, mvL e9.2.1, e9.2.2.1 * 256 % 4294967296 + byA is e9.2.2.2, e9.2.2.2 + 1) (k9 - 1) rfl (by rw [hE9, prN_s (by omega) hmv]) (hst.2) (by show e9.2.2.1 * 256 % 4294967296 + byA is e9.2.2.2 < _; omega) (by show e9.2.2.2 + 1 + _ ≤ _; omega) H locs ls (hP.sub [0, 1] rfl) (hD.sub [0, 1] (by decide +kernel) rfl) hS (lv_sub hl [2] rfl)
                · exact absurd (by decide) c_12
        · rw [lg_cmp_eq] at c_6
          have hsm : smT e9.2.1 e9.1 := (pk_lEQ (by omega) (by omega)).mp (by rw [← hx9, ← hy9]; exact c_6)
          refine lv_iconst (v := 1) hx hb d_M_widenReadPlain_33 (by decide) ?_
          refine lv_goto (tgt := 38) hx hb d_M_widenReadPlain_34 (by decide) ?_
          refine lv_istore_n (lv' := [(2, Value.int 1), (0, Value.ref o)]) hx hb d_M_widenReadPlain_38 rfl hl (by decide) rfl (fun ls hl => ?_)
          refine lv_iload_n hx hb d_M_widenReadPlain_39 rfl (lv_at hl 0 rfl) ?_
          refine lv_if_ne (tgt := 54) hx hb d_M_widenReadPlain_40 (by decide) (fun c_24 => ?_) (fun c_24 => ?_)
          · refine lv_iconst (v := 1) hx hb d_M_widenReadPlain_54 (by decide) ?_
            refine lv_goto (tgt := 59) hx hb d_M_widenReadPlain_55 (by decide) ?_
            refine lv_istore_n (lv' := [(1, Value.int 1), (2, Value.int 1), (0, Value.ref o)]) hx hb d_M_widenReadPlain_59 rfl hl (by decide) rfl (fun ls hl => ?_)
            refine lv_iload_n hx hb d_M_widenReadPlain_60 rfl (lv_at hl 0 rfl) ?_
            refine lv_if_eq (tgt := 139) hx hb d_M_widenReadPlain_61 (by decide) (fun c_25 => ?_) (fun c_25 => ?_)
            · exact absurd c_25 (by decide)
            · have hmv : mvP e9.2.1 e9.1 := Or.inl hsm
              have hst := plI_st hi9 hmv
              have hng : ngL e9.2.1 < 65536 := Nat.mod_lt _ (by decide)
              refine lv_aload_n hx hb d_M_widenReadPlain_64 rfl (lv_at hl 2 rfl) ?_
              refine lv_iload_n hx hb d_M_widenReadPlain_65 rfl (lv_at hl 1 rfl) ?_
              refine lv_if_eq (tgt := 76) hx hb d_M_widenReadPlain_66 (by decide) (fun c_26 => ?_) (fun c_26 => ?_)
              · exact absurd c_26 (by decide)
              · refine lv_aload_n hx hb d_M_widenReadPlain_69 rfl (lv_at hl 2 rfl) ?_
                refine va_get (D := (dC, dI)) (ci := 9) (v := .long (lN e9.1)) (C := "RangeCodersModel") (T := T_M) (N := 35) hx hb hg in_M hown hK hP 0 rfl rfl 28 (by decide) (hg _ k980) (fun _ h9 => h9) rfl d_M_widenReadPlain_70 ?_
                refine lv_goto (tgt := 85) hx hb d_M_widenReadPlain_73 (by decide) ?_
                refine va_put (D := (dC, dI)) (ci := 9) (v := .long (lN e9.1)) (ty := .long) (C := "RangeCodersModel") (T := T_M) (N := 35) hx hb hg in_M t_M o_M n_M hown hK hP hD hS 0 rfl rfl 28 (by decide) (hg _ k980) (fun _ h9 => h9) rfl (by decide +kernel) rfl rfl (Nat.le_of_ble_eq_true rfl) d_M_widenReadPlain_85 (fun H locs hP hD hS => ?_)
                have hP : va_P (dC, dI) vwCl [(o, Sum.inr (9, mO g fForm fShift fModels fItems fEnded fLow fRange fCache fPend fGoes fOuts (nI is.length) fReads fBad fIR (nI e9.2.2.2) fBAsk (lN e9.2.2.1) (lN e9.2.1) (lN e9.1) fX fWrites fThrown)), ((g 8), Sum.inl (cI, 6000, Sum.inl vIn))] H := hP
                have hD : va_D A [(o, Sum.inr (9, mO g fForm fShift fModels fItems fEnded fLow fRange fCache fPend fGoes fOuts (nI is.length) fReads fBad fIR (nI e9.2.2.2) fBAsk (lN e9.2.2.1) (lN e9.2.1) (lN e9.1) fX fWrites fThrown)), ((g 8), Sum.inl (cI, 6000, Sum.inl vIn))] := hD
                refine lv_aload_n hx hb d_M_widenReadPlain_88 rfl (lv_at hl 2 rfl) ?_
                refine lv_aload_n hx hb d_M_widenReadPlain_89 rfl (lv_at hl 2 rfl) ?_
                refine va_get (D := (dC, dI)) (ci := 9) (v := .long (lN e9.2.1)) (C := "RangeCodersModel") (T := T_M) (N := 35) hx hb hg in_M hown hK hP 0 rfl rfl 27 (by decide) (hg _ k979) (fun _ h9 => h9) rfl d_M_widenReadPlain_90 ?_
                refine lv_bipush (v := 8) hx hb d_M_widenReadPlain_93 (by decide) ?_
                refine lv_lshl hx hb d_M_widenReadPlain_95 rfl ?_
                refine lv_topl (fun v_27 ev_27 => ?_)
                refine lv_ldc2 (v := 4294967295) hx hb hown (hg _ k927) d_M_widenReadPlain_96 ?_
                refine lv_land hx hb d_M_widenReadPlain_99 ?_
                refine lv_topl (fun v_28 ev_28 => ?_)
                have z9 : v_28 = lN (mvL e9.2.1) := by subst_vars; rw [L_shl8, L_and32 (by omega)]; rfl
                subst z9
                refine va_put (D := (dC, dI)) (ci := 9) (v := .long (lN (mvL e9.2.1))) (ty := .long) (C := "RangeCodersModel") (T := T_M) (N := 35) hx hb hg in_M t_M o_M n_M hown hK hP hD hS 0 rfl rfl 27 (by decide) (hg _ k979) (fun _ h9 => h9) rfl (by decide +kernel) rfl rfl (Nat.le_of_ble_eq_true rfl) d_M_widenReadPlain_100 (fun H locs hP hD hS => ?_)
                have hP : va_P (dC, dI) vwCl [(o, Sum.inr (9, mO g fForm fShift fModels fItems fEnded fLow fRange fCache fPend fGoes fOuts (nI is.length) fReads fBad fIR (nI e9.2.2.2) fBAsk (lN e9.2.2.1) (lN (mvL e9.2.1)) (lN e9.1) fX fWrites fThrown)), ((g 8), Sum.inl (cI, 6000, Sum.inl vIn))] H := hP
                have hD : va_D A [(o, Sum.inr (9, mO g fForm fShift fModels fItems fEnded fLow fRange fCache fPend fGoes fOuts (nI is.length) fReads fBad fIR (nI e9.2.2.2) fBAsk (lN e9.2.2.1) (lN (mvL e9.2.1)) (lN e9.1) fX fWrites fThrown)), ((g 8), Sum.inl (cI, 6000, Sum.inl vIn))] := hD
                refine lv_aload_n hx hb d_M_widenReadPlain_103 rfl (lv_at hl 2 rfl) ?_
                refine lv_aload_n hx hb d_M_widenReadPlain_104 rfl (lv_at hl 2 rfl) ?_
                refine va_get (D := (dC, dI)) (ci := 9) (v := .long (lN e9.1)) (C := "RangeCodersModel") (T := T_M) (N := 35) hx hb hg in_M hown hK hP 0 rfl rfl 28 (by decide) (hg _ k980) (fun _ h9 => h9) rfl d_M_widenReadPlain_105 ?_
                refine lv_bipush (v := 8) hx hb d_M_widenReadPlain_108 (by decide) ?_
                refine lv_lshl hx hb d_M_widenReadPlain_110 rfl ?_
                refine lv_topl (fun v_29 ev_29 => ?_)
                refine lv_ldc2 (v := 4294967295) hx hb hown (hg _ k927) d_M_widenReadPlain_111 ?_
                refine lv_land hx hb d_M_widenReadPlain_114 ?_
                refine lv_topl (fun v_30 ev_30 => ?_)
                have z9 : v_30 = lN (mvR e9.2.1 e9.1) := by subst_vars; rw [L_shl8, L_and32 (by omega)]; unfold mvR; rw [if_pos hsm]
                subst z9
                refine va_put (D := (dC, dI)) (ci := 9) (v := .long (lN (mvR e9.2.1 e9.1))) (ty := .long) (C := "RangeCodersModel") (T := T_M) (N := 35) hx hb hg in_M t_M o_M n_M hown hK hP hD hS 0 rfl rfl 28 (by decide) (hg _ k980) (fun _ h9 => h9) rfl (by decide +kernel) rfl rfl (Nat.le_of_ble_eq_true rfl) d_M_widenReadPlain_115 (fun H locs hP hD hS => ?_)
                have hP : va_P (dC, dI) vwCl [(o, Sum.inr (9, mO g fForm fShift fModels fItems fEnded fLow fRange fCache fPend fGoes fOuts (nI is.length) fReads fBad fIR (nI e9.2.2.2) fBAsk (lN e9.2.2.1) (lN (mvL e9.2.1)) (lN (mvR e9.2.1 e9.1)) fX fWrites fThrown)), ((g 8), Sum.inl (cI, 6000, Sum.inl vIn))] H := hP
                have hD : va_D A [(o, Sum.inr (9, mO g fForm fShift fModels fItems fEnded fLow fRange fCache fPend fGoes fOuts (nI is.length) fReads fBad fIR (nI e9.2.2.2) fBAsk (lN e9.2.2.1) (lN (mvL e9.2.1)) (lN (mvR e9.2.1 e9.1)) fX fWrites fThrown)), ((g 8), Sum.inl (cI, 6000, Sum.inl vIn))] := hD
                refine lv_aload_n hx hb d_M_widenReadPlain_118 rfl (lv_at hl 2 rfl) ?_
                refine lv_aload_n hx hb d_M_widenReadPlain_119 rfl (lv_at hl 2 rfl) ?_
                refine va_get (D := (dC, dI)) (ci := 9) (v := .long (lN e9.2.2.1)) (C := "RangeCodersModel") (T := T_M) (N := 35) hx hb hg in_M hown hK hP 0 rfl rfl 26 (by decide) (hg _ k978) (fun _ h9 => h9) rfl d_M_widenReadPlain_120 ?_
                refine lv_bipush (v := 8) hx hb d_M_widenReadPlain_123 (by decide) ?_
                refine lv_lshl hx hb d_M_widenReadPlain_125 rfl ?_
                refine lv_topl (fun v_31 ev_31 => ?_)
                refine lv_ldc2 (v := 4294967295) hx hb hown (hg _ k927) d_M_widenReadPlain_126 ?_
                refine lv_land hx hb d_M_widenReadPlain_129 ?_
                refine lv_topl (fun v_32 ev_32 => ?_)
                refine lv_aload_n hx hb d_M_widenReadPlain_130 rfl (lv_at hl 2 rfl) ?_
                refine my_ci (wr := []) (va_runV (As := []) (rest := [Value.long v_32, Value.ref o]) ⟨hx, hb, hml, hown, hts⟩ (c_M_next l dC dI cI cM cO H.size o g fForm fShift fModels fItems fEnded fLow fRange fCache fPend fGoes fOuts fReads fBad fIR fBAsk (lN e9.2.2.1) (lN (mvL e9.2.1)) (lN (mvR e9.2.1 e9.1)) fX fWrites fThrown vIn is e9.2.2.2 (by assumption) (by assumption) (by assumption) (by omega)) (cwV 0 hts (my_gV k1194 k1196 ks45 k12 k1197) rfl rfl rfl (by decide +kernel) ⟨by rw [hR]; exact Nat.le_of_ble_eq_true rfl, by rw [hR]; exact Nat.le_of_ble_eq_true rfl⟩) (my_preV hK hN (hP.sub [0, 1] rfl) (hD.sub [0, 1] (by decide +kernel) rfl) 0 rfl rfl) rfl rfl hl.1 rfl (lv_room (Nat.le_of_ble_eq_true rfl)) d_M_widenReadPlain_131 ⟨by rw [hR]; exact Nat.le_of_ble_eq_true rfl, by rw [hR]; exact Nat.le_of_ble_eq_true rfl⟩) hP hD hS hA [0, 1] [] rfl rfl (by decide +kernel) (by decide +kernel) (fun r_131 u9 H locs hw_131 hP hD hS => ?_)
                have hw_131 : r_131 = nI (byA is e9.2.2.2) := hw_131
                have hP : va_P (dC, dI) vwCl [(o, Sum.inr (9, mO g fForm fShift fModels fItems fEnded fLow fRange fCache fPend fGoes fOuts (nI is.length) fReads fBad fIR (nI (e9.2.2.2 + 1)) fBAsk (lN e9.2.2.1) (lN (mvL e9.2.1)) (lN (mvR e9.2.1 e9.1)) fX fWrites fThrown)), ((g 8), Sum.inl (cI, 6000, Sum.inl vIn))] H := hP
                have hD : va_D A [(o, Sum.inr (9, mO g fForm fShift fModels fItems fEnded fLow fRange fCache fPend fGoes fOuts (nI is.length) fReads fBad fIR (nI (e9.2.2.2 + 1)) fBAsk (lN e9.2.2.1) (lN (mvL e9.2.1)) (lN (mvR e9.2.1 e9.1)) fX fWrites fThrown)), ((g 8), Sum.inl (cI, 6000, Sum.inl vIn))] := hD
                refine lv_i2l hx hb d_M_widenReadPlain_134 rfl ?_
                refine lv_topl (fun v_33 ev_33 => ?_)
                refine lv_ladd hx hb d_M_widenReadPlain_135 ?_
                refine lv_topl (fun v_34 ev_34 => ?_)
                have z9 : v_34 = lN (e9.2.2.1 * 256 % 4294967296 + byA is e9.2.2.2) := by subst_vars; rw [L_shl8, L_and32 (by omega), nI_l (by omega), lN_add]
                subst z9
                refine va_put (D := (dC, dI)) (ci := 9) (v := .long (lN (e9.2.2.1 * 256 % 4294967296 + byA is e9.2.2.2))) (ty := .long) (C := "RangeCodersModel") (T := T_M) (N := 35) hx hb hg in_M t_M o_M n_M hown hK hP hD hS 0 rfl rfl 26 (by decide) (hg _ k978) (fun _ h9 => h9) rfl (by decide +kernel) rfl rfl (Nat.le_of_ble_eq_true rfl) d_M_widenReadPlain_136 (fun H locs hP hD hS => ?_)
                have hP : va_P (dC, dI) vwCl [(o, Sum.inr (9, mO g fForm fShift fModels fItems fEnded fLow fRange fCache fPend fGoes fOuts (nI is.length) fReads fBad fIR (nI (e9.2.2.2 + 1)) fBAsk (lN (e9.2.2.1 * 256 % 4294967296 + byA is e9.2.2.2)) (lN (mvL e9.2.1)) (lN (mvR e9.2.1 e9.1)) fX fWrites fThrown)), ((g 8), Sum.inl (cI, 6000, Sum.inl vIn))] H := hP
                have hD : va_D A [(o, Sum.inr (9, mO g fForm fShift fModels fItems fEnded fLow fRange fCache fPend fGoes fOuts (nI is.length) fReads fBad fIR (nI (e9.2.2.2 + 1)) fBAsk (lN (e9.2.2.1 * 256 % 4294967296 + byA is e9.2.2.2)) (lN (mvL e9.2.1)) (lN (mvR e9.2.1 e9.1)) fX fWrites fThrown)), ((g 8), Sum.inl (cI, 6000, Sum.inl vIn))] := hD
                refine lv_goto (tgt := 2) hx hb d_M_widenReadPlain_139 (by decide) ?_
                refine lv_iload_n hx hb d_M_widenReadPlain_2 rfl (lv_at hl 0 rfl) ?_
                refine lv_if_eq (tgt := 142) hx hb d_M_widenReadPlain_3 (by decide) (fun c_35 => ?_) (fun c_35 => ?_)
                · exact absurd c_35 (by decide)
                · exact ih9_6 _ (by first | omega | (omega)) (mvR e9.2.1 e9.1, mvL e9.2.1, e9.2.2.1 * 256 % 4294967296 + byA is e9.2.2.2, e9.2.2.2 + 1) (k9 - 1) rfl (by rw [hE9, prN_s (by omega) hmv]) (hst.2) (by show e9.2.2.1 * 256 % 4294967296 + byA is e9.2.2.2 < _; omega) (by show e9.2.2.2 + 1 + _ ≤ _; omega) H locs ls (hP.sub [0, 1] rfl) (hD.sub [0, 1] (by decide +kernel) rfl) hS (lv_sub hl [2] rfl)
          · exact absurd c_24 (by decide)
    exact J_6 _ (RR, L, CD, q) 8 rfl (rfl) (plI_0 hp) (hC) (by show q + 8 ≤ _; omega) H locs ls (hP.sub [0, 1] rfl) (hD.sub [0, 1] (by decide +kernel) rfl) hS (lv_sub hl [1] rfl)

