set_option maxHeartbeats 1000000 in
set_option maxRecDepth 100000 in
/-- widenPlain -/
theorem c_M_widenPlain (l : Launch) (dC : Nat → ClassId) (dI : Nat → Nat → Nat) (cI cM cO : ClassId) (sz : Nat) (o : Nat) (g : Nat → Nat) (fForm : Int32) (fShift : Int32) (fModels : Int32) (fItems : Int32) (fEnded : Int32) (fCache : Int32) (fPend : Int32) (fOuts : Int32) (fIns : Int32) (fReads : Int32) (fBad : Int32) (fIR : Int32) (fAsk : Int32) (fBAsk : Int32) (fCode : Int64) (fRL : Int64) (fRR : Int64) (fX : Int64) (fWrites : Int32) (fThrown : Int32) (vGoing : Nat → Int32) (Rg : Nat) (L : Nat) (bs : List Nat) (hp : pOk Rg L) (hG : gIs vGoing bs) (hN9 : bs.length + 5 ≤ 9000) : MetV l y_M_widenPlain (Cond.code y_M_widenPlain prog_14_method_20_code 3 none :: gw) ({ frames := 1, cells := 0, slots := 0, locals := 21 } : Room) (dC, dI) vwCl (kT cI cM cO) [Value.ref o] [(o, Sum.inr (9, mO g fForm fShift fModels fItems fEnded (lN L) (lN Rg) fCache fPend (nI bs.length) fOuts fIns fReads fBad fIR fAsk fBAsk fCode fRL fRR fX fWrites fThrown)), ((g 6), Sum.inl (cI, 9000, Sum.inl vGoing))] sz (fun (u : (Nat → Int32)) => gIs u (plS (Rg, L, bs)).2.2) (fun (u : (Nat → Int32)) => [(o, Sum.inr (9, mO g fForm fShift fModels fItems fEnded (lN (plS (Rg, L, bs)).2.1) (lN (plS (Rg, L, bs)).1) fCache fPend (nI (plS (Rg, L, bs)).2.2.length) fOuts fIns fReads fBad fIR fAsk fBAsk fCode fRL fRR fX fWrites fThrown)), ((g 6), Sum.inl (cI, 9000, Sum.inl u))]) 0 0 := by
  refine my_ofV (cc := prog_14_method_20_code) (n := 3) (ret := none) (by decide) rfl (Nat.le_of_ble_eq_true rfl) ?_
  intro p e s m args below meth c R Q A ls H locs hx hb hr hts hown hlocks hml hnm hR hQ hA hl hP hK hN hD hS
  have hg : ∀ w ∈ gw, w.before args s = true := fun w h => hts w (List.mem_cons_of_mem _ h)
  have hown : s.vm.findClass "RangeCodersModel" = some m.cls := hown
  have hl : lv_has ls 3 [(0, Value.ref o)] := hl
  refine lv_iconst (v := 1) hx hb d_M_widenPlain_0 (by decide) ?_
  refine lv_istore_n (lv' := [(1, Value.int 1), (0, Value.ref o)]) hx hb d_M_widenPlain_1 rfl hl (by decide) rfl (fun ls hl => ?_)
  refine lv_iload_n hx hb d_M_widenPlain_2 rfl (lv_at hl 0 rfl) ?_
  refine lv_if_eq (tgt := 133) hx hb d_M_widenPlain_3 (by decide) (fun c_1 => ?_) (fun c_1 => ?_)
  · exact absurd c_1 (by decide)
  · have J_6 : ∀ (n9_6 : Nat) (e9 : PS) (vK : Nat → Int32) (k9 : Nat) (hn9_6 : k9 = n9_6) (hE9 : plS (Rg, L, bs) = plN k9 e9) (hi9 : plI k9 e9.1 e9.2.1) (hg9 : gIs vK e9.2.2) (hM9 : e9.2.2.length + k9 ≤ 9003) (H : Heap) (locs : List Loc) (ls : Array Slot), va_P (dC, dI) vwCl [(o, Sum.inr (9, mO g fForm fShift fModels fItems fEnded (lN e9.2.1) (lN e9.1) fCache fPend (nI e9.2.2.length) fOuts fIns fReads fBad fIR fAsk fBAsk fCode fRL fRR fX fWrites fThrown)), ((g 6), Sum.inl (cI, 9000, Sum.inl vK))] H → va_D A [(o, Sum.inr (9, mO g fForm fShift fModels fItems fEnded (lN e9.2.1) (lN e9.1) fCache fPend (nI e9.2.2.length) fOuts fIns fReads fBad fIR fAsk fBAsk fCode fRL fRR fX fWrites fThrown)), ((g 6), Sum.inl (cI, 9000, Sum.inl vK))] → va_S A s.heap H locs → lv_has ls 3 [(0, Value.ref o)] → W p l e R s m args below meth c H locs 0 0 Q (F0 m 6 ls []) := by
      intro n9_6
      induction n9_6 using Nat.strongRecOn with
      | ind n9_6 ih9_6 =>
        intro e9 vK k9 hn9_6 hE9 hi9 hg9 hM9 H locs ls hP hD hS hl
        obtain ⟨⟨hL1, hR1, hS1, hS2⟩, hk4, hk8, -⟩ := id hi9
        refine lv_aload_n hx hb d_M_widenPlain_6 rfl (lv_at hl 0 rfl) ?_
        refine va_get (D := (dC, dI)) (ci := 9) (v := .long (lN e9.2.1)) (C := "RangeCodersModel") (T := T_M) (N := 35) hx hb hg in_M hown hK hP 0 rfl rfl 11 (by decide) (hg _ k963) (fun _ h9 => h9) rfl d_M_widenPlain_7 ?_
        refine lv_bipush (v := 24) hx hb d_M_widenPlain_10 (by decide) ?_
        refine lv_lshr hx hb d_M_widenPlain_12 rfl ?_
        refine lv_topl (fun v_2 ev_2 => ?_)
        refine lv_aload_n hx hb d_M_widenPlain_13 rfl (lv_at hl 0 rfl) ?_
        refine va_get (D := (dC, dI)) (ci := 9) (v := .long (lN e9.2.1)) (C := "RangeCodersModel") (T := T_M) (N := 35) hx hb hg in_M hown hK hP 0 rfl rfl 11 (by decide) (hg _ k963) (fun _ h9 => h9) rfl d_M_widenPlain_14 ?_
        refine lv_aload_n hx hb d_M_widenPlain_17 rfl (lv_at hl 0 rfl) ?_
        refine va_get (D := (dC, dI)) (ci := 9) (v := .long (lN e9.1)) (C := "RangeCodersModel") (T := T_M) (N := 35) hx hb hg in_M hown hK hP 0 rfl rfl 12 (by decide) (hg _ k964) (fun _ h9 => h9) rfl d_M_widenPlain_18 ?_
        refine lv_ladd hx hb d_M_widenPlain_21 ?_
        refine lv_topl (fun v_3 ev_3 => ?_)
        refine lv_ldc2 (v := 4294967295) hx hb hown (hg _ k927) d_M_widenPlain_22 ?_
        refine lv_land hx hb d_M_widenPlain_25 ?_
        refine lv_topl (fun v_4 ev_4 => ?_)
        refine lv_bipush (v := 24) hx hb d_M_widenPlain_26 (by decide) ?_
        refine lv_lshr hx hb d_M_widenPlain_28 rfl ?_
        refine lv_topl (fun v_5 ev_5 => ?_)
        have hx9 : v_2 = lN (e9.2.1 / 16777216) := by subst_vars; exact L_shr24 (by omega)
        have hy9 : v_5 = lN ((e9.2.1 + e9.1) % 4294967296 / 16777216) := by subst_vars; rw [lN_add, L_and32 (by omega), L_shr24 (by omega)]
        refine W.lcmp hx hb d_M_widenPlain_29 ?_
        refine lv_if_ne (tgt := 37) hx hb d_M_widenPlain_30 (by decide) (fun c_6 => ?_) (fun c_6 => ?_)
        · rw [lg_cmp_eq] at c_6
          have hsm : ¬ smT e9.2.1 e9.1 := fun z => c_6 (by rw [hx9, hy9]; exact congrArg lN z)
          refine lv_iconst (v := 0) hx hb d_M_widenPlain_37 (by decide) ?_
          refine lv_istore_n (lv' := [(2, Value.int 0), (0, Value.ref o)]) hx hb d_M_widenPlain_38 rfl hl (by decide) rfl (fun ls hl => ?_)
          refine lv_iload_n hx hb d_M_widenPlain_39 rfl (lv_at hl 0 rfl) ?_
          refine lv_if_ne (tgt := 54) hx hb d_M_widenPlain_40 (by decide) (fun c_7 => ?_) (fun c_7 => ?_)
          · exact absurd rfl c_7
          · refine lv_aload_n hx hb d_M_widenPlain_43 rfl (lv_at hl 1 rfl) ?_
            refine va_get (D := (dC, dI)) (ci := 9) (v := .long (lN e9.1)) (C := "RangeCodersModel") (T := T_M) (N := 35) hx hb hg in_M hown hK hP 0 rfl rfl 12 (by decide) (hg _ k964) (fun _ h9 => h9) rfl d_M_widenPlain_44 ?_
            refine lv_ldc2 (v := 65536) hx hb hown (hg _ k1117) d_M_widenPlain_47 ?_
            refine W.lcmp hx hb d_M_widenPlain_50 ?_
            refine lv_if_ge (tgt := 58) hx hb d_M_widenPlain_51 (by decide) (fun c_8 => ?_) (fun c_8 => ?_)
            · rw [lg_cmp_ge] at c_8
              have hge : 65536 ≤ e9.1 := (L_le (a := 65536) (by decide) (by omega)).mp c_8
              have hnm : ¬ mvP e9.2.1 e9.1 := fun z => z.elim (fun z => hsm z) (fun z => by omega)
              refine lv_iconst (v := 0) hx hb d_M_widenPlain_58 (by decide) ?_
              refine lv_istore_n (lv' := [(1, Value.int 0), (2, Value.int 0), (0, Value.ref o)]) hx hb d_M_widenPlain_59 rfl hl (by decide) rfl (fun ls hl => ?_)
              refine lv_iload_n hx hb d_M_widenPlain_60 rfl (lv_at hl 0 rfl) ?_
              refine lv_if_eq (tgt := 130) hx hb d_M_widenPlain_61 (by decide) (fun c_9 => ?_) (fun c_9 => ?_)
              · refine lv_goto (tgt := 2) hx hb d_M_widenPlain_130 (by decide) ?_
                refine lv_iload_n hx hb d_M_widenPlain_2 rfl (lv_at hl 0 rfl) ?_
                refine lv_if_eq (tgt := 133) hx hb d_M_widenPlain_3 (by decide) (fun c_10 => ?_) (fun c_10 => ?_)
                · have z9 : e9 = plS (Rg, L, bs) := by rw [hE9, plN_e hnm]
                  subst z9
                  exact my_vret hx hb hr hlocks hQ hK hS (Nat.le_refl _) (Nat.le_refl _) vK (hg9) (hP.sub [0, 1] rfl) (hD.sub [0, 1] (by decide +kernel) rfl) d_M_widenPlain_133
                · exact absurd (by decide) c_10
              · exact absurd (by decide) c_9
            · rw [lg_cmp_ge] at c_8
              have hlt : e9.1 < 65536 := by
                rcases Nat.lt_or_ge e9.1 65536 with z | z
                · exact z
                · exact absurd ((L_le (a := 65536) (by decide) (by omega)).mpr z) c_8
              refine lv_iconst (v := 1) hx hb d_M_widenPlain_54 (by decide) ?_
              refine lv_goto (tgt := 59) hx hb d_M_widenPlain_55 (by decide) ?_
              refine lv_istore_n (lv' := [(1, Value.int 1), (2, Value.int 0), (0, Value.ref o)]) hx hb d_M_widenPlain_59 rfl hl (by decide) rfl (fun ls hl => ?_)
              refine lv_iload_n hx hb d_M_widenPlain_60 rfl (lv_at hl 0 rfl) ?_
              refine lv_if_eq (tgt := 130) hx hb d_M_widenPlain_61 (by decide) (fun c_11 => ?_) (fun c_11 => ?_)
              · exact absurd c_11 (by decide)
              · have hmv : mvP e9.2.1 e9.1 := Or.inr hlt
                have hst := plI_st hi9 hmv
                have hng : ngL e9.2.1 < 65536 := Nat.mod_lt _ (by decide)
                refine lv_aload_n hx hb d_M_widenPlain_64 rfl (lv_at hl 2 rfl) ?_
                refine lv_iload_n hx hb d_M_widenPlain_65 rfl (lv_at hl 1 rfl) ?_
                refine lv_if_eq (tgt := 76) hx hb d_M_widenPlain_66 (by decide) (fun c_12 => ?_) (fun c_12 => ?_)
                · refine lv_aload_n hx hb d_M_widenPlain_76 rfl (lv_at hl 2 rfl) ?_
                  refine va_get (D := (dC, dI)) (ci := 9) (v := .long (lN e9.2.1)) (C := "RangeCodersModel") (T := T_M) (N := 35) hx hb hg in_M hown hK hP 0 rfl rfl 11 (by decide) (hg _ k963) (fun _ h9 => h9) rfl d_M_widenPlain_77 ?_
                  refine lv_lneg hx hb d_M_widenPlain_80 ?_
                  refine lv_topl (fun v_13 ev_13 => ?_)
                  refine lv_ldc2 (v := 65535) hx hb hown (hg _ k1118) d_M_widenPlain_81 ?_
                  refine lv_land hx hb d_M_widenPlain_84 ?_
                  refine lv_topl (fun v_14 ev_14 => ?_)
                  have z9 : v_14 = lN (ngL e9.2.1) := by subst_vars; exact L_ngA (by omega)
                  subst z9
                  refine va_put (D := (dC, dI)) (ci := 9) (v := .long (lN (ngL e9.2.1))) (ty := .long) (C := "RangeCodersModel") (T := T_M) (N := 35) hx hb hg in_M t_M o_M n_M hown hK hP hD hS 0 rfl rfl 12 (by decide) (hg _ k964) (fun _ h9 => h9) rfl (by decide +kernel) rfl rfl (Nat.le_of_ble_eq_true rfl) d_M_widenPlain_85 (fun H locs hP hD hS => ?_)
                  have hP : va_P (dC, dI) vwCl [(o, Sum.inr (9, mO g fForm fShift fModels fItems fEnded (lN e9.2.1) (lN (ngL e9.2.1)) fCache fPend (nI e9.2.2.length) fOuts fIns fReads fBad fIR fAsk fBAsk fCode fRL fRR fX fWrites fThrown)), ((g 6), Sum.inl (cI, 9000, Sum.inl vK))] H := hP
                  have hD : va_D A [(o, Sum.inr (9, mO g fForm fShift fModels fItems fEnded (lN e9.2.1) (lN (ngL e9.2.1)) fCache fPend (nI e9.2.2.length) fOuts fIns fReads fBad fIR fAsk fBAsk fCode fRL fRR fX fWrites fThrown)), ((g 6), Sum.inl (cI, 9000, Sum.inl vK))] := hD
                  refine lv_aload_n hx hb d_M_widenPlain_88 rfl (lv_at hl 2 rfl) ?_
                  refine lv_aload_n hx hb d_M_widenPlain_89 rfl (lv_at hl 2 rfl) ?_
                  refine va_get (D := (dC, dI)) (ci := 9) (v := .long (lN e9.2.1)) (C := "RangeCodersModel") (T := T_M) (N := 35) hx hb hg in_M hown hK hP 0 rfl rfl 11 (by decide) (hg _ k963) (fun _ h9 => h9) rfl d_M_widenPlain_90 ?_
                  refine lv_bipush (v := 24) hx hb d_M_widenPlain_93 (by decide) ?_
                  refine lv_lshr hx hb d_M_widenPlain_95 rfl ?_
                  refine lv_topl (fun v_15 ev_15 => ?_)
                  refine lv_l2i hx hb d_M_widenPlain_96 rfl ?_
                  refine lv_topi (fun v_16 ev_16 => ?_)
                  have z9 : v_16 = nI (e9.2.1 / 16777216) := by subst_vars; rw [L_shr24 (by omega)]; exact lN_i _
                  subst z9
                  refine my_cv (wr := []) (va_runV (As := [Value.int (nI (e9.2.1 / 16777216))]) (rest := []) ⟨hx, hb, hml, hown, hts⟩ (c_M_write l dC dI cI cM cO H.size o g fForm fShift fModels fItems fEnded (lN e9.2.1) (lN (ngL e9.2.1)) fCache fPend fOuts fIns fReads fBad fIR fAsk fBAsk fCode fRL fRR fX fWrites fThrown vK e9.2.2 (e9.2.1 / 16777216) (hg9) (by omega) (by omega)) (cwV 1 hts (my_gV k1107 k1109 ks32 k12 k1110) rfl rfl rfl (by decide +kernel) ⟨by rw [hR]; exact Nat.le_of_ble_eq_true rfl, by rw [hR]; exact Nat.le_of_ble_eq_true rfl⟩) (my_preV hK hN (hP.sub [0, 1] rfl) (hD.sub [0, 1] (by decide +kernel) rfl) 0 rfl rfl) rfl rfl hl.1 rfl (lv_room (Nat.le_of_ble_eq_true rfl)) d_M_widenPlain_97 ⟨by rw [hR]; exact Nat.le_of_ble_eq_true rfl, by rw [hR]; exact Nat.le_of_ble_eq_true rfl⟩) hP hD hS hA [0, 1] [] rfl rfl (by decide +kernel) (by decide +kernel) (fun u9 H locs hw_97 hP hD hS => ?_)
                  obtain ⟨v2_97, rfl⟩ : ∃ z, z = u9 := ⟨_, rfl⟩
                  have hw_97 : gIs v2_97 (e9.2.2 ++ [(e9.2.1 / 16777216) % 256]) := hw_97
                  have hP : va_P (dC, dI) vwCl [(o, Sum.inr (9, mO g fForm fShift fModels fItems fEnded (lN e9.2.1) (lN (ngL e9.2.1)) fCache fPend (nI (e9.2.2 ++ [(e9.2.1 / 16777216) % 256]).length) fOuts fIns fReads fBad fIR fAsk fBAsk fCode fRL fRR fX fWrites fThrown)), ((g 6), Sum.inl (cI, 9000, Sum.inl v2_97))] H := hP
                  have hD : va_D A [(o, Sum.inr (9, mO g fForm fShift fModels fItems fEnded (lN e9.2.1) (lN (ngL e9.2.1)) fCache fPend (nI (e9.2.2 ++ [(e9.2.1 / 16777216) % 256]).length) fOuts fIns fReads fBad fIR fAsk fBAsk fCode fRL fRR fX fWrites fThrown)), ((g 6), Sum.inl (cI, 9000, Sum.inl v2_97))] := hD
                  refine lv_aload_n hx hb d_M_widenPlain_100 rfl (lv_at hl 2 rfl) ?_
                  refine lv_aload_n hx hb d_M_widenPlain_101 rfl (lv_at hl 2 rfl) ?_
                  refine va_get (D := (dC, dI)) (ci := 9) (v := .long (lN e9.2.1)) (C := "RangeCodersModel") (T := T_M) (N := 35) hx hb hg in_M hown hK hP 0 rfl rfl 11 (by decide) (hg _ k963) (fun _ h9 => h9) rfl d_M_widenPlain_102 ?_
                  refine lv_bipush (v := 8) hx hb d_M_widenPlain_105 (by decide) ?_
                  refine lv_lshl hx hb d_M_widenPlain_107 rfl ?_
                  refine lv_topl (fun v_17 ev_17 => ?_)
                  refine lv_ldc2 (v := 4294967295) hx hb hown (hg _ k927) d_M_widenPlain_108 ?_
                  refine lv_land hx hb d_M_widenPlain_111 ?_
                  refine lv_topl (fun v_18 ev_18 => ?_)
                  have z9 : v_18 = lN (mvL e9.2.1) := by subst_vars; rw [L_shl8, L_and32 (by omega)]; rfl
                  subst z9
                  refine va_put (D := (dC, dI)) (ci := 9) (v := .long (lN (mvL e9.2.1))) (ty := .long) (C := "RangeCodersModel") (T := T_M) (N := 35) hx hb hg in_M t_M o_M n_M hown hK hP hD hS 0 rfl rfl 11 (by decide) (hg _ k963) (fun _ h9 => h9) rfl (by decide +kernel) rfl rfl (Nat.le_of_ble_eq_true rfl) d_M_widenPlain_112 (fun H locs hP hD hS => ?_)
                  have hP : va_P (dC, dI) vwCl [(o, Sum.inr (9, mO g fForm fShift fModels fItems fEnded (lN (mvL e9.2.1)) (lN (ngL e9.2.1)) fCache fPend (nI (e9.2.2 ++ [(e9.2.1 / 16777216) % 256]).length) fOuts fIns fReads fBad fIR fAsk fBAsk fCode fRL fRR fX fWrites fThrown)), ((g 6), Sum.inl (cI, 9000, Sum.inl v2_97))] H := hP
                  have hD : va_D A [(o, Sum.inr (9, mO g fForm fShift fModels fItems fEnded (lN (mvL e9.2.1)) (lN (ngL e9.2.1)) fCache fPend (nI (e9.2.2 ++ [(e9.2.1 / 16777216) % 256]).length) fOuts fIns fReads fBad fIR fAsk fBAsk fCode fRL fRR fX fWrites fThrown)), ((g 6), Sum.inl (cI, 9000, Sum.inl v2_97))] := hD
                  refine lv_aload_n hx hb d_M_widenPlain_115 rfl (lv_at hl 2 rfl) ?_
                  refine lv_aload_n hx hb d_M_widenPlain_116 rfl (lv_at hl 2 rfl) ?_
                  refine va_get (D := (dC, dI)) (ci := 9) (v := .long (lN (ngL e9.2.1))) (C := "RangeCodersModel") (T := T_M) (N := 35) hx hb hg in_M hown hK hP 0 rfl rfl 12 (by decide) (hg _ k964) (fun _ h9 => h9) rfl d_M_widenPlain_117 ?_
                  refine lv_bipush (v := 8) hx hb d_M_widenPlain_120 (by decide) ?_
                  refine lv_lshl hx hb d_M_widenPlain_122 rfl ?_
                  refine lv_topl (fun v_19 ev_19 => ?_)
                  refine lv_ldc2 (v := 4294967295) hx hb hown (hg _ k927) d_M_widenPlain_123 ?_
                  refine lv_land hx hb d_M_widenPlain_126 ?_
                  refine lv_topl (fun v_20 ev_20 => ?_)
                  have z9 : v_20 = lN (mvR e9.2.1 e9.1) := by subst_vars; rw [L_shl8, L_and32 (by omega)]; unfold mvR; rw [if_neg hsm]
                  subst z9
                  refine va_put (D := (dC, dI)) (ci := 9) (v := .long (lN (mvR e9.2.1 e9.1))) (ty := .long) (C := "RangeCodersModel") (T := T_M) (N := 35) hx hb hg in_M t_M o_M n_M hown hK hP hD hS 0 rfl rfl 12 (by decide) (hg _ k964) (fun _ h9 => h9) rfl (by decide +kernel) rfl rfl (Nat.le_of_ble_eq_true rfl) d_M_widenPlain_127 (fun H locs hP hD hS => ?_)
                  have hP : va_P (dC, dI) vwCl [(o, Sum.inr (9, mO g fForm fShift fModels fItems fEnded (lN (mvL e9.2.1)) (lN (mvR e9.2.1 e9.1)) fCache fPend (nI (e9.2.2 ++ [(e9.2.1 / 16777216) % 256]).length) fOuts fIns fReads fBad fIR fAsk fBAsk fCode fRL fRR fX fWrites fThrown)), ((g 6), Sum.inl (cI, 9000, Sum.inl v2_97))] H := hP
                  have hD : va_D A [(o, Sum.inr (9, mO g fForm fShift fModels fItems fEnded (lN (mvL e9.2.1)) (lN (mvR e9.2.1 e9.1)) fCache fPend (nI (e9.2.2 ++ [(e9.2.1 / 16777216) % 256]).length) fOuts fIns fReads fBad fIR fAsk fBAsk fCode fRL fRR fX fWrites fThrown)), ((g 6), Sum.inl (cI, 9000, Sum.inl v2_97))] := hD
                  refine lv_goto (tgt := 2) hx hb d_M_widenPlain_130 (by decide) ?_
                  refine lv_iload_n hx hb d_M_widenPlain_2 rfl (lv_at hl 0 rfl) ?_
                  refine lv_if_eq (tgt := 133) hx hb d_M_widenPlain_3 (by decide) (fun c_21 => ?_) (fun c_21 => ?_)
                  · exact absurd c_21 (by decide)
                  · exact ih9_6 _ (by first | omega | (omega)) (mvR e9.2.1 e9.1, mvL e9.2.1, e9.2.2 ++ [e9.2.1 / 16777216 % 256]) v2_97 (k9 - 1) rfl (by rw [hE9, plN_s (by omega) hmv]) (hst.2) (hw_97) (by show (e9.2.2 ++ [e9.2.1 / 16777216 % 256]).length + _ ≤ _; rw [List.length_append, List.length_singleton]; omega) H locs ls (hP.sub [0, 1] rfl) (hD.sub [0, 1] (by decide +kernel) rfl) hS (lv_sub hl [2] rfl)
                · exact absurd (by decide) c_12
        · rw [lg_cmp_eq] at c_6
          have hsm : smT e9.2.1 e9.1 := (pk_lEQ (by omega) (by omega)).mp (by rw [← hx9, ← hy9]; exact c_6)
          refine lv_iconst (v := 1) hx hb d_M_widenPlain_33 (by decide) ?_
          refine lv_goto (tgt := 38) hx hb d_M_widenPlain_34 (by decide) ?_
          refine lv_istore_n (lv' := [(2, Value.int 1), (0, Value.ref o)]) hx hb d_M_widenPlain_38 rfl hl (by decide) rfl (fun ls hl => ?_)
          refine lv_iload_n hx hb d_M_widenPlain_39 rfl (lv_at hl 0 rfl) ?_
          refine lv_if_ne (tgt := 54) hx hb d_M_widenPlain_40 (by decide) (fun c_22 => ?_) (fun c_22 => ?_)
          · refine lv_iconst (v := 1) hx hb d_M_widenPlain_54 (by decide) ?_
            refine lv_goto (tgt := 59) hx hb d_M_widenPlain_55 (by decide) ?_
            refine lv_istore_n (lv' := [(1, Value.int 1), (2, Value.int 1), (0, Value.ref o)]) hx hb d_M_widenPlain_59 rfl hl (by decide) rfl (fun ls hl => ?_)
            refine lv_iload_n hx hb d_M_widenPlain_60 rfl (lv_at hl 0 rfl) ?_
            refine lv_if_eq (tgt := 130) hx hb d_M_widenPlain_61 (by decide) (fun c_23 => ?_) (fun c_23 => ?_)
            · exact absurd c_23 (by decide)
            · have hmv : mvP e9.2.1 e9.1 := Or.inl hsm
              have hst := plI_st hi9 hmv
              have hng : ngL e9.2.1 < 65536 := Nat.mod_lt _ (by decide)
              refine lv_aload_n hx hb d_M_widenPlain_64 rfl (lv_at hl 2 rfl) ?_
              refine lv_iload_n hx hb d_M_widenPlain_65 rfl (lv_at hl 1 rfl) ?_
              refine lv_if_eq (tgt := 76) hx hb d_M_widenPlain_66 (by decide) (fun c_24 => ?_) (fun c_24 => ?_)
              · exact absurd c_24 (by decide)
              · refine lv_aload_n hx hb d_M_widenPlain_69 rfl (lv_at hl 2 rfl) ?_
                refine va_get (D := (dC, dI)) (ci := 9) (v := .long (lN e9.1)) (C := "RangeCodersModel") (T := T_M) (N := 35) hx hb hg in_M hown hK hP 0 rfl rfl 12 (by decide) (hg _ k964) (fun _ h9 => h9) rfl d_M_widenPlain_70 ?_
                refine lv_goto (tgt := 85) hx hb d_M_widenPlain_73 (by decide) ?_
                refine va_put (D := (dC, dI)) (ci := 9) (v := .long (lN e9.1)) (ty := .long) (C := "RangeCodersModel") (T := T_M) (N := 35) hx hb hg in_M t_M o_M n_M hown hK hP hD hS 0 rfl rfl 12 (by decide) (hg _ k964) (fun _ h9 => h9) rfl (by decide +kernel) rfl rfl (Nat.le_of_ble_eq_true rfl) d_M_widenPlain_85 (fun H locs hP hD hS => ?_)
                have hP : va_P (dC, dI) vwCl [(o, Sum.inr (9, mO g fForm fShift fModels fItems fEnded (lN e9.2.1) (lN e9.1) fCache fPend (nI e9.2.2.length) fOuts fIns fReads fBad fIR fAsk fBAsk fCode fRL fRR fX fWrites fThrown)), ((g 6), Sum.inl (cI, 9000, Sum.inl vK))] H := hP
                have hD : va_D A [(o, Sum.inr (9, mO g fForm fShift fModels fItems fEnded (lN e9.2.1) (lN e9.1) fCache fPend (nI e9.2.2.length) fOuts fIns fReads fBad fIR fAsk fBAsk fCode fRL fRR fX fWrites fThrown)), ((g 6), Sum.inl (cI, 9000, Sum.inl vK))] := hD
                refine lv_aload_n hx hb d_M_widenPlain_88 rfl (lv_at hl 2 rfl) ?_
                refine lv_aload_n hx hb d_M_widenPlain_89 rfl (lv_at hl 2 rfl) ?_
                refine va_get (D := (dC, dI)) (ci := 9) (v := .long (lN e9.2.1)) (C := "RangeCodersModel") (T := T_M) (N := 35) hx hb hg in_M hown hK hP 0 rfl rfl 11 (by decide) (hg _ k963) (fun _ h9 => h9) rfl d_M_widenPlain_90 ?_
                refine lv_bipush (v := 24) hx hb d_M_widenPlain_93 (by decide) ?_
                refine lv_lshr hx hb d_M_widenPlain_95 rfl ?_
                refine lv_topl (fun v_25 ev_25 => ?_)
                refine lv_l2i hx hb d_M_widenPlain_96 rfl ?_
                refine lv_topi (fun v_26 ev_26 => ?_)
                have z9 : v_26 = nI (e9.2.1 / 16777216) := by subst_vars; rw [L_shr24 (by omega)]; exact lN_i _
                subst z9
                refine my_cv (wr := []) (va_runV (As := [Value.int (nI (e9.2.1 / 16777216))]) (rest := []) ⟨hx, hb, hml, hown, hts⟩ (c_M_write l dC dI cI cM cO H.size o g fForm fShift fModels fItems fEnded (lN e9.2.1) (lN e9.1) fCache fPend fOuts fIns fReads fBad fIR fAsk fBAsk fCode fRL fRR fX fWrites fThrown vK e9.2.2 (e9.2.1 / 16777216) (hg9) (by omega) (by omega)) (cwV 1 hts (my_gV k1107 k1109 ks32 k12 k1110) rfl rfl rfl (by decide +kernel) ⟨by rw [hR]; exact Nat.le_of_ble_eq_true rfl, by rw [hR]; exact Nat.le_of_ble_eq_true rfl⟩) (my_preV hK hN (hP.sub [0, 1] rfl) (hD.sub [0, 1] (by decide +kernel) rfl) 0 rfl rfl) rfl rfl hl.1 rfl (lv_room (Nat.le_of_ble_eq_true rfl)) d_M_widenPlain_97 ⟨by rw [hR]; exact Nat.le_of_ble_eq_true rfl, by rw [hR]; exact Nat.le_of_ble_eq_true rfl⟩) hP hD hS hA [0, 1] [] rfl rfl (by decide +kernel) (by decide +kernel) (fun u9 H locs hw_97 hP hD hS => ?_)
                obtain ⟨v2_97, rfl⟩ : ∃ z, z = u9 := ⟨_, rfl⟩
                have hw_97 : gIs v2_97 (e9.2.2 ++ [(e9.2.1 / 16777216) % 256]) := hw_97
                have hP : va_P (dC, dI) vwCl [(o, Sum.inr (9, mO g fForm fShift fModels fItems fEnded (lN e9.2.1) (lN e9.1) fCache fPend (nI (e9.2.2 ++ [(e9.2.1 / 16777216) % 256]).length) fOuts fIns fReads fBad fIR fAsk fBAsk fCode fRL fRR fX fWrites fThrown)), ((g 6), Sum.inl (cI, 9000, Sum.inl v2_97))] H := hP
                have hD : va_D A [(o, Sum.inr (9, mO g fForm fShift fModels fItems fEnded (lN e9.2.1) (lN e9.1) fCache fPend (nI (e9.2.2 ++ [(e9.2.1 / 16777216) % 256]).length) fOuts fIns fReads fBad fIR fAsk fBAsk fCode fRL fRR fX fWrites fThrown)), ((g 6), Sum.inl (cI, 9000, Sum.inl v2_97))] := hD
                refine lv_aload_n hx hb d_M_widenPlain_100 rfl (lv_at hl 2 rfl) ?_
                refine lv_aload_n hx hb d_M_widenPlain_101 rfl (lv_at hl 2 rfl) ?_
                refine va_get (D := (dC, dI)) (ci := 9) (v := .long (lN e9.2.1)) (C := "RangeCodersModel") (T := T_M) (N := 35) hx hb hg in_M hown hK hP 0 rfl rfl 11 (by decide) (hg _ k963) (fun _ h9 => h9) rfl d_M_widenPlain_102 ?_
                refine lv_bipush (v := 8) hx hb d_M_widenPlain_105 (by decide) ?_
                refine lv_lshl hx hb d_M_widenPlain_107 rfl ?_
                refine lv_topl (fun v_27 ev_27 => ?_)
                refine lv_ldc2 (v := 4294967295) hx hb hown (hg _ k927) d_M_widenPlain_108 ?_
                refine lv_land hx hb d_M_widenPlain_111 ?_
                refine lv_topl (fun v_28 ev_28 => ?_)
                have z9 : v_28 = lN (mvL e9.2.1) := by subst_vars; rw [L_shl8, L_and32 (by omega)]; rfl
                subst z9
                refine va_put (D := (dC, dI)) (ci := 9) (v := .long (lN (mvL e9.2.1))) (ty := .long) (C := "RangeCodersModel") (T := T_M) (N := 35) hx hb hg in_M t_M o_M n_M hown hK hP hD hS 0 rfl rfl 11 (by decide) (hg _ k963) (fun _ h9 => h9) rfl (by decide +kernel) rfl rfl (Nat.le_of_ble_eq_true rfl) d_M_widenPlain_112 (fun H locs hP hD hS => ?_)
                have hP : va_P (dC, dI) vwCl [(o, Sum.inr (9, mO g fForm fShift fModels fItems fEnded (lN (mvL e9.2.1)) (lN e9.1) fCache fPend (nI (e9.2.2 ++ [(e9.2.1 / 16777216) % 256]).length) fOuts fIns fReads fBad fIR fAsk fBAsk fCode fRL fRR fX fWrites fThrown)), ((g 6), Sum.inl (cI, 9000, Sum.inl v2_97))] H := hP
                have hD : va_D A [(o, Sum.inr (9, mO g fForm fShift fModels fItems fEnded (lN (mvL e9.2.1)) (lN e9.1) fCache fPend (nI (e9.2.2 ++ [(e9.2.1 / 16777216) % 256]).length) fOuts fIns fReads fBad fIR fAsk fBAsk fCode fRL fRR fX fWrites fThrown)), ((g 6), Sum.inl (cI, 9000, Sum.inl v2_97))] := hD
                refine lv_aload_n hx hb d_M_widenPlain_115 rfl (lv_at hl 2 rfl) ?_
                refine lv_aload_n hx hb d_M_widenPlain_116 rfl (lv_at hl 2 rfl) ?_
                refine va_get (D := (dC, dI)) (ci := 9) (v := .long (lN e9.1)) (C := "RangeCodersModel") (T := T_M) (N := 35) hx hb hg in_M hown hK hP 0 rfl rfl 12 (by decide) (hg _ k964) (fun _ h9 => h9) rfl d_M_widenPlain_117 ?_
                refine lv_bipush (v := 8) hx hb d_M_widenPlain_120 (by decide) ?_
                refine lv_lshl hx hb d_M_widenPlain_122 rfl ?_
                refine lv_topl (fun v_29 ev_29 => ?_)
                refine lv_ldc2 (v := 4294967295) hx hb hown (hg _ k927) d_M_widenPlain_123 ?_
                refine lv_land hx hb d_M_widenPlain_126 ?_
                refine lv_topl (fun v_30 ev_30 => ?_)
                have z9 : v_30 = lN (mvR e9.2.1 e9.1) := by subst_vars; rw [L_shl8, L_and32 (by omega)]; unfold mvR; rw [if_pos hsm]
                subst z9
                refine va_put (D := (dC, dI)) (ci := 9) (v := .long (lN (mvR e9.2.1 e9.1))) (ty := .long) (C := "RangeCodersModel") (T := T_M) (N := 35) hx hb hg in_M t_M o_M n_M hown hK hP hD hS 0 rfl rfl 12 (by decide) (hg _ k964) (fun _ h9 => h9) rfl (by decide +kernel) rfl rfl (Nat.le_of_ble_eq_true rfl) d_M_widenPlain_127 (fun H locs hP hD hS => ?_)
                have hP : va_P (dC, dI) vwCl [(o, Sum.inr (9, mO g fForm fShift fModels fItems fEnded (lN (mvL e9.2.1)) (lN (mvR e9.2.1 e9.1)) fCache fPend (nI (e9.2.2 ++ [(e9.2.1 / 16777216) % 256]).length) fOuts fIns fReads fBad fIR fAsk fBAsk fCode fRL fRR fX fWrites fThrown)), ((g 6), Sum.inl (cI, 9000, Sum.inl v2_97))] H := hP
                have hD : va_D A [(o, Sum.inr (9, mO g fForm fShift fModels fItems fEnded (lN (mvL e9.2.1)) (lN (mvR e9.2.1 e9.1)) fCache fPend (nI (e9.2.2 ++ [(e9.2.1 / 16777216) % 256]).length) fOuts fIns fReads fBad fIR fAsk fBAsk fCode fRL fRR fX fWrites fThrown)), ((g 6), Sum.inl (cI, 9000, Sum.inl v2_97))] := hD
                refine lv_goto (tgt := 2) hx hb d_M_widenPlain_130 (by decide) ?_
                refine lv_iload_n hx hb d_M_widenPlain_2 rfl (lv_at hl 0 rfl) ?_
                refine lv_if_eq (tgt := 133) hx hb d_M_widenPlain_3 (by decide) (fun c_31 => ?_) (fun c_31 => ?_)
                · exact absurd c_31 (by decide)
                · exact ih9_6 _ (by first | omega | (omega)) (mvR e9.2.1 e9.1, mvL e9.2.1, e9.2.2 ++ [e9.2.1 / 16777216 % 256]) v2_97 (k9 - 1) rfl (by rw [hE9, plN_s (by omega) hmv]) (hst.2) (hw_97) (by show (e9.2.2 ++ [e9.2.1 / 16777216 % 256]).length + _ ≤ _; rw [List.length_append, List.length_singleton]; omega) H locs ls (hP.sub [0, 1] rfl) (hD.sub [0, 1] (by decide +kernel) rfl) hS (lv_sub hl [2] rfl)
          · exact absurd c_22 (by decide)
    exact J_6 _ (Rg, L, bs) vGoing 8 rfl (rfl) (plI_0 hp) (hG) (by show bs.length + 8 ≤ _; omega) H locs ls (hP.sub [0, 1] rfl) (hD.sub [0, 1] (by decide +kernel) rfl) hS (lv_sub hl [1] rfl)

