set_option maxHeartbeats 1000000 in
set_option maxRecDepth 100000 in
/-- getNode -/
theorem c_M_getNode (l : Launch) (dC : Nat → ClassId) (dI : Nat → Nat → Nat) (cI cM cO : ClassId) (sz : Nat) (o : Nat) (g : Nat → Nat) (fForm : Int32) (fModels : Int32) (fItems : Int32) (fEnded : Int32) (fLow : Int64) (fRange : Int64) (fCache : Int32) (fPend : Int32) (fGoes : Int32) (fOuts : Int32) (fReads : Int32) (fBad : Int32) (fIR : Int32) (fBAsk : Int32) (fRL : Int64) (fX : Int64) (fWrites : Int32) (fThrown : Int32) (vMany : Nat → Int32) (vThen : Nat → Int32) (vIn : Nat → Int32) (mm : Nat) (n : Nat) (sh : Nat) (D : Nat → Nat) (RR : Nat) (CD : Nat) (is : List Nat) (q : Nat) (hmm : mm < 8) (hn : vMany mm = nI n) (hn2 : n ≤ 64) (hn1 : 2 ≤ n) (hIn : gIs vIn is) (hlen : is.length ≤ 6000) (hoct : oct is) (hq : q < 800000) (hf : sgI vThen (64 * mm) 64 D) (hC9 : ∀ k, k < 64 → 1 ≤ D k ∧ D k ≤ 2047) (hs1 : 1 ≤ sh) (hs2 : sh ≤ 10) (hI : rInv (RR, CD, q)) : MetI l y_M_getNode (Cond.code y_M_getNode prog_14_method_51_code 6 (some .int) :: gw) ({ frames := 3, cells := 0, slots := 0, locals := 65 } : Room) (dC, dI) vwCl (kT cI cM cO) [Value.ref o, Value.int (nI mm)] [(o, Sum.inr (9, mO g fForm (nI sh) fModels fItems fEnded fLow fRange fCache fPend fGoes fOuts (nI is.length) fReads fBad fIR (nI q) fBAsk (lN CD) fRL (lN RR) fX fWrites fThrown)), ((g 0), Sum.inl (cI, 8, Sum.inl vMany)), ((g 3), Sum.inl (cI, 512, Sum.inl vThen)), ((g 8), Sum.inl (cI, 6000, Sum.inl vIn))] sz (fun (r : Int32) (u : (Nat → Int32)) => r = oI (gnS is sh n (RR, CD, q) D).1 ∧ sgI u (64 * mm) 64 (gnS is sh n (RR, CD, q) D).2.2 ∧ sgO u vThen (64 * mm) 64) (fun (u : (Nat → Int32)) => [(o, Sum.inr (9, mO g fForm (nI sh) fModels fItems fEnded fLow fRange fCache fPend fGoes fOuts (nI is.length) fReads fBad fIR (nI (gnS is sh n (RR, CD, q) D).2.1.2.2) fBAsk (lN (gnS is sh n (RR, CD, q) D).2.1.2.1) fRL (lN (gnS is sh n (RR, CD, q) D).2.1.1) fX fWrites fThrown)), ((g 0), Sum.inl (cI, 8, Sum.inl vMany)), ((g 3), Sum.inl (cI, 512, Sum.inl u)), ((g 8), Sum.inl (cI, 6000, Sum.inl vIn))]) 0 0 := by
  refine my_ofI (cc := prog_14_method_51_code) (n := 6) (ret := (some .int)) (by decide) rfl (Nat.le_of_ble_eq_true rfl) ?_
  intro p e s m args below meth c R Q A ls H locs hx hb hr hts hown hlocks hml hnm hR hQ hA hl hP hK hN hD hS
  have hg : ∀ w ∈ gw, w.before args s = true := fun w h => hts w (List.mem_cons_of_mem _ h)
  have hown : s.vm.findClass "RangeCodersModel" = some m.cls := hown
  have hl : lv_has ls 6 [(0, Value.ref o), (1, Value.int (nI mm))] := hl
  obtain ⟨hi1, hi2, hi3⟩ := id hI
  simp only at hi1 hi2 hi3
  have hlv : lev n ≤ 6 := by unfold lev; repeat (first | omega | split)
  have hpw : 2 ^ lev n ≤ 2 ^ 6 := Nat.pow_le_pow_right (by decide) hlv
  refine lv_aload_n hx hb d_M_getNode_0 rfl (lv_at hl 0 rfl) ?_
  refine va_get (D := (dC, dI)) (ci := 9) (v := .long (lN CD)) (C := "RangeCodersModel") (T := T_M) (N := 35) hx hb hg in_M hown hK hP 0 rfl rfl 26 (by decide) (hg _ k978) (fun _ h9 => h9) rfl d_M_getNode_1 ?_
  refine lv_aload_n hx hb d_M_getNode_4 rfl (lv_at hl 0 rfl) ?_
  refine va_get (D := (dC, dI)) (ci := 9) (v := .long (lN RR)) (C := "RangeCodersModel") (T := T_M) (N := 35) hx hb hg in_M hown hK hP 0 rfl rfl 28 (by decide) (hg _ k980) (fun _ h9 => h9) rfl d_M_getNode_5 ?_
  refine W.lcmp hx hb d_M_getNode_8 ?_
  refine lv_if_lt (tgt := 14) hx hb d_M_getNode_9 (by decide) (fun c_1 => ?_) (fun c_1 => ?_)
  · rw [lg_cmp_lt] at c_1
    have hlt0 : CD < RR := (L_lt (by omega) (by omega)).mp c_1
    refine lv_iconst (v := 1) hx hb d_M_getNode_14 (by decide) ?_
    refine lv_istore_n (lv' := [(2, Value.int 1), (0, Value.ref o), (1, Value.int (nI mm))]) hx hb d_M_getNode_15 rfl hl (by decide) rfl (fun ls hl => ?_)
    refine lv_aload_n hx hb d_M_getNode_16 rfl (lv_at hl 1 rfl) ?_
    refine lv_iload_n hx hb d_M_getNode_17 rfl (lv_at hl 2 rfl) ?_
    refine my_ci (wr := [((g 3), Sum.inl (cI, 512, Sum.inl vThen)), ((g 8), Sum.inl (cI, 6000, Sum.inl vIn))]) (va_runV (As := [Value.int (nI mm)]) (rest := []) ⟨hx, hb, hml, hown, hts⟩ (c_M_levels l dC dI cI cM cO H.size o g fForm (nI sh) fModels fItems fEnded fLow fRange fCache fPend fGoes fOuts (nI is.length) fReads fBad fIR (nI q) fBAsk (lN CD) fRL (lN RR) fX fWrites fThrown vMany mm n (by assumption) (by assumption) (by assumption)) (cwV 1 hts (my_gV k1123 k1125 ks35 k12 k1126) rfl rfl rfl (by decide +kernel) ⟨by rw [hR]; exact Nat.le_of_ble_eq_true rfl, by rw [hR]; exact Nat.le_of_ble_eq_true rfl⟩) (my_preV hK hN (hP.sub [0, 1] rfl) (hD.sub [0, 1] (by decide +kernel) rfl) 0 rfl rfl) rfl rfl hl.1 rfl (lv_room (Nat.le_of_ble_eq_true rfl)) d_M_getNode_18 ⟨by rw [hR]; exact Nat.le_of_ble_eq_true rfl, by rw [hR]; exact Nat.le_of_ble_eq_true rfl⟩) hP hD hS hA [0, 1] [2, 3] rfl rfl (by decide +kernel) (by decide +kernel) (fun r_18 u9 H locs hw_18 hP hD hS => ?_)
    have hw_18 : r_18 = nI (lev n) := hw_18
    have hP : va_P (dC, dI) vwCl [((g 3), Sum.inl (cI, 512, Sum.inl vThen)), ((g 8), Sum.inl (cI, 6000, Sum.inl vIn)), (o, Sum.inr (9, mO g fForm (nI sh) fModels fItems fEnded fLow fRange fCache fPend fGoes fOuts (nI is.length) fReads fBad fIR (nI q) fBAsk (lN CD) fRL (lN RR) fX fWrites fThrown)), ((g 0), Sum.inl (cI, 8, Sum.inl vMany))] H := hP
    have hD : va_D A [((g 3), Sum.inl (cI, 512, Sum.inl vThen)), ((g 8), Sum.inl (cI, 6000, Sum.inl vIn)), (o, Sum.inr (9, mO g fForm (nI sh) fModels fItems fEnded fLow fRange fCache fPend fGoes fOuts (nI is.length) fReads fBad fIR (nI q) fBAsk (lN CD) fRL (lN RR) fX fWrites fThrown)), ((g 0), Sum.inl (cI, 8, Sum.inl vMany))] := hD
    refine lv_istore_n (lv' := [(3, Value.int r_18), (2, Value.int 1), (0, Value.ref o), (1, Value.int (nI mm))]) hx hb d_M_getNode_21 rfl hl (by decide) rfl (fun ls hl => ?_)
    refine lv_iconst (v := 0) hx hb d_M_getNode_22 (by decide) ?_
    refine lv_istore (lv' := [(4, Value.int 0), (3, Value.int r_18), (2, Value.int 1), (0, Value.ref o), (1, Value.int (nI mm))]) hx hb d_M_getNode_23 hl (by decide) rfl (fun ls hl => ?_)
    have J_25 : ∀ (n9_25 : Nat) (i9 : Int32) (n9v : Int32) (w9 : Int32) (j : Nat) (nd : Nat) (r9 : RS) (D9 : Nat → Nat) (fK : Nat → Int32) (hn9_25 : lev n - j = n9_25) (hi : i9 = nI j) (hnv : n9v = nI nd) (hw9 : w9 = nI (lev n)) (hj : j ≤ lev n) (hE9 : gnN is sh (lev n) 1 (RR, CD, q) D = gnN is sh (lev n - j) nd r9 D9) (hI9 : rInv r9) (hq9 : r9.2.2 ≤ q + 3 * j) (hnd : 2 ^ (lev n - (lev n - j)) ≤ nd ∧ nd < 2 ^ (lev n - (lev n - j) + 1)) (hfK : sgI fK (64 * mm) 64 D9) (hoK : sgO fK vThen (64 * mm) 64) (hD9 : ∀ k, k < 64 → 1 ≤ D9 k ∧ D9 k ≤ 2047) (H : Heap) (locs : List Loc) (ls : Array Slot), va_P (dC, dI) vwCl [((g 3), Sum.inl (cI, 512, Sum.inl fK)), ((g 8), Sum.inl (cI, 6000, Sum.inl vIn)), (o, Sum.inr (9, mO g fForm (nI sh) fModels fItems fEnded fLow fRange fCache fPend fGoes fOuts (nI is.length) fReads fBad fIR (nI r9.2.2) fBAsk (lN r9.2.1) fRL (lN r9.1) fX fWrites fThrown)), ((g 0), Sum.inl (cI, 8, Sum.inl vMany))] H → va_D A [((g 3), Sum.inl (cI, 512, Sum.inl fK)), ((g 8), Sum.inl (cI, 6000, Sum.inl vIn)), (o, Sum.inr (9, mO g fForm (nI sh) fModels fItems fEnded fLow fRange fCache fPend fGoes fOuts (nI is.length) fReads fBad fIR (nI r9.2.2) fBAsk (lN r9.2.1) fRL (lN r9.1) fX fWrites fThrown)), ((g 0), Sum.inl (cI, 8, Sum.inl vMany))] → va_S A s.heap H locs → lv_has ls 6 [(4, Value.int i9), (3, Value.int w9), (2, Value.int n9v), (0, Value.ref o), (1, Value.int (nI mm))] → W p l e R s m args below meth c H locs 0 0 Q (F0 m 25 ls []) := by
      intro n9_25
      induction n9_25 using Nat.strongRecOn with
      | ind n9_25 ih9_25 =>
        intro i9 n9v w9 j nd r9 D9 fK hn9_25 hi hnv hw9 hj hE9 hI9 hq9 hnd hfK hoK hD9 H locs ls hP hD hS hl
        obtain ⟨hr1, hr2, hr3⟩ := id hI9
        have hjj : lev n - (lev n - j) = j := by omega
        refine lv_iload hx hb d_M_getNode_25 (lv_at hl 0 rfl) ?_
        refine lv_iload_n hx hb d_M_getNode_27 rfl (lv_at hl 1 rfl) ?_
        refine lv_icmp_ge (tgt := 72) hx hb d_M_getNode_28 (by decide) (fun c_2 => ?_) (fun c_2 => ?_)
        · have hj3 : j = lev n := by rw [hi, hw9] at c_2; have := (nI_cmp (by omega) (by omega)).mp c_2; omega
          have hz9 : gnN is sh (lev n) 1 (RR, CD, q) D = (nd, r9, D9) := by rw [hE9, hj3, Nat.sub_self]; rfl
          rw [hjj, hj3] at hnd
          have hpp : 2 ^ (lev n + 1) = 2 * 2 ^ lev n := by rw [Nat.pow_succ, Nat.mul_comm]
          refine lv_iload_n hx hb d_M_getNode_72 rfl (lv_at hl 2 rfl) ?_
          refine lv_iconst (v := 1) hx hb d_M_getNode_73 (by decide) ?_
          refine lv_iload_n hx hb d_M_getNode_74 rfl (lv_at hl 1 rfl) ?_
          refine lv_ishl hx hb d_M_getNode_75 ?_
          refine lv_topi (fun v_3 ev_3 => ?_)
          refine lv_isub hx hb d_M_getNode_76 ?_
          refine lv_topi (fun v_4 ev_4 => ?_)
          have z9 : v_4 = nI (nd - 2 ^ lev n) := by subst_vars; rw [shl1 _ (by omega)]; exact pk_sub hnd.1
          subst z9
          refine lv_istore (lv' := [(4, Value.int (nI (nd - 2 ^ lev n))), (3, Value.int w9), (2, Value.int n9v), (0, Value.ref o), (1, Value.int (nI mm))]) hx hb d_M_getNode_77 hl (by decide) rfl (fun ls hl => ?_)
          refine lv_iload hx hb d_M_getNode_79 (lv_at hl 0 rfl) ?_
          refine lv_aload_n hx hb d_M_getNode_81 rfl (lv_at hl 3 rfl) ?_
          refine va_get (D := (dC, dI)) (ci := 9) (v := .ref (g 0)) (C := "RangeCodersModel") (T := T_M) (N := 35) hx hb hg in_M hown hK hP 2 rfl rfl 3 (by decide) (hg _ k955) (fun _ h9 => h9) rfl d_M_getNode_82 ?_
          refine lv_iload_n hx hb d_M_getNode_85 rfl (lv_at hl 4 rfl) ?_
          refine va_iald hx hb hK hP 3 0 rfl rfl (vp_in_nI hmm (by decide)) d_M_getNode_86 ?_
          refine lv_topi (fun v_5 ev_5 => ?_)
          have hmn : v_5 = nI n := by subst_vars; rw [nI_clamp (by omega)]; exact hn
          refine lv_icmp_ge (tgt := 95) hx hb d_M_getNode_87 (by decide) (fun c_6 => ?_) (fun c_6 => ?_)
          · have hls : ¬ nd - 2 ^ lev n < n := by rw [hmn] at c_6; have := (nI_cmp (by omega) (by omega)).mp c_6; omega
            have hxx : gnS is sh n (RR, CD, q) D = (none, r9, D9) := by unfold gnS; rw [if_pos hlt0, hz9, if_neg hls]
            refine lv_iconst (v := (-1)) hx hb d_M_getNode_95 (by decide) ?_
            exact my_iret (v := (-1)) hx hb hr (rfl) hlocks hQ hK hS (Nat.le_refl _) (Nat.le_refl _) fK (by rw [hxx]; exact ⟨rfl, hfK, hoK⟩) (by rw [hxx]; exact (hP.sub [2, 3, 0, 1] rfl)) (by rw [hxx]; exact (hD.sub [2, 3, 0, 1] (by decide +kernel) rfl)) d_M_getNode_96
          · have hls : nd - 2 ^ lev n < n := by
              rcases Nat.lt_or_ge (nd - 2 ^ lev n) n with z | z
              · exact z
              · exact absurd (by rw [hmn]; exact nI_le z (by omega)) c_6
            have hxx : gnS is sh n (RR, CD, q) D = (some (nd - 2 ^ lev n), r9, D9) := by unfold gnS; rw [if_pos hlt0, hz9, if_pos hls]
            refine lv_iload hx hb d_M_getNode_90 (lv_at hl 0 rfl) ?_
            refine lv_goto (tgt := 96) hx hb d_M_getNode_92 (by decide) ?_
            exact my_iret (v := (nI (nd - 2 ^ lev n))) hx hb hr (rfl) hlocks hQ hK hS (Nat.le_refl _) (Nat.le_refl _) fK (by rw [hxx]; exact ⟨rfl, hfK, hoK⟩) (by rw [hxx]; exact (hP.sub [2, 3, 0, 1] rfl)) (by rw [hxx]; exact (hD.sub [2, 3, 0, 1] (by decide +kernel) rfl)) d_M_getNode_96
        · have hj2 : j < lev n := by
            rcases Nat.lt_or_ge j (lev n) with z | z
            · exact z
            · exact absurd (by rw [hi, hw9]; exact nI_le z (by omega)) c_2
          have hnd64 : nd < 64 := Nat.lt_of_lt_of_le hnd.2 (Nat.pow_le_pow_right (n := 2) (by decide) (show lev n - (lev n - j) + 1 ≤ 6 by omega))
          have hdd := hD9 nd hnd64
          have hq1 : 8192 ≤ r9.1 / 2048 := by omega
          have hq2 : r9.1 / 2048 * D9 nd ≤ r9.1 / 2048 * 2047 := Nat.mul_le_mul_left _ hdd.2
          have hq3 : r9.1 / 2048 * 1 ≤ r9.1 / 2048 * D9 nd := Nat.mul_le_mul_left _ hdd.1
          have hrb := rb_ok (CD := r9.2.1) (q := r9.2.2) (show 0 < r9.1 / 2048 * D9 nd by omega) (show r9.1 / 2048 * D9 nd < r9.1 by omega) hr2 hr3
          have hwr := wr_inv hoct hrb.1 hrb.2.1 hrb.2.2.1
          refine lv_bipush (v := 64) hx hb d_M_getNode_31 (by decide) ?_
          refine lv_iload_n hx hb d_M_getNode_33 rfl (lv_at hl 4 rfl) ?_
          refine lv_imul hx hb d_M_getNode_34 ?_
          refine lv_topi (fun v_7 ev_7 => ?_)
          refine lv_iload_n hx hb d_M_getNode_35 rfl (lv_at hl 2 rfl) ?_
          refine lv_iadd hx hb d_M_getNode_36 ?_
          refine lv_topi (fun v_8 ev_8 => ?_)
          have z9 : v_8 = nI (64 * mm + nd) := by subst_vars; exact ix64
          subst z9
          refine lv_istore (lv' := [(5, Value.int (nI (64 * mm + nd))), (4, Value.int i9), (3, Value.int w9), (2, Value.int n9v), (0, Value.ref o), (1, Value.int (nI mm))]) hx hb d_M_getNode_37 hl (by decide) rfl (fun ls hl => ?_)
          refine lv_iconst (v := 2) hx hb d_M_getNode_39 (by decide) ?_
          refine lv_iload_n hx hb d_M_getNode_40 rfl (lv_at hl 3 rfl) ?_
          refine lv_imul hx hb d_M_getNode_41 ?_
          refine lv_topi (fun v_9 ev_9 => ?_)
          refine lv_aload_n hx hb d_M_getNode_42 rfl (lv_at hl 4 rfl) ?_
          refine lv_aload_n hx hb d_M_getNode_43 rfl (lv_at hl 4 rfl) ?_
          refine va_get (D := (dC, dI)) (ci := 9) (v := .long (lN r9.1)) (C := "RangeCodersModel") (T := T_M) (N := 35) hx hb hg in_M hown hK hP 2 rfl rfl 28 (by decide) (hg _ k980) (fun _ h9 => h9) rfl d_M_getNode_44 ?_
          refine lv_bipush (v := 11) hx hb d_M_getNode_47 (by decide) ?_
          refine lv_lshr hx hb d_M_getNode_49 rfl ?_
          refine lv_topl (fun v_10 ev_10 => ?_)
          refine lv_aload_n hx hb d_M_getNode_50 rfl (lv_at hl 4 rfl) ?_
          refine va_get (D := (dC, dI)) (ci := 9) (v := .ref (g 3)) (C := "RangeCodersModel") (T := T_M) (N := 35) hx hb hg in_M hown hK hP 2 rfl rfl 6 (by decide) (hg _ k958) (fun _ h9 => h9) rfl d_M_getNode_51 ?_
          refine lv_iload hx hb d_M_getNode_54 (lv_at hl 0 rfl) ?_
          refine va_iald hx hb hK hP 0 0 rfl rfl (vp_in_nI (by omega) (by decide)) d_M_getNode_56 ?_
          refine lv_topi (fun v_11 ev_11 => ?_)
          refine lv_i2l hx hb d_M_getNode_57 rfl ?_
          refine lv_topl (fun v_12 ev_12 => ?_)
          refine lv_lmul hx hb d_M_getNode_58 ?_
          refine lv_topl (fun v_13 ev_13 => ?_)
          have z9 : v_13 = lN (r9.1 / 2048 * D9 nd) := by subst_vars; rw [L_shr11 (by omega), nI_clamp (by omega), hfK nd hnd64, nI_l (by omega), lN_mul]
          subst z9
          refine lv_iload hx hb d_M_getNode_59 (lv_at hl 0 rfl) ?_
          refine my_ci (wr := [((g 0), Sum.inl (cI, 8, Sum.inl vMany))]) (va_runV (As := [Value.long (lN (r9.1 / 2048 * D9 nd)), Value.int (nI (64 * mm + nd))]) (rest := [Value.int v_9]) ⟨hx, hb, hml, hown, hts⟩ (c_M_readBit l dC dI cI cM cO H.size o g fForm fModels fItems fEnded fLow fRange fCache fPend fGoes fOuts fReads fBad fIR fBAsk fRL fX fWrites fThrown fK vIn (64 * mm + nd) (D9 nd) sh (r9.1 / 2048 * D9 nd) r9.1 r9.2.1 is r9.2.2 (hIn) (by assumption) (by assumption) (by omega) (by omega) (hfK nd hnd64) (by omega) (hs2) (by omega) (by omega) (hr2) (hr3)) (cwV 2 hts (my_gV k1235 k1237 ks54 k12 k1238) rfl rfl rfl (by decide +kernel) ⟨by rw [hR]; exact Nat.le_of_ble_eq_true rfl, by rw [hR]; exact Nat.le_of_ble_eq_true rfl⟩) (my_preV hK hN (hP.sub [2, 0, 1] rfl) (hD.sub [2, 0, 1] (by decide +kernel) rfl) 0 rfl rfl) rfl rfl hl.1 rfl (lv_room (Nat.le_of_ble_eq_true rfl)) d_M_getNode_61 ⟨by rw [hR]; exact Nat.le_of_ble_eq_true rfl, by rw [hR]; exact Nat.le_of_ble_eq_true rfl⟩) hP hD hS hA [2, 0, 1] [3] rfl rfl (by decide +kernel) (by decide +kernel) (fun r_61 u9 H locs hw_61 hP hD hS => ?_)
          obtain ⟨f2_61, rfl⟩ : ∃ z, z = u9 := ⟨_, rfl⟩
          have hw_61 : r_61 = nI (rbt (r9.1 / 2048 * D9 nd) r9.2.1) ∧ f2_61 = upd fK (64 * mm + nd) (nI (mvC sh (rbt (r9.1 / 2048 * D9 nd) r9.2.1) (D9 nd))) := hw_61
          have hP : va_P (dC, dI) vwCl [((g 0), Sum.inl (cI, 8, Sum.inl vMany)), (o, Sum.inr (9, mO g fForm (nI sh) fModels fItems fEnded fLow fRange fCache fPend fGoes fOuts (nI is.length) fReads fBad fIR (nI (wrS is (rbS (r9.1 / 2048 * D9 nd) r9.1 r9.2.1 r9.2.2)).2.2) fBAsk (lN (wrS is (rbS (r9.1 / 2048 * D9 nd) r9.1 r9.2.1 r9.2.2)).2.1) fRL (lN (wrS is (rbS (r9.1 / 2048 * D9 nd) r9.1 r9.2.1 r9.2.2)).1) fX fWrites fThrown)), ((g 3), Sum.inl (cI, 512, Sum.inl f2_61)), ((g 8), Sum.inl (cI, 6000, Sum.inl vIn))] H := hP
          have hD : va_D A [((g 0), Sum.inl (cI, 8, Sum.inl vMany)), (o, Sum.inr (9, mO g fForm (nI sh) fModels fItems fEnded fLow fRange fCache fPend fGoes fOuts (nI is.length) fReads fBad fIR (nI (wrS is (rbS (r9.1 / 2048 * D9 nd) r9.1 r9.2.1 r9.2.2)).2.2) fBAsk (lN (wrS is (rbS (r9.1 / 2048 * D9 nd) r9.1 r9.2.1 r9.2.2)).2.1) fRL (lN (wrS is (rbS (r9.1 / 2048 * D9 nd) r9.1 r9.2.1 r9.2.2)).1) fX fWrites fThrown)), ((g 3), Sum.inl (cI, 512, Sum.inl f2_61)), ((g 8), Sum.inl (cI, 6000, Sum.inl vIn))] := hD
          refine lv_iadd hx hb d_M_getNode_64 ?_
          refine lv_topi (fun v_14 ev_14 => ?_)
          have hvn : v_14 = nI (2 * nd + rbt (r9.1 / 2048 * D9 nd) r9.2.1) := by rw [ev_14, hw_61.1]; subst_vars; rw [show (2 : Int32) * nI nd = nI (2 * nd) from pk_mul 2 nd]; exact nI_add _ _
          refine lv_istore_n (lv' := [(2, Value.int v_14), (5, Value.int (nI (64 * mm + nd))), (4, Value.int i9), (3, Value.int w9), (0, Value.ref o), (1, Value.int (nI mm))]) hx hb d_M_getNode_65 rfl hl (by decide) rfl (fun ls hl => ?_)
          obtain ⟨v_15, ev_15⟩ : ∃ y : Int32, y = i9 + (1) := ⟨_, rfl⟩
          refine lv_iinc (v := v_15) (lv' := [(4, Value.int v_15), (2, Value.int v_14), (5, Value.int (nI (64 * mm + nd))), (3, Value.int w9), (0, Value.ref o), (1, Value.int (nI mm))]) hx hb d_M_getNode_66 hl (k := 2) rfl (by rw [ev_15]; rfl) (by decide) rfl (fun ls hl => ?_)
          refine lv_goto (tgt := 25) hx hb d_M_getNode_69 (by decide) ?_
          exact ih9_25 _ (by first | omega | (omega)) v_15 v_14 w9 (j + 1) (2 * nd + rbt (r9.1 / 2048 * D9 nd) r9.2.1) (wrS is (rbS (r9.1 / 2048 * D9 nd) r9.1 r9.2.1 r9.2.2)) (upN D9 nd (mvC sh (rbt (r9.1 / 2048 * D9 nd) r9.2.1) (D9 nd))) f2_61 rfl (by subst_vars; exact nI_1 j) (hvn) (hw9) (by omega) (by rw [hE9, show lev n - j = (lev n - (j + 1)) + 1 by omega, gnN]) (hwr.1) (by have := hwr.2.1; rw [hrb.2.2.2] at this; omega) (by have z := nd_lo (lv := lev n) (j := lev n - j) (by omega) (by omega) hnd (rbt_lt (r9.1 / 2048 * D9 nd) r9.2.1); rw [show lev n - j - 1 = lev n - (j + 1) by omega] at z; exact z) (by rw [hw_61.2]; exact (sg_up hfK hnd64 rfl rfl).1) (by rw [hw_61.2]; exact sgO_tr (sg_up hfK hnd64 rfl rfl).2 hoK) (ch_up hs1 hD9) H locs ls (hP.sub [2, 3, 1, 0] rfl) (hD.sub [2, 3, 1, 0] (by decide +kernel) rfl) hS (lv_sub hl [0, 3, 1, 4, 5] rfl)
    exact J_25 _ 0 1 r_18 0 1 (RR, CD, q) D vThen rfl (rfl) (rfl) (hw_18) (Nat.zero_le _) (rfl) (hI) (Nat.le_add_right _ _) (by rw [Nat.sub_zero, Nat.sub_self]; decide) (hf) (sgO_rf _ _ _) (hC9) H locs ls (hP.sub [0, 1, 2, 3] rfl) (hD.sub [0, 1, 2, 3] (by decide +kernel) rfl) hS (lv_sub hl [0, 1, 2, 3, 4] rfl)
  · rw [lg_cmp_lt] at c_1
    have hxx : gnS is sh n (RR, CD, q) D = (none, (RR, CD, q), D) := by
      unfold gnS
      rw [if_neg (fun z => c_1 ((L_lt (by omega) (by omega)).mpr z))]
    refine lv_iconst (v := (-1)) hx hb d_M_getNode_12 (by decide) ?_
    exact my_iret (v := (-1)) hx hb hr (rfl) hlocks hQ hK hS (Nat.le_refl _) (Nat.le_refl _) vThen (by rw [hxx]; exact ⟨rfl, hf, sgO_rf _ _ _⟩) (by rw [hxx]; exact (hP.sub [0, 1, 2, 3] rfl)) (by rw [hxx]; exact (hD.sub [0, 1, 2, 3] (by decide +kernel) rfl)) d_M_getNode_13

