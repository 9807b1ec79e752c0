set_option maxHeartbeats 1000000 in
set_option maxRecDepth 100000 in
/-- plainBits -/
theorem c_M_plainBits (l : Launch) (dC : Nat → ClassId) (dI : Nat → Nat → Nat) (cI cM cO : ClassId) (sz : Nat) (o : Nat) (g : Nat → Nat) (fForm : Int32) (fShift : Int32) (fModels : Int32) (fItems : Int32) (fEnded : Int32) (fLow : Int64) (fRange : Int64) (fCache : Int32) (fPend : Int32) (fGoes : Int32) (fOuts : Int32) (fReads : Int32) (fBad : Int32) (fIR : Int32) (fBAsk : Int32) (fRL : Int64) (fX : Int64) (fWrites : Int32) (fThrown : Int32) (vIn : Nat → Int32) (b : Nat) (RR : Nat) (CD : Nat) (is : List Nat) (q : Nat) (hIn : gIs vIn is) (hlen : is.length ≤ 6000) (hoct : oct is) (hq : q < 800000) (hb2 : b ≤ 12) (hI : rInv (RR, CD, q)) : MetI l y_M_plainBits (Cond.code y_M_plainBits prog_14_method_59_code 5 (some .int) :: gw) ({ frames := 2, cells := 0, slots := 0, locals := 41 } : Room) (dC, dI) vwCl (kT cI cM cO) [Value.ref o, Value.int (nI b)] [(o, Sum.inr (9, mO g fForm fShift fModels fItems fEnded fLow fRange fCache fPend fGoes fOuts (nI is.length) fReads fBad fIR (nI q) fBAsk (lN CD) fRL (lN RR) fX fWrites fThrown)), ((g 8), Sum.inl (cI, 6000, Sum.inl vIn))] sz (fun (r : Int32) (u : Unit) => r = oI (pbS is b (RR, CD, q)).1) (fun (u : Unit) => [(o, Sum.inr (9, mO g fForm fShift fModels fItems fEnded fLow fRange fCache fPend fGoes fOuts (nI is.length) fReads fBad fIR (nI (pbS is b (RR, CD, q)).2.2.2) fBAsk (lN (pbS is b (RR, CD, q)).2.2.1) fRL (lN (pbS is b (RR, CD, q)).2.1) fX fWrites fThrown)), ((g 8), Sum.inl (cI, 6000, Sum.inl vIn))]) 0 0 := by
  refine my_ofI (cc := prog_14_method_59_code) (n := 5) (ret := (some .int)) (by decide) rfl (Nat.le_of_ble_eq_true rfl) ?_
  intro p e s m args below meth c R Q A ls H locs hx hb hr hts hown hlocks hml hnm hR hQ hA hl hP hK hN hD hS
  have hg : ∀ w ∈ gw, w.before args s = true := fun w h => hts w (List.mem_cons_of_mem _ h)
  have hown : s.vm.findClass "RangeCodersModel" = some m.cls := hown
  have hl : lv_has ls 5 [(0, Value.ref o), (1, Value.int (nI b))] := hl
  obtain ⟨hi1, hi2, hi3⟩ := id hI
  simp only at hi1 hi2 hi3
  refine lv_aload_n hx hb d_M_plainBits_0 rfl (lv_at hl 0 rfl) ?_
  refine va_get (D := (dC, dI)) (ci := 9) (v := .long (lN CD)) (C := "RangeCodersModel") (T := T_M) (N := 35) hx hb hg in_M hown hK hP 0 rfl rfl 26 (by decide) (hg _ k978) (fun _ h9 => h9) rfl d_M_plainBits_1 ?_
  refine lv_aload_n hx hb d_M_plainBits_4 rfl (lv_at hl 0 rfl) ?_
  refine va_get (D := (dC, dI)) (ci := 9) (v := .long (lN RR)) (C := "RangeCodersModel") (T := T_M) (N := 35) hx hb hg in_M hown hK hP 0 rfl rfl 28 (by decide) (hg _ k980) (fun _ h9 => h9) rfl d_M_plainBits_5 ?_
  refine W.lcmp hx hb d_M_plainBits_8 ?_
  refine lv_if_lt (tgt := 14) hx hb d_M_plainBits_9 (by decide) (fun c_1 => ?_) (fun c_1 => ?_)
  · rw [lg_cmp_lt] at c_1
    have hlt0 : CD < RR := (L_lt (by omega) (by omega)).mp c_1
    refine lv_iconst (v := 0) hx hb d_M_plainBits_14 (by decide) ?_
    refine lv_istore_n (lv' := [(2, Value.int 0), (0, Value.ref o), (1, Value.int (nI b))]) hx hb d_M_plainBits_15 rfl hl (by decide) rfl (fun ls hl => ?_)
    refine lv_iconst (v := 0) hx hb d_M_plainBits_16 (by decide) ?_
    refine lv_istore_n (lv' := [(3, Value.int 0), (2, Value.int 0), (0, Value.ref o), (1, Value.int (nI b))]) hx hb d_M_plainBits_17 rfl hl (by decide) rfl (fun ls hl => ?_)
    have J_18 : ∀ (n9_18 : Nat) (i9 : Int32) (v9 : Int32) (j : Nat) (vv : Nat) (r9 : RS) (hn9_18 : b - j = n9_18) (hi : i9 = nI j) (hv : v9 = nI vv) (hj : j ≤ b) (hE9 : pbS is b (RR, CD, q) = pbN is (b - j) vv r9) (hI9 : rInv r9) (hq9 : r9.2.2 ≤ q + 3 * j) (hvv : vv < 2 ^ j) (H : Heap) (locs : List Loc) (ls : Array Slot), va_P (dC, dI) vwCl [(o, Sum.inr (9, mO g fForm fShift fModels fItems fEnded fLow fRange fCache fPend fGoes fOuts (nI is.length) fReads fBad fIR (nI r9.2.2) fBAsk (lN r9.2.1) fRL (lN r9.1) fX fWrites fThrown)), ((g 8), Sum.inl (cI, 6000, Sum.inl vIn))] H → va_D A [(o, Sum.inr (9, mO g fForm fShift fModels fItems fEnded fLow fRange fCache fPend fGoes fOuts (nI is.length) fReads fBad fIR (nI r9.2.2) fBAsk (lN r9.2.1) fRL (lN r9.1) fX fWrites fThrown)), ((g 8), Sum.inl (cI, 6000, Sum.inl vIn))] → va_S A s.heap H locs → lv_has ls 5 [(3, Value.int i9), (2, Value.int v9), (0, Value.ref o), (1, Value.int (nI b))] → W p l e R s m args below meth c H locs 0 0 Q (F0 m 18 ls []) := by
      intro n9_18
      induction n9_18 using Nat.strongRecOn with
      | ind n9_18 ih9_18 =>
        intro i9 v9 j vv r9 hn9_18 hi hv hj hE9 hI9 hq9 hvv H locs ls hP hD hS hl
        obtain ⟨hr1, hr2, hr3⟩ := id hI9
        have hp9 : 2 ^ j ≤ 2 ^ 12 := Nat.pow_le_pow_right (by decide) (by omega)
        refine lv_iload_n hx hb d_M_plainBits_18 rfl (lv_at hl 0 rfl) ?_
        refine lv_iload_n hx hb d_M_plainBits_19 rfl (lv_at hl 3 rfl) ?_
        refine lv_icmp_ge (tgt := 109) hx hb d_M_plainBits_20 (by decide) (fun c_2 => ?_) (fun c_2 => ?_)
        · have hj3 : j = b := by rw [hi] at c_2; have := (nI_cmp (by omega) (by omega)).mp c_2; omega
          have hxx : pbS is b (RR, CD, q) = (some vv, r9) := by rw [hE9, hj3, Nat.sub_self]; rfl
          refine lv_iload_n hx hb d_M_plainBits_109 rfl (lv_at hl 1 rfl) ?_
          exact my_iret (v := v9) hx hb hr (rfl) hlocks hQ hK hS (Nat.le_refl _) (Nat.le_refl _) () (by rw [hxx]; exact hv) (by rw [hxx]; exact (hP.sub [0, 1] rfl)) (by rw [hxx]; exact (hD.sub [0, 1] (by decide +kernel) rfl)) d_M_plainBits_110
        · have hj2 : j < b := by
            rcases Nat.lt_or_ge j b with z | z
            · exact z
            · exact absurd (by rw [hi]; exact nI_le z (by omega)) c_2
          refine lv_aload_n hx hb d_M_plainBits_23 rfl (lv_at hl 2 rfl) ?_
          refine lv_aload_n hx hb d_M_plainBits_24 rfl (lv_at hl 2 rfl) ?_
          refine va_get (D := (dC, dI)) (ci := 9) (v := .long (lN r9.1)) (C := "RangeCodersModel") (T := T_M) (N := 35) hx hb hg in_M hown hK hP 0 rfl rfl 28 (by decide) (hg _ k980) (fun _ h9 => h9) rfl d_M_plainBits_25 ?_
          refine lv_iconst (v := 1) hx hb d_M_plainBits_28 (by decide) ?_
          refine lv_lshr hx hb d_M_plainBits_29 rfl ?_
          refine lv_topl (fun v_3 ev_3 => ?_)
          have z9 : v_3 = lN (r9.1 / 2) := by subst_vars; exact L_shr1 (by omega)
          subst z9
          refine va_put (D := (dC, dI)) (ci := 9) (v := .long (lN (r9.1 / 2))) (ty := .long) (C := "RangeCodersModel") (T := T_M) (N := 35) hx hb hg in_M t_M o_M n_M hown hK hP hD hS 0 rfl rfl 28 (by decide) (hg _ k980) (fun _ h9 => h9) rfl (by decide +kernel) rfl rfl (Nat.le_of_ble_eq_true rfl) d_M_plainBits_30 (fun H locs hP hD hS => ?_)
          have hP : va_P (dC, dI) vwCl [(o, Sum.inr (9, mO g fForm fShift fModels fItems fEnded fLow fRange fCache fPend fGoes fOuts (nI is.length) fReads fBad fIR (nI r9.2.2) fBAsk (lN r9.2.1) fRL (lN (r9.1 / 2)) fX fWrites fThrown)), ((g 8), Sum.inl (cI, 6000, Sum.inl vIn))] H := hP
          have hD : va_D A [(o, Sum.inr (9, mO g fForm fShift fModels fItems fEnded fLow fRange fCache fPend fGoes fOuts (nI is.length) fReads fBad fIR (nI r9.2.2) fBAsk (lN r9.2.1) fRL (lN (r9.1 / 2)) fX fWrites fThrown)), ((g 8), Sum.inl (cI, 6000, Sum.inl vIn))] := hD
          refine lv_aload_n hx hb d_M_plainBits_33 rfl (lv_at hl 2 rfl) ?_
          refine va_get (D := (dC, dI)) (ci := 9) (v := .long (lN r9.2.1)) (C := "RangeCodersModel") (T := T_M) (N := 35) hx hb hg in_M hown hK hP 0 rfl rfl 26 (by decide) (hg _ k978) (fun _ h9 => h9) rfl d_M_plainBits_34 ?_
          refine lv_aload_n hx hb d_M_plainBits_37 rfl (lv_at hl 2 rfl) ?_
          refine va_get (D := (dC, dI)) (ci := 9) (v := .long (lN (r9.1 / 2))) (C := "RangeCodersModel") (T := T_M) (N := 35) hx hb hg in_M hown hK hP 0 rfl rfl 28 (by decide) (hg _ k980) (fun _ h9 => h9) rfl d_M_plainBits_38 ?_
          refine W.lcmp hx hb d_M_plainBits_41 ?_
          refine lv_if_ge (tgt := 49) hx hb d_M_plainBits_42 (by decide) (fun c_4 => ?_) (fun c_4 => ?_)
          · rw [lg_cmp_ge] at c_4
            have hlt : ¬ r9.2.1 < r9.1 / 2 := by have := (L_le (by omega) (by omega)).mp c_4; omega
            have hcr : crd r9 = r9.2.1 - r9.1 / 2 := by unfold crd; rw [if_neg hlt]
            have hrb : rbt (r9.1 / 2) r9.2.1 = 1 := by unfold rbt; rw [if_neg hlt]
            refine lv_iconst (v := 1) hx hb d_M_plainBits_49 (by decide) ?_
            refine lv_istore (lv' := [(4, Value.int 1), (3, Value.int i9), (2, Value.int v9), (0, Value.ref o), (1, Value.int (nI b))]) hx hb d_M_plainBits_50 hl (by decide) rfl (fun ls hl => ?_)
            refine lv_aload_n hx hb d_M_plainBits_52 rfl (lv_at hl 3 rfl) ?_
            refine lv_iload hx hb d_M_plainBits_53 (lv_at hl 0 rfl) ?_
            refine lv_iconst (v := 1) hx hb d_M_plainBits_55 (by decide) ?_
            refine lv_icmp_ne (tgt := 71) hx hb d_M_plainBits_56 (by decide) (fun c_5 => ?_) (fun c_5 => ?_)
            · exact absurd rfl c_5
            · refine lv_aload_n hx hb d_M_plainBits_59 rfl (lv_at hl 3 rfl) ?_
              refine va_get (D := (dC, dI)) (ci := 9) (v := .long (lN r9.2.1)) (C := "RangeCodersModel") (T := T_M) (N := 35) hx hb hg in_M hown hK hP 0 rfl rfl 26 (by decide) (hg _ k978) (fun _ h9 => h9) rfl d_M_plainBits_60 ?_
              refine lv_aload_n hx hb d_M_plainBits_63 rfl (lv_at hl 3 rfl) ?_
              refine va_get (D := (dC, dI)) (ci := 9) (v := .long (lN (r9.1 / 2))) (C := "RangeCodersModel") (T := T_M) (N := 35) hx hb hg in_M hown hK hP 0 rfl rfl 28 (by decide) (hg _ k980) (fun _ h9 => h9) rfl d_M_plainBits_64 ?_
              refine lv_lsub hx hb d_M_plainBits_67 ?_
              refine lv_topl (fun v_6 ev_6 => ?_)
              refine lv_goto (tgt := 75) hx hb d_M_plainBits_68 (by decide) ?_
              have z9 : v_6 = lN (crd r9) := by subst_vars; rw [hcr]; exact lN_sub (by omega)
              subst z9
              refine va_put (D := (dC, dI)) (ci := 9) (v := .long (lN (crd r9))) (ty := .long) (C := "RangeCodersModel") (T := T_M) (N := 35) hx hb hg in_M t_M o_M n_M hown hK hP hD hS 0 rfl rfl 26 (by decide) (hg _ k978) (fun _ h9 => h9) rfl (by decide +kernel) rfl rfl (Nat.le_of_ble_eq_true rfl) d_M_plainBits_75 (fun H locs hP hD hS => ?_)
              have hP : va_P (dC, dI) vwCl [(o, Sum.inr (9, mO g fForm fShift fModels fItems fEnded fLow fRange fCache fPend fGoes fOuts (nI is.length) fReads fBad fIR (nI r9.2.2) fBAsk (lN (crd r9)) fRL (lN (r9.1 / 2)) fX fWrites fThrown)), ((g 8), Sum.inl (cI, 6000, Sum.inl vIn))] H := hP
              have hD : va_D A [(o, Sum.inr (9, mO g fForm fShift fModels fItems fEnded fLow fRange fCache fPend fGoes fOuts (nI is.length) fReads fBad fIR (nI r9.2.2) fBAsk (lN (crd r9)) fRL (lN (r9.1 / 2)) fX fWrites fThrown)), ((g 8), Sum.inl (cI, 6000, Sum.inl vIn))] := hD
              have hc32 : crd r9 < 4294967296 := by rw [hcr]; omega
              refine lv_aload_n hx hb d_M_plainBits_78 rfl (lv_at hl 3 rfl) ?_
              refine va_get (D := (dC, dI)) (ci := 9) (v := .long (lN (crd r9))) (C := "RangeCodersModel") (T := T_M) (N := 35) hx hb hg in_M hown hK hP 0 rfl rfl 26 (by decide) (hg _ k978) (fun _ h9 => h9) rfl d_M_plainBits_79 ?_
              refine lv_aload_n hx hb d_M_plainBits_82 rfl (lv_at hl 3 rfl) ?_
              refine va_get (D := (dC, dI)) (ci := 9) (v := .long (lN (r9.1 / 2))) (C := "RangeCodersModel") (T := T_M) (N := 35) hx hb hg in_M hown hK hP 0 rfl rfl 28 (by decide) (hg _ k980) (fun _ h9 => h9) rfl d_M_plainBits_83 ?_
              refine W.lcmp hx hb d_M_plainBits_86 ?_
              refine lv_if_lt (tgt := 92) hx hb d_M_plainBits_87 (by decide) (fun c_7 => ?_) (fun c_7 => ?_)
              · rw [lg_cmp_lt] at c_7
                have hlt2 : crd r9 < r9.1 / 2 := (L_lt (by omega) (by omega)).mp c_7
                have hwr := wr_inv hoct (r := (r9.1 / 2, crd r9, r9.2.2)) (by show 0 < r9.1 / 2; omega) (by show r9.1 / 2 < _; omega) hc32
                refine lv_iconst (v := 2) hx hb d_M_plainBits_92 (by decide) ?_
                refine lv_iload_n hx hb d_M_plainBits_93 rfl (lv_at hl 2 rfl) ?_
                refine lv_imul hx hb d_M_plainBits_94 ?_
                refine lv_topi (fun v_8 ev_8 => ?_)
                refine lv_iload hx hb d_M_plainBits_95 (lv_at hl 0 rfl) ?_
                refine lv_iadd hx hb d_M_plainBits_97 ?_
                refine lv_topi (fun v_9 ev_9 => ?_)
                have hvn : v_9 = nI (2 * vv + rbt (r9.1 / 2) r9.2.1) := by subst_vars; rw [hrb, show (2 : Int32) * nI vv = nI (2 * vv) from pk_mul 2 vv]; exact nI_add (2 * vv) 1
                refine lv_istore_n (lv' := [(2, Value.int v_9), (4, Value.int 1), (3, Value.int i9), (0, Value.ref o), (1, Value.int (nI b))]) hx hb d_M_plainBits_98 rfl hl (by decide) rfl (fun ls hl => ?_)
                refine lv_aload_n hx hb d_M_plainBits_99 rfl (lv_at hl 3 rfl) ?_
                refine my_cv (wr := []) (va_runV (As := []) (rest := []) ⟨hx, hb, hml, hown, hts⟩ (c_M_widenRead l dC dI cI cM cO H.size o g fForm fShift fModels fItems fEnded fLow fRange fCache fPend fGoes fOuts fReads fBad fIR fBAsk fRL fX fWrites fThrown vIn (r9.1 / 2) (crd r9) is r9.2.2 (hIn) (by assumption) (by assumption) (by omega) (by omega) (by omega) (hc32)) (cwV 0 hts (my_gV k1223 k1225 ks51 k12 k1226) rfl rfl rfl (by decide +kernel) ⟨by rw [hR]; exact Nat.le_of_ble_eq_true rfl, by rw [hR]; exact Nat.le_of_ble_eq_true rfl⟩) (my_preV hK hN (hP.sub [0, 1] rfl) (hD.sub [0, 1] (by decide +kernel) rfl) 0 rfl rfl) rfl rfl hl.1 rfl (lv_room (Nat.le_of_ble_eq_true rfl)) d_M_plainBits_100 ⟨by rw [hR]; exact Nat.le_of_ble_eq_true rfl, by rw [hR]; exact Nat.le_of_ble_eq_true rfl⟩) hP hD hS hA [0, 1] [] rfl rfl (by decide +kernel) (by decide +kernel) (fun u9 H locs hw_100 hP hD hS => ?_)
                have hw_100 : True := hw_100
                have hP : va_P (dC, dI) vwCl [(o, Sum.inr (9, mO g fForm fShift fModels fItems fEnded fLow fRange fCache fPend fGoes fOuts (nI is.length) fReads fBad fIR (nI (wrS is ((r9.1 / 2), (crd r9), r9.2.2)).2.2) fBAsk (lN (wrS is ((r9.1 / 2), (crd r9), r9.2.2)).2.1) fRL (lN (wrS is ((r9.1 / 2), (crd r9), r9.2.2)).1) fX fWrites fThrown)), ((g 8), Sum.inl (cI, 6000, Sum.inl vIn))] H := hP
                have hD : va_D A [(o, Sum.inr (9, mO g fForm fShift fModels fItems fEnded fLow fRange fCache fPend fGoes fOuts (nI is.length) fReads fBad fIR (nI (wrS is ((r9.1 / 2), (crd r9), r9.2.2)).2.2) fBAsk (lN (wrS is ((r9.1 / 2), (crd r9), r9.2.2)).2.1) fRL (lN (wrS is ((r9.1 / 2), (crd r9), r9.2.2)).1) fX fWrites fThrown)), ((g 8), Sum.inl (cI, 6000, Sum.inl vIn))] := hD
                obtain ⟨v_10, ev_10⟩ : ∃ y : Int32, y = i9 + (1) := ⟨_, rfl⟩
                refine lv_iinc (v := v_10) (lv' := [(3, Value.int v_10), (2, Value.int v_9), (4, Value.int 1), (0, Value.ref o), (1, Value.int (nI b))]) hx hb d_M_plainBits_103 hl (k := 2) rfl (by rw [ev_10]; rfl) (by decide) rfl (fun ls hl => ?_)
                refine lv_goto (tgt := 18) hx hb d_M_plainBits_106 (by decide) ?_
                exact ih9_18 _ (by first | omega | (omega)) v_10 v_9 (j + 1) (2 * vv + rbt (r9.1 / 2) r9.2.1) (wrS is (r9.1 / 2, crd r9, r9.2.2)) rfl (by subst_vars; exact nI_1 j) (hvn) (by omega) (by rw [hE9, show b - j = (b - (j + 1)) + 1 by omega, pbN, if_pos hlt2]) (hwr.1) (by have := hwr.2.1; simp only at this; omega) (by rw [Nat.pow_succ]; have := rbt_lt (r9.1 / 2) r9.2.1; omega) H locs ls (hP.sub [0, 1] rfl) (hD.sub [0, 1] (by decide +kernel) rfl) hS (lv_sub hl [0, 1, 3, 4] rfl)
              · rw [lg_cmp_lt] at c_7
                have hxx : pbS is b (RR, CD, q) = (none, (r9.1 / 2, crd r9, r9.2.2)) := by
                  rw [hE9, show b - j = (b - (j + 1)) + 1 by omega, pbN, if_neg (fun z => c_7 ((L_lt (by omega) (by omega)).mpr z))]
                refine lv_iconst (v := (-1)) hx hb d_M_plainBits_90 (by decide) ?_
                exact my_iret (v := (-1)) hx hb hr (rfl) hlocks hQ hK hS (Nat.le_refl _) (Nat.le_refl _) () (by rw [hxx]; rfl) (by rw [hxx]; exact (hP.sub [0, 1] rfl)) (by rw [hxx]; exact (hD.sub [0, 1] (by decide +kernel) rfl)) d_M_plainBits_91
          · rw [lg_cmp_ge] at c_4
            have hlt : r9.2.1 < r9.1 / 2 := by
              rcases Nat.lt_or_ge r9.2.1 (r9.1 / 2) with z | z
              · exact z
              · exact absurd ((L_le (by omega) (by omega)).mpr z) c_4
            have hcr : crd r9 = r9.2.1 := by unfold crd; rw [if_pos hlt]
            have hrb : rbt (r9.1 / 2) r9.2.1 = 0 := by unfold rbt; rw [if_pos hlt]
            refine lv_iconst (v := 0) hx hb d_M_plainBits_45 (by decide) ?_
            refine lv_goto (tgt := 50) hx hb d_M_plainBits_46 (by decide) ?_
            refine lv_istore (lv' := [(4, Value.int 0), (3, Value.int i9), (2, Value.int v9), (0, Value.ref o), (1, Value.int (nI b))]) hx hb d_M_plainBits_50 hl (by decide) rfl (fun ls hl => ?_)
            refine lv_aload_n hx hb d_M_plainBits_52 rfl (lv_at hl 3 rfl) ?_
            refine lv_iload hx hb d_M_plainBits_53 (lv_at hl 0 rfl) ?_
            refine lv_iconst (v := 1) hx hb d_M_plainBits_55 (by decide) ?_
            refine lv_icmp_ne (tgt := 71) hx hb d_M_plainBits_56 (by decide) (fun c_11 => ?_) (fun c_11 => ?_)
            · refine lv_aload_n hx hb d_M_plainBits_71 rfl (lv_at hl 3 rfl) ?_
              refine va_get (D := (dC, dI)) (ci := 9) (v := .long (lN r9.2.1)) (C := "RangeCodersModel") (T := T_M) (N := 35) hx hb hg in_M hown hK hP 0 rfl rfl 26 (by decide) (hg _ k978) (fun _ h9 => h9) rfl d_M_plainBits_72 ?_
              refine W.eq (g2 := F0 m 75 ls [Value.long (lN (crd r9)), Value.ref o]) (by rw [hcr]) ?_
              refine va_put (D := (dC, dI)) (ci := 9) (v := .long (lN (crd r9))) (ty := .long) (C := "RangeCodersModel") (T := T_M) (N := 35) hx hb hg in_M t_M o_M n_M hown hK hP hD hS 0 rfl rfl 26 (by decide) (hg _ k978) (fun _ h9 => h9) rfl (by decide +kernel) rfl rfl (Nat.le_of_ble_eq_true rfl) d_M_plainBits_75 (fun H locs hP hD hS => ?_)
              have hP : va_P (dC, dI) vwCl [(o, Sum.inr (9, mO g fForm fShift fModels fItems fEnded fLow fRange fCache fPend fGoes fOuts (nI is.length) fReads fBad fIR (nI r9.2.2) fBAsk (lN (crd r9)) fRL (lN (r9.1 / 2)) fX fWrites fThrown)), ((g 8), Sum.inl (cI, 6000, Sum.inl vIn))] H := hP
              have hD : va_D A [(o, Sum.inr (9, mO g fForm fShift fModels fItems fEnded fLow fRange fCache fPend fGoes fOuts (nI is.length) fReads fBad fIR (nI r9.2.2) fBAsk (lN (crd r9)) fRL (lN (r9.1 / 2)) fX fWrites fThrown)), ((g 8), Sum.inl (cI, 6000, Sum.inl vIn))] := hD
              have hc32 : crd r9 < 4294967296 := by rw [hcr]; omega
              refine lv_aload_n hx hb d_M_plainBits_78 rfl (lv_at hl 3 rfl) ?_
              refine va_get (D := (dC, dI)) (ci := 9) (v := .long (lN (crd r9))) (C := "RangeCodersModel") (T := T_M) (N := 35) hx hb hg in_M hown hK hP 0 rfl rfl 26 (by decide) (hg _ k978) (fun _ h9 => h9) rfl d_M_plainBits_79 ?_
              refine lv_aload_n hx hb d_M_plainBits_82 rfl (lv_at hl 3 rfl) ?_
              refine va_get (D := (dC, dI)) (ci := 9) (v := .long (lN (r9.1 / 2))) (C := "RangeCodersModel") (T := T_M) (N := 35) hx hb hg in_M hown hK hP 0 rfl rfl 28 (by decide) (hg _ k980) (fun _ h9 => h9) rfl d_M_plainBits_83 ?_
              refine W.lcmp hx hb d_M_plainBits_86 ?_
              refine lv_if_lt (tgt := 92) hx hb d_M_plainBits_87 (by decide) (fun c_12 => ?_) (fun c_12 => ?_)
              · rw [lg_cmp_lt] at c_12
                have hlt2 : crd r9 < r9.1 / 2 := (L_lt (by omega) (by omega)).mp c_12
                have hwr := wr_inv hoct (r := (r9.1 / 2, crd r9, r9.2.2)) (by show 0 < r9.1 / 2; omega) (by show r9.1 / 2 < _; omega) hc32
                refine lv_iconst (v := 2) hx hb d_M_plainBits_92 (by decide) ?_
                refine lv_iload_n hx hb d_M_plainBits_93 rfl (lv_at hl 2 rfl) ?_
                refine lv_imul hx hb d_M_plainBits_94 ?_
                refine lv_topi (fun v_13 ev_13 => ?_)
                refine lv_iload hx hb d_M_plainBits_95 (lv_at hl 0 rfl) ?_
                refine lv_iadd hx hb d_M_plainBits_97 ?_
                refine lv_topi (fun v_14 ev_14 => ?_)
                have hvn : v_14 = nI (2 * vv + rbt (r9.1 / 2) r9.2.1) := by subst_vars; rw [hrb, show (2 : Int32) * nI vv = nI (2 * vv) from pk_mul 2 vv]; exact nI_add (2 * vv) 0
                refine lv_istore_n (lv' := [(2, Value.int v_14), (4, Value.int 0), (3, Value.int i9), (0, Value.ref o), (1, Value.int (nI b))]) hx hb d_M_plainBits_98 rfl hl (by decide) rfl (fun ls hl => ?_)
                refine lv_aload_n hx hb d_M_plainBits_99 rfl (lv_at hl 3 rfl) ?_
                refine my_cv (wr := []) (va_runV (As := []) (rest := []) ⟨hx, hb, hml, hown, hts⟩ (c_M_widenRead l dC dI cI cM cO H.size o g fForm fShift fModels fItems fEnded fLow fRange fCache fPend fGoes fOuts fReads fBad fIR fBAsk fRL fX fWrites fThrown vIn (r9.1 / 2) (crd r9) is r9.2.2 (hIn) (by assumption) (by assumption) (by omega) (by omega) (by omega) (hc32)) (cwV 0 hts (my_gV k1223 k1225 ks51 k12 k1226) rfl rfl rfl (by decide +kernel) ⟨by rw [hR]; exact Nat.le_of_ble_eq_true rfl, by rw [hR]; exact Nat.le_of_ble_eq_true rfl⟩) (my_preV hK hN (hP.sub [0, 1] rfl) (hD.sub [0, 1] (by decide +kernel) rfl) 0 rfl rfl) rfl rfl hl.1 rfl (lv_room (Nat.le_of_ble_eq_true rfl)) d_M_plainBits_100 ⟨by rw [hR]; exact Nat.le_of_ble_eq_true rfl, by rw [hR]; exact Nat.le_of_ble_eq_true rfl⟩) hP hD hS hA [0, 1] [] rfl rfl (by decide +kernel) (by decide +kernel) (fun u9 H locs hw_100 hP hD hS => ?_)
                have hw_100 : True := hw_100
                have hP : va_P (dC, dI) vwCl [(o, Sum.inr (9, mO g fForm fShift fModels fItems fEnded fLow fRange fCache fPend fGoes fOuts (nI is.length) fReads fBad fIR (nI (wrS is ((r9.1 / 2), (crd r9), r9.2.2)).2.2) fBAsk (lN (wrS is ((r9.1 / 2), (crd r9), r9.2.2)).2.1) fRL (lN (wrS is ((r9.1 / 2), (crd r9), r9.2.2)).1) fX fWrites fThrown)), ((g 8), Sum.inl (cI, 6000, Sum.inl vIn))] H := hP
                have hD : va_D A [(o, Sum.inr (9, mO g fForm fShift fModels fItems fEnded fLow fRange fCache fPend fGoes fOuts (nI is.length) fReads fBad fIR (nI (wrS is ((r9.1 / 2), (crd r9), r9.2.2)).2.2) fBAsk (lN (wrS is ((r9.1 / 2), (crd r9), r9.2.2)).2.1) fRL (lN (wrS is ((r9.1 / 2), (crd r9), r9.2.2)).1) fX fWrites fThrown)), ((g 8), Sum.inl (cI, 6000, Sum.inl vIn))] := hD
                obtain ⟨v_15, ev_15⟩ : ∃ y : Int32, y = i9 + (1) := ⟨_, rfl⟩
                refine lv_iinc (v := v_15) (lv' := [(3, Value.int v_15), (2, Value.int v_14), (4, Value.int 0), (0, Value.ref o), (1, Value.int (nI b))]) hx hb d_M_plainBits_103 hl (k := 2) rfl (by rw [ev_15]; rfl) (by decide) rfl (fun ls hl => ?_)
                refine lv_goto (tgt := 18) hx hb d_M_plainBits_106 (by decide) ?_
                exact ih9_18 _ (by first | omega | (omega)) v_15 v_14 (j + 1) (2 * vv + rbt (r9.1 / 2) r9.2.1) (wrS is (r9.1 / 2, crd r9, r9.2.2)) rfl (by subst_vars; exact nI_1 j) (hvn) (by omega) (by rw [hE9, show b - j = (b - (j + 1)) + 1 by omega, pbN, if_pos hlt2]) (hwr.1) (by have := hwr.2.1; simp only at this; omega) (by rw [Nat.pow_succ]; have := rbt_lt (r9.1 / 2) r9.2.1; omega) H locs ls (hP.sub [0, 1] rfl) (hD.sub [0, 1] (by decide +kernel) rfl) hS (lv_sub hl [0, 1, 3, 4] rfl)
              · rw [lg_cmp_lt] at c_12
                have hxx : pbS is b (RR, CD, q) = (none, (r9.1 / 2, crd r9, r9.2.2)) := by
                  rw [hE9, show b - j = (b - (j + 1)) + 1 by omega, pbN, if_neg (fun z => c_12 ((L_lt (by omega) (by omega)).mpr z))]
                refine lv_iconst (v := (-1)) hx hb d_M_plainBits_90 (by decide) ?_
                exact my_iret (v := (-1)) hx hb hr (rfl) hlocks hQ hK hS (Nat.le_refl _) (Nat.le_refl _) () (by rw [hxx]; rfl) (by rw [hxx]; exact (hP.sub [0, 1] rfl)) (by rw [hxx]; exact (hD.sub [0, 1] (by decide +kernel) rfl)) d_M_plainBits_91
            · exact absurd c_11 (by decide)
    exact J_18 _ 0 0 0 0 (RR, CD, q) rfl (rfl) (rfl) (Nat.zero_le _) (by unfold pbS; rw [if_pos hlt0]; rfl) (hI) (Nat.le_add_right _ _) (by decide) H locs ls (hP.sub [0, 1] rfl) (hD.sub [0, 1] (by decide +kernel) rfl) hS (lv_sub hl [0, 1, 2, 3] rfl)
  · rw [lg_cmp_lt] at c_1
    have hxx : pbS is b (RR, CD, q) = (none, (RR, CD, q)) := by
      unfold pbS
      rw [if_neg (fun z => c_1 ((L_lt (by omega) (by omega)).mpr z))]
    refine lv_iconst (v := (-1)) hx hb d_M_plainBits_12 (by decide) ?_
    exact my_iret (v := (-1)) hx hb hr (rfl) hlocks hQ hK hS (Nat.le_refl _) (Nat.le_refl _) () (by rw [hxx]; rfl) (by rw [hxx]; exact (hP.sub [0, 1] rfl)) (by rw [hxx]; exact (hD.sub [0, 1] (by decide +kernel) rfl)) d_M_plainBits_13

