section
set_option maxHeartbeats 1000000 in
set_option maxRecDepth 100000 in
/-- plainBits -/
theorem c_M_plainBits (l : Launch) (dC : Nat → ClassId) (dI : Nat → Nat → Nat) (cI cM cO : ClassId) (sz : Nat) (o : Nat) (g : Nat → Nat) (fForm : Int32) (fShift : Int32) (fModels : Int32) (fItems : Int32) (fEnded : Int32) (fLow : Int64) (fRange : Int64) (fCache : Int32) (fPend : Int32) (fGoes : Int32) (fOuts : Int32) (fReads : Int32) (fBad : Int32) (fIR : Int32) (fBAsk : Int32) (fRL : Int64) (fX : Int64) (fWrites : Int32) (fThrown : Int32) (vIn : Nat → Int32) (b : Nat) (RR : Nat) (CD : Nat) (is : List Nat) (q : Nat) (hIn : gIs vIn is) (hlen : is.length ≤ 6000) (hoct : oct is) (hq : q < 800000) (hb2 : b ≤ 12) (hI : rInv (RR, CD, q)) : MetI l y_M_plainBits (Cond.code y_M_plainBits prog_14_method_59_code 5 (some .int) :: gw) ({ frames := 2, cells := 0, slots := 0, locals := 41 } : Room) (dC, dI) vwCl (kT cI cM cO) [Value.ref o, Value.int (nI b)] [(o, Sum.inr (9, mO g fForm fShift fModels fItems fEnded fLow fRange fCache fPend fGoes fOuts (nI is.length) fReads fBad fIR (nI q) fBAsk (lN CD) fRL (lN RR) fX fWrites fThrown)), ((g 8), Sum.inl (cI, 6000, Sum.inl vIn))] sz (fun (r : Int32) (u : Unit) => r = oI (pbS is b (RR, CD, q)).1) (fun (u : Unit) => [(o, Sum.inr (9, mO g fForm fShift fModels fItems fEnded fLow fRange fCache fPend fGoes fOuts (nI is.length) fReads fBad fIR (nI (pbS is b (RR, CD, q)).2.2.2) fBAsk (lN (pbS is b (RR, CD, q)).2.2.1) fRL (lN (pbS is b (RR, CD, q)).2.1) fX fWrites fThrown)), ((g 8), Sum.inl (cI, 6000, Sum.inl vIn))]) 0 0 := by
  refine my_ofI (cc := prog_14_method_59_code) (n := 5) (ret := (some .int)) (by decide) rfl (Nat.le_of_ble_eq_true rfl) ?_
  intro p e s m args below meth c R Q A ls H locs hx hb hr hts hown hlocks hml hnm hR hQ hA hl hP hK hN hD hS
  have hg : ∀ w ∈ gw, w.before args s = true := fun w h => hts w (List.mem_cons_of_mem _ h)
  have hown : s.vm.findClass "RangeCodersModel" = some m.cls := hown
  have hl : lv_has ls 5 [(0, Value.ref o), (1, Value.int (nI b))] := hl
  obtain ⟨hi1, hi2, hi3⟩ := id hI
  simp only at hi1 hi2 hi3
  refine lv_aload_n hx hb d_M_plainBits_0 rfl (lv_at hl 0 rfl) ?_
  refine va_get (D := (dC, dI)) (ci := 9) (v := .long (lN CD)) (C := "RangeCodersModel") (T := T_M) (N := 35) hx hb hg in_M hown hK hP 0 rfl rfl 26 (by decide) (hg _ k978) (fun _ h9 => h9) rfl d_M_plainBits_1 ?_
  refine lv_aload_n hx hb d_M_plainBits_4 rfl (lv_at hl 0 rfl) ?_
  refine va_get (D := (dC, dI)) (ci := 9) (v := .long (lN RR)) (C := "RangeCodersModel") (T := T_M) (N := 35) hx hb hg in_M hown hK hP 0 rfl rfl 28 (by decide) (hg _ k980) (fun _ h9 => h9) rfl d_M_plainBits_5 ?_
  refine W.lcmp hx hb d_M_plainBits_8 ?_
  refine lv_if_lt (tgt := 14) hx hb d_M_plainBits_9 (by decide) (fun c_1 => ?_) (fun c_1 => ?_)
  · rw [lg_cmp_lt] at c_1
    have hlt0 : CD < RR := (L_lt (by omega) (by omega)).mp c_1
    refine lv_iconst (v := 0) hx hb d_M_plainBits_14 (by decide) ?_
    refine lv_istore_n (lv' := [(2, Value.int 0), (0, Value.ref o), (1, Value.int (nI b))]) hx hb d_M_plainBits_15 rfl hl (by decide) rfl (fun ls hl => ?_)
    refine lv_iconst (v := 0) hx hb d_M_plainBits_16 (by decide) ?_
    refine lv_istore_n (lv' := [(3, Value.int 0), (2, Value.int 0), (0, Value.ref o), (1, Value.int (nI b))]) hx hb d_M_plainBits_17 rfl hl (by decide) rfl (fun ls hl => ?_)
    have J_18 : ∀ (n9_18 : Nat) (i9 : Int32) (v9 : Int32) (j : Nat) (vv : Nat) (r9 : RS) (hn9_18 : b - j = n9_18) (hi : i9 = nI j) (hv : v9 = nI vv) (hj : j ≤ b) (hE9 : pbS is b (RR, CD, q) = pbN is (b - j) vv r9) (hI9 : rInv r9) (hq9 : r9.2.2 ≤ q + 3 * j) (hvv : vv < 2 ^ j) (H : Heap) (locs : List Loc) (ls : Array Slot), va_P (dC, dI) vwCl [(o, Sum.inr (9, mO g fForm fShift fModels fItems fEnded fLow fRange fCache fPend fGoes fOuts (nI is.length) fReads fBad fIR (nI r9.2.2) fBAsk (lN r9.2.1) fRL (lN r9.1) fX fWrites fThrown)), ((g 8), Sum.inl (cI, 6000, Sum.inl vIn))] H → va_D A [(o, Sum.inr (9, mO g fForm fShift fModels fItems fEnded fLow fRange fCache fPend fGoes fOuts (nI is.length) fReads fBad fIR (nI r9.2.2) fBAsk (lN r9.2.1) fRL (lN r9.1) fX fWrites fThrown)), ((g 8), Sum.inl (cI, 6000, Sum.inl vIn))] → va_S A s.heap H locs → lv_has ls 5 [(3, Value.int i9), (2, Value.int v9), (0, Value.ref o), (1, Value.int (nI b))] → W p l e R s m args below meth c H locs 0 0 Q (F0 m 18 ls []) := by
      intro n9_18
      induction n9_18 using Nat.strongRecOn with
      | ind n9_18 ih9_18 =>
        intro i9 v9 j vv r9 hn9_18 hi hv hj hE9 hI9 hq9 hvv H locs ls hP hD hS hl
        obtain ⟨hr1, hr2, hr3⟩ := id hI9
        have hp9 : 2 ^ j ≤ 2 ^ 12 := Nat.pow_le_pow_right (by decide) (by omega)
        refine lv_iload_n hx hb d_M_plainBits_18 rfl (lv_at hl 0 rfl) ?_
        refine lv_iload_n hx hb d_M_plainBits_19 rfl (lv_at hl 3 rfl) ?_
        refine lv_icmp_ge (tgt := 109) hx hb d_M_plainBits_20 (by decide) (fun c_2 => ?_) (fun c_2 => ?_)
        · have hj3 : j = b := by rw [hi] at c_2; have := (nI_cmp (by omega) (by omega)).mp c_2; omega
          have hxx : pbS is b (RR, CD, q) = (some vv, r9) := by rw [hE9, hj3, Nat.sub_self]; rfl
          refine lv_iload_n hx hb d_M_plainBits_109 rfl (lv_at hl 1 rfl) ?_
          exact my_iret (v := v9) hx hb hr (rfl) hlocks hQ hK hS (Nat.le_refl _) (Nat.le_refl _) () (by rw [hxx]; exact hv) (by rw [hxx]; exact (hP.sub [0, 1] rfl)) (by rw [hxx]; exact (hD.sub [0, 1] (by decide +kernel) rfl)) d_M_plainBits_110
        · have hj2 : j < b := by
            rcases Nat.lt_or_ge j b with z | z
            · exact z
            · exact absurd (by rw [hi]; exact nI_le z (by omega)) c_2
          refine lv_aload_n hx hb d_M_plainBits_23 rfl (lv_at hl 2 rfl) ?_
          refine lv_aload_n hx hb d_M_plainBits_24 rfl (lv_at hl 2 rfl) ?_
          refine va_get (D := (dC, dI)) (ci := 9) (v := .long (lN r9.1)) (C := "RangeCodersModel") (T := T_M) (N := 35) hx hb hg in_M hown hK hP 0 rfl rfl 28 (by decide) (hg _ k980) (fun _ h9 => h9) rfl d_M_plainBits_25 ?_
          refine lv_iconst (v := 1) hx hb d_M_plainBits_28 (by decide) ?_
          refine lv_lshr hx hb d_M_plainBits_29 rfl ?_
          refine lv_topl (fun v_3 ev_3 => ?_)
          have z9 : v_3 = lN (r9.1 / 2) := by subst_vars; exact L_shr1 (by omega)
          subst z9
          refine va_put (D := (dC, dI)) (ci := 9) (v := .long (lN (r9.1 / 2))) (ty := .long) (C := "RangeCodersModel") (T := T_M) (N := 35) hx hb hg in_M t_M o_M n_M hown hK hP hD hS 0 rfl rfl 28 (by decide) (hg _ k980) (fun _ h9 => h9) rfl (by decide +kernel) rfl rfl (Nat.le_of_ble_eq_true rfl) d_M_plainBits_30 (fun H locs hP hD hS => ?_)
          have hPD : my_PD (dC, dI) vwCl A [(o, Sum.inr (9, mO g fForm fShift fModels fItems fEnded fLow fRange fCache fPend fGoes fOuts (nI is.length) fReads fBad fIR (nI r9.2.2) fBAsk (lN r9.2.1) fRL (lN (r9.1 / 2)) fX fWrites fThrown)), ((g 8), Sum.inl (cI, 6000, Sum.inl vIn))] H := ⟨hP, hD⟩
          have hP := hPD.1
          have hD := hPD.2
          refine lv_aload_n hx hb d_M_plainBits_33 rfl (lv_at hl 2 rfl) ?_
          refine va_get (D := (dC, dI)) (ci := 9) (v := .long (lN r9.2.1)) (C := "RangeCodersModel") (T := T_M) (N := 35) hx hb hg in_M hown hK hP 0 rfl rfl 26 (by decide) (hg _ k978) (fun _ h9 => h9) rfl d_M_plainBits_34 ?_
          refine lv_aload_n hx hb d_M_plainBits_37 rfl (lv_at hl 2 rfl) ?_
          refine va_get (D := (dC, dI)) (ci := 9) (v := .long (lN (r9.1 / 2))) (C := "RangeCodersModel") (T := T_M) (N := 35) hx hb hg in_M hown hK hP 0 rfl rfl 28 (by decide) (hg _ k980) (fun _ h9 => h9) rfl d_M_plainBits_38 ?_
          refine W.lcmp hx hb d_M_plainBits_41 ?_
          refine lv_if_ge (tgt := 49) hx hb d_M_plainBits_42 (by decide) (fun c_4 => ?_) (fun c_4 => ?_)
          · rw [lg_cmp_ge] at c_4
            have hlt : ¬ r9.2.1 < r9.1 / 2 := by have := (L_le (by omega) (by omega)).mp c_4; omega
            have hcr : crd r9 = r9.2.1 - r9.1 / 2 := by unfold crd; rw [if_neg hlt]
            have hrb : rbt (r9.1 / 2) r9.2.1 = 1 := by unfold rbt; rw [if_neg hlt]
            refine lv_iconst (v := 1) hx hb d_M_plainBits_49 (by decide) ?_
            refine lv_istore (lv' := [(4, Value.int 1), (3, Value.int i9), (2, Value.int v9), (0, Value.ref o), (1, Value.int (nI b))]) hx hb d_M_plainBits_50 hl (by decide) rfl (fun ls hl => ?_)
            refine lv_aload_n hx hb d_M_plainBits_52 rfl (lv_at hl 3 rfl) ?_
            refine lv_iload hx hb d_M_plainBits_53 (lv_at hl 0 rfl) ?_
            refine lv_iconst (v := 1) hx hb d_M_plainBits_55 (by decide) ?_
            refine lv_icmp_ne (tgt := 71) hx hb d_M_plainBits_56 (by decide) (fun c_5 => ?_) (fun c_5 => ?_)
            · exact absurd rfl c_5
            · refine lv_aload_n hx hb d_M_plainBits_59 rfl (lv_at hl 3 rfl) ?_
              refine va_get (D := (dC, dI)) (ci := 9) (v := .long (lN r9.2.1)) (C := "RangeCodersModel") (T := T_M) (N := 35) hx hb hg in_M hown hK hP 0 rfl rfl 26 (by decide) (hg _ k978) (fun _ h9 => h9) rfl d_M_plainBits_60 ?_
              refine lv_aload_n hx hb d_M_plainBits_63 rfl (lv_at hl 3 rfl) ?_
              refine va_get (D := (dC, dI)) (ci := 9) (v := .long (lN (r9.1 / 2))) (C := "RangeCodersModel") (T := T_M) (N := 35) hx hb hg in_M hown hK hP 0 rfl rfl 28 (by decide) (hg _ k980) (fun _ h9 => h9) rfl d_M_plainBits_64 ?_
              refine lv_lsub hx hb d_M_plainBits_67 ?_
              refine lv_topl (fun v_6 ev_6 => ?_)
              refine lv_goto (tgt := 75) hx hb d_M_plainBits_68 (by decide) ?_
              have z9 : v_6 = lN (crd r9) := by subst_vars; rw [hcr]; exact lN_sub (by omega)
              subst z9
              refine va_put (D := (dC, dI)) (ci := 9) (v := .long (lN (crd r9))) (ty := .long) (C := "RangeCodersModel") (T := T_M) (N := 35) hx hb hg in_M t_M o_M n_M hown hK hP hD hS 0 rfl rfl 26 (by decide) (hg _ k978) (fun _ h9 => h9) rfl (by decide +kernel) rfl rfl (Nat.le_of_ble_eq_true rfl) d_M_plainBits_75 (fun H locs hP hD hS => ?_)
              have hPD : my_PD (dC, dI) vwCl A [(o, Sum.inr (9, mO g fForm fShift fModels fItems fEnded fLow fRange fCache fPend fGoes fOuts (nI is.length) fReads fBad fIR (nI r9.2.2) fBAsk (lN (crd r9)) fRL (lN (r9.1 / 2)) fX fWrites fThrown)), ((g 8), Sum.inl (cI, 6000, Sum.inl vIn))] H := ⟨hP, hD⟩
              have hP := hPD.1
              have hD := hPD.2
              have hc32 : crd r9 < 4294967296 := by rw [hcr]; omega
              refine lv_aload_n hx hb d_M_plainBits_78 rfl (lv_at hl 3 rfl) ?_
              refine va_get (D := (dC, dI)) (ci := 9) (v := .long (lN (crd r9))) (C := "RangeCodersModel") (T := T_M) (N := 35) hx hb hg in_M hown hK hP 0 rfl rfl 26 (by decide) (hg _ k978) (fun _ h9 => h9) rfl d_M_plainBits_79 ?_
              refine lv_aload_n hx hb d_M_plainBits_82 rfl (lv_at hl 3 rfl) ?_
              refine va_get (D := (dC, dI)) (ci := 9) (v := .long (lN (r9.1 / 2))) (C := "RangeCodersModel") (T := T_M) (N := 35) hx hb hg in_M hown hK hP 0 rfl rfl 28 (by decide) (hg _ k980) (fun _ h9 => h9) rfl d_M_plainBits_83 ?_
              refine W.lcmp hx hb d_M_plainBits_86 ?_
              refine lv_if_lt (tgt := 92) hx hb d_M_plainBits_87 (by decide) (fun c_7 => ?_) (fun c_7 => ?_)
              · rw [lg_cmp_lt] at c_7
                have hlt2 : crd r9 < r9.1 / 2 := (L_lt (by omega) (by omega)).mp c_7
                have hwr := wr_inv hoct (r := (r9.1 / 2, crd r9, r9.2.2)) (by show 0 < r9.1 / 2; omega) (by show r9.1 / 2 < _; omega) hc32
                refine lv_iconst (v := 2) hx hb d_M_plainBits_92 (by decide) ?_
                refine lv_iload_n hx hb d_M_plainBits_93 rfl (lv_at hl 2 rfl) ?_
                refine lv_imul hx hb d_M_plainBits_94 ?_
                refine lv_topi (fun v_8 ev_8 => ?_)
                refine lv_iload hx hb d_M_plainBits_95 (lv_at hl 0 rfl) ?_
                refine lv_iadd hx hb d_M_plainBits_97 ?_
                refine lv_topi (fun v_9 ev_9 => ?_)
                have hvn : v_9 = nI (2 * vv + rbt (r9.1 / 2) r9.2.1) := by subst_vars; rw [hrb, show (2 : Int32) * nI vv = nI (2 * vv) from pk_mul 2 vv]; exact nI_add (2 * vv) 1
                refine lv_istore_n (lv' := [(2, Value.int v_9), (4, Value.int 1), (3, Value.int i9), (0, Value.ref o), (1, Value.int (nI b))]) hx hb d_M_plainBits_98 rfl hl (by decide) rfl (fun ls hl => ?_)
                refine lv_aload_n hx hb d_M_plainBits_99 rfl (lv_at hl 3 rfl) ?_
                refine my_cv (wr := []) (va_runV (As := []) (rest := []) ⟨hx, hb, hml, hown, hts⟩ (c_M_widenRead l dC dI cI cM cO H.size o g fForm fShift fModels fItems fEnded fLow fRange fCache fPend fGoes fOuts fReads fBad fIR fBAsk fRL fX fWrites fThrown vIn (r9.1 / 2) (crd r9) is r9.2.2 (hIn) (by assumption) (by assumption) (by omega) (by omega) (by omega) (hc32)) (cwV 0 hts (my_gV k1223 k1225 ks51 k12 k1226) rfl rfl rfl (by decide +kernel) ⟨by rw [hR]; exact Nat.le_of_ble_eq_true rfl, by rw [hR]; exact Nat.le_of_ble_eq_true rfl⟩) (my_preV hK hN (hP.sub [0, 1] rfl) (hD.sub [0, 1] (by decide +kernel) rfl) 0 rfl rfl) rfl rfl hl.1 rfl (lv_room (Nat.le_of_ble_eq_true rfl)) d_M_plainBits_100 ⟨by rw [hR]; exact Nat.le_of_ble_eq_true rfl, by rw [hR]; exact Nat.le_of_ble_eq_true rfl⟩) hP hD hS hA [0, 1] [] rfl rfl (by decide +kernel) (by decide +kernel) (fun u9 H locs hw_100 hP hD hS => ?_)
                have hw_100 : True := hw_100
                have hPD : my_PD (dC, dI) vwCl A [(o, Sum.inr (9, mO g fForm fShift fModels fItems fEnded fLow fRange fCache fPend fGoes fOuts (nI is.length) fReads fBad fIR (nI (wrS is ((r9.1 / 2), (crd r9), r9.2.2)).2.2) fBAsk (lN (wrS is ((r9.1 / 2), (crd r9), r9.2.2)).2.1) fRL (lN (wrS is ((r9.1 / 2), (crd r9), r9.2.2)).1) fX fWrites fThrown)), ((g 8), Sum.inl (cI, 6000, Sum.inl vIn))] H := ⟨hP, hD⟩
                have hP := hPD.1
                have hD := hPD.2
                obtain ⟨v_10, ev_10⟩ : ∃ y : Int32, y = i9 + (1) := ⟨_, rfl⟩
                refine lv_iinc (v := v_10) (lv' := [(3, Value.int v_10), (2, Value.int v_9), (4, Value.int 1), (0, Value.ref o), (1, Value.int (nI b))]) hx hb d_M_plainBits_103 hl (k := 2) rfl (by rw [ev_10]; rfl) (by decide) rfl (fun ls hl => ?_)
                refine lv_goto (tgt := 18) hx hb d_M_plainBits_106 (by decide) ?_
                exact ih9_18 _ (by first | omega | (omega)) v_10 v_9 (j + 1) (2 * vv + rbt (r9.1 / 2) r9.2.1) (wrS is (r9.1 / 2, crd r9, r9.2.2)) rfl (by subst_vars; exact nI_1 j) (hvn) (by omega) (by rw [hE9, show b - j = (b - (j + 1)) + 1 by omega, pbN, if_pos hlt2]) (hwr.1) (by have := hwr.2.1; simp only at this; omega) (by rw [Nat.pow_succ]; have := rbt_lt (r9.1 / 2) r9.2.1; omega) H locs ls (hP.sub [0, 1] rfl) (hD.sub [0, 1] (by decide +kernel) rfl) hS (lv_sub hl [0, 1, 3, 4] rfl)
              · rw [lg_cmp_lt] at c_7
                have hxx : pbS is b (RR, CD, q) = (none, (r9.1 / 2, crd r9, r9.2.2)) := by
                  rw [hE9, show b - j = (b - (j + 1)) + 1 by omega, pbN, if_neg (fun z => c_7 ((L_lt (by omega) (by omega)).mpr z))]
                refine lv_iconst (v := (-1)) hx hb d_M_plainBits_90 (by decide) ?_
                exact my_iret (v := (-1)) hx hb hr (rfl) hlocks hQ hK hS (Nat.le_refl _) (Nat.le_refl _) () (by rw [hxx]; rfl) (by rw [hxx]; exact (hP.sub [0, 1] rfl)) (by rw [hxx]; exact (hD.sub [0, 1] (by decide +kernel) rfl)) d_M_plainBits_91
          · rw [lg_cmp_ge] at c_4
            have hlt : r9.2.1 < r9.1 / 2 := by
              rcases Nat.lt_or_ge r9.2.1 (r9.1 / 2) with z | z
              · exact z
              · exact absurd ((L_le (by omega) (by omega)).mpr z) c_4
            have hcr : crd r9 = r9.2.1 := by unfold crd; rw [if_pos hlt]
            have hrb : rbt (r9.1 / 2) r9.2.1 = 0 := by unfold rbt; rw [if_pos hlt]
            refine lv_iconst (v := 0) hx hb d_M_plainBits_45 (by decide) ?_
            refine lv_goto (tgt := 50) hx hb d_M_plainBits_46 (by decide) ?_
            refine lv_istore (lv' := [(4, Value.int 0), (3, Value.int i9), (2, Value.int v9), (0, Value.ref o), (1, Value.int (nI b))]) hx hb d_M_plainBits_50 hl (by decide) rfl (fun ls hl => ?_)
            refine lv_aload_n hx hb d_M_plainBits_52 rfl (lv_at hl 3 rfl) ?_
            refine lv_iload hx hb d_M_plainBits_53 (lv_at hl 0 rfl) ?_
            refine lv_iconst (v := 1) hx hb d_M_plainBits_55 (by decide) ?_
            refine lv_icmp_ne (tgt := 71) hx hb d_M_plainBits_56 (by decide) (fun c_11 => ?_) (fun c_11 => ?_)
            · refine lv_aload_n hx hb d_M_plainBits_71 rfl (lv_at hl 3 rfl) ?_
              refine va_get (D := (dC, dI)) (ci := 9) (v := .long (lN r9.2.1)) (C := "RangeCodersModel") (T := T_M) (N := 35) hx hb hg in_M hown hK hP 0 rfl rfl 26 (by decide) (hg _ k978) (fun _ h9 => h9) rfl d_M_plainBits_72 ?_
              refine W.eq (g2 := F0 m 75 ls [Value.long (lN (crd r9)), Value.ref o]) (by rw [hcr]) ?_
              refine va_put (D := (dC, dI)) (ci := 9) (v := .long (lN (crd r9))) (ty := .long) (C := "RangeCodersModel") (T := T_M) (N := 35) hx hb hg in_M t_M o_M n_M hown hK hP hD hS 0 rfl rfl 26 (by decide) (hg _ k978) (fun _ h9 => h9) rfl (by decide +kernel) rfl rfl (Nat.le_of_ble_eq_true rfl) d_M_plainBits_75 (fun H locs hP hD hS => ?_)
              have hPD : my_PD (dC, dI) vwCl A [(o, Sum.inr (9, mO g fForm fShift fModels fItems fEnded fLow fRange fCache fPend fGoes fOuts (nI is.length) fReads fBad fIR (nI r9.2.2) fBAsk (lN (crd r9)) fRL (lN (r9.1 / 2)) fX fWrites fThrown)), ((g 8), Sum.inl (cI, 6000, Sum.inl vIn))] H := ⟨hP, hD⟩
              have hP := hPD.1
              have hD := hPD.2
              have hc32 : crd r9 < 4294967296 := by rw [hcr]; omega
              refine lv_aload_n hx hb d_M_plainBits_78 rfl (lv_at hl 3 rfl) ?_
              refine va_get (D := (dC, dI)) (ci := 9) (v := .long (lN (crd r9))) (C := "RangeCodersModel") (T := T_M) (N := 35) hx hb hg in_M hown hK hP 0 rfl rfl 26 (by decide) (hg _ k978) (fun _ h9 => h9) rfl d_M_plainBits_79 ?_
              refine lv_aload_n hx hb d_M_plainBits_82 rfl (lv_at hl 3 rfl) ?_
              refine va_get (D := (dC, dI)) (ci := 9) (v := .long (lN (r9.1 / 2))) (C := "RangeCodersModel") (T := T_M) (N := 35) hx hb hg in_M hown hK hP 0 rfl rfl 28 (by decide) (hg _ k980) (fun _ h9 => h9) rfl d_M_plainBits_83 ?_
              refine W.lcmp hx hb d_M_plainBits_86 ?_
              refine lv_if_lt (tgt := 92) hx hb d_M_plainBits_87 (by decide) (fun c_12 => ?_) (fun c_12 => ?_)
              · rw [lg_cmp_lt] at c_12
                have hlt2 : crd r9 < r9.1 / 2 := (L_lt (by omega) (by omega)).mp c_12
                have hwr := wr_inv hoct (r := (r9.1 / 2, crd r9, r9.2.2)) (by show 0 < r9.1 / 2; omega) (by show r9.1 / 2 < _; omega) hc32
                refine lv_iconst (v := 2) hx hb d_M_plainBits_92 (by decide) ?_
                refine lv_iload_n hx hb d_M_plainBits_93 rfl (lv_at hl 2 rfl) ?_
                refine lv_imul hx hb d_M_plainBits_94 ?_
                refine lv_topi (fun v_13 ev_13 => ?_)
                refine lv_iload hx hb d_M_plainBits_95 (lv_at hl 0 rfl) ?_
                refine lv_iadd hx hb d_M_plainBits_97 ?_
                refine lv_topi (fun v_14 ev_14 => ?_)
                have hvn : v_14 = nI (2 * vv + rbt (r9.1 / 2) r9.2.1) := by subst_vars; rw [hrb, show (2 : Int32) * nI vv = nI (2 * vv) from pk_mul 2 vv]; exact nI_add (2 * vv) 0
                refine lv_istore_n (lv' := [(2, Value.int v_14), (4, Value.int 0), (3, Value.int i9), (0, Value.ref o), (1, Value.int (nI b))]) hx hb d_M_plainBits_98 rfl hl (by decide) rfl (fun ls hl => ?_)
                refine lv_aload_n hx hb d_M_plainBits_99 rfl (lv_at hl 3 rfl) ?_
                refine my_cv (wr := []) (va_runV (As := []) (rest := []) ⟨hx, hb, hml, hown, hts⟩ (c_M_widenRead l dC dI cI cM cO H.size o g fForm fShift fModels fItems fEnded fLow fRange fCache fPend fGoes fOuts fReads fBad fIR fBAsk fRL fX fWrites fThrown vIn (r9.1 / 2) (crd r9) is r9.2.2 (hIn) (by assumption) (by assumption) (by omega) (by omega) (by omega) (hc32)) (cwV 0 hts (my_gV k1223 k1225 ks51 k12 k1226) rfl rfl rfl (by decide +kernel) ⟨by rw [hR]; exact Nat.le_of_ble_eq_true rfl, by rw [hR]; exact Nat.le_of_ble_eq_true rfl⟩) (my_preV hK hN (hP.sub [0, 1] rfl) (hD.sub [0, 1] (by decide +kernel) rfl) 0 rfl rfl) rfl rfl hl.1 rfl (lv_room (Nat.le_of_ble_eq_true rfl)) d_M_plainBits_100 ⟨by rw [hR]; exact Nat.le_of_ble_eq_true rfl, by rw [hR]; exact Nat.le_of_ble_eq_true rfl⟩) hP hD hS hA [0, 1] [] rfl rfl (by decide +kernel) (by decide +kernel) (fun u9 H locs hw_100 hP hD hS => ?_)
                have hw_100 : True := hw_100
                have hPD : my_PD (dC, dI) vwCl A [(o, Sum.inr (9, mO g fForm fShift fModels fItems fEnded fLow fRange fCache fPend fGoes fOuts (nI is.length) fReads fBad fIR (nI (wrS is ((r9.1 / 2), (crd r9), r9.2.2)).2.2) fBAsk (lN (wrS is ((r9.1 / 2), (crd r9), r9.2.2)).2.1) fRL (lN (wrS is ((r9.1 / 2), (crd r9), r9.2.2)).1) fX fWrites fThrown)), ((g 8), Sum.inl (cI, 6000, Sum.inl vIn))] H := ⟨hP, hD⟩
                have hP := hPD.1
                have hD := hPD.2
                obtain ⟨v_15, ev_15⟩ : ∃ y : Int32, y = i9 + (1) := ⟨_, rfl⟩
                refine lv_iinc (v := v_15) (lv' := [(3, Value.int v_15), (2, Value.int v_14), (4, Value.int 0), (0, Value.ref o), (1, Value.int (nI b))]) hx hb d_M_plainBits_103 hl (k := 2) rfl (by rw [ev_15]; rfl) (by decide) rfl (fun ls hl => ?_)
                refine lv_goto (tgt := 18) hx hb d_M_plainBits_106 (by decide) ?_
                exact ih9_18 _ (by first | omega | (omega)) v_15 v_14 (j + 1) (2 * vv + rbt (r9.1 / 2) r9.2.1) (wrS is (r9.1 / 2, crd r9, r9.2.2)) rfl (by subst_vars; exact nI_1 j) (hvn) (by omega) (by rw [hE9, show b - j = (b - (j + 1)) + 1 by omega, pbN, if_pos hlt2]) (hwr.1) (by have := hwr.2.1; simp only at this; omega) (by rw [Nat.pow_succ]; have := rbt_lt (r9.1 / 2) r9.2.1; omega) H locs ls (hP.sub [0, 1] rfl) (hD.sub [0, 1] (by decide +kernel) rfl) hS (lv_sub hl [0, 1, 3, 4] rfl)
              · rw [lg_cmp_lt] at c_12
                have hxx : pbS is b (RR, CD, q) = (none, (r9.1 / 2, crd r9, r9.2.2)) := by
                  rw [hE9, show b - j = (b - (j + 1)) + 1 by omega, pbN, if_neg (fun z => c_12 ((L_lt (by omega) (by omega)).mpr z))]
                refine lv_iconst (v := (-1)) hx hb d_M_plainBits_90 (by decide) ?_
                exact my_iret (v := (-1)) hx hb hr (rfl) hlocks hQ hK hS (Nat.le_refl _) (Nat.le_refl _) () (by rw [hxx]; rfl) (by rw [hxx]; exact (hP.sub [0, 1] rfl)) (by rw [hxx]; exact (hD.sub [0, 1] (by decide +kernel) rfl)) d_M_plainBits_91
            · exact absurd c_11 (by decide)
    exact J_18 _ 0 0 0 0 (RR, CD, q) rfl (rfl) (rfl) (Nat.zero_le _) (by unfold pbS; rw [if_pos hlt0]; rfl) (hI) (Nat.le_add_right _ _) (by decide) H locs ls (hP.sub [0, 1] rfl) (hD.sub [0, 1] (by decide +kernel) rfl) hS (lv_sub hl [0, 1, 2, 3] rfl)
  · rw [lg_cmp_lt] at c_1
    have hxx : pbS is b (RR, CD, q) = (none, (RR, CD, q)) := by
      unfold pbS
      rw [if_neg (fun z => c_1 ((L_lt (by omega) (by omega)).mpr z))]
    refine lv_iconst (v := (-1)) hx hb d_M_plainBits_12 (by decide) ?_
    exact my_iret (v := (-1)) hx hb hr (rfl) hlocks hQ hK hS (Nat.le_refl _) (Nat.le_refl _) () (by rw [hxx]; rfl) (by rw [hxx]; exact (hP.sub [0, 1] rfl)) (by rw [hxx]; exact (hD.sub [0, 1] (by decide +kernel) rfl)) d_M_plainBits_13
end
section
set_option maxHeartbeats 1000000 in
set_option maxRecDepth 100000 in
/-- getNode -/
theorem c_M_getNode (l : Launch) (dC : Nat → ClassId) (dI : Nat → Nat → Nat) (cI cM cO : ClassId) (sz : Nat) (o : Nat) (g : Nat → Nat) (fForm : Int32) (fModels : Int32) (fItems : Int32) (fEnded : Int32) (fLow : Int64) (fRange : Int64) (fCache : Int32) (fPend : Int32) (fGoes : Int32) (fOuts : Int32) (fReads : Int32) (fBad : Int32) (fIR : Int32) (fBAsk : Int32) (fRL : Int64) (fX : Int64) (fWrites : Int32) (fThrown : Int32) (vMany : Nat → Int32) (vThen : Nat → Int32) (vIn : Nat → Int32) (mm : Nat) (n : Nat) (sh : Nat) (D : Nat → Nat) (RR : Nat) (CD : Nat) (is : List Nat) (q : Nat) (hmm : mm < 8) (hn : vMany mm = nI n) (hn2 : n ≤ 64) (hn1 : 2 ≤ n) (hIn : gIs vIn is) (hlen : is.length ≤ 6000) (hoct : oct is) (hq : q < 800000) (hf : sgI vThen (64 * mm) 64 D) (hC9 : ∀ k, k < 64 → 1 ≤ D k ∧ D k ≤ 2047) (hs1 : 1 ≤ sh) (hs2 : sh ≤ 10) (hI : rInv (RR, CD, q)) : MetI l y_M_getNode (Cond.code y_M_getNode prog_14_method_51_code 6 (some .int) :: gw) ({ frames := 3, cells := 0, slots := 0, locals := 65 } : Room) (dC, dI) vwCl (kT cI cM cO) [Value.ref o, Value.int (nI mm)] [(o, Sum.inr (9, mO g fForm (nI sh) fModels fItems fEnded fLow fRange fCache fPend fGoes fOuts (nI is.length) fReads fBad fIR (nI q) fBAsk (lN CD) fRL (lN RR) fX fWrites fThrown)), ((g 0), Sum.inl (cI, 8, Sum.inl vMany)), ((g 3), Sum.inl (cI, 512, Sum.inl vThen)), ((g 8), Sum.inl (cI, 6000, Sum.inl vIn))] sz (fun (r : Int32) (u : (Nat → Int32)) => r = oI (gnS is sh n (RR, CD, q) D).1 ∧ sgI u (64 * mm) 64 (gnS is sh n (RR, CD, q) D).2.2 ∧ sgO u vThen (64 * mm) 64) (fun (u : (Nat → Int32)) => [(o, Sum.inr (9, mO g fForm (nI sh) fModels fItems fEnded fLow fRange fCache fPend fGoes fOuts (nI is.length) fReads fBad fIR (nI (gnS is sh n (RR, CD, q) D).2.1.2.2) fBAsk (lN (gnS is sh n (RR, CD, q) D).2.1.2.1) fRL (lN (gnS is sh n (RR, CD, q) D).2.1.1) fX fWrites fThrown)), ((g 0), Sum.inl (cI, 8, Sum.inl vMany)), ((g 3), Sum.inl (cI, 512, Sum.inl u)), ((g 8), Sum.inl (cI, 6000, Sum.inl vIn))]) 0 0 := by
  refine my_ofI (cc := prog_14_method_51_code) (n := 6) (ret := (some .int)) (by decide) rfl (Nat.le_of_ble_eq_true rfl) ?_
  intro p e s m args below meth c R Q A ls H locs hx hb hr hts hown hlocks hml hnm hR hQ hA hl hP hK hN hD hS
  have hg : ∀ w ∈ gw, w.before args s = true := fun w h => hts w (List.mem_cons_of_mem _ h)
  have hown : s.vm.findClass "RangeCodersModel" = some m.cls := hown
  have hl : lv_has ls 6 [(0, Value.ref o), (1, Value.int (nI mm))] := hl
  obtain ⟨hi1, hi2, hi3⟩ := id hI
  simp only at hi1 hi2 hi3
  have hlv : lev n ≤ 6 := by unfold lev; repeat (first | omega | split)
  have hpw : 2 ^ lev n ≤ 2 ^ 6 := Nat.pow_le_pow_right (by decide) hlv
  refine lv_aload_n hx hb d_M_getNode_0 rfl (lv_at hl 0 rfl) ?_
  refine va_get (D := (dC, dI)) (ci := 9) (v := .long (lN CD)) (C := "RangeCodersModel") (T := T_M) (N := 35) hx hb hg in_M hown hK hP 0 rfl rfl 26 (by decide) (hg _ k978) (fun _ h9 => h9) rfl d_M_getNode_1 ?_
  refine lv_aload_n hx hb d_M_getNode_4 rfl (lv_at hl 0 rfl) ?_
  refine va_get (D := (dC, dI)) (ci := 9) (v := .long (lN RR)) (C := "RangeCodersModel") (T := T_M) (N := 35) hx hb hg in_M hown hK hP 0 rfl rfl 28 (by decide) (hg _ k980) (fun _ h9 => h9) rfl d_M_getNode_5 ?_
  refine W.lcmp hx hb d_M_getNode_8 ?_
  refine lv_if_lt (tgt := 14) hx hb d_M_getNode_9 (by decide) (fun c_1 => ?_) (fun c_1 => ?_)
  · rw [lg_cmp_lt] at c_1
    have hlt0 : CD < RR := (L_lt (by omega) (by omega)).mp c_1
    refine lv_iconst (v := 1) hx hb d_M_getNode_14 (by decide) ?_
    refine lv_istore_n (lv' := [(2, Value.int 1), (0, Value.ref o), (1, Value.int (nI mm))]) hx hb d_M_getNode_15 rfl hl (by decide) rfl (fun ls hl => ?_)
    refine lv_aload_n hx hb d_M_getNode_16 rfl (lv_at hl 1 rfl) ?_
    refine lv_iload_n hx hb d_M_getNode_17 rfl (lv_at hl 2 rfl) ?_
    refine my_ci (wr := [((g 3), Sum.inl (cI, 512, Sum.inl vThen)), ((g 8), Sum.inl (cI, 6000, Sum.inl vIn))]) (va_runV (As := [Value.int (nI mm)]) (rest := []) ⟨hx, hb, hml, hown, hts⟩ (c_M_levels l dC dI cI cM cO H.size o g fForm (nI sh) fModels fItems fEnded fLow fRange fCache fPend fGoes fOuts (nI is.length) fReads fBad fIR (nI q) fBAsk (lN CD) fRL (lN RR) fX fWrites fThrown vMany mm n (by assumption) (by assumption) (by assumption)) (cwV 1 hts (my_gV k1123 k1125 ks35 k12 k1126) rfl rfl rfl (by decide +kernel) ⟨by rw [hR]; exact Nat.le_of_ble_eq_true rfl, by rw [hR]; exact Nat.le_of_ble_eq_true rfl⟩) (my_preV hK hN (hP.sub [0, 1] rfl) (hD.sub [0, 1] (by decide +kernel) rfl) 0 rfl rfl) rfl rfl hl.1 rfl (lv_room (Nat.le_of_ble_eq_true rfl)) d_M_getNode_18 ⟨by rw [hR]; exact Nat.le_of_ble_eq_true rfl, by rw [hR]; exact Nat.le_of_ble_eq_true rfl⟩) hP hD hS hA [0, 1] [2, 3] rfl rfl (by decide +kernel) (by decide +kernel) (fun r_18 u9 H locs hw_18 hP hD hS => ?_)
    have hw_18 : r_18 = nI (lev n) := hw_18
    have hPD : my_PD (dC, dI) vwCl A [((g 3), Sum.inl (cI, 512, Sum.inl vThen)), ((g 8), Sum.inl (cI, 6000, Sum.inl vIn)), (o, Sum.inr (9, mO g fForm (nI sh) fModels fItems fEnded fLow fRange fCache fPend fGoes fOuts (nI is.length) fReads fBad fIR (nI q) fBAsk (lN CD) fRL (lN RR) fX fWrites fThrown)), ((g 0), Sum.inl (cI, 8, Sum.inl vMany))] H := ⟨hP, hD⟩
    have hP := hPD.1
    have hD := hPD.2
    refine lv_istore_n (lv' := [(3, Value.int r_18), (2, Value.int 1), (0, Value.ref o), (1, Value.int (nI mm))]) hx hb d_M_getNode_21 rfl hl (by decide) rfl (fun ls hl => ?_)
    refine lv_iconst (v := 0) hx hb d_M_getNode_22 (by decide) ?_
    refine lv_istore (lv' := [(4, Value.int 0), (3, Value.int r_18), (2, Value.int 1), (0, Value.ref o), (1, Value.int (nI mm))]) hx hb d_M_getNode_23 hl (by decide) rfl (fun ls hl => ?_)
    have J_25 : ∀ (n9_25 : Nat) (i9 : Int32) (n9v : Int32) (w9 : Int32) (j : Nat) (nd : Nat) (r9 : RS) (D9 : Nat → Nat) (fK : Nat → Int32) (hn9_25 : lev n - j = n9_25) (hi : i9 = nI j) (hnv : n9v = nI nd) (hw9 : w9 = nI (lev n)) (hj : j ≤ lev n) (hE9 : gnN is sh (lev n) 1 (RR, CD, q) D = gnN is sh (lev n - j) nd r9 D9) (hI9 : rInv r9) (hq9 : r9.2.2 ≤ q + 3 * j) (hnd : 2 ^ (lev n - (lev n - j)) ≤ nd ∧ nd < 2 ^ (lev n - (lev n - j) + 1)) (hfK : sgI fK (64 * mm) 64 D9) (hoK : sgO fK vThen (64 * mm) 64) (hD9 : ∀ k, k < 64 → 1 ≤ D9 k ∧ D9 k ≤ 2047) (H : Heap) (locs : List Loc) (ls : Array Slot), va_P (dC, dI) vwCl [((g 3), Sum.inl (cI, 512, Sum.inl fK)), ((g 8), Sum.inl (cI, 6000, Sum.inl vIn)), (o, Sum.inr (9, mO g fForm (nI sh) fModels fItems fEnded fLow fRange fCache fPend fGoes fOuts (nI is.length) fReads fBad fIR (nI r9.2.2) fBAsk (lN r9.2.1) fRL (lN r9.1) fX fWrites fThrown)), ((g 0), Sum.inl (cI, 8, Sum.inl vMany))] H → va_D A [((g 3), Sum.inl (cI, 512, Sum.inl fK)), ((g 8), Sum.inl (cI, 6000, Sum.inl vIn)), (o, Sum.inr (9, mO g fForm (nI sh) fModels fItems fEnded fLow fRange fCache fPend fGoes fOuts (nI is.length) fReads fBad fIR (nI r9.2.2) fBAsk (lN r9.2.1) fRL (lN r9.1) fX fWrites fThrown)), ((g 0), Sum.inl (cI, 8, Sum.inl vMany))] → va_S A s.heap H locs → lv_has ls 6 [(4, Value.int i9), (3, Value.int w9), (2, Value.int n9v), (0, Value.ref o), (1, Value.int (nI mm))] → W p l e R s m args below meth c H locs 0 0 Q (F0 m 25 ls []) := by
      intro n9_25
      induction n9_25 using Nat.strongRecOn with
      | ind n9_25 ih9_25 =>
        intro i9 n9v w9 j nd r9 D9 fK hn9_25 hi hnv hw9 hj hE9 hI9 hq9 hnd hfK hoK hD9 H locs ls hP hD hS hl
        obtain ⟨hr1, hr2, hr3⟩ := id hI9
        have hjj : lev n - (lev n - j) = j := by omega
        refine lv_iload hx hb d_M_getNode_25 (lv_at hl 0 rfl) ?_
        refine lv_iload_n hx hb d_M_getNode_27 rfl (lv_at hl 1 rfl) ?_
        refine lv_icmp_ge (tgt := 72) hx hb d_M_getNode_28 (by decide) (fun c_2 => ?_) (fun c_2 => ?_)
        · have hj3 : j = lev n := by rw [hi, hw9] at c_2; have := (nI_cmp (by omega) (by omega)).mp c_2; omega
          have hz9 : gnN is sh (lev n) 1 (RR, CD, q) D = (nd, r9, D9) := by rw [hE9, hj3, Nat.sub_self]; rfl
          rw [hjj, hj3] at hnd
          have hpp : 2 ^ (lev n + 1) = 2 * 2 ^ lev n := by rw [Nat.pow_succ, Nat.mul_comm]
          refine lv_iload_n hx hb d_M_getNode_72 rfl (lv_at hl 2 rfl) ?_
          refine lv_iconst (v := 1) hx hb d_M_getNode_73 (by decide) ?_
          refine lv_iload_n hx hb d_M_getNode_74 rfl (lv_at hl 1 rfl) ?_
          refine lv_ishl hx hb d_M_getNode_75 ?_
          refine lv_topi (fun v_3 ev_3 => ?_)
          refine lv_isub hx hb d_M_getNode_76 ?_
          refine lv_topi (fun v_4 ev_4 => ?_)
          have z9 : v_4 = nI (nd - 2 ^ lev n) := by subst_vars; rw [shl1 _ (by omega)]; exact pk_sub hnd.1
          subst z9
          refine lv_istore (lv' := [(4, Value.int (nI (nd - 2 ^ lev n))), (3, Value.int w9), (2, Value.int n9v), (0, Value.ref o), (1, Value.int (nI mm))]) hx hb d_M_getNode_77 hl (by decide) rfl (fun ls hl => ?_)
          refine lv_iload hx hb d_M_getNode_79 (lv_at hl 0 rfl) ?_
          refine lv_aload_n hx hb d_M_getNode_81 rfl (lv_at hl 3 rfl) ?_
          refine va_get (D := (dC, dI)) (ci := 9) (v := .ref (g 0)) (C := "RangeCodersModel") (T := T_M) (N := 35) hx hb hg in_M hown hK hP 2 rfl rfl 3 (by decide) (hg _ k955) (fun _ h9 => h9) rfl d_M_getNode_82 ?_
          refine lv_iload_n hx hb d_M_getNode_85 rfl (lv_at hl 4 rfl) ?_
          refine va_iald hx hb hK hP 3 0 rfl rfl (vp_in_nI hmm (by decide)) d_M_getNode_86 ?_
          refine lv_topi (fun v_5 ev_5 => ?_)
          have hmn : v_5 = nI n := by subst_vars; rw [nI_clamp (by omega)]; exact hn
          refine lv_icmp_ge (tgt := 95) hx hb d_M_getNode_87 (by decide) (fun c_6 => ?_) (fun c_6 => ?_)
          · have hls : ¬ nd - 2 ^ lev n < n := by rw [hmn] at c_6; have := (nI_cmp (by omega) (by omega)).mp c_6; omega
            have hxx : gnS is sh n (RR, CD, q) D = (none, r9, D9) := by unfold gnS; rw [if_pos hlt0, hz9, if_neg hls]
            refine lv_iconst (v := (-1)) hx hb d_M_getNode_95 (by decide) ?_
            exact my_iret (v := (-1)) hx hb hr (rfl) hlocks hQ hK hS (Nat.le_refl _) (Nat.le_refl _) fK (by rw [hxx]; exact ⟨rfl, hfK, hoK⟩) (by rw [hxx]; exact (hP.sub [2, 3, 0, 1] rfl)) (by rw [hxx]; exact (hD.sub [2, 3, 0, 1] (by decide +kernel) rfl)) d_M_getNode_96
          · have hls : nd - 2 ^ lev n < n := by
              rcases Nat.lt_or_ge (nd - 2 ^ lev n) n with z | z
              · exact z
              · exact absurd (by rw [hmn]; exact nI_le z (by omega)) c_6
            have hxx : gnS is sh n (RR, CD, q) D = (some (nd - 2 ^ lev n), r9, D9) := by unfold gnS; rw [if_pos hlt0, hz9, if_pos hls]
            refine lv_iload hx hb d_M_getNode_90 (lv_at hl 0 rfl) ?_
            refine lv_goto (tgt := 96) hx hb d_M_getNode_92 (by decide) ?_
            exact my_iret (v := (nI (nd - 2 ^ lev n))) hx hb hr (rfl) hlocks hQ hK hS (Nat.le_refl _) (Nat.le_refl _) fK (by rw [hxx]; exact ⟨rfl, hfK, hoK⟩) (by rw [hxx]; exact (hP.sub [2, 3, 0, 1] rfl)) (by rw [hxx]; exact (hD.sub [2, 3, 0, 1] (by decide +kernel) rfl)) d_M_getNode_96
        · have hj2 : j < lev n := by
            rcases Nat.lt_or_ge j (lev n) with z | z
            · exact z
            · exact absurd (by rw [hi, hw9]; exact nI_le z (by omega)) c_2
          have hnd64 : nd < 64 := Nat.lt_of_lt_of_le hnd.2 (Nat.pow_le_pow_right (n := 2) (by decide) (show lev n - (lev n - j) + 1 ≤ 6 by omega))
          have hdd := hD9 nd hnd64
          have hq1 : 8192 ≤ r9.1 / 2048 := by omega
          have hq2 : r9.1 / 2048 * D9 nd ≤ r9.1 / 2048 * 2047 := Nat.mul_le_mul_left _ hdd.2
          have hq3 : r9.1 / 2048 * 1 ≤ r9.1 / 2048 * D9 nd := Nat.mul_le_mul_left _ hdd.1
          have hrb := rb_ok (CD := r9.2.1) (q := r9.2.2) (show 0 < r9.1 / 2048 * D9 nd by omega) (show r9.1 / 2048 * D9 nd < r9.1 by omega) hr2 hr3
          have hwr := wr_inv hoct hrb.1 hrb.2.1 hrb.2.2.1
          refine lv_bipush (v := 64) hx hb d_M_getNode_31 (by decide) ?_
          refine lv_iload_n hx hb d_M_getNode_33 rfl (lv_at hl 4 rfl) ?_
          refine lv_imul hx hb d_M_getNode_34 ?_
          refine lv_topi (fun v_7 ev_7 => ?_)
          refine lv_iload_n hx hb d_M_getNode_35 rfl (lv_at hl 2 rfl) ?_
          refine lv_iadd hx hb d_M_getNode_36 ?_
          refine lv_topi (fun v_8 ev_8 => ?_)
          have z9 : v_8 = nI (64 * mm + nd) := by subst_vars; exact ix64
          subst z9
          refine lv_istore (lv' := [(5, Value.int (nI (64 * mm + nd))), (4, Value.int i9), (3, Value.int w9), (2, Value.int n9v), (0, Value.ref o), (1, Value.int (nI mm))]) hx hb d_M_getNode_37 hl (by decide) rfl (fun ls hl => ?_)
          refine lv_iconst (v := 2) hx hb d_M_getNode_39 (by decide) ?_
          refine lv_iload_n hx hb d_M_getNode_40 rfl (lv_at hl 3 rfl) ?_
          refine lv_imul hx hb d_M_getNode_41 ?_
          refine lv_topi (fun v_9 ev_9 => ?_)
          refine lv_aload_n hx hb d_M_getNode_42 rfl (lv_at hl 4 rfl) ?_
          refine lv_aload_n hx hb d_M_getNode_43 rfl (lv_at hl 4 rfl) ?_
          refine va_get (D := (dC, dI)) (ci := 9) (v := .long (lN r9.1)) (C := "RangeCodersModel") (T := T_M) (N := 35) hx hb hg in_M hown hK hP 2 rfl rfl 28 (by decide) (hg _ k980) (fun _ h9 => h9) rfl d_M_getNode_44 ?_
          refine lv_bipush (v := 11) hx hb d_M_getNode_47 (by decide) ?_
          refine lv_lshr hx hb d_M_getNode_49 rfl ?_
          refine lv_topl (fun v_10 ev_10 => ?_)
          refine lv_aload_n hx hb d_M_getNode_50 rfl (lv_at hl 4 rfl) ?_
          refine va_get (D := (dC, dI)) (ci := 9) (v := .ref (g 3)) (C := "RangeCodersModel") (T := T_M) (N := 35) hx hb hg in_M hown hK hP 2 rfl rfl 6 (by decide) (hg _ k958) (fun _ h9 => h9) rfl d_M_getNode_51 ?_
          refine lv_iload hx hb d_M_getNode_54 (lv_at hl 0 rfl) ?_
          refine va_iald hx hb hK hP 0 0 rfl rfl (vp_in_nI (by omega) (by decide)) d_M_getNode_56 ?_
          refine lv_topi (fun v_11 ev_11 => ?_)
          refine lv_i2l hx hb d_M_getNode_57 rfl ?_
          refine lv_topl (fun v_12 ev_12 => ?_)
          refine lv_lmul hx hb d_M_getNode_58 ?_
          refine lv_topl (fun v_13 ev_13 => ?_)
          have z9 : v_13 = lN (r9.1 / 2048 * D9 nd) := by subst_vars; rw [L_shr11 (by omega), nI_clamp (by omega), hfK nd hnd64, nI_l (by omega), lN_mul]
          subst z9
          refine lv_iload hx hb d_M_getNode_59 (lv_at hl 0 rfl) ?_
          refine my_ci (wr := [((g 0), Sum.inl (cI, 8, Sum.inl vMany))]) (va_runV (As := [Value.long (lN (r9.1 / 2048 * D9 nd)), Value.int (nI (64 * mm + nd))]) (rest := [Value.int v_9]) ⟨hx, hb, hml, hown, hts⟩ (c_M_readBit l dC dI cI cM cO H.size o g fForm fModels fItems fEnded fLow fRange fCache fPend fGoes fOuts fReads fBad fIR fBAsk fRL fX fWrites fThrown fK vIn (64 * mm + nd) (D9 nd) sh (r9.1 / 2048 * D9 nd) r9.1 r9.2.1 is r9.2.2 (hIn) (by assumption) (by assumption) (by omega) (by omega) (hfK nd hnd64) (by omega) (hs2) (by omega) (by omega) (hr2) (hr3)) (cwV 2 hts (my_gV k1235 k1237 ks54 k12 k1238) rfl rfl rfl (by decide +kernel) ⟨by rw [hR]; exact Nat.le_of_ble_eq_true rfl, by rw [hR]; exact Nat.le_of_ble_eq_true rfl⟩) (my_preV hK hN (hP.sub [2, 0, 1] rfl) (hD.sub [2, 0, 1] (by decide +kernel) rfl) 0 rfl rfl) rfl rfl hl.1 rfl (lv_room (Nat.le_of_ble_eq_true rfl)) d_M_getNode_61 ⟨by rw [hR]; exact Nat.le_of_ble_eq_true rfl, by rw [hR]; exact Nat.le_of_ble_eq_true rfl⟩) hP hD hS hA [2, 0, 1] [3] rfl rfl (by decide +kernel) (by decide +kernel) (fun r_61 u9 H locs hw_61 hP hD hS => ?_)
          obtain ⟨f2_61, rfl⟩ : ∃ z, z = u9 := ⟨_, rfl⟩
          have hw_61 : r_61 = nI (rbt (r9.1 / 2048 * D9 nd) r9.2.1) ∧ f2_61 = upd fK (64 * mm + nd) (nI (mvC sh (rbt (r9.1 / 2048 * D9 nd) r9.2.1) (D9 nd))) := hw_61
          have hPD : my_PD (dC, dI) vwCl A [((g 0), Sum.inl (cI, 8, Sum.inl vMany)), (o, Sum.inr (9, mO g fForm (nI sh) fModels fItems fEnded fLow fRange fCache fPend fGoes fOuts (nI is.length) fReads fBad fIR (nI (wrS is (rbS (r9.1 / 2048 * D9 nd) r9.1 r9.2.1 r9.2.2)).2.2) fBAsk (lN (wrS is (rbS (r9.1 / 2048 * D9 nd) r9.1 r9.2.1 r9.2.2)).2.1) fRL (lN (wrS is (rbS (r9.1 / 2048 * D9 nd) r9.1 r9.2.1 r9.2.2)).1) fX fWrites fThrown)), ((g 3), Sum.inl (cI, 512, Sum.inl f2_61)), ((g 8), Sum.inl (cI, 6000, Sum.inl vIn))] H := ⟨hP, hD⟩
          have hP := hPD.1
          have hD := hPD.2
          refine lv_iadd hx hb d_M_getNode_64 ?_
          refine lv_topi (fun v_14 ev_14 => ?_)
          have hvn : v_14 = nI (2 * nd + rbt (r9.1 / 2048 * D9 nd) r9.2.1) := by rw [ev_14, hw_61.1]; subst_vars; rw [show (2 : Int32) * nI nd = nI (2 * nd) from pk_mul 2 nd]; exact nI_add _ _
          refine lv_istore_n (lv' := [(2, Value.int v_14), (5, Value.int (nI (64 * mm + nd))), (4, Value.int i9), (3, Value.int w9), (0, Value.ref o), (1, Value.int (nI mm))]) hx hb d_M_getNode_65 rfl hl (by decide) rfl (fun ls hl => ?_)
          obtain ⟨v_15, ev_15⟩ : ∃ y : Int32, y = i9 + (1) := ⟨_, rfl⟩
          refine lv_iinc (v := v_15) (lv' := [(4, Value.int v_15), (2, Value.int v_14), (5, Value.int (nI (64 * mm + nd))), (3, Value.int w9), (0, Value.ref o), (1, Value.int (nI mm))]) hx hb d_M_getNode_66 hl (k := 2) rfl (by rw [ev_15]; rfl) (by decide) rfl (fun ls hl => ?_)
          refine lv_goto (tgt := 25) hx hb d_M_getNode_69 (by decide) ?_
          exact ih9_25 _ (by first | omega | (omega)) v_15 v_14 w9 (j + 1) (2 * nd + rbt (r9.1 / 2048 * D9 nd) r9.2.1) (wrS is (rbS (r9.1 / 2048 * D9 nd) r9.1 r9.2.1 r9.2.2)) (upN D9 nd (mvC sh (rbt (r9.1 / 2048 * D9 nd) r9.2.1) (D9 nd))) f2_61 rfl (by subst_vars; exact nI_1 j) (hvn) (hw9) (by omega) (by rw [hE9, show lev n - j = (lev n - (j + 1)) + 1 by omega, gnN]) (hwr.1) (by have := hwr.2.1; rw [hrb.2.2.2] at this; omega) (by have z := nd_lo (lv := lev n) (j := lev n - j) (by omega) (by omega) hnd (rbt_lt (r9.1 / 2048 * D9 nd) r9.2.1); rw [show lev n - j - 1 = lev n - (j + 1) by omega] at z; exact z) (by rw [hw_61.2]; exact (sg_up hfK hnd64 rfl rfl).1) (by rw [hw_61.2]; exact sgO_tr (sg_up hfK hnd64 rfl rfl).2 hoK) (ch_up hs1 hD9) H locs ls (hP.sub [2, 3, 1, 0] rfl) (hD.sub [2, 3, 1, 0] (by decide +kernel) rfl) hS (lv_sub hl [0, 3, 1, 4, 5] rfl)
    exact J_25 _ 0 1 r_18 0 1 (RR, CD, q) D vThen rfl (rfl) (rfl) (hw_18) (Nat.zero_le _) (rfl) (hI) (Nat.le_add_right _ _) (by rw [Nat.sub_zero, Nat.sub_self]; decide) (hf) (sgO_rf _ _ _) (hC9) H locs ls (hP.sub [0, 1, 2, 3] rfl) (hD.sub [0, 1, 2, 3] (by decide +kernel) rfl) hS (lv_sub hl [0, 1, 2, 3, 4] rfl)
  · rw [lg_cmp_lt] at c_1
    have hxx : gnS is sh n (RR, CD, q) D = (none, (RR, CD, q), D) := by
      unfold gnS
      rw [if_neg (fun z => c_1 ((L_lt (by omega) (by omega)).mpr z))]
    refine lv_iconst (v := (-1)) hx hb d_M_getNode_12 (by decide) ?_
    exact my_iret (v := (-1)) hx hb hr (rfl) hlocks hQ hK hS (Nat.le_refl _) (Nat.le_refl _) vThen (by rw [hxx]; exact ⟨rfl, hf, sgO_rf _ _ _⟩) (by rw [hxx]; exact (hP.sub [0, 1, 2, 3] rfl)) (by rw [hxx]; exact (hD.sub [0, 1, 2, 3] (by decide +kernel) rfl)) d_M_getNode_13
end
section
/-! a sign or a VALUE of forms 0, 1, 3 is read -/
theorem pOk_lt {R L : Nat} (h : pOk R L) : R < 4294967296 := by
  obtain ⟨z1, z2, z3, z4⟩ := h
  rcases Nat.lt_or_ge R 4294967296 with z | z
  · exact z
  · have := z4 (by omega)
    omega
theorem wnt_some {tt RR x w : Nat} (h : wnt tt RR x = some w) : 0 < tt ∧ tt ≤ RR ∧ w < tt ∧ RR / tt * w ≤ x ∧ 0 < RR / tt := by
  unfold wnt at h
  split at h
  · cases h
  · rename_i h1
    split at h
    · rename_i h2
      cases h
      have hp : 0 < RR / tt := Nat.pos_of_ne_zero h1
      have ht : 0 < tt := by
        rcases Nat.eq_zero_or_pos tt with z | z
        · subst z; rw [Nat.div_zero] at hp; omega
        · exact z
      refine ⟨ht, ?_, h2, Nat.mul_div_le _ _, hp⟩
      rcases Nat.lt_or_ge RR tt with z | z
      · rw [Nat.div_eq_of_lt z] at hp; omega
      · exact z
    · cases h
theorem oL_neg {o : Option Nat} (h : ∀ v, o = some v → v < 2 ^ 63) : ¬ 0 ≤ oL o ↔ o = none := by
  cases o with
  | none => simp only [oL, iff_true]; decide
  | some v =>
    simp only [oL, reduceCtorEq, iff_false]
    exact fun z => z ((L_le (a := 0) (by decide) (h v rfl)).mpr (Nat.zero_le _))
def gr0 (is : List Nat) (n : Nat) (F : Nat → Nat) (r : RS) : Option Nat × RS × (Nat → Nat) := match wnt (ns F n) r.1 r.2.1 with
  | none => (none, r, F)
  | some w => (some (sgA F n w), wrS is (r.1 / ns F n * F (sgA F n w), r.2.1 - r.1 / ns F n * ns F (sgA F n w), r.2.2), lrn n (sgA F n w) F)
def gr1 (is : List Nat) (n : Nat) (F : Nat → Nat) (r : RP) : Option Nat × RP × (Nat → Nat) := match wnt (ns F n) r.1 ((r.2.2.1 + 4294967296 - r.2.1) % 4294967296) with
  | none => (none, r, F)
  | some w => (some (sgA F n w), prS is (r.1 / ns F n * F (sgA F n w), r.2.1 + r.1 / ns F n * ns F (sgA F n w), r.2.2.1, r.2.2.2), lrn n (sgA F n w) F)
def gv0 (is : List Nat) (b : Nat) (r : RS) : Option Nat × RS := match wnt (2 ^ b) r.1 r.2.1 with
  | none => (none, r)
  | some w => (some w, wrS is (r.1 / 2 ^ b * 1, r.2.1 - r.1 / 2 ^ b * w, r.2.2))
def gv1 (is : List Nat) (b : Nat) (r : RP) : Option Nat × RP := match wnt (2 ^ b) r.1 ((r.2.2.1 + 4294967296 - r.2.1) % 4294967296) with
  | none => (none, r)
  | some w => (some w, prS is (r.1 / 2 ^ b * 1, r.2.1 + r.1 / 2 ^ b * w, r.2.2.1, r.2.2.2))
def gs3 (is : List Nat) (n : Nat) (F : Nat → Nat) (X q : Nat) : Option Nat × (Nat × Nat) := if ns F n = 0 then (none, (X, q)) else (some (sgA F n (X % 4096)), rfS is (X / 4096 * F (sgA F n (X % 4096)) + X % 4096 - ns F (sgA F n (X % 4096)), q))
end
section
set_option maxHeartbeats 1000000 in
set_option maxRecDepth 100000 in
/-- getRanged, form 0 -/
theorem c_M_getRanged0 (l : Launch) (dC : Nat → ClassId) (dI : Nat → Nat → Nat) (cI cM cO : ClassId) (sz : Nat) (o : Nat) (g : Nat → Nat) (fShift : Int32) (fModels : Int32) (fItems : Int32) (fEnded : Int32) (fLow : Int64) (fRange : Int64) (fCache : Int32) (fPend : Int32) (fGoes : Int32) (fOuts : Int32) (fReads : Int32) (fBad : Int32) (fIR : Int32) (fBAsk : Int32) (fRL : Int64) (fX : Int64) (fWrites : Int32) (fThrown : Int32) (vMany : Nat → Int32) (vThen : Nat → Int32) (vIn : Nat → Int32) (mm : Nat) (n : Nat) (F : Nat → Nat) (RR : Nat) (CD : Nat) (is : List Nat) (q : Nat) (hmm : mm < 8) (hn : vMany mm = nI n) (hn2 : n ≤ 64) (hn0 : 0 < n) (hIn : gIs vIn is) (hlen : is.length ≤ 6000) (hoct : oct is) (hq : q < 800000) (hf : sgI vThen (64 * mm) n F) (hsum : ns F n ≤ 8192) (hR1 : RR < 4294967296) (hC : CD < 4294967296) : MetI l y_M_getRanged (Cond.code y_M_getRanged prog_14_method_52_code 6 (some .int) :: gw) ({ frames := 3, cells := 0, slots := 0, locals := 66 } : Room) (dC, dI) vwCl (kT cI cM cO) [Value.ref o, Value.int (nI mm)] [(o, Sum.inr (9, mO g 0 fShift fModels fItems fEnded fLow fRange fCache fPend fGoes fOuts (nI is.length) fReads fBad fIR (nI q) fBAsk (lN CD) fRL (lN RR) fX fWrites fThrown)), ((g 0), Sum.inl (cI, 8, Sum.inl vMany)), ((g 3), Sum.inl (cI, 512, Sum.inl vThen)), ((g 8), Sum.inl (cI, 6000, Sum.inl vIn))] sz (fun (r : Int32) (u : (Nat → Int32)) => r = oI (gr0 is n F (RR, CD, q)).1 ∧ sgI u (64 * mm) n (gr0 is n F (RR, CD, q)).2.2 ∧ sgO u vThen (64 * mm) n) (fun (u : (Nat → Int32)) => [(o, Sum.inr (9, mO g 0 fShift fModels fItems fEnded fLow fRange fCache fPend fGoes fOuts (nI is.length) fReads fBad fIR (nI (gr0 is n F (RR, CD, q)).2.1.2.2) fBAsk (lN (gr0 is n F (RR, CD, q)).2.1.2.1) fRL (lN (gr0 is n F (RR, CD, q)).2.1.1) fX fWrites fThrown)), ((g 0), Sum.inl (cI, 8, Sum.inl vMany)), ((g 3), Sum.inl (cI, 512, Sum.inl u)), ((g 8), Sum.inl (cI, 6000, Sum.inl vIn))]) 0 0 := by
  refine my_ofI (cc := prog_14_method_52_code) (n := 6) (ret := (some .int)) (by decide) rfl (Nat.le_of_ble_eq_true rfl) ?_
  intro p e s m args below meth c R Q A ls H locs hx hb hr hts hown hlocks hml hnm hR hQ hA hl hP hK hN hD hS
  have hg : ∀ w ∈ gw, w.before args s = true := fun w h => hts w (List.mem_cons_of_mem _ h)
  have hown : s.vm.findClass "RangeCodersModel" = some m.cls := hown
  have hl : lv_has ls 6 [(0, Value.ref o), (1, Value.int (nI mm))] := hl
  have hbd : bd F n 100000 := fun k hk => by have := ns_ge (F := F) hk; omega
  have hov : ∀ w, wnt (ns F n) RR CD = some w → w < 2 ^ 63 := fun w hw => by have := (wnt_some hw).2.2.1; omega
  refine lv_aload_n hx hb d_M_getRanged_0 rfl (lv_at hl 0 rfl) ?_
  refine lv_aload_n hx hb d_M_getRanged_1 rfl (lv_at hl 0 rfl) ?_
  refine va_get (D := (dC, dI)) (ci := 9) (v := .ref (g 3)) (C := "RangeCodersModel") (T := T_M) (N := 35) hx hb hg in_M hown hK hP 0 rfl rfl 6 (by decide) (hg _ k958) (fun _ h9 => h9) rfl d_M_getRanged_2 ?_
  refine lv_iload_n hx hb d_M_getRanged_5 rfl (lv_at hl 1 rfl) ?_
  refine my_ci (wr := [((g 8), Sum.inl (cI, 6000, Sum.inl vIn))]) (va_runV (As := [Value.ref (g 3), Value.int (nI mm)]) (rest := []) ⟨hx, hb, hml, hown, hts⟩ (c_M_sum l dC dI cI cM cO H.size o g 0 fShift fModels fItems fEnded fLow fRange fCache fPend fGoes fOuts (nI is.length) fReads fBad fIR (nI q) fBAsk (lN CD) fRL (lN RR) fX fWrites fThrown vMany (g 3) vThen mm n F (by assumption) (by assumption) (by assumption) (hf)) (cwV 2 hts (my_gV k936 k938 ks21 k12 k939) rfl rfl rfl (by decide +kernel) ⟨by rw [hR]; exact Nat.le_of_ble_eq_true rfl, by rw [hR]; exact Nat.le_of_ble_eq_true rfl⟩) (my_preV hK hN (hP.sub [0, 1, 2] rfl) (hD.sub [0, 1, 2] (by decide +kernel) rfl) 0 rfl rfl) rfl rfl hl.1 rfl (lv_room (Nat.le_of_ble_eq_true rfl)) d_M_getRanged_6 ⟨by rw [hR]; exact Nat.le_of_ble_eq_true rfl, by rw [hR]; exact Nat.le_of_ble_eq_true rfl⟩) hP hD hS hA [0, 1, 2] [3] rfl rfl (by decide +kernel) (by decide +kernel) (fun r_6 u9 H locs hw_6 hP hD hS => ?_)
  have hw_6 : r_6 = nI (ns F n) := hw_6
  have hPD : my_PD (dC, dI) vwCl A [((g 8), Sum.inl (cI, 6000, Sum.inl vIn)), (o, Sum.inr (9, mO g 0 fShift fModels fItems fEnded fLow fRange fCache fPend fGoes fOuts (nI is.length) fReads fBad fIR (nI q) fBAsk (lN CD) fRL (lN RR) fX fWrites fThrown)), ((g 0), Sum.inl (cI, 8, Sum.inl vMany)), ((g 3), Sum.inl (cI, 512, Sum.inl vThen))] H := ⟨hP, hD⟩
  have hP := hPD.1
  have hD := hPD.2
  have z9 : r_6 = nI (ns F n) := hw_6
  subst z9
  refine lv_istore_n (lv' := [(2, Value.int (nI (ns F n))), (0, Value.ref o), (1, Value.int (nI mm))]) hx hb d_M_getRanged_9 rfl hl (by decide) rfl (fun ls hl => ?_)
  refine lv_aload_n hx hb d_M_getRanged_10 rfl (lv_at hl 1 rfl) ?_
  refine lv_iload_n hx hb d_M_getRanged_11 rfl (lv_at hl 0 rfl) ?_
  refine my_cl (wr := [((g 8), Sum.inl (cI, 6000, Sum.inl vIn)), ((g 0), Sum.inl (cI, 8, Sum.inl vMany)), ((g 3), Sum.inl (cI, 512, Sum.inl vThen))]) (va_runV (As := [Value.int (nI (ns F n))]) (rest := []) ⟨hx, hb, hml, hown, hts⟩ (c_M_wanted0 l dC dI cI cM cO H.size o g fShift fModels fItems fEnded fLow fRange fCache fPend fGoes fOuts (nI is.length) fReads fBad fIR (nI q) fBAsk fRL fX fWrites fThrown (ns F n) RR CD (by omega) (hR1) (by assumption)) (cwV 1 hts (my_gV k1210 k1212 ks48 k12 k1213) rfl rfl rfl (by decide +kernel) ⟨by rw [hR]; exact Nat.le_of_ble_eq_true rfl, by rw [hR]; exact Nat.le_of_ble_eq_true rfl⟩) (my_preV hK hN (hP.sub [1] rfl) (hD.sub [1] (by decide +kernel) rfl) 0 rfl rfl) rfl rfl hl.1 rfl (lv_room (Nat.le_of_ble_eq_true rfl)) d_M_getRanged_12 ⟨by rw [hR]; exact Nat.le_of_ble_eq_true rfl, by rw [hR]; exact Nat.le_of_ble_eq_true rfl⟩) hP hD hS hA [1] [0, 2, 3] rfl rfl (by decide +kernel) (by decide +kernel) (fun r_12 u9 H locs hw_12 hP hD hS => ?_)
  have hw_12 : r_12 = oL (wnt (ns F n) RR CD) := hw_12
  have hPD : my_PD (dC, dI) vwCl A [((g 8), Sum.inl (cI, 6000, Sum.inl vIn)), ((g 0), Sum.inl (cI, 8, Sum.inl vMany)), ((g 3), Sum.inl (cI, 512, Sum.inl vThen)), (o, Sum.inr (9, mO g 0 fShift fModels fItems fEnded fLow fRange fCache fPend fGoes fOuts (nI is.length) fReads fBad fIR (nI q) fBAsk (lN CD) fRL (lN RR) fX fWrites fThrown))] H := ⟨hP, hD⟩
  have hP := hPD.1
  have hD := hPD.2
  refine lv_lstore_n (lv' := [(3, Value.long r_12), (2, Value.int (nI (ns F n))), (0, Value.ref o), (1, Value.int (nI mm))]) hx hb d_M_getRanged_15 rfl hl (by decide) rfl (fun ls hl => ?_)
  refine lv_lload_n hx hb d_M_getRanged_16 rfl (lv_at hl 0 rfl) ?_
  refine lv_lconst (v := 0) hx hb d_M_getRanged_17 (by decide) ?_
  refine W.lcmp hx hb d_M_getRanged_18 ?_
  refine lv_if_ge (tgt := 24) hx hb d_M_getRanged_19 (by decide) (fun c_1 => ?_) (fun c_1 => ?_)
  · rw [lg_cmp_ge] at c_1
    obtain ⟨uu, huu⟩ : ∃ w, wnt (ns F n) RR CD = some w := by
      cases hh : wnt (ns F n) RR CD with
      | none => exact absurd c_1 (by rw [hw_12]; exact (oL_neg hov).mpr hh)
      | some w => exact ⟨w, rfl⟩
    have hws := wnt_some huu
    have hsg := sgA_spec hws.2.2.1
    have hm1 := ns_m1 F hsg.1
    have hxx : gr0 is n F (RR, CD, q) = (some (sgA F n uu), wrS is (RR / ns F n * F (sgA F n uu), CD - RR / ns F n * ns F (sgA F n uu), q), lrn n (sgA F n uu) F) := by unfold gr0; simp only [huu]
    have z9 : r_12 = lN uu := by rw [hw_12, huu]; rfl
    subst z9
    refine lv_aload_n hx hb d_M_getRanged_24 rfl (lv_at hl 2 rfl) ?_
    refine lv_iload_n hx hb d_M_getRanged_25 rfl (lv_at hl 3 rfl) ?_
    refine lv_lload_n hx hb d_M_getRanged_26 rfl (lv_at hl 0 rfl) ?_
    refine my_ci (wr := [((g 8), Sum.inl (cI, 6000, Sum.inl vIn)), ((g 0), Sum.inl (cI, 8, Sum.inl vMany))]) (va_runV (As := [Value.int (nI mm), Value.long (lN uu)]) (rest := []) ⟨hx, hb, hml, hown, hts⟩ (c_M_signAt l dC dI cI cM cO H.size o g 0 fShift fModels fItems fEnded fLow fRange fCache fPend fGoes fOuts (nI is.length) fReads fBad fIR (nI q) fBAsk (lN CD) fRL (lN RR) fX fWrites fThrown vThen mm n F uu (by assumption) (by assumption) (hf) (hws.2.2.1) (by omega)) (cwV 2 hts (my_gV k1215 k1217 ks49 k12 k1218) rfl rfl rfl (by decide +kernel) ⟨by rw [hR]; exact Nat.le_of_ble_eq_true rfl, by rw [hR]; exact Nat.le_of_ble_eq_true rfl⟩) (my_preV hK hN (hP.sub [3, 2] rfl) (hD.sub [3, 2] (by decide +kernel) rfl) 0 rfl rfl) rfl rfl hl.1 rfl (lv_room (Nat.le_of_ble_eq_true rfl)) d_M_getRanged_27 ⟨by rw [hR]; exact Nat.le_of_ble_eq_true rfl, by rw [hR]; exact Nat.le_of_ble_eq_true rfl⟩) hP hD hS hA [3, 2] [0, 1] rfl rfl (by decide +kernel) (by decide +kernel) (fun r_27 u9 H locs hw_27 hP hD hS => ?_)
    have hw_27 : r_27 = nI (sgA F n uu) := hw_27
    have hPD : my_PD (dC, dI) vwCl A [((g 8), Sum.inl (cI, 6000, Sum.inl vIn)), ((g 0), Sum.inl (cI, 8, Sum.inl vMany)), (o, Sum.inr (9, mO g 0 fShift fModels fItems fEnded fLow fRange fCache fPend fGoes fOuts (nI is.length) fReads fBad fIR (nI q) fBAsk (lN CD) fRL (lN RR) fX fWrites fThrown)), ((g 3), Sum.inl (cI, 512, Sum.inl vThen))] H := ⟨hP, hD⟩
    have hP := hPD.1
    have hD := hPD.2
    have z9 : r_27 = nI (sgA F n uu) := hw_27
    subst z9
    refine lv_istore (lv' := [(5, Value.int (nI (sgA F n uu))), (3, Value.long (lN uu)), (2, Value.int (nI (ns F n))), (0, Value.ref o), (1, Value.int (nI mm))]) hx hb d_M_getRanged_30 hl (by decide) rfl (fun ls hl => ?_)
    refine lv_aload_n hx hb d_M_getRanged_32 rfl (lv_at hl 3 rfl) ?_
    refine lv_aload_n hx hb d_M_getRanged_33 rfl (lv_at hl 3 rfl) ?_
    refine lv_aload_n hx hb d_M_getRanged_34 rfl (lv_at hl 3 rfl) ?_
    refine va_get (D := (dC, dI)) (ci := 9) (v := .ref (g 3)) (C := "RangeCodersModel") (T := T_M) (N := 35) hx hb hg in_M hown hK hP 2 rfl rfl 6 (by decide) (hg _ k958) (fun _ h9 => h9) rfl d_M_getRanged_35 ?_
    refine lv_iload_n hx hb d_M_getRanged_38 rfl (lv_at hl 4 rfl) ?_
    refine lv_iload hx hb d_M_getRanged_39 (lv_at hl 0 rfl) ?_
    refine my_ci (wr := [((g 8), Sum.inl (cI, 6000, Sum.inl vIn)), ((g 0), Sum.inl (cI, 8, Sum.inl vMany))]) (va_runV (As := [Value.ref (g 3), Value.int (nI mm), Value.int (nI (sgA F n uu))]) (rest := [Value.ref o]) ⟨hx, hb, hml, hown, hts⟩ (c_M_before l dC dI cI cM cO H.size o g 0 fShift fModels fItems fEnded fLow fRange fCache fPend fGoes fOuts (nI is.length) fReads fBad fIR (nI q) fBAsk (lN CD) fRL (lN RR) fX fWrites fThrown (g 3) vThen mm (sgA F n uu) F (by assumption) (by omega) (sgI_w hf (by omega))) (cwV 3 hts (my_gV k1089 k1091 ks28 k12 k1092) rfl rfl rfl (by decide +kernel) ⟨by rw [hR]; exact Nat.le_of_ble_eq_true rfl, by rw [hR]; exact Nat.le_of_ble_eq_true rfl⟩) (my_preV hK hN (hP.sub [2, 3] rfl) (hD.sub [2, 3] (by decide +kernel) rfl) 0 rfl rfl) rfl rfl hl.1 rfl (lv_room (Nat.le_of_ble_eq_true rfl)) d_M_getRanged_41 ⟨by rw [hR]; exact Nat.le_of_ble_eq_true rfl, by rw [hR]; exact Nat.le_of_ble_eq_true rfl⟩) hP hD hS hA [2, 3] [0, 1] rfl rfl (by decide +kernel) (by decide +kernel) (fun r_41 u9 H locs hw_41 hP hD hS => ?_)
    have hw_41 : r_41 = nI (ns F (sgA F n uu)) := hw_41
    have hPD : my_PD (dC, dI) vwCl A [((g 8), Sum.inl (cI, 6000, Sum.inl vIn)), ((g 0), Sum.inl (cI, 8, Sum.inl vMany)), (o, Sum.inr (9, mO g 0 fShift fModels fItems fEnded fLow fRange fCache fPend fGoes fOuts (nI is.length) fReads fBad fIR (nI q) fBAsk (lN CD) fRL (lN RR) fX fWrites fThrown)), ((g 3), Sum.inl (cI, 512, Sum.inl vThen))] H := ⟨hP, hD⟩
    have hP := hPD.1
    have hD := hPD.2
    have z9 : r_41 = nI (ns F (sgA F n uu)) := hw_41
    subst z9
    refine lv_aload_n hx hb d_M_getRanged_44 rfl (lv_at hl 3 rfl) ?_
    refine va_get (D := (dC, dI)) (ci := 9) (v := .ref (g 3)) (C := "RangeCodersModel") (T := T_M) (N := 35) hx hb hg in_M hown hK hP 2 rfl rfl 6 (by decide) (hg _ k958) (fun _ h9 => h9) rfl d_M_getRanged_45 ?_
    refine lv_bipush (v := 64) hx hb d_M_getRanged_48 (by decide) ?_
    refine lv_iload_n hx hb d_M_getRanged_50 rfl (lv_at hl 4 rfl) ?_
    refine lv_imul hx hb d_M_getRanged_51 ?_
    refine lv_topi (fun v_2 ev_2 => ?_)
    refine lv_iload hx hb d_M_getRanged_52 (lv_at hl 0 rfl) ?_
    refine lv_iadd hx hb d_M_getRanged_54 ?_
    refine lv_topi (fun v_3 ev_3 => ?_)
    have hix : v_3 = nI (64 * mm + sgA F n uu) := by subst_vars; exact ix64
    refine va_iald hx hb hK hP 3 0 rfl rfl (by rw [hix]; exact vp_in_nI (by omega) (by decide)) d_M_getRanged_55 ?_
    refine lv_topi (fun v_4 ev_4 => ?_)
    have z9 : v_4 = nI (F (sgA F n uu)) := by subst_vars; rw [nI_clamp (by omega)]; exact hf _ hsg.1
    subst z9
    refine lv_iload_n hx hb d_M_getRanged_56 rfl (lv_at hl 2 rfl) ?_
    refine my_cv (wr := [((g 0), Sum.inl (cI, 8, Sum.inl vMany)), ((g 3), Sum.inl (cI, 512, Sum.inl vThen))]) (va_runV (As := [Value.int (nI (ns F (sgA F n uu))), Value.int (nI (F (sgA F n uu))), Value.int (nI (ns F n))]) (rest := []) ⟨hx, hb, hml, hown, hts⟩ (c_M_leave0 l dC dI cI cM cO H.size o g fShift fModels fItems fEnded fLow fRange fCache fPend fGoes fOuts fReads fBad fIR fBAsk fRL fX fWrites fThrown vIn (ns F (sgA F n uu)) (F (sgA F n uu)) (ns F n) RR CD is q (hIn) (by assumption) (by assumption) (by omega) (hws.1) (by omega) (hm1) (by omega) (hws.2.1) (hR1) (by assumption) (Nat.le_trans (Nat.mul_le_mul_left _ hsg.2.1) hws.2.2.2.1)) (cwV 3 hts (my_gV k1219 k1221 ks50 k12 k1222) rfl rfl rfl (by decide +kernel) ⟨by rw [hR]; exact Nat.le_of_ble_eq_true rfl, by rw [hR]; exact Nat.le_of_ble_eq_true rfl⟩) (my_preV hK hN (hP.sub [2, 0] rfl) (hD.sub [2, 0] (by decide +kernel) rfl) 0 rfl rfl) rfl rfl hl.1 rfl (lv_room (Nat.le_of_ble_eq_true rfl)) d_M_getRanged_57 ⟨by rw [hR]; exact Nat.le_of_ble_eq_true rfl, by rw [hR]; exact Nat.le_of_ble_eq_true rfl⟩) hP hD hS hA [2, 0] [1, 3] rfl rfl (by decide +kernel) (by decide +kernel) (fun u9 H locs hw_57 hP hD hS => ?_)
    have hw_57 : True := hw_57
    have hPD : my_PD (dC, dI) vwCl A [((g 0), Sum.inl (cI, 8, Sum.inl vMany)), ((g 3), Sum.inl (cI, 512, Sum.inl vThen)), (o, Sum.inr (9, mO g 0 fShift fModels fItems fEnded fLow fRange fCache fPend fGoes fOuts (nI is.length) fReads fBad fIR (nI (wrS is (RR / (ns F n) * (F (sgA F n uu)), CD - RR / (ns F n) * (ns F (sgA F n uu)), q)).2.2) fBAsk (lN (wrS is (RR / (ns F n) * (F (sgA F n uu)), CD - RR / (ns F n) * (ns F (sgA F n uu)), q)).2.1) fRL (lN (wrS is (RR / (ns F n) * (F (sgA F n uu)), CD - RR / (ns F n) * (ns F (sgA F n uu)), q)).1) fX fWrites fThrown)), ((g 8), Sum.inl (cI, 6000, Sum.inl vIn))] H := ⟨hP, hD⟩
    have hP := hPD.1
    have hD := hPD.2
    refine lv_aload_n hx hb d_M_getRanged_60 rfl (lv_at hl 3 rfl) ?_
    refine lv_aload_n hx hb d_M_getRanged_61 rfl (lv_at hl 3 rfl) ?_
    refine va_get (D := (dC, dI)) (ci := 9) (v := .ref (g 3)) (C := "RangeCodersModel") (T := T_M) (N := 35) hx hb hg in_M hown hK hP 2 rfl rfl 6 (by decide) (hg _ k958) (fun _ h9 => h9) rfl d_M_getRanged_62 ?_
    refine lv_iload_n hx hb d_M_getRanged_65 rfl (lv_at hl 4 rfl) ?_
    refine lv_iload hx hb d_M_getRanged_66 (lv_at hl 0 rfl) ?_
    refine my_cv (wr := [((g 8), Sum.inl (cI, 6000, Sum.inl vIn))]) (va_runV (As := [Value.ref (g 3), Value.int (nI mm), Value.int (nI (sgA F n uu))]) (rest := []) ⟨hx, hb, hml, hown, hts⟩ (c_M_learn l dC dI cI cM cO H.size o g 0 fShift fModels fItems fEnded fLow fRange fCache fPend fGoes fOuts (nI is.length) fReads fBad fIR (nI (wrS is (RR / (ns F n) * (F (sgA F n uu)), CD - RR / (ns F n) * (ns F (sgA F n uu)), q)).2.2) fBAsk (lN (wrS is (RR / (ns F n) * (F (sgA F n uu)), CD - RR / (ns F n) * (ns F (sgA F n uu)), q)).2.1) fRL (lN (wrS is (RR / (ns F n) * (F (sgA F n uu)), CD - RR / (ns F n) * (ns F (sgA F n uu)), q)).1) fX fWrites fThrown vMany (g 3) vThen mm n (sgA F n uu) F (by assumption) (by assumption) (by assumption) (hsg.1) (hf) (hbd)) (cwV 3 hts (my_gV k1119 k1121 ks34 k12 k1122) rfl rfl rfl (by decide +kernel) ⟨by rw [hR]; exact Nat.le_of_ble_eq_true rfl, by rw [hR]; exact Nat.le_of_ble_eq_true rfl⟩) (my_preV hK hN (hP.sub [2, 0, 1] rfl) (hD.sub [2, 0, 1] (by decide +kernel) rfl) 0 rfl rfl) rfl rfl hl.1 rfl (lv_room (Nat.le_of_ble_eq_true rfl)) d_M_getRanged_68 ⟨by rw [hR]; exact Nat.le_of_ble_eq_true rfl, by rw [hR]; exact Nat.le_of_ble_eq_true rfl⟩) hP hD hS hA [2, 0, 1] [3] rfl rfl (by decide +kernel) (by decide +kernel) (fun u9 H locs hw_68 hP hD hS => ?_)
    obtain ⟨f2_68, rfl⟩ : ∃ z, z = u9 := ⟨_, rfl⟩
    have hw_68 : sgI f2_68 (64 * mm) n (lrn n (sgA F n uu) F) ∧ sgO f2_68 vThen (64 * mm) n := hw_68
    have hPD : my_PD (dC, dI) vwCl A [((g 8), Sum.inl (cI, 6000, Sum.inl vIn)), (o, Sum.inr (9, mO g 0 fShift fModels fItems fEnded fLow fRange fCache fPend fGoes fOuts (nI is.length) fReads fBad fIR (nI (wrS is (RR / (ns F n) * (F (sgA F n uu)), CD - RR / (ns F n) * (ns F (sgA F n uu)), q)).2.2) fBAsk (lN (wrS is (RR / (ns F n) * (F (sgA F n uu)), CD - RR / (ns F n) * (ns F (sgA F n uu)), q)).2.1) fRL (lN (wrS is (RR / (ns F n) * (F (sgA F n uu)), CD - RR / (ns F n) * (ns F (sgA F n uu)), q)).1) fX fWrites fThrown)), ((g 0), Sum.inl (cI, 8, Sum.inl vMany)), ((g 3), Sum.inl (cI, 512, Sum.inl f2_68))] H := ⟨hP, hD⟩
    have hP := hPD.1
    have hD := hPD.2
    refine lv_iload hx hb d_M_getRanged_71 (lv_at hl 0 rfl) ?_
    exact my_iret (v := (nI (sgA F n uu))) hx hb hr (rfl) hlocks hQ hK hS (Nat.le_refl _) (Nat.le_refl _) f2_68 (by rw [hxx]; exact ⟨rfl, hw_68.1, hw_68.2⟩) (by rw [hxx]; exact (hP.sub [1, 2, 3, 0] rfl)) (by rw [hxx]; exact (hD.sub [1, 2, 3, 0] (by decide +kernel) rfl)) d_M_getRanged_73
  · rw [lg_cmp_ge] at c_1
    have hno : wnt (ns F n) RR CD = none := (oL_neg hov).mp (by rw [← hw_12]; exact c_1)
    have hxx : gr0 is n F (RR, CD, q) = (none, (RR, CD, q), F) := by unfold gr0; simp only [hno]
    refine lv_iconst (v := (-1)) hx hb d_M_getRanged_22 (by decide) ?_
    exact my_iret (v := (-1)) hx hb hr (rfl) hlocks hQ hK hS (Nat.le_refl _) (Nat.le_refl _) vThen (by rw [hxx]; exact ⟨rfl, hf, sgO_rf _ _ _⟩) (by rw [hxx]; exact (hP.sub [3, 1, 2, 0] rfl)) (by rw [hxx]; exact (hD.sub [3, 1, 2, 0] (by decide +kernel) rfl)) d_M_getRanged_23
set_option maxHeartbeats 1000000 in
set_option maxRecDepth 100000 in
/-- getRanged, form 1 -/
theorem c_M_getRanged1 (l : Launch) (dC : Nat → ClassId) (dI : Nat → Nat → Nat) (cI cM cO : ClassId) (sz : Nat) (o : Nat) (g : Nat → Nat) (fShift : Int32) (fModels : Int32) (fItems : Int32) (fEnded : Int32) (fLow : Int64) (fRange : Int64) (fCache : Int32) (fPend : Int32) (fGoes : Int32) (fOuts : Int32) (fReads : Int32) (fBad : Int32) (fIR : Int32) (fBAsk : Int32) (fX : Int64) (fWrites : Int32) (fThrown : Int32) (vMany : Nat → Int32) (vThen : Nat → Int32) (vIn : Nat → Int32) (mm : Nat) (n : Nat) (F : Nat → Nat) (RR : Nat) (L : Nat) (CD : Nat) (is : List Nat) (q : Nat) (hmm : mm < 8) (hn : vMany mm = nI n) (hn2 : n ≤ 64) (hn0 : 0 < n) (hIn : gIs vIn is) (hlen : is.length ≤ 6000) (hoct : oct is) (hq : q < 800000) (hf : sgI vThen (64 * mm) n F) (hsum : ns F n ≤ 8192) (hp : pOk RR L) (hC : CD < 4294967296) : MetI l y_M_getRanged (Cond.code y_M_getRanged prog_14_method_52_code 6 (some .int) :: gw) ({ frames := 3, cells := 0, slots := 0, locals := 68 } : Room) (dC, dI) vwCl (kT cI cM cO) [Value.ref o, Value.int (nI mm)] [(o, Sum.inr (9, mO g 1 fShift fModels fItems fEnded fLow fRange fCache fPend fGoes fOuts (nI is.length) fReads fBad fIR (nI q) fBAsk (lN CD) (lN L) (lN RR) fX fWrites fThrown)), ((g 0), Sum.inl (cI, 8, Sum.inl vMany)), ((g 3), Sum.inl (cI, 512, Sum.inl vThen)), ((g 8), Sum.inl (cI, 6000, Sum.inl vIn))] sz (fun (r : Int32) (u : (Nat → Int32)) => r = oI (gr1 is n F (RR, L, CD, q)).1 ∧ sgI u (64 * mm) n (gr1 is n F (RR, L, CD, q)).2.2 ∧ sgO u vThen (64 * mm) n) (fun (u : (Nat → Int32)) => [(o, Sum.inr (9, mO g 1 fShift fModels fItems fEnded fLow fRange fCache fPend fGoes fOuts (nI is.length) fReads fBad fIR (nI (gr1 is n F (RR, L, CD, q)).2.1.2.2.2) fBAsk (lN (gr1 is n F (RR, L, CD, q)).2.1.2.2.1) (lN (gr1 is n F (RR, L, CD, q)).2.1.2.1) (lN (gr1 is n F (RR, L, CD, q)).2.1.1) fX fWrites fThrown)), ((g 0), Sum.inl (cI, 8, Sum.inl vMany)), ((g 3), Sum.inl (cI, 512, Sum.inl u)), ((g 8), Sum.inl (cI, 6000, Sum.inl vIn))]) 0 0 := by
  refine my_ofI (cc := prog_14_method_52_code) (n := 6) (ret := (some .int)) (by decide) rfl (Nat.le_of_ble_eq_true rfl) ?_
  intro p e s m args below meth c R Q A ls H locs hx hb hr hts hown hlocks hml hnm hR hQ hA hl hP hK hN hD hS
  have hg : ∀ w ∈ gw, w.before args s = true := fun w h => hts w (List.mem_cons_of_mem _ h)
  have hown : s.vm.findClass "RangeCodersModel" = some m.cls := hown
  have hl : lv_has ls 6 [(0, Value.ref o), (1, Value.int (nI mm))] := hl
  have hR9 : RR ≤ 4294967296 := by have := hp.2.2.1; omega
  have hbd : bd F n 100000 := fun k hk => by have := ns_ge (F := F) hk; omega
  have hov : ∀ w, wnt (ns F n) RR ((CD + 4294967296 - L) % 4294967296) = some w → w < 2 ^ 63 := fun w hw => by have := (wnt_some hw).2.2.1; omega
  refine lv_aload_n hx hb d_M_getRanged_0 rfl (lv_at hl 0 rfl) ?_
  refine lv_aload_n hx hb d_M_getRanged_1 rfl (lv_at hl 0 rfl) ?_
  refine va_get (D := (dC, dI)) (ci := 9) (v := .ref (g 3)) (C := "RangeCodersModel") (T := T_M) (N := 35) hx hb hg in_M hown hK hP 0 rfl rfl 6 (by decide) (hg _ k958) (fun _ h9 => h9) rfl d_M_getRanged_2 ?_
  refine lv_iload_n hx hb d_M_getRanged_5 rfl (lv_at hl 1 rfl) ?_
  refine my_ci (wr := [((g 8), Sum.inl (cI, 6000, Sum.inl vIn))]) (va_runV (As := [Value.ref (g 3), Value.int (nI mm)]) (rest := []) ⟨hx, hb, hml, hown, hts⟩ (c_M_sum l dC dI cI cM cO H.size o g 1 fShift fModels fItems fEnded fLow fRange fCache fPend fGoes fOuts (nI is.length) fReads fBad fIR (nI q) fBAsk (lN CD) (lN L) (lN RR) fX fWrites fThrown vMany (g 3) vThen mm n F (by assumption) (by assumption) (by assumption) (hf)) (cwV 2 hts (my_gV k936 k938 ks21 k12 k939) rfl rfl rfl (by decide +kernel) ⟨by rw [hR]; exact Nat.le_of_ble_eq_true rfl, by rw [hR]; exact Nat.le_of_ble_eq_true rfl⟩) (my_preV hK hN (hP.sub [0, 1, 2] rfl) (hD.sub [0, 1, 2] (by decide +kernel) rfl) 0 rfl rfl) rfl rfl hl.1 rfl (lv_room (Nat.le_of_ble_eq_true rfl)) d_M_getRanged_6 ⟨by rw [hR]; exact Nat.le_of_ble_eq_true rfl, by rw [hR]; exact Nat.le_of_ble_eq_true rfl⟩) hP hD hS hA [0, 1, 2] [3] rfl rfl (by decide +kernel) (by decide +kernel) (fun r_6 u9 H locs hw_6 hP hD hS => ?_)
  have hw_6 : r_6 = nI (ns F n) := hw_6
  have hPD : my_PD (dC, dI) vwCl A [((g 8), Sum.inl (cI, 6000, Sum.inl vIn)), (o, Sum.inr (9, mO g 1 fShift fModels fItems fEnded fLow fRange fCache fPend fGoes fOuts (nI is.length) fReads fBad fIR (nI q) fBAsk (lN CD) (lN L) (lN RR) fX fWrites fThrown)), ((g 0), Sum.inl (cI, 8, Sum.inl vMany)), ((g 3), Sum.inl (cI, 512, Sum.inl vThen))] H := ⟨hP, hD⟩
  have hP := hPD.1
  have hD := hPD.2
  have z9 : r_6 = nI (ns F n) := hw_6
  subst z9
  refine lv_istore_n (lv' := [(2, Value.int (nI (ns F n))), (0, Value.ref o), (1, Value.int (nI mm))]) hx hb d_M_getRanged_9 rfl hl (by decide) rfl (fun ls hl => ?_)
  refine lv_aload_n hx hb d_M_getRanged_10 rfl (lv_at hl 1 rfl) ?_
  refine lv_iload_n hx hb d_M_getRanged_11 rfl (lv_at hl 0 rfl) ?_
  refine my_cl (wr := [((g 8), Sum.inl (cI, 6000, Sum.inl vIn)), ((g 0), Sum.inl (cI, 8, Sum.inl vMany)), ((g 3), Sum.inl (cI, 512, Sum.inl vThen))]) (va_runV (As := [Value.int (nI (ns F n))]) (rest := []) ⟨hx, hb, hml, hown, hts⟩ (c_M_wanted1 l dC dI cI cM cO H.size o g fShift fModels fItems fEnded fLow fRange fCache fPend fGoes fOuts (nI is.length) fReads fBad fIR (nI q) fBAsk fX fWrites fThrown (ns F n) RR CD L (by omega) (pOk_lt hp) (by assumption) (hp.1)) (cwV 1 hts (my_gV k1210 k1212 ks48 k12 k1213) rfl rfl rfl (by decide +kernel) ⟨by rw [hR]; exact Nat.le_of_ble_eq_true rfl, by rw [hR]; exact Nat.le_of_ble_eq_true rfl⟩) (my_preV hK hN (hP.sub [1] rfl) (hD.sub [1] (by decide +kernel) rfl) 0 rfl rfl) rfl rfl hl.1 rfl (lv_room (Nat.le_of_ble_eq_true rfl)) d_M_getRanged_12 ⟨by rw [hR]; exact Nat.le_of_ble_eq_true rfl, by rw [hR]; exact Nat.le_of_ble_eq_true rfl⟩) hP hD hS hA [1] [0, 2, 3] rfl rfl (by decide +kernel) (by decide +kernel) (fun r_12 u9 H locs hw_12 hP hD hS => ?_)
  have hw_12 : r_12 = oL (wnt (ns F n) RR ((CD + 4294967296 - L) % 4294967296)) := hw_12
  have hPD : my_PD (dC, dI) vwCl A [((g 8), Sum.inl (cI, 6000, Sum.inl vIn)), ((g 0), Sum.inl (cI, 8, Sum.inl vMany)), ((g 3), Sum.inl (cI, 512, Sum.inl vThen)), (o, Sum.inr (9, mO g 1 fShift fModels fItems fEnded fLow fRange fCache fPend fGoes fOuts (nI is.length) fReads fBad fIR (nI q) fBAsk (lN CD) (lN L) (lN RR) fX fWrites fThrown))] H := ⟨hP, hD⟩
  have hP := hPD.1
  have hD := hPD.2
  refine lv_lstore_n (lv' := [(3, Value.long r_12), (2, Value.int (nI (ns F n))), (0, Value.ref o), (1, Value.int (nI mm))]) hx hb d_M_getRanged_15 rfl hl (by decide) rfl (fun ls hl => ?_)
  refine lv_lload_n hx hb d_M_getRanged_16 rfl (lv_at hl 0 rfl) ?_
  refine lv_lconst (v := 0) hx hb d_M_getRanged_17 (by decide) ?_
  refine W.lcmp hx hb d_M_getRanged_18 ?_
  refine lv_if_ge (tgt := 24) hx hb d_M_getRanged_19 (by decide) (fun c_1 => ?_) (fun c_1 => ?_)
  · rw [lg_cmp_ge] at c_1
    obtain ⟨uu, huu⟩ : ∃ w, wnt (ns F n) RR ((CD + 4294967296 - L) % 4294967296) = some w := by
      cases hh : wnt (ns F n) RR ((CD + 4294967296 - L) % 4294967296) with
      | none => exact absurd c_1 (by rw [hw_12]; exact (oL_neg hov).mpr hh)
      | some w => exact ⟨w, rfl⟩
    have hws := wnt_some huu
    have hsg := sgA_spec hws.2.2.1
    have hm1 := ns_m1 F hsg.1
    have hxx : gr1 is n F (RR, L, CD, q) = (some (sgA F n uu), prS is (RR / ns F n * F (sgA F n uu), L + RR / ns F n * ns F (sgA F n uu), CD, q), lrn n (sgA F n uu) F) := by unfold gr1; simp only [huu]
    have z9 : r_12 = lN uu := by rw [hw_12, huu]; rfl
    subst z9
    refine lv_aload_n hx hb d_M_getRanged_24 rfl (lv_at hl 2 rfl) ?_
    refine lv_iload_n hx hb d_M_getRanged_25 rfl (lv_at hl 3 rfl) ?_
    refine lv_lload_n hx hb d_M_getRanged_26 rfl (lv_at hl 0 rfl) ?_
    refine my_ci (wr := [((g 8), Sum.inl (cI, 6000, Sum.inl vIn)), ((g 0), Sum.inl (cI, 8, Sum.inl vMany))]) (va_runV (As := [Value.int (nI mm), Value.long (lN uu)]) (rest := []) ⟨hx, hb, hml, hown, hts⟩ (c_M_signAt l dC dI cI cM cO H.size o g 1 fShift fModels fItems fEnded fLow fRange fCache fPend fGoes fOuts (nI is.length) fReads fBad fIR (nI q) fBAsk (lN CD) (lN L) (lN RR) fX fWrites fThrown vThen mm n F uu (by assumption) (by assumption) (hf) (hws.2.2.1) (by omega)) (cwV 2 hts (my_gV k1215 k1217 ks49 k12 k1218) rfl rfl rfl (by decide +kernel) ⟨by rw [hR]; exact Nat.le_of_ble_eq_true rfl, by rw [hR]; exact Nat.le_of_ble_eq_true rfl⟩) (my_preV hK hN (hP.sub [3, 2] rfl) (hD.sub [3, 2] (by decide +kernel) rfl) 0 rfl rfl) rfl rfl hl.1 rfl (lv_room (Nat.le_of_ble_eq_true rfl)) d_M_getRanged_27 ⟨by rw [hR]; exact Nat.le_of_ble_eq_true rfl, by rw [hR]; exact Nat.le_of_ble_eq_true rfl⟩) hP hD hS hA [3, 2] [0, 1] rfl rfl (by decide +kernel) (by decide +kernel) (fun r_27 u9 H locs hw_27 hP hD hS => ?_)
    have hw_27 : r_27 = nI (sgA F n uu) := hw_27
    have hPD : my_PD (dC, dI) vwCl A [((g 8), Sum.inl (cI, 6000, Sum.inl vIn)), ((g 0), Sum.inl (cI, 8, Sum.inl vMany)), (o, Sum.inr (9, mO g 1 fShift fModels fItems fEnded fLow fRange fCache fPend fGoes fOuts (nI is.length) fReads fBad fIR (nI q) fBAsk (lN CD) (lN L) (lN RR) fX fWrites fThrown)), ((g 3), Sum.inl (cI, 512, Sum.inl vThen))] H := ⟨hP, hD⟩
    have hP := hPD.1
    have hD := hPD.2
    have z9 : r_27 = nI (sgA F n uu) := hw_27
    subst z9
    refine lv_istore (lv' := [(5, Value.int (nI (sgA F n uu))), (3, Value.long (lN uu)), (2, Value.int (nI (ns F n))), (0, Value.ref o), (1, Value.int (nI mm))]) hx hb d_M_getRanged_30 hl (by decide) rfl (fun ls hl => ?_)
    refine lv_aload_n hx hb d_M_getRanged_32 rfl (lv_at hl 3 rfl) ?_
    refine lv_aload_n hx hb d_M_getRanged_33 rfl (lv_at hl 3 rfl) ?_
    refine lv_aload_n hx hb d_M_getRanged_34 rfl (lv_at hl 3 rfl) ?_
    refine va_get (D := (dC, dI)) (ci := 9) (v := .ref (g 3)) (C := "RangeCodersModel") (T := T_M) (N := 35) hx hb hg in_M hown hK hP 2 rfl rfl 6 (by decide) (hg _ k958) (fun _ h9 => h9) rfl d_M_getRanged_35 ?_
    refine lv_iload_n hx hb d_M_getRanged_38 rfl (lv_at hl 4 rfl) ?_
    refine lv_iload hx hb d_M_getRanged_39 (lv_at hl 0 rfl) ?_
    refine my_ci (wr := [((g 8), Sum.inl (cI, 6000, Sum.inl vIn)), ((g 0), Sum.inl (cI, 8, Sum.inl vMany))]) (va_runV (As := [Value.ref (g 3), Value.int (nI mm), Value.int (nI (sgA F n uu))]) (rest := [Value.ref o]) ⟨hx, hb, hml, hown, hts⟩ (c_M_before l dC dI cI cM cO H.size o g 1 fShift fModels fItems fEnded fLow fRange fCache fPend fGoes fOuts (nI is.length) fReads fBad fIR (nI q) fBAsk (lN CD) (lN L) (lN RR) fX fWrites fThrown (g 3) vThen mm (sgA F n uu) F (by assumption) (by omega) (sgI_w hf (by omega))) (cwV 3 hts (my_gV k1089 k1091 ks28 k12 k1092) rfl rfl rfl (by decide +kernel) ⟨by rw [hR]; exact Nat.le_of_ble_eq_true rfl, by rw [hR]; exact Nat.le_of_ble_eq_true rfl⟩) (my_preV hK hN (hP.sub [2, 3] rfl) (hD.sub [2, 3] (by decide +kernel) rfl) 0 rfl rfl) rfl rfl hl.1 rfl (lv_room (Nat.le_of_ble_eq_true rfl)) d_M_getRanged_41 ⟨by rw [hR]; exact Nat.le_of_ble_eq_true rfl, by rw [hR]; exact Nat.le_of_ble_eq_true rfl⟩) hP hD hS hA [2, 3] [0, 1] rfl rfl (by decide +kernel) (by decide +kernel) (fun r_41 u9 H locs hw_41 hP hD hS => ?_)
    have hw_41 : r_41 = nI (ns F (sgA F n uu)) := hw_41
    have hPD : my_PD (dC, dI) vwCl A [((g 8), Sum.inl (cI, 6000, Sum.inl vIn)), ((g 0), Sum.inl (cI, 8, Sum.inl vMany)), (o, Sum.inr (9, mO g 1 fShift fModels fItems fEnded fLow fRange fCache fPend fGoes fOuts (nI is.length) fReads fBad fIR (nI q) fBAsk (lN CD) (lN L) (lN RR) fX fWrites fThrown)), ((g 3), Sum.inl (cI, 512, Sum.inl vThen))] H := ⟨hP, hD⟩
    have hP := hPD.1
    have hD := hPD.2
    have z9 : r_41 = nI (ns F (sgA F n uu)) := hw_41
    subst z9
    refine lv_aload_n hx hb d_M_getRanged_44 rfl (lv_at hl 3 rfl) ?_
    refine va_get (D := (dC, dI)) (ci := 9) (v := .ref (g 3)) (C := "RangeCodersModel") (T := T_M) (N := 35) hx hb hg in_M hown hK hP 2 rfl rfl 6 (by decide) (hg _ k958) (fun _ h9 => h9) rfl d_M_getRanged_45 ?_
    refine lv_bipush (v := 64) hx hb d_M_getRanged_48 (by decide) ?_
    refine lv_iload_n hx hb d_M_getRanged_50 rfl (lv_at hl 4 rfl) ?_
    refine lv_imul hx hb d_M_getRanged_51 ?_
    refine lv_topi (fun v_2 ev_2 => ?_)
    refine lv_iload hx hb d_M_getRanged_52 (lv_at hl 0 rfl) ?_
    refine lv_iadd hx hb d_M_getRanged_54 ?_
    refine lv_topi (fun v_3 ev_3 => ?_)
    have hix : v_3 = nI (64 * mm + sgA F n uu) := by subst_vars; exact ix64
    refine va_iald hx hb hK hP 3 0 rfl rfl (by rw [hix]; exact vp_in_nI (by omega) (by decide)) d_M_getRanged_55 ?_
    refine lv_topi (fun v_4 ev_4 => ?_)
    have z9 : v_4 = nI (F (sgA F n uu)) := by subst_vars; rw [nI_clamp (by omega)]; exact hf _ hsg.1
    subst z9
    refine lv_iload_n hx hb d_M_getRanged_56 rfl (lv_at hl 2 rfl) ?_
    refine my_cv (wr := [((g 0), Sum.inl (cI, 8, Sum.inl vMany)), ((g 3), Sum.inl (cI, 512, Sum.inl vThen))]) (va_runV (As := [Value.int (nI (ns F (sgA F n uu))), Value.int (nI (F (sgA F n uu))), Value.int (nI (ns F n))]) (rest := []) ⟨hx, hb, hml, hown, hts⟩ (c_M_leave1 l dC dI cI cM cO H.size o g fShift fModels fItems fEnded fLow fRange fCache fPend fGoes fOuts fReads fBad fIR fBAsk fX fWrites fThrown vIn (ns F (sgA F n uu)) (F (sgA F n uu)) (ns F n) RR L CD is q (hIn) (by assumption) (by assumption) (by omega) (hws.1) (by omega) (hm1) (by omega) (hws.2.1) (hp) (by assumption)) (cwV 3 hts (my_gV k1219 k1221 ks50 k12 k1222) rfl rfl rfl (by decide +kernel) ⟨by rw [hR]; exact Nat.le_of_ble_eq_true rfl, by rw [hR]; exact Nat.le_of_ble_eq_true rfl⟩) (my_preV hK hN (hP.sub [2, 0] rfl) (hD.sub [2, 0] (by decide +kernel) rfl) 0 rfl rfl) rfl rfl hl.1 rfl (lv_room (Nat.le_of_ble_eq_true rfl)) d_M_getRanged_57 ⟨by rw [hR]; exact Nat.le_of_ble_eq_true rfl, by rw [hR]; exact Nat.le_of_ble_eq_true rfl⟩) hP hD hS hA [2, 0] [1, 3] rfl rfl (by decide +kernel) (by decide +kernel) (fun u9 H locs hw_57 hP hD hS => ?_)
    have hw_57 : True := hw_57
    have hPD : my_PD (dC, dI) vwCl A [((g 0), Sum.inl (cI, 8, Sum.inl vMany)), ((g 3), Sum.inl (cI, 512, Sum.inl vThen)), (o, Sum.inr (9, mO g 1 fShift fModels fItems fEnded fLow fRange fCache fPend fGoes fOuts (nI is.length) fReads fBad fIR (nI (prS is (RR / (ns F n) * (F (sgA F n uu)), L + RR / (ns F n) * (ns F (sgA F n uu)), CD, q)).2.2.2) fBAsk (lN (prS is (RR / (ns F n) * (F (sgA F n uu)), L + RR / (ns F n) * (ns F (sgA F n uu)), CD, q)).2.2.1) (lN (prS is (RR / (ns F n) * (F (sgA F n uu)), L + RR / (ns F n) * (ns F (sgA F n uu)), CD, q)).2.1) (lN (prS is (RR / (ns F n) * (F (sgA F n uu)), L + RR / (ns F n) * (ns F (sgA F n uu)), CD, q)).1) fX fWrites fThrown)), ((g 8), Sum.inl (cI, 6000, Sum.inl vIn))] H := ⟨hP, hD⟩
    have hP := hPD.1
    have hD := hPD.2
    refine lv_aload_n hx hb d_M_getRanged_60 rfl (lv_at hl 3 rfl) ?_
    refine lv_aload_n hx hb d_M_getRanged_61 rfl (lv_at hl 3 rfl) ?_
    refine va_get (D := (dC, dI)) (ci := 9) (v := .ref (g 3)) (C := "RangeCodersModel") (T := T_M) (N := 35) hx hb hg in_M hown hK hP 2 rfl rfl 6 (by decide) (hg _ k958) (fun _ h9 => h9) rfl d_M_getRanged_62 ?_
    refine lv_iload_n hx hb d_M_getRanged_65 rfl (lv_at hl 4 rfl) ?_
    refine lv_iload hx hb d_M_getRanged_66 (lv_at hl 0 rfl) ?_
    refine my_cv (wr := [((g 8), Sum.inl (cI, 6000, Sum.inl vIn))]) (va_runV (As := [Value.ref (g 3), Value.int (nI mm), Value.int (nI (sgA F n uu))]) (rest := []) ⟨hx, hb, hml, hown, hts⟩ (c_M_learn l dC dI cI cM cO H.size o g 1 fShift fModels fItems fEnded fLow fRange fCache fPend fGoes fOuts (nI is.length) fReads fBad fIR (nI (prS is (RR / (ns F n) * (F (sgA F n uu)), L + RR / (ns F n) * (ns F (sgA F n uu)), CD, q)).2.2.2) fBAsk (lN (prS is (RR / (ns F n) * (F (sgA F n uu)), L + RR / (ns F n) * (ns F (sgA F n uu)), CD, q)).2.2.1) (lN (prS is (RR / (ns F n) * (F (sgA F n uu)), L + RR / (ns F n) * (ns F (sgA F n uu)), CD, q)).2.1) (lN (prS is (RR / (ns F n) * (F (sgA F n uu)), L + RR / (ns F n) * (ns F (sgA F n uu)), CD, q)).1) fX fWrites fThrown vMany (g 3) vThen mm n (sgA F n uu) F (by assumption) (by assumption) (by assumption) (hsg.1) (hf) (hbd)) (cwV 3 hts (my_gV k1119 k1121 ks34 k12 k1122) rfl rfl rfl (by decide +kernel) ⟨by rw [hR]; exact Nat.le_of_ble_eq_true rfl, by rw [hR]; exact Nat.le_of_ble_eq_true rfl⟩) (my_preV hK hN (hP.sub [2, 0, 1] rfl) (hD.sub [2, 0, 1] (by decide +kernel) rfl) 0 rfl rfl) rfl rfl hl.1 rfl (lv_room (Nat.le_of_ble_eq_true rfl)) d_M_getRanged_68 ⟨by rw [hR]; exact Nat.le_of_ble_eq_true rfl, by rw [hR]; exact Nat.le_of_ble_eq_true rfl⟩) hP hD hS hA [2, 0, 1] [3] rfl rfl (by decide +kernel) (by decide +kernel) (fun u9 H locs hw_68 hP hD hS => ?_)
    obtain ⟨f2_68, rfl⟩ : ∃ z, z = u9 := ⟨_, rfl⟩
    have hw_68 : sgI f2_68 (64 * mm) n (lrn n (sgA F n uu) F) ∧ sgO f2_68 vThen (64 * mm) n := hw_68
    have hPD : my_PD (dC, dI) vwCl A [((g 8), Sum.inl (cI, 6000, Sum.inl vIn)), (o, Sum.inr (9, mO g 1 fShift fModels fItems fEnded fLow fRange fCache fPend fGoes fOuts (nI is.length) fReads fBad fIR (nI (prS is (RR / (ns F n) * (F (sgA F n uu)), L + RR / (ns F n) * (ns F (sgA F n uu)), CD, q)).2.2.2) fBAsk (lN (prS is (RR / (ns F n) * (F (sgA F n uu)), L + RR / (ns F n) * (ns F (sgA F n uu)), CD, q)).2.2.1) (lN (prS is (RR / (ns F n) * (F (sgA F n uu)), L + RR / (ns F n) * (ns F (sgA F n uu)), CD, q)).2.1) (lN (prS is (RR / (ns F n) * (F (sgA F n uu)), L + RR / (ns F n) * (ns F (sgA F n uu)), CD, q)).1) fX fWrites fThrown)), ((g 0), Sum.inl (cI, 8, Sum.inl vMany)), ((g 3), Sum.inl (cI, 512, Sum.inl f2_68))] H := ⟨hP, hD⟩
    have hP := hPD.1
    have hD := hPD.2
    refine lv_iload hx hb d_M_getRanged_71 (lv_at hl 0 rfl) ?_
    exact my_iret (v := (nI (sgA F n uu))) hx hb hr (rfl) hlocks hQ hK hS (Nat.le_refl _) (Nat.le_refl _) f2_68 (by rw [hxx]; exact ⟨rfl, hw_68.1, hw_68.2⟩) (by rw [hxx]; exact (hP.sub [1, 2, 3, 0] rfl)) (by rw [hxx]; exact (hD.sub [1, 2, 3, 0] (by decide +kernel) rfl)) d_M_getRanged_73
  · rw [lg_cmp_ge] at c_1
    have hno : wnt (ns F n) RR ((CD + 4294967296 - L) % 4294967296) = none := (oL_neg hov).mp (by rw [← hw_12]; exact c_1)
    have hxx : gr1 is n F (RR, L, CD, q) = (none, (RR, L, CD, q), F) := by unfold gr1; simp only [hno]
    refine lv_iconst (v := (-1)) hx hb d_M_getRanged_22 (by decide) ?_
    exact my_iret (v := (-1)) hx hb hr (rfl) hlocks hQ hK hS (Nat.le_refl _) (Nat.le_refl _) vThen (by rw [hxx]; exact ⟨rfl, hf, sgO_rf _ _ _⟩) (by rw [hxx]; exact (hP.sub [3, 1, 2, 0] rfl)) (by rw [hxx]; exact (hD.sub [3, 1, 2, 0] (by decide +kernel) rfl)) d_M_getRanged_23
set_option maxHeartbeats 1000000 in
set_option maxRecDepth 100000 in
/-- getStacked -/
theorem c_M_getStacked (l : Launch) (dC : Nat → ClassId) (dI : Nat → Nat → Nat) (cI cM cO : ClassId) (sz : Nat) (o : Nat) (g : Nat → Nat) (fForm : Int32) (fShift : Int32) (fModels : Int32) (fItems : Int32) (fEnded : Int32) (fLow : Int64) (fRange : Int64) (fCache : Int32) (fPend : Int32) (fGoes : Int32) (fOuts : Int32) (fReads : Int32) (fBad : Int32) (fIR : Int32) (fBAsk : Int32) (fCode : Int64) (fRL : Int64) (fRR : Int64) (fWrites : Int32) (fThrown : Int32) (vMany : Nat → Int32) (vThen : Nat → Int32) (vIn : Nat → Int32) (mm : Nat) (n : Nat) (F : Nat → Nat) (X : Nat) (is : List Nat) (q : Nat) (hmm : mm < 8) (hn : vMany mm = nI n) (hn2 : n ≤ 64) (hIn : gIs vIn is) (hlen : is.length ≤ 6000) (hoct : oct is) (hq : q < 800000) (hf : sgI vThen (64 * mm) n F) (hsum : ns F n = 0 ∨ ns F n = 4096) (hX0 : 8388608 ≤ X) (hX1 : X < 4294967296) : MetI l y_M_getStacked (Cond.code y_M_getStacked prog_14_method_53_code 4 (some .int) :: gw) ({ frames := 2, cells := 0, slots := 0, locals := 41 } : Room) (dC, dI) vwCl (kT cI cM cO) [Value.ref o, Value.int (nI mm)] [(o, Sum.inr (9, mO g fForm fShift fModels fItems fEnded fLow fRange fCache fPend fGoes fOuts (nI is.length) fReads fBad fIR (nI q) fBAsk fCode fRL fRR (lN X) fWrites fThrown)), ((g 0), Sum.inl (cI, 8, Sum.inl vMany)), ((g 3), Sum.inl (cI, 512, Sum.inl vThen)), ((g 8), Sum.inl (cI, 6000, Sum.inl vIn))] sz (fun (r : Int32) (u : Unit) => r = oI (gs3 is n F X q).1) (fun (u : Unit) => [(o, Sum.inr (9, mO g fForm fShift fModels fItems fEnded fLow fRange fCache fPend fGoes fOuts (nI is.length) fReads fBad fIR (nI (gs3 is n F X q).2.2) fBAsk fCode fRL fRR (lN (gs3 is n F X q).2.1) fWrites fThrown)), ((g 0), Sum.inl (cI, 8, Sum.inl vMany)), ((g 3), Sum.inl (cI, 512, Sum.inl vThen)), ((g 8), Sum.inl (cI, 6000, Sum.inl vIn))]) 0 0 := by
  refine my_ofI (cc := prog_14_method_53_code) (n := 4) (ret := (some .int)) (by decide) rfl (Nat.le_of_ble_eq_true rfl) ?_
  intro p e s m args below meth c R Q A ls H locs hx hb hr hts hown hlocks hml hnm hR hQ hA hl hP hK hN hD hS
  have hg : ∀ w ∈ gw, w.before args s = true := fun w h => hts w (List.mem_cons_of_mem _ h)
  have hown : s.vm.findClass "RangeCodersModel" = some m.cls := hown
  have hl : lv_has ls 4 [(0, Value.ref o), (1, Value.int (nI mm))] := hl
  refine lv_aload_n hx hb d_M_getStacked_0 rfl (lv_at hl 0 rfl) ?_
  refine lv_aload_n hx hb d_M_getStacked_1 rfl (lv_at hl 0 rfl) ?_
  refine va_get (D := (dC, dI)) (ci := 9) (v := .ref (g 3)) (C := "RangeCodersModel") (T := T_M) (N := 35) hx hb hg in_M hown hK hP 0 rfl rfl 6 (by decide) (hg _ k958) (fun _ h9 => h9) rfl d_M_getStacked_2 ?_
  refine lv_iload_n hx hb d_M_getStacked_5 rfl (lv_at hl 1 rfl) ?_
  refine my_ci (wr := [((g 8), Sum.inl (cI, 6000, Sum.inl vIn))]) (va_runV (As := [Value.ref (g 3), Value.int (nI mm)]) (rest := []) ⟨hx, hb, hml, hown, hts⟩ (c_M_sum l dC dI cI cM cO H.size o g fForm fShift fModels fItems fEnded fLow fRange fCache fPend fGoes fOuts (nI is.length) fReads fBad fIR (nI q) fBAsk fCode fRL fRR (lN X) fWrites fThrown vMany (g 3) vThen mm n F (by assumption) (by assumption) (by assumption) (hf)) (cwV 2 hts (my_gV k936 k938 ks21 k12 k939) rfl rfl rfl (by decide +kernel) ⟨by rw [hR]; exact Nat.le_of_ble_eq_true rfl, by rw [hR]; exact Nat.le_of_ble_eq_true rfl⟩) (my_preV hK hN (hP.sub [0, 1, 2] rfl) (hD.sub [0, 1, 2] (by decide +kernel) rfl) 0 rfl rfl) rfl rfl hl.1 rfl (lv_room (Nat.le_of_ble_eq_true rfl)) d_M_getStacked_6 ⟨by rw [hR]; exact Nat.le_of_ble_eq_true rfl, by rw [hR]; exact Nat.le_of_ble_eq_true rfl⟩) hP hD hS hA [0, 1, 2] [3] rfl rfl (by decide +kernel) (by decide +kernel) (fun r_6 u9 H locs hw_6 hP hD hS => ?_)
  have hw_6 : r_6 = nI (ns F n) := hw_6
  have hPD : my_PD (dC, dI) vwCl A [((g 8), Sum.inl (cI, 6000, Sum.inl vIn)), (o, Sum.inr (9, mO g fForm fShift fModels fItems fEnded fLow fRange fCache fPend fGoes fOuts (nI is.length) fReads fBad fIR (nI q) fBAsk fCode fRL fRR (lN X) fWrites fThrown)), ((g 0), Sum.inl (cI, 8, Sum.inl vMany)), ((g 3), Sum.inl (cI, 512, Sum.inl vThen))] H := ⟨hP, hD⟩
  have hP := hPD.1
  have hD := hPD.2
  refine lv_if_ne (tgt := 14) hx hb d_M_getStacked_9 (by decide) (fun c_1 => ?_) (fun c_1 => ?_)
  · have hnz : ¬ ns F n = 0 := fun z => c_1 (by rw [hw_6, z]; rfl)
    have h40 : ns F n = 4096 := by omega
    have hv4 := Nat.mod_lt X (show 0 < 4096 by decide)
    have hsg := sgA_spec (F := F) (n := n) (u := X % 4096) (by omega)
    have hm1 := ns_m1 F hsg.1
    have hF1 : 1 ≤ F (sgA F n (X % 4096)) := by omega
    have hF2 : F (sgA F n (X % 4096)) ≤ 4096 := by omega
    have hp1 : X / 4096 * 1 ≤ X / 4096 * F (sgA F n (X % 4096)) := Nat.mul_le_mul_left _ hF1
    have hp2 : X / 4096 * F (sgA F n (X % 4096)) ≤ X / 4096 * 4096 := Nat.mul_le_mul_left _ hF2
    have hxx : gs3 is n F X q = (some (sgA F n (X % 4096)), rfS is (X / 4096 * F (sgA F n (X % 4096)) + X % 4096 - ns F (sgA F n (X % 4096)), q)) := by unfold gs3; rw [if_neg hnz]
    refine lv_aload_n hx hb d_M_getStacked_14 rfl (lv_at hl 0 rfl) ?_
    refine va_get (D := (dC, dI)) (ci := 9) (v := .long (lN X)) (C := "RangeCodersModel") (T := T_M) (N := 35) hx hb hg in_M hown hK hP 1 rfl rfl 29 (by decide) (hg _ k981) (fun _ h9 => h9) rfl d_M_getStacked_15 ?_
    refine lv_ldc2 (v := 4095) hx hb hown (hg _ k1243) d_M_getStacked_18 ?_
    refine lv_land hx hb d_M_getStacked_21 ?_
    refine lv_topl (fun v_2 ev_2 => ?_)
    refine lv_l2i hx hb d_M_getStacked_22 rfl ?_
    refine lv_topi (fun v_3 ev_3 => ?_)
    have z9 : v_3 = nI (X % 4096) := by subst_vars; rw [L_and12 (by omega)]; exact lN_i _
    subst z9
    refine lv_istore_n (lv' := [(2, Value.int (nI (X % 4096))), (0, Value.ref o), (1, Value.int (nI mm))]) hx hb d_M_getStacked_23 rfl hl (by decide) rfl (fun ls hl => ?_)
    refine lv_aload_n hx hb d_M_getStacked_24 rfl (lv_at hl 1 rfl) ?_
    refine lv_iload_n hx hb d_M_getStacked_25 rfl (lv_at hl 2 rfl) ?_
    refine lv_iload_n hx hb d_M_getStacked_26 rfl (lv_at hl 0 rfl) ?_
    refine lv_i2l hx hb d_M_getStacked_27 rfl ?_
    refine lv_topl (fun v_4 ev_4 => ?_)
    have z9 : v_4 = lN (X % 4096) := by subst_vars; exact nI_l (by omega)
    subst z9
    refine my_ci (wr := [((g 8), Sum.inl (cI, 6000, Sum.inl vIn)), ((g 0), Sum.inl (cI, 8, Sum.inl vMany))]) (va_runV (As := [Value.int (nI mm), Value.long (lN (X % 4096))]) (rest := []) ⟨hx, hb, hml, hown, hts⟩ (c_M_signAt l dC dI cI cM cO H.size o g fForm fShift fModels fItems fEnded fLow fRange fCache fPend fGoes fOuts (nI is.length) fReads fBad fIR (nI q) fBAsk fCode fRL fRR (lN X) fWrites fThrown vThen mm n F (X % 4096) (by assumption) (by assumption) (hf) (by omega) (by omega)) (cwV 2 hts (my_gV k1215 k1217 ks49 k12 k1218) rfl rfl rfl (by decide +kernel) ⟨by rw [hR]; exact Nat.le_of_ble_eq_true rfl, by rw [hR]; exact Nat.le_of_ble_eq_true rfl⟩) (my_preV hK hN (hP.sub [1, 3] rfl) (hD.sub [1, 3] (by decide +kernel) rfl) 0 rfl rfl) rfl rfl hl.1 rfl (lv_room (Nat.le_of_ble_eq_true rfl)) d_M_getStacked_28 ⟨by rw [hR]; exact Nat.le_of_ble_eq_true rfl, by rw [hR]; exact Nat.le_of_ble_eq_true rfl⟩) hP hD hS hA [1, 3] [0, 2] rfl rfl (by decide +kernel) (by decide +kernel) (fun r_28 u9 H locs hw_28 hP hD hS => ?_)
    have hw_28 : r_28 = nI (sgA F n (X % 4096)) := hw_28
    have hPD : my_PD (dC, dI) vwCl A [((g 8), Sum.inl (cI, 6000, Sum.inl vIn)), ((g 0), Sum.inl (cI, 8, Sum.inl vMany)), (o, Sum.inr (9, mO g fForm fShift fModels fItems fEnded fLow fRange fCache fPend fGoes fOuts (nI is.length) fReads fBad fIR (nI q) fBAsk fCode fRL fRR (lN X) fWrites fThrown)), ((g 3), Sum.inl (cI, 512, Sum.inl vThen))] H := ⟨hP, hD⟩
    have hP := hPD.1
    have hD := hPD.2
    have z9 : r_28 = nI (sgA F n (X % 4096)) := hw_28
    subst z9
    refine lv_istore_n (lv' := [(3, Value.int (nI (sgA F n (X % 4096)))), (2, Value.int (nI (X % 4096))), (0, Value.ref o), (1, Value.int (nI mm))]) hx hb d_M_getStacked_31 rfl hl (by decide) rfl (fun ls hl => ?_)
    refine lv_aload_n hx hb d_M_getStacked_32 rfl (lv_at hl 2 rfl) ?_
    refine lv_aload_n hx hb d_M_getStacked_33 rfl (lv_at hl 2 rfl) ?_
    refine va_get (D := (dC, dI)) (ci := 9) (v := .long (lN X)) (C := "RangeCodersModel") (T := T_M) (N := 35) hx hb hg in_M hown hK hP 2 rfl rfl 29 (by decide) (hg _ k981) (fun _ h9 => h9) rfl d_M_getStacked_34 ?_
    refine lv_bipush (v := 12) hx hb d_M_getStacked_37 (by decide) ?_
    refine lv_lshr hx hb d_M_getStacked_39 rfl ?_
    refine lv_topl (fun v_5 ev_5 => ?_)
    refine lv_aload_n hx hb d_M_getStacked_40 rfl (lv_at hl 2 rfl) ?_
    refine va_get (D := (dC, dI)) (ci := 9) (v := .ref (g 3)) (C := "RangeCodersModel") (T := T_M) (N := 35) hx hb hg in_M hown hK hP 2 rfl rfl 6 (by decide) (hg _ k958) (fun _ h9 => h9) rfl d_M_getStacked_41 ?_
    refine lv_bipush (v := 64) hx hb d_M_getStacked_44 (by decide) ?_
    refine lv_iload_n hx hb d_M_getStacked_46 rfl (lv_at hl 3 rfl) ?_
    refine lv_imul hx hb d_M_getStacked_47 ?_
    refine lv_topi (fun v_6 ev_6 => ?_)
    refine lv_iload_n hx hb d_M_getStacked_48 rfl (lv_at hl 0 rfl) ?_
    refine lv_iadd hx hb d_M_getStacked_49 ?_
    refine lv_topi (fun v_7 ev_7 => ?_)
    have hix : v_7 = nI (64 * mm + sgA F n (X % 4096)) := by subst_vars; exact ix64
    refine va_iald hx hb hK hP 3 0 rfl rfl (by rw [hix]; exact vp_in_nI (by omega) (by decide)) d_M_getStacked_50 ?_
    refine lv_topi (fun v_8 ev_8 => ?_)
    have z9 : v_8 = nI (F (sgA F n (X % 4096))) := by subst_vars; rw [nI_clamp (by omega)]; exact hf _ hsg.1
    subst z9
    refine lv_i2l hx hb d_M_getStacked_51 rfl ?_
    refine lv_topl (fun v_9 ev_9 => ?_)
    refine lv_lmul hx hb d_M_getStacked_52 ?_
    refine lv_topl (fun v_10 ev_10 => ?_)
    refine lv_iload_n hx hb d_M_getStacked_53 rfl (lv_at hl 1 rfl) ?_
    refine lv_i2l hx hb d_M_getStacked_54 rfl ?_
    refine lv_topl (fun v_11 ev_11 => ?_)
    refine lv_ladd hx hb d_M_getStacked_55 ?_
    refine lv_topl (fun v_12 ev_12 => ?_)
    refine lv_aload_n hx hb d_M_getStacked_56 rfl (lv_at hl 2 rfl) ?_
    refine lv_aload_n hx hb d_M_getStacked_57 rfl (lv_at hl 2 rfl) ?_
    refine va_get (D := (dC, dI)) (ci := 9) (v := .ref (g 3)) (C := "RangeCodersModel") (T := T_M) (N := 35) hx hb hg in_M hown hK hP 2 rfl rfl 6 (by decide) (hg _ k958) (fun _ h9 => h9) rfl d_M_getStacked_58 ?_
    refine lv_iload_n hx hb d_M_getStacked_61 rfl (lv_at hl 3 rfl) ?_
    refine lv_iload_n hx hb d_M_getStacked_62 rfl (lv_at hl 0 rfl) ?_
    refine my_ci (wr := [((g 8), Sum.inl (cI, 6000, Sum.inl vIn)), ((g 0), Sum.inl (cI, 8, Sum.inl vMany))]) (va_runV (As := [Value.ref (g 3), Value.int (nI mm), Value.int (nI (sgA F n (X % 4096)))]) (rest := [Value.long v_12, Value.ref o]) ⟨hx, hb, hml, hown, hts⟩ (c_M_before l dC dI cI cM cO H.size o g fForm fShift fModels fItems fEnded fLow fRange fCache fPend fGoes fOuts (nI is.length) fReads fBad fIR (nI q) fBAsk fCode fRL fRR (lN X) fWrites fThrown (g 3) vThen mm (sgA F n (X % 4096)) F (by assumption) (by omega) (sgI_w hf (by omega))) (cwV 3 hts (my_gV k1089 k1091 ks28 k12 k1092) rfl rfl rfl (by decide +kernel) ⟨by rw [hR]; exact Nat.le_of_ble_eq_true rfl, by rw [hR]; exact Nat.le_of_ble_eq_true rfl⟩) (my_preV hK hN (hP.sub [2, 3] rfl) (hD.sub [2, 3] (by decide +kernel) rfl) 0 rfl rfl) rfl rfl hl.1 rfl (lv_room (Nat.le_of_ble_eq_true rfl)) d_M_getStacked_63 ⟨by rw [hR]; exact Nat.le_of_ble_eq_true rfl, by rw [hR]; exact Nat.le_of_ble_eq_true rfl⟩) hP hD hS hA [2, 3] [0, 1] rfl rfl (by decide +kernel) (by decide +kernel) (fun r_63 u9 H locs hw_63 hP hD hS => ?_)
    have hw_63 : r_63 = nI (ns F (sgA F n (X % 4096))) := hw_63
    have hPD : my_PD (dC, dI) vwCl A [((g 8), Sum.inl (cI, 6000, Sum.inl vIn)), ((g 0), Sum.inl (cI, 8, Sum.inl vMany)), (o, Sum.inr (9, mO g fForm fShift fModels fItems fEnded fLow fRange fCache fPend fGoes fOuts (nI is.length) fReads fBad fIR (nI q) fBAsk fCode fRL fRR (lN X) fWrites fThrown)), ((g 3), Sum.inl (cI, 512, Sum.inl vThen))] H := ⟨hP, hD⟩
    have hP := hPD.1
    have hD := hPD.2
    refine lv_i2l hx hb d_M_getStacked_66 rfl ?_
    refine lv_topl (fun v_13 ev_13 => ?_)
    refine lv_lsub hx hb d_M_getStacked_67 ?_
    refine lv_topl (fun v_14 ev_14 => ?_)
    have z9 : v_14 = lN (X / 4096 * F (sgA F n (X % 4096)) + X % 4096 - ns F (sgA F n (X % 4096))) := by subst_vars; rw [hw_63, L_shr12 (by omega), nI_l (by omega), nI_l (by omega), nI_l (by omega), lN_mul, lN_add]; exact lN_sub (by omega)
    subst z9
    refine va_put (D := (dC, dI)) (ci := 9) (v := .long (lN (X / 4096 * F (sgA F n (X % 4096)) + X % 4096 - ns F (sgA F n (X % 4096))))) (ty := .long) (C := "RangeCodersModel") (T := T_M) (N := 35) hx hb hg in_M t_M o_M n_M hown hK hP hD hS 2 rfl rfl 29 (by decide) (hg _ k981) (fun _ h9 => h9) rfl (by decide +kernel) rfl rfl (Nat.le_of_ble_eq_true rfl) d_M_getStacked_68 (fun H locs hP hD hS => ?_)
    have hPD : my_PD (dC, dI) vwCl A [((g 8), Sum.inl (cI, 6000, Sum.inl vIn)), ((g 0), Sum.inl (cI, 8, Sum.inl vMany)), (o, Sum.inr (9, mO g fForm fShift fModels fItems fEnded fLow fRange fCache fPend fGoes fOuts (nI is.length) fReads fBad fIR (nI q) fBAsk fCode fRL fRR (lN (X / 4096 * F (sgA F n (X % 4096)) + X % 4096 - ns F (sgA F n (X % 4096)))) fWrites fThrown)), ((g 3), Sum.inl (cI, 512, Sum.inl vThen))] H := ⟨hP, hD⟩
    have hP := hPD.1
    have hD := hPD.2
    refine lv_aload_n hx hb d_M_getStacked_71 rfl (lv_at hl 2 rfl) ?_
    refine my_cv (wr := [((g 0), Sum.inl (cI, 8, Sum.inl vMany)), ((g 3), Sum.inl (cI, 512, Sum.inl vThen))]) (va_runV (As := []) (rest := []) ⟨hx, hb, hml, hown, hts⟩ (c_M_refill l dC dI cI cM cO H.size o g fForm fShift fModels fItems fEnded fLow fRange fCache fPend fGoes fOuts fReads fBad fIR fBAsk fCode fRL fRR fWrites fThrown vIn (X / 4096 * F (sgA F n (X % 4096)) + X % 4096 - ns F (sgA F n (X % 4096))) is q (hIn) (by assumption) (by assumption) (by omega) (by omega) (by omega)) (cwV 0 hts (my_gV k1244 k1246 ks56 k12 k1247) rfl rfl rfl (by decide +kernel) ⟨by rw [hR]; exact Nat.le_of_ble_eq_true rfl, by rw [hR]; exact Nat.le_of_ble_eq_true rfl⟩) (my_preV hK hN (hP.sub [2, 0] rfl) (hD.sub [2, 0] (by decide +kernel) rfl) 0 rfl rfl) rfl rfl hl.1 rfl (lv_room (Nat.le_of_ble_eq_true rfl)) d_M_getStacked_72 ⟨by rw [hR]; exact Nat.le_of_ble_eq_true rfl, by rw [hR]; exact Nat.le_of_ble_eq_true rfl⟩) hP hD hS hA [2, 0] [1, 3] rfl rfl (by decide +kernel) (by decide +kernel) (fun u9 H locs hw_72 hP hD hS => ?_)
    have hw_72 : True := hw_72
    have hPD : my_PD (dC, dI) vwCl A [((g 0), Sum.inl (cI, 8, Sum.inl vMany)), ((g 3), Sum.inl (cI, 512, Sum.inl vThen)), (o, Sum.inr (9, mO g fForm fShift fModels fItems fEnded fLow fRange fCache fPend fGoes fOuts (nI is.length) fReads fBad fIR (nI (rfS is ((X / 4096 * F (sgA F n (X % 4096)) + X % 4096 - ns F (sgA F n (X % 4096))), q)).2) fBAsk fCode fRL fRR (lN (rfS is ((X / 4096 * F (sgA F n (X % 4096)) + X % 4096 - ns F (sgA F n (X % 4096))), q)).1) fWrites fThrown)), ((g 8), Sum.inl (cI, 6000, Sum.inl vIn))] H := ⟨hP, hD⟩
    have hP := hPD.1
    have hD := hPD.2
    refine lv_iload_n hx hb d_M_getStacked_75 rfl (lv_at hl 0 rfl) ?_
    exact my_iret (v := (nI (sgA F n (X % 4096)))) hx hb hr (rfl) hlocks hQ hK hS (Nat.le_refl _) (Nat.le_refl _) () (by rw [hxx]; rfl) (by rw [hxx]; exact (hP.sub [2, 0, 1, 3] rfl)) (by rw [hxx]; exact (hD.sub [2, 0, 1, 3] (by decide +kernel) rfl)) d_M_getStacked_76
  · have hz : ns F n = 0 := (nI_eq (b := 0) (by omega) (by decide)).mp (by rw [← hw_6]; exact c_1)
    have hxx : gs3 is n F X q = (none, (X, q)) := by unfold gs3; rw [if_pos hz]
    refine lv_iconst (v := (-1)) hx hb d_M_getStacked_12 (by decide) ?_
    exact my_iret (v := (-1)) hx hb hr (rfl) hlocks hQ hK hS (Nat.le_refl _) (Nat.le_refl _) () (by rw [hxx]; rfl) (by rw [hxx]; exact (hP.sub [1, 2, 3, 0] rfl)) (by rw [hxx]; exact (hD.sub [1, 2, 3, 0] (by decide +kernel) rfl)) d_M_getStacked_13
end
section
set_option maxHeartbeats 1000000 in
set_option maxRecDepth 100000 in
/-- valueOf, form 0 -/
theorem c_M_valueOf0 (l : Launch) (dC : Nat → ClassId) (dI : Nat → Nat → Nat) (cI cM cO : ClassId) (sz : Nat) (o : Nat) (g : Nat → Nat) (fShift : Int32) (fModels : Int32) (fItems : Int32) (fEnded : Int32) (fLow : Int64) (fRange : Int64) (fCache : Int32) (fPend : Int32) (fGoes : Int32) (fOuts : Int32) (fReads : Int32) (fBad : Int32) (fIR : Int32) (fBAsk : Int32) (fRL : Int64) (fX : Int64) (fWrites : Int32) (fThrown : Int32) (vIn : Nat → Int32) (b : Nat) (RR : Nat) (CD : Nat) (is : List Nat) (q : Nat) (hb1 : 1 ≤ b) (hb2 : b ≤ 12) (hIn : gIs vIn is) (hlen : is.length ≤ 6000) (hoct : oct is) (hq : q < 800000) (hR1 : RR < 4294967296) (hC : CD < 4294967296) : MetI l y_M_valueOf (Cond.code y_M_valueOf prog_14_method_58_code 5 (some .int) :: gw) ({ frames := 3, cells := 0, slots := 0, locals := 66 } : Room) (dC, dI) vwCl (kT cI cM cO) [Value.ref o, Value.int (nI b)] [(o, Sum.inr (9, mO g 0 fShift fModels fItems fEnded fLow fRange fCache fPend fGoes fOuts (nI is.length) fReads fBad fIR (nI q) fBAsk (lN CD) fRL (lN RR) fX fWrites fThrown)), ((g 8), Sum.inl (cI, 6000, Sum.inl vIn))] sz (fun (r : Int32) (u : Unit) => r = oI (gv0 is b (RR, CD, q)).1) (fun (u : Unit) => [(o, Sum.inr (9, mO g 0 fShift fModels fItems fEnded fLow fRange fCache fPend fGoes fOuts (nI is.length) fReads fBad fIR (nI (gv0 is b (RR, CD, q)).2.2.2) fBAsk (lN (gv0 is b (RR, CD, q)).2.2.1) fRL (lN (gv0 is b (RR, CD, q)).2.1) fX fWrites fThrown)), ((g 8), Sum.inl (cI, 6000, Sum.inl vIn))]) 0 0 := by
  refine my_ofI (cc := prog_14_method_58_code) (n := 5) (ret := (some .int)) (by decide) rfl (Nat.le_of_ble_eq_true rfl) ?_
  intro p e s m args below meth c R Q A ls H locs hx hb hr hts hown hlocks hml hnm hR hQ hA hl hP hK hN hD hS
  have hg : ∀ w ∈ gw, w.before args s = true := fun w h => hts w (List.mem_cons_of_mem _ h)
  have hown : s.vm.findClass "RangeCodersModel" = some m.cls := hown
  have hl : lv_has ls 5 [(0, Value.ref o), (1, Value.int (nI b))] := hl
  have hpw : 2 ^ b ≤ 2 ^ 12 := Nat.pow_le_pow_right (by decide) hb2
  have hov : ∀ w, wnt (2 ^ b) RR CD = some w → w < 2 ^ 63 := fun w hw => by have := (wnt_some hw).2.2.1; omega
  refine lv_aload_n hx hb d_M_valueOf_0 rfl (lv_at hl 0 rfl) ?_
  refine va_get (D := (dC, dI)) (ci := 9) (v := .int 0) (C := "RangeCodersModel") (T := T_M) (N := 35) hx hb hg in_M hown hK hP 0 rfl rfl 0 (by decide) (hg _ k952) (fun _ h9 => h9) rfl d_M_valueOf_1 ?_
  refine lv_iconst (v := 2) hx hb d_M_valueOf_4 (by decide) ?_
  refine lv_icmp_ge (tgt := 35) hx hb d_M_valueOf_5 (by decide) (fun c_1 => ?_) (fun c_1 => ?_)
  · exact absurd c_1 (by decide)
  · refine lv_aload_n hx hb d_M_valueOf_8 rfl (lv_at hl 0 rfl) ?_
    refine lv_iconst (v := 1) hx hb d_M_valueOf_9 (by decide) ?_
    refine lv_iload_n hx hb d_M_valueOf_10 rfl (lv_at hl 1 rfl) ?_
    refine lv_ishl hx hb d_M_valueOf_11 ?_
    refine lv_topi (fun v_2 ev_2 => ?_)
    have z9 : v_2 = nI (2 ^ b) := by subst_vars; exact shl1 b (by omega)
    subst z9
    refine my_cl (wr := [((g 8), Sum.inl (cI, 6000, Sum.inl vIn))]) (va_runV (As := [Value.int (nI (2 ^ b))]) (rest := []) ⟨hx, hb, hml, hown, hts⟩ (c_M_wanted0 l dC dI cI cM cO H.size o g fShift fModels fItems fEnded fLow fRange fCache fPend fGoes fOuts (nI is.length) fReads fBad fIR (nI q) fBAsk fRL fX fWrites fThrown (2 ^ b) RR CD (by omega) (hR1) (by assumption)) (cwV 1 hts (my_gV k1210 k1212 ks48 k12 k1213) rfl rfl rfl (by decide +kernel) ⟨by rw [hR]; exact Nat.le_of_ble_eq_true rfl, by rw [hR]; exact Nat.le_of_ble_eq_true rfl⟩) (my_preV hK hN (hP.sub [0] rfl) (hD.sub [0] (by decide +kernel) rfl) 0 rfl rfl) rfl rfl hl.1 rfl (lv_room (Nat.le_of_ble_eq_true rfl)) d_M_valueOf_12 ⟨by rw [hR]; exact Nat.le_of_ble_eq_true rfl, by rw [hR]; exact Nat.le_of_ble_eq_true rfl⟩) hP hD hS hA [0] [1] rfl rfl (by decide +kernel) (by decide +kernel) (fun r_12 u9 H locs hw_12 hP hD hS => ?_)
    have hw_12 : r_12 = oL (wnt (2 ^ b) RR CD) := hw_12
    have hPD : my_PD (dC, dI) vwCl A [((g 8), Sum.inl (cI, 6000, Sum.inl vIn)), (o, Sum.inr (9, mO g 0 fShift fModels fItems fEnded fLow fRange fCache fPend fGoes fOuts (nI is.length) fReads fBad fIR (nI q) fBAsk (lN CD) fRL (lN RR) fX fWrites fThrown))] H := ⟨hP, hD⟩
    have hP := hPD.1
    have hD := hPD.2
    refine lv_lstore_n (lv' := [(2, Value.long r_12), (0, Value.ref o), (1, Value.int (nI b))]) hx hb d_M_valueOf_15 rfl hl (by decide) rfl (fun ls hl => ?_)
    refine lv_lload_n hx hb d_M_valueOf_16 rfl (lv_at hl 0 rfl) ?_
    refine lv_lconst (v := 0) hx hb d_M_valueOf_17 (by decide) ?_
    refine W.lcmp hx hb d_M_valueOf_18 ?_
    refine lv_if_lt (tgt := 32) hx hb d_M_valueOf_19 (by decide) (fun c_3 => ?_) (fun c_3 => ?_)
    · rw [lg_cmp_lt] at c_3
      have hno : wnt (2 ^ b) RR CD = none := by
        cases hh : wnt (2 ^ b) RR CD with
        | none => rfl
        | some w => exact absurd c_3 (by rw [hw_12, hh]; exact fun z => absurd ((L_lt (b := 0) (by have := hov w hh; omega) (by decide)).mp z) (Nat.not_lt_zero _))
      have hxx : gv0 is b (RR, CD, q) = (none, (RR, CD, q)) := by unfold gv0; simp only [hno]
      refine lv_lload_n hx hb d_M_valueOf_32 rfl (lv_at hl 0 rfl) ?_
      refine lv_l2i hx hb d_M_valueOf_33 rfl ?_
      refine lv_topi (fun v_4 ev_4 => ?_)
      have hrr : v_4 = oI (gv0 is b (RR, CD, q)).1 := by rw [hxx]; subst_vars; rw [hno]; exact (by decide : (oL none).toInt32 = oI none)
      exact my_iret (v := v_4) hx hb hr (rfl) hlocks hQ hK hS (Nat.le_refl _) (Nat.le_refl _) () (hrr) (by rw [hxx]; exact (hP.sub [1, 0] rfl)) (by rw [hxx]; exact (hD.sub [1, 0] (by decide +kernel) rfl)) d_M_valueOf_34
    · rw [lg_cmp_lt] at c_3
      obtain ⟨uu, huu⟩ : ∃ w, wnt (2 ^ b) RR CD = some w := by
        cases hh : wnt (2 ^ b) RR CD with
        | none => exact absurd (show r_12 < 0 by rw [hw_12, hh]; decide) c_3
        | some w => exact ⟨w, rfl⟩
      have hws := wnt_some huu
      have hxx : gv0 is b (RR, CD, q) = (some uu, wrS is (RR / 2 ^ b * 1, CD - RR / 2 ^ b * uu, q)) := by unfold gv0; simp only [huu]
      have z9 : r_12 = lN uu := by rw [hw_12, huu]; rfl
      subst z9
      refine lv_aload_n hx hb d_M_valueOf_22 rfl (lv_at hl 1 rfl) ?_
      refine lv_lload_n hx hb d_M_valueOf_23 rfl (lv_at hl 0 rfl) ?_
      refine lv_l2i hx hb d_M_valueOf_24 rfl ?_
      refine lv_topi (fun v_5 ev_5 => ?_)
      have z9 : v_5 = nI uu := by subst_vars; exact lN_i _
      subst z9
      refine lv_iconst (v := 1) hx hb d_M_valueOf_25 (by decide) ?_
      refine lv_iconst (v := 1) hx hb d_M_valueOf_26 (by decide) ?_
      refine lv_iload_n hx hb d_M_valueOf_27 rfl (lv_at hl 2 rfl) ?_
      refine lv_ishl hx hb d_M_valueOf_28 ?_
      refine lv_topi (fun v_6 ev_6 => ?_)
      have z9 : v_6 = nI (2 ^ b) := by subst_vars; exact shl1 b (by omega)
      subst z9
      refine W.eq (g2 := F0 m 29 ls [Value.int (nI (2 ^ b)), Value.int (nI 1), Value.int (nI uu), Value.ref o]) rfl ?_
      refine my_cv (wr := []) (va_runV (As := [Value.int (nI uu), Value.int (nI 1), Value.int (nI (2 ^ b))]) (rest := []) ⟨hx, hb, hml, hown, hts⟩ (c_M_leave0 l dC dI cI cM cO H.size o g fShift fModels fItems fEnded fLow fRange fCache fPend fGoes fOuts fReads fBad fIR fBAsk fRL fX fWrites fThrown vIn uu 1 (2 ^ b) RR CD is q (hIn) (by assumption) (by assumption) (by omega) (hws.1) (by omega) (hws.2.2.1) (by decide) (hws.2.1) (hR1) (by assumption) (hws.2.2.2.1)) (cwV 3 hts (my_gV k1219 k1221 ks50 k12 k1222) rfl rfl rfl (by decide +kernel) ⟨by rw [hR]; exact Nat.le_of_ble_eq_true rfl, by rw [hR]; exact Nat.le_of_ble_eq_true rfl⟩) (my_preV hK hN (hP.sub [1, 0] rfl) (hD.sub [1, 0] (by decide +kernel) rfl) 0 rfl rfl) rfl rfl hl.1 rfl (lv_room (Nat.le_of_ble_eq_true rfl)) d_M_valueOf_29 ⟨by rw [hR]; exact Nat.le_of_ble_eq_true rfl, by rw [hR]; exact Nat.le_of_ble_eq_true rfl⟩) hP hD hS hA [1, 0] [] rfl rfl (by decide +kernel) (by decide +kernel) (fun u9 H locs hw_29 hP hD hS => ?_)
      have hw_29 : True := hw_29
      have hPD : my_PD (dC, dI) vwCl A [(o, Sum.inr (9, mO g 0 fShift fModels fItems fEnded fLow fRange fCache fPend fGoes fOuts (nI is.length) fReads fBad fIR (nI (wrS is (RR / (2 ^ b) * 1, CD - RR / (2 ^ b) * uu, q)).2.2) fBAsk (lN (wrS is (RR / (2 ^ b) * 1, CD - RR / (2 ^ b) * uu, q)).2.1) fRL (lN (wrS is (RR / (2 ^ b) * 1, CD - RR / (2 ^ b) * uu, q)).1) fX fWrites fThrown)), ((g 8), Sum.inl (cI, 6000, Sum.inl vIn))] H := ⟨hP, hD⟩
      have hP := hPD.1
      have hD := hPD.2
      refine lv_lload_n hx hb d_M_valueOf_32 rfl (lv_at hl 0 rfl) ?_
      refine lv_l2i hx hb d_M_valueOf_33 rfl ?_
      refine lv_topi (fun v_7 ev_7 => ?_)
      have hrr : v_7 = oI (gv0 is b (RR, CD, q)).1 := by rw [hxx]; subst_vars; exact lN_i _
      exact my_iret (v := v_7) hx hb hr (rfl) hlocks hQ hK hS (Nat.le_refl _) (Nat.le_refl _) () (hrr) (by rw [hxx]; exact (hP.sub [0, 1] rfl)) (by rw [hxx]; exact (hD.sub [0, 1] (by decide +kernel) rfl)) d_M_valueOf_34
set_option maxHeartbeats 1000000 in
set_option maxRecDepth 100000 in
/-- valueOf, form 1 -/
theorem c_M_valueOf1 (l : Launch) (dC : Nat → ClassId) (dI : Nat → Nat → Nat) (cI cM cO : ClassId) (sz : Nat) (o : Nat) (g : Nat → Nat) (fShift : Int32) (fModels : Int32) (fItems : Int32) (fEnded : Int32) (fLow : Int64) (fRange : Int64) (fCache : Int32) (fPend : Int32) (fGoes : Int32) (fOuts : Int32) (fReads : Int32) (fBad : Int32) (fIR : Int32) (fBAsk : Int32) (fX : Int64) (fWrites : Int32) (fThrown : Int32) (vIn : Nat → Int32) (b : Nat) (RR : Nat) (L : Nat) (CD : Nat) (is : List Nat) (q : Nat) (hb1 : 1 ≤ b) (hb2 : b ≤ 12) (hIn : gIs vIn is) (hlen : is.length ≤ 6000) (hoct : oct is) (hq : q < 800000) (hp : pOk RR L) (hC : CD < 4294967296) : MetI l y_M_valueOf (Cond.code y_M_valueOf prog_14_method_58_code 5 (some .int) :: gw) ({ frames := 3, cells := 0, slots := 0, locals := 68 } : Room) (dC, dI) vwCl (kT cI cM cO) [Value.ref o, Value.int (nI b)] [(o, Sum.inr (9, mO g 1 fShift fModels fItems fEnded fLow fRange fCache fPend fGoes fOuts (nI is.length) fReads fBad fIR (nI q) fBAsk (lN CD) (lN L) (lN RR) fX fWrites fThrown)), ((g 8), Sum.inl (cI, 6000, Sum.inl vIn))] sz (fun (r : Int32) (u : Unit) => r = oI (gv1 is b (RR, L, CD, q)).1) (fun (u : Unit) => [(o, Sum.inr (9, mO g 1 fShift fModels fItems fEnded fLow fRange fCache fPend fGoes fOuts (nI is.length) fReads fBad fIR (nI (gv1 is b (RR, L, CD, q)).2.2.2.2) fBAsk (lN (gv1 is b (RR, L, CD, q)).2.2.2.1) (lN (gv1 is b (RR, L, CD, q)).2.2.1) (lN (gv1 is b (RR, L, CD, q)).2.1) fX fWrites fThrown)), ((g 8), Sum.inl (cI, 6000, Sum.inl vIn))]) 0 0 := by
  refine my_ofI (cc := prog_14_method_58_code) (n := 5) (ret := (some .int)) (by decide) rfl (Nat.le_of_ble_eq_true rfl) ?_
  intro p e s m args below meth c R Q A ls H locs hx hb hr hts hown hlocks hml hnm hR hQ hA hl hP hK hN hD hS
  have hg : ∀ w ∈ gw, w.before args s = true := fun w h => hts w (List.mem_cons_of_mem _ h)
  have hown : s.vm.findClass "RangeCodersModel" = some m.cls := hown
  have hl : lv_has ls 5 [(0, Value.ref o), (1, Value.int (nI b))] := hl
  have hpw : 2 ^ b ≤ 2 ^ 12 := Nat.pow_le_pow_right (by decide) hb2
  have hov : ∀ w, wnt (2 ^ b) RR ((CD + 4294967296 - L) % 4294967296) = some w → w < 2 ^ 63 := fun w hw => by have := (wnt_some hw).2.2.1; omega
  refine lv_aload_n hx hb d_M_valueOf_0 rfl (lv_at hl 0 rfl) ?_
  refine va_get (D := (dC, dI)) (ci := 9) (v := .int 1) (C := "RangeCodersModel") (T := T_M) (N := 35) hx hb hg in_M hown hK hP 0 rfl rfl 0 (by decide) (hg _ k952) (fun _ h9 => h9) rfl d_M_valueOf_1 ?_
  refine lv_iconst (v := 2) hx hb d_M_valueOf_4 (by decide) ?_
  refine lv_icmp_ge (tgt := 35) hx hb d_M_valueOf_5 (by decide) (fun c_1 => ?_) (fun c_1 => ?_)
  · exact absurd c_1 (by decide)
  · refine lv_aload_n hx hb d_M_valueOf_8 rfl (lv_at hl 0 rfl) ?_
    refine lv_iconst (v := 1) hx hb d_M_valueOf_9 (by decide) ?_
    refine lv_iload_n hx hb d_M_valueOf_10 rfl (lv_at hl 1 rfl) ?_
    refine lv_ishl hx hb d_M_valueOf_11 ?_
    refine lv_topi (fun v_2 ev_2 => ?_)
    have z9 : v_2 = nI (2 ^ b) := by subst_vars; exact shl1 b (by omega)
    subst z9
    refine my_cl (wr := [((g 8), Sum.inl (cI, 6000, Sum.inl vIn))]) (va_runV (As := [Value.int (nI (2 ^ b))]) (rest := []) ⟨hx, hb, hml, hown, hts⟩ (c_M_wanted1 l dC dI cI cM cO H.size o g fShift fModels fItems fEnded fLow fRange fCache fPend fGoes fOuts (nI is.length) fReads fBad fIR (nI q) fBAsk fX fWrites fThrown (2 ^ b) RR CD L (by omega) (pOk_lt hp) (by assumption) (hp.1)) (cwV 1 hts (my_gV k1210 k1212 ks48 k12 k1213) rfl rfl rfl (by decide +kernel) ⟨by rw [hR]; exact Nat.le_of_ble_eq_true rfl, by rw [hR]; exact Nat.le_of_ble_eq_true rfl⟩) (my_preV hK hN (hP.sub [0] rfl) (hD.sub [0] (by decide +kernel) rfl) 0 rfl rfl) rfl rfl hl.1 rfl (lv_room (Nat.le_of_ble_eq_true rfl)) d_M_valueOf_12 ⟨by rw [hR]; exact Nat.le_of_ble_eq_true rfl, by rw [hR]; exact Nat.le_of_ble_eq_true rfl⟩) hP hD hS hA [0] [1] rfl rfl (by decide +kernel) (by decide +kernel) (fun r_12 u9 H locs hw_12 hP hD hS => ?_)
    have hw_12 : r_12 = oL (wnt (2 ^ b) RR ((CD + 4294967296 - L) % 4294967296)) := hw_12
    have hPD : my_PD (dC, dI) vwCl A [((g 8), Sum.inl (cI, 6000, Sum.inl vIn)), (o, Sum.inr (9, mO g 1 fShift fModels fItems fEnded fLow fRange fCache fPend fGoes fOuts (nI is.length) fReads fBad fIR (nI q) fBAsk (lN CD) (lN L) (lN RR) fX fWrites fThrown))] H := ⟨hP, hD⟩
    have hP := hPD.1
    have hD := hPD.2
    refine lv_lstore_n (lv' := [(2, Value.long r_12), (0, Value.ref o), (1, Value.int (nI b))]) hx hb d_M_valueOf_15 rfl hl (by decide) rfl (fun ls hl => ?_)
    refine lv_lload_n hx hb d_M_valueOf_16 rfl (lv_at hl 0 rfl) ?_
    refine lv_lconst (v := 0) hx hb d_M_valueOf_17 (by decide) ?_
    refine W.lcmp hx hb d_M_valueOf_18 ?_
    refine lv_if_lt (tgt := 32) hx hb d_M_valueOf_19 (by decide) (fun c_3 => ?_) (fun c_3 => ?_)
    · rw [lg_cmp_lt] at c_3
      have hno : wnt (2 ^ b) RR ((CD + 4294967296 - L) % 4294967296) = none := by
        cases hh : wnt (2 ^ b) RR ((CD + 4294967296 - L) % 4294967296) with
        | none => rfl
        | some w => exact absurd c_3 (by rw [hw_12, hh]; exact fun z => absurd ((L_lt (b := 0) (by have := hov w hh; omega) (by decide)).mp z) (Nat.not_lt_zero _))
      have hxx : gv1 is b (RR, L, CD, q) = (none, (RR, L, CD, q)) := by unfold gv1; simp only [hno]
      refine lv_lload_n hx hb d_M_valueOf_32 rfl (lv_at hl 0 rfl) ?_
      refine lv_l2i hx hb d_M_valueOf_33 rfl ?_
      refine lv_topi (fun v_4 ev_4 => ?_)
      have hrr : v_4 = oI (gv1 is b (RR, L, CD, q)).1 := by rw [hxx]; subst_vars; rw [hno]; exact (by decide : (oL none).toInt32 = oI none)
      exact my_iret (v := v_4) hx hb hr (rfl) hlocks hQ hK hS (Nat.le_refl _) (Nat.le_refl _) () (hrr) (by rw [hxx]; exact (hP.sub [1, 0] rfl)) (by rw [hxx]; exact (hD.sub [1, 0] (by decide +kernel) rfl)) d_M_valueOf_34
    · rw [lg_cmp_lt] at c_3
      obtain ⟨uu, huu⟩ : ∃ w, wnt (2 ^ b) RR ((CD + 4294967296 - L) % 4294967296) = some w := by
        cases hh : wnt (2 ^ b) RR ((CD + 4294967296 - L) % 4294967296) with
        | none => exact absurd (show r_12 < 0 by rw [hw_12, hh]; decide) c_3
        | some w => exact ⟨w, rfl⟩
      have hws := wnt_some huu
      have hxx : gv1 is b (RR, L, CD, q) = (some uu, prS is (RR / 2 ^ b * 1, L + RR / 2 ^ b * uu, CD, q)) := by unfold gv1; simp only [huu]
      have z9 : r_12 = lN uu := by rw [hw_12, huu]; rfl
      subst z9
      refine lv_aload_n hx hb d_M_valueOf_22 rfl (lv_at hl 1 rfl) ?_
      refine lv_lload_n hx hb d_M_valueOf_23 rfl (lv_at hl 0 rfl) ?_
      refine lv_l2i hx hb d_M_valueOf_24 rfl ?_
      refine lv_topi (fun v_5 ev_5 => ?_)
      have z9 : v_5 = nI uu := by subst_vars; exact lN_i _
      subst z9
      refine lv_iconst (v := 1) hx hb d_M_valueOf_25 (by decide) ?_
      refine lv_iconst (v := 1) hx hb d_M_valueOf_26 (by decide) ?_
      refine lv_iload_n hx hb d_M_valueOf_27 rfl (lv_at hl 2 rfl) ?_
      refine lv_ishl hx hb d_M_valueOf_28 ?_
      refine lv_topi (fun v_6 ev_6 => ?_)
      have z9 : v_6 = nI (2 ^ b) := by subst_vars; exact shl1 b (by omega)
      subst z9
      refine W.eq (g2 := F0 m 29 ls [Value.int (nI (2 ^ b)), Value.int (nI 1), Value.int (nI uu), Value.ref o]) rfl ?_
      refine my_cv (wr := []) (va_runV (As := [Value.int (nI uu), Value.int (nI 1), Value.int (nI (2 ^ b))]) (rest := []) ⟨hx, hb, hml, hown, hts⟩ (c_M_leave1 l dC dI cI cM cO H.size o g fShift fModels fItems fEnded fLow fRange fCache fPend fGoes fOuts fReads fBad fIR fBAsk fX fWrites fThrown vIn uu 1 (2 ^ b) RR L CD is q (hIn) (by assumption) (by assumption) (by omega) (hws.1) (by omega) (hws.2.2.1) (by decide) (hws.2.1) (hp) (by assumption)) (cwV 3 hts (my_gV k1219 k1221 ks50 k12 k1222) rfl rfl rfl (by decide +kernel) ⟨by rw [hR]; exact Nat.le_of_ble_eq_true rfl, by rw [hR]; exact Nat.le_of_ble_eq_true rfl⟩) (my_preV hK hN (hP.sub [1, 0] rfl) (hD.sub [1, 0] (by decide +kernel) rfl) 0 rfl rfl) rfl rfl hl.1 rfl (lv_room (Nat.le_of_ble_eq_true rfl)) d_M_valueOf_29 ⟨by rw [hR]; exact Nat.le_of_ble_eq_true rfl, by rw [hR]; exact Nat.le_of_ble_eq_true rfl⟩) hP hD hS hA [1, 0] [] rfl rfl (by decide +kernel) (by decide +kernel) (fun u9 H locs hw_29 hP hD hS => ?_)
      have hw_29 : True := hw_29
      have hPD : my_PD (dC, dI) vwCl A [(o, Sum.inr (9, mO g 1 fShift fModels fItems fEnded fLow fRange fCache fPend fGoes fOuts (nI is.length) fReads fBad fIR (nI (prS is (RR / (2 ^ b) * 1, L + RR / (2 ^ b) * uu, CD, q)).2.2.2) fBAsk (lN (prS is (RR / (2 ^ b) * 1, L + RR / (2 ^ b) * uu, CD, q)).2.2.1) (lN (prS is (RR / (2 ^ b) * 1, L + RR / (2 ^ b) * uu, CD, q)).2.1) (lN (prS is (RR / (2 ^ b) * 1, L + RR / (2 ^ b) * uu, CD, q)).1) fX fWrites fThrown)), ((g 8), Sum.inl (cI, 6000, Sum.inl vIn))] H := ⟨hP, hD⟩
      have hP := hPD.1
      have hD := hPD.2
      refine lv_lload_n hx hb d_M_valueOf_32 rfl (lv_at hl 0 rfl) ?_
      refine lv_l2i hx hb d_M_valueOf_33 rfl ?_
      refine lv_topi (fun v_7 ev_7 => ?_)
      have hrr : v_7 = oI (gv1 is b (RR, L, CD, q)).1 := by rw [hxx]; subst_vars; exact lN_i _
      exact my_iret (v := v_7) hx hb hr (rfl) hlocks hQ hK hS (Nat.le_refl _) (Nat.le_refl _) () (hrr) (by rw [hxx]; exact (hP.sub [0, 1] rfl)) (by rw [hxx]; exact (hD.sub [0, 1] (by decide +kernel) rfl)) d_M_valueOf_34
set_option maxHeartbeats 1000000 in
set_option maxRecDepth 100000 in
/-- valueOf, form 2 -/
theorem c_M_valueOf2 (l : Launch) (dC : Nat → ClassId) (dI : Nat → Nat → Nat) (cI cM cO : ClassId) (sz : Nat) (o : Nat) (g : Nat → Nat) (fShift : Int32) (fModels : Int32) (fItems : Int32) (fEnded : Int32) (fLow : Int64) (fRange : Int64) (fCache : Int32) (fPend : Int32) (fGoes : Int32) (fOuts : Int32) (fReads : Int32) (fBad : Int32) (fIR : Int32) (fBAsk : Int32) (fRL : Int64) (fX : Int64) (fWrites : Int32) (fThrown : Int32) (vIn : Nat → Int32) (b : Nat) (RR : Nat) (CD : Nat) (is : List Nat) (q : Nat) (hIn : gIs vIn is) (hlen : is.length ≤ 6000) (hoct : oct is) (hq : q < 800000) (hb2 : b ≤ 12) (hI : rInv (RR, CD, q)) : MetI l y_M_valueOf (Cond.code y_M_valueOf prog_14_method_58_code 5 (some .int) :: gw) ({ frames := 3, cells := 0, slots := 0, locals := 65 } : Room) (dC, dI) vwCl (kT cI cM cO) [Value.ref o, Value.int (nI b)] [(o, Sum.inr (9, mO g 2 fShift fModels fItems fEnded fLow fRange fCache fPend fGoes fOuts (nI is.length) fReads fBad fIR (nI q) fBAsk (lN CD) fRL (lN RR) fX fWrites fThrown)), ((g 8), Sum.inl (cI, 6000, Sum.inl vIn))] sz (fun (r : Int32) (u : Unit) => r = oI (pbS is b (RR, CD, q)).1) (fun (u : Unit) => [(o, Sum.inr (9, mO g 2 fShift fModels fItems fEnded fLow fRange fCache fPend fGoes fOuts (nI is.length) fReads fBad fIR (nI (pbS is b (RR, CD, q)).2.2.2) fBAsk (lN (pbS is b (RR, CD, q)).2.2.1) fRL (lN (pbS is b (RR, CD, q)).2.1) fX fWrites fThrown)), ((g 8), Sum.inl (cI, 6000, Sum.inl vIn))]) 0 0 := by
  refine my_ofI (cc := prog_14_method_58_code) (n := 5) (ret := (some .int)) (by decide) rfl (Nat.le_of_ble_eq_true rfl) ?_
  intro p e s m args below meth c R Q A ls H locs hx hb hr hts hown hlocks hml hnm hR hQ hA hl hP hK hN hD hS
  have hg : ∀ w ∈ gw, w.before args s = true := fun w h => hts w (List.mem_cons_of_mem _ h)
  have hown : s.vm.findClass "RangeCodersModel" = some m.cls := hown
  have hl : lv_has ls 5 [(0, Value.ref o), (1, Value.int (nI b))] := hl
  refine lv_aload_n hx hb d_M_valueOf_0 rfl (lv_at hl 0 rfl) ?_
  refine va_get (D := (dC, dI)) (ci := 9) (v := .int 2) (C := "RangeCodersModel") (T := T_M) (N := 35) hx hb hg in_M hown hK hP 0 rfl rfl 0 (by decide) (hg _ k952) (fun _ h9 => h9) rfl d_M_valueOf_1 ?_
  refine lv_iconst (v := 2) hx hb d_M_valueOf_4 (by decide) ?_
  refine lv_icmp_ge (tgt := 35) hx hb d_M_valueOf_5 (by decide) (fun c_1 => ?_) (fun c_1 => ?_)
  · refine lv_aload_n hx hb d_M_valueOf_35 rfl (lv_at hl 0 rfl) ?_
    refine va_get (D := (dC, dI)) (ci := 9) (v := .int 2) (C := "RangeCodersModel") (T := T_M) (N := 35) hx hb hg in_M hown hK hP 0 rfl rfl 0 (by decide) (hg _ k952) (fun _ h9 => h9) rfl d_M_valueOf_36 ?_
    refine lv_iconst (v := 2) hx hb d_M_valueOf_39 (by decide) ?_
    refine lv_icmp_ne (tgt := 49) hx hb d_M_valueOf_40 (by decide) (fun c_2 => ?_) (fun c_2 => ?_)
    · exact absurd rfl c_2
    · refine lv_aload_n hx hb d_M_valueOf_43 rfl (lv_at hl 0 rfl) ?_
      refine lv_iload_n hx hb d_M_valueOf_44 rfl (lv_at hl 1 rfl) ?_
      refine my_ci (wr := []) (va_runV (As := [Value.int (nI b)]) (rest := []) ⟨hx, hb, hml, hown, hts⟩ (c_M_plainBits l dC dI cI cM cO H.size o g 2 fShift fModels fItems fEnded fLow fRange fCache fPend fGoes fOuts fReads fBad fIR fBAsk fRL fX fWrites fThrown vIn b RR CD is q (by assumption) (by assumption) (by assumption) (by assumption) (by assumption) (by assumption)) (cwV 1 hts (my_gV k1264 k1266 ks60 k12 k1267) rfl rfl rfl (by decide +kernel) ⟨by rw [hR]; exact Nat.le_of_ble_eq_true rfl, by rw [hR]; exact Nat.le_of_ble_eq_true rfl⟩) (my_preV hK hN (hP.sub [0, 1] rfl) (hD.sub [0, 1] (by decide +kernel) rfl) 0 rfl rfl) rfl rfl hl.1 rfl (lv_room (Nat.le_of_ble_eq_true rfl)) d_M_valueOf_45 ⟨by rw [hR]; exact Nat.le_of_ble_eq_true rfl, by rw [hR]; exact Nat.le_of_ble_eq_true rfl⟩) hP hD hS hA [0, 1] [] rfl rfl (by decide +kernel) (by decide +kernel) (fun r_45 u9 H locs hw_45 hP hD hS => ?_)
      have hw_45 : r_45 = oI (pbS is b (RR, CD, q)).1 := hw_45
      have hPD : my_PD (dC, dI) vwCl A [(o, Sum.inr (9, mO g 2 fShift fModels fItems fEnded fLow fRange fCache fPend fGoes fOuts (nI is.length) fReads fBad fIR (nI (pbS is b (RR, CD, q)).2.2.2) fBAsk (lN (pbS is b (RR, CD, q)).2.2.1) fRL (lN (pbS is b (RR, CD, q)).2.1) fX fWrites fThrown)), ((g 8), Sum.inl (cI, 6000, Sum.inl vIn))] H := ⟨hP, hD⟩
      have hP := hPD.1
      have hD := hPD.2
      exact my_iret (v := r_45) hx hb hr (rfl) hlocks hQ hK hS (Nat.le_refl _) (Nat.le_refl _) () (hw_45) (hP.sub [0, 1] rfl) (hD.sub [0, 1] (by decide +kernel) rfl) d_M_valueOf_48
  · exact absurd (by decide) c_1
end
section
/-! VALUES of forms 3, 4 are read -/
def gv3 (is : List Nat) (b X q : Nat) : Nat × Nat := rfS is (X / 4096 * (4096 / 2 ^ b) + X % 4096 - 4096 / 2 ^ b * (X % 4096 / (4096 / 2 ^ b)), q)
def bbN (is : List Nat) (t : Nat) : Nat → Nat
  | 0 => 0
  | k + 1 => 2 * bbN is t k + biA is (t + k)
theorem biA_lt (is : List Nat) (t : Nat) : biA is t < 2 := Nat.mod_lt _ (by decide)
set_option maxHeartbeats 1000000 in
set_option maxRecDepth 100000 in
/-- valueOf, form 3 -/
theorem c_M_valueOf3 (l : Launch) (dC : Nat → ClassId) (dI : Nat → Nat → Nat) (cI cM cO : ClassId) (sz : Nat) (o : Nat) (g : Nat → Nat) (fShift : Int32) (fModels : Int32) (fItems : Int32) (fEnded : Int32) (fLow : Int64) (fRange : Int64) (fCache : Int32) (fPend : Int32) (fGoes : Int32) (fOuts : Int32) (fReads : Int32) (fBad : Int32) (fIR : Int32) (fBAsk : Int32) (fCode : Int64) (fRL : Int64) (fRR : Int64) (fWrites : Int32) (fThrown : Int32) (vIn : Nat → Int32) (b : Nat) (X : Nat) (is : List Nat) (q : Nat) (hb1 : 1 ≤ b) (hb2 : b ≤ 12) (hIn : gIs vIn is) (hlen : is.length ≤ 6000) (hoct : oct is) (hq : q < 800000) (hX0 : 8388608 ≤ X) (hX1 : X < 4294967296) : MetI l y_M_valueOf (Cond.code y_M_valueOf prog_14_method_58_code 5 (some .int) :: gw) ({ frames := 2, cells := 0, slots := 0, locals := 41 } : Room) (dC, dI) vwCl (kT cI cM cO) [Value.ref o, Value.int (nI b)] [(o, Sum.inr (9, mO g 3 fShift fModels fItems fEnded fLow fRange fCache fPend fGoes fOuts (nI is.length) fReads fBad fIR (nI q) fBAsk fCode fRL fRR (lN X) fWrites fThrown)), ((g 8), Sum.inl (cI, 6000, Sum.inl vIn))] sz (fun (r : Int32) (u : Unit) => r = nI (X % 4096 / (4096 / 2 ^ b))) (fun (u : Unit) => [(o, Sum.inr (9, mO g 3 fShift fModels fItems fEnded fLow fRange fCache fPend fGoes fOuts (nI is.length) fReads fBad fIR (nI (gv3 is b X q).2) fBAsk fCode fRL fRR (lN (gv3 is b X q).1) fWrites fThrown)), ((g 8), Sum.inl (cI, 6000, Sum.inl vIn))]) 0 0 := by
  refine my_ofI (cc := prog_14_method_58_code) (n := 5) (ret := (some .int)) (by decide) rfl (Nat.le_of_ble_eq_true rfl) ?_
  intro p e s m args below meth c R Q A ls H locs hx hb hr hts hown hlocks hml hnm hR hQ hA hl hP hK hN hD hS
  have hg : ∀ w ∈ gw, w.before args s = true := fun w h => hts w (List.mem_cons_of_mem _ h)
  have hown : s.vm.findClass "RangeCodersModel" = some m.cls := hown
  have hl : lv_has ls 5 [(0, Value.ref o), (1, Value.int (nI b))] := hl
  have hf1 : 0 < 4096 / 2 ^ b := Nat.div_pos (Nat.le_trans (Nat.pow_le_pow_right (n := 2) (by decide) hb2) (by decide)) (Nat.pow_pos (by decide))
  have hf2 : 4096 / 2 ^ b ≤ 4096 := Nat.div_le_self _ _
  have hv4 := Nat.mod_lt X (show 0 < 4096 by decide)
  have hm0 : 4096 / 2 ^ b * (X % 4096 / (4096 / 2 ^ b)) ≤ X % 4096 := Nat.mul_div_le _ _
  have hp1 : X / 4096 * 1 ≤ X / 4096 * (4096 / 2 ^ b) := Nat.mul_le_mul_left _ hf1
  have hp2 : X / 4096 * (4096 / 2 ^ b) ≤ X / 4096 * 4096 := Nat.mul_le_mul_left _ hf2
  have hdl : X % 4096 / (4096 / 2 ^ b) ≤ X % 4096 := Nat.div_le_self _ _
  refine lv_aload_n hx hb d_M_valueOf_0 rfl (lv_at hl 0 rfl) ?_
  refine va_get (D := (dC, dI)) (ci := 9) (v := .int 3) (C := "RangeCodersModel") (T := T_M) (N := 35) hx hb hg in_M hown hK hP 0 rfl rfl 0 (by decide) (hg _ k952) (fun _ h9 => h9) rfl d_M_valueOf_1 ?_
  refine lv_iconst (v := 2) hx hb d_M_valueOf_4 (by decide) ?_
  refine lv_icmp_ge (tgt := 35) hx hb d_M_valueOf_5 (by decide) (fun c_1 => ?_) (fun c_1 => ?_)
  · refine lv_aload_n hx hb d_M_valueOf_35 rfl (lv_at hl 0 rfl) ?_
    refine va_get (D := (dC, dI)) (ci := 9) (v := .int 3) (C := "RangeCodersModel") (T := T_M) (N := 35) hx hb hg in_M hown hK hP 0 rfl rfl 0 (by decide) (hg _ k952) (fun _ h9 => h9) rfl d_M_valueOf_36 ?_
    refine lv_iconst (v := 2) hx hb d_M_valueOf_39 (by decide) ?_
    refine lv_icmp_ne (tgt := 49) hx hb d_M_valueOf_40 (by decide) (fun c_2 => ?_) (fun c_2 => ?_)
    · refine lv_aload_n hx hb d_M_valueOf_49 rfl (lv_at hl 0 rfl) ?_
      refine va_get (D := (dC, dI)) (ci := 9) (v := .int 3) (C := "RangeCodersModel") (T := T_M) (N := 35) hx hb hg in_M hown hK hP 0 rfl rfl 0 (by decide) (hg _ k952) (fun _ h9 => h9) rfl d_M_valueOf_50 ?_
      refine lv_iconst (v := 3) hx hb d_M_valueOf_53 (by decide) ?_
      refine lv_icmp_ne (tgt := 108) hx hb d_M_valueOf_54 (by decide) (fun c_3 => ?_) (fun c_3 => ?_)
      · exact absurd rfl c_3
      · refine lv_sipush (v := 4096) hx hb d_M_valueOf_57 (by decide) ?_
        refine lv_iload_n hx hb d_M_valueOf_60 rfl (lv_at hl 1 rfl) ?_
        refine lv_ishr hx hb d_M_valueOf_61 ?_
        refine lv_topi (fun v_4 ev_4 => ?_)
        have z9 : v_4 = nI (4096 / 2 ^ b) := by subst_vars; exact I_shr (n := 4096) (by decide) (by omega)
        subst z9
        refine lv_istore_n (lv' := [(2, Value.int (nI (4096 / 2 ^ b))), (0, Value.ref o), (1, Value.int (nI b))]) hx hb d_M_valueOf_62 rfl hl (by decide) rfl (fun ls hl => ?_)
        refine lv_aload_n hx hb d_M_valueOf_63 rfl (lv_at hl 1 rfl) ?_
        refine va_get (D := (dC, dI)) (ci := 9) (v := .long (lN X)) (C := "RangeCodersModel") (T := T_M) (N := 35) hx hb hg in_M hown hK hP 0 rfl rfl 29 (by decide) (hg _ k981) (fun _ h9 => h9) rfl d_M_valueOf_64 ?_
        refine lv_ldc2 (v := 4095) hx hb hown (hg _ k1243) d_M_valueOf_67 ?_
        refine lv_land hx hb d_M_valueOf_70 ?_
        refine lv_topl (fun v_5 ev_5 => ?_)
        refine lv_l2i hx hb d_M_valueOf_71 rfl ?_
        refine lv_topi (fun v_6 ev_6 => ?_)
        have z9 : v_6 = nI (X % 4096) := by subst_vars; rw [L_and12 (by omega)]; exact lN_i _
        subst z9
        refine lv_istore_n (lv' := [(3, Value.int (nI (X % 4096))), (2, Value.int (nI (4096 / 2 ^ b))), (0, Value.ref o), (1, Value.int (nI b))]) hx hb d_M_valueOf_72 rfl hl (by decide) rfl (fun ls hl => ?_)
        refine lv_iload_n hx hb d_M_valueOf_73 rfl (lv_at hl 0 rfl) ?_
        refine lv_iload_n hx hb d_M_valueOf_74 rfl (lv_at hl 1 rfl) ?_
        refine lv_idiv hx hb d_M_valueOf_75 (nI_ne0 hf1 (by omega)) ?_
        refine lv_topi (fun v_7 ev_7 => ?_)
        have z9 : v_7 = nI (X % 4096 / (4096 / 2 ^ b)) := by subst_vars; exact pk_div (by omega) hf1 (by omega)
        subst z9
        refine lv_istore (lv' := [(4, Value.int (nI (X % 4096 / (4096 / 2 ^ b)))), (3, Value.int (nI (X % 4096))), (2, Value.int (nI (4096 / 2 ^ b))), (0, Value.ref o), (1, Value.int (nI b))]) hx hb d_M_valueOf_76 hl (by decide) rfl (fun ls hl => ?_)
        refine lv_aload_n hx hb d_M_valueOf_78 rfl (lv_at hl 3 rfl) ?_
        refine lv_aload_n hx hb d_M_valueOf_79 rfl (lv_at hl 3 rfl) ?_
        refine va_get (D := (dC, dI)) (ci := 9) (v := .long (lN X)) (C := "RangeCodersModel") (T := T_M) (N := 35) hx hb hg in_M hown hK hP 0 rfl rfl 29 (by decide) (hg _ k981) (fun _ h9 => h9) rfl d_M_valueOf_80 ?_
        refine lv_bipush (v := 12) hx hb d_M_valueOf_83 (by decide) ?_
        refine lv_lshr hx hb d_M_valueOf_85 rfl ?_
        refine lv_topl (fun v_8 ev_8 => ?_)
        refine lv_iload_n hx hb d_M_valueOf_86 rfl (lv_at hl 2 rfl) ?_
        refine lv_i2l hx hb d_M_valueOf_87 rfl ?_
        refine lv_topl (fun v_9 ev_9 => ?_)
        refine lv_lmul hx hb d_M_valueOf_88 ?_
        refine lv_topl (fun v_10 ev_10 => ?_)
        refine lv_iload_n hx hb d_M_valueOf_89 rfl (lv_at hl 1 rfl) ?_
        refine lv_i2l hx hb d_M_valueOf_90 rfl ?_
        refine lv_topl (fun v_11 ev_11 => ?_)
        refine lv_ladd hx hb d_M_valueOf_91 ?_
        refine lv_topl (fun v_12 ev_12 => ?_)
        refine lv_iload_n hx hb d_M_valueOf_92 rfl (lv_at hl 2 rfl) ?_
        refine lv_iload hx hb d_M_valueOf_93 (lv_at hl 0 rfl) ?_
        refine lv_imul hx hb d_M_valueOf_95 ?_
        refine lv_topi (fun v_13 ev_13 => ?_)
        refine lv_i2l hx hb d_M_valueOf_96 rfl ?_
        refine lv_topl (fun v_14 ev_14 => ?_)
        refine lv_lsub hx hb d_M_valueOf_97 ?_
        refine lv_topl (fun v_15 ev_15 => ?_)
        have z9 : v_15 = lN (X / 4096 * (4096 / 2 ^ b) + X % 4096 - 4096 / 2 ^ b * (X % 4096 / (4096 / 2 ^ b))) := by subst_vars; rw [pk_mul, L_shr12 (by omega), nI_l (by omega), nI_l (by omega), nI_l (by omega), lN_mul, lN_add]; exact lN_sub (by omega)
        subst z9
        refine va_put (D := (dC, dI)) (ci := 9) (v := .long (lN (X / 4096 * (4096 / 2 ^ b) + X % 4096 - 4096 / 2 ^ b * (X % 4096 / (4096 / 2 ^ b))))) (ty := .long) (C := "RangeCodersModel") (T := T_M) (N := 35) hx hb hg in_M t_M o_M n_M hown hK hP hD hS 0 rfl rfl 29 (by decide) (hg _ k981) (fun _ h9 => h9) rfl (by decide +kernel) rfl rfl (Nat.le_of_ble_eq_true rfl) d_M_valueOf_98 (fun H locs hP hD hS => ?_)
        have hPD : my_PD (dC, dI) vwCl A [(o, Sum.inr (9, mO g 3 fShift fModels fItems fEnded fLow fRange fCache fPend fGoes fOuts (nI is.length) fReads fBad fIR (nI q) fBAsk fCode fRL fRR (lN (X / 4096 * (4096 / 2 ^ b) + X % 4096 - 4096 / 2 ^ b * (X % 4096 / (4096 / 2 ^ b)))) fWrites fThrown)), ((g 8), Sum.inl (cI, 6000, Sum.inl vIn))] H := ⟨hP, hD⟩
        have hP := hPD.1
        have hD := hPD.2
        refine lv_aload_n hx hb d_M_valueOf_101 rfl (lv_at hl 3 rfl) ?_
        refine my_cv (wr := []) (va_runV (As := []) (rest := []) ⟨hx, hb, hml, hown, hts⟩ (c_M_refill l dC dI cI cM cO H.size o g 3 fShift fModels fItems fEnded fLow fRange fCache fPend fGoes fOuts fReads fBad fIR fBAsk fCode fRL fRR fWrites fThrown vIn (X / 4096 * (4096 / 2 ^ b) + X % 4096 - 4096 / 2 ^ b * (X % 4096 / (4096 / 2 ^ b))) is q (hIn) (by assumption) (by assumption) (by omega) (by omega) (by omega)) (cwV 0 hts (my_gV k1244 k1246 ks56 k12 k1247) rfl rfl rfl (by decide +kernel) ⟨by rw [hR]; exact Nat.le_of_ble_eq_true rfl, by rw [hR]; exact Nat.le_of_ble_eq_true rfl⟩) (my_preV hK hN (hP.sub [0, 1] rfl) (hD.sub [0, 1] (by decide +kernel) rfl) 0 rfl rfl) rfl rfl hl.1 rfl (lv_room (Nat.le_of_ble_eq_true rfl)) d_M_valueOf_102 ⟨by rw [hR]; exact Nat.le_of_ble_eq_true rfl, by rw [hR]; exact Nat.le_of_ble_eq_true rfl⟩) hP hD hS hA [0, 1] [] rfl rfl (by decide +kernel) (by decide +kernel) (fun u9 H locs hw_102 hP hD hS => ?_)
        have hw_102 : True := hw_102
        have hPD : my_PD (dC, dI) vwCl A [(o, Sum.inr (9, mO g 3 fShift fModels fItems fEnded fLow fRange fCache fPend fGoes fOuts (nI is.length) fReads fBad fIR (nI (rfS is ((X / 4096 * (4096 / 2 ^ b) + X % 4096 - 4096 / 2 ^ b * (X % 4096 / (4096 / 2 ^ b))), q)).2) fBAsk fCode fRL fRR (lN (rfS is ((X / 4096 * (4096 / 2 ^ b) + X % 4096 - 4096 / 2 ^ b * (X % 4096 / (4096 / 2 ^ b))), q)).1) fWrites fThrown)), ((g 8), Sum.inl (cI, 6000, Sum.inl vIn))] H := ⟨hP, hD⟩
        have hP := hPD.1
        have hD := hPD.2
        refine lv_iload hx hb d_M_valueOf_105 (lv_at hl 0 rfl) ?_
        exact my_iret (v := (nI (X % 4096 / (4096 / 2 ^ b)))) hx hb hr (rfl) hlocks hQ hK hS (Nat.le_refl _) (Nat.le_refl _) () (rfl) (hP.sub [0, 1] rfl) (hD.sub [0, 1] (by decide +kernel) rfl) d_M_valueOf_107
    · exact absurd c_2 (by decide)
  · exact absurd (by decide) c_1
set_option maxHeartbeats 1000000 in
set_option maxRecDepth 100000 in
/-- valueOf, form 4 -/
theorem c_M_valueOf4 (l : Launch) (dC : Nat → ClassId) (dI : Nat → Nat → Nat) (cI cM cO : ClassId) (sz : Nat) (o : Nat) (g : Nat → Nat) (fShift : Int32) (fModels : Int32) (fItems : Int32) (fEnded : Int32) (fLow : Int64) (fRange : Int64) (fCache : Int32) (fPend : Int32) (fGoes : Int32) (fOuts : Int32) (fReads : Int32) (fBad : Int32) (fIR : Int32) (fCode : Int64) (fRL : Int64) (fRR : Int64) (fX : Int64) (fWrites : Int32) (fThrown : Int32) (vIn : Nat → Int32) (b : Nat) (t : Nat) (is : List Nat) (hb1 : 1 ≤ b) (hb2 : b ≤ 9) (hIn : gIs vIn is) (hlen : is.length ≤ 6000) (hoct : oct is) (ht : t < 800000) : MetI l y_M_valueOf (Cond.code y_M_valueOf prog_14_method_58_code 5 (some .int) :: gw) ({ frames := 1, cells := 0, slots := 0, locals := 22 } : Room) (dC, dI) vwCl (kT cI cM cO) [Value.ref o, Value.int (nI b)] [(o, Sum.inr (9, mO g 4 fShift fModels fItems fEnded fLow fRange fCache fPend fGoes fOuts (nI is.length) fReads fBad fIR (nI ((t + 7) / 8)) (nI t) fCode fRL fRR fX fWrites fThrown)), ((g 8), Sum.inl (cI, 6000, Sum.inl vIn))] sz (fun (r : Int32) (u : Unit) => r = nI (bbN is t b)) (fun (u : Unit) => [(o, Sum.inr (9, mO g 4 fShift fModels fItems fEnded fLow fRange fCache fPend fGoes fOuts (nI is.length) fReads fBad fIR (nI ((t + b + 7) / 8)) (nI (t + b)) fCode fRL fRR fX fWrites fThrown)), ((g 8), Sum.inl (cI, 6000, Sum.inl vIn))]) 0 0 := by
  refine my_ofI (cc := prog_14_method_58_code) (n := 5) (ret := (some .int)) (by decide) rfl (Nat.le_of_ble_eq_true rfl) ?_
  intro p e s m args below meth c R Q A ls H locs hx hb hr hts hown hlocks hml hnm hR hQ hA hl hP hK hN hD hS
  have hg : ∀ w ∈ gw, w.before args s = true := fun w h => hts w (List.mem_cons_of_mem _ h)
  have hown : s.vm.findClass "RangeCodersModel" = some m.cls := hown
  have hl : lv_has ls 5 [(0, Value.ref o), (1, Value.int (nI b))] := hl
  refine lv_aload_n hx hb d_M_valueOf_0 rfl (lv_at hl 0 rfl) ?_
  refine va_get (D := (dC, dI)) (ci := 9) (v := .int 4) (C := "RangeCodersModel") (T := T_M) (N := 35) hx hb hg in_M hown hK hP 0 rfl rfl 0 (by decide) (hg _ k952) (fun _ h9 => h9) rfl d_M_valueOf_1 ?_
  refine lv_iconst (v := 2) hx hb d_M_valueOf_4 (by decide) ?_
  refine lv_icmp_ge (tgt := 35) hx hb d_M_valueOf_5 (by decide) (fun c_1 => ?_) (fun c_1 => ?_)
  · refine lv_aload_n hx hb d_M_valueOf_35 rfl (lv_at hl 0 rfl) ?_
    refine va_get (D := (dC, dI)) (ci := 9) (v := .int 4) (C := "RangeCodersModel") (T := T_M) (N := 35) hx hb hg in_M hown hK hP 0 rfl rfl 0 (by decide) (hg _ k952) (fun _ h9 => h9) rfl d_M_valueOf_36 ?_
    refine lv_iconst (v := 2) hx hb d_M_valueOf_39 (by decide) ?_
    refine lv_icmp_ne (tgt := 49) hx hb d_M_valueOf_40 (by decide) (fun c_2 => ?_) (fun c_2 => ?_)
    · refine lv_aload_n hx hb d_M_valueOf_49 rfl (lv_at hl 0 rfl) ?_
      refine va_get (D := (dC, dI)) (ci := 9) (v := .int 4) (C := "RangeCodersModel") (T := T_M) (N := 35) hx hb hg in_M hown hK hP 0 rfl rfl 0 (by decide) (hg _ k952) (fun _ h9 => h9) rfl d_M_valueOf_50 ?_
      refine lv_iconst (v := 3) hx hb d_M_valueOf_53 (by decide) ?_
      refine lv_icmp_ne (tgt := 108) hx hb d_M_valueOf_54 (by decide) (fun c_3 => ?_) (fun c_3 => ?_)
      · refine lv_iconst (v := 0) hx hb d_M_valueOf_108 (by decide) ?_
        refine lv_istore_n (lv' := [(2, Value.int 0), (0, Value.ref o), (1, Value.int (nI b))]) hx hb d_M_valueOf_109 rfl hl (by decide) rfl (fun ls hl => ?_)
        refine lv_iconst (v := 0) hx hb d_M_valueOf_110 (by decide) ?_
        refine lv_istore_n (lv' := [(3, Value.int 0), (2, Value.int 0), (0, Value.ref o), (1, Value.int (nI b))]) hx hb d_M_valueOf_111 rfl hl (by decide) rfl (fun ls hl => ?_)
        have J_112 : ∀ (n9_112 : Nat) (i9 : Int32) (v9 : Int32) (j : Nat) (hn9_112 : b - j = n9_112) (hi : i9 = nI j) (hv : v9 = nI (bbN is t j)) (hj : j ≤ b) (H : Heap) (locs : List Loc) (ls : Array Slot), va_P (dC, dI) vwCl [(o, Sum.inr (9, mO g 4 fShift fModels fItems fEnded fLow fRange fCache fPend fGoes fOuts (nI is.length) fReads fBad fIR (nI ((t + j + 7) / 8)) (nI (t + j)) fCode fRL fRR fX fWrites fThrown)), ((g 8), Sum.inl (cI, 6000, Sum.inl vIn))] H → va_D A [(o, Sum.inr (9, mO g 4 fShift fModels fItems fEnded fLow fRange fCache fPend fGoes fOuts (nI is.length) fReads fBad fIR (nI ((t + j + 7) / 8)) (nI (t + j)) fCode fRL fRR fX fWrites fThrown)), ((g 8), Sum.inl (cI, 6000, Sum.inl vIn))] → va_S A s.heap H locs → lv_has ls 5 [(3, Value.int i9), (2, Value.int v9), (0, Value.ref o), (1, Value.int (nI b))] → W p l e R s m args below meth c H locs 0 0 Q (F0 m 112 ls []) := by
          intro n9_112
          induction n9_112 using Nat.strongRecOn with
          | ind n9_112 ih9_112 =>
            intro i9 v9 j hn9_112 hi hv hj H locs ls hP hD hS hl
            refine lv_iload_n hx hb d_M_valueOf_112 rfl (lv_at hl 0 rfl) ?_
            refine lv_iload_n hx hb d_M_valueOf_113 rfl (lv_at hl 3 rfl) ?_
            refine lv_icmp_ge (tgt := 132) hx hb d_M_valueOf_114 (by decide) (fun c_4 => ?_) (fun c_4 => ?_)
            · have hj3 : j = b := by rw [hi] at c_4; have := (nI_cmp (by omega) (by omega)).mp c_4; omega
              have z9 : j = b := hj3
              subst z9
              refine lv_iload_n hx hb d_M_valueOf_132 rfl (lv_at hl 1 rfl) ?_
              exact my_iret (v := v9) hx hb hr (rfl) hlocks hQ hK hS (Nat.le_refl _) (Nat.le_refl _) () (hv) (hP.sub [0, 1] rfl) (hD.sub [0, 1] (by decide +kernel) rfl) d_M_valueOf_133
            · have hj2 : j < b := by
                rcases Nat.lt_or_ge j b with z | z
                · exact z
                · exact absurd (by rw [hi]; exact nI_le z (by omega)) c_4
              refine lv_iconst (v := 2) hx hb d_M_valueOf_117 (by decide) ?_
              refine lv_iload_n hx hb d_M_valueOf_118 rfl (lv_at hl 1 rfl) ?_
              refine lv_imul hx hb d_M_valueOf_119 ?_
              refine lv_topi (fun v_5 ev_5 => ?_)
              refine lv_aload_n hx hb d_M_valueOf_120 rfl (lv_at hl 2 rfl) ?_
              refine my_ci (wr := []) (va_runV (As := []) (rest := [Value.int v_5]) ⟨hx, hb, hml, hown, hts⟩ (c_M_nextBit l dC dI cI cM cO H.size o g 4 fShift fModels fItems fEnded fLow fRange fCache fPend fGoes fOuts fReads fBad fIR fCode fRL fRR fX fWrites fThrown vIn is (t + j) (nI ((t + j + 7) / 8)) (hIn) (by assumption) (by assumption) (by omega)) (cwV 0 hts (my_gV k1198 k1200 ks46 k12 k1201) rfl rfl rfl (by decide +kernel) ⟨by rw [hR]; exact Nat.le_of_ble_eq_true rfl, by rw [hR]; exact Nat.le_of_ble_eq_true rfl⟩) (my_preV hK hN (hP.sub [0, 1] rfl) (hD.sub [0, 1] (by decide +kernel) rfl) 0 rfl rfl) rfl rfl hl.1 rfl (lv_room (Nat.le_of_ble_eq_true rfl)) d_M_valueOf_121 ⟨by rw [hR]; exact Nat.le_of_ble_eq_true rfl, by rw [hR]; exact Nat.le_of_ble_eq_true rfl⟩) hP hD hS hA [0, 1] [] rfl rfl (by decide +kernel) (by decide +kernel) (fun r_121 u9 H locs hw_121 hP hD hS => ?_)
              have hw_121 : r_121 = nI (biA is (t + j)) := hw_121
              have hPD : my_PD (dC, dI) vwCl A [(o, Sum.inr (9, mO g 4 fShift fModels fItems fEnded fLow fRange fCache fPend fGoes fOuts (nI is.length) fReads fBad fIR (nI (((t + j) + 8) / 8)) (nI ((t + j) + 1)) fCode fRL fRR fX fWrites fThrown)), ((g 8), Sum.inl (cI, 6000, Sum.inl vIn))] H := ⟨hP, hD⟩
              have hP := hPD.1
              have hD := hPD.2
              refine lv_iadd hx hb d_M_valueOf_124 ?_
              refine lv_topi (fun v_6 ev_6 => ?_)
              refine lv_istore_n (lv' := [(2, Value.int v_6), (3, Value.int i9), (0, Value.ref o), (1, Value.int (nI b))]) hx hb d_M_valueOf_125 rfl hl (by decide) rfl (fun ls hl => ?_)
              obtain ⟨v_7, ev_7⟩ : ∃ y : Int32, y = i9 + (1) := ⟨_, rfl⟩
              refine lv_iinc (v := v_7) (lv' := [(3, Value.int v_7), (2, Value.int v_6), (0, Value.ref o), (1, Value.int (nI b))]) hx hb d_M_valueOf_126 hl (k := 1) rfl (by rw [ev_7]; rfl) (by decide) rfl (fun ls hl => ?_)
              refine lv_goto (tgt := 112) hx hb d_M_valueOf_129 (by decide) ?_
              exact ih9_112 _ (by first | omega | (omega)) v_7 v_6 (j + 1) rfl (by subst_vars; exact nI_1 j) (by subst_vars; rw [show (2 : Int32) * nI (bbN is t j) = nI (2 * bbN is t j) from pk_mul 2 _]; exact nI_add _ _) (by omega) H locs ls (hP.sub [0, 1] rfl) (hD.sub [0, 1] (by decide +kernel) rfl) hS (lv_sub hl [0, 1, 2, 3] rfl)
        exact J_112 _ 0 0 0 rfl (rfl) (rfl) (Nat.zero_le _) H locs ls (hP.sub [0, 1] rfl) (hD.sub [0, 1] (by decide +kernel) rfl) hS (lv_sub hl [0, 1, 2, 3] rfl)
      · exact absurd c_3 (by decide)
    · exact absurd c_2 (by decide)
  · exact absurd (by decide) c_1
set_option maxHeartbeats 1000000 in
set_option maxRecDepth 100000 in
/-- spoiled -/
theorem c_M_spoiled (l : Launch) (dC : Nat → ClassId) (dI : Nat → Nat → Nat) (cI cM cO : ClassId) (sz : Nat) (o : Nat) (g : Nat → Nat) (fForm : Int32) (fShift : Int32) (fModels : Int32) (fItems : Int32) (fEnded : Int32) (fLow : Int64) (fRange : Int64) (fCache : Int32) (fPend : Int32) (fGoes : Int32) (fOuts : Int32) (fIns : Int32) (fReads : Int32) (fBad : Int32) (fIR : Int32) (fAsk : Int32) (fBAsk : Int32) (fCode : Int64) (fRL : Int64) (fRR : Int64) (fX : Int64) (fWrites : Int32) (fThrown : Int32) : MetI l y_M_spoiled (Cond.code y_M_spoiled prog_14_method_44_code 1 (some .int) :: gw) ({ frames := 0, cells := 0, slots := 0, locals := 0 } : Room) (dC, dI) vwCl (kT cI cM cO) [Value.ref o] [(o, Sum.inr (9, mO g fForm fShift fModels fItems fEnded fLow fRange fCache fPend fGoes fOuts fIns fReads fBad fIR fAsk fBAsk fCode fRL fRR fX fWrites fThrown))] sz (fun (r : Int32) (u : Unit) => r = -5) (fun (u : Unit) => [(o, Sum.inr (9, mO g fForm fShift fModels fItems fEnded fLow fRange fCache fPend fGoes fOuts fIns fReads 1 fIR fAsk fBAsk fCode fRL fRR fX fWrites fThrown))]) 0 0 := by
  refine my_ofI (cc := prog_14_method_44_code) (n := 1) (ret := (some .int)) (by decide) rfl (Nat.le_of_ble_eq_true rfl) ?_
  intro p e s m args below meth c R Q A ls H locs hx hb hr hts hown hlocks hml hnm hR hQ hA hl hP hK hN hD hS
  have hg : ∀ w ∈ gw, w.before args s = true := fun w h => hts w (List.mem_cons_of_mem _ h)
  have hown : s.vm.findClass "RangeCodersModel" = some m.cls := hown
  have hl : lv_has ls 1 [(0, Value.ref o)] := hl
  refine lv_aload_n hx hb d_M_spoiled_0 rfl (lv_at hl 0 rfl) ?_
  refine lv_iconst (v := 1) hx hb d_M_spoiled_1 (by decide) ?_
  refine va_put (D := (dC, dI)) (ci := 9) (v := .int 1) (ty := .boolean) (C := "RangeCodersModel") (T := T_M) (N := 35) hx hb hg in_M t_M o_M n_M hown hK hP hD hS 0 rfl rfl 22 (by decide) (hg _ k974) (fun _ h9 => h9) rfl (by decide +kernel) rfl rfl (Nat.le_of_ble_eq_true rfl) d_M_spoiled_2 (fun H locs hP hD hS => ?_)
  have hPD : my_PD (dC, dI) vwCl A [(o, Sum.inr (9, mO g fForm fShift fModels fItems fEnded fLow fRange fCache fPend fGoes fOuts fIns fReads 1 fIR fAsk fBAsk fCode fRL fRR fX fWrites fThrown))] H := ⟨hP, hD⟩
  have hP := hPD.1
  have hD := hPD.2
  refine lv_bipush (v := (-5)) hx hb d_M_spoiled_5 (by decide) ?_
  exact my_iret (v := (-5)) hx hb hr (rfl) hlocks hQ hK hS (Nat.le_refl _) (Nat.le_refl _) () (rfl) (hP.sub [0] rfl) (hD.sub [0] (by decide +kernel) rfl) d_M_spoiled_7
end
section
/-! the faces that need no model: bytes of OUT and IN -/
theorem gIs_set {f : Nat → Int32} {bs : List Nat} {i x : Nat} {v : Int32} (h : gIs f bs) (hx : v = nI x) : gIs (upd f i v) (bs.set i x) := by
  intro k hk
  rw [List.length_set] at hk
  by_cases e : k = i
  · subst e; rw [pk_us, hx]; simp [List.getD_eq_getElem?_getD, hk]
  · rw [pk_un e, h k hk]; simp [List.getD_eq_getElem?_getD, List.getElem?_set_ne (Ne.symm e)]
theorem I_xor (a b : Nat) : nI a ^^^ nI b = nI (a ^^^ b) := by
  show Int32.ofNat a ^^^ Int32.ofNat b = Int32.ofNat (a ^^^ b)
  apply Int32.toBitVec_inj.mp
  rw [Int32.toBitVec_xor]
  apply BitVec.eq_of_toNat_eq
  simp only [BitVec.toNat_xor]
  show (BitVec.ofNat 32 a).toNat ^^^ (BitVec.ofNat 32 b).toNat = (BitVec.ofNat 32 (a ^^^ b)).toNat
  simp only [BitVec.toNat_ofNat]
  rw [Nat.xor_mod_two_pow]
set_option maxHeartbeats 1000000 in
set_option maxRecDepth 100000 in
/-- writeBit -/
theorem c_M_writeBit (l : Launch) (dC : Nat → ClassId) (dI : Nat → Nat → Nat) (cI cM cO : ClassId) (sz : Nat) (o : Nat) (g : Nat → Nat) (fForm : Int32) (fShift : Int32) (fModels : Int32) (fItems : Int32) (fEnded : Int32) (fLow : Int64) (fRange : Int64) (fCache : Int32) (fPend : Int32) (fGoes : Int32) (fOuts : Int32) (fIns : Int32) (fReads : Int32) (fBad : Int32) (fIR : Int32) (fAsk : Int32) (fBAsk : Int32) (fCode : Int64) (fRL : Int64) (fRR : Int64) (fX : Int64) (fThrown : Int32) (vWr : Nat → Int32) (wl : List Nat) (v : Nat) (hG : gIs vWr wl) (hl9 : wl.length < 20000) (hv : v < 2 ^ 62) : MetV l y_M_writeBit (Cond.code y_M_writeBit prog_14_method_34_code 3 none :: gw) ({ frames := 0, cells := 0, slots := 0, locals := 0 } : Room) (dC, dI) vwCl (kT cI cM cO) [Value.ref o, Value.long (lN v)] [(o, Sum.inr (9, mO g fForm fShift fModels fItems fEnded fLow fRange fCache fPend fGoes fOuts fIns fReads fBad fIR fAsk fBAsk fCode fRL fRR fX (nI wl.length) fThrown)), ((g 11), Sum.inl (cI, 20000, Sum.inl vWr))] sz (fun (u : (Nat → Int32)) => gIs u (wl ++ [v % 2])) (fun (u : (Nat → Int32)) => [(o, Sum.inr (9, mO g fForm fShift fModels fItems fEnded fLow fRange fCache fPend fGoes fOuts fIns fReads fBad fIR fAsk fBAsk fCode fRL fRR fX (nI (wl ++ [v % 2]).length) fThrown)), ((g 11), Sum.inl (cI, 20000, Sum.inl u))]) 0 0 := by
  refine my_ofV (cc := prog_14_method_34_code) (n := 3) (ret := none) (by decide) rfl (Nat.le_of_ble_eq_true rfl) ?_
  intro p e s m args below meth c R Q A ls H locs hx hb hr hts hown hlocks hml hnm hR hQ hA hl hP hK hN hD hS
  have hg : ∀ w ∈ gw, w.before args s = true := fun w h => hts w (List.mem_cons_of_mem _ h)
  have hown : s.vm.findClass "RangeCodersModel" = some m.cls := hown
  have hl : lv_has ls 3 [(0, Value.ref o), (1, Value.long (lN v))] := hl
  refine lv_aload_n hx hb d_M_writeBit_0 rfl (lv_at hl 0 rfl) ?_
  refine va_get (D := (dC, dI)) (ci := 9) (v := .ref (g 11)) (C := "RangeCodersModel") (T := T_M) (N := 35) hx hb hg in_M hown hK hP 0 rfl rfl 32 (by decide) (hg _ k984) (fun _ h9 => h9) rfl d_M_writeBit_1 ?_
  refine lv_aload_n hx hb d_M_writeBit_4 rfl (lv_at hl 0 rfl) ?_
  refine va_get (D := (dC, dI)) (ci := 9) (v := .int (nI wl.length)) (C := "RangeCodersModel") (T := T_M) (N := 35) hx hb hg in_M hown hK hP 0 rfl rfl 33 (by decide) (hg _ k985) (fun _ h9 => h9) rfl d_M_writeBit_5 ?_
  refine lv_lload_n hx hb d_M_writeBit_8 rfl (lv_at hl 1 rfl) ?_
  refine lv_lconst (v := 1) hx hb d_M_writeBit_9 (by decide) ?_
  refine lv_land hx hb d_M_writeBit_10 ?_
  refine lv_topl (fun v_1 ev_1 => ?_)
  refine lv_l2i hx hb d_M_writeBit_11 rfl ?_
  refine lv_topi (fun v_2 ev_2 => ?_)
  have hval : v_2 = nI (v % 2) := by subst_vars; rw [wb_a1 (by omega)]; exact lN_i _
  refine va_iast hx hb hK hP hD hS 1 0 rfl rfl (vp_in_nI hl9 (by decide)) d_M_writeBit_12 (fun H locs hP hD hS => ?_)
  have hPD : my_PD (dC, dI) vwCl A [(o, Sum.inr (9, mO g fForm fShift fModels fItems fEnded fLow fRange fCache fPend fGoes fOuts fIns fReads fBad fIR fAsk fBAsk fCode fRL fRR fX (nI wl.length) fThrown)), ((g 11), Sum.inl (cI, 20000, Sum.inl (upd vWr (nI wl.length).toNatClampNeg v_2)))] H := ⟨hP, hD⟩
  have hP := hPD.1
  have hD := hPD.2
  refine lv_aload_n hx hb d_M_writeBit_13 rfl (lv_at hl 0 rfl) ?_
  refine lv_dup hx hb d_M_writeBit_14 rfl ?_
  refine va_get (D := (dC, dI)) (ci := 9) (v := .int (nI wl.length)) (C := "RangeCodersModel") (T := T_M) (N := 35) hx hb hg in_M hown hK hP 0 rfl rfl 33 (by decide) (hg _ k985) (fun _ h9 => h9) rfl d_M_writeBit_15 ?_
  refine lv_iconst (v := 1) hx hb d_M_writeBit_18 (by decide) ?_
  refine lv_iadd hx hb d_M_writeBit_19 ?_
  refine lv_topi (fun v_3 ev_3 => ?_)
  have z9 : v_3 = nI (wl ++ [v % 2]).length := by subst_vars; rw [List.length_append]; exact nI_1 _
  subst z9
  refine va_put (D := (dC, dI)) (ci := 9) (v := .int (nI (wl ++ [v % 2]).length)) (ty := .int) (C := "RangeCodersModel") (T := T_M) (N := 35) hx hb hg in_M t_M o_M n_M hown hK hP hD hS 0 rfl rfl 33 (by decide) (hg _ k985) (fun _ h9 => h9) rfl (by decide +kernel) rfl rfl (Nat.le_of_ble_eq_true rfl) d_M_writeBit_20 (fun H locs hP hD hS => ?_)
  have hPD : my_PD (dC, dI) vwCl A [(o, Sum.inr (9, mO g fForm fShift fModels fItems fEnded fLow fRange fCache fPend fGoes fOuts fIns fReads fBad fIR fAsk fBAsk fCode fRL fRR fX (nI (wl ++ [v % 2]).length) fThrown)), ((g 11), Sum.inl (cI, 20000, Sum.inl (upd vWr (nI wl.length).toNatClampNeg v_2)))] H := ⟨hP, hD⟩
  have hP := hPD.1
  have hD := hPD.2
  exact my_vret hx hb hr hlocks hQ hK hS (Nat.le_refl _) (Nat.le_refl _) (upd vWr (nI wl.length).toNatClampNeg v_2) (gIs_up hG (nI_clamp (by omega)) hval) (hP.sub [0, 1] rfl) (hD.sub [0, 1] (by decide +kernel) rfl) d_M_writeBit_23
set_option maxHeartbeats 1000000 in
set_option maxRecDepth 100000 in
/-- out -/
theorem c_M_out (l : Launch) (dC : Nat → ClassId) (dI : Nat → Nat → Nat) (cI cM cO : ClassId) (sz : Nat) (o : Nat) (g : Nat → Nat) (fForm : Int32) (fShift : Int32) (fModels : Int32) (fItems : Int32) (fEnded : Int32) (fLow : Int64) (fRange : Int64) (fCache : Int32) (fPend : Int32) (fGoes : Int32) (fIns : Int32) (fReads : Int32) (fBad : Int32) (fIR : Int32) (fAsk : Int32) (fBAsk : Int32) (fCode : Int64) (fRL : Int64) (fRR : Int64) (fX : Int64) (fWrites : Int32) (fThrown : Int32) (vOut : Nat → Int32) (os : List Nat) (p1 : Int32) (hO : gIs vOut os) (hl9 : os.length ≤ 9000) : MetI l y_M_out (Cond.code y_M_out prog_14_method_36_code 2 (some .int) :: gw) ({ frames := 1, cells := 0, slots := 0, locals := 22 } : Room) (dC, dI) vwCl (kT cI cM cO) [Value.ref o, Value.int p1] [(o, Sum.inr (9, mO g fForm fShift fModels fItems fEnded fLow fRange fCache fPend fGoes (nI os.length) fIns fReads fBad fIR fAsk fBAsk fCode fRL fRR fX fWrites fThrown)), ((g 7), Sum.inl (cI, 9000, Sum.inl vOut))] sz (fun (r : Int32) (u : Unit) => r = if isN os.length p1 then nI (byA os p1.toNatClampNeg) else -1) (fun (u : Unit) => [(o, Sum.inr (9, mO g fForm fShift fModels fItems fEnded fLow fRange fCache fPend fGoes (nI os.length) fIns fReads fBad fIR fAsk fBAsk fCode fRL fRR fX fWrites 0)), ((g 7), Sum.inl (cI, 9000, Sum.inl vOut))]) 0 0 := by
  refine my_ofI (cc := prog_14_method_36_code) (n := 2) (ret := (some .int)) (by decide) rfl (Nat.le_of_ble_eq_true rfl) ?_
  intro p e s m args below meth c R Q A ls H locs hx hb hr hts hown hlocks hml hnm hR hQ hA hl hP hK hN hD hS
  have hg : ∀ w ∈ gw, w.before args s = true := fun w h => hts w (List.mem_cons_of_mem _ h)
  have hown : s.vm.findClass "RangeCodersModel" = some m.cls := hown
  have hl : lv_has ls 2 [(0, Value.ref o), (1, Value.int p1)] := hl
  refine lv_aload_n hx hb d_M_out_0 rfl (lv_at hl 0 rfl) ?_
  refine lv_iconst (v := 0) hx hb d_M_out_1 (by decide) ?_
  refine va_put (D := (dC, dI)) (ci := 9) (v := .int 0) (ty := .int) (C := "RangeCodersModel") (T := T_M) (N := 35) hx hb hg in_M t_M o_M n_M hown hK hP hD hS 0 rfl rfl 34 (by decide) (hg _ k986) (fun _ h9 => h9) rfl (by decide +kernel) rfl rfl (Nat.le_of_ble_eq_true rfl) d_M_out_2 (fun H locs hP hD hS => ?_)
  have hPD : my_PD (dC, dI) vwCl A [(o, Sum.inr (9, mO g fForm fShift fModels fItems fEnded fLow fRange fCache fPend fGoes (nI os.length) fIns fReads fBad fIR fAsk fBAsk fCode fRL fRR fX fWrites 0)), ((g 7), Sum.inl (cI, 9000, Sum.inl vOut))] H := ⟨hP, hD⟩
  have hP := hPD.1
  have hD := hPD.2
  refine lv_iload_n hx hb d_M_out_5 rfl (lv_at hl 1 rfl) ?_
  refine lv_iconst (v := 0) hx hb d_M_out_6 (by decide) ?_
  refine lv_aload_n hx hb d_M_out_7 rfl (lv_at hl 0 rfl) ?_
  refine va_get (D := (dC, dI)) (ci := 9) (v := .int (nI os.length)) (C := "RangeCodersModel") (T := T_M) (N := 35) hx hb hg in_M hown hK hP 0 rfl rfl 18 (by decide) (hg _ k970) (fun _ h9 => h9) rfl d_M_out_8 ?_
  refine lv_iconst (v := 1) hx hb d_M_out_11 (by decide) ?_
  refine lv_isub hx hb d_M_out_12 ?_
  refine lv_topi (fun v_1 ev_1 => ?_)
  have z9 : v_1 = nI os.length - 1 := by subst_vars; rfl
  subst z9
  refine my_ci (wr := [(o, Sum.inr (9, mO g fForm fShift fModels fItems fEnded fLow fRange fCache fPend fGoes (nI os.length) fIns fReads fBad fIR fAsk fBAsk fCode fRL fRR fX fWrites 0)), ((g 7), Sum.inl (cI, 9000, Sum.inl vOut))]) (va_runS (As := [Value.int p1, Value.int 0, Value.int (nI os.length - 1)]) (rest := []) ⟨hx, hb, hml, hown, hts⟩ (c_M_in l dC dI cI cM cO H.size p1 0 (nI os.length - 1)) (cwS 3 hts (my_gS k1062 k1063 k12 k1064) rfl rfl rfl (by decide +kernel) ⟨by rw [hR]; exact Nat.le_of_ble_eq_true rfl, by rw [hR]; exact Nat.le_of_ble_eq_true rfl⟩) (my_pre hK hN (hP.sub [] rfl) (hD.sub [] (by decide +kernel) rfl)) rfl rfl hl.1 rfl (lv_room (Nat.le_of_ble_eq_true rfl)) d_M_out_13 ⟨by rw [hR]; exact Nat.le_of_ble_eq_true rfl, by rw [hR]; exact Nat.le_of_ble_eq_true rfl⟩) hP hD hS hA [] [0, 1] rfl rfl (by decide +kernel) (by decide +kernel) (fun r_13 u9 H locs hw_13 hP hD hS => ?_)
  have hw_13 : r_13 = if 0 ≤ p1 ∧ p1 ≤ (nI os.length - 1) then 1 else 0 := hw_13
  have hPD : my_PD (dC, dI) vwCl A [(o, Sum.inr (9, mO g fForm fShift fModels fItems fEnded fLow fRange fCache fPend fGoes (nI os.length) fIns fReads fBad fIR fAsk fBAsk fCode fRL fRR fX fWrites 0)), ((g 7), Sum.inl (cI, 9000, Sum.inl vOut))] H := ⟨hP, hD⟩
  have hP := hPD.1
  have hD := hPD.2
  refine lv_if_eq (tgt := 28) hx hb d_M_out_16 (by decide) (fun c_2 => ?_) (fun c_2 => ?_)
  · have hin := one_eq hw_13 c_2
    refine lv_iconst (v := (-1)) hx hb d_M_out_28 (by decide) ?_
    exact my_iret (v := (-1)) hx hb hr (rfl) hlocks hQ hK hS (Nat.le_refl _) (Nat.le_refl _) () (by rw [if_neg hin]) (hP.sub [0, 1] rfl) (hD.sub [0, 1] (by decide +kernel) rfl) d_M_out_29
  · have hin := one_ne hw_13 c_2
    obtain ⟨i9, hi9, ei9⟩ := (isN_iff (by omega)).mp hin
    have hc9 : p1.toNatClampNeg = i9 := by rw [ei9]; exact nI_clamp (by omega)
    refine lv_aload_n hx hb d_M_out_19 rfl (lv_at hl 0 rfl) ?_
    refine va_get (D := (dC, dI)) (ci := 9) (v := .ref (g 7)) (C := "RangeCodersModel") (T := T_M) (N := 35) hx hb hg in_M hown hK hP 0 rfl rfl 17 (by decide) (hg _ k969) (fun _ h9 => h9) rfl d_M_out_20 ?_
    refine lv_iload_n hx hb d_M_out_23 rfl (lv_at hl 1 rfl) ?_
    refine va_iald hx hb hK hP 1 0 rfl rfl (by rw [ei9]; exact vp_in_nI (by omega) (by decide)) d_M_out_24 ?_
    refine lv_topi (fun v_3 ev_3 => ?_)
    refine lv_goto (tgt := 29) hx hb d_M_out_25 (by decide) ?_
    exact my_iret (v := v_3) hx hb hr (rfl) hlocks hQ hK hS (Nat.le_refl _) (Nat.le_refl _) () (by rw [if_pos hin]; subst_vars; rw [hc9]; exact hO _ hi9) (hP.sub [0, 1] rfl) (hD.sub [0, 1] (by decide +kernel) rfl) d_M_out_29
set_option maxHeartbeats 1000000 in
set_option maxRecDepth 100000 in
/-- spoil -/
theorem c_M_spoil (l : Launch) (dC : Nat → ClassId) (dI : Nat → Nat → Nat) (cI cM cO : ClassId) (sz : Nat) (o : Nat) (g : Nat → Nat) (fForm : Int32) (fShift : Int32) (fModels : Int32) (fItems : Int32) (fEnded : Int32) (fLow : Int64) (fRange : Int64) (fCache : Int32) (fPend : Int32) (fGoes : Int32) (fOuts : Int32) (fReads : Int32) (fBad : Int32) (fIR : Int32) (fAsk : Int32) (fBAsk : Int32) (fCode : Int64) (fRL : Int64) (fRR : Int64) (fX : Int64) (fWrites : Int32) (fThrown : Int32) (vIn : Nat → Int32) (is : List Nat) (p1 : Int32) (p2 : Int32) (hI : gIs vIn is) (hl9 : is.length ≤ 6000) : MetI l y_M_spoil (Cond.code y_M_spoil prog_14_method_39_code 3 (some .int) :: gw) ({ frames := 1, cells := 0, slots := 0, locals := 22 } : Room) (dC, dI) vwCl (kT cI cM cO) [Value.ref o, Value.int p1, Value.int p2] [(o, Sum.inr (9, mO g fForm fShift fModels fItems fEnded fLow fRange fCache fPend fGoes fOuts (nI is.length) fReads fBad fIR fAsk fBAsk fCode fRL fRR fX fWrites fThrown)), ((g 8), Sum.inl (cI, 6000, Sum.inl vIn))] sz (fun (r : Int32) (u : (Nat → Int32)) => (¬ isN is.length p1 ∧ r = -1 ∧ u = vIn) ∨ (isN is.length p1 ∧ ¬ (0 ≤ p2 ∧ p2 ≤ 255) ∧ r = -2 ∧ u = vIn) ∨ (isN is.length p1 ∧ ∃ t, t < 256 ∧ p2 = nI t ∧ r = nI (byA is p1.toNatClampNeg ^^^ t) ∧ gIs u (is.set p1.toNatClampNeg (byA is p1.toNatClampNeg ^^^ t)))) (fun (u : (Nat → Int32)) => [(o, Sum.inr (9, mO g fForm fShift fModels fItems fEnded fLow fRange fCache fPend fGoes fOuts (nI is.length) fReads fBad fIR fAsk fBAsk fCode fRL fRR fX fWrites 0)), ((g 8), Sum.inl (cI, 6000, Sum.inl u))]) 0 0 := by
  refine my_ofI (cc := prog_14_method_39_code) (n := 3) (ret := (some .int)) (by decide) rfl (Nat.le_of_ble_eq_true rfl) ?_
  intro p e s m args below meth c R Q A ls H locs hx hb hr hts hown hlocks hml hnm hR hQ hA hl hP hK hN hD hS
  have hg : ∀ w ∈ gw, w.before args s = true := fun w h => hts w (List.mem_cons_of_mem _ h)
  have hown : s.vm.findClass "RangeCodersModel" = some m.cls := hown
  have hl : lv_has ls 3 [(0, Value.ref o), (1, Value.int p1), (2, Value.int p2)] := hl
  refine lv_aload_n hx hb d_M_spoil_0 rfl (lv_at hl 0 rfl) ?_
  refine lv_iconst (v := 0) hx hb d_M_spoil_1 (by decide) ?_
  refine va_put (D := (dC, dI)) (ci := 9) (v := .int 0) (ty := .int) (C := "RangeCodersModel") (T := T_M) (N := 35) hx hb hg in_M t_M o_M n_M hown hK hP hD hS 0 rfl rfl 34 (by decide) (hg _ k986) (fun _ h9 => h9) rfl (by decide +kernel) rfl rfl (Nat.le_of_ble_eq_true rfl) d_M_spoil_2 (fun H locs hP hD hS => ?_)
  have hPD : my_PD (dC, dI) vwCl A [(o, Sum.inr (9, mO g fForm fShift fModels fItems fEnded fLow fRange fCache fPend fGoes fOuts (nI is.length) fReads fBad fIR fAsk fBAsk fCode fRL fRR fX fWrites 0)), ((g 8), Sum.inl (cI, 6000, Sum.inl vIn))] H := ⟨hP, hD⟩
  have hP := hPD.1
  have hD := hPD.2
  refine lv_iload_n hx hb d_M_spoil_5 rfl (lv_at hl 1 rfl) ?_
  refine lv_iconst (v := 0) hx hb d_M_spoil_6 (by decide) ?_
  refine lv_aload_n hx hb d_M_spoil_7 rfl (lv_at hl 0 rfl) ?_
  refine va_get (D := (dC, dI)) (ci := 9) (v := .int (nI is.length)) (C := "RangeCodersModel") (T := T_M) (N := 35) hx hb hg in_M hown hK hP 0 rfl rfl 20 (by decide) (hg _ k972) (fun _ h9 => h9) rfl d_M_spoil_8 ?_
  refine lv_iconst (v := 1) hx hb d_M_spoil_11 (by decide) ?_
  refine lv_isub hx hb d_M_spoil_12 ?_
  refine lv_topi (fun v_1 ev_1 => ?_)
  have z9 : v_1 = nI is.length - 1 := by subst_vars; rfl
  subst z9
  refine my_ci (wr := [(o, Sum.inr (9, mO g fForm fShift fModels fItems fEnded fLow fRange fCache fPend fGoes fOuts (nI is.length) fReads fBad fIR fAsk fBAsk fCode fRL fRR fX fWrites 0)), ((g 8), Sum.inl (cI, 6000, Sum.inl vIn))]) (va_runS (As := [Value.int p1, Value.int 0, Value.int (nI is.length - 1)]) (rest := []) ⟨hx, hb, hml, hown, hts⟩ (c_M_in l dC dI cI cM cO H.size p1 0 (nI is.length - 1)) (cwS 3 hts (my_gS k1062 k1063 k12 k1064) rfl rfl rfl (by decide +kernel) ⟨by rw [hR]; exact Nat.le_of_ble_eq_true rfl, by rw [hR]; exact Nat.le_of_ble_eq_true rfl⟩) (my_pre hK hN (hP.sub [] rfl) (hD.sub [] (by decide +kernel) rfl)) rfl rfl hl.1 rfl (lv_room (Nat.le_of_ble_eq_true rfl)) d_M_spoil_13 ⟨by rw [hR]; exact Nat.le_of_ble_eq_true rfl, by rw [hR]; exact Nat.le_of_ble_eq_true rfl⟩) hP hD hS hA [] [0, 1] rfl rfl (by decide +kernel) (by decide +kernel) (fun r_13 u9 H locs hw_13 hP hD hS => ?_)
  have hw_13 : r_13 = if 0 ≤ p1 ∧ p1 ≤ (nI is.length - 1) then 1 else 0 := hw_13
  have hPD : my_PD (dC, dI) vwCl A [(o, Sum.inr (9, mO g fForm fShift fModels fItems fEnded fLow fRange fCache fPend fGoes fOuts (nI is.length) fReads fBad fIR fAsk fBAsk fCode fRL fRR fX fWrites 0)), ((g 8), Sum.inl (cI, 6000, Sum.inl vIn))] H := ⟨hP, hD⟩
  have hP := hPD.1
  have hD := hPD.2
  refine lv_if_ne (tgt := 21) hx hb d_M_spoil_16 (by decide) (fun c_2 => ?_) (fun c_2 => ?_)
  · have hin := one_ne hw_13 c_2
    obtain ⟨i9, hi9, ei9⟩ := (isN_iff (by omega)).mp hin
    have hc9 : p1.toNatClampNeg = i9 := by rw [ei9]; exact nI_clamp (by omega)
    refine lv_iload_n hx hb d_M_spoil_21 rfl (lv_at hl 2 rfl) ?_
    refine lv_iconst (v := 0) hx hb d_M_spoil_22 (by decide) ?_
    refine lv_sipush (v := 255) hx hb d_M_spoil_23 (by decide) ?_
    refine my_ci (wr := [(o, Sum.inr (9, mO g fForm fShift fModels fItems fEnded fLow fRange fCache fPend fGoes fOuts (nI is.length) fReads fBad fIR fAsk fBAsk fCode fRL fRR fX fWrites 0)), ((g 8), Sum.inl (cI, 6000, Sum.inl vIn))]) (va_runS (As := [Value.int p2, Value.int 0, Value.int 255]) (rest := []) ⟨hx, hb, hml, hown, hts⟩ (c_M_in l dC dI cI cM cO H.size p2 0 255) (cwS 3 hts (my_gS k1062 k1063 k12 k1064) rfl rfl rfl (by decide +kernel) ⟨by rw [hR]; exact Nat.le_of_ble_eq_true rfl, by rw [hR]; exact Nat.le_of_ble_eq_true rfl⟩) (my_pre hK hN (hP.sub [] rfl) (hD.sub [] (by decide +kernel) rfl)) rfl rfl hl.1 rfl (lv_room (Nat.le_of_ble_eq_true rfl)) d_M_spoil_26 ⟨by rw [hR]; exact Nat.le_of_ble_eq_true rfl, by rw [hR]; exact Nat.le_of_ble_eq_true rfl⟩) hP hD hS hA [] [0, 1] rfl rfl (by decide +kernel) (by decide +kernel) (fun r_26 u9 H locs hw_26 hP hD hS => ?_)
    have hw_26 : r_26 = if 0 ≤ p2 ∧ p2 ≤ 255 then 1 else 0 := hw_26
    have hPD : my_PD (dC, dI) vwCl A [(o, Sum.inr (9, mO g fForm fShift fModels fItems fEnded fLow fRange fCache fPend fGoes fOuts (nI is.length) fReads fBad fIR fAsk fBAsk fCode fRL fRR fX fWrites 0)), ((g 8), Sum.inl (cI, 6000, Sum.inl vIn))] H := ⟨hP, hD⟩
    have hP := hPD.1
    have hD := hPD.2
    refine lv_if_ne (tgt := 35) hx hb d_M_spoil_29 (by decide) (fun c_3 => ?_) (fun c_3 => ?_)
    · have hi2 := one_ne hw_26 c_3
      obtain ⟨t9, ht9, et9⟩ : ∃ t, t < 256 ∧ p2 = nI t := by
        obtain ⟨z, hz, ez⟩ := nI_of2 (M := 255) (n := 255) (by decide) (Int32.not_lt.mpr hi2.1) hi2.2
        exact ⟨z, by omega, ez⟩
      refine lv_aload_n hx hb d_M_spoil_35 rfl (lv_at hl 0 rfl) ?_
      refine va_get (D := (dC, dI)) (ci := 9) (v := .ref (g 8)) (C := "RangeCodersModel") (T := T_M) (N := 35) hx hb hg in_M hown hK hP 0 rfl rfl 19 (by decide) (hg _ k971) (fun _ h9 => h9) rfl d_M_spoil_36 ?_
      refine lv_iload_n hx hb d_M_spoil_39 rfl (lv_at hl 1 rfl) ?_
      refine lv_aload_n hx hb d_M_spoil_40 rfl (lv_at hl 0 rfl) ?_
      refine va_get (D := (dC, dI)) (ci := 9) (v := .ref (g 8)) (C := "RangeCodersModel") (T := T_M) (N := 35) hx hb hg in_M hown hK hP 0 rfl rfl 19 (by decide) (hg _ k971) (fun _ h9 => h9) rfl d_M_spoil_41 ?_
      refine lv_iload_n hx hb d_M_spoil_44 rfl (lv_at hl 1 rfl) ?_
      refine va_iald hx hb hK hP 1 0 rfl rfl (by rw [ei9]; exact vp_in_nI (by omega) (by decide)) d_M_spoil_45 ?_
      refine lv_topi (fun v_4 ev_4 => ?_)
      refine lv_iload_n hx hb d_M_spoil_46 rfl (lv_at hl 2 rfl) ?_
      refine lv_ixor hx hb d_M_spoil_47 ?_
      refine lv_topi (fun v_5 ev_5 => ?_)
      have hval : v_5 = nI (byA is i9 ^^^ t9) := by subst_vars; rw [nI_clamp (by omega), hI _ hi9]; exact I_xor _ _
      refine va_iast hx hb hK hP hD hS 1 0 rfl rfl (by rw [ei9]; exact vp_in_nI (by omega) (by decide)) d_M_spoil_48 (fun H locs hP hD hS => ?_)
      have hPD : my_PD (dC, dI) vwCl A [(o, Sum.inr (9, mO g fForm fShift fModels fItems fEnded fLow fRange fCache fPend fGoes fOuts (nI is.length) fReads fBad fIR fAsk fBAsk fCode fRL fRR fX fWrites 0)), ((g 8), Sum.inl (cI, 6000, Sum.inl (upd vIn p1.toNatClampNeg v_5)))] H := ⟨hP, hD⟩
      have hP := hPD.1
      have hD := hPD.2
      refine lv_aload_n hx hb d_M_spoil_49 rfl (lv_at hl 0 rfl) ?_
      refine va_get (D := (dC, dI)) (ci := 9) (v := .ref (g 8)) (C := "RangeCodersModel") (T := T_M) (N := 35) hx hb hg in_M hown hK hP 0 rfl rfl 19 (by decide) (hg _ k971) (fun _ h9 => h9) rfl d_M_spoil_50 ?_
      refine lv_iload_n hx hb d_M_spoil_53 rfl (lv_at hl 1 rfl) ?_
      refine va_iald hx hb hK hP 1 0 rfl rfl (by rw [ei9]; exact vp_in_nI (by omega) (by decide)) d_M_spoil_54 ?_
      refine lv_topi (fun v_6 ev_6 => ?_)
      exact my_iret (v := v_6) hx hb hr (rfl) hlocks hQ hK hS (Nat.le_refl _) (Nat.le_refl _) (upd vIn p1.toNatClampNeg v_5) (Or.inr (Or.inr ⟨hin, t9, ht9, et9, by rw [hc9, ev_6, pk_us]; exact hval, by rw [hc9]; exact gIs_set hI hval⟩)) (hP.sub [0, 1] rfl) (hD.sub [0, 1] (by decide +kernel) rfl) d_M_spoil_55
    · have hi2 := one_eq hw_26 c_3
      refine lv_bipush (v := (-2)) hx hb d_M_spoil_32 (by decide) ?_
      exact my_iret (v := (-2)) hx hb hr (rfl) hlocks hQ hK hS (Nat.le_refl _) (Nat.le_refl _) vIn (Or.inr (Or.inl ⟨hin, hi2, rfl, rfl⟩)) (hP.sub [0, 1] rfl) (hD.sub [0, 1] (by decide +kernel) rfl) d_M_spoil_34
  · have hin := one_eq hw_13 c_2
    refine lv_iconst (v := (-1)) hx hb d_M_spoil_19 (by decide) ?_
    exact my_iret (v := (-1)) hx hb hr (rfl) hlocks hQ hK hS (Nat.le_refl _) (Nat.le_refl _) vIn (Or.inl ⟨hin, rfl, rfl⟩) (hP.sub [0, 1] rfl) (hD.sub [0, 1] (by decide +kernel) rfl) d_M_spoil_20
end
section
/-! FORM 4: the PLACES -/
theorem sgA_eq {F : Nat → Nat} {n s t : Nat} (hs : s < n) (h1 : ns F s ≤ t) (h2 : t < ns F s + F s) : sgA F n t = s := by
  have hm := ns_m1 F hs
  have q := sgA_spec (F := F) (n := n) (u := t) (by omega)
  rcases Nat.lt_trichotomy (sgA F n t) s with z | z | z
  · have := ns_m F (show sgA F n t + 1 ≤ s from z)
    rw [ns] at this
    omega
  · exact z
  · have := ns_m F (show s + 1 ≤ sgA F n t from z)
    rw [ns] at this
    omega
/-- the step at which a PLACE is given -/
def stp (p : Nat) : Nat := p * 363 % 512
theorem stp_at : ∀ j, j < 512 → stp (323 * j % 512) = j := by decide +kernel
theorem at_stp : ∀ p, p < 512 → 323 * stp p % 512 = p := by decide +kernel
/-- the sign that has a PLACE -/
def plc (F : Nat → Nat) (n p : Nat) : Nat := sgA F n (stp p)
/-- of the PLACES ahead of q those of sign x -/
def cn (P : Nat → Nat) (x : Nat) : Nat → Nat
  | 0 => 0
  | q + 1 => if P q = x then cn P x q + 1 else cn P x q
theorem cn_le (P : Nat → Nat) (x : Nat) : ∀ q, cn P x q ≤ q
  | 0 => Nat.le_refl _
  | q + 1 => by
    have := cn_le P x q
    rw [cn]
    split <;> omega
/-- which of its sign's PLACES a PLACE is -/
def num (F : Nat → Nat) (n p : Nat) : Nat := cn (plc F n) (plc F n p) p
def layd (so no : Nat → Int32) (F : Nat → Nat) (n : Nat) : Prop := (∀ p, p < 512 → so p = nI (plc F n p)) ∧ ∀ p, p < 512 → no p = nI (num F n p)
def layt (so : Nat → Int32) (F : Nat → Nat) (n t : Nat) : Prop := ∀ j, j < t → so (323 * j % 512) = nI (sgA F n j)
theorem layt_st {so : Nat → Int32} {F : Nat → Nat} {n t i : Nat} {x : Int32} (h : layt so F n t) (ht : t < 512) (hi : i = 323 * t % 512) (hx : x = nI (sgA F n t)) : layt (upd so i x) F n (t + 1) := by
  intro j hj
  by_cases e : j = t
  · subst e; rw [← hi, pk_us, hx]
  · rw [pk_un (fun z => e ?_)]
    · exact h j (by omega)
    · have a := stp_at j (by omega)
      have b := stp_at t ht
      rw [z, hi, b] at a
      exact a.symm
theorem layt_e {so : Nat → Int32} {F : Nat → Nat} {n : Nat} (h : layt so F n 512) : ∀ p, p < 512 → so p = nI (plc F n p) := by
  intro p hp
  have := h (stp p) (Nat.mod_lt _ (by decide))
  rw [at_stp p hp] at this
  exact this
theorem no_st {no : Nat → Int32} {F : Nat → Nat} {n pp i : Nat} {x : Int32} (h : ∀ z, z < pp → no z = nI (num F n z)) (hi : i = pp) (hx : x = nI (num F n pp)) : ∀ z, z < pp + 1 → upd no i x z = nI (num F n z) := by
  intro z hz
  subst hi
  by_cases e : z = i
  · subst e; rw [pk_us, hx]
  · rw [pk_un e]; exact h z (by omega)
theorem plc_lt {F : Nat → Nat} {n p : Nat} (h : ns F n = 512) : plc F n p < n := (sgA_spec (F := F) (n := n) (u := stp p) (by rw [h]; exact Nat.mod_lt _ (by decide))).1
set_option maxHeartbeats 1000000 in
set_option maxRecDepth 100000 in
/-- lay -/
theorem c_M_lay (l : Launch) (dC : Nat → ClassId) (dI : Nat → Nat → Nat) (cI cM cO : ClassId) (sz : Nat) (o : Nat) (g : Nat → Nat) (fForm : Int32) (fShift : Int32) (fModels : Int32) (fItems : Int32) (fEnded : Int32) (fLow : Int64) (fRange : Int64) (fCache : Int32) (fPend : Int32) (fGoes : Int32) (fOuts : Int32) (fIns : Int32) (fReads : Int32) (fBad : Int32) (fIR : Int32) (fAsk : Int32) (fBAsk : Int32) (fCode : Int64) (fRL : Int64) (fRR : Int64) (fX : Int64) (fWrites : Int32) (fThrown : Int32) (vMany : Nat → Int32) (vSO : Nat → Int32) (vNO : Nat → Int32) (a : Nat) (f : Nat → Int32) (mm : Nat) (n : Nat) (F : Nat → Nat) (hmm : mm < 8) (hn : vMany mm = nI n) (hn2 : n ≤ 64) (hf : sgI f (64 * mm) n F) (hsum : ns F n = 512) : MetV l y_M_lay (Cond.code y_M_lay prog_14_method_33_code 7 none :: gw) ({ frames := 0, cells := 0, slots := 0, locals := 0 } : Room) (dC, dI) vwCl (kT cI cM cO) [Value.ref o, Value.ref a, Value.int (nI mm)] [(o, Sum.inr (9, mO g fForm fShift fModels fItems fEnded fLow fRange fCache fPend fGoes fOuts fIns fReads fBad fIR fAsk fBAsk fCode fRL fRR fX fWrites fThrown)), ((g 0), Sum.inl (cI, 8, Sum.inl vMany)), (a, Sum.inl (cI, 512, Sum.inl f)), ((g 9), Sum.inl (cI, 512, Sum.inl vSO)), ((g 10), Sum.inl (cI, 512, Sum.inl vNO))] sz (fun (u : (Nat → Int32) × (Nat → Int32)) => layd u.1 u.2 F n) (fun (u : (Nat → Int32) × (Nat → Int32)) => [(o, Sum.inr (9, mO g fForm fShift fModels fItems fEnded fLow fRange fCache fPend fGoes fOuts fIns fReads fBad fIR fAsk fBAsk fCode fRL fRR fX fWrites fThrown)), ((g 0), Sum.inl (cI, 8, Sum.inl vMany)), (a, Sum.inl (cI, 512, Sum.inl f)), ((g 9), Sum.inl (cI, 512, Sum.inl u.1)), ((g 10), Sum.inl (cI, 512, Sum.inl u.2))]) 0 0 := by
  refine my_ofV (cc := prog_14_method_33_code) (n := 7) (ret := none) (by decide) rfl (Nat.le_of_ble_eq_true rfl) ?_
  intro p e s m args below meth c R Q A ls H locs hx hb hr hts hown hlocks hml hnm hR hQ hA hl hP hK hN hD hS
  have hg : ∀ w ∈ gw, w.before args s = true := fun w h => hts w (List.mem_cons_of_mem _ h)
  have hown : s.vm.findClass "RangeCodersModel" = some m.cls := hown
  have hl : lv_has ls 7 [(0, Value.ref o), (1, Value.ref a), (2, Value.int (nI mm))] := hl
  refine lv_iconst (v := 0) hx hb d_M_lay_0 (by decide) ?_
  refine lv_istore_n (lv' := [(3, Value.int 0), (0, Value.ref o), (1, Value.ref a), (2, Value.int (nI mm))]) hx hb d_M_lay_1 rfl hl (by decide) rfl (fun ls hl => ?_)
  refine lv_iconst (v := 0) hx hb d_M_lay_2 (by decide) ?_
  refine lv_istore (lv' := [(4, Value.int 0), (3, Value.int 0), (0, Value.ref o), (1, Value.ref a), (2, Value.int (nI mm))]) hx hb d_M_lay_3 hl (by decide) rfl (fun ls hl => ?_)
  have J_5 : ∀ (n9_5 : Nat) (p9 : Int32) (i9 : Int32) (j : Nat) (soK : Nat → Int32) (hn9_5 : n - j = n9_5) (hp : p9 = nI (323 * ns F j % 512)) (hi : i9 = nI j) (hj : j ≤ n) (hlt : layt soK F n (ns F j)) (H : Heap) (locs : List Loc) (ls : Array Slot), va_P (dC, dI) vwCl [(o, Sum.inr (9, mO g fForm fShift fModels fItems fEnded fLow fRange fCache fPend fGoes fOuts fIns fReads fBad fIR fAsk fBAsk fCode fRL fRR fX fWrites fThrown)), ((g 0), Sum.inl (cI, 8, Sum.inl vMany)), (a, Sum.inl (cI, 512, Sum.inl f)), ((g 9), Sum.inl (cI, 512, Sum.inl soK)), ((g 10), Sum.inl (cI, 512, Sum.inl vNO))] H → va_D A [(o, Sum.inr (9, mO g fForm fShift fModels fItems fEnded fLow fRange fCache fPend fGoes fOuts fIns fReads fBad fIR fAsk fBAsk fCode fRL fRR fX fWrites fThrown)), ((g 0), Sum.inl (cI, 8, Sum.inl vMany)), (a, Sum.inl (cI, 512, Sum.inl f)), ((g 9), Sum.inl (cI, 512, Sum.inl soK)), ((g 10), Sum.inl (cI, 512, Sum.inl vNO))] → va_S A s.heap H locs → lv_has ls 7 [(4, Value.int i9), (3, Value.int p9), (0, Value.ref o), (1, Value.ref a), (2, Value.int (nI mm))] → W p l e R s m args below meth c H locs 0 0 Q (F0 m 5 ls []) := by
    intro n9_5
    induction n9_5 using Nat.strongRecOn with
    | ind n9_5 ih9_5 =>
      intro p9 i9 j soK hn9_5 hp hi hj hlt H locs ls hP hD hS hl
      refine lv_iload hx hb d_M_lay_5 (lv_at hl 0 rfl) ?_
      refine lv_aload_n hx hb d_M_lay_7 rfl (lv_at hl 2 rfl) ?_
      refine va_get (D := (dC, dI)) (ci := 9) (v := .ref (g 0)) (C := "RangeCodersModel") (T := T_M) (N := 35) hx hb hg in_M hown hK hP 0 rfl rfl 3 (by decide) (hg _ k955) (fun _ h9 => h9) rfl d_M_lay_8 ?_
      refine lv_iload_n hx hb d_M_lay_11 rfl (lv_at hl 4 rfl) ?_
      refine va_iald hx hb hK hP 1 0 rfl rfl (vp_in_nI hmm (by decide)) d_M_lay_12 ?_
      refine lv_topi (fun v_1 ev_1 => ?_)
      have hv9 : v_1 = nI n := by subst_vars; rw [nI_clamp (by omega)]; exact hn
      refine lv_icmp_ge (tgt := 63) hx hb d_M_lay_13 (by decide) (fun c_2 => ?_) (fun c_2 => ?_)
      · have hj3 : j = n := by
          rcases Nat.lt_or_ge j n with q | q
          · exact absurd c_2 (by rw [hv9, hi]; exact nI_ge q (by omega))
          · omega
        rw [hj3, hsum] at hlt
        have hso := layt_e hlt
        refine lv_iconst (v := 0) hx hb d_M_lay_63 (by decide) ?_
        refine lv_istore (lv' := [(4, Value.int 0), (3, Value.int p9), (0, Value.ref o), (1, Value.ref a), (2, Value.int (nI mm))]) hx hb d_M_lay_64 hl (by decide) rfl (fun ls hl => ?_)
        have J_66 : ∀ (n9_66 : Nat) (i9 : Int32) (pp : Nat) (noK : Nat → Int32) (hn9_66 : 512 - pp = n9_66) (hi : i9 = nI pp) (hpp : pp ≤ 512) (hno : ∀ z, z < pp → noK z = nI (num F n z)) (H : Heap) (locs : List Loc) (ls : Array Slot), va_P (dC, dI) vwCl [(o, Sum.inr (9, mO g fForm fShift fModels fItems fEnded fLow fRange fCache fPend fGoes fOuts fIns fReads fBad fIR fAsk fBAsk fCode fRL fRR fX fWrites fThrown)), ((g 0), Sum.inl (cI, 8, Sum.inl vMany)), (a, Sum.inl (cI, 512, Sum.inl f)), ((g 9), Sum.inl (cI, 512, Sum.inl soK)), ((g 10), Sum.inl (cI, 512, Sum.inl noK))] H → va_D A [(o, Sum.inr (9, mO g fForm fShift fModels fItems fEnded fLow fRange fCache fPend fGoes fOuts fIns fReads fBad fIR fAsk fBAsk fCode fRL fRR fX fWrites fThrown)), ((g 0), Sum.inl (cI, 8, Sum.inl vMany)), (a, Sum.inl (cI, 512, Sum.inl f)), ((g 9), Sum.inl (cI, 512, Sum.inl soK)), ((g 10), Sum.inl (cI, 512, Sum.inl noK))] → va_S A s.heap H locs → lv_has ls 7 [(4, Value.int i9), (0, Value.ref o), (1, Value.ref a), (2, Value.int (nI mm))] → W p l e R s m args below meth c H locs 0 0 Q (F0 m 66 ls []) := by
          intro n9_66
          induction n9_66 using Nat.strongRecOn with
          | ind n9_66 ih9_66 =>
            intro i9 pp noK hn9_66 hi hpp hno H locs ls hP hD hS hl
            refine lv_iload hx hb d_M_lay_66 (lv_at hl 0 rfl) ?_
            refine lv_sipush (v := 512) hx hb d_M_lay_68 (by decide) ?_
            refine lv_icmp_ge (tgt := 136) hx hb d_M_lay_71 (by decide) (fun c_3 => ?_) (fun c_3 => ?_)
            · have hp6 : pp = 512 := by rw [hi] at c_3; have := (nI_cmp (a := 512) (by decide) (by omega)).mp c_3; omega
              exact my_vret hx hb hr hlocks hQ hK hS (Nat.le_refl _) (Nat.le_refl _) (soK, noK) (⟨hso, by rw [← hp6]; exact hno⟩) (hP.sub [0, 1, 2, 3, 4] rfl) (hD.sub [0, 1, 2, 3, 4] (by decide +kernel) rfl) d_M_lay_136
            · have hp5 : pp < 512 := by
                rcases Nat.lt_or_ge pp 512 with z | z
                · exact z
                · exact absurd (by rw [hi]; exact nI_le (a := 512) z (by omega)) c_3
              have hpl := plc_lt (p := pp) hsum
              refine lv_iconst (v := 0) hx hb d_M_lay_74 (by decide) ?_
              refine lv_istore (lv' := [(5, Value.int 0), (4, Value.int i9), (0, Value.ref o), (1, Value.ref a), (2, Value.int (nI mm))]) hx hb d_M_lay_75 hl (by decide) rfl (fun ls hl => ?_)
              refine lv_iconst (v := 0) hx hb d_M_lay_77 (by decide) ?_
              refine lv_istore (lv' := [(6, Value.int 0), (5, Value.int 0), (4, Value.int i9), (0, Value.ref o), (1, Value.ref a), (2, Value.int (nI mm))]) hx hb d_M_lay_78 hl (by decide) rfl (fun ls hl => ?_)
              have J_80 : ∀ (n9_80 : Nat) (n9v : Int32) (q9 : Int32) (qq : Nat) (hn9_80 : pp - qq = n9_80) (hc9 : n9v = nI (cn (plc F n) (plc F n pp) qq)) (hq : q9 = nI qq) (hq1 : qq ≤ pp) (H : Heap) (locs : List Loc) (ls : Array Slot), va_P (dC, dI) vwCl [(o, Sum.inr (9, mO g fForm fShift fModels fItems fEnded fLow fRange fCache fPend fGoes fOuts fIns fReads fBad fIR fAsk fBAsk fCode fRL fRR fX fWrites fThrown)), ((g 0), Sum.inl (cI, 8, Sum.inl vMany)), (a, Sum.inl (cI, 512, Sum.inl f)), ((g 9), Sum.inl (cI, 512, Sum.inl soK)), ((g 10), Sum.inl (cI, 512, Sum.inl noK))] H → va_D A [(o, Sum.inr (9, mO g fForm fShift fModels fItems fEnded fLow fRange fCache fPend fGoes fOuts fIns fReads fBad fIR fAsk fBAsk fCode fRL fRR fX fWrites fThrown)), ((g 0), Sum.inl (cI, 8, Sum.inl vMany)), (a, Sum.inl (cI, 512, Sum.inl f)), ((g 9), Sum.inl (cI, 512, Sum.inl soK)), ((g 10), Sum.inl (cI, 512, Sum.inl noK))] → va_S A s.heap H locs → lv_has ls 7 [(6, Value.int q9), (5, Value.int n9v), (4, Value.int i9), (0, Value.ref o), (1, Value.ref a), (2, Value.int (nI mm))] → W p l e R s m args below meth c H locs 0 0 Q (F0 m 80 ls []) := by
                intro n9_80
                induction n9_80 using Nat.strongRecOn with
                | ind n9_80 ih9_80 =>
                  intro n9v q9 qq hn9_80 hc9 hq hq1 H locs ls hP hD hS hl
                  refine lv_iload hx hb d_M_lay_80 (lv_at hl 0 rfl) ?_
                  refine lv_iload hx hb d_M_lay_82 (lv_at hl 2 rfl) ?_
                  refine lv_icmp_ge (tgt := 121) hx hb d_M_lay_84 (by decide) (fun c_4 => ?_) (fun c_4 => ?_)
                  · have hq3 : qq = pp := by rw [hi, hq] at c_4; have := (nI_cmp (by omega) (by omega)).mp c_4; omega
                    refine lv_aload_n hx hb d_M_lay_121 rfl (lv_at hl 3 rfl) ?_
                    refine va_get (D := (dC, dI)) (ci := 9) (v := .ref (g 10)) (C := "RangeCodersModel") (T := T_M) (N := 35) hx hb hg in_M hown hK hP 0 rfl rfl 31 (by decide) (hg _ k983) (fun _ h9 => h9) rfl d_M_lay_122 ?_
                    refine lv_iload hx hb d_M_lay_125 (lv_at hl 2 rfl) ?_
                    refine lv_iload hx hb d_M_lay_127 (lv_at hl 1 rfl) ?_
                    refine va_iast hx hb hK hP hD hS 4 0 rfl rfl (by rw [hi]; exact vp_in_nI hp5 (by decide)) d_M_lay_129 (fun H locs hP hD hS => ?_)
                    have hPD : my_PD (dC, dI) vwCl A [(o, Sum.inr (9, mO g fForm fShift fModels fItems fEnded fLow fRange fCache fPend fGoes fOuts fIns fReads fBad fIR fAsk fBAsk fCode fRL fRR fX fWrites fThrown)), ((g 0), Sum.inl (cI, 8, Sum.inl vMany)), (a, Sum.inl (cI, 512, Sum.inl f)), ((g 9), Sum.inl (cI, 512, Sum.inl soK)), ((g 10), Sum.inl (cI, 512, Sum.inl (upd noK i9.toNatClampNeg n9v)))] H := ⟨hP, hD⟩
                    have hP := hPD.1
                    have hD := hPD.2
                    obtain ⟨v_5, ev_5⟩ : ∃ y : Int32, y = i9 + (1) := ⟨_, rfl⟩
                    refine lv_iinc (v := v_5) (lv' := [(4, Value.int v_5), (6, Value.int q9), (5, Value.int n9v), (0, Value.ref o), (1, Value.ref a), (2, Value.int (nI mm))]) hx hb d_M_lay_130 hl (k := 2) rfl (by rw [ev_5]; rfl) (by decide) rfl (fun ls hl => ?_)
                    refine lv_goto (tgt := 66) hx hb d_M_lay_133 (by decide) ?_
                    exact ih9_66 _ (by first | omega | (omega)) v_5 (pp + 1) (upd noK i9.toNatClampNeg n9v) rfl (by subst_vars; exact nI_1 _) (by omega) (no_st hno (by rw [hi]; exact nI_clamp (by omega)) (by rw [hc9, hq3]; rfl)) H locs ls (hP.sub [0, 1, 2, 3, 4] rfl) (hD.sub [0, 1, 2, 3, 4] (by decide +kernel) rfl) hS (lv_sub hl [0, 3, 4, 5] rfl)
                  · have hq2 : qq < pp := by
                      rcases Nat.lt_or_ge qq pp with z | z
                      · exact z
                      · exact absurd (by rw [hi, hq]; exact nI_le z (by omega)) c_4
                    have hpq := plc_lt (p := qq) hsum
                    refine lv_aload_n hx hb d_M_lay_87 rfl (lv_at hl 3 rfl) ?_
                    refine va_get (D := (dC, dI)) (ci := 9) (v := .ref (g 9)) (C := "RangeCodersModel") (T := T_M) (N := 35) hx hb hg in_M hown hK hP 0 rfl rfl 30 (by decide) (hg _ k982) (fun _ h9 => h9) rfl d_M_lay_88 ?_
                    refine lv_iload hx hb d_M_lay_91 (lv_at hl 0 rfl) ?_
                    refine va_iald hx hb hK hP 3 0 rfl rfl (by rw [hq]; exact vp_in_nI (by omega) (by decide)) d_M_lay_93 ?_
                    refine lv_topi (fun v_6 ev_6 => ?_)
                    have z9 : v_6 = nI (plc F n qq) := by subst_vars; rw [nI_clamp (by omega)]; exact hso _ (by omega)
                    subst z9
                    refine lv_aload_n hx hb d_M_lay_94 rfl (lv_at hl 3 rfl) ?_
                    refine va_get (D := (dC, dI)) (ci := 9) (v := .ref (g 9)) (C := "RangeCodersModel") (T := T_M) (N := 35) hx hb hg in_M hown hK hP 0 rfl rfl 30 (by decide) (hg _ k982) (fun _ h9 => h9) rfl d_M_lay_95 ?_
                    refine lv_iload hx hb d_M_lay_98 (lv_at hl 2 rfl) ?_
                    refine va_iald hx hb hK hP 3 0 rfl rfl (by rw [hi]; exact vp_in_nI hp5 (by decide)) d_M_lay_100 ?_
                    refine lv_topi (fun v_7 ev_7 => ?_)
                    have z9 : v_7 = nI (plc F n pp) := by subst_vars; rw [nI_clamp (by omega)]; exact hso _ (by omega)
                    subst z9
                    refine lv_icmp_ne (tgt := 111) hx hb d_M_lay_101 (by decide) (fun c_8 => ?_) (fun c_8 => ?_)
                    · refine lv_iload hx hb d_M_lay_111 (lv_at hl 1 rfl) ?_
                      have hcn : n9v = nI (cn (plc F n) (plc F n pp) (qq + 1)) := by
                        rw [cn, if_neg (fun z => c_8 (by rw [z]))]
                        exact hc9
                      refine lv_istore (lv' := [(5, Value.int n9v), (6, Value.int q9), (4, Value.int i9), (0, Value.ref o), (1, Value.ref a), (2, Value.int (nI mm))]) hx hb d_M_lay_113 hl (by decide) rfl (fun ls hl => ?_)
                      obtain ⟨v_9, ev_9⟩ : ∃ y : Int32, y = q9 + (1) := ⟨_, rfl⟩
                      refine lv_iinc (v := v_9) (lv' := [(6, Value.int v_9), (5, Value.int n9v), (4, Value.int i9), (0, Value.ref o), (1, Value.ref a), (2, Value.int (nI mm))]) hx hb d_M_lay_115 hl (k := 1) rfl (by rw [ev_9]; rfl) (by decide) rfl (fun ls hl => ?_)
                      refine lv_goto (tgt := 80) hx hb d_M_lay_118 (by decide) ?_
                      exact ih9_80 _ (by first | omega | (omega)) n9v v_9 (qq + 1) rfl (hcn) (by subst_vars; exact nI_1 qq) (by omega) H locs ls (hP.sub [0, 1, 2, 3, 4] rfl) (hD.sub [0, 1, 2, 3, 4] (by decide +kernel) rfl) hS (lv_sub hl [0, 1, 2, 3, 4, 5] rfl)
                    · refine lv_iload hx hb d_M_lay_104 (lv_at hl 1 rfl) ?_
                      refine lv_iconst (v := 1) hx hb d_M_lay_106 (by decide) ?_
                      refine lv_iadd hx hb d_M_lay_107 ?_
                      refine lv_topi (fun v_10 ev_10 => ?_)
                      refine lv_goto (tgt := 113) hx hb d_M_lay_108 (by decide) ?_
                      have hcn : v_10 = nI (cn (plc F n) (plc F n pp) (qq + 1)) := by
                        rw [cn, if_pos ((nI_eq (by omega) (by omega)).mp c_8)]
                        subst_vars
                        exact nI_1 _
                      refine lv_istore (lv' := [(5, Value.int v_10), (6, Value.int q9), (4, Value.int i9), (0, Value.ref o), (1, Value.ref a), (2, Value.int (nI mm))]) hx hb d_M_lay_113 hl (by decide) rfl (fun ls hl => ?_)
                      obtain ⟨v_11, ev_11⟩ : ∃ y : Int32, y = q9 + (1) := ⟨_, rfl⟩
                      refine lv_iinc (v := v_11) (lv' := [(6, Value.int v_11), (5, Value.int v_10), (4, Value.int i9), (0, Value.ref o), (1, Value.ref a), (2, Value.int (nI mm))]) hx hb d_M_lay_115 hl (k := 1) rfl (by rw [ev_11]; rfl) (by decide) rfl (fun ls hl => ?_)
                      refine lv_goto (tgt := 80) hx hb d_M_lay_118 (by decide) ?_
                      exact ih9_80 _ (by first | omega | (omega)) v_10 v_11 (qq + 1) rfl (hcn) (by subst_vars; exact nI_1 qq) (by omega) H locs ls (hP.sub [0, 1, 2, 3, 4] rfl) (hD.sub [0, 1, 2, 3, 4] (by decide +kernel) rfl) hS (lv_sub hl [0, 1, 2, 3, 4, 5] rfl)
              exact J_80 _ 0 0 0 rfl (rfl) (rfl) (Nat.zero_le _) H locs ls (hP.sub [0, 1, 2, 3, 4] rfl) (hD.sub [0, 1, 2, 3, 4] (by decide +kernel) rfl) hS (lv_sub hl [0, 1, 2, 3, 4, 5] rfl)
        exact J_66 _ 0 0 vNO rfl (rfl) (Nat.zero_le _) (fun _ z => absurd z (Nat.not_lt_zero _)) H locs ls (hP.sub [0, 1, 2, 3, 4] rfl) (hD.sub [0, 1, 2, 3, 4] (by decide +kernel) rfl) hS (lv_sub hl [0, 2, 3, 4] rfl)
      · have hj2 : j < n := by
          rcases Nat.lt_or_ge j n with q | q
          · exact q
          · exact absurd (by rw [hv9, hi]; exact nI_le q (by omega)) c_2
        refine lv_iconst (v := 0) hx hb d_M_lay_16 (by decide) ?_
        refine lv_istore (lv' := [(5, Value.int 0), (4, Value.int i9), (3, Value.int p9), (0, Value.ref o), (1, Value.ref a), (2, Value.int (nI mm))]) hx hb d_M_lay_17 hl (by decide) rfl (fun ls hl => ?_)
        have J_19 : ∀ (n9_19 : Nat) (p8 : Int32) (k9 : Int32) (k : Nat) (soJ : Nat → Int32) (hn9_19 : F j - k = n9_19) (hp2 : p8 = nI (323 * (ns F j + k) % 512)) (hk : k9 = nI k) (hk1 : k ≤ F j) (hl2 : layt soJ F n (ns F j + k)) (H : Heap) (locs : List Loc) (ls : Array Slot), va_P (dC, dI) vwCl [(o, Sum.inr (9, mO g fForm fShift fModels fItems fEnded fLow fRange fCache fPend fGoes fOuts fIns fReads fBad fIR fAsk fBAsk fCode fRL fRR fX fWrites fThrown)), ((g 0), Sum.inl (cI, 8, Sum.inl vMany)), (a, Sum.inl (cI, 512, Sum.inl f)), ((g 9), Sum.inl (cI, 512, Sum.inl soJ)), ((g 10), Sum.inl (cI, 512, Sum.inl vNO))] H → va_D A [(o, Sum.inr (9, mO g fForm fShift fModels fItems fEnded fLow fRange fCache fPend fGoes fOuts fIns fReads fBad fIR fAsk fBAsk fCode fRL fRR fX fWrites fThrown)), ((g 0), Sum.inl (cI, 8, Sum.inl vMany)), (a, Sum.inl (cI, 512, Sum.inl f)), ((g 9), Sum.inl (cI, 512, Sum.inl soJ)), ((g 10), Sum.inl (cI, 512, Sum.inl vNO))] → va_S A s.heap H locs → lv_has ls 7 [(5, Value.int k9), (3, Value.int p8), (4, Value.int i9), (0, Value.ref o), (1, Value.ref a), (2, Value.int (nI mm))] → W p l e R s m args below meth c H locs 0 0 Q (F0 m 19 ls []) := by
          intro n9_19
          induction n9_19 using Nat.strongRecOn with
          | ind n9_19 ih9_19 =>
            intro p8 k9 k soJ hn9_19 hp2 hk hk1 hl2 H locs ls hP hD hS hl
            refine lv_iload hx hb d_M_lay_19 (lv_at hl 0 rfl) ?_
            refine lv_aload_n hx hb d_M_lay_21 rfl (lv_at hl 4 rfl) ?_
            refine lv_bipush (v := 64) hx hb d_M_lay_22 (by decide) ?_
            refine lv_iload_n hx hb d_M_lay_24 rfl (lv_at hl 5 rfl) ?_
            refine lv_imul hx hb d_M_lay_25 ?_
            refine lv_topi (fun v_12 ev_12 => ?_)
            refine lv_iload hx hb d_M_lay_26 (lv_at hl 2 rfl) ?_
            refine lv_iadd hx hb d_M_lay_28 ?_
            refine lv_topi (fun v_13 ev_13 => ?_)
            have hix : v_13 = nI (64 * mm + j) := by subst_vars; exact ix64
            refine va_iald hx hb hK hP 2 0 rfl rfl (by rw [hix]; exact vp_in_nI (by omega) (by decide)) d_M_lay_29 ?_
            refine lv_topi (fun v_14 ev_14 => ?_)
            have hFv : v_14 = nI (F j) := by rw [ev_14, hix, nI_clamp (by omega)]; exact hf j hj2
            have hm1 := ns_m1 F hj2
            refine lv_icmp_ge (tgt := 57) hx hb d_M_lay_30 (by decide) (fun c_15 => ?_) (fun c_15 => ?_)
            · have hk3 : ns F j + k = ns F (j + 1) := by
                rw [hFv, hk] at c_15
                have := (nI_cmp (by omega) (by omega)).mp c_15
                rw [ns]; omega
              obtain ⟨v_16, ev_16⟩ : ∃ y : Int32, y = i9 + (1) := ⟨_, rfl⟩
              refine lv_iinc (v := v_16) (lv' := [(4, Value.int v_16), (5, Value.int k9), (3, Value.int p8), (0, Value.ref o), (1, Value.ref a), (2, Value.int (nI mm))]) hx hb d_M_lay_57 hl (k := 2) rfl (by rw [ev_16]; rfl) (by decide) rfl (fun ls hl => ?_)
              refine lv_goto (tgt := 5) hx hb d_M_lay_60 (by decide) ?_
              exact ih9_5 _ (by first | omega | (omega)) p8 v_16 (j + 1) soJ rfl (by rw [hp2, hk3]) (by subst_vars; exact nI_1 j) (by omega) (by rw [hk3] at hl2; exact hl2) H locs ls (hP.sub [0, 1, 2, 3, 4] rfl) (hD.sub [0, 1, 2, 3, 4] (by decide +kernel) rfl) hS (lv_sub hl [0, 2, 3, 4, 5] rfl)
            · have hk2 : k < F j := by
                rcases Nat.lt_or_ge k (F j) with z | z
                · exact z
                · exact absurd (by rw [hFv, hk]; exact nI_le z (by omega)) c_15
              have hm5 := Nat.mod_lt (323 * (ns F j + k)) (show 0 < 512 by decide)
              refine lv_aload_n hx hb d_M_lay_33 rfl (lv_at hl 3 rfl) ?_
              refine va_get (D := (dC, dI)) (ci := 9) (v := .ref (g 9)) (C := "RangeCodersModel") (T := T_M) (N := 35) hx hb hg in_M hown hK hP 0 rfl rfl 30 (by decide) (hg _ k982) (fun _ h9 => h9) rfl d_M_lay_34 ?_
              refine lv_iload_n hx hb d_M_lay_37 rfl (lv_at hl 1 rfl) ?_
              refine lv_iload hx hb d_M_lay_38 (lv_at hl 2 rfl) ?_
              refine va_iast hx hb hK hP hD hS 3 0 rfl rfl (by rw [hp2]; exact vp_in_nI hm5 (by decide)) d_M_lay_40 (fun H locs hP hD hS => ?_)
              have hPD : my_PD (dC, dI) vwCl A [(o, Sum.inr (9, mO g fForm fShift fModels fItems fEnded fLow fRange fCache fPend fGoes fOuts fIns fReads fBad fIR fAsk fBAsk fCode fRL fRR fX fWrites fThrown)), ((g 0), Sum.inl (cI, 8, Sum.inl vMany)), (a, Sum.inl (cI, 512, Sum.inl f)), ((g 9), Sum.inl (cI, 512, Sum.inl (upd soJ p8.toNatClampNeg i9))), ((g 10), Sum.inl (cI, 512, Sum.inl vNO))] H := ⟨hP, hD⟩
              have hP := hPD.1
              have hD := hPD.2
              refine lv_iload_n hx hb d_M_lay_41 rfl (lv_at hl 1 rfl) ?_
              refine lv_sipush (v := 323) hx hb d_M_lay_42 (by decide) ?_
              refine lv_iadd hx hb d_M_lay_45 ?_
              refine lv_topi (fun v_17 ev_17 => ?_)
              refine lv_sipush (v := 512) hx hb d_M_lay_46 (by decide) ?_
              refine lv_irem hx hb d_M_lay_49 (by decide) ?_
              refine lv_topi (fun v_18 ev_18 => ?_)
              have hpn : v_18 = nI (323 * (ns F j + (k + 1)) % 512) := by
                subst_vars
                rw [show nI (323 * (ns F j + k) % 512) + 323 = nI (323 * (ns F j + k) % 512 + 323) from nI_add _ 323]
                refine (pk_rem (d := 512) (by omega) (by decide) (by decide)).trans ?_
                congr 1
                omega
              refine lv_istore_n (lv' := [(3, Value.int v_18), (5, Value.int k9), (4, Value.int i9), (0, Value.ref o), (1, Value.ref a), (2, Value.int (nI mm))]) hx hb d_M_lay_50 rfl hl (by decide) rfl (fun ls hl => ?_)
              obtain ⟨v_19, ev_19⟩ : ∃ y : Int32, y = k9 + (1) := ⟨_, rfl⟩
              refine lv_iinc (v := v_19) (lv' := [(5, Value.int v_19), (3, Value.int v_18), (4, Value.int i9), (0, Value.ref o), (1, Value.ref a), (2, Value.int (nI mm))]) hx hb d_M_lay_51 hl (k := 1) rfl (by rw [ev_19]; rfl) (by decide) rfl (fun ls hl => ?_)
              refine lv_goto (tgt := 19) hx hb d_M_lay_54 (by decide) ?_
              exact ih9_19 _ (by first | omega | (omega)) v_18 v_19 (k + 1) (upd soJ p8.toNatClampNeg i9) rfl (hpn) (by subst_vars; exact nI_1 k) (by omega) (layt_st (t := ns F j + k) hl2 (by omega) (by rw [hp2]; exact nI_clamp (by omega)) (by rw [hi, sgA_eq (s := j) hj2 (Nat.le_add_right _ _) (by omega)])) H locs ls (hP.sub [0, 1, 2, 3, 4] rfl) (hD.sub [0, 1, 2, 3, 4] (by decide +kernel) rfl) hS (lv_sub hl [0, 1, 2, 3, 4, 5] rfl)
        exact J_19 _ p9 0 0 soK rfl (hp) (rfl) (Nat.zero_le _) (hlt) H locs ls (hP.sub [0, 1, 2, 3, 4] rfl) (hD.sub [0, 1, 2, 3, 4] (by decide +kernel) rfl) hS (lv_sub hl [0, 2, 1, 3, 4, 5] rfl)
  exact J_5 _ 0 0 0 vSO rfl (rfl) (rfl) (Nat.zero_le _) (fun _ z => absurd z (Nat.not_lt_zero _)) H locs ls (hP.sub [0, 1, 2, 3, 4] rfl) (hD.sub [0, 1, 2, 3, 4] (by decide +kernel) rfl) hS (lv_sub hl [0, 1, 2, 3, 4] rfl)
end
section
/-! FORM 4: a sign is read -/
def tbN (is : List Nat) : Nat → Nat × Nat → Nat × Nat
  | 0, r => r
  | k + 1, r => if r.1 < 512 then tbN is k (2 * r.1 + biA is r.2, r.2 + 1) else r
def tbS (is : List Nat) (r : Nat × Nat) : Nat × Nat := tbN is 10 r
theorem tbN_e {is : List Nat} {k : Nat} {r : Nat × Nat} (h : ¬ r.1 < 512) : tbN is k r = r := by
  cases k with
  | zero => rfl
  | succ k => rw [tbN, if_neg h]
theorem tbN_s {is : List Nat} {k : Nat} {r : Nat × Nat} (h0 : 0 < k) (h : r.1 < 512) : tbN is k r = tbN is (k - 1) (2 * r.1 + biA is r.2, r.2 + 1) := by
  cases k with
  | zero => omega
  | succ k => rw [tbN, if_pos h]; rfl
theorem tb_k {k x : Nat} (hk : 1 ≤ k) (hk2 : k ≤ 10) (h : 2 ^ (10 - k) ≤ x) (hx : x < 512) : 1 < k := by
  rcases Nat.lt_or_ge 1 k with z | z
  · exact z
  · have e : k = 1 := by omega
    subst e
    omega
theorem tb_s {k x b : Nat} (hk : 1 < k) (hk2 : k ≤ 10) (h : 2 ^ (10 - k) ≤ x) : 2 ^ (10 - (k - 1)) ≤ 2 * x + b := by
  have e : 2 ^ (10 - (k - 1)) = 2 * 2 ^ (10 - k) := by rw [show 10 - (k - 1) = (10 - k) + 1 by omega, Nat.pow_succ, Nat.mul_comm]
  omega
def gt4 (is : List Nat) (n : Nat) (F : Nat → Nat) (X t : Nat) : Option Nat × (Nat × Nat) := if ns F n = 0 then (none, (X, t)) else (some (plc F n (X - 512)), tbS is (F (plc F n (X - 512)) + num F n (X - 512), t))
set_option maxHeartbeats 1000000 in
set_option maxRecDepth 100000 in
/-- getTabled -/
theorem c_M_getTabled (l : Launch) (dC : Nat → ClassId) (dI : Nat → Nat → Nat) (cI cM cO : ClassId) (sz : Nat) (o : Nat) (g : Nat → Nat) (fForm : Int32) (fShift : Int32) (fModels : Int32) (fItems : Int32) (fEnded : Int32) (fLow : Int64) (fRange : Int64) (fCache : Int32) (fPend : Int32) (fGoes : Int32) (fOuts : Int32) (fReads : Int32) (fBad : Int32) (fIR : Int32) (fCode : Int64) (fRL : Int64) (fRR : Int64) (fWrites : Int32) (fThrown : Int32) (vMany : Nat → Int32) (vThen : Nat → Int32) (vIn : Nat → Int32) (vSO : Nat → Int32) (vNO : Nat → Int32) (mm : Nat) (n : Nat) (F : Nat → Nat) (X : Nat) (t : Nat) (is : List Nat) (hmm : mm < 8) (hn : vMany mm = nI n) (hn2 : n ≤ 64) (hIn : gIs vIn is) (hlen : is.length ≤ 6000) (hoct : oct is) (ht : t < 800000) (hf : sgI vThen (64 * mm) n F) (hsum : ns F n = 0 ∨ ns F n = 512) (hX0 : 512 ≤ X) (hX1 : X < 1024) (hFp : ns F n = 512 → 0 < F (plc F n (X - 512))) : MetI l y_M_getTabled (Cond.code y_M_getTabled prog_14_method_55_code 4 (some .int) :: gw) ({ frames := 1, cells := 0, slots := 0, locals := 26 } : Room) (dC, dI) vwCl (kT cI cM cO) [Value.ref o, Value.int (nI mm)] [(o, Sum.inr (9, mO g fForm fShift fModels fItems fEnded fLow fRange fCache fPend fGoes fOuts (nI is.length) fReads fBad fIR (nI ((t + 7) / 8)) (nI t) fCode fRL fRR (lN X) fWrites fThrown)), ((g 0), Sum.inl (cI, 8, Sum.inl vMany)), ((g 3), Sum.inl (cI, 512, Sum.inl vThen)), ((g 8), Sum.inl (cI, 6000, Sum.inl vIn)), ((g 9), Sum.inl (cI, 512, Sum.inl vSO)), ((g 10), Sum.inl (cI, 512, Sum.inl vNO))] sz (fun (r : Int32) (u : (Nat → Int32) × (Nat → Int32)) => r = oI (gt4 is n F X t).1) (fun (u : (Nat → Int32) × (Nat → Int32)) => [(o, Sum.inr (9, mO g fForm fShift fModels fItems fEnded fLow fRange fCache fPend fGoes fOuts (nI is.length) fReads fBad fIR (nI (((gt4 is n F X t).2.2 + 7) / 8)) (nI (gt4 is n F X t).2.2) fCode fRL fRR (lN (gt4 is n F X t).2.1) fWrites fThrown)), ((g 0), Sum.inl (cI, 8, Sum.inl vMany)), ((g 3), Sum.inl (cI, 512, Sum.inl vThen)), ((g 8), Sum.inl (cI, 6000, Sum.inl vIn)), ((g 9), Sum.inl (cI, 512, Sum.inl u.1)), ((g 10), Sum.inl (cI, 512, Sum.inl u.2))]) 0 0 := by
  refine my_ofI (cc := prog_14_method_55_code) (n := 4) (ret := (some .int)) (by decide) rfl (Nat.le_of_ble_eq_true rfl) ?_
  intro p e s m args below meth c R Q A ls H locs hx hb hr hts hown hlocks hml hnm hR hQ hA hl hP hK hN hD hS
  have hg : ∀ w ∈ gw, w.before args s = true := fun w h => hts w (List.mem_cons_of_mem _ h)
  have hown : s.vm.findClass "RangeCodersModel" = some m.cls := hown
  have hl : lv_has ls 4 [(0, Value.ref o), (1, Value.int (nI mm))] := hl
  refine lv_aload_n hx hb d_M_getTabled_0 rfl (lv_at hl 0 rfl) ?_
  refine lv_aload_n hx hb d_M_getTabled_1 rfl (lv_at hl 0 rfl) ?_
  refine va_get (D := (dC, dI)) (ci := 9) (v := .ref (g 3)) (C := "RangeCodersModel") (T := T_M) (N := 35) hx hb hg in_M hown hK hP 0 rfl rfl 6 (by decide) (hg _ k958) (fun _ h9 => h9) rfl d_M_getTabled_2 ?_
  refine lv_iload_n hx hb d_M_getTabled_5 rfl (lv_at hl 1 rfl) ?_
  refine my_ci (wr := [((g 8), Sum.inl (cI, 6000, Sum.inl vIn)), ((g 9), Sum.inl (cI, 512, Sum.inl vSO)), ((g 10), Sum.inl (cI, 512, Sum.inl vNO))]) (va_runV (As := [Value.ref (g 3), Value.int (nI mm)]) (rest := []) ⟨hx, hb, hml, hown, hts⟩ (c_M_sum l dC dI cI cM cO H.size o g fForm fShift fModels fItems fEnded fLow fRange fCache fPend fGoes fOuts (nI is.length) fReads fBad fIR (nI ((t + 7) / 8)) (nI t) fCode fRL fRR (lN X) fWrites fThrown vMany (g 3) vThen mm n F (by assumption) (by assumption) (by assumption) (hf)) (cwV 2 hts (my_gV k936 k938 ks21 k12 k939) rfl rfl rfl (by decide +kernel) ⟨by rw [hR]; exact Nat.le_of_ble_eq_true rfl, by rw [hR]; exact Nat.le_of_ble_eq_true rfl⟩) (my_preV hK hN (hP.sub [0, 1, 2] rfl) (hD.sub [0, 1, 2] (by decide +kernel) rfl) 0 rfl rfl) rfl rfl hl.1 rfl (lv_room (Nat.le_of_ble_eq_true rfl)) d_M_getTabled_6 ⟨by rw [hR]; exact Nat.le_of_ble_eq_true rfl, by rw [hR]; exact Nat.le_of_ble_eq_true rfl⟩) hP hD hS hA [0, 1, 2] [3, 4, 5] rfl rfl (by decide +kernel) (by decide +kernel) (fun r_6 u9 H locs hw_6 hP hD hS => ?_)
  have hw_6 : r_6 = nI (ns F n) := hw_6
  have hPD : my_PD (dC, dI) vwCl A [((g 8), Sum.inl (cI, 6000, Sum.inl vIn)), ((g 9), Sum.inl (cI, 512, Sum.inl vSO)), ((g 10), Sum.inl (cI, 512, Sum.inl vNO)), (o, Sum.inr (9, mO g fForm fShift fModels fItems fEnded fLow fRange fCache fPend fGoes fOuts (nI is.length) fReads fBad fIR (nI ((t + 7) / 8)) (nI t) fCode fRL fRR (lN X) fWrites fThrown)), ((g 0), Sum.inl (cI, 8, Sum.inl vMany)), ((g 3), Sum.inl (cI, 512, Sum.inl vThen))] H := ⟨hP, hD⟩
  have hP := hPD.1
  have hD := hPD.2
  refine lv_if_ne (tgt := 14) hx hb d_M_getTabled_9 (by decide) (fun c_1 => ?_) (fun c_1 => ?_)
  · have hnz : ¬ ns F n = 0 := fun z => c_1 (by rw [hw_6, z]; rfl)
    have h51 : ns F n = 512 := by omega
    have hpl := plc_lt (p := X - 512) h51
    have hFl := ns_ge (F := F) hpl
    have hFq := hFp h51
    have hnm : num F n (X - 512) ≤ X - 512 := cn_le _ _ _
    have hxx0 : gt4 is n F X t = (some (plc F n (X - 512)), tbS is (F (plc F n (X - 512)) + num F n (X - 512), t)) := by unfold gt4; rw [if_neg hnz]
    refine lv_aload_n hx hb d_M_getTabled_14 rfl (lv_at hl 0 rfl) ?_
    refine lv_aload_n hx hb d_M_getTabled_15 rfl (lv_at hl 0 rfl) ?_
    refine va_get (D := (dC, dI)) (ci := 9) (v := .ref (g 3)) (C := "RangeCodersModel") (T := T_M) (N := 35) hx hb hg in_M hown hK hP 3 rfl rfl 6 (by decide) (hg _ k958) (fun _ h9 => h9) rfl d_M_getTabled_16 ?_
    refine lv_iload_n hx hb d_M_getTabled_19 rfl (lv_at hl 1 rfl) ?_
    refine my_cv (wr := [((g 8), Sum.inl (cI, 6000, Sum.inl vIn))]) (va_runV (As := [Value.ref (g 3), Value.int (nI mm)]) (rest := []) ⟨hx, hb, hml, hown, hts⟩ (c_M_lay l dC dI cI cM cO H.size o g fForm fShift fModels fItems fEnded fLow fRange fCache fPend fGoes fOuts (nI is.length) fReads fBad fIR (nI ((t + 7) / 8)) (nI t) fCode fRL fRR (lN X) fWrites fThrown vMany vSO vNO (g 3) vThen mm n F (by assumption) (by assumption) (by assumption) (hf) (h51)) (cwV 2 hts (my_gV k1165 k1167 ks43 k12 k1168) rfl rfl rfl (by decide +kernel) ⟨by rw [hR]; exact Nat.le_of_ble_eq_true rfl, by rw [hR]; exact Nat.le_of_ble_eq_true rfl⟩) (my_preV hK hN (hP.sub [3, 4, 5, 1, 2] rfl) (hD.sub [3, 4, 5, 1, 2] (by decide +kernel) rfl) 0 rfl rfl) rfl rfl hl.1 rfl (lv_room (Nat.le_of_ble_eq_true rfl)) d_M_getTabled_20 ⟨by rw [hR]; exact Nat.le_of_ble_eq_true rfl, by rw [hR]; exact Nat.le_of_ble_eq_true rfl⟩) hP hD hS hA [3, 4, 5, 1, 2] [0] rfl rfl (by decide +kernel) (by decide +kernel) (fun u9 H locs hw_20 hP hD hS => ?_)
    obtain ⟨so2_20, no2_20⟩ := u9
    have hw_20 : layd so2_20 no2_20 F n := hw_20
    have hPD : my_PD (dC, dI) vwCl A [((g 8), Sum.inl (cI, 6000, Sum.inl vIn)), (o, Sum.inr (9, mO g fForm fShift fModels fItems fEnded fLow fRange fCache fPend fGoes fOuts (nI is.length) fReads fBad fIR (nI ((t + 7) / 8)) (nI t) fCode fRL fRR (lN X) fWrites fThrown)), ((g 0), Sum.inl (cI, 8, Sum.inl vMany)), ((g 3), Sum.inl (cI, 512, Sum.inl vThen)), ((g 9), Sum.inl (cI, 512, Sum.inl so2_20)), ((g 10), Sum.inl (cI, 512, Sum.inl no2_20))] H := ⟨hP, hD⟩
    have hP := hPD.1
    have hD := hPD.2
    refine lv_aload_n hx hb d_M_getTabled_23 rfl (lv_at hl 0 rfl) ?_
    refine va_get (D := (dC, dI)) (ci := 9) (v := .long (lN X)) (C := "RangeCodersModel") (T := T_M) (N := 35) hx hb hg in_M hown hK hP 1 rfl rfl 29 (by decide) (hg _ k981) (fun _ h9 => h9) rfl d_M_getTabled_24 ?_
    refine lv_l2i hx hb d_M_getTabled_27 rfl ?_
    refine lv_topi (fun v_2 ev_2 => ?_)
    refine lv_sipush (v := 512) hx hb d_M_getTabled_28 (by decide) ?_
    refine lv_isub hx hb d_M_getTabled_31 ?_
    refine lv_topi (fun v_3 ev_3 => ?_)
    have z9 : v_3 = nI (X - 512) := by subst_vars; rw [lN_i]; exact pk_sub (b := 512) hX0
    subst z9
    refine lv_istore_n (lv' := [(2, Value.int (nI (X - 512))), (0, Value.ref o), (1, Value.int (nI mm))]) hx hb d_M_getTabled_32 rfl hl (by decide) rfl (fun ls hl => ?_)
    refine lv_aload_n hx hb d_M_getTabled_33 rfl (lv_at hl 1 rfl) ?_
    refine va_get (D := (dC, dI)) (ci := 9) (v := .ref (g 9)) (C := "RangeCodersModel") (T := T_M) (N := 35) hx hb hg in_M hown hK hP 1 rfl rfl 30 (by decide) (hg _ k982) (fun _ h9 => h9) rfl d_M_getTabled_34 ?_
    refine lv_iload_n hx hb d_M_getTabled_37 rfl (lv_at hl 0 rfl) ?_
    refine va_iald hx hb hK hP 4 0 rfl rfl (vp_in_nI (by omega) (by decide)) d_M_getTabled_38 ?_
    refine lv_topi (fun v_4 ev_4 => ?_)
    have z9 : v_4 = nI (plc F n (X - 512)) := by subst_vars; rw [nI_clamp (by omega)]; exact hw_20.1 _ (by omega)
    subst z9
    refine lv_istore_n (lv' := [(3, Value.int (nI (plc F n (X - 512)))), (2, Value.int (nI (X - 512))), (0, Value.ref o), (1, Value.int (nI mm))]) hx hb d_M_getTabled_39 rfl hl (by decide) rfl (fun ls hl => ?_)
    refine lv_aload_n hx hb d_M_getTabled_40 rfl (lv_at hl 2 rfl) ?_
    refine lv_aload_n hx hb d_M_getTabled_41 rfl (lv_at hl 2 rfl) ?_
    refine va_get (D := (dC, dI)) (ci := 9) (v := .ref (g 3)) (C := "RangeCodersModel") (T := T_M) (N := 35) hx hb hg in_M hown hK hP 1 rfl rfl 6 (by decide) (hg _ k958) (fun _ h9 => h9) rfl d_M_getTabled_42 ?_
    refine lv_bipush (v := 64) hx hb d_M_getTabled_45 (by decide) ?_
    refine lv_iload_n hx hb d_M_getTabled_47 rfl (lv_at hl 3 rfl) ?_
    refine lv_imul hx hb d_M_getTabled_48 ?_
    refine lv_topi (fun v_5 ev_5 => ?_)
    refine lv_iload_n hx hb d_M_getTabled_49 rfl (lv_at hl 0 rfl) ?_
    refine lv_iadd hx hb d_M_getTabled_50 ?_
    refine lv_topi (fun v_6 ev_6 => ?_)
    have hix : v_6 = nI (64 * mm + plc F n (X - 512)) := by subst_vars; exact ix64
    refine va_iald hx hb hK hP 3 0 rfl rfl (by rw [hix]; exact vp_in_nI (by omega) (by decide)) d_M_getTabled_51 ?_
    refine lv_topi (fun v_7 ev_7 => ?_)
    have z9 : v_7 = nI (F (plc F n (X - 512))) := by subst_vars; rw [nI_clamp (by omega)]; exact hf _ hpl
    subst z9
    refine lv_aload_n hx hb d_M_getTabled_52 rfl (lv_at hl 2 rfl) ?_
    refine va_get (D := (dC, dI)) (ci := 9) (v := .ref (g 10)) (C := "RangeCodersModel") (T := T_M) (N := 35) hx hb hg in_M hown hK hP 1 rfl rfl 31 (by decide) (hg _ k983) (fun _ h9 => h9) rfl d_M_getTabled_53 ?_
    refine lv_iload_n hx hb d_M_getTabled_56 rfl (lv_at hl 1 rfl) ?_
    refine va_iald hx hb hK hP 5 0 rfl rfl (vp_in_nI (by omega) (by decide)) d_M_getTabled_57 ?_
    refine lv_topi (fun v_8 ev_8 => ?_)
    refine lv_iadd hx hb d_M_getTabled_58 ?_
    refine lv_topi (fun v_9 ev_9 => ?_)
    refine lv_i2l hx hb d_M_getTabled_59 rfl ?_
    refine lv_topl (fun v_10 ev_10 => ?_)
    have z9 : v_10 = lN (F (plc F n (X - 512)) + num F n (X - 512)) := by subst_vars; rw [nI_clamp (by omega), hw_20.2 _ (by omega), nI_add]; exact nI_l (by omega)
    subst z9
    refine va_put (D := (dC, dI)) (ci := 9) (v := .long (lN (F (plc F n (X - 512)) + num F n (X - 512)))) (ty := .long) (C := "RangeCodersModel") (T := T_M) (N := 35) hx hb hg in_M t_M o_M n_M hown hK hP hD hS 1 rfl rfl 29 (by decide) (hg _ k981) (fun _ h9 => h9) rfl (by decide +kernel) rfl rfl (Nat.le_of_ble_eq_true rfl) d_M_getTabled_60 (fun H locs hP hD hS => ?_)
    have hPD : my_PD (dC, dI) vwCl A [((g 8), Sum.inl (cI, 6000, Sum.inl vIn)), (o, Sum.inr (9, mO g fForm fShift fModels fItems fEnded fLow fRange fCache fPend fGoes fOuts (nI is.length) fReads fBad fIR (nI ((t + 7) / 8)) (nI t) fCode fRL fRR (lN (F (plc F n (X - 512)) + num F n (X - 512))) fWrites fThrown)), ((g 0), Sum.inl (cI, 8, Sum.inl vMany)), ((g 3), Sum.inl (cI, 512, Sum.inl vThen)), ((g 9), Sum.inl (cI, 512, Sum.inl so2_20)), ((g 10), Sum.inl (cI, 512, Sum.inl no2_20))] H := ⟨hP, hD⟩
    have hP := hPD.1
    have hD := hPD.2
    have J_63 : ∀ (n9_63 : Nat) (r9 : Nat × Nat) (k9 : Nat) (hn9_63 : k9 = n9_63) (hE9 : tbS is (F (plc F n (X - 512)) + num F n (X - 512), t) = tbN is k9 r9) (hk1 : 1 ≤ k9) (hk2 : k9 ≤ 10) (hx1 : 2 ^ (10 - k9) ≤ r9.1) (hx2 : r9.1 < 1024) (ht9 : r9.2 + k9 ≤ t + 10) (H : Heap) (locs : List Loc) (ls : Array Slot), va_P (dC, dI) vwCl [((g 8), Sum.inl (cI, 6000, Sum.inl vIn)), (o, Sum.inr (9, mO g fForm fShift fModels fItems fEnded fLow fRange fCache fPend fGoes fOuts (nI is.length) fReads fBad fIR (nI ((r9.2 + 7) / 8)) (nI r9.2) fCode fRL fRR (lN r9.1) fWrites fThrown)), ((g 0), Sum.inl (cI, 8, Sum.inl vMany)), ((g 3), Sum.inl (cI, 512, Sum.inl vThen)), ((g 9), Sum.inl (cI, 512, Sum.inl so2_20)), ((g 10), Sum.inl (cI, 512, Sum.inl no2_20))] H → va_D A [((g 8), Sum.inl (cI, 6000, Sum.inl vIn)), (o, Sum.inr (9, mO g fForm fShift fModels fItems fEnded fLow fRange fCache fPend fGoes fOuts (nI is.length) fReads fBad fIR (nI ((r9.2 + 7) / 8)) (nI r9.2) fCode fRL fRR (lN r9.1) fWrites fThrown)), ((g 0), Sum.inl (cI, 8, Sum.inl vMany)), ((g 3), Sum.inl (cI, 512, Sum.inl vThen)), ((g 9), Sum.inl (cI, 512, Sum.inl so2_20)), ((g 10), Sum.inl (cI, 512, Sum.inl no2_20))] → va_S A s.heap H locs → lv_has ls 4 [(3, Value.int (nI (plc F n (X - 512)))), (0, Value.ref o)] → W p l e R s m args below meth c H locs 0 0 Q (F0 m 63 ls []) := by
      intro n9_63
      induction n9_63 using Nat.strongRecOn with
      | ind n9_63 ih9_63 =>
        intro r9 k9 hn9_63 hE9 hk1 hk2 hx1 hx2 ht9 H locs ls hP hD hS hl
        refine lv_aload_n hx hb d_M_getTabled_63 rfl (lv_at hl 1 rfl) ?_
        refine va_get (D := (dC, dI)) (ci := 9) (v := .long (lN r9.1)) (C := "RangeCodersModel") (T := T_M) (N := 35) hx hb hg in_M hown hK hP 1 rfl rfl 29 (by decide) (hg _ k981) (fun _ h9 => h9) rfl d_M_getTabled_64 ?_
        refine lv_ldc2 (v := 512) hx hb hown (hg _ k1160) d_M_getTabled_67 ?_
        refine W.lcmp hx hb d_M_getTabled_70 ?_
        refine lv_if_ge (tgt := 95) hx hb d_M_getTabled_71 (by decide) (fun c_11 => ?_) (fun c_11 => ?_)
        · rw [lg_cmp_ge] at c_11
          have hge : ¬ r9.1 < 512 := by have z := (L_le (a := 512) (by decide) (by omega)).mp c_11; omega
          have hxx : gt4 is n F X t = (some (plc F n (X - 512)), r9) := by rw [hxx0, hE9, tbN_e hge]
          refine lv_iload_n hx hb d_M_getTabled_95 rfl (lv_at hl 0 rfl) ?_
          exact my_iret (v := (nI (plc F n (X - 512)))) hx hb hr (rfl) hlocks hQ hK hS (Nat.le_refl _) (Nat.le_refl _) (so2_20, no2_20) (by rw [hxx]; rfl) (by rw [hxx]; exact (hP.sub [1, 2, 3, 0, 4, 5] rfl)) (by rw [hxx]; exact (hD.sub [1, 2, 3, 0, 4, 5] (by decide +kernel) rfl)) d_M_getTabled_96
        · rw [lg_cmp_ge] at c_11
          have hlt : r9.1 < 512 := by
            rcases Nat.lt_or_ge r9.1 512 with z | z
            · exact z
            · exact absurd ((L_le (a := 512) (by decide) (by omega)).mpr z) c_11
          have hk3 := tb_k hk1 hk2 hx1 hlt
          have hbi := biA_lt is r9.2
          refine lv_aload_n hx hb d_M_getTabled_74 rfl (lv_at hl 1 rfl) ?_
          refine lv_ldc2 (v := 2) hx hb hown (hg _ k1169) d_M_getTabled_75 ?_
          refine lv_aload_n hx hb d_M_getTabled_78 rfl (lv_at hl 1 rfl) ?_
          refine va_get (D := (dC, dI)) (ci := 9) (v := .long (lN r9.1)) (C := "RangeCodersModel") (T := T_M) (N := 35) hx hb hg in_M hown hK hP 1 rfl rfl 29 (by decide) (hg _ k981) (fun _ h9 => h9) rfl d_M_getTabled_79 ?_
          refine lv_lmul hx hb d_M_getTabled_82 ?_
          refine lv_topl (fun v_12 ev_12 => ?_)
          refine lv_aload_n hx hb d_M_getTabled_83 rfl (lv_at hl 1 rfl) ?_
          refine my_ci (wr := [((g 0), Sum.inl (cI, 8, Sum.inl vMany)), ((g 3), Sum.inl (cI, 512, Sum.inl vThen)), ((g 9), Sum.inl (cI, 512, Sum.inl so2_20)), ((g 10), Sum.inl (cI, 512, Sum.inl no2_20))]) (va_runV (As := []) (rest := [Value.long v_12, Value.ref o]) ⟨hx, hb, hml, hown, hts⟩ (c_M_nextBit l dC dI cI cM cO H.size o g fForm fShift fModels fItems fEnded fLow fRange fCache fPend fGoes fOuts fReads fBad fIR fCode fRL fRR (lN r9.1) fWrites fThrown vIn is r9.2 (nI ((r9.2 + 7) / 8)) (hIn) (by assumption) (by assumption) (by omega)) (cwV 0 hts (my_gV k1198 k1200 ks46 k12 k1201) rfl rfl rfl (by decide +kernel) ⟨by rw [hR]; exact Nat.le_of_ble_eq_true rfl, by rw [hR]; exact Nat.le_of_ble_eq_true rfl⟩) (my_preV hK hN (hP.sub [1, 0] rfl) (hD.sub [1, 0] (by decide +kernel) rfl) 0 rfl rfl) rfl rfl hl.1 rfl (lv_room (Nat.le_of_ble_eq_true rfl)) d_M_getTabled_84 ⟨by rw [hR]; exact Nat.le_of_ble_eq_true rfl, by rw [hR]; exact Nat.le_of_ble_eq_true rfl⟩) hP hD hS hA [1, 0] [2, 3, 4, 5] rfl rfl (by decide +kernel) (by decide +kernel) (fun r_84 u9 H locs hw_84 hP hD hS => ?_)
          have hw_84 : r_84 = nI (biA is r9.2) := hw_84
          have hPD : my_PD (dC, dI) vwCl A [((g 0), Sum.inl (cI, 8, Sum.inl vMany)), ((g 3), Sum.inl (cI, 512, Sum.inl vThen)), ((g 9), Sum.inl (cI, 512, Sum.inl so2_20)), ((g 10), Sum.inl (cI, 512, Sum.inl no2_20)), (o, Sum.inr (9, mO g fForm fShift fModels fItems fEnded fLow fRange fCache fPend fGoes fOuts (nI is.length) fReads fBad fIR (nI ((r9.2 + 8) / 8)) (nI (r9.2 + 1)) fCode fRL fRR (lN r9.1) fWrites fThrown)), ((g 8), Sum.inl (cI, 6000, Sum.inl vIn))] H := ⟨hP, hD⟩
          have hP := hPD.1
          have hD := hPD.2
          refine lv_i2l hx hb d_M_getTabled_87 rfl ?_
          refine lv_topl (fun v_13 ev_13 => ?_)
          refine lv_ladd hx hb d_M_getTabled_88 ?_
          refine lv_topl (fun v_14 ev_14 => ?_)
          have z9 : v_14 = lN (2 * r9.1 + biA is r9.2) := by subst_vars; rw [show (2 : Int64) * lN r9.1 = lN (2 * r9.1) from lN_mul 2 _, nI_l (by omega), lN_add]
          subst z9
          refine va_put (D := (dC, dI)) (ci := 9) (v := .long (lN (2 * r9.1 + biA is r9.2))) (ty := .long) (C := "RangeCodersModel") (T := T_M) (N := 35) hx hb hg in_M t_M o_M n_M hown hK hP hD hS 4 rfl rfl 29 (by decide) (hg _ k981) (fun _ h9 => h9) rfl (by decide +kernel) rfl rfl (Nat.le_of_ble_eq_true rfl) d_M_getTabled_89 (fun H locs hP hD hS => ?_)
          have hPD : my_PD (dC, dI) vwCl A [((g 0), Sum.inl (cI, 8, Sum.inl vMany)), ((g 3), Sum.inl (cI, 512, Sum.inl vThen)), ((g 9), Sum.inl (cI, 512, Sum.inl so2_20)), ((g 10), Sum.inl (cI, 512, Sum.inl no2_20)), (o, Sum.inr (9, mO g fForm fShift fModels fItems fEnded fLow fRange fCache fPend fGoes fOuts (nI is.length) fReads fBad fIR (nI ((r9.2 + 8) / 8)) (nI (r9.2 + 1)) fCode fRL fRR (lN (2 * r9.1 + biA is r9.2)) fWrites fThrown)), ((g 8), Sum.inl (cI, 6000, Sum.inl vIn))] H := ⟨hP, hD⟩
          have hP := hPD.1
          have hD := hPD.2
          refine lv_goto (tgt := 63) hx hb d_M_getTabled_92 (by decide) ?_
          exact ih9_63 _ (by first | omega | (omega)) (2 * r9.1 + biA is r9.2, r9.2 + 1) (k9 - 1) rfl (by rw [hE9, tbN_s (by omega) hlt]) (by omega) (by omega) (tb_s hk3 hk2 hx1) (by show 2 * r9.1 + biA is r9.2 < 1024; omega) (by show r9.2 + 1 + _ ≤ _; omega) H locs ls (hP.sub [5, 4, 0, 1, 2, 3] rfl) (hD.sub [5, 4, 0, 1, 2, 3] (by decide +kernel) rfl) hS (lv_sub hl [0, 1] rfl)
    exact J_63 _ (F (plc F n (X - 512)) + num F n (X - 512), t) 10 rfl (rfl) (by decide) (by decide) (by show 1 ≤ F (plc F n (X - 512)) + num F n (X - 512); omega) (by show F (plc F n (X - 512)) + num F n (X - 512) < 1024; omega) (by show t + 10 ≤ _; omega) H locs ls (hP.sub [0, 1, 2, 3, 4, 5] rfl) (hD.sub [0, 1, 2, 3, 4, 5] (by decide +kernel) rfl) hS (lv_sub hl [0, 2] rfl)
  · have hz : ns F n = 0 := (nI_eq (b := 0) (by omega) (by decide)).mp (by rw [← hw_6]; exact c_1)
    have hxx : gt4 is n F X t = (none, (X, t)) := by unfold gt4; rw [if_pos hz]
    refine lv_iconst (v := (-1)) hx hb d_M_getTabled_12 (by decide) ?_
    exact my_iret (v := (-1)) hx hb hr (rfl) hlocks hQ hK hS (Nat.le_refl _) (Nat.le_refl _) (vSO, vNO) (by rw [hxx]; rfl) (by rw [hxx]; exact (hP.sub [3, 4, 5, 0, 1, 2] rfl)) (by rw [hxx]; exact (hD.sub [3, 4, 5, 0, 1, 2] (by decide +kernel) rfl)) d_M_getTabled_13
end
section
/-! ITEMS that are kept, and FORM 3's end -/
abbrev It : Type := Nat × Nat × Nat
def itM (it : It) : Int32 := if it.1 = 0 then -nI it.2.1 else nI it.2.1
def itW (it : It) : Int32 := nI it.2.2
abbrev itA (its : List It) (i : Nat) : It := its.getD i (0, 0, 0)
def itIs (f g : Nat → Int32) (its : List It) : Prop := ∀ i, i < its.length → f i = itM (itA its i) ∧ g i = itW (itA its i)
def itF (M : Nat) (Fn : Nat → Nat → Nat) (it : It) : Nat := if it.1 = 0 then M / 2 ^ it.2.1 else Fn it.2.1 it.2.2
def itC (M : Nat) (Fn : Nat → Nat → Nat) (it : It) : Nat := if it.1 = 0 then M / 2 ^ it.2.1 * it.2.2 else ns (Fn it.2.1) it.2.2
/-- what holds of an item of form 3 -/
def it3 (vNow : Nat → Int32) (N : Nat → Nat) (Fn : Nat → Nat → Nat) (it : It) : Prop := (it.1 = 0 ∧ 1 ≤ it.2.1 ∧ it.2.1 ≤ 12 ∧ it.2.2 < 2 ^ it.2.1) ∨ (¬ it.1 = 0 ∧ it.2.1 < 8 ∧ N it.2.1 ≤ 64 ∧ it.2.2 < N it.2.1 ∧ 0 < Fn it.2.1 it.2.2 ∧ ns (Fn it.2.1) (N it.2.1) = 4096 ∧ sgI vNow (64 * it.2.1) (N it.2.1) (Fn it.2.1))
theorem it3_b {vNow : Nat → Int32} {N : Nat → Nat} {Fn : Nat → Nat → Nat} {it : It} (h : it3 vNow N Fn it) : 0 < itF 4096 Fn it ∧ itC 4096 Fn it + itF 4096 Fn it ≤ 4096 := by
  unfold itF itC
  rcases h with ⟨h0, h1, h2, h3⟩ | ⟨h0, h1, h2, h3, h4, h5, h6⟩
  · rw [if_pos h0, if_pos h0]
    have hp : 2 ^ it.2.1 ≤ 4096 := Nat.le_trans (Nat.pow_le_pow_right (n := 2) (by decide) h2) (by decide)
    have a : 0 < 4096 / 2 ^ it.2.1 := Nat.div_pos hp (Nat.pow_pos (by decide))
    refine ⟨a, ?_⟩
    have b : 4096 / 2 ^ it.2.1 * (it.2.2 + 1) ≤ 4096 / 2 ^ it.2.1 * 2 ^ it.2.1 := Nat.mul_le_mul_left _ h3
    have c := Nat.div_mul_le_self 4096 (2 ^ it.2.1)
    rw [Nat.mul_add, Nat.mul_one] at b
    omega
  · rw [if_neg h0, if_neg h0]
    have := ns_m1 (Fn it.2.1) h3
    omega
/-- bytes that are WRITTEN as X is too large for f -/
def s3N (f : Nat) : Nat → Nat × List Nat → Nat × List Nat
  | 0, r => r
  | k + 1, r => if f * 524288 ≤ r.1 then s3N f k (r.1 / 256, r.2 ++ [r.1 % 256]) else r
theorem s3N_e {f k : Nat} {r : Nat × List Nat} (h : ¬ f * 524288 ≤ r.1) : s3N f k r = r := by
  cases k with
  | zero => rfl
  | succ k => rw [s3N, if_neg h]
theorem s3N_s {f k : Nat} {r : Nat × List Nat} (h0 : 0 < k) (h : f * 524288 ≤ r.1) : s3N f k r = s3N f (k - 1) (r.1 / 256, r.2 ++ [r.1 % 256]) := by
  cases k with
  | zero => omega
  | succ k => rw [s3N, if_pos h]; rfl
def s3I (f c : Nat) (r : Nat × List Nat) : Nat × List Nat := ((s3N f 8 r).1 / f * 4096 + (s3N f 8 r).1 % f + c, (s3N f 8 r).2)
def e3N (Fn : Nat → Nat → Nat) (its : List It) : Nat → Nat × List Nat → Nat × List Nat
  | 0, r => r
  | k + 1, r => e3N Fn its k (s3I (itF 4096 Fn (itA its k)) (itC 4096 Fn (itA its k)) r)
def xb (k : Nat) : Nat := if k = 8 then 2147483648 else if k = 7 then 8388608 else 32768
def b4 (X : Nat) : Nat → List Nat
  | 0 => []
  | k + 1 => X % 256 :: b4 (X / 256) k
/-- what FORM 3 has WRITTEN at its end -/
def e3S (Fn : Nat → Nat → Nat) (its : List It) : List Nat := (e3N Fn its its.length (8388608, [])).2 ++ b4 (e3N Fn its its.length (8388608, [])).1 4
theorem s3_fin {f c X : Nat} (hf : 0 < f) (h1 : f * 2048 ≤ X) (h2 : X < f * 524288) (hc : c + f ≤ 4096) : 8388608 ≤ X / f * 4096 + X % f + c ∧ X / f * 4096 + X % f + c < 2147483648 := by
  have a : 2048 ≤ X / f := (Nat.le_div_iff_mul_le hf).mpr (by rw [Nat.mul_comm]; exact h1)
  have b : X / f < 524288 := (Nat.div_lt_iff_lt_mul hf).mpr (by rw [Nat.mul_comm]; exact h2)
  have d := Nat.mod_lt X hf
  omega
end
