set_option maxHeartbeats 1000000 in
set_option maxRecDepth 100000 in
/-- putValue, form 2 -/
theorem c_M_putValue2 (l : Launch) (dC : Nat → ClassId) (dI : Nat → Nat → Nat) (cI cM cO : ClassId) (sz : Nat) (o : Nat) (g : Nat → Nat) (fShift : Int32) (fModels : Int32) (fItems : Int32) (fEnded : Int32) (fOuts : Int32) (fIns : Int32) (fReads : Int32) (fBad : Int32) (fIR : Int32) (fAsk : Int32) (fBAsk : Int32) (fCode : Int64) (fRL : Int64) (fRR : Int64) (fX : Int64) (fWrites : Int32) (fThrown : Int32) (vGoing : Nat → Int32) (v : Nat) (b : Nat) (Rg : Nat) (L : Nat) (ca : Option Nat) (Pn : Nat) (bs : List Nat) (hb1 : 1 ≤ b) (hb2 : b ≤ 12) (hv : v < 4096) (hE : eInv (Rg, L, ca, Pn, bs)) (hG : gIs vGoing bs) (hN9 : bs.length + Pn + 20 ≤ 9000) : MetV l y_M_putValue (Cond.code y_M_putValue prog_14_method_27_code 4 none :: gw) ({ frames := 3, cells := 0, slots := 0, locals := 62 } : Room) (dC, dI) vwCl (kT cI cM cO) [Value.ref o, Value.int (nI v), Value.int (nI b)] [(o, Sum.inr (9, mO g 2 fShift fModels fItems fEnded (lN L) (lN Rg) (caI ca) (nI Pn) (nI bs.length) fOuts fIns fReads fBad fIR fAsk fBAsk fCode fRL fRR fX fWrites fThrown)), ((g 6), Sum.inl (cI, 9000, Sum.inl vGoing))] sz (fun (u : (Nat → Int32)) => gIs u (eB (vbN v b (Rg, L, ca, Pn, bs)))) (fun (u : (Nat → Int32)) => [(o, Sum.inr (9, mO g 2 fShift fModels fItems fEnded (lN (eL (vbN v b (Rg, L, ca, Pn, bs)))) (lN (eR (vbN v b (Rg, L, ca, Pn, bs)))) (caI (eC (vbN v b (Rg, L, ca, Pn, bs)))) (nI (eP (vbN v b (Rg, L, ca, Pn, bs)))) (nI (eB (vbN v b (Rg, L, ca, Pn, bs))).length) fOuts fIns fReads fBad fIR fAsk fBAsk fCode fRL fRR fX fWrites fThrown)), ((g 6), Sum.inl (cI, 9000, Sum.inl u))]) 0 0 := by
  refine my_ofV (cc := prog_14_method_27_code) (n := 4) (ret := none) (by decide) rfl (Nat.le_of_ble_eq_true rfl) ?_
  intro p e s m args below meth c R Q A ls H locs hx hb hr hts hown hlocks hml hnm hR hQ hA hl hP hK hN hD hS
  have hg : ∀ w ∈ gw, w.before args s = true := fun w h => hts w (List.mem_cons_of_mem _ h)
  have hown : s.vm.findClass "RangeCodersModel" = some m.cls := hown
  have hl : lv_has ls 4 [(0, Value.ref o), (1, Value.int (nI v)), (2, Value.int (nI b))] := hl
  refine lv_aload_n hx hb d_M_putValue_0 rfl (lv_at hl 0 rfl) ?_
  refine va_get (D := (dC, dI)) (ci := 9) (v := .int 2) (C := "RangeCodersModel") (T := T_M) (N := 35) hx hb hg in_M hown hK hP 0 rfl rfl 0 (by decide) (hg _ k952) (fun _ h9 => h9) rfl d_M_putValue_1 ?_
  refine lv_iconst (v := 2) hx hb d_M_putValue_4 (by decide) ?_
  refine lv_icmp_ge (tgt := 20) hx hb d_M_putValue_5 (by decide) (fun c_1 => ?_) (fun c_1 => ?_)
  · refine lv_aload_n hx hb d_M_putValue_20 rfl (lv_at hl 0 rfl) ?_
    refine va_get (D := (dC, dI)) (ci := 9) (v := .int 2) (C := "RangeCodersModel") (T := T_M) (N := 35) hx hb hg in_M hown hK hP 0 rfl rfl 0 (by decide) (hg _ k952) (fun _ h9 => h9) rfl d_M_putValue_21 ?_
    refine lv_iconst (v := 2) hx hb d_M_putValue_24 (by decide) ?_
    refine lv_icmp_ne (tgt := 85) hx hb d_M_putValue_25 (by decide) (fun c_2 => ?_) (fun c_2 => ?_)
    · exact absurd rfl c_2
    · refine lv_iload_n hx hb d_M_putValue_28 rfl (lv_at hl 2 rfl) ?_
      refine lv_iconst (v := 1) hx hb d_M_putValue_29 (by decide) ?_
      refine lv_isub hx hb d_M_putValue_30 ?_
      refine lv_topi (fun v_3 ev_3 => ?_)
      refine lv_istore_n (lv' := [(3, Value.int v_3), (0, Value.ref o), (1, Value.int (nI v)), (2, Value.int (nI b))]) hx hb d_M_putValue_31 rfl hl (by decide) rfl (fun ls hl => ?_)
      have J_32 : ∀ (n9_32 : Nat) (i9 : Int32) (j : Nat) (e9 : ES) (vK : Nat → Int32) (hn9_32 : j = n9_32) (hi : i9 + 1 = nI j) (hj : j ≤ b) (hE9 : vbN v b (Rg, L, ca, Pn, bs) = vbN v j e9) (hI9 : eInv e9) (hg9 : gIs vK (eB e9)) (hM9 : eN e9 + j ≤ 9000 - 19 + b) (H : Heap) (locs : List Loc) (ls : Array Slot), va_P (dC, dI) vwCl [(o, Sum.inr (9, mO g 2 fShift fModels fItems fEnded (lN (eL e9)) (lN (eR e9)) (caI (eC e9)) (nI (eP e9)) (nI (eB e9).length) fOuts fIns fReads fBad fIR fAsk fBAsk fCode fRL fRR fX fWrites fThrown)), ((g 6), Sum.inl (cI, 9000, Sum.inl vK))] H → va_D A [(o, Sum.inr (9, mO g 2 fShift fModels fItems fEnded (lN (eL e9)) (lN (eR e9)) (caI (eC e9)) (nI (eP e9)) (nI (eB e9).length) fOuts fIns fReads fBad fIR fAsk fBAsk fCode fRL fRR fX fWrites fThrown)), ((g 6), Sum.inl (cI, 9000, Sum.inl vK))] → va_S A s.heap H locs → lv_has ls 4 [(3, Value.int i9), (0, Value.ref o), (1, Value.int (nI v)), (2, Value.int (nI b))] → W p l e R s m args below meth c H locs 0 0 Q (F0 m 32 ls []) := by
        intro n9_32
        induction n9_32 using Nat.strongRecOn with
        | ind n9_32 ih9_32 =>
          intro i9 j e9 vK hn9_32 hi hj hE9 hI9 hg9 hM9 H locs ls hP hD hS hl
          refine lv_iload_n hx hb d_M_putValue_32 rfl (lv_at hl 0 rfl) ?_
          refine lv_if_lt (tgt := 85) hx hb d_M_putValue_33 (by decide) (fun c_4 => ?_) (fun c_4 => ?_)
          · have hj0 : j = 0 := by
              rcases Nat.eq_zero_or_pos j with z | z
              · exact z
              · exact absurd (show i9 < 0 from c_4) (by rw [show i9 = nI (j - 1) from by rw [← Int32.add_sub_cancel (a := i9) (b := 1), hi]; exact pk_sub (b := 1) z]; exact nI_pos (by omega))
            have z9 : e9 = vbN v b (Rg, L, ca, Pn, bs) := by rw [hE9, hj0]; rfl
            subst z9
            exact my_vret hx hb hr hlocks hQ hK hS (Nat.le_refl _) (Nat.le_refl _) vK (hg9) (hP.sub [0, 1] rfl) (hD.sub [0, 1] (by decide +kernel) rfl) d_M_putValue_85
          · have hj0 : 1 ≤ j := by
              rcases Nat.eq_zero_or_pos j with z | z
              · subst z; exact absurd (show i9 < 0 by rw [show i9 = -1 from by rw [← Int32.add_sub_cancel (a := i9) (b := 1), hi]; rfl]; decide) c_4
              · exact z
            have hi9 : i9 = nI (j - 1) := by rw [← Int32.add_sub_cancel (a := i9) (b := 1), hi]; exact pk_sub (b := 1) hj0
            obtain ⟨hI1, hI2, hI3, hI4⟩ := id hI9
            have hvl : v / 2 ^ (j - 1) ≤ v := Nat.div_le_self _ _
            refine lv_aload_n hx hb d_M_putValue_36 rfl (lv_at hl 1 rfl) ?_
            refine lv_aload_n hx hb d_M_putValue_37 rfl (lv_at hl 1 rfl) ?_
            refine va_get (D := (dC, dI)) (ci := 9) (v := .long (lN (eR e9))) (C := "RangeCodersModel") (T := T_M) (N := 35) hx hb hg in_M hown hK hP 0 rfl rfl 12 (by decide) (hg _ k964) (fun _ h9 => h9) rfl d_M_putValue_38 ?_
            refine lv_iconst (v := 1) hx hb d_M_putValue_41 (by decide) ?_
            refine lv_lshr hx hb d_M_putValue_42 rfl ?_
            refine lv_topl (fun v_5 ev_5 => ?_)
            have z9 : v_5 = lN (eR e9 / 2) := by subst_vars; exact L_shr1 (by omega)
            subst z9
            refine va_put (D := (dC, dI)) (ci := 9) (v := .long (lN (eR e9 / 2))) (ty := .long) (C := "RangeCodersModel") (T := T_M) (N := 35) hx hb hg in_M t_M o_M n_M hown hK hP hD hS 0 rfl rfl 12 (by decide) (hg _ k964) (fun _ h9 => h9) rfl (by decide +kernel) rfl rfl (Nat.le_of_ble_eq_true rfl) d_M_putValue_43 (fun H locs hP hD hS => ?_)
            have hP : va_P (dC, dI) vwCl [(o, Sum.inr (9, mO g 2 fShift fModels fItems fEnded (lN (eL e9)) (lN (eR e9 / 2)) (caI (eC e9)) (nI (eP e9)) (nI (eB e9).length) fOuts fIns fReads fBad fIR fAsk fBAsk fCode fRL fRR fX fWrites fThrown)), ((g 6), Sum.inl (cI, 9000, Sum.inl vK))] H := hP
            have hD : va_D A [(o, Sum.inr (9, mO g 2 fShift fModels fItems fEnded (lN (eL e9)) (lN (eR e9 / 2)) (caI (eC e9)) (nI (eP e9)) (nI (eB e9).length) fOuts fIns fReads fBad fIR fAsk fBAsk fCode fRL fRR fX fWrites fThrown)), ((g 6), Sum.inl (cI, 9000, Sum.inl vK))] := hD
            refine lv_aload_n hx hb d_M_putValue_46 rfl (lv_at hl 1 rfl) ?_
            refine lv_iload_n hx hb d_M_putValue_47 rfl (lv_at hl 2 rfl) ?_
            refine lv_iload_n hx hb d_M_putValue_48 rfl (lv_at hl 0 rfl) ?_
            refine lv_ishr hx hb d_M_putValue_49 ?_
            refine lv_topi (fun v_6 ev_6 => ?_)
            refine lv_iconst (v := 1) hx hb d_M_putValue_50 (by decide) ?_
            refine lv_iand hx hb d_M_putValue_51 ?_
            refine lv_topi (fun v_7 ev_7 => ?_)
            have z9 : v_7 = nI (v / 2 ^ (j - 1) % 2) := by subst_vars; rw [I_shr (by omega) (by omega)]; exact I_and1 (by omega)
            subst z9
            refine lv_iconst (v := 1) hx hb d_M_putValue_52 (by decide) ?_
            refine lv_icmp_ne (tgt := 68) hx hb d_M_putValue_53 (by decide) (fun c_8 => ?_) (fun c_8 => ?_)
            · refine lv_aload_n hx hb d_M_putValue_68 rfl (lv_at hl 1 rfl) ?_
              refine va_get (D := (dC, dI)) (ci := 9) (v := .long (lN (eL e9))) (C := "RangeCodersModel") (T := T_M) (N := 35) hx hb hg in_M hown hK hP 0 rfl rfl 11 (by decide) (hg _ k963) (fun _ h9 => h9) rfl d_M_putValue_69 ?_
              refine W.eq (g2 := F0 m 72 ls [Value.long (lN (if v / 2 ^ (j - 1) % 2 = 1 then eL e9 + eR e9 / 2 else eL e9)), Value.ref o]) (by rw [if_neg (fun z => c_8 (by rw [z]; rfl))]) ?_
              refine va_put (D := (dC, dI)) (ci := 9) (v := .long (lN (if v / 2 ^ (j - 1) % 2 = 1 then eL e9 + eR e9 / 2 else eL e9))) (ty := .long) (C := "RangeCodersModel") (T := T_M) (N := 35) hx hb hg in_M t_M o_M n_M hown hK hP hD hS 0 rfl rfl 11 (by decide) (hg _ k963) (fun _ h9 => h9) rfl (by decide +kernel) rfl rfl (Nat.le_of_ble_eq_true rfl) d_M_putValue_72 (fun H locs hP hD hS => ?_)
              have hP : va_P (dC, dI) vwCl [(o, Sum.inr (9, mO g 2 fShift fModels fItems fEnded (lN (if v / 2 ^ (j - 1) % 2 = 1 then eL e9 + eR e9 / 2 else eL e9)) (lN (eR e9 / 2)) (caI (eC e9)) (nI (eP e9)) (nI (eB e9).length) fOuts fIns fReads fBad fIR fAsk fBAsk fCode fRL fRR fX fWrites fThrown)), ((g 6), Sum.inl (cI, 9000, Sum.inl vK))] H := hP
              have hD : va_D A [(o, Sum.inr (9, mO g 2 fShift fModels fItems fEnded (lN (if v / 2 ^ (j - 1) % 2 = 1 then eL e9 + eR e9 / 2 else eL e9)) (lN (eR e9 / 2)) (caI (eC e9)) (nI (eP e9)) (nI (eB e9).length) fOuts fIns fReads fBad fIR fAsk fBAsk fCode fRL fRR fX fWrites fThrown)), ((g 6), Sum.inl (cI, 9000, Sum.inl vK))] := hD
              have hLL : (if v / 2 ^ (j - 1) % 2 = 1 then eL e9 + eR e9 / 2 else eL e9) < 8589934592 := by split <;> omega
              refine lv_aload_n hx hb d_M_putValue_75 rfl (lv_at hl 1 rfl) ?_
              refine my_cv (wr := []) (va_runV (As := []) (rest := []) ⟨hx, hb, hml, hown, hts⟩ (c_M_widen l dC dI cI cM cO H.size o g 2 fShift fModels fItems fEnded fOuts fIns fReads fBad fIR fAsk fBAsk fCode fRL fRR fX fWrites fThrown vK (eR e9 / 2) (if v / 2 ^ (j - 1) % 2 = 1 then eL e9 + eR e9 / 2 else eL e9) (eC e9) (eP e9) (eB e9) (by omega) (by omega) (hLL) (hI4) (hg9) (by have z : eN e9 = (eB e9).length + eP e9 + 1 := rfl; omega)) (cwV 0 hts (my_gV k1097 k1099 ks30 k12 k1100) rfl rfl rfl (by decide +kernel) ⟨by rw [hR]; exact Nat.le_of_ble_eq_true rfl, by rw [hR]; exact Nat.le_of_ble_eq_true rfl⟩) (my_preV hK hN (hP.sub [0, 1] rfl) (hD.sub [0, 1] (by decide +kernel) rfl) 0 rfl rfl) rfl rfl hl.1 rfl (lv_room (Nat.le_of_ble_eq_true rfl)) d_M_putValue_76 ⟨by rw [hR]; exact Nat.le_of_ble_eq_true rfl, by rw [hR]; exact Nat.le_of_ble_eq_true rfl⟩) hP hD hS hA [0, 1] [] rfl rfl (by decide +kernel) (by decide +kernel) (fun u9 H locs hw_76 hP hD hS => ?_)
              obtain ⟨v2_76, rfl⟩ : ∃ z, z = u9 := ⟨_, rfl⟩
              have hw_76 : gIs v2_76 (eB (wdS ((eR e9 / 2), (if v / 2 ^ (j - 1) % 2 = 1 then eL e9 + eR e9 / 2 else eL e9), (eC e9), (eP e9), (eB e9)))) := hw_76
              have hP : va_P (dC, dI) vwCl [(o, Sum.inr (9, mO g 2 fShift fModels fItems fEnded (lN (eL (wdS ((eR e9 / 2), (if v / 2 ^ (j - 1) % 2 = 1 then eL e9 + eR e9 / 2 else eL e9), (eC e9), (eP e9), (eB e9))))) (lN (eR (wdS ((eR e9 / 2), (if v / 2 ^ (j - 1) % 2 = 1 then eL e9 + eR e9 / 2 else eL e9), (eC e9), (eP e9), (eB e9))))) (caI (eC (wdS ((eR e9 / 2), (if v / 2 ^ (j - 1) % 2 = 1 then eL e9 + eR e9 / 2 else eL e9), (eC e9), (eP e9), (eB e9))))) (nI (eP (wdS ((eR e9 / 2), (if v / 2 ^ (j - 1) % 2 = 1 then eL e9 + eR e9 / 2 else eL e9), (eC e9), (eP e9), (eB e9))))) (nI (eB (wdS ((eR e9 / 2), (if v / 2 ^ (j - 1) % 2 = 1 then eL e9 + eR e9 / 2 else eL e9), (eC e9), (eP e9), (eB e9)))).length) fOuts fIns fReads fBad fIR fAsk fBAsk fCode fRL fRR fX fWrites fThrown)), ((g 6), Sum.inl (cI, 9000, Sum.inl v2_76))] H := hP
              have hD : va_D A [(o, Sum.inr (9, mO g 2 fShift fModels fItems fEnded (lN (eL (wdS ((eR e9 / 2), (if v / 2 ^ (j - 1) % 2 = 1 then eL e9 + eR e9 / 2 else eL e9), (eC e9), (eP e9), (eB e9))))) (lN (eR (wdS ((eR e9 / 2), (if v / 2 ^ (j - 1) % 2 = 1 then eL e9 + eR e9 / 2 else eL e9), (eC e9), (eP e9), (eB e9))))) (caI (eC (wdS ((eR e9 / 2), (if v / 2 ^ (j - 1) % 2 = 1 then eL e9 + eR e9 / 2 else eL e9), (eC e9), (eP e9), (eB e9))))) (nI (eP (wdS ((eR e9 / 2), (if v / 2 ^ (j - 1) % 2 = 1 then eL e9 + eR e9 / 2 else eL e9), (eC e9), (eP e9), (eB e9))))) (nI (eB (wdS ((eR e9 / 2), (if v / 2 ^ (j - 1) % 2 = 1 then eL e9 + eR e9 / 2 else eL e9), (eC e9), (eP e9), (eB e9)))).length) fOuts fIns fReads fBad fIR fAsk fBAsk fCode fRL fRR fX fWrites fThrown)), ((g 6), Sum.inl (cI, 9000, Sum.inl v2_76))] := hD
              obtain ⟨v_9, ev_9⟩ : ∃ y : Int32, y = i9 + (-1) := ⟨_, rfl⟩
              refine lv_iinc (v := v_9) (lv' := [(3, Value.int v_9), (0, Value.ref o), (1, Value.int (nI v)), (2, Value.int (nI b))]) hx hb d_M_putValue_79 hl (k := 0) rfl (by rw [ev_9]; rfl) (by decide) rfl (fun ls hl => ?_)
              refine lv_goto (tgt := 32) hx hb d_M_putValue_82 (by decide) ?_
              exact ih9_32 _ (by first | omega | (omega)) v_9 (j - 1) (wdS (eR e9 / 2, (if v / 2 ^ (j - 1) % 2 = 1 then eL e9 + eR e9 / 2 else eL e9), e9.2.2)) v2_76 rfl (by subst_vars; rw [Int32.add_assoc, show (-1 : Int32) + 1 = 0 from by decide, Int32.add_zero]) (by omega) (by rw [hE9, show vbN v j e9 = vbN v (j - 1 + 1) e9 by rw [Nat.sub_add_cancel hj0]]; rfl) ((vb_inv hI9 _).1) (hw_76) (by have z := (vb_inv hI9 (v / 2 ^ (j - 1) % 2 = 1)).2; omega) H locs ls (hP.sub [0, 1] rfl) (hD.sub [0, 1] (by decide +kernel) rfl) hS (lv_sub hl [0, 1, 2, 3] rfl)
            · refine lv_aload_n hx hb d_M_putValue_56 rfl (lv_at hl 1 rfl) ?_
              refine va_get (D := (dC, dI)) (ci := 9) (v := .long (lN (eL e9))) (C := "RangeCodersModel") (T := T_M) (N := 35) hx hb hg in_M hown hK hP 0 rfl rfl 11 (by decide) (hg _ k963) (fun _ h9 => h9) rfl d_M_putValue_57 ?_
              refine lv_aload_n hx hb d_M_putValue_60 rfl (lv_at hl 1 rfl) ?_
              refine va_get (D := (dC, dI)) (ci := 9) (v := .long (lN (eR e9 / 2))) (C := "RangeCodersModel") (T := T_M) (N := 35) hx hb hg in_M hown hK hP 0 rfl rfl 12 (by decide) (hg _ k964) (fun _ h9 => h9) rfl d_M_putValue_61 ?_
              refine lv_ladd hx hb d_M_putValue_64 ?_
              refine lv_topl (fun v_10 ev_10 => ?_)
              refine lv_goto (tgt := 72) hx hb d_M_putValue_65 (by decide) ?_
              have z9 : v_10 = lN (if v / 2 ^ (j - 1) % 2 = 1 then eL e9 + eR e9 / 2 else eL e9) := by subst_vars; rw [if_pos ((nI_eq (b := 1) (by omega) (by decide)).mp c_8)]; exact lN_add _ _
              subst z9
              refine va_put (D := (dC, dI)) (ci := 9) (v := .long (lN (if v / 2 ^ (j - 1) % 2 = 1 then eL e9 + eR e9 / 2 else eL e9))) (ty := .long) (C := "RangeCodersModel") (T := T_M) (N := 35) hx hb hg in_M t_M o_M n_M hown hK hP hD hS 0 rfl rfl 11 (by decide) (hg _ k963) (fun _ h9 => h9) rfl (by decide +kernel) rfl rfl (Nat.le_of_ble_eq_true rfl) d_M_putValue_72 (fun H locs hP hD hS => ?_)
              have hP : va_P (dC, dI) vwCl [(o, Sum.inr (9, mO g 2 fShift fModels fItems fEnded (lN (if v / 2 ^ (j - 1) % 2 = 1 then eL e9 + eR e9 / 2 else eL e9)) (lN (eR e9 / 2)) (caI (eC e9)) (nI (eP e9)) (nI (eB e9).length) fOuts fIns fReads fBad fIR fAsk fBAsk fCode fRL fRR fX fWrites fThrown)), ((g 6), Sum.inl (cI, 9000, Sum.inl vK))] H := hP
              have hD : va_D A [(o, Sum.inr (9, mO g 2 fShift fModels fItems fEnded (lN (if v / 2 ^ (j - 1) % 2 = 1 then eL e9 + eR e9 / 2 else eL e9)) (lN (eR e9 / 2)) (caI (eC e9)) (nI (eP e9)) (nI (eB e9).length) fOuts fIns fReads fBad fIR fAsk fBAsk fCode fRL fRR fX fWrites fThrown)), ((g 6), Sum.inl (cI, 9000, Sum.inl vK))] := hD
              have hLL : (if v / 2 ^ (j - 1) % 2 = 1 then eL e9 + eR e9 / 2 else eL e9) < 8589934592 := by split <;> omega
              refine lv_aload_n hx hb d_M_putValue_75 rfl (lv_at hl 1 rfl) ?_
              refine my_cv (wr := []) (va_runV (As := []) (rest := []) ⟨hx, hb, hml, hown, hts⟩ (c_M_widen l dC dI cI cM cO H.size o g 2 fShift fModels fItems fEnded fOuts fIns fReads fBad fIR fAsk fBAsk fCode fRL fRR fX fWrites fThrown vK (eR e9 / 2) (if v / 2 ^ (j - 1) % 2 = 1 then eL e9 + eR e9 / 2 else eL e9) (eC e9) (eP e9) (eB e9) (by omega) (by omega) (hLL) (hI4) (hg9) (by have z : eN e9 = (eB e9).length + eP e9 + 1 := rfl; omega)) (cwV 0 hts (my_gV k1097 k1099 ks30 k12 k1100) rfl rfl rfl (by decide +kernel) ⟨by rw [hR]; exact Nat.le_of_ble_eq_true rfl, by rw [hR]; exact Nat.le_of_ble_eq_true rfl⟩) (my_preV hK hN (hP.sub [0, 1] rfl) (hD.sub [0, 1] (by decide +kernel) rfl) 0 rfl rfl) rfl rfl hl.1 rfl (lv_room (Nat.le_of_ble_eq_true rfl)) d_M_putValue_76 ⟨by rw [hR]; exact Nat.le_of_ble_eq_true rfl, by rw [hR]; exact Nat.le_of_ble_eq_true rfl⟩) hP hD hS hA [0, 1] [] rfl rfl (by decide +kernel) (by decide +kernel) (fun u9 H locs hw_76 hP hD hS => ?_)
              obtain ⟨v2_76, rfl⟩ : ∃ z, z = u9 := ⟨_, rfl⟩
              have hw_76 : gIs v2_76 (eB (wdS ((eR e9 / 2), (if v / 2 ^ (j - 1) % 2 = 1 then eL e9 + eR e9 / 2 else eL e9), (eC e9), (eP e9), (eB e9)))) := hw_76
              have hP : va_P (dC, dI) vwCl [(o, Sum.inr (9, mO g 2 fShift fModels fItems fEnded (lN (eL (wdS ((eR e9 / 2), (if v / 2 ^ (j - 1) % 2 = 1 then eL e9 + eR e9 / 2 else eL e9), (eC e9), (eP e9), (eB e9))))) (lN (eR (wdS ((eR e9 / 2), (if v / 2 ^ (j - 1) % 2 = 1 then eL e9 + eR e9 / 2 else eL e9), (eC e9), (eP e9), (eB e9))))) (caI (eC (wdS ((eR e9 / 2), (if v / 2 ^ (j - 1) % 2 = 1 then eL e9 + eR e9 / 2 else eL e9), (eC e9), (eP e9), (eB e9))))) (nI (eP (wdS ((eR e9 / 2), (if v / 2 ^ (j - 1) % 2 = 1 then eL e9 + eR e9 / 2 else eL e9), (eC e9), (eP e9), (eB e9))))) (nI (eB (wdS ((eR e9 / 2), (if v / 2 ^ (j - 1) % 2 = 1 then eL e9 + eR e9 / 2 else eL e9), (eC e9), (eP e9), (eB e9)))).length) fOuts fIns fReads fBad fIR fAsk fBAsk fCode fRL fRR fX fWrites fThrown)), ((g 6), Sum.inl (cI, 9000, Sum.inl v2_76))] H := hP
              have hD : va_D A [(o, Sum.inr (9, mO g 2 fShift fModels fItems fEnded (lN (eL (wdS ((eR e9 / 2), (if v / 2 ^ (j - 1) % 2 = 1 then eL e9 + eR e9 / 2 else eL e9), (eC e9), (eP e9), (eB e9))))) (lN (eR (wdS ((eR e9 / 2), (if v / 2 ^ (j - 1) % 2 = 1 then eL e9 + eR e9 / 2 else eL e9), (eC e9), (eP e9), (eB e9))))) (caI (eC (wdS ((eR e9 / 2), (if v / 2 ^ (j - 1) % 2 = 1 then eL e9 + eR e9 / 2 else eL e9), (eC e9), (eP e9), (eB e9))))) (nI (eP (wdS ((eR e9 / 2), (if v / 2 ^ (j - 1) % 2 = 1 then eL e9 + eR e9 / 2 else eL e9), (eC e9), (eP e9), (eB e9))))) (nI (eB (wdS ((eR e9 / 2), (if v / 2 ^ (j - 1) % 2 = 1 then eL e9 + eR e9 / 2 else eL e9), (eC e9), (eP e9), (eB e9)))).length) fOuts fIns fReads fBad fIR fAsk fBAsk fCode fRL fRR fX fWrites fThrown)), ((g 6), Sum.inl (cI, 9000, Sum.inl v2_76))] := hD
              obtain ⟨v_11, ev_11⟩ : ∃ y : Int32, y = i9 + (-1) := ⟨_, rfl⟩
              refine lv_iinc (v := v_11) (lv' := [(3, Value.int v_11), (0, Value.ref o), (1, Value.int (nI v)), (2, Value.int (nI b))]) hx hb d_M_putValue_79 hl (k := 0) rfl (by rw [ev_11]; rfl) (by decide) rfl (fun ls hl => ?_)
              refine lv_goto (tgt := 32) hx hb d_M_putValue_82 (by decide) ?_
              exact ih9_32 _ (by first | omega | (omega)) v_11 (j - 1) (wdS (eR e9 / 2, (if v / 2 ^ (j - 1) % 2 = 1 then eL e9 + eR e9 / 2 else eL e9), e9.2.2)) v2_76 rfl (by subst_vars; rw [Int32.add_assoc, show (-1 : Int32) + 1 = 0 from by decide, Int32.add_zero]) (by omega) (by rw [hE9, show vbN v j e9 = vbN v (j - 1 + 1) e9 by rw [Nat.sub_add_cancel hj0]]; rfl) ((vb_inv hI9 _).1) (hw_76) (by have z := (vb_inv hI9 (v / 2 ^ (j - 1) % 2 = 1)).2; omega) H locs ls (hP.sub [0, 1] rfl) (hD.sub [0, 1] (by decide +kernel) rfl) hS (lv_sub hl [0, 1, 2, 3] rfl)
      exact J_32 _ v_3 b (Rg, L, ca, Pn, bs) vGoing rfl (by subst_vars; rw [Int32.sub_add_cancel]) (Nat.le_refl _) (rfl) (hE) (hG) (by show bs.length + Pn + 1 + b ≤ _; omega) H locs ls (hP.sub [0, 1] rfl) (hD.sub [0, 1] (by decide +kernel) rfl) hS (lv_sub hl [0, 1, 2, 3] rfl)
  · exact absurd (by decide) c_1

