/-! VALUES of forms 3, 4 are read -/
def gv3 (is : List Nat) (b X q : Nat) : Nat × Nat := rfS is (X / 4096 * (4096 / 2 ^ b) + X % 4096 - 4096 / 2 ^ b * (X % 4096 / (4096 / 2 ^ b)), q)
def bbN (is : List Nat) (t : Nat) : Nat → Nat
  | 0 => 0
  | k + 1 => 2 * bbN is t k + biA is (t + k)
theorem biA_lt (is : List Nat) (t : Nat) : biA is t < 2 := Nat.mod_lt _ (by decide)
set_option maxHeartbeats 1000000 in
set_option maxRecDepth 100000 in
/-- valueOf, form 3 -/
theorem c_M_valueOf3 (l : Launch) (dC : Nat → ClassId) (dI : Nat → Nat → Nat) (cI cM cO : ClassId) (sz : Nat) (o : Nat) (g : Nat → Nat) (fShift : Int32) (fModels : Int32) (fItems : Int32) (fEnded : Int32) (fLow : Int64) (fRange : Int64) (fCache : Int32) (fPend : Int32) (fGoes : Int32) (fOuts : Int32) (fReads : Int32) (fBad : Int32) (fIR : Int32) (fBAsk : Int32) (fCode : Int64) (fRL : Int64) (fRR : Int64) (fWrites : Int32) (fThrown : Int32) (vIn : Nat → Int32) (b : Nat) (X : Nat) (is : List Nat) (q : Nat) (hb1 : 1 ≤ b) (hb2 : b ≤ 12) (hIn : gIs vIn is) (hlen : is.length ≤ 6000) (hoct : oct is) (hq : q < 800000) (hX0 : 8388608 ≤ X) (hX1 : X < 4294967296) : MetI l y_M_valueOf (Cond.code y_M_valueOf prog_14_method_58_code 5 (some .int) :: gw) ({ frames := 2, cells := 0, slots := 0, locals := 41 } : Room) (dC, dI) vwCl (kT cI cM cO) [Value.ref o, Value.int (nI b)] [(o, Sum.inr (9, mO g 3 fShift fModels fItems fEnded fLow fRange fCache fPend fGoes fOuts (nI is.length) fReads fBad fIR (nI q) fBAsk fCode fRL fRR (lN X) fWrites fThrown)), ((g 8), Sum.inl (cI, 6000, Sum.inl vIn))] sz (fun (r : Int32) (u : Unit) => r = nI (X % 4096 / (4096 / 2 ^ b))) (fun (u : Unit) => [(o, Sum.inr (9, mO g 3 fShift fModels fItems fEnded fLow fRange fCache fPend fGoes fOuts (nI is.length) fReads fBad fIR (nI (gv3 is b X q).2) fBAsk fCode fRL fRR (lN (gv3 is b X q).1) fWrites fThrown)), ((g 8), Sum.inl (cI, 6000, Sum.inl vIn))]) 0 0 := by
  refine my_ofI (cc := prog_14_method_58_code) (n := 5) (ret := (some .int)) (by decide) rfl (Nat.le_of_ble_eq_true rfl) ?_
  intro p e s m args below meth c R Q A ls H locs hx hb hr hts hown hlocks hml hnm hR hQ hA hl hP hK hN hD hS
  have hg : ∀ w ∈ gw, w.before args s = true := fun w h => hts w (List.mem_cons_of_mem _ h)
  have hown : s.vm.findClass "RangeCodersModel" = some m.cls := hown
  have hl : lv_has ls 5 [(0, Value.ref o), (1, Value.int (nI b))] := hl
  have hf1 : 0 < 4096 / 2 ^ b := Nat.div_pos (Nat.le_trans (Nat.pow_le_pow_right (n := 2) (by decide) hb2) (by decide)) (Nat.pow_pos (by decide))
  have hf2 : 4096 / 2 ^ b ≤ 4096 := Nat.div_le_self _ _
  have hv4 := Nat.mod_lt X (show 0 < 4096 by decide)
  have hm0 : 4096 / 2 ^ b * (X % 4096 / (4096 / 2 ^ b)) ≤ X % 4096 := Nat.mul_div_le _ _
  have hp1 : X / 4096 * 1 ≤ X / 4096 * (4096 / 2 ^ b) := Nat.mul_le_mul_left _ hf1
  have hp2 : X / 4096 * (4096 / 2 ^ b) ≤ X / 4096 * 4096 := Nat.mul_le_mul_left _ hf2
  have hdl : X % 4096 / (4096 / 2 ^ b) ≤ X % 4096 := Nat.div_le_self _ _
  refine lv_aload_n hx hb d_M_valueOf_0 rfl (lv_at hl 0 rfl) ?_
  refine va_get (D := (dC, dI)) (ci := 9) (v := .int 3) (C := "RangeCodersModel") (T := T_M) (N := 35) hx hb hg in_M hown hK hP 0 rfl rfl 0 (by decide) (hg _ k952) (fun _ h9 => h9) rfl d_M_valueOf_1 ?_
  refine lv_iconst (v := 2) hx hb d_M_valueOf_4 (by decide) ?_
  refine lv_icmp_ge (tgt := 35) hx hb d_M_valueOf_5 (by decide) (fun c_1 => ?_) (fun c_1 => ?_)
  · refine lv_aload_n hx hb d_M_valueOf_35 rfl (lv_at hl 0 rfl) ?_
    refine va_get (D := (dC, dI)) (ci := 9) (v := .int 3) (C := "RangeCodersModel") (T := T_M) (N := 35) hx hb hg in_M hown hK hP 0 rfl rfl 0 (by decide) (hg _ k952) (fun _ h9 => h9) rfl d_M_valueOf_36 ?_
    refine lv_iconst (v := 2) hx hb d_M_valueOf_39 (by decide) ?_
    refine lv_icmp_ne (tgt := 49) hx hb d_M_valueOf_40 (by decide) (fun c_2 => ?_) (fun c_2 => ?_)
    · refine lv_aload_n hx hb d_M_valueOf_49 rfl (lv_at hl 0 rfl) ?_
      refine va_get (D := (dC, dI)) (ci := 9) (v := .int 3) (C := "RangeCodersModel") (T := T_M) (N := 35) hx hb hg in_M hown hK hP 0 rfl rfl 0 (by decide) (hg _ k952) (fun _ h9 => h9) rfl d_M_valueOf_50 ?_
      refine lv_iconst (v := 3) hx hb d_M_valueOf_53 (by decide) ?_
      refine lv_icmp_ne (tgt := 108) hx hb d_M_valueOf_54 (by decide) (fun c_3 => ?_) (fun c_3 => ?_)
      · exact absurd rfl c_3
      · refine lv_sipush (v := 4096) hx hb d_M_valueOf_57 (by decide) ?_
        refine lv_iload_n hx hb d_M_valueOf_60 rfl (lv_at hl 1 rfl) ?_
        refine lv_ishr hx hb d_M_valueOf_61 ?_
        refine lv_topi (fun v_4 ev_4 => ?_)
        have z9 : v_4 = nI (4096 / 2 ^ b) := by subst_vars; exact I_shr (n := 4096) (by decide) (by omega)
        subst z9
        refine lv_istore_n (lv' := [(2, Value.int (nI (4096 / 2 ^ b))), (0, Value.ref o), (1, Value.int (nI b))]) hx hb d_M_valueOf_62 rfl hl (by decide) rfl (fun ls hl => ?_)
        refine lv_aload_n hx hb d_M_valueOf_63 rfl (lv_at hl 1 rfl) ?_
        refine va_get (D := (dC, dI)) (ci := 9) (v := .long (lN X)) (C := "RangeCodersModel") (T := T_M) (N := 35) hx hb hg in_M hown hK hP 0 rfl rfl 29 (by decide) (hg _ k981) (fun _ h9 => h9) rfl d_M_valueOf_64 ?_
        refine lv_ldc2 (v := 4095) hx hb hown (hg _ k1243) d_M_valueOf_67 ?_
        refine lv_land hx hb d_M_valueOf_70 ?_
        refine lv_topl (fun v_5 ev_5 => ?_)
        refine lv_l2i hx hb d_M_valueOf_71 rfl ?_
        refine lv_topi (fun v_6 ev_6 => ?_)
        have z9 : v_6 = nI (X % 4096) := by subst_vars; rw [L_and12 (by omega)]; exact lN_i _
        subst z9
        refine lv_istore_n (lv' := [(3, Value.int (nI (X % 4096))), (2, Value.int (nI (4096 / 2 ^ b))), (0, Value.ref o), (1, Value.int (nI b))]) hx hb d_M_valueOf_72 rfl hl (by decide) rfl (fun ls hl => ?_)
        refine lv_iload_n hx hb d_M_valueOf_73 rfl (lv_at hl 0 rfl) ?_
        refine lv_iload_n hx hb d_M_valueOf_74 rfl (lv_at hl 1 rfl) ?_
        refine lv_idiv hx hb d_M_valueOf_75 (nI_ne0 hf1 (by omega)) ?_
        refine lv_topi (fun v_7 ev_7 => ?_)
        have z9 : v_7 = nI (X % 4096 / (4096 / 2 ^ b)) := by subst_vars; exact pk_div (by omega) hf1 (by omega)
        subst z9
        refine lv_istore (lv' := [(4, Value.int (nI (X % 4096 / (4096 / 2 ^ b)))), (3, Value.int (nI (X % 4096))), (2, Value.int (nI (4096 / 2 ^ b))), (0, Value.ref o), (1, Value.int (nI b))]) hx hb d_M_valueOf_76 hl (by decide) rfl (fun ls hl => ?_)
        refine lv_aload_n hx hb d_M_valueOf_78 rfl (lv_at hl 3 rfl) ?_
        refine lv_aload_n hx hb d_M_valueOf_79 rfl (lv_at hl 3 rfl) ?_
        refine va_get (D := (dC, dI)) (ci := 9) (v := .long (lN X)) (C := "RangeCodersModel") (T := T_M) (N := 35) hx hb hg in_M hown hK hP 0 rfl rfl 29 (by decide) (hg _ k981) (fun _ h9 => h9) rfl d_M_valueOf_80 ?_
        refine lv_bipush (v := 12) hx hb d_M_valueOf_83 (by decide) ?_
        refine lv_lshr hx hb d_M_valueOf_85 rfl ?_
        refine lv_topl (fun v_8 ev_8 => ?_)
        refine lv_iload_n hx hb d_M_valueOf_86 rfl (lv_at hl 2 rfl) ?_
        refine lv_i2l hx hb d_M_valueOf_87 rfl ?_
        refine lv_topl (fun v_9 ev_9 => ?_)
        refine lv_lmul hx hb d_M_valueOf_88 ?_
        refine lv_topl (fun v_10 ev_10 => ?_)
        refine lv_iload_n hx hb d_M_valueOf_89 rfl (lv_at hl 1 rfl) ?_
        refine lv_i2l hx hb d_M_valueOf_90 rfl ?_
        refine lv_topl (fun v_11 ev_11 => ?_)
        refine lv_ladd hx hb d_M_valueOf_91 ?_
        refine lv_topl (fun v_12 ev_12 => ?_)
        refine lv_iload_n hx hb d_M_valueOf_92 rfl (lv_at hl 2 rfl) ?_
        refine lv_iload hx hb d_M_valueOf_93 (lv_at hl 0 rfl) ?_
        refine lv_imul hx hb d_M_valueOf_95 ?_
        refine lv_topi (fun v_13 ev_13 => ?_)
        refine lv_i2l hx hb d_M_valueOf_96 rfl ?_
        refine lv_topl (fun v_14 ev_14 => ?_)
        refine lv_lsub hx hb d_M_valueOf_97 ?_
        refine lv_topl (fun v_15 ev_15 => ?_)
        have z9 : v_15 = lN (X / 4096 * (4096 / 2 ^ b) + X % 4096 - 4096 / 2 ^ b * (X % 4096 / (4096 / 2 ^ b))) := by subst_vars; rw [pk_mul, L_shr12 (by omega), nI_l (by omega), nI_l (by omega), nI_l (by omega), lN_mul, lN_add]; exact lN_sub (by omega)
        subst z9
        refine va_put (D := (dC, dI)) (ci := 9) (v := .long (lN (X / 4096 * (4096 / 2 ^ b) + X % 4096 - 4096 / 2 ^ b * (X % 4096 / (4096 / 2 ^ b))))) (ty := .long) (C := "RangeCodersModel") (T := T_M) (N := 35) hx hb hg in_M t_M o_M n_M hown hK hP hD hS 0 rfl rfl 29 (by decide) (hg _ k981) (fun _ h9 => h9) rfl (by decide +kernel) rfl rfl (Nat.le_of_ble_eq_true rfl) d_M_valueOf_98 (fun H locs hP hD hS => ?_)
        have hP : va_P (dC, dI) vwCl [(o, Sum.inr (9, mO g 3 fShift fModels fItems fEnded fLow fRange fCache fPend fGoes fOuts (nI is.length) fReads fBad fIR (nI q) fBAsk fCode fRL fRR (lN (X / 4096 * (4096 / 2 ^ b) + X % 4096 - 4096 / 2 ^ b * (X % 4096 / (4096 / 2 ^ b)))) fWrites fThrown)), ((g 8), Sum.inl (cI, 6000, Sum.inl vIn))] H := hP
        have hD : va_D A [(o, Sum.inr (9, mO g 3 fShift fModels fItems fEnded fLow fRange fCache fPend fGoes fOuts (nI is.length) fReads fBad fIR (nI q) fBAsk fCode fRL fRR (lN (X / 4096 * (4096 / 2 ^ b) + X % 4096 - 4096 / 2 ^ b * (X % 4096 / (4096 / 2 ^ b)))) fWrites fThrown)), ((g 8), Sum.inl (cI, 6000, Sum.inl vIn))] := hD
        refine lv_aload_n hx hb d_M_valueOf_101 rfl (lv_at hl 3 rfl) ?_
        refine my_cv (wr := []) (va_runV (As := []) (rest := []) ⟨hx, hb, hml, hown, hts⟩ (c_M_refill l dC dI cI cM cO H.size o g 3 fShift fModels fItems fEnded fLow fRange fCache fPend fGoes fOuts fReads fBad fIR fBAsk fCode fRL fRR fWrites fThrown vIn (X / 4096 * (4096 / 2 ^ b) + X % 4096 - 4096 / 2 ^ b * (X % 4096 / (4096 / 2 ^ b))) is q (hIn) (by assumption) (by assumption) (by omega) (by omega) (by omega)) (cwV 0 hts (my_gV k1244 k1246 ks56 k12 k1247) rfl rfl rfl (by decide +kernel) ⟨by rw [hR]; exact Nat.le_of_ble_eq_true rfl, by rw [hR]; exact Nat.le_of_ble_eq_true rfl⟩) (my_preV hK hN (hP.sub [0, 1] rfl) (hD.sub [0, 1] (by decide +kernel) rfl) 0 rfl rfl) rfl rfl hl.1 rfl (lv_room (Nat.le_of_ble_eq_true rfl)) d_M_valueOf_102 ⟨by rw [hR]; exact Nat.le_of_ble_eq_true rfl, by rw [hR]; exact Nat.le_of_ble_eq_true rfl⟩) hP hD hS hA [0, 1] [] rfl rfl (by decide +kernel) (by decide +kernel) (fun u9 H locs hw_102 hP hD hS => ?_)
        have hw_102 : True := hw_102
        have hP : va_P (dC, dI) vwCl [(o, Sum.inr (9, mO g 3 fShift fModels fItems fEnded fLow fRange fCache fPend fGoes fOuts (nI is.length) fReads fBad fIR (nI (rfS is ((X / 4096 * (4096 / 2 ^ b) + X % 4096 - 4096 / 2 ^ b * (X % 4096 / (4096 / 2 ^ b))), q)).2) fBAsk fCode fRL fRR (lN (rfS is ((X / 4096 * (4096 / 2 ^ b) + X % 4096 - 4096 / 2 ^ b * (X % 4096 / (4096 / 2 ^ b))), q)).1) fWrites fThrown)), ((g 8), Sum.inl (cI, 6000, Sum.inl vIn))] H := hP
        have hD : va_D A [(o, Sum.inr (9, mO g 3 fShift fModels fItems fEnded fLow fRange fCache fPend fGoes fOuts (nI is.length) fReads fBad fIR (nI (rfS is ((X / 4096 * (4096 / 2 ^ b) + X % 4096 - 4096 / 2 ^ b * (X % 4096 / (4096 / 2 ^ b))), q)).2) fBAsk fCode fRL fRR (lN (rfS is ((X / 4096 * (4096 / 2 ^ b) + X % 4096 - 4096 / 2 ^ b * (X % 4096 / (4096 / 2 ^ b))), q)).1) fWrites fThrown)), ((g 8), Sum.inl (cI, 6000, Sum.inl vIn))] := hD
        refine lv_iload hx hb d_M_valueOf_105 (lv_at hl 0 rfl) ?_
        exact my_iret (v := (nI (X % 4096 / (4096 / 2 ^ b)))) hx hb hr (rfl) hlocks hQ hK hS (Nat.le_refl _) (Nat.le_refl _) () (rfl) (hP.sub [0, 1] rfl) (hD.sub [0, 1] (by decide +kernel) rfl) d_M_valueOf_107
    · exact absurd c_2 (by decide)
  · exact absurd (by decide) c_1
set_option maxHeartbeats 1000000 in
set_option maxRecDepth 100000 in
/-- valueOf, form 4 -/
theorem c_M_valueOf4 (l : Launch) (dC : Nat → ClassId) (dI : Nat → Nat → Nat) (cI cM cO : ClassId) (sz : Nat) (o : Nat) (g : Nat → Nat) (fShift : Int32) (fModels : Int32) (fItems : Int32) (fEnded : Int32) (fLow : Int64) (fRange : Int64) (fCache : Int32) (fPend : Int32) (fGoes : Int32) (fOuts : Int32) (fReads : Int32) (fBad : Int32) (fIR : Int32) (fCode : Int64) (fRL : Int64) (fRR : Int64) (fX : Int64) (fWrites : Int32) (fThrown : Int32) (vIn : Nat → Int32) (b : Nat) (t : Nat) (is : List Nat) (hb1 : 1 ≤ b) (hb2 : b ≤ 9) (hIn : gIs vIn is) (hlen : is.length ≤ 6000) (hoct : oct is) (ht : t < 800000) : MetI l y_M_valueOf (Cond.code y_M_valueOf prog_14_method_58_code 5 (some .int) :: gw) ({ frames := 1, cells := 0, slots := 0, locals := 22 } : Room) (dC, dI) vwCl (kT cI cM cO) [Value.ref o, Value.int (nI b)] [(o, Sum.inr (9, mO g 4 fShift fModels fItems fEnded fLow fRange fCache fPend fGoes fOuts (nI is.length) fReads fBad fIR (nI ((t + 7) / 8)) (nI t) fCode fRL fRR fX fWrites fThrown)), ((g 8), Sum.inl (cI, 6000, Sum.inl vIn))] sz (fun (r : Int32) (u : Unit) => r = nI (bbN is t b)) (fun (u : Unit) => [(o, Sum.inr (9, mO g 4 fShift fModels fItems fEnded fLow fRange fCache fPend fGoes fOuts (nI is.length) fReads fBad fIR (nI ((t + b + 7) / 8)) (nI (t + b)) fCode fRL fRR fX fWrites fThrown)), ((g 8), Sum.inl (cI, 6000, Sum.inl vIn))]) 0 0 := by
  refine my_ofI (cc := prog_14_method_58_code) (n := 5) (ret := (some .int)) (by decide) rfl (Nat.le_of_ble_eq_true rfl) ?_
  intro p e s m args below meth c R Q A ls H locs hx hb hr hts hown hlocks hml hnm hR hQ hA hl hP hK hN hD hS
  have hg : ∀ w ∈ gw, w.before args s = true := fun w h => hts w (List.mem_cons_of_mem _ h)
  have hown : s.vm.findClass "RangeCodersModel" = some m.cls := hown
  have hl : lv_has ls 5 [(0, Value.ref o), (1, Value.int (nI b))] := hl
  refine lv_aload_n hx hb d_M_valueOf_0 rfl (lv_at hl 0 rfl) ?_
  refine va_get (D := (dC, dI)) (ci := 9) (v := .int 4) (C := "RangeCodersModel") (T := T_M) (N := 35) hx hb hg in_M hown hK hP 0 rfl rfl 0 (by decide) (hg _ k952) (fun _ h9 => h9) rfl d_M_valueOf_1 ?_
  refine lv_iconst (v := 2) hx hb d_M_valueOf_4 (by decide) ?_
  refine lv_icmp_ge (tgt := 35) hx hb d_M_valueOf_5 (by decide) (fun c_1 => ?_) (fun c_1 => ?_)
  · refine lv_aload_n hx hb d_M_valueOf_35 rfl (lv_at hl 0 rfl) ?_
    refine va_get (D := (dC, dI)) (ci := 9) (v := .int 4) (C := "RangeCodersModel") (T := T_M) (N := 35) hx hb hg in_M hown hK hP 0 rfl rfl 0 (by decide) (hg _ k952) (fun _ h9 => h9) rfl d_M_valueOf_36 ?_
    refine lv_iconst (v := 2) hx hb d_M_valueOf_39 (by decide) ?_
    refine lv_icmp_ne (tgt := 49) hx hb d_M_valueOf_40 (by decide) (fun c_2 => ?_) (fun c_2 => ?_)
    · refine lv_aload_n hx hb d_M_valueOf_49 rfl (lv_at hl 0 rfl) ?_
      refine va_get (D := (dC, dI)) (ci := 9) (v := .int 4) (C := "RangeCodersModel") (T := T_M) (N := 35) hx hb hg in_M hown hK hP 0 rfl rfl 0 (by decide) (hg _ k952) (fun _ h9 => h9) rfl d_M_valueOf_50 ?_
      refine lv_iconst (v := 3) hx hb d_M_valueOf_53 (by decide) ?_
      refine lv_icmp_ne (tgt := 108) hx hb d_M_valueOf_54 (by decide) (fun c_3 => ?_) (fun c_3 => ?_)
      · refine lv_iconst (v := 0) hx hb d_M_valueOf_108 (by decide) ?_
        refine lv_istore_n (lv' := [(2, Value.int 0), (0, Value.ref o), (1, Value.int (nI b))]) hx hb d_M_valueOf_109 rfl hl (by decide) rfl (fun ls hl => ?_)
        refine lv_iconst (v := 0) hx hb d_M_valueOf_110 (by decide) ?_
        refine lv_istore_n (lv' := [(3, Value.int 0), (2, Value.int 0), (0, Value.ref o), (1, Value.int (nI b))]) hx hb d_M_valueOf_111 rfl hl (by decide) rfl (fun ls hl => ?_)
        have J_112 : ∀ (n9_112 : Nat) (i9 : Int32) (v9 : Int32) (j : Nat) (hn9_112 : b - j = n9_112) (hi : i9 = nI j) (hv : v9 = nI (bbN is t j)) (hj : j ≤ b) (H : Heap) (locs : List Loc) (ls : Array Slot), va_P (dC, dI) vwCl [(o, Sum.inr (9, mO g 4 fShift fModels fItems fEnded fLow fRange fCache fPend fGoes fOuts (nI is.length) fReads fBad fIR (nI ((t + j + 7) / 8)) (nI (t + j)) fCode fRL fRR fX fWrites fThrown)), ((g 8), Sum.inl (cI, 6000, Sum.inl vIn))] H → va_D A [(o, Sum.inr (9, mO g 4 fShift fModels fItems fEnded fLow fRange fCache fPend fGoes fOuts (nI is.length) fReads fBad fIR (nI ((t + j + 7) / 8)) (nI (t + j)) fCode fRL fRR fX fWrites fThrown)), ((g 8), Sum.inl (cI, 6000, Sum.inl vIn))] → va_S A s.heap H locs → lv_has ls 5 [(3, Value.int i9), (2, Value.int v9), (0, Value.ref o), (1, Value.int (nI b))] → W p l e R s m args below meth c H locs 0 0 Q (F0 m 112 ls []) := by
          intro n9_112
          induction n9_112 using Nat.strongRecOn with
          | ind n9_112 ih9_112 =>
            intro i9 v9 j hn9_112 hi hv hj H locs ls hP hD hS hl
            refine lv_iload_n hx hb d_M_valueOf_112 rfl (lv_at hl 0 rfl) ?_
            refine lv_iload_n hx hb d_M_valueOf_113 rfl (lv_at hl 3 rfl) ?_
            refine lv_icmp_ge (tgt := 132) hx hb d_M_valueOf_114 (by decide) (fun c_4 => ?_) (fun c_4 => ?_)
            · have hj3 : j = b := by rw [hi] at c_4; have := (nI_cmp (by omega) (by omega)).mp c_4; omega
              have z9 : j = b := hj3
              subst z9
              refine lv_iload_n hx hb d_M_valueOf_132 rfl (lv_at hl 1 rfl) ?_
              exact my_iret (v := v9) hx hb hr (rfl) hlocks hQ hK hS (Nat.le_refl _) (Nat.le_refl _) () (hv) (hP.sub [0, 1] rfl) (hD.sub [0, 1] (by decide +kernel) rfl) d_M_valueOf_133
            · have hj2 : j < b := by
                rcases Nat.lt_or_ge j b with z | z
                · exact z
                · exact absurd (by rw [hi]; exact nI_le z (by omega)) c_4
              refine lv_iconst (v := 2) hx hb d_M_valueOf_117 (by decide) ?_
              refine lv_iload_n hx hb d_M_valueOf_118 rfl (lv_at hl 1 rfl) ?_
              refine lv_imul hx hb d_M_valueOf_119 ?_
              refine lv_topi (fun v_5 ev_5 => ?_)
              refine lv_aload_n hx hb d_M_valueOf_120 rfl (lv_at hl 2 rfl) ?_
              refine my_ci (wr := []) (va_runV (As := []) (rest := [Value.int v_5]) ⟨hx, hb, hml, hown, hts⟩ (c_M_nextBit l dC dI cI cM cO H.size o g 4 fShift fModels fItems fEnded fLow fRange fCache fPend fGoes fOuts fReads fBad fIR fCode fRL fRR fX fWrites fThrown vIn is (t + j) (nI ((t + j + 7) / 8)) (hIn) (by assumption) (by assumption) (by omega)) (cwV 0 hts (my_gV k1198 k1200 ks46 k12 k1201) rfl rfl rfl (by decide +kernel) ⟨by rw [hR]; exact Nat.le_of_ble_eq_true rfl, by rw [hR]; exact Nat.le_of_ble_eq_true rfl⟩) (my_preV hK hN (hP.sub [0, 1] rfl) (hD.sub [0, 1] (by decide +kernel) rfl) 0 rfl rfl) rfl rfl hl.1 rfl (lv_room (Nat.le_of_ble_eq_true rfl)) d_M_valueOf_121 ⟨by rw [hR]; exact Nat.le_of_ble_eq_true rfl, by rw [hR]; exact Nat.le_of_ble_eq_true rfl⟩) hP hD hS hA [0, 1] [] rfl rfl (by decide +kernel) (by decide +kernel) (fun r_121 u9 H locs hw_121 hP hD hS => ?_)
              have hw_121 : r_121 = nI (biA is (t + j)) := hw_121
              have hP : va_P (dC, dI) vwCl [(o, Sum.inr (9, mO g 4 fShift fModels fItems fEnded fLow fRange fCache fPend fGoes fOuts (nI is.length) fReads fBad fIR (nI (((t + j) + 8) / 8)) (nI ((t + j) + 1)) fCode fRL fRR fX fWrites fThrown)), ((g 8), Sum.inl (cI, 6000, Sum.inl vIn))] H := hP
              have hD : va_D A [(o, Sum.inr (9, mO g 4 fShift fModels fItems fEnded fLow fRange fCache fPend fGoes fOuts (nI is.length) fReads fBad fIR (nI (((t + j) + 8) / 8)) (nI ((t + j) + 1)) fCode fRL fRR fX fWrites fThrown)), ((g 8), Sum.inl (cI, 6000, Sum.inl vIn))] := hD
              refine lv_iadd hx hb d_M_valueOf_124 ?_
              refine lv_topi (fun v_6 ev_6 => ?_)
              refine lv_istore_n (lv' := [(2, Value.int v_6), (3, Value.int i9), (0, Value.ref o), (1, Value.int (nI b))]) hx hb d_M_valueOf_125 rfl hl (by decide) rfl (fun ls hl => ?_)
              obtain ⟨v_7, ev_7⟩ : ∃ y : Int32, y = i9 + (1) := ⟨_, rfl⟩
              refine lv_iinc (v := v_7) (lv' := [(3, Value.int v_7), (2, Value.int v_6), (0, Value.ref o), (1, Value.int (nI b))]) hx hb d_M_valueOf_126 hl (k := 1) rfl (by rw [ev_7]; rfl) (by decide) rfl (fun ls hl => ?_)
              refine lv_goto (tgt := 112) hx hb d_M_valueOf_129 (by decide) ?_
              exact ih9_112 _ (by first | omega | (omega)) v_7 v_6 (j + 1) rfl (by subst_vars; exact nI_1 j) (by subst_vars; rw [show (2 : Int32) * nI (bbN is t j) = nI (2 * bbN is t j) from pk_mul 2 _]; exact nI_add _ _) (by omega) H locs ls (hP.sub [0, 1] rfl) (hD.sub [0, 1] (by decide +kernel) rfl) hS (lv_sub hl [0, 1, 2, 3] rfl)
        exact J_112 _ 0 0 0 rfl (rfl) (rfl) (Nat.zero_le _) H locs ls (hP.sub [0, 1] rfl) (hD.sub [0, 1] (by decide +kernel) rfl) hS (lv_sub hl [0, 1, 2, 3] rfl)
      · exact absurd c_3 (by decide)
    · exact absurd c_2 (by decide)
  · exact absurd (by decide) c_1
set_option maxHeartbeats 1000000 in
set_option maxRecDepth 100000 in
/-- spoiled -/
theorem c_M_spoiled (l : Launch) (dC : Nat → ClassId) (dI : Nat → Nat → Nat) (cI cM cO : ClassId) (sz : Nat) (o : Nat) (g : Nat → Nat) (fForm : Int32) (fShift : Int32) (fModels : Int32) (fItems : Int32) (fEnded : Int32) (fLow : Int64) (fRange : Int64) (fCache : Int32) (fPend : Int32) (fGoes : Int32) (fOuts : Int32) (fIns : Int32) (fReads : Int32) (fBad : Int32) (fIR : Int32) (fAsk : Int32) (fBAsk : Int32) (fCode : Int64) (fRL : Int64) (fRR : Int64) (fX : Int64) (fWrites : Int32) (fThrown : Int32) : MetI l y_M_spoiled (Cond.code y_M_spoiled prog_14_method_44_code 1 (some .int) :: gw) ({ frames := 0, cells := 0, slots := 0, locals := 0 } : Room) (dC, dI) vwCl (kT cI cM cO) [Value.ref o] [(o, Sum.inr (9, mO g fForm fShift fModels fItems fEnded fLow fRange fCache fPend fGoes fOuts fIns fReads fBad fIR fAsk fBAsk fCode fRL fRR fX fWrites fThrown))] sz (fun (r : Int32) (u : Unit) => r = -5) (fun (u : Unit) => [(o, Sum.inr (9, mO g fForm fShift fModels fItems fEnded fLow fRange fCache fPend fGoes fOuts fIns fReads 1 fIR fAsk fBAsk fCode fRL fRR fX fWrites fThrown))]) 0 0 := by
  refine my_ofI (cc := prog_14_method_44_code) (n := 1) (ret := (some .int)) (by decide) rfl (Nat.le_of_ble_eq_true rfl) ?_
  intro p e s m args below meth c R Q A ls H locs hx hb hr hts hown hlocks hml hnm hR hQ hA hl hP hK hN hD hS
  have hg : ∀ w ∈ gw, w.before args s = true := fun w h => hts w (List.mem_cons_of_mem _ h)
  have hown : s.vm.findClass "RangeCodersModel" = some m.cls := hown
  have hl : lv_has ls 1 [(0, Value.ref o)] := hl
  refine lv_aload_n hx hb d_M_spoiled_0 rfl (lv_at hl 0 rfl) ?_
  refine lv_iconst (v := 1) hx hb d_M_spoiled_1 (by decide) ?_
  refine va_put (D := (dC, dI)) (ci := 9) (v := .int 1) (ty := .boolean) (C := "RangeCodersModel") (T := T_M) (N := 35) hx hb hg in_M t_M o_M n_M hown hK hP hD hS 0 rfl rfl 22 (by decide) (hg _ k974) (fun _ h9 => h9) rfl (by decide +kernel) rfl rfl (Nat.le_of_ble_eq_true rfl) d_M_spoiled_2 (fun H locs hP hD hS => ?_)
  have hP : va_P (dC, dI) vwCl [(o, Sum.inr (9, mO g fForm fShift fModels fItems fEnded fLow fRange fCache fPend fGoes fOuts fIns fReads 1 fIR fAsk fBAsk fCode fRL fRR fX fWrites fThrown))] H := hP
  have hD : va_D A [(o, Sum.inr (9, mO g fForm fShift fModels fItems fEnded fLow fRange fCache fPend fGoes fOuts fIns fReads 1 fIR fAsk fBAsk fCode fRL fRR fX fWrites fThrown))] := hD
  refine lv_bipush (v := (-5)) hx hb d_M_spoiled_5 (by decide) ?_
  exact my_iret (v := (-5)) hx hb hr (rfl) hlocks hQ hK hS (Nat.le_refl _) (Nat.le_refl _) () (rfl) (hP.sub [0] rfl) (hD.sub [0] (by decide +kernel) rfl) d_M_spoiled_7

