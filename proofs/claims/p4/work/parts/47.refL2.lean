/-! FORM 4: a sign is read -/
def tbN (is : List Nat) : Nat → Nat × Nat → Nat × Nat
  | 0, r => r
  | k + 1, r => if r.1 < 512 then tbN is k (2 * r.1 + biA is r.2, r.2 + 1) else r
def tbS (is : List Nat) (r : Nat × Nat) : Nat × Nat := tbN is 10 r
theorem tbN_e {is : List Nat} {k : Nat} {r : Nat × Nat} (h : ¬ r.1 < 512) : tbN is k r = r := by
  cases k with
  | zero => rfl
  | succ k => rw [tbN, if_neg h]
theorem tbN_s {is : List Nat} {k : Nat} {r : Nat × Nat} (h0 : 0 < k) (h : r.1 < 512) : tbN is k r = tbN is (k - 1) (2 * r.1 + biA is r.2, r.2 + 1) := by
  cases k with
  | zero => omega
  | succ k => rw [tbN, if_pos h]; rfl
theorem tb_k {k x : Nat} (hk : 1 ≤ k) (hk2 : k ≤ 10) (h : 2 ^ (10 - k) ≤ x) (hx : x < 512) : 1 < k := by
  rcases Nat.lt_or_ge 1 k with z | z
  · exact z
  · have e : k = 1 := by omega
    subst e
    omega
theorem tb_s {k x b : Nat} (hk : 1 < k) (hk2 : k ≤ 10) (h : 2 ^ (10 - k) ≤ x) : 2 ^ (10 - (k - 1)) ≤ 2 * x + b := by
  have e : 2 ^ (10 - (k - 1)) = 2 * 2 ^ (10 - k) := by rw [show 10 - (k - 1) = (10 - k) + 1 by omega, Nat.pow_succ, Nat.mul_comm]
  omega
def gt4 (is : List Nat) (n : Nat) (F : Nat → Nat) (X t : Nat) : Option Nat × (Nat × Nat) := if ns F n = 0 then (none, (X, t)) else (some (plc F n (X - 512)), tbS is (F (plc F n (X - 512)) + num F n (X - 512), t))
set_option maxHeartbeats 1000000 in
set_option maxRecDepth 100000 in
/-- getTabled -/
theorem c_M_getTabled (l : Launch) (dC : Nat → ClassId) (dI : Nat → Nat → Nat) (cI cM cO : ClassId) (sz : Nat) (o : Nat) (g : Nat → Nat) (fForm : Int32) (fShift : Int32) (fModels : Int32) (fItems : Int32) (fEnded : Int32) (fLow : Int64) (fRange : Int64) (fCache : Int32) (fPend : Int32) (fGoes : Int32) (fOuts : Int32) (fReads : Int32) (fBad : Int32) (fIR : Int32) (fCode : Int64) (fRL : Int64) (fRR : Int64) (fWrites : Int32) (fThrown : Int32) (vMany : Nat → Int32) (vThen : Nat → Int32) (vIn : Nat → Int32) (vSO : Nat → Int32) (vNO : Nat → Int32) (mm : Nat) (n : Nat) (F : Nat → Nat) (X : Nat) (t : Nat) (is : List Nat) (hmm : mm < 8) (hn : vMany mm = nI n) (hn2 : n ≤ 64) (hIn : gIs vIn is) (hlen : is.length ≤ 6000) (hoct : oct is) (ht : t < 800000) (hf : sgI vThen (64 * mm) n F) (hsum : ns F n = 0 ∨ ns F n = 512) (hX0 : 512 ≤ X) (hX1 : X < 1024) (hFp : ns F n = 512 → 0 < F (plc F n (X - 512))) : MetI l y_M_getTabled (Cond.code y_M_getTabled prog_14_method_55_code 4 (some .int) :: gw) ({ frames := 1, cells := 0, slots := 0, locals := 26 } : Room) (dC, dI) vwCl (kT cI cM cO) [Value.ref o, Value.int (nI mm)] [(o, Sum.inr (9, mO g fForm fShift fModels fItems fEnded fLow fRange fCache fPend fGoes fOuts (nI is.length) fReads fBad fIR (nI ((t + 7) / 8)) (nI t) fCode fRL fRR (lN X) fWrites fThrown)), ((g 0), Sum.inl (cI, 8, Sum.inl vMany)), ((g 3), Sum.inl (cI, 512, Sum.inl vThen)), ((g 8), Sum.inl (cI, 6000, Sum.inl vIn)), ((g 9), Sum.inl (cI, 512, Sum.inl vSO)), ((g 10), Sum.inl (cI, 512, Sum.inl vNO))] sz (fun (r : Int32) (u : (Nat → Int32) × (Nat → Int32)) => r = oI (gt4 is n F X t).1) (fun (u : (Nat → Int32) × (Nat → Int32)) => [(o, Sum.inr (9, mO g fForm fShift fModels fItems fEnded fLow fRange fCache fPend fGoes fOuts (nI is.length) fReads fBad fIR (nI (((gt4 is n F X t).2.2 + 7) / 8)) (nI (gt4 is n F X t).2.2) fCode fRL fRR (lN (gt4 is n F X t).2.1) fWrites fThrown)), ((g 0), Sum.inl (cI, 8, Sum.inl vMany)), ((g 3), Sum.inl (cI, 512, Sum.inl vThen)), ((g 8), Sum.inl (cI, 6000, Sum.inl vIn)), ((g 9), Sum.inl (cI, 512, Sum.inl u.1)), ((g 10), Sum.inl (cI, 512, Sum.inl u.2))]) 0 0 := by
  refine my_ofI (cc := prog_14_method_55_code) (n := 4) (ret := (some .int)) (by decide) rfl (Nat.le_of_ble_eq_true rfl) ?_
  intro p e s m args below meth c R Q A ls H locs hx hb hr hts hown hlocks hml hnm hR hQ hA hl hP hK hN hD hS
  have hg : ∀ w ∈ gw, w.before args s = true := fun w h => hts w (List.mem_cons_of_mem _ h)
  have hown : s.vm.findClass "RangeCodersModel" = some m.cls := hown
  have hl : lv_has ls 4 [(0, Value.ref o), (1, Value.int (nI mm))] := hl
  refine lv_aload_n hx hb d_M_getTabled_0 rfl (lv_at hl 0 rfl) ?_
  refine lv_aload_n hx hb d_M_getTabled_1 rfl (lv_at hl 0 rfl) ?_
  refine va_get (D := (dC, dI)) (ci := 9) (v := .ref (g 3)) (C := "RangeCodersModel") (T := T_M) (N := 35) hx hb hg in_M hown hK hP 0 rfl rfl 6 (by decide) (hg _ k958) (fun _ h9 => h9) rfl d_M_getTabled_2 ?_
  refine lv_iload_n hx hb d_M_getTabled_5 rfl (lv_at hl 1 rfl) ?_
  refine my_ci (wr := [((g 8), Sum.inl (cI, 6000, Sum.inl vIn)), ((g 9), Sum.inl (cI, 512, Sum.inl vSO)), ((g 10), Sum.inl (cI, 512, Sum.inl vNO))]) (va_runV (As := [Value.ref (g 3), Value.int (nI mm)]) (rest := []) ⟨hx, hb, hml, hown, hts⟩ (c_M_sum l dC dI cI cM cO H.size o g fForm fShift fModels fItems fEnded fLow fRange fCache fPend fGoes fOuts (nI is.length) fReads fBad fIR (nI ((t + 7) / 8)) (nI t) fCode fRL fRR (lN X) fWrites fThrown vMany (g 3) vThen mm n F (by assumption) (by assumption) (by assumption) (hf)) (cwV 2 hts (my_gV k936 k938 ks21 k12 k939) rfl rfl rfl (by decide +kernel) ⟨by rw [hR]; exact Nat.le_of_ble_eq_true rfl, by rw [hR]; exact Nat.le_of_ble_eq_true rfl⟩) (my_preV hK hN (hP.sub [0, 1, 2] rfl) (hD.sub [0, 1, 2] (by decide +kernel) rfl) 0 rfl rfl) rfl rfl hl.1 rfl (lv_room (Nat.le_of_ble_eq_true rfl)) d_M_getTabled_6 ⟨by rw [hR]; exact Nat.le_of_ble_eq_true rfl, by rw [hR]; exact Nat.le_of_ble_eq_true rfl⟩) hP hD hS hA [0, 1, 2] [3, 4, 5] rfl rfl (by decide +kernel) (by decide +kernel) (fun r_6 u9 H locs hw_6 hP hD hS => ?_)
  have hw_6 : r_6 = nI (ns F n) := hw_6
  have hP : va_P (dC, dI) vwCl [((g 8), Sum.inl (cI, 6000, Sum.inl vIn)), ((g 9), Sum.inl (cI, 512, Sum.inl vSO)), ((g 10), Sum.inl (cI, 512, Sum.inl vNO)), (o, Sum.inr (9, mO g fForm fShift fModels fItems fEnded fLow fRange fCache fPend fGoes fOuts (nI is.length) fReads fBad fIR (nI ((t + 7) / 8)) (nI t) fCode fRL fRR (lN X) fWrites fThrown)), ((g 0), Sum.inl (cI, 8, Sum.inl vMany)), ((g 3), Sum.inl (cI, 512, Sum.inl vThen))] H := hP
  have hD : va_D A [((g 8), Sum.inl (cI, 6000, Sum.inl vIn)), ((g 9), Sum.inl (cI, 512, Sum.inl vSO)), ((g 10), Sum.inl (cI, 512, Sum.inl vNO)), (o, Sum.inr (9, mO g fForm fShift fModels fItems fEnded fLow fRange fCache fPend fGoes fOuts (nI is.length) fReads fBad fIR (nI ((t + 7) / 8)) (nI t) fCode fRL fRR (lN X) fWrites fThrown)), ((g 0), Sum.inl (cI, 8, Sum.inl vMany)), ((g 3), Sum.inl (cI, 512, Sum.inl vThen))] := hD
  refine lv_if_ne (tgt := 14) hx hb d_M_getTabled_9 (by decide) (fun c_1 => ?_) (fun c_1 => ?_)
  · have hnz : ¬ ns F n = 0 := fun z => c_1 (by rw [hw_6, z]; rfl)
    have h51 : ns F n = 512 := by omega
    have hpl := plc_lt (p := X - 512) h51
    have hFl := ns_ge (F := F) hpl
    have hFq := hFp h51
    have hnm : num F n (X - 512) ≤ X - 512 := cn_le _ _ _
    have hxx0 : gt4 is n F X t = (some (plc F n (X - 512)), tbS is (F (plc F n (X - 512)) + num F n (X - 512), t)) := by unfold gt4; rw [if_neg hnz]
    refine lv_aload_n hx hb d_M_getTabled_14 rfl (lv_at hl 0 rfl) ?_
    refine lv_aload_n hx hb d_M_getTabled_15 rfl (lv_at hl 0 rfl) ?_
    refine va_get (D := (dC, dI)) (ci := 9) (v := .ref (g 3)) (C := "RangeCodersModel") (T := T_M) (N := 35) hx hb hg in_M hown hK hP 3 rfl rfl 6 (by decide) (hg _ k958) (fun _ h9 => h9) rfl d_M_getTabled_16 ?_
    refine lv_iload_n hx hb d_M_getTabled_19 rfl (lv_at hl 1 rfl) ?_
    refine my_cv (wr := [((g 8), Sum.inl (cI, 6000, Sum.inl vIn))]) (va_runV (As := [Value.ref (g 3), Value.int (nI mm)]) (rest := []) ⟨hx, hb, hml, hown, hts⟩ (c_M_lay l dC dI cI cM cO H.size o g fForm fShift fModels fItems fEnded fLow fRange fCache fPend fGoes fOuts (nI is.length) fReads fBad fIR (nI ((t + 7) / 8)) (nI t) fCode fRL fRR (lN X) fWrites fThrown vMany vSO vNO (g 3) vThen mm n F (by assumption) (by assumption) (by assumption) (hf) (h51)) (cwV 2 hts (my_gV k1165 k1167 ks43 k12 k1168) rfl rfl rfl (by decide +kernel) ⟨by rw [hR]; exact Nat.le_of_ble_eq_true rfl, by rw [hR]; exact Nat.le_of_ble_eq_true rfl⟩) (my_preV hK hN (hP.sub [3, 4, 5, 1, 2] rfl) (hD.sub [3, 4, 5, 1, 2] (by decide +kernel) rfl) 0 rfl rfl) rfl rfl hl.1 rfl (lv_room (Nat.le_of_ble_eq_true rfl)) d_M_getTabled_20 ⟨by rw [hR]; exact Nat.le_of_ble_eq_true rfl, by rw [hR]; exact Nat.le_of_ble_eq_true rfl⟩) hP hD hS hA [3, 4, 5, 1, 2] [0] rfl rfl (by decide +kernel) (by decide +kernel) (fun u9 H locs hw_20 hP hD hS => ?_)
    obtain ⟨so2_20, no2_20⟩ := u9
    have hw_20 : layd so2_20 no2_20 F n := hw_20
    have hP : va_P (dC, dI) vwCl [((g 8), Sum.inl (cI, 6000, Sum.inl vIn)), (o, Sum.inr (9, mO g fForm fShift fModels fItems fEnded fLow fRange fCache fPend fGoes fOuts (nI is.length) fReads fBad fIR (nI ((t + 7) / 8)) (nI t) fCode fRL fRR (lN X) fWrites fThrown)), ((g 0), Sum.inl (cI, 8, Sum.inl vMany)), ((g 3), Sum.inl (cI, 512, Sum.inl vThen)), ((g 9), Sum.inl (cI, 512, Sum.inl so2_20)), ((g 10), Sum.inl (cI, 512, Sum.inl no2_20))] H := hP
    have hD : va_D A [((g 8), Sum.inl (cI, 6000, Sum.inl vIn)), (o, Sum.inr (9, mO g fForm fShift fModels fItems fEnded fLow fRange fCache fPend fGoes fOuts (nI is.length) fReads fBad fIR (nI ((t + 7) / 8)) (nI t) fCode fRL fRR (lN X) fWrites fThrown)), ((g 0), Sum.inl (cI, 8, Sum.inl vMany)), ((g 3), Sum.inl (cI, 512, Sum.inl vThen)), ((g 9), Sum.inl (cI, 512, Sum.inl so2_20)), ((g 10), Sum.inl (cI, 512, Sum.inl no2_20))] := hD
    refine lv_aload_n hx hb d_M_getTabled_23 rfl (lv_at hl 0 rfl) ?_
    refine va_get (D := (dC, dI)) (ci := 9) (v := .long (lN X)) (C := "RangeCodersModel") (T := T_M) (N := 35) hx hb hg in_M hown hK hP 1 rfl rfl 29 (by decide) (hg _ k981) (fun _ h9 => h9) rfl d_M_getTabled_24 ?_
    refine lv_l2i hx hb d_M_getTabled_27 rfl ?_
    refine lv_topi (fun v_2 ev_2 => ?_)
    refine lv_sipush (v := 512) hx hb d_M_getTabled_28 (by decide) ?_
    refine lv_isub hx hb d_M_getTabled_31 ?_
    refine lv_topi (fun v_3 ev_3 => ?_)
    have z9 : v_3 = nI (X - 512) := by subst_vars; rw [lN_i]; exact pk_sub (b := 512) hX0
    subst z9
    refine lv_istore_n (lv' := [(2, Value.int (nI (X - 512))), (0, Value.ref o), (1, Value.int (nI mm))]) hx hb d_M_getTabled_32 rfl hl (by decide) rfl (fun ls hl => ?_)
    refine lv_aload_n hx hb d_M_getTabled_33 rfl (lv_at hl 1 rfl) ?_
    refine va_get (D := (dC, dI)) (ci := 9) (v := .ref (g 9)) (C := "RangeCodersModel") (T := T_M) (N := 35) hx hb hg in_M hown hK hP 1 rfl rfl 30 (by decide) (hg _ k982) (fun _ h9 => h9) rfl d_M_getTabled_34 ?_
    refine lv_iload_n hx hb d_M_getTabled_37 rfl (lv_at hl 0 rfl) ?_
    refine va_iald hx hb hK hP 4 0 rfl rfl (vp_in_nI (by omega) (by decide)) d_M_getTabled_38 ?_
    refine lv_topi (fun v_4 ev_4 => ?_)
    have z9 : v_4 = nI (plc F n (X - 512)) := by subst_vars; rw [nI_clamp (by omega)]; exact hw_20.1 _ (by omega)
    subst z9
    refine lv_istore_n (lv' := [(3, Value.int (nI (plc F n (X - 512)))), (2, Value.int (nI (X - 512))), (0, Value.ref o), (1, Value.int (nI mm))]) hx hb d_M_getTabled_39 rfl hl (by decide) rfl (fun ls hl => ?_)
    refine lv_aload_n hx hb d_M_getTabled_40 rfl (lv_at hl 2 rfl) ?_
    refine lv_aload_n hx hb d_M_getTabled_41 rfl (lv_at hl 2 rfl) ?_
    refine va_get (D := (dC, dI)) (ci := 9) (v := .ref (g 3)) (C := "RangeCodersModel") (T := T_M) (N := 35) hx hb hg in_M hown hK hP 1 rfl rfl 6 (by decide) (hg _ k958) (fun _ h9 => h9) rfl d_M_getTabled_42 ?_
    refine lv_bipush (v := 64) hx hb d_M_getTabled_45 (by decide) ?_
    refine lv_iload_n hx hb d_M_getTabled_47 rfl (lv_at hl 3 rfl) ?_
    refine lv_imul hx hb d_M_getTabled_48 ?_
    refine lv_topi (fun v_5 ev_5 => ?_)
    refine lv_iload_n hx hb d_M_getTabled_49 rfl (lv_at hl 0 rfl) ?_
    refine lv_iadd hx hb d_M_getTabled_50 ?_
    refine lv_topi (fun v_6 ev_6 => ?_)
    have hix : v_6 = nI (64 * mm + plc F n (X - 512)) := by subst_vars; exact ix64
    refine va_iald hx hb hK hP 3 0 rfl rfl (by rw [hix]; exact vp_in_nI (by omega) (by decide)) d_M_getTabled_51 ?_
    refine lv_topi (fun v_7 ev_7 => ?_)
    have z9 : v_7 = nI (F (plc F n (X - 512))) := by subst_vars; rw [nI_clamp (by omega)]; exact hf _ hpl
    subst z9
    refine lv_aload_n hx hb d_M_getTabled_52 rfl (lv_at hl 2 rfl) ?_
    refine va_get (D := (dC, dI)) (ci := 9) (v := .ref (g 10)) (C := "RangeCodersModel") (T := T_M) (N := 35) hx hb hg in_M hown hK hP 1 rfl rfl 31 (by decide) (hg _ k983) (fun _ h9 => h9) rfl d_M_getTabled_53 ?_
    refine lv_iload_n hx hb d_M_getTabled_56 rfl (lv_at hl 1 rfl) ?_
    refine va_iald hx hb hK hP 5 0 rfl rfl (vp_in_nI (by omega) (by decide)) d_M_getTabled_57 ?_
    refine lv_topi (fun v_8 ev_8 => ?_)
    refine lv_iadd hx hb d_M_getTabled_58 ?_
    refine lv_topi (fun v_9 ev_9 => ?_)
    refine lv_i2l hx hb d_M_getTabled_59 rfl ?_
    refine lv_topl (fun v_10 ev_10 => ?_)
    have z9 : v_10 = lN (F (plc F n (X - 512)) + num F n (X - 512)) := by subst_vars; rw [nI_clamp (by omega), hw_20.2 _ (by omega), nI_add]; exact nI_l (by omega)
    subst z9
    refine va_put (D := (dC, dI)) (ci := 9) (v := .long (lN (F (plc F n (X - 512)) + num F n (X - 512)))) (ty := .long) (C := "RangeCodersModel") (T := T_M) (N := 35) hx hb hg in_M t_M o_M n_M hown hK hP hD hS 1 rfl rfl 29 (by decide) (hg _ k981) (fun _ h9 => h9) rfl (by decide +kernel) rfl rfl (Nat.le_of_ble_eq_true rfl) d_M_getTabled_60 (fun H locs hP hD hS => ?_)
    have hP : va_P (dC, dI) vwCl [((g 8), Sum.inl (cI, 6000, Sum.inl vIn)), (o, Sum.inr (9, mO g fForm fShift fModels fItems fEnded fLow fRange fCache fPend fGoes fOuts (nI is.length) fReads fBad fIR (nI ((t + 7) / 8)) (nI t) fCode fRL fRR (lN (F (plc F n (X - 512)) + num F n (X - 512))) fWrites fThrown)), ((g 0), Sum.inl (cI, 8, Sum.inl vMany)), ((g 3), Sum.inl (cI, 512, Sum.inl vThen)), ((g 9), Sum.inl (cI, 512, Sum.inl so2_20)), ((g 10), Sum.inl (cI, 512, Sum.inl no2_20))] H := hP
    have hD : va_D A [((g 8), Sum.inl (cI, 6000, Sum.inl vIn)), (o, Sum.inr (9, mO g fForm fShift fModels fItems fEnded fLow fRange fCache fPend fGoes fOuts (nI is.length) fReads fBad fIR (nI ((t + 7) / 8)) (nI t) fCode fRL fRR (lN (F (plc F n (X - 512)) + num F n (X - 512))) fWrites fThrown)), ((g 0), Sum.inl (cI, 8, Sum.inl vMany)), ((g 3), Sum.inl (cI, 512, Sum.inl vThen)), ((g 9), Sum.inl (cI, 512, Sum.inl so2_20)), ((g 10), Sum.inl (cI, 512, Sum.inl no2_20))] := hD
    have J_63 : ∀ (n9_63 : Nat) (r9 : Nat × Nat) (k9 : Nat) (hn9_63 : k9 = n9_63) (hE9 : tbS is (F (plc F n (X - 512)) + num F n (X - 512), t) = tbN is k9 r9) (hk1 : 1 ≤ k9) (hk2 : k9 ≤ 10) (hx1 : 2 ^ (10 - k9) ≤ r9.1) (hx2 : r9.1 < 1024) (ht9 : r9.2 + k9 ≤ t + 10) (H : Heap) (locs : List Loc) (ls : Array Slot), va_P (dC, dI) vwCl [((g 8), Sum.inl (cI, 6000, Sum.inl vIn)), (o, Sum.inr (9, mO g fForm fShift fModels fItems fEnded fLow fRange fCache fPend fGoes fOuts (nI is.length) fReads fBad fIR (nI ((r9.2 + 7) / 8)) (nI r9.2) fCode fRL fRR (lN r9.1) fWrites fThrown)), ((g 0), Sum.inl (cI, 8, Sum.inl vMany)), ((g 3), Sum.inl (cI, 512, Sum.inl vThen)), ((g 9), Sum.inl (cI, 512, Sum.inl so2_20)), ((g 10), Sum.inl (cI, 512, Sum.inl no2_20))] H → va_D A [((g 8), Sum.inl (cI, 6000, Sum.inl vIn)), (o, Sum.inr (9, mO g fForm fShift fModels fItems fEnded fLow fRange fCache fPend fGoes fOuts (nI is.length) fReads fBad fIR (nI ((r9.2 + 7) / 8)) (nI r9.2) fCode fRL fRR (lN r9.1) fWrites fThrown)), ((g 0), Sum.inl (cI, 8, Sum.inl vMany)), ((g 3), Sum.inl (cI, 512, Sum.inl vThen)), ((g 9), Sum.inl (cI, 512, Sum.inl so2_20)), ((g 10), Sum.inl (cI, 512, Sum.inl no2_20))] → va_S A s.heap H locs → lv_has ls 4 [(3, Value.int (nI (plc F n (X - 512)))), (0, Value.ref o)] → W p l e R s m args below meth c H locs 0 0 Q (F0 m 63 ls []) := by
      intro n9_63
      induction n9_63 using Nat.strongRecOn with
      | ind n9_63 ih9_63 =>
        intro r9 k9 hn9_63 hE9 hk1 hk2 hx1 hx2 ht9 H locs ls hP hD hS hl
        refine lv_aload_n hx hb d_M_getTabled_63 rfl (lv_at hl 1 rfl) ?_
        refine va_get (D := (dC, dI)) (ci := 9) (v := .long (lN r9.1)) (C := "RangeCodersModel") (T := T_M) (N := 35) hx hb hg in_M hown hK hP 1 rfl rfl 29 (by decide) (hg _ k981) (fun _ h9 => h9) rfl d_M_getTabled_64 ?_
        refine lv_ldc2 (v := 512) hx hb hown (hg _ k1160) d_M_getTabled_67 ?_
        refine W.lcmp hx hb d_M_getTabled_70 ?_
        refine lv_if_ge (tgt := 95) hx hb d_M_getTabled_71 (by decide) (fun c_11 => ?_) (fun c_11 => ?_)
        · rw [lg_cmp_ge] at c_11
          have hge : ¬ r9.1 < 512 := by have z := (L_le (a := 512) (by decide) (by omega)).mp c_11; omega
          have hxx : gt4 is n F X t = (some (plc F n (X - 512)), r9) := by rw [hxx0, hE9, tbN_e hge]
          refine lv_iload_n hx hb d_M_getTabled_95 rfl (lv_at hl 0 rfl) ?_
          exact my_iret (v := (nI (plc F n (X - 512)))) hx hb hr (rfl) hlocks hQ hK hS (Nat.le_refl _) (Nat.le_refl _) (so2_20, no2_20) (by rw [hxx]; rfl) (by rw [hxx]; exact (hP.sub [1, 2, 3, 0, 4, 5] rfl)) (by rw [hxx]; exact (hD.sub [1, 2, 3, 0, 4, 5] (by decide +kernel) rfl)) d_M_getTabled_96
        · rw [lg_cmp_ge] at c_11
          have hlt : r9.1 < 512 := by
            rcases Nat.lt_or_ge r9.1 512 with z | z
            · exact z
            · exact absurd ((L_le (a := 512) (by decide) (by omega)).mpr z) c_11
          have hk3 := tb_k hk1 hk2 hx1 hlt
          have hbi := biA_lt is r9.2
          refine lv_aload_n hx hb d_M_getTabled_74 rfl (lv_at hl 1 rfl) ?_
          refine lv_ldc2 (v := 2) hx hb hown (hg _ k1169) d_M_getTabled_75 ?_
          refine lv_aload_n hx hb d_M_getTabled_78 rfl (lv_at hl 1 rfl) ?_
          refine va_get (D := (dC, dI)) (ci := 9) (v := .long (lN r9.1)) (C := "RangeCodersModel") (T := T_M) (N := 35) hx hb hg in_M hown hK hP 1 rfl rfl 29 (by decide) (hg _ k981) (fun _ h9 => h9) rfl d_M_getTabled_79 ?_
          refine lv_lmul hx hb d_M_getTabled_82 ?_
          refine lv_topl (fun v_12 ev_12 => ?_)
          refine lv_aload_n hx hb d_M_getTabled_83 rfl (lv_at hl 1 rfl) ?_
          refine my_ci (wr := [((g 0), Sum.inl (cI, 8, Sum.inl vMany)), ((g 3), Sum.inl (cI, 512, Sum.inl vThen)), ((g 9), Sum.inl (cI, 512, Sum.inl so2_20)), ((g 10), Sum.inl (cI, 512, Sum.inl no2_20))]) (va_runV (As := []) (rest := [Value.long v_12, Value.ref o]) ⟨hx, hb, hml, hown, hts⟩ (c_M_nextBit l dC dI cI cM cO H.size o g fForm fShift fModels fItems fEnded fLow fRange fCache fPend fGoes fOuts fReads fBad fIR fCode fRL fRR (lN r9.1) fWrites fThrown vIn is r9.2 (nI ((r9.2 + 7) / 8)) (hIn) (by assumption) (by assumption) (by omega)) (cwV 0 hts (my_gV k1198 k1200 ks46 k12 k1201) rfl rfl rfl (by decide +kernel) ⟨by rw [hR]; exact Nat.le_of_ble_eq_true rfl, by rw [hR]; exact Nat.le_of_ble_eq_true rfl⟩) (my_preV hK hN (hP.sub [1, 0] rfl) (hD.sub [1, 0] (by decide +kernel) rfl) 0 rfl rfl) rfl rfl hl.1 rfl (lv_room (Nat.le_of_ble_eq_true rfl)) d_M_getTabled_84 ⟨by rw [hR]; exact Nat.le_of_ble_eq_true rfl, by rw [hR]; exact Nat.le_of_ble_eq_true rfl⟩) hP hD hS hA [1, 0] [2, 3, 4, 5] rfl rfl (by decide +kernel) (by decide +kernel) (fun r_84 u9 H locs hw_84 hP hD hS => ?_)
          have hw_84 : r_84 = nI (biA is r9.2) := hw_84
          have hP : va_P (dC, dI) vwCl [((g 0), Sum.inl (cI, 8, Sum.inl vMany)), ((g 3), Sum.inl (cI, 512, Sum.inl vThen)), ((g 9), Sum.inl (cI, 512, Sum.inl so2_20)), ((g 10), Sum.inl (cI, 512, Sum.inl no2_20)), (o, Sum.inr (9, mO g fForm fShift fModels fItems fEnded fLow fRange fCache fPend fGoes fOuts (nI is.length) fReads fBad fIR (nI ((r9.2 + 8) / 8)) (nI (r9.2 + 1)) fCode fRL fRR (lN r9.1) fWrites fThrown)), ((g 8), Sum.inl (cI, 6000, Sum.inl vIn))] H := hP
          have hD : va_D A [((g 0), Sum.inl (cI, 8, Sum.inl vMany)), ((g 3), Sum.inl (cI, 512, Sum.inl vThen)), ((g 9), Sum.inl (cI, 512, Sum.inl so2_20)), ((g 10), Sum.inl (cI, 512, Sum.inl no2_20)), (o, Sum.inr (9, mO g fForm fShift fModels fItems fEnded fLow fRange fCache fPend fGoes fOuts (nI is.length) fReads fBad fIR (nI ((r9.2 + 8) / 8)) (nI (r9.2 + 1)) fCode fRL fRR (lN r9.1) fWrites fThrown)), ((g 8), Sum.inl (cI, 6000, Sum.inl vIn))] := hD
          refine lv_i2l hx hb d_M_getTabled_87 rfl ?_
          refine lv_topl (fun v_13 ev_13 => ?_)
          refine lv_ladd hx hb d_M_getTabled_88 ?_
          refine lv_topl (fun v_14 ev_14 => ?_)
          have z9 : v_14 = lN (2 * r9.1 + biA is r9.2) := by subst_vars; rw [show (2 : Int64) * lN r9.1 = lN (2 * r9.1) from lN_mul 2 _, nI_l (by omega), lN_add]
          subst z9
          refine va_put (D := (dC, dI)) (ci := 9) (v := .long (lN (2 * r9.1 + biA is r9.2))) (ty := .long) (C := "RangeCodersModel") (T := T_M) (N := 35) hx hb hg in_M t_M o_M n_M hown hK hP hD hS 4 rfl rfl 29 (by decide) (hg _ k981) (fun _ h9 => h9) rfl (by decide +kernel) rfl rfl (Nat.le_of_ble_eq_true rfl) d_M_getTabled_89 (fun H locs hP hD hS => ?_)
          have hP : va_P (dC, dI) vwCl [((g 0), Sum.inl (cI, 8, Sum.inl vMany)), ((g 3), Sum.inl (cI, 512, Sum.inl vThen)), ((g 9), Sum.inl (cI, 512, Sum.inl so2_20)), ((g 10), Sum.inl (cI, 512, Sum.inl no2_20)), (o, Sum.inr (9, mO g fForm fShift fModels fItems fEnded fLow fRange fCache fPend fGoes fOuts (nI is.length) fReads fBad fIR (nI ((r9.2 + 8) / 8)) (nI (r9.2 + 1)) fCode fRL fRR (lN (2 * r9.1 + biA is r9.2)) fWrites fThrown)), ((g 8), Sum.inl (cI, 6000, Sum.inl vIn))] H := hP
          have hD : va_D A [((g 0), Sum.inl (cI, 8, Sum.inl vMany)), ((g 3), Sum.inl (cI, 512, Sum.inl vThen)), ((g 9), Sum.inl (cI, 512, Sum.inl so2_20)), ((g 10), Sum.inl (cI, 512, Sum.inl no2_20)), (o, Sum.inr (9, mO g fForm fShift fModels fItems fEnded fLow fRange fCache fPend fGoes fOuts (nI is.length) fReads fBad fIR (nI ((r9.2 + 8) / 8)) (nI (r9.2 + 1)) fCode fRL fRR (lN (2 * r9.1 + biA is r9.2)) fWrites fThrown)), ((g 8), Sum.inl (cI, 6000, Sum.inl vIn))] := hD
          refine lv_goto (tgt := 63) hx hb d_M_getTabled_92 (by decide) ?_
          exact ih9_63 _ (by first | omega | (omega)) (2 * r9.1 + biA is r9.2, r9.2 + 1) (k9 - 1) rfl (by rw [hE9, tbN_s (by omega) hlt]) (by omega) (by omega) (tb_s hk3 hk2 hx1) (by show 2 * r9.1 + biA is r9.2 < 1024; omega) (by show r9.2 + 1 + _ ≤ _; omega) H locs ls (hP.sub [5, 4, 0, 1, 2, 3] rfl) (hD.sub [5, 4, 0, 1, 2, 3] (by decide +kernel) rfl) hS (lv_sub hl [0, 1] rfl)
    exact J_63 _ (F (plc F n (X - 512)) + num F n (X - 512), t) 10 rfl (rfl) (by decide) (by decide) (by show 1 ≤ F (plc F n (X - 512)) + num F n (X - 512); omega) (by show F (plc F n (X - 512)) + num F n (X - 512) < 1024; omega) (by show t + 10 ≤ _; omega) H locs ls (hP.sub [0, 1, 2, 3, 4, 5] rfl) (hD.sub [0, 1, 2, 3, 4, 5] (by decide +kernel) rfl) hS (lv_sub hl [0, 2] rfl)
  · have hz : ns F n = 0 := (nI_eq (b := 0) (by omega) (by decide)).mp (by rw [← hw_6]; exact c_1)
    have hxx : gt4 is n F X t = (none, (X, t)) := by unfold gt4; rw [if_pos hz]
    refine lv_iconst (v := (-1)) hx hb d_M_getTabled_12 (by decide) ?_
    exact my_iret (v := (-1)) hx hb hr (rfl) hlocks hQ hK hS (Nat.le_refl _) (Nat.le_refl _) (vSO, vNO) (by rw [hxx]; rfl) (by rw [hxx]; exact (hP.sub [3, 4, 5, 0, 1, 2] rfl)) (by rw [hxx]; exact (hD.sub [3, 4, 5, 0, 1, 2] (by decide +kernel) rfl)) d_M_getTabled_13

