set_option maxHeartbeats 2000000 in
set_option maxRecDepth 100000 in
theorem c_Stack_Coder_nextByte (l : Launch) (dC : Nat → ClassId) (dI : Nat → Nat → Nat) (cI cM cO : ClassId) (sz : Nat) (co : Nat) (xx : Int64) (xreadX : Int64) (soa : Nat) (sna : Nat) (swa : Nat) (xkept : Int32) (ri : Nat) (ro : Nat) (rw : Nat) (xasked : Int32) (rin : Int32) (ria : Nat) (rik : Nat) (rif : Nat → Int32) (hri : rOk rin rik) : MetI l y_Coder_nextByte (Cond.code y_Coder_nextByte prog_4_method_15_code 2 (some .int) :: gw) ({ frames := 2, cells := 0, slots := 0, locals := 42 } : Room) (dC, dI) vwCl (kT cI cM cO) [Value.ref co] [(co, Sum.inr (4, [Value.long xx, Value.long xreadX, Value.ref soa, Value.ref sna, Value.ref swa, Value.int xkept, Value.ref ri, Value.ref ro, Value.ref rw, Value.int xasked])), (ri, Sum.inr (0, [Value.int rin, Value.ref ria])), (ria, Sum.inl (cI, rik, Sum.inl rif))] sz (fun (r : Int32) (u : Int32) => True) (fun (u : Int32) => [(co, Sum.inr (4, [Value.long xx, Value.long xreadX, Value.ref soa, Value.ref sna, Value.ref swa, Value.int xkept, Value.ref ri, Value.ref ro, Value.ref rw, Value.int u])), (ri, Sum.inr (0, [Value.int rin, Value.ref ria])), (ria, Sum.inl (cI, rik, Sum.inl rif))]) 0 0 := by
  refine my_ofI (cc := prog_4_method_15_code) (n := 2) (ret := (some .int)) (by decide) rfl (Nat.le_of_ble_eq_true rfl) ?_
  intro p e s m args below meth c R Q A ls H locs hx hb hr hts hown hlocks hml hnm hR hQ hA hl hP hK hN hD hS
  have hg : ∀ w ∈ gw, w.before args s = true := fun w h => hts w (List.mem_cons_of_mem _ h)
  have hown : s.vm.findClass "RangeCoders$Coder" = some m.cls := hown
  have hl : lv_has ls 2 [(0, Value.ref co)] := hl
  have hlt_hri := rOk_lt hri
  refine lv_aload_n hx hb d_Coder_nextByte_0 rfl (lv_at hl 0 rfl) ?_
  refine va_get (D := (dC, dI)) (ci := 4) (v := .ref ri) (C := "RangeCoders$Stack") (T := T_Stack) (N := 10) hx hb hg in_Stack hown hK hP 0 rfl rfl 6 (by decide) (hg _ k101) (fun _ h9 => h9) rfl d_Coder_nextByte_1 ?_
  refine lv_aload_n hx hb d_Coder_nextByte_4 rfl (lv_at hl 0 rfl) ?_
  refine va_get (D := (dC, dI)) (ci := 4) (v := .int xasked) (C := "RangeCoders$Stack") (T := T_Stack) (N := 10) hx hb hg in_Stack hown hK hP 0 rfl rfl 9 (by decide) (hg _ k130) (fun _ h9 => h9) rfl d_Coder_nextByte_5 ?_
  refine my_ci (wr := [(co, Sum.inr (4, [Value.long xx, Value.long xreadX, Value.ref soa, Value.ref sna, Value.ref swa, Value.int xkept, Value.ref ri, Value.ref ro, Value.ref rw, Value.int xasked]))]) (va_runV (As := [Value.int xasked]) (rest := []) ⟨hx, hb, hml, hown, hts⟩ (c_Row_has l dC dI cI cM cO H.size ri rin ria rik rif xasked (by first | assumption | omega)) (cwV 1 hts (my_gV k750 k663 k664 k6 k665) rfl rfl rfl (by decide +kernel) ⟨by rw [hR]; exact Nat.le_of_ble_eq_true rfl, by rw [hR]; exact Nat.le_of_ble_eq_true rfl⟩) (my_preV hK hN (hP.sub [1, 2] rfl) (hD.sub [1, 2] (by decide +kernel) rfl) 0 rfl rfl) rfl rfl hl.1 rfl (lv_room (Nat.le_of_ble_eq_true rfl)) d_Coder_nextByte_8 ⟨by rw [hR]; exact Nat.le_of_ble_eq_true rfl, by rw [hR]; exact Nat.le_of_ble_eq_true rfl⟩) hP hD hS hA [1, 2] [0] rfl rfl (by decide +kernel) (by decide +kernel) (fun r_8 u9 H locs hw_8 hP hD hS => ?_)
  have hr_8 : r_8 ≠ 0 → vp_in xasked rik := hw_8
  have hP : va_P (dC, dI) vwCl [(co, Sum.inr (4, [Value.long xx, Value.long xreadX, Value.ref soa, Value.ref sna, Value.ref swa, Value.int xkept, Value.ref ri, Value.ref ro, Value.ref rw, Value.int xasked])), (ri, Sum.inr (0, [Value.int rin, Value.ref ria])), (ria, Sum.inl (cI, rik, Sum.inl rif))] H := hP
  have hD : va_D A [(co, Sum.inr (4, [Value.long xx, Value.long xreadX, Value.ref soa, Value.ref sna, Value.ref swa, Value.int xkept, Value.ref ri, Value.ref ro, Value.ref rw, Value.int xasked])), (ri, Sum.inr (0, [Value.int rin, Value.ref ria])), (ria, Sum.inl (cI, rik, Sum.inl rif))] := hD
  refine lv_if_eq (tgt := 28) hx hb d_Coder_nextByte_11 (by decide) (fun c_1 => ?_) (fun c_1 => ?_)
  · refine lv_iconst (v := 0) hx hb d_Coder_nextByte_28 (by decide) ?_
    refine lv_istore_n (lv' := [(1, Value.int 0), (0, Value.ref co)]) hx hb d_Coder_nextByte_29 rfl hl (by decide) rfl (fun ls hl => ?_)
    refine lv_aload_n hx hb d_Coder_nextByte_30 rfl (lv_at hl 1 rfl) ?_
    refine lv_dup hx hb d_Coder_nextByte_31 rfl ?_
    refine va_get (D := (dC, dI)) (ci := 4) (v := .int xasked) (C := "RangeCoders$Stack") (T := T_Stack) (N := 10) hx hb hg in_Stack hown hK hP 0 rfl rfl 9 (by decide) (hg _ k130) (fun _ h9 => h9) rfl d_Coder_nextByte_32 ?_
    refine lv_iconst (v := 1) hx hb d_Coder_nextByte_35 (by decide) ?_
    refine lv_iadd hx hb d_Coder_nextByte_36 ?_
    refine lv_topi (fun v_2 ev_2 => ?_)
    refine va_put (D := (dC, dI)) (ci := 4) (v := .int v_2) (ty := .int) (C := "RangeCoders$Stack") (T := T_Stack) (N := 10) hx hb hg in_Stack t_Stack o_Stack n_Stack hown hK hP hD hS 0 rfl rfl 9 (by decide) (hg _ k130) (fun _ h9 => h9) rfl (by decide +kernel) rfl rfl (Nat.le_of_ble_eq_true rfl) d_Coder_nextByte_37 (fun H locs hP hD hS => ?_)
    have hP : va_P (dC, dI) vwCl [(co, Sum.inr (4, [Value.long xx, Value.long xreadX, Value.ref soa, Value.ref sna, Value.ref swa, Value.int xkept, Value.ref ri, Value.ref ro, Value.ref rw, Value.int v_2])), (ri, Sum.inr (0, [Value.int rin, Value.ref ria])), (ria, Sum.inl (cI, rik, Sum.inl rif))] H := hP
    have hD : va_D A [(co, Sum.inr (4, [Value.long xx, Value.long xreadX, Value.ref soa, Value.ref sna, Value.ref swa, Value.int xkept, Value.ref ri, Value.ref ro, Value.ref rw, Value.int v_2])), (ri, Sum.inr (0, [Value.int rin, Value.ref ria])), (ria, Sum.inl (cI, rik, Sum.inl rif))] := hD
    refine lv_iload_n hx hb d_Coder_nextByte_40 rfl (lv_at hl 0 rfl) ?_
    exact my_iret (v := 0) hx hb hr (rfl) hlocks hQ hK hS (Nat.le_refl _) (Nat.le_refl _) (v_2) (trivial) (hP.sub [0, 1, 2] rfl) (hD.sub [0, 1, 2] (by decide +kernel) rfl) d_Coder_nextByte_41
  · refine lv_aload_n hx hb d_Coder_nextByte_14 rfl (lv_at hl 0 rfl) ?_
    refine va_get (D := (dC, dI)) (ci := 4) (v := .ref ri) (C := "RangeCoders$Stack") (T := T_Stack) (N := 10) hx hb hg in_Stack hown hK hP 0 rfl rfl 6 (by decide) (hg _ k101) (fun _ h9 => h9) rfl d_Coder_nextByte_15 ?_
    refine lv_aload_n hx hb d_Coder_nextByte_18 rfl (lv_at hl 0 rfl) ?_
    refine va_get (D := (dC, dI)) (ci := 4) (v := .int xasked) (C := "RangeCoders$Stack") (T := T_Stack) (N := 10) hx hb hg in_Stack hown hK hP 0 rfl rfl 9 (by decide) (hg _ k130) (fun _ h9 => h9) rfl d_Coder_nextByte_19 ?_
    refine my_ci (wr := [(co, Sum.inr (4, [Value.long xx, Value.long xreadX, Value.ref soa, Value.ref sna, Value.ref swa, Value.int xkept, Value.ref ri, Value.ref ro, Value.ref rw, Value.int xasked]))]) (va_runV (As := [Value.int xasked]) (rest := []) ⟨hx, hb, hml, hown, hts⟩ (c_Row_at l dC dI cI cM cO H.size ri rin ria rik rif xasked (by first | assumption | omega)) (cwV 1 hts (my_gV k751 k659 k660 k6 k661) rfl rfl rfl (by decide +kernel) ⟨by rw [hR]; exact Nat.le_of_ble_eq_true rfl, by rw [hR]; exact Nat.le_of_ble_eq_true rfl⟩) (my_preV hK hN (hP.sub [1, 2] rfl) (hD.sub [1, 2] (by decide +kernel) rfl) 0 rfl rfl) rfl rfl hl.1 rfl (lv_room (Nat.le_of_ble_eq_true rfl)) d_Coder_nextByte_22 ⟨by rw [hR]; exact Nat.le_of_ble_eq_true rfl, by rw [hR]; exact Nat.le_of_ble_eq_true rfl⟩) hP hD hS hA [1, 2] [0] rfl rfl (by decide +kernel) (by decide +kernel) (fun r_22 u9 H locs hw_22 hP hD hS => ?_)
    have hP : va_P (dC, dI) vwCl [(co, Sum.inr (4, [Value.long xx, Value.long xreadX, Value.ref soa, Value.ref sna, Value.ref swa, Value.int xkept, Value.ref ri, Value.ref ro, Value.ref rw, Value.int xasked])), (ri, Sum.inr (0, [Value.int rin, Value.ref ria])), (ria, Sum.inl (cI, rik, Sum.inl rif))] H := hP
    have hD : va_D A [(co, Sum.inr (4, [Value.long xx, Value.long xreadX, Value.ref soa, Value.ref sna, Value.ref swa, Value.int xkept, Value.ref ri, Value.ref ro, Value.ref rw, Value.int xasked])), (ri, Sum.inr (0, [Value.int rin, Value.ref ria])), (ria, Sum.inl (cI, rik, Sum.inl rif))] := hD
    refine lv_goto (tgt := 29) hx hb d_Coder_nextByte_25 (by decide) ?_
    refine lv_istore_n (lv' := [(1, Value.int r_22), (0, Value.ref co)]) hx hb d_Coder_nextByte_29 rfl hl (by decide) rfl (fun ls hl => ?_)
    refine lv_aload_n hx hb d_Coder_nextByte_30 rfl (lv_at hl 1 rfl) ?_
    refine lv_dup hx hb d_Coder_nextByte_31 rfl ?_
    refine va_get (D := (dC, dI)) (ci := 4) (v := .int xasked) (C := "RangeCoders$Stack") (T := T_Stack) (N := 10) hx hb hg in_Stack hown hK hP 0 rfl rfl 9 (by decide) (hg _ k130) (fun _ h9 => h9) rfl d_Coder_nextByte_32 ?_
    refine lv_iconst (v := 1) hx hb d_Coder_nextByte_35 (by decide) ?_
    refine lv_iadd hx hb d_Coder_nextByte_36 ?_
    refine lv_topi (fun v_3 ev_3 => ?_)
    refine va_put (D := (dC, dI)) (ci := 4) (v := .int v_3) (ty := .int) (C := "RangeCoders$Stack") (T := T_Stack) (N := 10) hx hb hg in_Stack t_Stack o_Stack n_Stack hown hK hP hD hS 0 rfl rfl 9 (by decide) (hg _ k130) (fun _ h9 => h9) rfl (by decide +kernel) rfl rfl (Nat.le_of_ble_eq_true rfl) d_Coder_nextByte_37 (fun H locs hP hD hS => ?_)
    have hP : va_P (dC, dI) vwCl [(co, Sum.inr (4, [Value.long xx, Value.long xreadX, Value.ref soa, Value.ref sna, Value.ref swa, Value.int xkept, Value.ref ri, Value.ref ro, Value.ref rw, Value.int v_3])), (ri, Sum.inr (0, [Value.int rin, Value.ref ria])), (ria, Sum.inl (cI, rik, Sum.inl rif))] H := hP
    have hD : va_D A [(co, Sum.inr (4, [Value.long xx, Value.long xreadX, Value.ref soa, Value.ref sna, Value.ref swa, Value.int xkept, Value.ref ri, Value.ref ro, Value.ref rw, Value.int v_3])), (ri, Sum.inr (0, [Value.int rin, Value.ref ria])), (ria, Sum.inl (cI, rik, Sum.inl rif))] := hD
    refine lv_iload_n hx hb d_Coder_nextByte_40 rfl (lv_at hl 0 rfl) ?_
    exact my_iret (v := r_22) hx hb hr (rfl) hlocks hQ hK hS (Nat.le_refl _) (Nat.le_refl _) (v_3) (trivial) (hP.sub [0, 1, 2] rfl) (hD.sub [0, 1, 2] (by decide +kernel) rfl) d_Coder_nextByte_41
set_option maxHeartbeats 2000000 in
set_option maxRecDepth 100000 in
theorem c_Stack_Coder_firstFourBytes (l : Launch) (dC : Nat → ClassId) (dI : Nat → Nat → Nat) (cI cM cO : ClassId) (sz : Nat) (co : Nat) (xx : Int64) (xreadX : Int64) (soa : Nat) (sna : Nat) (swa : Nat) (xkept : Int32) (ri : Nat) (ro : Nat) (rw : Nat) (xasked : Int32) (rin : Int32) (ria : Nat) (rik : Nat) (rif : Nat → Int32) (hri : rOk rin rik) : MetL l y_Coder_firstFourBytes (Cond.code y_Coder_firstFourBytes prog_4_method_16_code 4 (some .long) :: gw) ({ frames := 3, cells := 0, slots := 0, locals := 63 } : Room) (dC, dI) vwCl (kT cI cM cO) [Value.ref co] [(co, Sum.inr (4, [Value.long xx, Value.long xreadX, Value.ref soa, Value.ref sna, Value.ref swa, Value.int xkept, Value.ref ri, Value.ref ro, Value.ref rw, Value.int xasked])), (ri, Sum.inr (0, [Value.int rin, Value.ref ria])), (ria, Sum.inl (cI, rik, Sum.inl rif))] sz (fun (r : Int64) (u : Int32) => True) (fun (u : Int32) => [(co, Sum.inr (4, [Value.long xx, Value.long xreadX, Value.ref soa, Value.ref sna, Value.ref swa, Value.int xkept, Value.ref ri, Value.ref ro, Value.ref rw, Value.int u])), (ri, Sum.inr (0, [Value.int rin, Value.ref ria])), (ria, Sum.inl (cI, rik, Sum.inl rif))]) 0 0 := by
  refine my_ofL (cc := prog_4_method_16_code) (n := 4) (ret := (some .long)) (by decide) rfl (Nat.le_of_ble_eq_true rfl) ?_
  intro p e s m args below meth c R Q A ls H locs hx hb hr hts hown hlocks hml hnm hR hQ hA hl hP hK hN hD hS
  have hg : ∀ w ∈ gw, w.before args s = true := fun w h => hts w (List.mem_cons_of_mem _ h)
  have hown : s.vm.findClass "RangeCoders$Coder" = some m.cls := hown
  have hl : lv_has ls 4 [(0, Value.ref co)] := hl
  have hlt_hri := rOk_lt hri
  refine lv_aload_n hx hb d_Coder_firstFourBytes_0 rfl (lv_at hl 0 rfl) ?_
  refine lv_iconst (v := 0) hx hb d_Coder_firstFourBytes_1 (by decide) ?_
  refine va_put (D := (dC, dI)) (ci := 4) (v := .int 0) (ty := .int) (C := "RangeCoders$Stack") (T := T_Stack) (N := 10) hx hb hg in_Stack t_Stack o_Stack n_Stack hown hK hP hD hS 0 rfl rfl 9 (by decide) (hg _ k130) (fun _ h9 => h9) rfl (by decide +kernel) rfl rfl (Nat.le_of_ble_eq_true rfl) d_Coder_firstFourBytes_2 (fun H locs hP hD hS => ?_)
  have hP : va_P (dC, dI) vwCl [(co, Sum.inr (4, [Value.long xx, Value.long xreadX, Value.ref soa, Value.ref sna, Value.ref swa, Value.int xkept, Value.ref ri, Value.ref ro, Value.ref rw, Value.int 0])), (ri, Sum.inr (0, [Value.int rin, Value.ref ria])), (ria, Sum.inl (cI, rik, Sum.inl rif))] H := hP
  have hD : va_D A [(co, Sum.inr (4, [Value.long xx, Value.long xreadX, Value.ref soa, Value.ref sna, Value.ref swa, Value.int xkept, Value.ref ri, Value.ref ro, Value.ref rw, Value.int 0])), (ri, Sum.inr (0, [Value.int rin, Value.ref ria])), (ria, Sum.inl (cI, rik, Sum.inl rif))] := hD
  refine lv_lconst (v := 0) hx hb d_Coder_firstFourBytes_5 (by decide) ?_
  refine lv_lstore_n (lv' := [(1, Value.long 0), (0, Value.ref co)]) hx hb d_Coder_firstFourBytes_6 rfl hl (by decide) rfl (fun ls hl => ?_)
  refine lv_iconst (v := 0) hx hb d_Coder_firstFourBytes_7 (by decide) ?_
  refine lv_istore_n (lv' := [(3, Value.int 0), (1, Value.long 0), (0, Value.ref co)]) hx hb d_Coder_firstFourBytes_8 rfl hl (by decide) rfl (fun ls hl => ?_)
  have J_9 : ∀ (n9_9 : Nat) (b9_0 : Int32) (b9_1 : Int64) (b9_2 : Int32) (hn9_9 : ((4 : Int32).toInt - b9_0.toInt).toNat = n9_9) (hi_9 : 0 ≤ b9_0.toInt) (H : Heap) (locs : List Loc) (ls : Array Slot), va_P (dC, dI) vwCl [(co, Sum.inr (4, [Value.long xx, Value.long xreadX, Value.ref soa, Value.ref sna, Value.ref swa, Value.int xkept, Value.ref ri, Value.ref ro, Value.ref rw, Value.int b9_2])), (ri, Sum.inr (0, [Value.int rin, Value.ref ria])), (ria, Sum.inl (cI, rik, Sum.inl rif))] H → va_D A [(co, Sum.inr (4, [Value.long xx, Value.long xreadX, Value.ref soa, Value.ref sna, Value.ref swa, Value.int xkept, Value.ref ri, Value.ref ro, Value.ref rw, Value.int b9_2])), (ri, Sum.inr (0, [Value.int rin, Value.ref ria])), (ria, Sum.inl (cI, rik, Sum.inl rif))] → va_S A s.heap H locs → lv_has ls 4 [(3, Value.int b9_0), (1, Value.long b9_1), (0, Value.ref co)] → W p l e R s m args below meth c H locs 0 0 Q (F0 m 9 ls []) := by
    intro n9_9
    induction n9_9 using Nat.strongRecOn with
    | ind n9_9 ih9_9 =>
      intro b9_0 b9_1 b9_2 hn9_9 hi_9 H locs ls hP hD hS hl
      refine lv_iload_n hx hb d_Coder_firstFourBytes_9 rfl (lv_at hl 0 rfl) ?_
      refine lv_iconst (v := 4) hx hb d_Coder_firstFourBytes_10 (by decide) ?_
      refine lv_icmp_ge (tgt := 31) hx hb d_Coder_firstFourBytes_11 (by decide) (fun c_1 => ?_) (fun c_1 => ?_)
      · refine lv_lload_n hx hb d_Coder_firstFourBytes_31 rfl (lv_at hl 1 rfl) ?_
        exact my_lret (v := b9_1) hx hb hr hlocks hQ hK hS (Nat.le_refl _) (Nat.le_refl _) (b9_2) (trivial) (hP.sub [0, 1, 2] rfl) (hD.sub [0, 1, 2] (by decide +kernel) rfl) d_Coder_firstFourBytes_32
      · refine lv_lload_n hx hb d_Coder_firstFourBytes_14 rfl (lv_at hl 1 rfl) ?_
        refine lv_bipush (v := 8) hx hb d_Coder_firstFourBytes_15 (by decide) ?_
        refine lv_lshl hx hb d_Coder_firstFourBytes_17 rfl ?_
        refine lv_topl (fun v_2 ev_2 => ?_)
        refine lv_aload_n hx hb d_Coder_firstFourBytes_18 rfl (lv_at hl 2 rfl) ?_
        refine my_ci (wr := []) (va_runU (As := []) (rest := [Value.long v_2]) ⟨hx, hb, hml, hown, hts⟩ (c_Stack_Coder_nextByte l dC dI cI cM cO H.size co xx xreadX soa sna swa xkept ri ro rw b9_2 rin ria rik rif (by first | assumption | omega)) (va_cwU 0 hts (my_gU k741 k743 k747 k742 k3 k749) rfl rfl rfl rfl (by decide +kernel) ⟨by rw [hR]; exact Nat.le_of_ble_eq_true rfl, by rw [hR]; exact Nat.le_of_ble_eq_true rfl⟩) (my_preV hK hN (hP.sub [0, 1, 2] rfl) (hD.sub [0, 1, 2] (by decide +kernel) rfl) 0 rfl rfl) rfl rfl hl.1 rfl (lv_room (Nat.le_of_ble_eq_true rfl)) d_Coder_firstFourBytes_19 ⟨by rw [hR]; exact Nat.le_of_ble_eq_true rfl, by rw [hR]; exact Nat.le_of_ble_eq_true rfl⟩) hP hD hS hA [0, 1, 2] [] rfl rfl (by decide +kernel) (by decide +kernel) (fun r_19 u9 H locs hw_19 hP hD hS => ?_)
        obtain ⟨xaskedq_19, rfl⟩ : ∃ z, z = u9 := ⟨_, rfl⟩
        have hP : va_P (dC, dI) vwCl [(co, Sum.inr (4, [Value.long xx, Value.long xreadX, Value.ref soa, Value.ref sna, Value.ref swa, Value.int xkept, Value.ref ri, Value.ref ro, Value.ref rw, Value.int xaskedq_19])), (ri, Sum.inr (0, [Value.int rin, Value.ref ria])), (ria, Sum.inl (cI, rik, Sum.inl rif))] H := hP
        have hD : va_D A [(co, Sum.inr (4, [Value.long xx, Value.long xreadX, Value.ref soa, Value.ref sna, Value.ref swa, Value.int xkept, Value.ref ri, Value.ref ro, Value.ref rw, Value.int xaskedq_19])), (ri, Sum.inr (0, [Value.int rin, Value.ref ria])), (ria, Sum.inl (cI, rik, Sum.inl rif))] := hD
        refine lv_i2l hx hb d_Coder_firstFourBytes_22 rfl ?_
        refine lv_topl (fun v_3 ev_3 => ?_)
        refine lv_lor hx hb d_Coder_firstFourBytes_23 ?_
        refine lv_topl (fun v_4 ev_4 => ?_)
        refine lv_lstore_n (lv' := [(1, Value.long v_4), (3, Value.int b9_0), (0, Value.ref co)]) hx hb d_Coder_firstFourBytes_24 rfl hl (by decide) rfl (fun ls hl => ?_)
        obtain ⟨v_5, ev_5⟩ : ∃ y : Int32, y = b9_0 + (1) := ⟨_, rfl⟩
        refine lv_iinc (v := v_5) (lv' := [(3, Value.int v_5), (1, Value.long v_4), (0, Value.ref co)]) hx hb d_Coder_firstFourBytes_25 hl (k := 1) rfl (by rw [ev_5]; rfl) (by decide) rfl (fun ls hl => ?_)
        refine lv_goto (tgt := 9) hx hb d_Coder_firstFourBytes_28 (by decide) ?_
        exact ih9_9 _ (by first | omega | (have z9 := I_up c_1 ev_5; omega)) v_5 v_4 xaskedq_19 rfl (by have z9 := I_up c_1 ev_5; omega) H locs ls (hP.sub [0, 1, 2] rfl) (hD.sub [0, 1, 2] (by decide +kernel) rfl) hS (lv_sub hl [0, 1, 2] rfl)
  exact J_9 _ (0 : Int32) (0 : Int64) (0 : Int32) rfl (by first | decide | assumption | omega) H locs ls (hP.sub [0, 1, 2] rfl) (hD.sub [0, 1, 2] (by decide +kernel) rfl) hS (lv_sub hl [0, 1, 2] rfl)
set_option maxHeartbeats 2000000 in
set_option maxRecDepth 100000 in
theorem c_Stack_Coder_hasWidth (l : Launch) (dC : Nat → ClassId) (dI : Nat → Nat → Nat) (cI cM cO : ClassId) (sz : Nat) (co : Nat) (xx : Int64) (xreadX : Int64) (soa : Nat) (sna : Nat) (swa : Nat) (xkept : Int32) (ri : Nat) (ro : Nat) (rw : Nat) (xasked : Int32) (wd : Int32) : MetI l y_Coder_hasWidth (Cond.code y_Coder_hasWidth prog_4_method_13_code 2 (some .boolean) :: gw) ({ frames := 0, cells := 0, slots := 0, locals := 0 } : Room) (dC, dI) vwCl (kT cI cM cO) [Value.ref co, Value.int wd] [(co, Sum.inr (4, [Value.long xx, Value.long xreadX, Value.ref soa, Value.ref sna, Value.ref swa, Value.int xkept, Value.ref ri, Value.ref ro, Value.ref rw, Value.int xasked]))] sz (fun (r : Int32) (u : Unit) => True) (fun (u : Unit) => [(co, Sum.inr (4, [Value.long xx, Value.long xreadX, Value.ref soa, Value.ref sna, Value.ref swa, Value.int xkept, Value.ref ri, Value.ref ro, Value.ref rw, Value.int xasked]))]) 0 0 := by
  refine my_ofI (cc := prog_4_method_13_code) (n := 2) (ret := (some .boolean)) (by decide) rfl (Nat.le_of_ble_eq_true rfl) ?_
  intro p e s m args below meth c R Q A ls H locs hx hb hr hts hown hlocks hml hnm hR hQ hA hl hP hK hN hD hS
  have hg : ∀ w ∈ gw, w.before args s = true := fun w h => hts w (List.mem_cons_of_mem _ h)
  have hown : s.vm.findClass "RangeCoders$Coder" = some m.cls := hown
  have hl : lv_has ls 2 [(0, Value.ref co), (1, Value.int wd)] := hl
  refine lv_iload_n hx hb d_Coder_hasWidth_0 rfl (lv_at hl 1 rfl) ?_
  refine lv_iconst (v := 1) hx hb d_Coder_hasWidth_1 (by decide) ?_
  refine lv_icmp_lt (tgt := 15) hx hb d_Coder_hasWidth_2 (by decide) (fun c_1 => ?_) (fun c_1 => ?_)
  · refine lv_iconst (v := 0) hx hb d_Coder_hasWidth_15 (by decide) ?_
    exact my_iret (v := 0) hx hb hr (rfl) hlocks hQ hK hS (Nat.le_refl _) (Nat.le_refl _) () (trivial) (hP.sub [0] rfl) (hD.sub [0] (by decide +kernel) rfl) d_Coder_hasWidth_16
  · refine lv_iload_n hx hb d_Coder_hasWidth_5 rfl (lv_at hl 1 rfl) ?_
    refine lv_bipush (v := 12) hx hb d_Coder_hasWidth_6 (by decide) ?_
    refine lv_icmp_gt (tgt := 15) hx hb d_Coder_hasWidth_8 (by decide) (fun c_2 => ?_) (fun c_2 => ?_)
    · refine lv_iconst (v := 0) hx hb d_Coder_hasWidth_15 (by decide) ?_
      exact my_iret (v := 0) hx hb hr (rfl) hlocks hQ hK hS (Nat.le_refl _) (Nat.le_refl _) () (trivial) (hP.sub [0] rfl) (hD.sub [0] (by decide +kernel) rfl) d_Coder_hasWidth_16
    · refine lv_iconst (v := 1) hx hb d_Coder_hasWidth_11 (by decide) ?_
      refine lv_goto (tgt := 16) hx hb d_Coder_hasWidth_12 (by decide) ?_
      exact my_iret (v := 1) hx hb hr (rfl) hlocks hQ hK hS (Nat.le_refl _) (Nat.le_refl _) () (trivial) (hP.sub [0] rfl) (hD.sub [0] (by decide +kernel) rfl) d_Coder_hasWidth_16
set_option maxHeartbeats 2000000 in
set_option maxRecDepth 100000 in
theorem c_Stack_Coder_bytesAsked (l : Launch) (dC : Nat → ClassId) (dI : Nat → Nat → Nat) (cI cM cO : ClassId) (sz : Nat) (co : Nat) (xx : Int64) (xreadX : Int64) (soa : Nat) (sna : Nat) (swa : Nat) (xkept : Int32) (ri : Nat) (ro : Nat) (rw : Nat) (xasked : Int32) : MetI l y_Coder_bytesAsked (Cond.code y_Coder_bytesAsked prog_4_method_14_code 1 (some .int) :: gw) ({ frames := 0, cells := 0, slots := 0, locals := 0 } : Room) (dC, dI) vwCl (kT cI cM cO) [Value.ref co] [(co, Sum.inr (4, [Value.long xx, Value.long xreadX, Value.ref soa, Value.ref sna, Value.ref swa, Value.int xkept, Value.ref ri, Value.ref ro, Value.ref rw, Value.int xasked]))] sz (fun (r : Int32) (u : Unit) => True) (fun (u : Unit) => [(co, Sum.inr (4, [Value.long xx, Value.long xreadX, Value.ref soa, Value.ref sna, Value.ref swa, Value.int xkept, Value.ref ri, Value.ref ro, Value.ref rw, Value.int xasked]))]) 0 0 := by
  refine my_ofI (cc := prog_4_method_14_code) (n := 1) (ret := (some .int)) (by decide) rfl (Nat.le_of_ble_eq_true rfl) ?_
  intro p e s m args below meth c R Q A ls H locs hx hb hr hts hown hlocks hml hnm hR hQ hA hl hP hK hN hD hS
  have hg : ∀ w ∈ gw, w.before args s = true := fun w h => hts w (List.mem_cons_of_mem _ h)
  have hown : s.vm.findClass "RangeCoders$Coder" = some m.cls := hown
  have hl : lv_has ls 1 [(0, Value.ref co)] := hl
  refine lv_aload_n hx hb d_Coder_bytesAsked_0 rfl (lv_at hl 0 rfl) ?_
  refine va_get (D := (dC, dI)) (ci := 4) (v := .int xasked) (C := "RangeCoders$Stack") (T := T_Stack) (N := 10) hx hb hg in_Stack hown hK hP 0 rfl rfl 9 (by decide) (hg _ k130) (fun _ h9 => h9) rfl d_Coder_bytesAsked_1 ?_
  exact my_iret (v := xasked) hx hb hr (rfl) hlocks hQ hK hS (Nat.le_refl _) (Nat.le_refl _) () (trivial) (hP.sub [0] rfl) (hD.sub [0] (by decide +kernel) rfl) d_Coder_bytesAsked_4
set_option maxHeartbeats 2000000 in
set_option maxRecDepth 100000 in
theorem c_Stack_Stacked_register (l : Launch) (dC : Nat → ClassId) (dI : Nat → Nat → Nat) (cI cM cO : ClassId) (sz : Nat) (co : Nat) (xx : Int64) (xreadX : Int64) (soa : Nat) (sna : Nat) (swa : Nat) (xkept : Int32) (ri : Nat) (ro : Nat) (rw : Nat) (xasked : Int32) (wh : Int32) : MetL l y_Stacked_register (Cond.code y_Stacked_register prog_11_method_10_code 2 (some .long) :: gw) ({ frames := 0, cells := 0, slots := 0, locals := 0 } : Room) (dC, dI) vwCl (kT cI cM cO) [Value.ref co, Value.int wh] [(co, Sum.inr (4, [Value.long xx, Value.long xreadX, Value.ref soa, Value.ref sna, Value.ref swa, Value.int xkept, Value.ref ri, Value.ref ro, Value.ref rw, Value.int xasked]))] sz (fun (r : Int64) (u : Unit) => True) (fun (u : Unit) => [(co, Sum.inr (4, [Value.long xx, Value.long xreadX, Value.ref soa, Value.ref sna, Value.ref swa, Value.int xkept, Value.ref ri, Value.ref ro, Value.ref rw, Value.int xasked]))]) 0 0 := by
  refine my_ofL (cc := prog_11_method_10_code) (n := 2) (ret := (some .long)) (by decide) rfl (Nat.le_of_ble_eq_true rfl) ?_
  intro p e s m args below meth c R Q A ls H locs hx hb hr hts hown hlocks hml hnm hR hQ hA hl hP hK hN hD hS
  have hg : ∀ w ∈ gw, w.before args s = true := fun w h => hts w (List.mem_cons_of_mem _ h)
  have hown : s.vm.findClass "RangeCoders$Stacked" = some m.cls := hown
  have hl : lv_has ls 2 [(0, Value.ref co), (1, Value.int wh)] := hl
  refine lv_iload_n hx hb d_Stacked_register_0 rfl (lv_at hl 1 rfl) ?_
  refine lv_iconst (v := 5) hx hb d_Stacked_register_1 (by decide) ?_
  refine lv_icmp_ne (tgt := 12) hx hb d_Stacked_register_2 (by decide) (fun c_1 => ?_) (fun c_1 => ?_)
  · refine lv_lconst (v := 0) hx hb d_Stacked_register_12 (by decide) ?_
    exact my_lret (v := 0) hx hb hr hlocks hQ hK hS (Nat.le_refl _) (Nat.le_refl _) () (trivial) (hP.sub [0] rfl) (hD.sub [0] (by decide +kernel) rfl) d_Stacked_register_13
  · refine lv_aload_n hx hb d_Stacked_register_5 rfl (lv_at hl 0 rfl) ?_
    refine va_get (D := (dC, dI)) (ci := 4) (v := .long xreadX) (C := "RangeCoders$Stack") (T := T_Stack) (N := 10) hx hb hg in_Stack hown hK hP 0 rfl rfl 1 (by decide) (hg _ k217) (fun _ h9 => h9) rfl d_Stacked_register_6 ?_
    refine lv_goto (tgt := 13) hx hb d_Stacked_register_9 (by decide) ?_
    exact my_lret (v := xreadX) hx hb hr hlocks hQ hK hS (Nat.le_refl _) (Nat.le_refl _) () (trivial) (hP.sub [0] rfl) (hD.sub [0] (by decide +kernel) rfl) d_Stacked_register_13
set_option maxHeartbeats 2000000 in
set_option maxRecDepth 100000 in
theorem c_Stack_Stack_prepare (l : Launch) (dC : Nat → ClassId) (dI : Nat → Nat → Nat) (cI cM cO : ClassId) (sz : Nat) (co : Nat) (xx : Int64) (xreadX : Int64) (soa : Nat) (sna : Nat) (swa : Nat) (xkept : Int32) (ri : Nat) (ro : Nat) (rw : Nat) (xasked : Int32) (oo : Nat) (osg : Int32) (osm : Int32) (ofc : Int32) (oca : Nat) (opa : Nat) (ol : Nat) (ocf : Nat → Int32) (opl : Nat) (opf : Nat → Int32) (ka : Nat) (kl : Nat) (kf : Nat → Int32) (hol : ol ≤ 64) (hopl : opl ≤ 512) (hol0 : 1 ≤ ol) (hkl : kl ≤ 64) : MetV l y_Stack_prepare (Cond.code y_Stack_prepare prog_10_method_2_code 3 none :: gw) ({ frames := 3, cells := 0, slots := 0, locals := 67 } : Room) (dC, dI) vwCl (kT cI cM cO) [Value.ref co, Value.ref oo, Value.ref ka] [(co, Sum.inr (4, [Value.long xx, Value.long xreadX, Value.ref soa, Value.ref sna, Value.ref swa, Value.int xkept, Value.ref ri, Value.ref ro, Value.ref rw, Value.int xasked])), (oo, Sum.inr (7, [Value.int osg, Value.int osm, Value.int ofc, Value.ref oca, Value.ref opa])), (oca, Sum.inl (cI, ol, Sum.inl ocf)), (opa, Sum.inl (cI, opl, Sum.inl opf)), (ka, Sum.inl (cI, kl, Sum.inl kf))] sz (fun (u : Int32 × (Nat → Int32)) => True) (fun (u : Int32 × (Nat → Int32)) => [(co, Sum.inr (4, [Value.long xx, Value.long xreadX, Value.ref soa, Value.ref sna, Value.ref swa, Value.int xkept, Value.ref ri, Value.ref ro, Value.ref rw, Value.int xasked])), (oo, Sum.inr (7, [Value.int osg, Value.int u.1, Value.int ofc, Value.ref oca, Value.ref opa])), (oca, Sum.inl (cI, ol, Sum.inl u.2)), (opa, Sum.inl (cI, opl, Sum.inl opf)), (ka, Sum.inl (cI, kl, Sum.inl kf))]) 0 0 := by
  refine my_ofV (cc := prog_10_method_2_code) (n := 3) (ret := none) (by decide) rfl (Nat.le_of_ble_eq_true rfl) ?_
  intro p e s m args below meth c R Q A ls H locs hx hb hr hts hown hlocks hml hnm hR hQ hA hl hP hK hN hD hS
  have hg : ∀ w ∈ gw, w.before args s = true := fun w h => hts w (List.mem_cons_of_mem _ h)
  have hown : s.vm.findClass "RangeCoders$Stack" = some m.cls := hown
  have hl : lv_has ls 3 [(0, Value.ref co), (1, Value.ref oo), (2, Value.ref ka)] := hl
  refine lv_aload_n hx hb d_Stack_prepare_0 rfl (lv_at hl 1 rfl) ?_
  refine lv_sipush (v := 4096) hx hb d_Stack_prepare_1 (by decide) ?_
  refine lv_aload_n hx hb d_Stack_prepare_4 rfl (lv_at hl 2 rfl) ?_
  refine my_cv (wr := [(co, Sum.inr (4, [Value.long xx, Value.long xreadX, Value.ref soa, Value.ref sna, Value.ref swa, Value.int xkept, Value.ref ri, Value.ref ro, Value.ref rw, Value.int xasked]))]) (va_runV (As := [Value.int 4096, Value.ref ka]) (rest := []) ⟨hx, hb, hml, hown, hts⟩ (c_Odds_scaleTo l dC dI cI cM cO H.size oo osg osm ofc oca opa ol ocf opl opf 4096 ka kl kf (by first | assumption | omega) (by first | assumption | omega) (by first | assumption | omega) (by first | assumption | omega)) (cwV 2 hts (my_gV k383 k384 k385 k14 k386) rfl rfl rfl (by decide +kernel) ⟨by rw [hR]; exact Nat.le_of_ble_eq_true rfl, by rw [hR]; exact Nat.le_of_ble_eq_true rfl⟩) (my_preV hK hN (hP.sub [1, 2, 3, 4] rfl) (hD.sub [1, 2, 3, 4] (by decide +kernel) rfl) 0 rfl rfl) rfl rfl hl.1 rfl (lv_room (Nat.le_of_ble_eq_true rfl)) d_Stack_prepare_5 ⟨by rw [hR]; exact Nat.le_of_ble_eq_true rfl, by rw [hR]; exact Nat.le_of_ble_eq_true rfl⟩) hP hD hS hA [1, 2, 3, 4] [0] rfl rfl (by decide +kernel) (by decide +kernel) (fun u9 H locs hw_5 hP hD hS => ?_)
  obtain ⟨osmq_5, ocfq_5⟩ := u9
  have hP : va_P (dC, dI) vwCl [(co, Sum.inr (4, [Value.long xx, Value.long xreadX, Value.ref soa, Value.ref sna, Value.ref swa, Value.int xkept, Value.ref ri, Value.ref ro, Value.ref rw, Value.int xasked])), (oo, Sum.inr (7, [Value.int osg, Value.int osmq_5, Value.int ofc, Value.ref oca, Value.ref opa])), (oca, Sum.inl (cI, ol, Sum.inl ocfq_5)), (opa, Sum.inl (cI, opl, Sum.inl opf)), (ka, Sum.inl (cI, kl, Sum.inl kf))] H := hP
  have hD : va_D A [(co, Sum.inr (4, [Value.long xx, Value.long xreadX, Value.ref soa, Value.ref sna, Value.ref swa, Value.int xkept, Value.ref ri, Value.ref ro, Value.ref rw, Value.int xasked])), (oo, Sum.inr (7, [Value.int osg, Value.int osmq_5, Value.int ofc, Value.ref oca, Value.ref opa])), (oca, Sum.inl (cI, ol, Sum.inl ocfq_5)), (opa, Sum.inl (cI, opl, Sum.inl opf)), (ka, Sum.inl (cI, kl, Sum.inl kf))] := hD
  exact my_vret hx hb hr hlocks hQ hK hS (Nat.le_refl _) (Nat.le_refl _) (osmq_5, ocfq_5) (trivial) (hP.sub [0, 1, 2, 3, 4] rfl) (hD.sub [0, 1, 2, 3, 4] (by decide +kernel) rfl) d_Stack_prepare_8
set_option maxHeartbeats 2000000 in
set_option maxRecDepth 100000 in
theorem c_Stack_Stack_openReading (l : Launch) (dC : Nat → ClassId) (dI : Nat → Nat → Nat) (cI cM cO : ClassId) (sz : Nat) (co : Nat) (xx : Int64) (xreadX : Int64) (soa : Nat) (sna : Nat) (swa : Nat) (xkept : Int32) (ri : Nat) (ro : Nat) (rw : Nat) (xasked : Int32) (rin : Int32) (ria : Nat) (rik : Nat) (rif : Nat → Int32) (hri : rOk rin rik) : MetI l y_Stack_openReading (Cond.code y_Stack_openReading prog_10_method_7_code 1 (some .boolean) :: gw) ({ frames := 4, cells := 0, slots := 0, locals := 86 } : Room) (dC, dI) vwCl (kT cI cM cO) [Value.ref co] [(co, Sum.inr (4, [Value.long xx, Value.long xreadX, Value.ref soa, Value.ref sna, Value.ref swa, Value.int xkept, Value.ref ri, Value.ref ro, Value.ref rw, Value.int xasked])), (ri, Sum.inr (0, [Value.int rin, Value.ref ria])), (ria, Sum.inl (cI, rik, Sum.inl rif))] sz (fun (r : Int32) (u : Int64 × Int32) => True) (fun (u : Int64 × Int32) => [(co, Sum.inr (4, [Value.long xx, Value.long u.1, Value.ref soa, Value.ref sna, Value.ref swa, Value.int xkept, Value.ref ri, Value.ref ro, Value.ref rw, Value.int u.2])), (ri, Sum.inr (0, [Value.int rin, Value.ref ria])), (ria, Sum.inl (cI, rik, Sum.inl rif))]) 0 0 := by
  refine my_ofI (cc := prog_10_method_7_code) (n := 1) (ret := (some .boolean)) (by decide) rfl (Nat.le_of_ble_eq_true rfl) ?_
  intro p e s m args below meth c R Q A ls H locs hx hb hr hts hown hlocks hml hnm hR hQ hA hl hP hK hN hD hS
  have hg : ∀ w ∈ gw, w.before args s = true := fun w h => hts w (List.mem_cons_of_mem _ h)
  have hown : s.vm.findClass "RangeCoders$Stack" = some m.cls := hown
  have hl : lv_has ls 1 [(0, Value.ref co)] := hl
  have hlt_hri := rOk_lt hri
  refine lv_aload_n hx hb d_Stack_openReading_0 rfl (lv_at hl 0 rfl) ?_
  refine lv_aload_n hx hb d_Stack_openReading_1 rfl (lv_at hl 0 rfl) ?_
  refine my_cl (wr := []) (va_runU (As := []) (rest := [Value.ref co]) ⟨hx, hb, hml, hown, hts⟩ (c_Stack_Coder_firstFourBytes l dC dI cI cM cO H.size co xx xreadX soa sna swa xkept ri ro rw xasked rin ria rik rif (by first | assumption | omega)) (va_cwU 0 hts (my_gU k757 k758 k759 k739 k3 k740) rfl rfl rfl rfl (by decide +kernel) ⟨by rw [hR]; exact Nat.le_of_ble_eq_true rfl, by rw [hR]; exact Nat.le_of_ble_eq_true rfl⟩) (my_preV hK hN (hP.sub [0, 1, 2] rfl) (hD.sub [0, 1, 2] (by decide +kernel) rfl) 0 rfl rfl) rfl rfl hl.1 rfl (lv_room (Nat.le_of_ble_eq_true rfl)) d_Stack_openReading_2 ⟨by rw [hR]; exact Nat.le_of_ble_eq_true rfl, by rw [hR]; exact Nat.le_of_ble_eq_true rfl⟩) hP hD hS hA [0, 1, 2] [] rfl rfl (by decide +kernel) (by decide +kernel) (fun r_2 u9 H locs hw_2 hP hD hS => ?_)
  obtain ⟨xaskedq_2, rfl⟩ : ∃ z, z = u9 := ⟨_, rfl⟩
  have hP : va_P (dC, dI) vwCl [(co, Sum.inr (4, [Value.long xx, Value.long xreadX, Value.ref soa, Value.ref sna, Value.ref swa, Value.int xkept, Value.ref ri, Value.ref ro, Value.ref rw, Value.int xaskedq_2])), (ri, Sum.inr (0, [Value.int rin, Value.ref ria])), (ria, Sum.inl (cI, rik, Sum.inl rif))] H := hP
  have hD : va_D A [(co, Sum.inr (4, [Value.long xx, Value.long xreadX, Value.ref soa, Value.ref sna, Value.ref swa, Value.int xkept, Value.ref ri, Value.ref ro, Value.ref rw, Value.int xaskedq_2])), (ri, Sum.inr (0, [Value.int rin, Value.ref ria])), (ria, Sum.inl (cI, rik, Sum.inl rif))] := hD
  refine va_put (D := (dC, dI)) (ci := 4) (v := .long r_2) (ty := .long) (C := "RangeCoders$Stack") (T := T_Stack) (N := 10) hx hb hg in_Stack t_Stack o_Stack n_Stack hown hK hP hD hS 0 rfl rfl 1 (by decide) (hg _ k215) (fun x9 h9 => u_same (hg _ k216) x9 h9) rfl (by decide +kernel) rfl rfl (Nat.le_of_ble_eq_true rfl) d_Stack_openReading_5 (fun H locs hP hD hS => ?_)
  have hP : va_P (dC, dI) vwCl [(co, Sum.inr (4, [Value.long xx, Value.long r_2, Value.ref soa, Value.ref sna, Value.ref swa, Value.int xkept, Value.ref ri, Value.ref ro, Value.ref rw, Value.int xaskedq_2])), (ri, Sum.inr (0, [Value.int rin, Value.ref ria])), (ria, Sum.inl (cI, rik, Sum.inl rif))] H := hP
  have hD : va_D A [(co, Sum.inr (4, [Value.long xx, Value.long r_2, Value.ref soa, Value.ref sna, Value.ref swa, Value.int xkept, Value.ref ri, Value.ref ro, Value.ref rw, Value.int xaskedq_2])), (ri, Sum.inr (0, [Value.int rin, Value.ref ria])), (ria, Sum.inl (cI, rik, Sum.inl rif))] := hD
  refine lv_aload_n hx hb d_Stack_openReading_8 rfl (lv_at hl 0 rfl) ?_
  refine va_get (D := (dC, dI)) (ci := 4) (v := .long r_2) (C := "RangeCoders$Stack") (T := T_Stack) (N := 10) hx hb hg in_Stack hown hK hP 0 rfl rfl 1 (by decide) (hg _ k215) (fun x9 h9 => u_same (hg _ k216) x9 h9) rfl d_Stack_openReading_9 ?_
  refine lv_ldc2 (v := 8388608) hx hb hown (hg _ k603) d_Stack_openReading_12 ?_
  refine W.lcmp hx hb d_Stack_openReading_15 ?_
  refine lv_if_lt (tgt := 23) hx hb d_Stack_openReading_16 (by decide) (fun c_1 => ?_) (fun c_1 => ?_)
  · rw [lg_cmp_lt] at c_1
    refine lv_iconst (v := 0) hx hb d_Stack_openReading_23 (by decide) ?_
    exact my_iret (v := 0) hx hb hr (rfl) hlocks hQ hK hS (Nat.le_refl _) (Nat.le_refl _) (r_2, xaskedq_2) (trivial) (hP.sub [0, 1, 2] rfl) (hD.sub [0, 1, 2] (by decide +kernel) rfl) d_Stack_openReading_24
  · rw [lg_cmp_lt] at c_1
    refine lv_iconst (v := 1) hx hb d_Stack_openReading_19 (by decide) ?_
    refine lv_goto (tgt := 24) hx hb d_Stack_openReading_20 (by decide) ?_
    exact my_iret (v := 1) hx hb hr (rfl) hlocks hQ hK hS (Nat.le_refl _) (Nat.le_refl _) (r_2, xaskedq_2) (trivial) (hP.sub [0, 1, 2] rfl) (hD.sub [0, 1, 2] (by decide +kernel) rfl) d_Stack_openReading_24
set_option maxHeartbeats 2000000 in
set_option maxRecDepth 100000 in
theorem c_Stack_Stack_unstackPart (l : Launch) (dC : Nat → ClassId) (dI : Nat → Nat → Nat) (cI cM cO : ClassId) (sz : Nat) (co : Nat) (xx : Int64) (xreadX : Int64) (soa : Nat) (sna : Nat) (swa : Nat) (xkept : Int32) (ri : Nat) (ro : Nat) (rw : Nat) (xasked : Int32) (rin : Int32) (ria : Nat) (rik : Nat) (rif : Nat → Int32) (pf : Int32) (rst : Int32) (hri : rOk rin rik) : MetV l y_Stack_unstackPart (Cond.code y_Stack_unstackPart prog_10_method_12_code 4 none :: gw) ({ frames := 3, cells := 0, slots := 0, locals := 63 } : Room) (dC, dI) vwCl (kT cI cM cO) [Value.ref co, Value.int pf, Value.int rst] [(co, Sum.inr (4, [Value.long xx, Value.long xreadX, Value.ref soa, Value.ref sna, Value.ref swa, Value.int xkept, Value.ref ri, Value.ref ro, Value.ref rw, Value.int xasked])), (ri, Sum.inr (0, [Value.int rin, Value.ref ria])), (ria, Sum.inl (cI, rik, Sum.inl rif))] sz (fun (u : Int64 × Int32) => True) (fun (u : Int64 × Int32) => [(co, Sum.inr (4, [Value.long xx, Value.long u.1, Value.ref soa, Value.ref sna, Value.ref swa, Value.int xkept, Value.ref ri, Value.ref ro, Value.ref rw, Value.int u.2])), (ri, Sum.inr (0, [Value.int rin, Value.ref ria])), (ria, Sum.inl (cI, rik, Sum.inl rif))]) 0 0 := by
  refine my_ofV (cc := prog_10_method_12_code) (n := 4) (ret := none) (by decide) rfl (Nat.le_of_ble_eq_true rfl) ?_
  intro p e s m args below meth c R Q A ls H locs hx hb hr hts hown hlocks hml hnm hR hQ hA hl hP hK hN hD hS
  have hg : ∀ w ∈ gw, w.before args s = true := fun w h => hts w (List.mem_cons_of_mem _ h)
  have hown : s.vm.findClass "RangeCoders$Stack" = some m.cls := hown
  have hl : lv_has ls 4 [(0, Value.ref co), (1, Value.int pf), (2, Value.int rst)] := hl
  have hlt_hri := rOk_lt hri
  refine lv_aload_n hx hb d_Stack_unstackPart_0 rfl (lv_at hl 0 rfl) ?_
  refine lv_iload_n hx hb d_Stack_unstackPart_1 rfl (lv_at hl 1 rfl) ?_
  refine lv_i2l hx hb d_Stack_unstackPart_2 rfl ?_
  refine lv_topl (fun v_1 ev_1 => ?_)
  refine lv_aload_n hx hb d_Stack_unstackPart_3 rfl (lv_at hl 0 rfl) ?_
  refine va_get (D := (dC, dI)) (ci := 4) (v := .long xreadX) (C := "RangeCoders$Stack") (T := T_Stack) (N := 10) hx hb hg in_Stack hown hK hP 0 rfl rfl 1 (by decide) (hg _ k215) (fun x9 h9 => u_same (hg _ k216) x9 h9) rfl d_Stack_unstackPart_4 ?_
  refine lv_bipush (v := 12) hx hb d_Stack_unstackPart_7 (by decide) ?_
  refine lv_lushr hx hb d_Stack_unstackPart_9 rfl ?_
  refine lv_topl (fun v_2 ev_2 => ?_)
  refine lv_lmul hx hb d_Stack_unstackPart_10 ?_
  refine lv_topl (fun v_3 ev_3 => ?_)
  refine lv_iload_n hx hb d_Stack_unstackPart_11 rfl (lv_at hl 2 rfl) ?_
  refine lv_i2l hx hb d_Stack_unstackPart_12 rfl ?_
  refine lv_topl (fun v_4 ev_4 => ?_)
  refine lv_ladd hx hb d_Stack_unstackPart_13 ?_
  refine lv_topl (fun v_5 ev_5 => ?_)
  refine va_put (D := (dC, dI)) (ci := 4) (v := .long v_5) (ty := .long) (C := "RangeCoders$Stack") (T := T_Stack) (N := 10) hx hb hg in_Stack t_Stack o_Stack n_Stack hown hK hP hD hS 0 rfl rfl 1 (by decide) (hg _ k215) (fun x9 h9 => u_same (hg _ k216) x9 h9) rfl (by decide +kernel) rfl rfl (Nat.le_of_ble_eq_true rfl) d_Stack_unstackPart_14 (fun H locs hP hD hS => ?_)
  have hP : va_P (dC, dI) vwCl [(co, Sum.inr (4, [Value.long xx, Value.long v_5, Value.ref soa, Value.ref sna, Value.ref swa, Value.int xkept, Value.ref ri, Value.ref ro, Value.ref rw, Value.int xasked])), (ri, Sum.inr (0, [Value.int rin, Value.ref ria])), (ria, Sum.inl (cI, rik, Sum.inl rif))] H := hP
  have hD : va_D A [(co, Sum.inr (4, [Value.long xx, Value.long v_5, Value.ref soa, Value.ref sna, Value.ref swa, Value.int xkept, Value.ref ri, Value.ref ro, Value.ref rw, Value.int xasked])), (ri, Sum.inr (0, [Value.int rin, Value.ref ria])), (ria, Sum.inl (cI, rik, Sum.inl rif))] := hD
  refine lv_iconst (v := 0) hx hb d_Stack_unstackPart_17 (by decide) ?_
  refine lv_istore_n (lv' := [(3, Value.int 0), (0, Value.ref co), (1, Value.int pf), (2, Value.int rst)]) hx hb d_Stack_unstackPart_18 rfl hl (by decide) rfl (fun ls hl => ?_)
  have J_19 : ∀ (n9_19 : Nat) (b19_0 : Int32) (b19_1 : Int64) (b19_2 : Int32) (hn9_19 : ((8 : Int32).toInt - b19_0.toInt).toNat = n9_19) (hi_19 : 0 ≤ b19_0.toInt) (H : Heap) (locs : List Loc) (ls : Array Slot), va_P (dC, dI) vwCl [(co, Sum.inr (4, [Value.long xx, Value.long b19_1, Value.ref soa, Value.ref sna, Value.ref swa, Value.int xkept, Value.ref ri, Value.ref ro, Value.ref rw, Value.int b19_2])), (ri, Sum.inr (0, [Value.int rin, Value.ref ria])), (ria, Sum.inl (cI, rik, Sum.inl rif))] H → va_D A [(co, Sum.inr (4, [Value.long xx, Value.long b19_1, Value.ref soa, Value.ref sna, Value.ref swa, Value.int xkept, Value.ref ri, Value.ref ro, Value.ref rw, Value.int b19_2])), (ri, Sum.inr (0, [Value.int rin, Value.ref ria])), (ria, Sum.inl (cI, rik, Sum.inl rif))] → va_S A s.heap H locs → lv_has ls 4 [(3, Value.int b19_0), (0, Value.ref co), (1, Value.int pf), (2, Value.int rst)] → W p l e R s m args below meth c H locs 0 0 Q (F0 m 19 ls []) := by
    intro n9_19
    induction n9_19 using Nat.strongRecOn with
    | ind n9_19 ih9_19 =>
      intro b19_0 b19_1 b19_2 hn9_19 hi_19 H locs ls hP hD hS hl
      refine lv_iload_n hx hb d_Stack_unstackPart_19 rfl (lv_at hl 0 rfl) ?_
      refine lv_bipush (v := 8) hx hb d_Stack_unstackPart_20 (by decide) ?_
      refine lv_icmp_ge (tgt := 59) hx hb d_Stack_unstackPart_22 (by decide) (fun c_6 => ?_) (fun c_6 => ?_)
      · exact my_vret hx hb hr hlocks hQ hK hS (Nat.le_refl _) (Nat.le_refl _) (b19_1, b19_2) (trivial) (hP.sub [0, 1, 2] rfl) (hD.sub [0, 1, 2] (by decide +kernel) rfl) d_Stack_unstackPart_59
      · refine lv_aload_n hx hb d_Stack_unstackPart_25 rfl (lv_at hl 1 rfl) ?_
        refine va_get (D := (dC, dI)) (ci := 4) (v := .long b19_1) (C := "RangeCoders$Stack") (T := T_Stack) (N := 10) hx hb hg in_Stack hown hK hP 0 rfl rfl 1 (by decide) (hg _ k215) (fun x9 h9 => u_same (hg _ k216) x9 h9) rfl d_Stack_unstackPart_26 ?_
        refine lv_ldc2 (v := 8388608) hx hb hown (hg _ k603) d_Stack_unstackPart_29 ?_
        refine W.lcmp hx hb d_Stack_unstackPart_32 ?_
        refine lv_if_ge (tgt := 59) hx hb d_Stack_unstackPart_33 (by decide) (fun c_7 => ?_) (fun c_7 => ?_)
        · rw [lg_cmp_ge] at c_7
          exact my_vret hx hb hr hlocks hQ hK hS (Nat.le_refl _) (Nat.le_refl _) (b19_1, b19_2) (trivial) (hP.sub [0, 1, 2] rfl) (hD.sub [0, 1, 2] (by decide +kernel) rfl) d_Stack_unstackPart_59
        · rw [lg_cmp_ge] at c_7
          refine lv_aload_n hx hb d_Stack_unstackPart_36 rfl (lv_at hl 1 rfl) ?_
          refine lv_aload_n hx hb d_Stack_unstackPart_37 rfl (lv_at hl 1 rfl) ?_
          refine va_get (D := (dC, dI)) (ci := 4) (v := .long b19_1) (C := "RangeCoders$Stack") (T := T_Stack) (N := 10) hx hb hg in_Stack hown hK hP 0 rfl rfl 1 (by decide) (hg _ k215) (fun x9 h9 => u_same (hg _ k216) x9 h9) rfl d_Stack_unstackPart_38 ?_
          refine lv_bipush (v := 8) hx hb d_Stack_unstackPart_41 (by decide) ?_
          refine lv_lshl hx hb d_Stack_unstackPart_43 rfl ?_
          refine lv_topl (fun v_8 ev_8 => ?_)
          refine lv_aload_n hx hb d_Stack_unstackPart_44 rfl (lv_at hl 1 rfl) ?_
          refine my_ci (wr := []) (va_runU (As := []) (rest := [Value.long v_8, Value.ref co]) ⟨hx, hb, hml, hown, hts⟩ (c_Stack_Coder_nextByte l dC dI cI cM cO H.size co xx b19_1 soa sna swa xkept ri ro rw b19_2 rin ria rik rif (by first | assumption | omega)) (va_cwU 0 hts (my_gU k839 k840 k841 k742 k3 k749) rfl rfl rfl rfl (by decide +kernel) ⟨by rw [hR]; exact Nat.le_of_ble_eq_true rfl, by rw [hR]; exact Nat.le_of_ble_eq_true rfl⟩) (my_preV hK hN (hP.sub [0, 1, 2] rfl) (hD.sub [0, 1, 2] (by decide +kernel) rfl) 0 rfl rfl) rfl rfl hl.1 rfl (lv_room (Nat.le_of_ble_eq_true rfl)) d_Stack_unstackPart_45 ⟨by rw [hR]; exact Nat.le_of_ble_eq_true rfl, by rw [hR]; exact Nat.le_of_ble_eq_true rfl⟩) hP hD hS hA [0, 1, 2] [] rfl rfl (by decide +kernel) (by decide +kernel) (fun r_45 u9 H locs hw_45 hP hD hS => ?_)
          obtain ⟨xaskedq_45, rfl⟩ : ∃ z, z = u9 := ⟨_, rfl⟩
          have hP : va_P (dC, dI) vwCl [(co, Sum.inr (4, [Value.long xx, Value.long b19_1, Value.ref soa, Value.ref sna, Value.ref swa, Value.int xkept, Value.ref ri, Value.ref ro, Value.ref rw, Value.int xaskedq_45])), (ri, Sum.inr (0, [Value.int rin, Value.ref ria])), (ria, Sum.inl (cI, rik, Sum.inl rif))] H := hP
          have hD : va_D A [(co, Sum.inr (4, [Value.long xx, Value.long b19_1, Value.ref soa, Value.ref sna, Value.ref swa, Value.int xkept, Value.ref ri, Value.ref ro, Value.ref rw, Value.int xaskedq_45])), (ri, Sum.inr (0, [Value.int rin, Value.ref ria])), (ria, Sum.inl (cI, rik, Sum.inl rif))] := hD
          refine lv_i2l hx hb d_Stack_unstackPart_48 rfl ?_
          refine lv_topl (fun v_9 ev_9 => ?_)
          refine lv_lor hx hb d_Stack_unstackPart_49 ?_
          refine lv_topl (fun v_10 ev_10 => ?_)
          refine va_put (D := (dC, dI)) (ci := 4) (v := .long v_10) (ty := .long) (C := "RangeCoders$Stack") (T := T_Stack) (N := 10) hx hb hg in_Stack t_Stack o_Stack n_Stack hown hK hP hD hS 0 rfl rfl 1 (by decide) (hg _ k215) (fun x9 h9 => u_same (hg _ k216) x9 h9) rfl (by decide +kernel) rfl rfl (Nat.le_of_ble_eq_true rfl) d_Stack_unstackPart_50 (fun H locs hP hD hS => ?_)
          have hP : va_P (dC, dI) vwCl [(co, Sum.inr (4, [Value.long xx, Value.long v_10, Value.ref soa, Value.ref sna, Value.ref swa, Value.int xkept, Value.ref ri, Value.ref ro, Value.ref rw, Value.int xaskedq_45])), (ri, Sum.inr (0, [Value.int rin, Value.ref ria])), (ria, Sum.inl (cI, rik, Sum.inl rif))] H := hP
          have hD : va_D A [(co, Sum.inr (4, [Value.long xx, Value.long v_10, Value.ref soa, Value.ref sna, Value.ref swa, Value.int xkept, Value.ref ri, Value.ref ro, Value.ref rw, Value.int xaskedq_45])), (ri, Sum.inr (0, [Value.int rin, Value.ref ria])), (ria, Sum.inl (cI, rik, Sum.inl rif))] := hD
          obtain ⟨v_11, ev_11⟩ : ∃ y : Int32, y = b19_0 + (1) := ⟨_, rfl⟩
          refine lv_iinc (v := v_11) (lv' := [(3, Value.int v_11), (0, Value.ref co), (1, Value.int pf), (2, Value.int rst)]) hx hb d_Stack_unstackPart_53 hl (k := 0) rfl (by rw [ev_11]; rfl) (by decide) rfl (fun ls hl => ?_)
          refine lv_goto (tgt := 19) hx hb d_Stack_unstackPart_56 (by decide) ?_
          exact ih9_19 _ (by first | omega | (have z9 := I_up c_6 ev_11; omega)) v_11 v_10 xaskedq_45 rfl (by have z9 := I_up c_6 ev_11; omega) H locs ls (hP.sub [0, 1, 2] rfl) (hD.sub [0, 1, 2] (by decide +kernel) rfl) hS (lv_sub hl [0, 1, 2, 3] rfl)
  exact J_19 _ (0 : Int32) v_5 xasked rfl (by first | decide | assumption | omega) H locs ls (hP.sub [0, 1, 2] rfl) (hD.sub [0, 1, 2] (by decide +kernel) rfl) hS (lv_sub hl [0, 1, 2, 3] rfl)
set_option maxHeartbeats 2000000 in
set_option maxRecDepth 100000 in
theorem c_Stack_Stack_nextSign (l : Launch) (dC : Nat → ClassId) (dI : Nat → Nat → Nat) (cI cM cO : ClassId) (sz : Nat) (co : Nat) (xx : Int64) (xreadX : Int64) (soa : Nat) (sna : Nat) (swa : Nat) (xkept : Int32) (ri : Nat) (ro : Nat) (rw : Nat) (xasked : Int32) (rin : Int32) (ria : Nat) (rik : Nat) (rif : Nat → Int32) (oo : Nat) (osg : Int32) (osm : Int32) (ofc : Int32) (oca : Nat) (opa : Nat) (ol : Nat) (ocf : Nat → Int32) (opl : Nat) (opf : Nat → Int32) (hri : rOk rin rik) (hol : ol ≤ 64) (hopl : opl ≤ 512) : MetI l y_Stack_nextSign (Cond.code y_Stack_nextSign prog_10_method_8_code 4 (some .int) :: gw) ({ frames := 4, cells := 0, slots := 0, locals := 86 } : Room) (dC, dI) vwCl (kT cI cM cO) [Value.ref co, Value.ref oo] [(co, Sum.inr (4, [Value.long xx, Value.long xreadX, Value.ref soa, Value.ref sna, Value.ref swa, Value.int xkept, Value.ref ri, Value.ref ro, Value.ref rw, Value.int xasked])), (ri, Sum.inr (0, [Value.int rin, Value.ref ria])), (ria, Sum.inl (cI, rik, Sum.inl rif)), (oo, Sum.inr (7, [Value.int osg, Value.int osm, Value.int ofc, Value.ref oca, Value.ref opa])), (oca, Sum.inl (cI, ol, Sum.inl ocf)), (opa, Sum.inl (cI, opl, Sum.inl opf))] sz (fun (r : Int32) (u : Int64 × Int32) => True) (fun (u : Int64 × Int32) => [(co, Sum.inr (4, [Value.long xx, Value.long u.1, Value.ref soa, Value.ref sna, Value.ref swa, Value.int xkept, Value.ref ri, Value.ref ro, Value.ref rw, Value.int u.2])), (ri, Sum.inr (0, [Value.int rin, Value.ref ria])), (ria, Sum.inl (cI, rik, Sum.inl rif)), (oo, Sum.inr (7, [Value.int osg, Value.int osm, Value.int ofc, Value.ref oca, Value.ref opa])), (oca, Sum.inl (cI, ol, Sum.inl ocf)), (opa, Sum.inl (cI, opl, Sum.inl opf))]) 0 0 := by
  refine my_ofI (cc := prog_10_method_8_code) (n := 4) (ret := (some .int)) (by decide) rfl (Nat.le_of_ble_eq_true rfl) ?_
  intro p e s m args below meth c R Q A ls H locs hx hb hr hts hown hlocks hml hnm hR hQ hA hl hP hK hN hD hS
  have hg : ∀ w ∈ gw, w.before args s = true := fun w h => hts w (List.mem_cons_of_mem _ h)
  have hown : s.vm.findClass "RangeCoders$Stack" = some m.cls := hown
  have hl : lv_has ls 4 [(0, Value.ref co), (1, Value.ref oo)] := hl
  have hlt_hri := rOk_lt hri
  refine lv_aload_n hx hb d_Stack_nextSign_0 rfl (lv_at hl 0 rfl) ?_
  refine va_get (D := (dC, dI)) (ci := 4) (v := .long xreadX) (C := "RangeCoders$Stack") (T := T_Stack) (N := 10) hx hb hg in_Stack hown hK hP 0 rfl rfl 1 (by decide) (hg _ k215) (fun x9 h9 => u_same (hg _ k216) x9 h9) rfl d_Stack_nextSign_1 ?_
  refine lv_ldc2 (v := 4095) hx hb hown (hg _ k833) d_Stack_nextSign_4 ?_
  refine lv_land hx hb d_Stack_nextSign_7 ?_
  refine lv_topl (fun v_1 ev_1 => ?_)
  refine lv_l2i hx hb d_Stack_nextSign_8 rfl ?_
  refine lv_topi (fun v_2 ev_2 => ?_)
  refine lv_istore_n (lv' := [(2, Value.int v_2), (0, Value.ref co), (1, Value.ref oo)]) hx hb d_Stack_nextSign_9 rfl hl (by decide) rfl (fun ls hl => ?_)
  refine lv_aload_n hx hb d_Stack_nextSign_10 rfl (lv_at hl 2 rfl) ?_
  refine lv_iload_n hx hb d_Stack_nextSign_11 rfl (lv_at hl 0 rfl) ?_
  refine my_ci (wr := [(co, Sum.inr (4, [Value.long xx, Value.long xreadX, Value.ref soa, Value.ref sna, Value.ref swa, Value.int xkept, Value.ref ri, Value.ref ro, Value.ref rw, Value.int xasked])), (ri, Sum.inr (0, [Value.int rin, Value.ref ria])), (ria, Sum.inl (cI, rik, Sum.inl rif))]) (va_runV (As := [Value.int v_2]) (rest := []) ⟨hx, hb, hml, hown, hts⟩ (c_Odds_signAt l dC dI cI cM cO H.size oo osg osm ofc oca opa ol ocf opl opf v_2 (by first | assumption | omega) (by first | assumption | omega)) (cwV 1 hts (my_gV k834 k812 k813 k14 k814) rfl rfl rfl (by decide +kernel) ⟨by rw [hR]; exact Nat.le_of_ble_eq_true rfl, by rw [hR]; exact Nat.le_of_ble_eq_true rfl⟩) (my_preV hK hN (hP.sub [3, 4, 5] rfl) (hD.sub [3, 4, 5] (by decide +kernel) rfl) 0 rfl rfl) rfl rfl hl.1 rfl (lv_room (Nat.le_of_ble_eq_true rfl)) d_Stack_nextSign_12 ⟨by rw [hR]; exact Nat.le_of_ble_eq_true rfl, by rw [hR]; exact Nat.le_of_ble_eq_true rfl⟩) hP hD hS hA [3, 4, 5] [0, 1, 2] rfl rfl (by decide +kernel) (by decide +kernel) (fun r_12 u9 H locs hw_12 hP hD hS => ?_)
  have hP : va_P (dC, dI) vwCl [(co, Sum.inr (4, [Value.long xx, Value.long xreadX, Value.ref soa, Value.ref sna, Value.ref swa, Value.int xkept, Value.ref ri, Value.ref ro, Value.ref rw, Value.int xasked])), (ri, Sum.inr (0, [Value.int rin, Value.ref ria])), (ria, Sum.inl (cI, rik, Sum.inl rif)), (oo, Sum.inr (7, [Value.int osg, Value.int osm, Value.int ofc, Value.ref oca, Value.ref opa])), (oca, Sum.inl (cI, ol, Sum.inl ocf)), (opa, Sum.inl (cI, opl, Sum.inl opf))] H := hP
  have hD : va_D A [(co, Sum.inr (4, [Value.long xx, Value.long xreadX, Value.ref soa, Value.ref sna, Value.ref swa, Value.int xkept, Value.ref ri, Value.ref ro, Value.ref rw, Value.int xasked])), (ri, Sum.inr (0, [Value.int rin, Value.ref ria])), (ria, Sum.inl (cI, rik, Sum.inl rif)), (oo, Sum.inr (7, [Value.int osg, Value.int osm, Value.int ofc, Value.ref oca, Value.ref opa])), (oca, Sum.inl (cI, ol, Sum.inl ocf)), (opa, Sum.inl (cI, opl, Sum.inl opf))] := hD
  refine lv_istore_n (lv' := [(3, Value.int r_12), (2, Value.int v_2), (0, Value.ref co), (1, Value.ref oo)]) hx hb d_Stack_nextSign_15 rfl hl (by decide) rfl (fun ls hl => ?_)
  refine lv_iload_n hx hb d_Stack_nextSign_16 rfl (lv_at hl 0 rfl) ?_
  refine lv_iconst (v := (-1)) hx hb d_Stack_nextSign_17 (by decide) ?_
  refine lv_icmp_eq (tgt := 37) hx hb d_Stack_nextSign_18 (by decide) (fun c_3 => ?_) (fun c_3 => ?_)
  · refine lv_iload_n hx hb d_Stack_nextSign_37 rfl (lv_at hl 0 rfl) ?_
    exact my_iret (v := r_12) hx hb hr (rfl) hlocks hQ hK hS (Nat.le_refl _) (Nat.le_refl _) (xreadX, xasked) (trivial) (hP.sub [0, 1, 2, 3, 4, 5] rfl) (hD.sub [0, 1, 2, 3, 4, 5] (by decide +kernel) rfl) d_Stack_nextSign_38
  · refine lv_aload_n hx hb d_Stack_nextSign_21 rfl (lv_at hl 2 rfl) ?_
    refine lv_aload_n hx hb d_Stack_nextSign_22 rfl (lv_at hl 3 rfl) ?_
    refine lv_iload_n hx hb d_Stack_nextSign_23 rfl (lv_at hl 0 rfl) ?_
    refine my_ci (wr := [(co, Sum.inr (4, [Value.long xx, Value.long xreadX, Value.ref soa, Value.ref sna, Value.ref swa, Value.int xkept, Value.ref ri, Value.ref ro, Value.ref rw, Value.int xasked])), (ri, Sum.inr (0, [Value.int rin, Value.ref ria])), (ria, Sum.inl (cI, rik, Sum.inl rif))]) (va_runV (As := [Value.int r_12]) (rest := [Value.ref co]) ⟨hx, hb, hml, hown, hts⟩ (c_Odds_at l dC dI cI cM cO H.size oo osg osm ofc oca opa ol ocf opl opf r_12 (by first | assumption | omega) (by first | assumption | omega)) (cwV 1 hts (my_gV k636 k436 k437 k14 k438) rfl rfl rfl (by decide +kernel) ⟨by rw [hR]; exact Nat.le_of_ble_eq_true rfl, by rw [hR]; exact Nat.le_of_ble_eq_true rfl⟩) (my_preV hK hN (hP.sub [3, 4, 5] rfl) (hD.sub [3, 4, 5] (by decide +kernel) rfl) 0 rfl rfl) rfl rfl hl.1 rfl (lv_room (Nat.le_of_ble_eq_true rfl)) d_Stack_nextSign_24 ⟨by rw [hR]; exact Nat.le_of_ble_eq_true rfl, by rw [hR]; exact Nat.le_of_ble_eq_true rfl⟩) hP hD hS hA [3, 4, 5] [0, 1, 2] rfl rfl (by decide +kernel) (by decide +kernel) (fun r_24 u9 H locs hw_24 hP hD hS => ?_)
    have hP : va_P (dC, dI) vwCl [(co, Sum.inr (4, [Value.long xx, Value.long xreadX, Value.ref soa, Value.ref sna, Value.ref swa, Value.int xkept, Value.ref ri, Value.ref ro, Value.ref rw, Value.int xasked])), (ri, Sum.inr (0, [Value.int rin, Value.ref ria])), (ria, Sum.inl (cI, rik, Sum.inl rif)), (oo, Sum.inr (7, [Value.int osg, Value.int osm, Value.int ofc, Value.ref oca, Value.ref opa])), (oca, Sum.inl (cI, ol, Sum.inl ocf)), (opa, Sum.inl (cI, opl, Sum.inl opf))] H := hP
    have hD : va_D A [(co, Sum.inr (4, [Value.long xx, Value.long xreadX, Value.ref soa, Value.ref sna, Value.ref swa, Value.int xkept, Value.ref ri, Value.ref ro, Value.ref rw, Value.int xasked])), (ri, Sum.inr (0, [Value.int rin, Value.ref ria])), (ria, Sum.inl (cI, rik, Sum.inl rif)), (oo, Sum.inr (7, [Value.int osg, Value.int osm, Value.int ofc, Value.ref oca, Value.ref opa])), (oca, Sum.inl (cI, ol, Sum.inl ocf)), (opa, Sum.inl (cI, opl, Sum.inl opf))] := hD
    refine lv_iload_n hx hb d_Stack_nextSign_27 rfl (lv_at hl 1 rfl) ?_
    refine lv_aload_n hx hb d_Stack_nextSign_28 rfl (lv_at hl 3 rfl) ?_
    refine lv_iload_n hx hb d_Stack_nextSign_29 rfl (lv_at hl 0 rfl) ?_
    refine my_ci (wr := [(co, Sum.inr (4, [Value.long xx, Value.long xreadX, Value.ref soa, Value.ref sna, Value.ref swa, Value.int xkept, Value.ref ri, Value.ref ro, Value.ref rw, Value.int xasked])), (ri, Sum.inr (0, [Value.int rin, Value.ref ria])), (ria, Sum.inl (cI, rik, Sum.inl rif))]) (va_runV (As := [Value.int r_12]) (rest := [Value.int v_2, Value.int r_24, Value.ref co]) ⟨hx, hb, hml, hown, hts⟩ (c_Odds_below l dC dI cI cM cO H.size oo osg osm ofc oca opa ol ocf opl opf r_12 (by first | assumption | omega) (by first | assumption | omega)) (cwV 1 hts (my_gV k637 k495 k496 k14 k497) rfl rfl rfl (by decide +kernel) ⟨by rw [hR]; exact Nat.le_of_ble_eq_true rfl, by rw [hR]; exact Nat.le_of_ble_eq_true rfl⟩) (my_preV hK hN (hP.sub [3, 4, 5] rfl) (hD.sub [3, 4, 5] (by decide +kernel) rfl) 0 rfl rfl) rfl rfl hl.1 rfl (lv_room (Nat.le_of_ble_eq_true rfl)) d_Stack_nextSign_30 ⟨by rw [hR]; exact Nat.le_of_ble_eq_true rfl, by rw [hR]; exact Nat.le_of_ble_eq_true rfl⟩) hP hD hS hA [3, 4, 5] [0, 1, 2] rfl rfl (by decide +kernel) (by decide +kernel) (fun r_30 u9 H locs hw_30 hP hD hS => ?_)
    have hP : va_P (dC, dI) vwCl [(co, Sum.inr (4, [Value.long xx, Value.long xreadX, Value.ref soa, Value.ref sna, Value.ref swa, Value.int xkept, Value.ref ri, Value.ref ro, Value.ref rw, Value.int xasked])), (ri, Sum.inr (0, [Value.int rin, Value.ref ria])), (ria, Sum.inl (cI, rik, Sum.inl rif)), (oo, Sum.inr (7, [Value.int osg, Value.int osm, Value.int ofc, Value.ref oca, Value.ref opa])), (oca, Sum.inl (cI, ol, Sum.inl ocf)), (opa, Sum.inl (cI, opl, Sum.inl opf))] H := hP
    have hD : va_D A [(co, Sum.inr (4, [Value.long xx, Value.long xreadX, Value.ref soa, Value.ref sna, Value.ref swa, Value.int xkept, Value.ref ri, Value.ref ro, Value.ref rw, Value.int xasked])), (ri, Sum.inr (0, [Value.int rin, Value.ref ria])), (ria, Sum.inl (cI, rik, Sum.inl rif)), (oo, Sum.inr (7, [Value.int osg, Value.int osm, Value.int ofc, Value.ref oca, Value.ref opa])), (oca, Sum.inl (cI, ol, Sum.inl ocf)), (opa, Sum.inl (cI, opl, Sum.inl opf))] := hD
    refine lv_isub hx hb d_Stack_nextSign_33 ?_
    refine lv_topi (fun v_4 ev_4 => ?_)
    refine my_cv (wr := [(oo, Sum.inr (7, [Value.int osg, Value.int osm, Value.int ofc, Value.ref oca, Value.ref opa])), (oca, Sum.inl (cI, ol, Sum.inl ocf)), (opa, Sum.inl (cI, opl, Sum.inl opf))]) (va_runV (As := [Value.int r_24, Value.int v_4]) (rest := []) ⟨hx, hb, hml, hown, hts⟩ (c_Stack_Stack_unstackPart l dC dI cI cM cO H.size co xx xreadX soa sna swa xkept ri ro rw xasked rin ria rik rif r_24 v_4 (by first | assumption | omega)) (cwV 2 hts (my_gV k835 k837 ks16 k10 k838) rfl rfl rfl (by decide +kernel) ⟨by rw [hR]; exact Nat.le_of_ble_eq_true rfl, by rw [hR]; exact Nat.le_of_ble_eq_true rfl⟩) (my_preV hK hN (hP.sub [0, 1, 2] rfl) (hD.sub [0, 1, 2] (by decide +kernel) rfl) 0 rfl rfl) rfl rfl hl.1 rfl (lv_room (Nat.le_of_ble_eq_true rfl)) d_Stack_nextSign_34 ⟨by rw [hR]; exact Nat.le_of_ble_eq_true rfl, by rw [hR]; exact Nat.le_of_ble_eq_true rfl⟩) hP hD hS hA [0, 1, 2] [3, 4, 5] rfl rfl (by decide +kernel) (by decide +kernel) (fun u9 H locs hw_34 hP hD hS => ?_)
    obtain ⟨xreadXq_34, xaskedq_34⟩ := u9
    have hP : va_P (dC, dI) vwCl [(oo, Sum.inr (7, [Value.int osg, Value.int osm, Value.int ofc, Value.ref oca, Value.ref opa])), (oca, Sum.inl (cI, ol, Sum.inl ocf)), (opa, Sum.inl (cI, opl, Sum.inl opf)), (co, Sum.inr (4, [Value.long xx, Value.long xreadXq_34, Value.ref soa, Value.ref sna, Value.ref swa, Value.int xkept, Value.ref ri, Value.ref ro, Value.ref rw, Value.int xaskedq_34])), (ri, Sum.inr (0, [Value.int rin, Value.ref ria])), (ria, Sum.inl (cI, rik, Sum.inl rif))] H := hP
    have hD : va_D A [(oo, Sum.inr (7, [Value.int osg, Value.int osm, Value.int ofc, Value.ref oca, Value.ref opa])), (oca, Sum.inl (cI, ol, Sum.inl ocf)), (opa, Sum.inl (cI, opl, Sum.inl opf)), (co, Sum.inr (4, [Value.long xx, Value.long xreadXq_34, Value.ref soa, Value.ref sna, Value.ref swa, Value.int xkept, Value.ref ri, Value.ref ro, Value.ref rw, Value.int xaskedq_34])), (ri, Sum.inr (0, [Value.int rin, Value.ref ria])), (ria, Sum.inl (cI, rik, Sum.inl rif))] := hD
    refine lv_iload_n hx hb d_Stack_nextSign_37 rfl (lv_at hl 0 rfl) ?_
    exact my_iret (v := r_12) hx hb hr (rfl) hlocks hQ hK hS (Nat.le_refl _) (Nat.le_refl _) (xreadXq_34, xaskedq_34) (trivial) (hP.sub [3, 4, 5, 0, 1, 2] rfl) (hD.sub [3, 4, 5, 0, 1, 2] (by decide +kernel) rfl) d_Stack_nextSign_38
set_option maxHeartbeats 2000000 in
set_option maxRecDepth 100000 in
theorem c_Stack_Stack_nextValue (l : Launch) (dC : Nat → ClassId) (dI : Nat → Nat → Nat) (cI cM cO : ClassId) (sz : Nat) (co : Nat) (xx : Int64) (xreadX : Int64) (soa : Nat) (sna : Nat) (swa : Nat) (xkept : Int32) (ri : Nat) (ro : Nat) (rw : Nat) (xasked : Int32) (rin : Int32) (ria : Nat) (rik : Nat) (rif : Nat → Int32) (wd : Int32) (hri : rOk rin rik) : MetI l y_Stack_nextValue (Cond.code y_Stack_nextValue prog_10_method_9_code 4 (some .int) :: gw) ({ frames := 4, cells := 0, slots := 0, locals := 86 } : Room) (dC, dI) vwCl (kT cI cM cO) [Value.ref co, Value.int wd] [(co, Sum.inr (4, [Value.long xx, Value.long xreadX, Value.ref soa, Value.ref sna, Value.ref swa, Value.int xkept, Value.ref ri, Value.ref ro, Value.ref rw, Value.int xasked])), (ri, Sum.inr (0, [Value.int rin, Value.ref ria])), (ria, Sum.inl (cI, rik, Sum.inl rif))] sz (fun (r : Int32) (u : Int64 × Int32) => True) (fun (u : Int64 × Int32) => [(co, Sum.inr (4, [Value.long xx, Value.long u.1, Value.ref soa, Value.ref sna, Value.ref swa, Value.int xkept, Value.ref ri, Value.ref ro, Value.ref rw, Value.int u.2])), (ri, Sum.inr (0, [Value.int rin, Value.ref ria])), (ria, Sum.inl (cI, rik, Sum.inl rif))]) 0 0 := by
  refine my_ofI (cc := prog_10_method_9_code) (n := 4) (ret := (some .int)) (by decide) rfl (Nat.le_of_ble_eq_true rfl) ?_
  intro p e s m args below meth c R Q A ls H locs hx hb hr hts hown hlocks hml hnm hR hQ hA hl hP hK hN hD hS
  have hg : ∀ w ∈ gw, w.before args s = true := fun w h => hts w (List.mem_cons_of_mem _ h)
  have hown : s.vm.findClass "RangeCoders$Stack" = some m.cls := hown
  have hl : lv_has ls 4 [(0, Value.ref co), (1, Value.int wd)] := hl
  have hlt_hri := rOk_lt hri
  refine lv_aload_n hx hb d_Stack_nextValue_0 rfl (lv_at hl 0 rfl) ?_
  refine va_get (D := (dC, dI)) (ci := 4) (v := .long xreadX) (C := "RangeCoders$Stack") (T := T_Stack) (N := 10) hx hb hg in_Stack hown hK hP 0 rfl rfl 1 (by decide) (hg _ k215) (fun x9 h9 => u_same (hg _ k216) x9 h9) rfl d_Stack_nextValue_1 ?_
  refine lv_ldc2 (v := 4095) hx hb hown (hg _ k833) d_Stack_nextValue_4 ?_
  refine lv_land hx hb d_Stack_nextValue_7 ?_
  refine lv_topl (fun v_1 ev_1 => ?_)
  refine lv_l2i hx hb d_Stack_nextValue_8 rfl ?_
  refine lv_topi (fun v_2 ev_2 => ?_)
  refine lv_istore_n (lv' := [(2, Value.int v_2), (0, Value.ref co), (1, Value.int wd)]) hx hb d_Stack_nextValue_9 rfl hl (by decide) rfl (fun ls hl => ?_)
  refine lv_sipush (v := 4096) hx hb d_Stack_nextValue_10 (by decide) ?_
  refine lv_iload_n hx hb d_Stack_nextValue_13 rfl (lv_at hl 2 rfl) ?_
  refine lv_ishr hx hb d_Stack_nextValue_14 ?_
  refine lv_topi (fun v_3 ev_3 => ?_)
  refine lv_istore_n (lv' := [(3, Value.int v_3), (2, Value.int v_2), (0, Value.ref co), (1, Value.int wd)]) hx hb d_Stack_nextValue_15 rfl hl (by decide) rfl (fun ls hl => ?_)
  refine lv_iload_n hx hb d_Stack_nextValue_16 rfl (lv_at hl 0 rfl) ?_
  refine lv_if_gt (tgt := 22) hx hb d_Stack_nextValue_17 (by decide) (fun c_4 => ?_) (fun c_4 => ?_)
  · refine lv_aload_n hx hb d_Stack_nextValue_22 rfl (lv_at hl 2 rfl) ?_
    refine lv_iload_n hx hb d_Stack_nextValue_23 rfl (lv_at hl 0 rfl) ?_
    refine lv_iload_n hx hb d_Stack_nextValue_24 rfl (lv_at hl 1 rfl) ?_
    refine lv_iload_n hx hb d_Stack_nextValue_25 rfl (lv_at hl 0 rfl) ?_
    refine lv_irem hx hb d_Stack_nextValue_26 (by first | decide | exact I_nzp (by assumption) | exact I_nz (by assumption)) ?_
    refine lv_topi (fun v_5 ev_5 => ?_)
    refine my_cv (wr := []) (va_runV (As := [Value.int v_3, Value.int v_5]) (rest := []) ⟨hx, hb, hml, hown, hts⟩ (c_Stack_Stack_unstackPart l dC dI cI cM cO H.size co xx xreadX soa sna swa xkept ri ro rw xasked rin ria rik rif v_3 v_5 (by first | assumption | omega)) (cwV 2 hts (my_gV k835 k837 ks16 k10 k838) rfl rfl rfl (by decide +kernel) ⟨by rw [hR]; exact Nat.le_of_ble_eq_true rfl, by rw [hR]; exact Nat.le_of_ble_eq_true rfl⟩) (my_preV hK hN (hP.sub [0, 1, 2] rfl) (hD.sub [0, 1, 2] (by decide +kernel) rfl) 0 rfl rfl) rfl rfl hl.1 rfl (lv_room (Nat.le_of_ble_eq_true rfl)) d_Stack_nextValue_27 ⟨by rw [hR]; exact Nat.le_of_ble_eq_true rfl, by rw [hR]; exact Nat.le_of_ble_eq_true rfl⟩) hP hD hS hA [0, 1, 2] [] rfl rfl (by decide +kernel) (by decide +kernel) (fun u9 H locs hw_27 hP hD hS => ?_)
    obtain ⟨xreadXq_27, xaskedq_27⟩ := u9
    have hP : va_P (dC, dI) vwCl [(co, Sum.inr (4, [Value.long xx, Value.long xreadXq_27, Value.ref soa, Value.ref sna, Value.ref swa, Value.int xkept, Value.ref ri, Value.ref ro, Value.ref rw, Value.int xaskedq_27])), (ri, Sum.inr (0, [Value.int rin, Value.ref ria])), (ria, Sum.inl (cI, rik, Sum.inl rif))] H := hP
    have hD : va_D A [(co, Sum.inr (4, [Value.long xx, Value.long xreadXq_27, Value.ref soa, Value.ref sna, Value.ref swa, Value.int xkept, Value.ref ri, Value.ref ro, Value.ref rw, Value.int xaskedq_27])), (ri, Sum.inr (0, [Value.int rin, Value.ref ria])), (ria, Sum.inl (cI, rik, Sum.inl rif))] := hD
    refine lv_iload_n hx hb d_Stack_nextValue_30 rfl (lv_at hl 1 rfl) ?_
    refine lv_iload_n hx hb d_Stack_nextValue_31 rfl (lv_at hl 0 rfl) ?_
    refine lv_idiv hx hb d_Stack_nextValue_32 (by first | decide | exact I_nzp (by assumption) | exact I_nz (by assumption)) ?_
    refine lv_topi (fun v_6 ev_6 => ?_)
    exact my_iret (v := v_6) hx hb hr (rfl) hlocks hQ hK hS (Nat.le_refl _) (Nat.le_refl _) (xreadXq_27, xaskedq_27) (trivial) (hP.sub [0, 1, 2] rfl) (hD.sub [0, 1, 2] (by decide +kernel) rfl) d_Stack_nextValue_33
  · refine lv_iconst (v := (-1)) hx hb d_Stack_nextValue_20 (by decide) ?_
    exact my_iret (v := (-1)) hx hb hr (rfl) hlocks hQ hK hS (Nat.le_refl _) (Nat.le_refl _) (xreadX, xasked) (trivial) (hP.sub [0, 1, 2] rfl) (hD.sub [0, 1, 2] (by decide +kernel) rfl) d_Stack_nextValue_21
