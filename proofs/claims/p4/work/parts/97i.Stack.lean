set_option maxHeartbeats 2000000 in
set_option maxRecDepth 100000 in
theorem f_Stack_writeLowest (l : Launch) (dC : Nat → ClassId) (dI : Nat → Nat → Nat) (cI cM cO : ClassId) (sz : Nat) (sl : Nat) (co : Nat) (xreadX : Int64) (soa : Nat) (sna : Nat) (swa : Nat) (xkept : Int32) (ri : Nat) (ro : Nat) (rw : Nat) (xasked : Int32) (XX : Nat) (rwa : Nat) (rwk : Nat) (rwf : Nat → Int32) (bs : List Nat) (hX : XX < 2 ^ 62) (hrw : rOk (nI bs.length) rwk) (hGrw : gIs rwf bs) (hN9 : bs.length ≤ 8000) : MetVg l y_Stack_writeLowest (Cond.code y_Stack_writeLowest prog_10_method_11_code 1 none :: gw) ({ frames := 3, cells := rPh rwk, slots := rPh rwk, locals := 83 } : Room) (dC, dI) vwCl (kT cI cM cO) [Value.ref co] [(co, Sum.inr (4, [Value.long (lN XX), Value.long xreadX, Value.ref soa, Value.ref sna, Value.ref swa, Value.int xkept, Value.ref ri, Value.ref ro, Value.ref rw, Value.int xasked])), (rw, Sum.inr (0, [Value.int (nI bs.length), Value.ref rwa])), (rwa, Sum.inl (cI, rwk, Sum.inl rwf))] sz sl (fun (u : Nat × Nat × (Nat → Int32)) => rOk (nI (bs ++ [XX % 256]).length) u.2.1 ∧ gIs u.2.2 (bs ++ [XX % 256])) (fun (u : Nat × Nat × (Nat → Int32)) => [(co, Sum.inr (4, [Value.long (lN (XX / 256)), Value.long xreadX, Value.ref soa, Value.ref sna, Value.ref swa, Value.int xkept, Value.ref ri, Value.ref ro, Value.ref rw, Value.int xasked])), (rw, Sum.inr (0, [Value.int (nI (bs ++ [XX % 256]).length), Value.ref u.1])), (u.1, Sum.inl (cI, u.2.1, Sum.inl u.2.2))]) (rPh rwk) (fun (u : Nat × Nat × (Nat → Int32)) => rPh u.2.1) := by
  refine my_ofVg (cc := prog_10_method_11_code) (n := 1) (ret := none) (by decide) rfl (Nat.le_of_ble_eq_true rfl) ?_
  intro p e s m args below meth c R Q A ls H locs hx hb hr hts hown hlocks hml hnm hR hQ hA hl hP hK hN hD hS
  have hg : ∀ w ∈ gw, w.before args s = true := fun w h => hts w (List.mem_cons_of_mem _ h)
  have hown : s.vm.findClass "RangeCoders$Stack" = some m.cls := hown
  have hl : lv_has ls 1 [(0, Value.ref co)] := hl
  have hltw := rOk_lt hrw
  refine lv_aload_n hx hb d_Stack_writeLowest_0 rfl (lv_at hl 0 rfl) ?_
  refine va_get (D := (dC, dI)) (ci := 4) (v := .ref rw) (C := "RangeCoders$Stack") (T := T_Stack) (N := 10) hx hb hg in_Stack hown hK hP 0 rfl rfl 8 (by decide) (hg _ k118) (fun x9 h9 => u_same (hg _ k119) x9 h9) rfl d_Stack_writeLowest_1 ?_
  refine lv_aload_n hx hb d_Stack_writeLowest_4 rfl (lv_at hl 0 rfl) ?_
  refine va_get (D := (dC, dI)) (ci := 4) (v := .long (lN XX)) (C := "RangeCoders$Stack") (T := T_Stack) (N := 10) hx hb hg in_Stack hown hK hP 0 rfl rfl 0 (by decide) (hg _ k211) (fun x9 h9 => u_same (hg _ k212) x9 h9) rfl d_Stack_writeLowest_5 ?_
  refine lv_ldc2 (v := 255) hx hb hown (hg _ k623) d_Stack_writeLowest_8 ?_
  refine lv_land hx hb d_Stack_writeLowest_11 ?_
  refine lv_topl (fun v_1 ev_1 => ?_)
  refine lv_l2i hx hb d_Stack_writeLowest_12 rfl ?_
  refine lv_topi (fun v_2 ev_2 => ?_)
  have z9 : v_2 = nI (XX % 256) := by subst_vars; rw [L_and8 (by omega)]; exact lN_i _
  subst z9
  refine my_cvg (wr := [(co, Sum.inr (4, [Value.long (lN XX), Value.long xreadX, Value.ref soa, Value.ref sna, Value.ref swa, Value.int xkept, Value.ref ri, Value.ref ro, Value.ref rw, Value.int xasked]))]) (va_runV (As := [Value.int (nI (XX % 256))]) (rest := []) ⟨hx, hb, hml, hown, hts⟩ (f_Row_add l dC dI cI cM cO H.size (hSl H) rw rwa rwk rwf bs (XX % 256) (hrw) (hGrw) (by omega)) (cwV 1 hts (my_gV k624 k473 k474 k6 k475) rfl rfl rfl (by decide +kernel) ⟨by rw [hR]; exact Nat.le_of_ble_eq_true rfl, by rw [hR]; exact Nat.le_of_ble_eq_true rfl⟩) (my_preVg hK hN (hP.sub [1, 2] rfl) (hD.sub [1, 2] (by decide +kernel) rfl) 0 rfl rfl) rfl rfl hl.1 rfl (lv_room (Nat.le_of_ble_eq_true rfl)) d_Stack_writeLowest_13 ⟨by rw [hR]; exact (show 0 + (rPh rwk) ≤ (rPh rwk) by omega), by rw [hR]; exact (show 0 + (rPh rwk) ≤ (rPh rwk) by omega)⟩) hP hD hS hA [1, 2] [0] rfl rfl (by decide +kernel) (by decide +kernel) (fun u9 d_13 H locs hd_13 hw_13 hP hD hS => ?_)
  obtain ⟨rraq_13, rrkq_13, rrfq_13⟩ := u9
  obtain ⟨hrr_13, hGrr_13⟩ : rOk (nI (bs ++ [(XX % 256)]).length) rrkq_13 ∧ gIs rrfq_13 (bs ++ [(XX % 256)]) := hw_13
  have hd_13 : d_13 + (rPh rrkq_13) ≤ (rPh rwk) := hd_13
  have hP : va_P (dC, dI) vwCl [(co, Sum.inr (4, [Value.long (lN XX), Value.long xreadX, Value.ref soa, Value.ref sna, Value.ref swa, Value.int xkept, Value.ref ri, Value.ref ro, Value.ref rw, Value.int xasked])), (rw, Sum.inr (0, [Value.int (nI (bs ++ [(XX % 256)]).length), Value.ref rraq_13])), (rraq_13, Sum.inl (cI, rrkq_13, Sum.inl rrfq_13))] H := hP
  have hD : va_D A [(co, Sum.inr (4, [Value.long (lN XX), Value.long xreadX, Value.ref soa, Value.ref sna, Value.ref swa, Value.int xkept, Value.ref ri, Value.ref ro, Value.ref rw, Value.int xasked])), (rw, Sum.inr (0, [Value.int (nI (bs ++ [(XX % 256)]).length), Value.ref rraq_13])), (rraq_13, Sum.inl (cI, rrkq_13, Sum.inl rrfq_13))] := hD
  refine lv_aload_n hx hb d_Stack_writeLowest_16 rfl (lv_at hl 0 rfl) ?_
  refine lv_dup hx hb d_Stack_writeLowest_17 rfl ?_
  refine va_get (D := (dC, dI)) (ci := 4) (v := .long (lN XX)) (C := "RangeCoders$Stack") (T := T_Stack) (N := 10) hx hb hg in_Stack hown hK hP 0 rfl rfl 0 (by decide) (hg _ k211) (fun x9 h9 => u_same (hg _ k212) x9 h9) rfl d_Stack_writeLowest_18 ?_
  refine lv_bipush (v := 8) hx hb d_Stack_writeLowest_21 (by decide) ?_
  refine lv_lushr hx hb d_Stack_writeLowest_23 rfl ?_
  refine lv_topl (fun v_3 ev_3 => ?_)
  have z9 : v_3 = lN (XX / 256) := by rw [ev_3]; exact U_shr8 (by omega)
  subst z9
  refine va_put (D := (dC, dI)) (ci := 4) (v := .long (lN (XX / 256))) (ty := .long) (C := "RangeCoders$Stack") (T := T_Stack) (N := 10) hx hb hg in_Stack t_Stack o_Stack n_Stack hown hK hP hD hS 0 rfl rfl 0 (by decide) (hg _ k211) (fun x9 h9 => u_same (hg _ k212) x9 h9) rfl (by decide +kernel) rfl rfl (Nat.le_of_ble_eq_true rfl) d_Stack_writeLowest_24 (fun H locs hP hD hS => ?_)
  have hP : va_P (dC, dI) vwCl [(co, Sum.inr (4, [Value.long (lN (XX / 256)), Value.long xreadX, Value.ref soa, Value.ref sna, Value.ref swa, Value.int xkept, Value.ref ri, Value.ref ro, Value.ref rw, Value.int xasked])), (rw, Sum.inr (0, [Value.int (nI (bs ++ [(XX % 256)]).length), Value.ref rraq_13])), (rraq_13, Sum.inl (cI, rrkq_13, Sum.inl rrfq_13))] H := hP
  have hD : va_D A [(co, Sum.inr (4, [Value.long (lN (XX / 256)), Value.long xreadX, Value.ref soa, Value.ref sna, Value.ref swa, Value.int xkept, Value.ref ri, Value.ref ro, Value.ref rw, Value.int xasked])), (rw, Sum.inr (0, [Value.int (nI (bs ++ [(XX % 256)]).length), Value.ref rraq_13])), (rraq_13, Sum.inl (cI, rrkq_13, Sum.inl rrfq_13))] := hD
  exact my_vretg hx hb hr hlocks hQ hK hS (rraq_13, rrkq_13, rrfq_13) (show (0 + d_13) + (rPh rrkq_13) ≤ (rPh rwk) by omega) (show (0 + d_13) + (rPh rrkq_13) ≤ (rPh rwk) by omega) (⟨hrr_13, hGrr_13⟩) (hP.sub [0, 1, 2] rfl) (hD.sub [0, 1, 2] (by decide +kernel) rfl) d_Stack_writeLowest_27
set_option maxHeartbeats 2000000 in
set_option maxRecDepth 100000 in
theorem f_Stack_stackPart (l : Launch) (dC : Nat → ClassId) (dI : Nat → Nat → Nat) (cI cM cO : ClassId) (sz : Nat) (sl : Nat) (co : Nat) (xreadX : Int64) (soa : Nat) (sna : Nat) (swa : Nat) (xkept : Int32) (ri : Nat) (ro : Nat) (rw : Nat) (xasked : Int32) (XX : Nat) (ff : Nat) (cc : Nat) (rwa : Nat) (rwk : Nat) (rwf : Nat → Int32) (bs : List Nat) (hf0 : 0 < ff) (hf1 : ff ≤ 4096) (hcc : cc ≤ 4096) (hX : XX < 2147483648) (hrw : rOk (nI bs.length) rwk) (hGrw : gIs rwf bs) (hN9 : bs.length + 8 ≤ 7900) : MetVg l y_Stack_stackPart (Cond.code y_Stack_stackPart prog_10_method_10_code 4 none :: gw) ({ frames := 4, cells := rPh rwk, slots := rPh rwk, locals := 103 } : Room) (dC, dI) vwCl (kT cI cM cO) [Value.ref co, Value.int (nI ff), Value.int (nI cc)] [(co, Sum.inr (4, [Value.long (lN XX), Value.long xreadX, Value.ref soa, Value.ref sna, Value.ref swa, Value.int xkept, Value.ref ri, Value.ref ro, Value.ref rw, Value.int xasked])), (rw, Sum.inr (0, [Value.int (nI bs.length), Value.ref rwa])), (rwa, Sum.inl (cI, rwk, Sum.inl rwf))] sz sl (fun (u : Nat × Nat × (Nat → Int32)) => rOk (nI ((s3I ff cc (XX, bs)).2).length) u.2.1 ∧ gIs u.2.2 ((s3I ff cc (XX, bs)).2)) (fun (u : Nat × Nat × (Nat → Int32)) => [(co, Sum.inr (4, [Value.long (lN (s3I ff cc (XX, bs)).1), Value.long xreadX, Value.ref soa, Value.ref sna, Value.ref swa, Value.int xkept, Value.ref ri, Value.ref ro, Value.ref rw, Value.int xasked])), (rw, Sum.inr (0, [Value.int (nI (s3I ff cc (XX, bs)).2.length), Value.ref u.1])), (u.1, Sum.inl (cI, u.2.1, Sum.inl u.2.2))]) (rPh rwk) (fun (u : Nat × Nat × (Nat → Int32)) => rPh u.2.1) := by
  refine my_ofVg (cc := prog_10_method_10_code) (n := 4) (ret := none) (by decide) rfl (Nat.le_of_ble_eq_true rfl) ?_
  intro p e s m args below meth c R Q A ls H locs hx hb hr hts hown hlocks hml hnm hR hQ hA hl hP hK hN hD hS
  have hg : ∀ w ∈ gw, w.before args s = true := fun w h => hts w (List.mem_cons_of_mem _ h)
  have hown : s.vm.findClass "RangeCoders$Stack" = some m.cls := hown
  have hl : lv_has ls 4 [(0, Value.ref co), (1, Value.int (nI ff)), (2, Value.int (nI cc))] := hl
  have hltw := rOk_lt hrw
  refine lv_iload_n hx hb d_Stack_stackPart_0 rfl (lv_at hl 1 rfl) ?_
  refine lv_if_gt (tgt := 5) hx hb d_Stack_stackPart_1 (by decide) (fun c_1 => ?_) (fun c_1 => ?_)
  · refine lv_iconst (v := 0) hx hb d_Stack_stackPart_5 (by decide) ?_
    refine lv_istore_n (lv' := [(3, Value.int 0), (0, Value.ref co), (1, Value.int (nI ff)), (2, Value.int (nI cc))]) hx hb d_Stack_stackPart_6 rfl hl (by decide) rfl (fun ls hl => ?_)
    have J_7 : ∀ (n9_7 : Nat) (e9 : Nat × List Nat) (k9 : Nat) (rwa9 : Nat) (rwk9 : Nat) (rwf9 : Nat → Int32) (d9 : Nat) (hn9_7 : k9 = n9_7) (hE9 : s3N ff 8 (XX, bs) = s3N ff k9 e9) (hk6 : 6 ≤ k9) (hk8 : k9 ≤ 8) (hx9 : e9.1 < xb k9) (hM9 : e9.2.length + k9 ≤ 7900) (hr9 : rOk (nI e9.2.length) rwk9) (hg9 : gIs rwf9 e9.2) (hd9 : d9 + rPh rwk9 ≤ rPh rwk) (H : Heap) (locs : List Loc) (ls : Array Slot), va_P (dC, dI) vwCl [(co, Sum.inr (4, [Value.long (lN e9.1), Value.long xreadX, Value.ref soa, Value.ref sna, Value.ref swa, Value.int xkept, Value.ref ri, Value.ref ro, Value.ref rw, Value.int xasked])), (rw, Sum.inr (0, [Value.int (nI e9.2.length), Value.ref rwa9])), (rwa9, Sum.inl (cI, rwk9, Sum.inl rwf9))] H → va_D A [(co, Sum.inr (4, [Value.long (lN e9.1), Value.long xreadX, Value.ref soa, Value.ref sna, Value.ref swa, Value.int xkept, Value.ref ri, Value.ref ro, Value.ref rw, Value.int xasked])), (rw, Sum.inr (0, [Value.int (nI e9.2.length), Value.ref rwa9])), (rwa9, Sum.inl (cI, rwk9, Sum.inl rwf9))] → va_S A s.heap H locs → lv_has ls 4 [(3, Value.int (nI (8 - k9))), (0, Value.ref co), (1, Value.int (nI ff)), (2, Value.int (nI cc))] → W p l e R s m args below meth c H locs d9 d9 Q (F0 m 7 ls []) := by
      intro n9_7
      induction n9_7 using Nat.strongRecOn with
      | ind n9_7 ih9_7 =>
        intro e9 k9 rwa9 rwk9 rwf9 d9 hn9_7 hE9 hk6 hk8 hx9 hM9 hr9 hg9 hd9 H locs ls hP hD hS hl
        have hxb : xb k9 ≤ 2147483648 := xb_le
        refine lv_iload_n hx hb d_Stack_stackPart_7 rfl (lv_at hl 0 rfl) ?_
        refine lv_bipush (v := 8) hx hb d_Stack_stackPart_8 (by decide) ?_
        refine lv_icmp_ge (tgt := 36) hx hb d_Stack_stackPart_10 (by decide) (fun c_2 => ?_) (fun c_2 => ?_)
        · exact absurd (nI_ge' (n := 8) (by omega) (by decide) c_2) (by omega)
        · refine lv_aload_n hx hb d_Stack_stackPart_13 rfl (lv_at hl 1 rfl) ?_
          refine va_get (D := (dC, dI)) (ci := 4) (v := .long (lN e9.1)) (C := "RangeCoders$Stack") (T := T_Stack) (N := 10) hx hb hg in_Stack hown hK hP 0 rfl rfl 0 (by decide) (hg _ k211) (fun x9 h9 => u_same (hg _ k212) x9 h9) rfl d_Stack_stackPart_14 ?_
          refine lv_iload_n hx hb d_Stack_stackPart_17 rfl (lv_at hl 2 rfl) ?_
          refine lv_i2l hx hb d_Stack_stackPart_18 rfl ?_
          refine lv_topl (fun v_3 ev_3 => ?_)
          refine lv_bipush (v := 19) hx hb d_Stack_stackPart_19 (by decide) ?_
          refine lv_lshl hx hb d_Stack_stackPart_21 rfl ?_
          refine lv_topl (fun v_4 ev_4 => ?_)
          have z9 : v_4 = lN (ff * 524288) := by subst_vars; rw [nI_l (by omega)]; exact L_shl19 _
          subst z9
          refine W.lcmp hx hb d_Stack_stackPart_22 ?_
          refine lv_if_lt (tgt := 36) hx hb d_Stack_stackPart_23 (by decide) (fun c_5 => ?_) (fun c_5 => ?_)
          · rw [lg_cmp_lt] at c_5
            have hlt : ¬ ff * 524288 ≤ e9.1 := by have q := (L_lt (by omega) (by omega)).mp c_5; omega
            have hx8 : s3N ff 8 (XX, bs) = e9 := by rw [hE9, s3N_e hlt]
            refine lv_aload_n hx hb d_Stack_stackPart_36 rfl (lv_at hl 1 rfl) ?_
            refine lv_ldc2 (v := 4096) hx hb hown (hg _ k625) d_Stack_stackPart_37 ?_
            refine lv_aload_n hx hb d_Stack_stackPart_40 rfl (lv_at hl 1 rfl) ?_
            refine va_get (D := (dC, dI)) (ci := 4) (v := .long (lN e9.1)) (C := "RangeCoders$Stack") (T := T_Stack) (N := 10) hx hb hg in_Stack hown hK hP 0 rfl rfl 0 (by decide) (hg _ k211) (fun x9 h9 => u_same (hg _ k212) x9 h9) rfl d_Stack_stackPart_41 ?_
            refine lv_iload_n hx hb d_Stack_stackPart_44 rfl (lv_at hl 2 rfl) ?_
            refine lv_i2l hx hb d_Stack_stackPart_45 rfl ?_
            refine lv_topl (fun v_6 ev_6 => ?_)
            refine lv_ldiv hx hb d_Stack_stackPart_46 (by rw [ev_6]; rw [nI_l (by omega)]; intro z; have := (pk_lEQ (b := 0) (by omega) (by decide)).mp z; omega) ?_
            refine lv_topl (fun v_7 ev_7 => ?_)
            refine lv_lmul hx hb d_Stack_stackPart_47 ?_
            refine lv_topl (fun v_8 ev_8 => ?_)
            refine lv_aload_n hx hb d_Stack_stackPart_48 rfl (lv_at hl 1 rfl) ?_
            refine va_get (D := (dC, dI)) (ci := 4) (v := .long (lN e9.1)) (C := "RangeCoders$Stack") (T := T_Stack) (N := 10) hx hb hg in_Stack hown hK hP 0 rfl rfl 0 (by decide) (hg _ k211) (fun x9 h9 => u_same (hg _ k212) x9 h9) rfl d_Stack_stackPart_49 ?_
            refine lv_iload_n hx hb d_Stack_stackPart_52 rfl (lv_at hl 2 rfl) ?_
            refine lv_i2l hx hb d_Stack_stackPart_53 rfl ?_
            refine lv_topl (fun v_9 ev_9 => ?_)
            refine lv_lrem hx hb d_Stack_stackPart_54 (by rw [ev_9]; rw [nI_l (by omega)]; intro z; have := (pk_lEQ (b := 0) (by omega) (by decide)).mp z; omega) ?_
            refine lv_topl (fun v_10 ev_10 => ?_)
            refine lv_ladd hx hb d_Stack_stackPart_55 ?_
            refine lv_topl (fun v_11 ev_11 => ?_)
            refine lv_iload_n hx hb d_Stack_stackPart_56 rfl (lv_at hl 3 rfl) ?_
            refine lv_i2l hx hb d_Stack_stackPart_57 rfl ?_
            refine lv_topl (fun v_12 ev_12 => ?_)
            refine lv_ladd hx hb d_Stack_stackPart_58 ?_
            refine lv_topl (fun v_13 ev_13 => ?_)
            have z9 : v_13 = lN (s3I ff cc (XX, bs)).1 := by unfold s3I; rw [hx8]; subst_vars; rw [nI_l (by omega), nI_l (by omega), pk_lRem (by omega) hf0 (by omega), pk_lDiv (by omega) hf0 (by omega), show (4096 : Int64) = lN 4096 from rfl, lN_mul, lN_add, lN_add, Nat.mul_comm 4096]
            subst z9
            have hsu : (nI e9.2.length : Int32) = nI (s3I ff cc (XX, bs)).2.length := by unfold s3I; rw [hx8]
            rw [hsu] at hP hD
            have hP : va_P (dC, dI) vwCl [(co, Sum.inr (4, [Value.long (lN e9.1), Value.long xreadX, Value.ref soa, Value.ref sna, Value.ref swa, Value.int xkept, Value.ref ri, Value.ref ro, Value.ref rw, Value.int xasked])), (rw, Sum.inr (0, [Value.int (nI (s3I ff cc (XX, bs)).2.length), Value.ref rwa9])), (rwa9, Sum.inl (cI, rwk9, Sum.inl rwf9))] H := hP
            have hD : va_D A [(co, Sum.inr (4, [Value.long (lN e9.1), Value.long xreadX, Value.ref soa, Value.ref sna, Value.ref swa, Value.int xkept, Value.ref ri, Value.ref ro, Value.ref rw, Value.int xasked])), (rw, Sum.inr (0, [Value.int (nI (s3I ff cc (XX, bs)).2.length), Value.ref rwa9])), (rwa9, Sum.inl (cI, rwk9, Sum.inl rwf9))] := hD
            refine va_put (D := (dC, dI)) (ci := 4) (v := .long (lN (s3I ff cc (XX, bs)).1)) (ty := .long) (C := "RangeCoders$Stack") (T := T_Stack) (N := 10) hx hb hg in_Stack t_Stack o_Stack n_Stack hown hK hP hD hS 0 rfl rfl 0 (by decide) (hg _ k211) (fun x9 h9 => u_same (hg _ k212) x9 h9) rfl (by decide +kernel) rfl rfl (Nat.le_of_ble_eq_true rfl) d_Stack_stackPart_59 (fun H locs hP hD hS => ?_)
            have hP : va_P (dC, dI) vwCl [(co, Sum.inr (4, [Value.long (lN (s3I ff cc (XX, bs)).1), Value.long xreadX, Value.ref soa, Value.ref sna, Value.ref swa, Value.int xkept, Value.ref ri, Value.ref ro, Value.ref rw, Value.int xasked])), (rw, Sum.inr (0, [Value.int (nI (s3I ff cc (XX, bs)).2.length), Value.ref rwa9])), (rwa9, Sum.inl (cI, rwk9, Sum.inl rwf9))] H := hP
            have hD : va_D A [(co, Sum.inr (4, [Value.long (lN (s3I ff cc (XX, bs)).1), Value.long xreadX, Value.ref soa, Value.ref sna, Value.ref swa, Value.int xkept, Value.ref ri, Value.ref ro, Value.ref rw, Value.int xasked])), (rw, Sum.inr (0, [Value.int (nI (s3I ff cc (XX, bs)).2.length), Value.ref rwa9])), (rwa9, Sum.inl (cI, rwk9, Sum.inl rwf9))] := hD
            exact my_vretg hx hb hr hlocks hQ hK hS (rwa9, rwk9, rwf9) (show d9 + (rPh rwk9) ≤ (rPh rwk) by omega) (show d9 + (rPh rwk9) ≤ (rPh rwk) by omega) (⟨by unfold s3I; rw [hx8]; exact hr9, by unfold s3I; rw [hx8]; exact hg9⟩) (hP.sub [0, 1, 2] rfl) (hD.sub [0, 1, 2] (by decide +kernel) rfl) d_Stack_stackPart_62
          · rw [lg_cmp_lt] at c_5
            have hge : ff * 524288 ≤ e9.1 := by
              rcases Nat.lt_or_ge e9.1 (ff * 524288) with q | q
              · exact absurd ((L_lt (by omega) (by omega)).mpr q) c_5
              · exact q
            have hk7 := xb_k hk6 hk8 hf0 hx9 hge
            refine lv_aload_n hx hb d_Stack_stackPart_26 rfl (lv_at hl 1 rfl) ?_
            refine my_cvg (wr := []) (va_runV (As := []) (rest := []) ⟨hx, hb, hml, hown, hts⟩ (f_Stack_writeLowest l dC dI cI cM cO H.size (hSl H) co xreadX soa sna swa xkept ri ro rw xasked e9.1 rwa9 rwk9 rwf9 e9.2 (by omega) (hr9) (hg9) (by omega)) (cwV 0 hts (my_gV k619 k621 ks10 k10 k622) rfl rfl rfl (by decide +kernel) ⟨by rw [hR]; exact Nat.le_of_ble_eq_true rfl, by rw [hR]; exact Nat.le_of_ble_eq_true rfl⟩) (my_preVg hK hN (hP.sub [0, 1, 2] rfl) (hD.sub [0, 1, 2] (by decide +kernel) rfl) 0 rfl rfl) rfl rfl hl.1 rfl (lv_room (Nat.le_of_ble_eq_true rfl)) d_Stack_stackPart_27 ⟨by rw [hR]; exact (show d9 + (rPh rwk9) ≤ (rPh rwk) by omega), by rw [hR]; exact (show d9 + (rPh rwk9) ≤ (rPh rwk) by omega)⟩) hP hD hS hA [0, 1, 2] [] rfl rfl (by decide +kernel) (by decide +kernel) (fun u9 d_27 H locs hd_27 hw_27 hP hD hS => ?_)
            obtain ⟨rwaq_27, rwkq_27, rwfq_27⟩ := u9
            obtain ⟨hrw_27, hGrw_27⟩ : rOk (nI (e9.2 ++ [e9.1 % 256]).length) rwkq_27 ∧ gIs rwfq_27 (e9.2 ++ [e9.1 % 256]) := hw_27
            have hd_27 : d_27 + (rPh rwkq_27) ≤ (rPh rwk9) := hd_27
            have hP : va_P (dC, dI) vwCl [(co, Sum.inr (4, [Value.long (lN (e9.1 / 256)), Value.long xreadX, Value.ref soa, Value.ref sna, Value.ref swa, Value.int xkept, Value.ref ri, Value.ref ro, Value.ref rw, Value.int xasked])), (rw, Sum.inr (0, [Value.int (nI (e9.2 ++ [e9.1 % 256]).length), Value.ref rwaq_27])), (rwaq_27, Sum.inl (cI, rwkq_27, Sum.inl rwfq_27))] H := hP
            have hD : va_D A [(co, Sum.inr (4, [Value.long (lN (e9.1 / 256)), Value.long xreadX, Value.ref soa, Value.ref sna, Value.ref swa, Value.int xkept, Value.ref ri, Value.ref ro, Value.ref rw, Value.int xasked])), (rw, Sum.inr (0, [Value.int (nI (e9.2 ++ [e9.1 % 256]).length), Value.ref rwaq_27])), (rwaq_27, Sum.inl (cI, rwkq_27, Sum.inl rwfq_27))] := hD
            obtain ⟨v_14, ev_14⟩ : ∃ y : Int32, y = (nI (8 - k9)) + (1) := ⟨_, rfl⟩
            refine lv_iinc (v := v_14) (lv' := [(3, Value.int v_14), (0, Value.ref co), (1, Value.int (nI ff)), (2, Value.int (nI cc))]) hx hb d_Stack_stackPart_30 hl (k := 0) rfl (by rw [ev_14]; rfl) (by decide) rfl (fun ls hl => ?_)
            have z9 : v_14 = nI (8 - (k9 - 1)) := by rw [ev_14, show 8 - (k9 - 1) = 8 - k9 + 1 by omega]; exact nI_1 _
            subst z9
            refine lv_goto (tgt := 7) hx hb d_Stack_stackPart_33 (by decide) ?_
            exact ih9_7 _ (by first | omega | (omega)) (e9.1 / 256, e9.2 ++ [e9.1 % 256]) (k9 - 1) rwaq_27 rwkq_27 rwfq_27 (d9 + d_27) rfl (by rw [hE9, s3N_s (by omega) hge]) (by omega) (by omega) (xb_s hk7 hk8 hx9) (by show (e9.2 ++ [_]).length + (k9 - 1) ≤ _; rw [List.length_append, List.length_singleton]; omega) (hrw_27) (hGrw_27) (by omega) H locs ls (hP.sub [0, 1, 2] rfl) (hD.sub [0, 1, 2] (by decide +kernel) rfl) hS (lv_sub hl [0, 1, 2, 3] rfl)
    exact J_7 _ (XX, bs) (8 : Nat) rwa rwk rwf (0 : Nat) rfl (rfl) (by decide) (by decide) (hX) (by show bs.length + 8 ≤ _; omega) (hrw) (hGrw) (by omega) H locs ls (hP.sub [0, 1, 2] rfl) (hD.sub [0, 1, 2] (by decide +kernel) rfl) hS (lv_sub hl [0, 1, 2, 3] rfl)
  · exact absurd (nI_pos0 hf0 (by omega)) c_1
set_option maxHeartbeats 2000000 in
set_option maxRecDepth 100000 in
theorem f_Stack_stackSign (l : Launch) (dC : Nat → ClassId) (dI : Nat → Nat → Nat) (cI cM cO : ClassId) (sz : Nat) (sl : Nat) (co : Nat) (xreadX : Int64) (soa : Nat) (sna : Nat) (swa : Nat) (xkept : Int32) (ri : Nat) (ro : Nat) (rw : Nat) (xasked : Int32) (XX : Nat) (rwa : Nat) (rwk : Nat) (rwf : Nat → Int32) (bs : List Nat) (oo : Nat) (osg : Int32) (ofc : Int32) (oca : Nat) (opa : Nat) (n : Nat) (ocf : Nat → Int32) (opl : Nat) (opf : Nat → Int32) (F : Nat → Nat) (osm : Int32) (t : Nat) (hn : n ≤ 64) (hpl : opl ≤ 512) (hf : tbI ocf n F) (ht : t < n) (hfc : ofc ≤ nI t) (hFt : 0 < F t) (hsum : ns F n ≤ 4096) (hX : XX < 2147483648) (hrw : rOk (nI bs.length) rwk) (hGrw : gIs rwf bs) (hN9 : bs.length + 8 ≤ 7900) : MetVg l y_Stack_stackSign (Cond.code y_Stack_stackSign prog_10_method_4_code 3 none :: gw) ({ frames := 5, cells := rPh rwk, slots := rPh rwk, locals := 126 } : Room) (dC, dI) vwCl (kT cI cM cO) [Value.ref co, Value.ref oo, Value.int (nI t)] [(co, Sum.inr (4, [Value.long (lN XX), Value.long xreadX, Value.ref soa, Value.ref sna, Value.ref swa, Value.int xkept, Value.ref ri, Value.ref ro, Value.ref rw, Value.int xasked])), (rw, Sum.inr (0, [Value.int (nI bs.length), Value.ref rwa])), (rwa, Sum.inl (cI, rwk, Sum.inl rwf)), (oo, Sum.inr (7, [Value.int osg, Value.int osm, Value.int ofc, Value.ref oca, Value.ref opa])), (oca, Sum.inl (cI, n, Sum.inl ocf)), (opa, Sum.inl (cI, opl, Sum.inl opf))] sz sl (fun (u : Nat × Nat × (Nat → Int32)) => rOk (nI ((s3I (F t) (ns F t) (XX, bs)).2).length) u.2.1 ∧ gIs u.2.2 ((s3I (F t) (ns F t) (XX, bs)).2)) (fun (u : Nat × Nat × (Nat → Int32)) => [(co, Sum.inr (4, [Value.long (lN (s3I (F t) (ns F t) (XX, bs)).1), Value.long xreadX, Value.ref soa, Value.ref sna, Value.ref swa, Value.int xkept, Value.ref ri, Value.ref ro, Value.ref rw, Value.int xasked])), (rw, Sum.inr (0, [Value.int (nI (s3I (F t) (ns F t) (XX, bs)).2.length), Value.ref u.1])), (u.1, Sum.inl (cI, u.2.1, Sum.inl u.2.2)), (oo, Sum.inr (7, [Value.int osg, Value.int osm, Value.int ofc, Value.ref oca, Value.ref opa])), (oca, Sum.inl (cI, n, Sum.inl ocf)), (opa, Sum.inl (cI, opl, Sum.inl opf))]) (rPh rwk) (fun (u : Nat × Nat × (Nat → Int32)) => rPh u.2.1) := by
  refine my_ofVg (cc := prog_10_method_4_code) (n := 3) (ret := none) (by decide) rfl (Nat.le_of_ble_eq_true rfl) ?_
  intro p e s m args below meth c R Q A ls H locs hx hb hr hts hown hlocks hml hnm hR hQ hA hl hP hK hN hD hS
  have hg : ∀ w ∈ gw, w.before args s = true := fun w h => hts w (List.mem_cons_of_mem _ h)
  have hown : s.vm.findClass "RangeCoders$Stack" = some m.cls := hown
  have hl : lv_has ls 3 [(0, Value.ref co), (1, Value.ref oo), (2, Value.int (nI t))] := hl
  have hltw := rOk_lt hrw
  have hm1 := ns_m1 F ht
  refine lv_aload_n hx hb d_Stack_stackSign_0 rfl (lv_at hl 0 rfl) ?_
  refine lv_aload_n hx hb d_Stack_stackSign_1 rfl (lv_at hl 1 rfl) ?_
  refine lv_iload_n hx hb d_Stack_stackSign_2 rfl (lv_at hl 2 rfl) ?_
  refine my_ci (wr := [(co, Sum.inr (4, [Value.long (lN XX), Value.long xreadX, Value.ref soa, Value.ref sna, Value.ref swa, Value.int xkept, Value.ref ri, Value.ref ro, Value.ref rw, Value.int xasked])), (rw, Sum.inr (0, [Value.int (nI bs.length), Value.ref rwa])), (rwa, Sum.inl (cI, rwk, Sum.inl rwf))]) (va_runV (As := [Value.int (nI t)]) (rest := [Value.ref co]) ⟨hx, hb, hml, hown, hts⟩ (f_Odds_at l dC dI cI cM cO H.size oo osg ofc oca opa n ocf opl opf osm t (by first | assumption | omega) (by first | assumption | omega) (by first | assumption | omega) (by first | assumption | omega)) (cwV 1 hts (my_gV k636 k436 k437 k14 k438) rfl rfl rfl (by decide +kernel) ⟨by rw [hR]; exact Nat.le_of_ble_eq_true rfl, by rw [hR]; exact Nat.le_of_ble_eq_true rfl⟩) (my_preV hK hN (hP.sub [3, 4, 5] rfl) (hD.sub [3, 4, 5] (by decide +kernel) rfl) 0 rfl rfl) rfl rfl hl.1 rfl (lv_room (Nat.le_of_ble_eq_true rfl)) d_Stack_stackSign_3 ⟨by rw [hR]; exact (show 0 + 0 ≤ (rPh rwk) by omega), by rw [hR]; exact (show 0 + 0 ≤ (rPh rwk) by omega)⟩) hP hD hS hA [3, 4, 5] [0, 1, 2] rfl rfl (by decide +kernel) (by decide +kernel) (fun r_3 u9 H locs hw_3 hP hD hS => ?_)
  have hr_3 : r_3 = ocf t := hw_3
  have hP : va_P (dC, dI) vwCl [(co, Sum.inr (4, [Value.long (lN XX), Value.long xreadX, Value.ref soa, Value.ref sna, Value.ref swa, Value.int xkept, Value.ref ri, Value.ref ro, Value.ref rw, Value.int xasked])), (rw, Sum.inr (0, [Value.int (nI bs.length), Value.ref rwa])), (rwa, Sum.inl (cI, rwk, Sum.inl rwf)), (oo, Sum.inr (7, [Value.int osg, Value.int osm, Value.int ofc, Value.ref oca, Value.ref opa])), (oca, Sum.inl (cI, n, Sum.inl ocf)), (opa, Sum.inl (cI, opl, Sum.inl opf))] H := hP
  have hD : va_D A [(co, Sum.inr (4, [Value.long (lN XX), Value.long xreadX, Value.ref soa, Value.ref sna, Value.ref swa, Value.int xkept, Value.ref ri, Value.ref ro, Value.ref rw, Value.int xasked])), (rw, Sum.inr (0, [Value.int (nI bs.length), Value.ref rwa])), (rwa, Sum.inl (cI, rwk, Sum.inl rwf)), (oo, Sum.inr (7, [Value.int osg, Value.int osm, Value.int ofc, Value.ref oca, Value.ref opa])), (oca, Sum.inl (cI, n, Sum.inl ocf)), (opa, Sum.inl (cI, opl, Sum.inl opf))] := hD
  rw [hf t ht] at hr_3
  have z9 : r_3 = nI (F t) := hr_3
  subst z9
  refine lv_aload_n hx hb d_Stack_stackSign_6 rfl (lv_at hl 1 rfl) ?_
  refine lv_iload_n hx hb d_Stack_stackSign_7 rfl (lv_at hl 2 rfl) ?_
  refine my_ci (wr := [(co, Sum.inr (4, [Value.long (lN XX), Value.long xreadX, Value.ref soa, Value.ref sna, Value.ref swa, Value.int xkept, Value.ref ri, Value.ref ro, Value.ref rw, Value.int xasked])), (rw, Sum.inr (0, [Value.int (nI bs.length), Value.ref rwa])), (rwa, Sum.inl (cI, rwk, Sum.inl rwf))]) (va_runV (As := [Value.int (nI t)]) (rest := [Value.int (nI (F t)), Value.ref co]) ⟨hx, hb, hml, hown, hts⟩ (f_Odds_below l dC dI cI cM cO H.size oo osg ofc oca opa n ocf opl opf F osm t (by first | assumption | omega) (by first | assumption | omega) (by first | assumption | omega) (by omega)) (cwV 1 hts (my_gV k637 k495 k496 k14 k497) rfl rfl rfl (by decide +kernel) ⟨by rw [hR]; exact Nat.le_of_ble_eq_true rfl, by rw [hR]; exact Nat.le_of_ble_eq_true rfl⟩) (my_preV hK hN (hP.sub [3, 4, 5] rfl) (hD.sub [3, 4, 5] (by decide +kernel) rfl) 0 rfl rfl) rfl rfl hl.1 rfl (lv_room (Nat.le_of_ble_eq_true rfl)) d_Stack_stackSign_8 ⟨by rw [hR]; exact (show 0 + 0 ≤ (rPh rwk) by omega), by rw [hR]; exact (show 0 + 0 ≤ (rPh rwk) by omega)⟩) hP hD hS hA [3, 4, 5] [0, 1, 2] rfl rfl (by decide +kernel) (by decide +kernel) (fun r_8 u9 H locs hw_8 hP hD hS => ?_)
  have hr_8 : r_8 = nI (ns F t) := hw_8
  have hP : va_P (dC, dI) vwCl [(co, Sum.inr (4, [Value.long (lN XX), Value.long xreadX, Value.ref soa, Value.ref sna, Value.ref swa, Value.int xkept, Value.ref ri, Value.ref ro, Value.ref rw, Value.int xasked])), (rw, Sum.inr (0, [Value.int (nI bs.length), Value.ref rwa])), (rwa, Sum.inl (cI, rwk, Sum.inl rwf)), (oo, Sum.inr (7, [Value.int osg, Value.int osm, Value.int ofc, Value.ref oca, Value.ref opa])), (oca, Sum.inl (cI, n, Sum.inl ocf)), (opa, Sum.inl (cI, opl, Sum.inl opf))] H := hP
  have hD : va_D A [(co, Sum.inr (4, [Value.long (lN XX), Value.long xreadX, Value.ref soa, Value.ref sna, Value.ref swa, Value.int xkept, Value.ref ri, Value.ref ro, Value.ref rw, Value.int xasked])), (rw, Sum.inr (0, [Value.int (nI bs.length), Value.ref rwa])), (rwa, Sum.inl (cI, rwk, Sum.inl rwf)), (oo, Sum.inr (7, [Value.int osg, Value.int osm, Value.int ofc, Value.ref oca, Value.ref opa])), (oca, Sum.inl (cI, n, Sum.inl ocf)), (opa, Sum.inl (cI, opl, Sum.inl opf))] := hD
  have z9 : r_8 = nI (ns F t) := hr_8
  subst z9
  refine my_cvg (wr := [(oo, Sum.inr (7, [Value.int osg, Value.int osm, Value.int ofc, Value.ref oca, Value.ref opa])), (oca, Sum.inl (cI, n, Sum.inl ocf)), (opa, Sum.inl (cI, opl, Sum.inl opf))]) (va_runV (As := [Value.int (nI (F t)), Value.int (nI (ns F t))]) (rest := []) ⟨hx, hb, hml, hown, hts⟩ (f_Stack_stackPart l dC dI cI cM cO H.size (hSl H) co xreadX soa sna swa xkept ri ro rw xasked XX (F t) (ns F t) rwa rwk rwf bs (hFt) (by omega) (by omega) (by first | assumption | omega) (by first | assumption | omega) (by first | assumption | omega) (by first | assumption | omega)) (cwV 2 hts (my_gV k615 k617 ks9 k10 k618) rfl rfl rfl (by decide +kernel) ⟨by rw [hR]; exact Nat.le_of_ble_eq_true rfl, by rw [hR]; exact Nat.le_of_ble_eq_true rfl⟩) (my_preVg hK hN (hP.sub [0, 1, 2] rfl) (hD.sub [0, 1, 2] (by decide +kernel) rfl) 0 rfl rfl) rfl rfl hl.1 rfl (lv_room (Nat.le_of_ble_eq_true rfl)) d_Stack_stackSign_11 ⟨by rw [hR]; exact (show 0 + (rPh rwk) ≤ (rPh rwk) by omega), by rw [hR]; exact (show 0 + (rPh rwk) ≤ (rPh rwk) by omega)⟩) hP hD hS hA [0, 1, 2] [3, 4, 5] rfl rfl (by decide +kernel) (by decide +kernel) (fun u9 d_11 H locs hd_11 hw_11 hP hD hS => ?_)
  obtain ⟨rwaq_11, rwkq_11, rwfq_11⟩ := u9
  obtain ⟨hrw_11, hGrw_11⟩ : rOk (nI ((s3I (F t) (ns F t) (XX, bs)).2).length) rwkq_11 ∧ gIs rwfq_11 ((s3I (F t) (ns F t) (XX, bs)).2) := hw_11
  have hd_11 : d_11 + (rPh rwkq_11) ≤ (rPh rwk) := hd_11
  have hP : va_P (dC, dI) vwCl [(oo, Sum.inr (7, [Value.int osg, Value.int osm, Value.int ofc, Value.ref oca, Value.ref opa])), (oca, Sum.inl (cI, n, Sum.inl ocf)), (opa, Sum.inl (cI, opl, Sum.inl opf)), (co, Sum.inr (4, [Value.long (lN (s3I (F t) (ns F t) (XX, bs)).1), Value.long xreadX, Value.ref soa, Value.ref sna, Value.ref swa, Value.int xkept, Value.ref ri, Value.ref ro, Value.ref rw, Value.int xasked])), (rw, Sum.inr (0, [Value.int (nI (s3I (F t) (ns F t) (XX, bs)).2.length), Value.ref rwaq_11])), (rwaq_11, Sum.inl (cI, rwkq_11, Sum.inl rwfq_11))] H := hP
  have hD : va_D A [(oo, Sum.inr (7, [Value.int osg, Value.int osm, Value.int ofc, Value.ref oca, Value.ref opa])), (oca, Sum.inl (cI, n, Sum.inl ocf)), (opa, Sum.inl (cI, opl, Sum.inl opf)), (co, Sum.inr (4, [Value.long (lN (s3I (F t) (ns F t) (XX, bs)).1), Value.long xreadX, Value.ref soa, Value.ref sna, Value.ref swa, Value.int xkept, Value.ref ri, Value.ref ro, Value.ref rw, Value.int xasked])), (rw, Sum.inr (0, [Value.int (nI (s3I (F t) (ns F t) (XX, bs)).2.length), Value.ref rwaq_11])), (rwaq_11, Sum.inl (cI, rwkq_11, Sum.inl rwfq_11))] := hD
  exact my_vretg hx hb hr hlocks hQ hK hS (rwaq_11, rwkq_11, rwfq_11) (show (0 + d_11) + (rPh rwkq_11) ≤ (rPh rwk) by omega) (show (0 + d_11) + (rPh rwkq_11) ≤ (rPh rwk) by omega) (⟨hrw_11, hGrw_11⟩) (hP.sub [3, 4, 5, 0, 1, 2] rfl) (hD.sub [3, 4, 5, 0, 1, 2] (by decide +kernel) rfl) d_Stack_stackSign_14
set_option maxHeartbeats 2000000 in
set_option maxRecDepth 100000 in
theorem f_Stack_stackValue (l : Launch) (dC : Nat → ClassId) (dI : Nat → Nat → Nat) (cI cM cO : ClassId) (sz : Nat) (sl : Nat) (co : Nat) (xreadX : Int64) (soa : Nat) (sna : Nat) (swa : Nat) (xkept : Int32) (ri : Nat) (ro : Nat) (rw : Nat) (xasked : Int32) (XX : Nat) (rwa : Nat) (rwk : Nat) (rwf : Nat → Int32) (bs : List Nat) (v : Nat) (b : Nat) (hb1 : 1 ≤ b) (hb2 : b ≤ 12) (hv : v < 2 ^ b) (hX : XX < 2147483648) (hrw : rOk (nI bs.length) rwk) (hGrw : gIs rwf bs) (hN9 : bs.length + 8 ≤ 7900) : MetVg l y_Stack_stackValue (Cond.code y_Stack_stackValue prog_10_method_5_code 4 none :: gw) ({ frames := 5, cells := rPh rwk, slots := rPh rwk, locals := 126 } : Room) (dC, dI) vwCl (kT cI cM cO) [Value.ref co, Value.int (nI v), Value.int (nI b)] [(co, Sum.inr (4, [Value.long (lN XX), Value.long xreadX, Value.ref soa, Value.ref sna, Value.ref swa, Value.int xkept, Value.ref ri, Value.ref ro, Value.ref rw, Value.int xasked])), (rw, Sum.inr (0, [Value.int (nI bs.length), Value.ref rwa])), (rwa, Sum.inl (cI, rwk, Sum.inl rwf))] sz sl (fun (u : Nat × Nat × (Nat → Int32)) => rOk (nI ((s3I (4096 / 2 ^ b) (4096 / 2 ^ b * v) (XX, bs)).2).length) u.2.1 ∧ gIs u.2.2 ((s3I (4096 / 2 ^ b) (4096 / 2 ^ b * v) (XX, bs)).2)) (fun (u : Nat × Nat × (Nat → Int32)) => [(co, Sum.inr (4, [Value.long (lN (s3I (4096 / 2 ^ b) (4096 / 2 ^ b * v) (XX, bs)).1), Value.long xreadX, Value.ref soa, Value.ref sna, Value.ref swa, Value.int xkept, Value.ref ri, Value.ref ro, Value.ref rw, Value.int xasked])), (rw, Sum.inr (0, [Value.int (nI (s3I (4096 / 2 ^ b) (4096 / 2 ^ b * v) (XX, bs)).2.length), Value.ref u.1])), (u.1, Sum.inl (cI, u.2.1, Sum.inl u.2.2))]) (rPh rwk) (fun (u : Nat × Nat × (Nat → Int32)) => rPh u.2.1) := by
  refine my_ofVg (cc := prog_10_method_5_code) (n := 4) (ret := none) (by decide) rfl (Nat.le_of_ble_eq_true rfl) ?_
  intro p e s m args below meth c R Q A ls H locs hx hb hr hts hown hlocks hml hnm hR hQ hA hl hP hK hN hD hS
  have hg : ∀ w ∈ gw, w.before args s = true := fun w h => hts w (List.mem_cons_of_mem _ h)
  have hown : s.vm.findClass "RangeCoders$Stack" = some m.cls := hown
  have hl : lv_has ls 4 [(0, Value.ref co), (1, Value.int (nI v)), (2, Value.int (nI b))] := hl
  have hltw := rOk_lt hrw
  have hpw : 2 ^ b ≤ 2 ^ 12 := Nat.pow_le_pow_right (by decide) hb2
  have hpw0 : 0 < 2 ^ b := Nat.pow_pos (by decide)
  have hq0 : 0 < 4096 / 2 ^ b := Nat.div_pos hpw hpw0
  have hq1 : 4096 / 2 ^ b ≤ 4096 := Nat.div_le_self _ _
  have hq2 : 4096 / 2 ^ b * v ≤ 4096 / 2 ^ b * 2 ^ b := Nat.mul_le_mul_left _ (by omega)
  have hq3 := Nat.div_mul_le_self 4096 (2 ^ b)
  refine lv_sipush (v := 4096) hx hb d_Stack_stackValue_0 (by decide) ?_
  refine lv_iload_n hx hb d_Stack_stackValue_3 rfl (lv_at hl 2 rfl) ?_
  refine lv_ishr hx hb d_Stack_stackValue_4 ?_
  refine lv_topi (fun v_1 ev_1 => ?_)
  have z9 : v_1 = nI (4096 / 2 ^ b) := by rw [ev_1]; exact I_shr (n := 4096) (by decide) (by omega)
  subst z9
  refine lv_istore_n (lv' := [(3, Value.int (nI (4096 / 2 ^ b))), (0, Value.ref co), (1, Value.int (nI v)), (2, Value.int (nI b))]) hx hb d_Stack_stackValue_5 rfl hl (by decide) rfl (fun ls hl => ?_)
  refine lv_aload_n hx hb d_Stack_stackValue_6 rfl (lv_at hl 1 rfl) ?_
  refine lv_iload_n hx hb d_Stack_stackValue_7 rfl (lv_at hl 0 rfl) ?_
  refine lv_iload_n hx hb d_Stack_stackValue_8 rfl (lv_at hl 0 rfl) ?_
  refine lv_iload_n hx hb d_Stack_stackValue_9 rfl (lv_at hl 2 rfl) ?_
  refine lv_imul hx hb d_Stack_stackValue_10 ?_
  refine lv_topi (fun v_2 ev_2 => ?_)
  have z9 : v_2 = nI (4096 / 2 ^ b * v) := by rw [ev_2]; exact pk_mul _ _
  subst z9
  refine my_cvg (wr := []) (va_runV (As := [Value.int (nI (4096 / 2 ^ b)), Value.int (nI (4096 / 2 ^ b * v))]) (rest := []) ⟨hx, hb, hml, hown, hts⟩ (f_Stack_stackPart l dC dI cI cM cO H.size (hSl H) co xreadX soa sna swa xkept ri ro rw xasked XX (4096 / 2 ^ b) (4096 / 2 ^ b * v) rwa rwk rwf bs (hq0) (hq1) (by omega) (by first | assumption | omega) (by first | assumption | omega) (by first | assumption | omega) (by first | assumption | omega)) (cwV 2 hts (my_gV k615 k617 ks9 k10 k618) rfl rfl rfl (by decide +kernel) ⟨by rw [hR]; exact Nat.le_of_ble_eq_true rfl, by rw [hR]; exact Nat.le_of_ble_eq_true rfl⟩) (my_preVg hK hN (hP.sub [0, 1, 2] rfl) (hD.sub [0, 1, 2] (by decide +kernel) rfl) 0 rfl rfl) rfl rfl hl.1 rfl (lv_room (Nat.le_of_ble_eq_true rfl)) d_Stack_stackValue_11 ⟨by rw [hR]; exact (show 0 + (rPh rwk) ≤ (rPh rwk) by omega), by rw [hR]; exact (show 0 + (rPh rwk) ≤ (rPh rwk) by omega)⟩) hP hD hS hA [0, 1, 2] [] rfl rfl (by decide +kernel) (by decide +kernel) (fun u9 d_11 H locs hd_11 hw_11 hP hD hS => ?_)
  obtain ⟨rwaq_11, rwkq_11, rwfq_11⟩ := u9
  obtain ⟨hrw_11, hGrw_11⟩ : rOk (nI ((s3I (4096 / 2 ^ b) (4096 / 2 ^ b * v) (XX, bs)).2).length) rwkq_11 ∧ gIs rwfq_11 ((s3I (4096 / 2 ^ b) (4096 / 2 ^ b * v) (XX, bs)).2) := hw_11
  have hd_11 : d_11 + (rPh rwkq_11) ≤ (rPh rwk) := hd_11
  have hP : va_P (dC, dI) vwCl [(co, Sum.inr (4, [Value.long (lN (s3I (4096 / 2 ^ b) (4096 / 2 ^ b * v) (XX, bs)).1), Value.long xreadX, Value.ref soa, Value.ref sna, Value.ref swa, Value.int xkept, Value.ref ri, Value.ref ro, Value.ref rw, Value.int xasked])), (rw, Sum.inr (0, [Value.int (nI (s3I (4096 / 2 ^ b) (4096 / 2 ^ b * v) (XX, bs)).2.length), Value.ref rwaq_11])), (rwaq_11, Sum.inl (cI, rwkq_11, Sum.inl rwfq_11))] H := hP
  have hD : va_D A [(co, Sum.inr (4, [Value.long (lN (s3I (4096 / 2 ^ b) (4096 / 2 ^ b * v) (XX, bs)).1), Value.long xreadX, Value.ref soa, Value.ref sna, Value.ref swa, Value.int xkept, Value.ref ri, Value.ref ro, Value.ref rw, Value.int xasked])), (rw, Sum.inr (0, [Value.int (nI (s3I (4096 / 2 ^ b) (4096 / 2 ^ b * v) (XX, bs)).2.length), Value.ref rwaq_11])), (rwaq_11, Sum.inl (cI, rwkq_11, Sum.inl rwfq_11))] := hD
  exact my_vretg hx hb hr hlocks hQ hK hS (rwaq_11, rwkq_11, rwfq_11) (show (0 + d_11) + (rPh rwkq_11) ≤ (rPh rwk) by omega) (show (0 + d_11) + (rPh rwkq_11) ≤ (rPh rwk) by omega) (⟨hrw_11, hGrw_11⟩) (hP.sub [0, 1, 2] rfl) (hD.sub [0, 1, 2] (by decide +kernel) rfl) d_Stack_stackValue_14

