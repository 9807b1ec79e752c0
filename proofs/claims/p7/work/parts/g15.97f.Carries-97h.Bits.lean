section
set_option maxHeartbeats 2000000 in
set_option maxRecDepth 100000 in
theorem f_Carries_writeWaiting (l : Launch) (dC : Nat → ClassId) (dI : Nat → Nat → Nat) (cI cM cO : ClassId) (sz : Nat) (sl : Nat) (co : Nat) (xlow : Int64) (xrange : Int64) (xcode : Int64) (xreadLow : Int64) (xreadRange : Int64) (ri : Nat) (ro : Nat) (rw : Nat) (xasked : Int32) (ca : Option Nat) (Pn : Nat) (kc : Nat) (rwa : Nat) (rwk : Nat) (rwf : Nat → Int32) (bs : List Nat) (hc : ∀ x, ca = some x → x < 256) (hkc : kc ≤ 1) (hrw : rOk (nI bs.length) rwk) (hGrw : gIs rwf bs) (hN9 : bs.length + Pn + 1 ≤ 8000) : MetVg l y_Carries_writeWaiting (Cond.code y_Carries_writeWaiting prog_3_method_9_code 3 none :: gw) ({ frames := 3, cells := rPh rwk, slots := rPh rwk, locals := 83 } : Room) (dC, dI) vwCl (kT cI cM cO) [Value.ref co, Value.int (nI kc)] [(co, Sum.inr (1, [Value.int (caI ca), Value.int (nI Pn), Value.long xlow, Value.long xrange, Value.long xcode, Value.long xreadLow, Value.long xreadRange, Value.ref ri, Value.ref ro, Value.ref rw, Value.int xasked])), (rw, Sum.inr (0, [Value.int (nI bs.length), Value.ref rwa])), (rwa, Sum.inl (cI, rwk, Sum.inl rwf))] sz sl (fun (u : Nat × Nat × (Nat → Int32)) => rOk (nI (bs ++ caB ca kc ++ List.replicate Pn ((255 + kc) % 256)).length) u.2.1 ∧ gIs u.2.2 (bs ++ caB ca kc ++ List.replicate Pn ((255 + kc) % 256))) (fun (u : Nat × Nat × (Nat → Int32)) => [(co, Sum.inr (1, [Value.int (caI ca), Value.int 0, Value.long xlow, Value.long xrange, Value.long xcode, Value.long xreadLow, Value.long xreadRange, Value.ref ri, Value.ref ro, Value.ref rw, Value.int xasked])), (rw, Sum.inr (0, [Value.int (nI (bs ++ caB ca kc ++ List.replicate Pn ((255 + kc) % 256)).length), Value.ref u.1])), (u.1, Sum.inl (cI, u.2.1, Sum.inl u.2.2))]) (rPh rwk) (fun (u : Nat × Nat × (Nat → Int32)) => rPh u.2.1) := by
  refine my_ofVg (cc := prog_3_method_9_code) (n := 3) (ret := none) (by decide) rfl (Nat.le_of_ble_eq_true rfl) ?_
  intro p e s m args below meth c R Q A ls H locs hx hb hr hts hown hlocks hml hnm hR hQ hA hl hP hK hN hD hS
  have hg : ∀ w ∈ gw, w.before args s = true := fun w h => hts w (List.mem_cons_of_mem _ h)
  have hown : s.vm.findClass "RangeCoders$Carries" = some m.cls := hown
  have hl : lv_has ls 3 [(0, Value.ref co), (1, Value.int (nI kc))] := hl
  have hltw := rOk_lt hrw
  refine lv_aload_n hx hb d_Carries_writeWaiting_0 rfl (lv_at hl 0 rfl) ?_
  refine va_get (D := (dC, dI)) (ci := 1) (v := .int (caI ca)) (C := "RangeCoders$Carries") (T := T_Carries) (N := 11) hx hb hg in_Carries hown hK hP 0 rfl rfl 0 (by decide) (hg _ k68) (fun _ h9 => h9) rfl d_Carries_writeWaiting_1 ?_
  refine lv_iconst (v := (-1)) hx hb d_Carries_writeWaiting_4 (by decide) ?_
  refine lv_icmp_eq (tgt := 25) hx hb d_Carries_writeWaiting_5 (by decide) (fun c_1 => ?_) (fun c_1 => ?_)
  · have hcn : ca = none := (caI_ne hc).mp c_1
    refine lv_iconst (v := 0) hx hb d_Carries_writeWaiting_25 (by decide) ?_
    refine lv_istore_n (lv' := [(2, Value.int 0), (0, Value.ref co), (1, Value.int (nI kc))]) hx hb d_Carries_writeWaiting_26 rfl hl (by decide) rfl (fun ls hl => ?_)
    have J_27 : ∀ (n9_27 : Nat) (j : Nat) (b9 : List Nat) (rwa9 : Nat) (rwk9 : Nat) (rwf9 : Nat → Int32) (d9 : Nat) (hn9_27 : Pn - j = n9_27) (hj : j ≤ Pn) (hb9 : b9 = bs ++ caB ca kc ++ List.replicate j ((255 + kc) % 256)) (hr9 : rOk (nI b9.length) rwk9) (hg9 : gIs rwf9 b9) (hd9 : d9 + rPh rwk9 ≤ rPh rwk) (H : Heap) (locs : List Loc) (ls : Array Slot), va_P (dC, dI) vwCl [(co, Sum.inr (1, [Value.int (caI ca), Value.int (nI Pn), Value.long xlow, Value.long xrange, Value.long xcode, Value.long xreadLow, Value.long xreadRange, Value.ref ri, Value.ref ro, Value.ref rw, Value.int xasked])), (rw, Sum.inr (0, [Value.int (nI b9.length), Value.ref rwa9])), (rwa9, Sum.inl (cI, rwk9, Sum.inl rwf9))] H → va_D A [(co, Sum.inr (1, [Value.int (caI ca), Value.int (nI Pn), Value.long xlow, Value.long xrange, Value.long xcode, Value.long xreadLow, Value.long xreadRange, Value.ref ri, Value.ref ro, Value.ref rw, Value.int xasked])), (rw, Sum.inr (0, [Value.int (nI b9.length), Value.ref rwa9])), (rwa9, Sum.inl (cI, rwk9, Sum.inl rwf9))] → va_S A s.heap H locs → lv_has ls 3 [(2, Value.int (nI j)), (0, Value.ref co), (1, Value.int (nI kc))] → W p l e R s m args below meth c H locs d9 d9 Q (F0 m 27 ls []) := by
      intro n9_27
      induction n9_27 using Nat.strongRecOn with
      | ind n9_27 ih9_27 =>
        intro j b9 rwa9 rwk9 rwf9 d9 hn9_27 hj hb9 hr9 hg9 hd9 H locs ls hP hD hS hl
        have hbl : b9.length ≤ bs.length + 1 + j := by
          rw [hb9]
          simp only [List.length_append, List.length_replicate]
          have := caB_le ca kc
          omega
        refine lv_iload_n hx hb d_Carries_writeWaiting_27 rfl (lv_at hl 0 rfl) ?_
        refine lv_aload_n hx hb d_Carries_writeWaiting_28 rfl (lv_at hl 1 rfl) ?_
        refine va_get (D := (dC, dI)) (ci := 1) (v := .int (nI Pn)) (C := "RangeCoders$Carries") (T := T_Carries) (N := 11) hx hb hg in_Carries hown hK hP 0 rfl rfl 1 (by decide) (hg _ k69) (fun _ h9 => h9) rfl d_Carries_writeWaiting_29 ?_
        refine lv_icmp_ge (tgt := 57) hx hb d_Carries_writeWaiting_32 (by decide) (fun c_2 => ?_) (fun c_2 => ?_)
        · have hj3 : Pn = j := by have := nI_ge' (by omega) (by omega) c_2; omega
          subst hj3
          have hPD : my_PD (dC, dI) vwCl A [(co, Sum.inr (1, [Value.int (caI ca), Value.int (nI Pn), Value.long xlow, Value.long xrange, Value.long xcode, Value.long xreadLow, Value.long xreadRange, Value.ref ri, Value.ref ro, Value.ref rw, Value.int xasked])), (rw, Sum.inr (0, [Value.int (nI b9.length), Value.ref rwa9])), (rwa9, Sum.inl (cI, rwk9, Sum.inl rwf9))] H := ⟨hP, hD⟩
          have hP := hPD.1
          have hD := hPD.2
          have z9 : b9 = bs ++ caB ca kc ++ List.replicate Pn ((255 + kc) % 256) := hb9
          subst z9
          refine lv_aload_n hx hb d_Carries_writeWaiting_57 rfl (lv_at hl 1 rfl) ?_
          refine lv_iconst (v := 0) hx hb d_Carries_writeWaiting_58 (by decide) ?_
          refine va_put (D := (dC, dI)) (ci := 1) (v := .int 0) (ty := .int) (C := "RangeCoders$Carries") (T := T_Carries) (N := 11) hx hb hg in_Carries t_Carries o_Carries n_Carries hown hK hP hD hS 0 rfl rfl 1 (by decide) (hg _ k69) (fun _ h9 => h9) rfl (by decide +kernel) rfl rfl (Nat.le_of_ble_eq_true rfl) d_Carries_writeWaiting_59 (fun H locs hP hD hS => ?_)
          have hPD : my_PD (dC, dI) vwCl A [(co, Sum.inr (1, [Value.int (caI ca), Value.int 0, Value.long xlow, Value.long xrange, Value.long xcode, Value.long xreadLow, Value.long xreadRange, Value.ref ri, Value.ref ro, Value.ref rw, Value.int xasked])), (rw, Sum.inr (0, [Value.int (nI (bs ++ caB ca kc ++ List.replicate Pn ((255 + kc) % 256)).length), Value.ref rwa9])), (rwa9, Sum.inl (cI, rwk9, Sum.inl rwf9))] H := ⟨hP, hD⟩
          have hP := hPD.1
          have hD := hPD.2
          exact my_vretg hx hb hr hlocks hQ hK hS (rwa9, rwk9, rwf9) (show d9 + (rPh rwk9) ≤ (rPh rwk) by omega) (show d9 + (rPh rwk9) ≤ (rPh rwk) by omega) (⟨hr9, hg9⟩) (hP.sub [0, 1, 2] rfl) (hD.sub [0, 1, 2] (by decide +kernel) rfl) d_Carries_writeWaiting_62
        · have hj2 : j < Pn := nI_lt' (by omega) c_2
          refine lv_aload_n hx hb d_Carries_writeWaiting_35 rfl (lv_at hl 1 rfl) ?_
          refine va_get (D := (dC, dI)) (ci := 1) (v := .ref rw) (C := "RangeCoders$Carries") (T := T_Carries) (N := 11) hx hb hg in_Carries hown hK hP 0 rfl rfl 9 (by decide) (hg _ k124) (fun x9 h9 => u_same (hg _ k125) x9 h9) rfl d_Carries_writeWaiting_36 ?_
          refine lv_sipush (v := 255) hx hb d_Carries_writeWaiting_39 (by decide) ?_
          refine lv_iload_n hx hb d_Carries_writeWaiting_42 rfl (lv_at hl 2 rfl) ?_
          refine lv_iadd hx hb d_Carries_writeWaiting_43 ?_
          refine lv_topi (fun v_3 ev_3 => ?_)
          refine lv_sipush (v := 255) hx hb d_Carries_writeWaiting_44 (by decide) ?_
          refine lv_iand hx hb d_Carries_writeWaiting_47 ?_
          refine lv_topi (fun v_4 ev_4 => ?_)
          have z9 : v_4 = nI ((255 + kc) % 256) := by subst_vars; rw [show (255 : Int32) + nI kc = nI (255 + kc) from nI_add 255 kc]; exact pk_andN (by omega) 8 (by decide +kernel)
          subst z9
          refine my_cvg (wr := [(co, Sum.inr (1, [Value.int (caI ca), Value.int (nI Pn), Value.long xlow, Value.long xrange, Value.long xcode, Value.long xreadLow, Value.long xreadRange, Value.ref ri, Value.ref ro, Value.ref rw, Value.int xasked]))]) (va_runV (As := [Value.int (nI ((255 + kc) % 256))]) (rest := []) ⟨hx, hb, hml, hown, hts⟩ (f_Row_add l dC dI cI cM cO H.size (hSl H) rw rwa9 rwk9 rwf9 b9 ((255 + kc) % 256) (hr9) (hg9) (by omega)) (cwV 1 hts (my_gV k472 k473 k474 k6 k475) rfl rfl rfl (by decide +kernel) ⟨by rw [hR]; exact Nat.le_of_ble_eq_true rfl, by rw [hR]; exact Nat.le_of_ble_eq_true rfl⟩) (my_preVg hK hN (hP.sub [1, 2] rfl) (hD.sub [1, 2] (by decide +kernel) rfl) 0 rfl rfl) rfl rfl hl.1 rfl (lv_room (Nat.le_of_ble_eq_true rfl)) d_Carries_writeWaiting_48 ⟨by rw [hR]; exact (show d9 + (rPh rwk9) ≤ (rPh rwk) by omega), by rw [hR]; exact (show d9 + (rPh rwk9) ≤ (rPh rwk) by omega)⟩) hP hD hS hA [1, 2] [0] rfl rfl (by decide +kernel) (by decide +kernel) (fun u9 d_48 H locs hd_48 hw_48 hP hD hS => ?_)
          obtain ⟨rraq_48, rrkq_48, rrfq_48⟩ := u9
          obtain ⟨hrr_48, hGrr_48⟩ : rOk (nI (b9 ++ [((255 + kc) % 256)]).length) rrkq_48 ∧ gIs rrfq_48 (b9 ++ [((255 + kc) % 256)]) := hw_48
          have hd_48 : d_48 + (rPh rrkq_48) ≤ (rPh rwk9) := hd_48
          have hPD : my_PD (dC, dI) vwCl A [(co, Sum.inr (1, [Value.int (caI ca), Value.int (nI Pn), Value.long xlow, Value.long xrange, Value.long xcode, Value.long xreadLow, Value.long xreadRange, Value.ref ri, Value.ref ro, Value.ref rw, Value.int xasked])), (rw, Sum.inr (0, [Value.int (nI (b9 ++ [((255 + kc) % 256)]).length), Value.ref rraq_48])), (rraq_48, Sum.inl (cI, rrkq_48, Sum.inl rrfq_48))] H := ⟨hP, hD⟩
          have hP := hPD.1
          have hD := hPD.2
          obtain ⟨v_5, ev_5⟩ : ∃ y : Int32, y = (nI j) + (1) := ⟨_, rfl⟩
          refine lv_iinc (v := v_5) (lv' := [(2, Value.int v_5), (0, Value.ref co), (1, Value.int (nI kc))]) hx hb d_Carries_writeWaiting_51 hl (k := 0) rfl (by rw [ev_5]; rfl) (by decide) rfl (fun ls hl => ?_)
          have z9 : v_5 = nI (j + 1) := by rw [ev_5]; exact nI_1 _
          subst z9
          refine lv_goto (tgt := 27) hx hb d_Carries_writeWaiting_54 (by decide) ?_
          exact ih9_27 _ (by first | omega | (omega)) (j + 1) (b9 ++ [(255 + kc) % 256]) rraq_48 rrkq_48 rrfq_48 (d9 + d_48) rfl (by omega) (by rw [hb9, List.replicate_succ', ← List.append_assoc]) (hrr_48) (hGrr_48) (by omega) H locs ls (hP.sub [0, 1, 2] rfl) (hD.sub [0, 1, 2] (by decide +kernel) rfl) hS (lv_sub hl [0, 1, 2] rfl)
    exact J_27 _ (0 : Nat) bs rwa rwk rwf (0 : Nat) rfl (Nat.zero_le _) (by rw [hcn]; simp [caB]) (hrw) (hGrw) (by omega) H locs ls (hP.sub [0, 1, 2] rfl) (hD.sub [0, 1, 2] (by decide +kernel) rfl) hS (lv_sub hl [0, 1, 2] rfl)
  · obtain ⟨c0, hc0⟩ : ∃ x, ca = some x := by
      cases hca : ca with
      | none => exact absurd ((caI_ne hc).mpr hca) c_1
      | some x => exact ⟨x, rfl⟩
    have hc256 := hc c0 hc0
    have hcI : caI ca = nI c0 := by rw [hc0]; rfl
    refine lv_aload_n hx hb d_Carries_writeWaiting_8 rfl (lv_at hl 0 rfl) ?_
    refine va_get (D := (dC, dI)) (ci := 1) (v := .ref rw) (C := "RangeCoders$Carries") (T := T_Carries) (N := 11) hx hb hg in_Carries hown hK hP 0 rfl rfl 9 (by decide) (hg _ k124) (fun x9 h9 => u_same (hg _ k125) x9 h9) rfl d_Carries_writeWaiting_9 ?_
    refine lv_aload_n hx hb d_Carries_writeWaiting_12 rfl (lv_at hl 0 rfl) ?_
    refine va_get (D := (dC, dI)) (ci := 1) (v := .int (caI ca)) (C := "RangeCoders$Carries") (T := T_Carries) (N := 11) hx hb hg in_Carries hown hK hP 0 rfl rfl 0 (by decide) (hg _ k68) (fun _ h9 => h9) rfl d_Carries_writeWaiting_13 ?_
    refine lv_iload_n hx hb d_Carries_writeWaiting_16 rfl (lv_at hl 1 rfl) ?_
    refine lv_iadd hx hb d_Carries_writeWaiting_17 ?_
    refine lv_topi (fun v_6 ev_6 => ?_)
    refine lv_sipush (v := 255) hx hb d_Carries_writeWaiting_18 (by decide) ?_
    refine lv_iand hx hb d_Carries_writeWaiting_21 ?_
    refine lv_topi (fun v_7 ev_7 => ?_)
    have z9 : v_7 = nI ((c0 + kc) % 256) := by subst_vars; rw [hcI, nI_add]; exact pk_andN (by omega) 8 (by decide +kernel)
    subst z9
    refine my_cvg (wr := [(co, Sum.inr (1, [Value.int (caI ca), Value.int (nI Pn), Value.long xlow, Value.long xrange, Value.long xcode, Value.long xreadLow, Value.long xreadRange, Value.ref ri, Value.ref ro, Value.ref rw, Value.int xasked]))]) (va_runV (As := [Value.int (nI ((c0 + kc) % 256))]) (rest := []) ⟨hx, hb, hml, hown, hts⟩ (f_Row_add l dC dI cI cM cO H.size (hSl H) rw rwa rwk rwf bs ((c0 + kc) % 256) (hrw) (hGrw) (by omega)) (cwV 1 hts (my_gV k472 k473 k474 k6 k475) rfl rfl rfl (by decide +kernel) ⟨by rw [hR]; exact Nat.le_of_ble_eq_true rfl, by rw [hR]; exact Nat.le_of_ble_eq_true rfl⟩) (my_preVg hK hN (hP.sub [1, 2] rfl) (hD.sub [1, 2] (by decide +kernel) rfl) 0 rfl rfl) rfl rfl hl.1 rfl (lv_room (Nat.le_of_ble_eq_true rfl)) d_Carries_writeWaiting_22 ⟨by rw [hR]; exact (show 0 + (rPh rwk) ≤ (rPh rwk) by omega), by rw [hR]; exact (show 0 + (rPh rwk) ≤ (rPh rwk) by omega)⟩) hP hD hS hA [1, 2] [0] rfl rfl (by decide +kernel) (by decide +kernel) (fun u9 d_22 H locs hd_22 hw_22 hP hD hS => ?_)
    obtain ⟨rraq_22, rrkq_22, rrfq_22⟩ := u9
    obtain ⟨hrr_22, hGrr_22⟩ : rOk (nI (bs ++ [((c0 + kc) % 256)]).length) rrkq_22 ∧ gIs rrfq_22 (bs ++ [((c0 + kc) % 256)]) := hw_22
    have hd_22 : d_22 + (rPh rrkq_22) ≤ (rPh rwk) := hd_22
    have hPD : my_PD (dC, dI) vwCl A [(co, Sum.inr (1, [Value.int (caI ca), Value.int (nI Pn), Value.long xlow, Value.long xrange, Value.long xcode, Value.long xreadLow, Value.long xreadRange, Value.ref ri, Value.ref ro, Value.ref rw, Value.int xasked])), (rw, Sum.inr (0, [Value.int (nI (bs ++ [((c0 + kc) % 256)]).length), Value.ref rraq_22])), (rraq_22, Sum.inl (cI, rrkq_22, Sum.inl rrfq_22))] H := ⟨hP, hD⟩
    have hP := hPD.1
    have hD := hPD.2
    refine lv_iconst (v := 0) hx hb d_Carries_writeWaiting_25 (by decide) ?_
    refine lv_istore_n (lv' := [(2, Value.int 0), (0, Value.ref co), (1, Value.int (nI kc))]) hx hb d_Carries_writeWaiting_26 rfl hl (by decide) rfl (fun ls hl => ?_)
    have J_27 : ∀ (n9_27 : Nat) (j : Nat) (b9 : List Nat) (rwa9 : Nat) (rwk9 : Nat) (rwf9 : Nat → Int32) (d9 : Nat) (hn9_27 : Pn - j = n9_27) (hj : j ≤ Pn) (hb9 : b9 = bs ++ caB ca kc ++ List.replicate j ((255 + kc) % 256)) (hr9 : rOk (nI b9.length) rwk9) (hg9 : gIs rwf9 b9) (hd9 : d9 + rPh rwk9 ≤ rPh rwk) (H : Heap) (locs : List Loc) (ls : Array Slot), va_P (dC, dI) vwCl [(co, Sum.inr (1, [Value.int (caI ca), Value.int (nI Pn), Value.long xlow, Value.long xrange, Value.long xcode, Value.long xreadLow, Value.long xreadRange, Value.ref ri, Value.ref ro, Value.ref rw, Value.int xasked])), (rw, Sum.inr (0, [Value.int (nI b9.length), Value.ref rwa9])), (rwa9, Sum.inl (cI, rwk9, Sum.inl rwf9))] H → va_D A [(co, Sum.inr (1, [Value.int (caI ca), Value.int (nI Pn), Value.long xlow, Value.long xrange, Value.long xcode, Value.long xreadLow, Value.long xreadRange, Value.ref ri, Value.ref ro, Value.ref rw, Value.int xasked])), (rw, Sum.inr (0, [Value.int (nI b9.length), Value.ref rwa9])), (rwa9, Sum.inl (cI, rwk9, Sum.inl rwf9))] → va_S A s.heap H locs → lv_has ls 3 [(2, Value.int (nI j)), (0, Value.ref co), (1, Value.int (nI kc))] → W p l e R s m args below meth c H locs d9 d9 Q (F0 m 27 ls []) := by
      intro n9_27
      induction n9_27 using Nat.strongRecOn with
      | ind n9_27 ih9_27 =>
        intro j b9 rwa9 rwk9 rwf9 d9 hn9_27 hj hb9 hr9 hg9 hd9 H locs ls hP hD hS hl
        have hbl : b9.length ≤ bs.length + 1 + j := by
          rw [hb9]
          simp only [List.length_append, List.length_replicate]
          have := caB_le ca kc
          omega
        refine lv_iload_n hx hb d_Carries_writeWaiting_27 rfl (lv_at hl 0 rfl) ?_
        refine lv_aload_n hx hb d_Carries_writeWaiting_28 rfl (lv_at hl 1 rfl) ?_
        refine va_get (D := (dC, dI)) (ci := 1) (v := .int (nI Pn)) (C := "RangeCoders$Carries") (T := T_Carries) (N := 11) hx hb hg in_Carries hown hK hP 0 rfl rfl 1 (by decide) (hg _ k69) (fun _ h9 => h9) rfl d_Carries_writeWaiting_29 ?_
        refine lv_icmp_ge (tgt := 57) hx hb d_Carries_writeWaiting_32 (by decide) (fun c_8 => ?_) (fun c_8 => ?_)
        · have hj3 : Pn = j := by have := nI_ge' (by omega) (by omega) c_8; omega
          subst hj3
          have hPD : my_PD (dC, dI) vwCl A [(co, Sum.inr (1, [Value.int (caI ca), Value.int (nI Pn), Value.long xlow, Value.long xrange, Value.long xcode, Value.long xreadLow, Value.long xreadRange, Value.ref ri, Value.ref ro, Value.ref rw, Value.int xasked])), (rw, Sum.inr (0, [Value.int (nI b9.length), Value.ref rwa9])), (rwa9, Sum.inl (cI, rwk9, Sum.inl rwf9))] H := ⟨hP, hD⟩
          have hP := hPD.1
          have hD := hPD.2
          have z9 : b9 = bs ++ caB ca kc ++ List.replicate Pn ((255 + kc) % 256) := hb9
          subst z9
          refine lv_aload_n hx hb d_Carries_writeWaiting_57 rfl (lv_at hl 1 rfl) ?_
          refine lv_iconst (v := 0) hx hb d_Carries_writeWaiting_58 (by decide) ?_
          refine va_put (D := (dC, dI)) (ci := 1) (v := .int 0) (ty := .int) (C := "RangeCoders$Carries") (T := T_Carries) (N := 11) hx hb hg in_Carries t_Carries o_Carries n_Carries hown hK hP hD hS 0 rfl rfl 1 (by decide) (hg _ k69) (fun _ h9 => h9) rfl (by decide +kernel) rfl rfl (Nat.le_of_ble_eq_true rfl) d_Carries_writeWaiting_59 (fun H locs hP hD hS => ?_)
          have hPD : my_PD (dC, dI) vwCl A [(co, Sum.inr (1, [Value.int (caI ca), Value.int 0, Value.long xlow, Value.long xrange, Value.long xcode, Value.long xreadLow, Value.long xreadRange, Value.ref ri, Value.ref ro, Value.ref rw, Value.int xasked])), (rw, Sum.inr (0, [Value.int (nI (bs ++ caB ca kc ++ List.replicate Pn ((255 + kc) % 256)).length), Value.ref rwa9])), (rwa9, Sum.inl (cI, rwk9, Sum.inl rwf9))] H := ⟨hP, hD⟩
          have hP := hPD.1
          have hD := hPD.2
          exact my_vretg hx hb hr hlocks hQ hK hS (rwa9, rwk9, rwf9) (show d9 + (rPh rwk9) ≤ (rPh rwk) by omega) (show d9 + (rPh rwk9) ≤ (rPh rwk) by omega) (⟨hr9, hg9⟩) (hP.sub [0, 1, 2] rfl) (hD.sub [0, 1, 2] (by decide +kernel) rfl) d_Carries_writeWaiting_62
        · have hj2 : j < Pn := nI_lt' (by omega) c_8
          refine lv_aload_n hx hb d_Carries_writeWaiting_35 rfl (lv_at hl 1 rfl) ?_
          refine va_get (D := (dC, dI)) (ci := 1) (v := .ref rw) (C := "RangeCoders$Carries") (T := T_Carries) (N := 11) hx hb hg in_Carries hown hK hP 0 rfl rfl 9 (by decide) (hg _ k124) (fun x9 h9 => u_same (hg _ k125) x9 h9) rfl d_Carries_writeWaiting_36 ?_
          refine lv_sipush (v := 255) hx hb d_Carries_writeWaiting_39 (by decide) ?_
          refine lv_iload_n hx hb d_Carries_writeWaiting_42 rfl (lv_at hl 2 rfl) ?_
          refine lv_iadd hx hb d_Carries_writeWaiting_43 ?_
          refine lv_topi (fun v_9 ev_9 => ?_)
          refine lv_sipush (v := 255) hx hb d_Carries_writeWaiting_44 (by decide) ?_
          refine lv_iand hx hb d_Carries_writeWaiting_47 ?_
          refine lv_topi (fun v_10 ev_10 => ?_)
          have z9 : v_10 = nI ((255 + kc) % 256) := by subst_vars; rw [show (255 : Int32) + nI kc = nI (255 + kc) from nI_add 255 kc]; exact pk_andN (by omega) 8 (by decide +kernel)
          subst z9
          refine my_cvg (wr := [(co, Sum.inr (1, [Value.int (caI ca), Value.int (nI Pn), Value.long xlow, Value.long xrange, Value.long xcode, Value.long xreadLow, Value.long xreadRange, Value.ref ri, Value.ref ro, Value.ref rw, Value.int xasked]))]) (va_runV (As := [Value.int (nI ((255 + kc) % 256))]) (rest := []) ⟨hx, hb, hml, hown, hts⟩ (f_Row_add l dC dI cI cM cO H.size (hSl H) rw rwa9 rwk9 rwf9 b9 ((255 + kc) % 256) (hr9) (hg9) (by omega)) (cwV 1 hts (my_gV k472 k473 k474 k6 k475) rfl rfl rfl (by decide +kernel) ⟨by rw [hR]; exact Nat.le_of_ble_eq_true rfl, by rw [hR]; exact Nat.le_of_ble_eq_true rfl⟩) (my_preVg hK hN (hP.sub [1, 2] rfl) (hD.sub [1, 2] (by decide +kernel) rfl) 0 rfl rfl) rfl rfl hl.1 rfl (lv_room (Nat.le_of_ble_eq_true rfl)) d_Carries_writeWaiting_48 ⟨by rw [hR]; exact (show d9 + (rPh rwk9) ≤ (rPh rwk) by omega), by rw [hR]; exact (show d9 + (rPh rwk9) ≤ (rPh rwk) by omega)⟩) hP hD hS hA [1, 2] [0] rfl rfl (by decide +kernel) (by decide +kernel) (fun u9 d_48 H locs hd_48 hw_48 hP hD hS => ?_)
          obtain ⟨rraq_48, rrkq_48, rrfq_48⟩ := u9
          obtain ⟨hrr_48, hGrr_48⟩ : rOk (nI (b9 ++ [((255 + kc) % 256)]).length) rrkq_48 ∧ gIs rrfq_48 (b9 ++ [((255 + kc) % 256)]) := hw_48
          have hd_48 : d_48 + (rPh rrkq_48) ≤ (rPh rwk9) := hd_48
          have hPD : my_PD (dC, dI) vwCl A [(co, Sum.inr (1, [Value.int (caI ca), Value.int (nI Pn), Value.long xlow, Value.long xrange, Value.long xcode, Value.long xreadLow, Value.long xreadRange, Value.ref ri, Value.ref ro, Value.ref rw, Value.int xasked])), (rw, Sum.inr (0, [Value.int (nI (b9 ++ [((255 + kc) % 256)]).length), Value.ref rraq_48])), (rraq_48, Sum.inl (cI, rrkq_48, Sum.inl rrfq_48))] H := ⟨hP, hD⟩
          have hP := hPD.1
          have hD := hPD.2
          obtain ⟨v_11, ev_11⟩ : ∃ y : Int32, y = (nI j) + (1) := ⟨_, rfl⟩
          refine lv_iinc (v := v_11) (lv' := [(2, Value.int v_11), (0, Value.ref co), (1, Value.int (nI kc))]) hx hb d_Carries_writeWaiting_51 hl (k := 0) rfl (by rw [ev_11]; rfl) (by decide) rfl (fun ls hl => ?_)
          have z9 : v_11 = nI (j + 1) := by rw [ev_11]; exact nI_1 _
          subst z9
          refine lv_goto (tgt := 27) hx hb d_Carries_writeWaiting_54 (by decide) ?_
          exact ih9_27 _ (by first | omega | (omega)) (j + 1) (b9 ++ [(255 + kc) % 256]) rraq_48 rrkq_48 rrfq_48 (d9 + d_48) rfl (by omega) (by rw [hb9, List.replicate_succ', ← List.append_assoc]) (hrr_48) (hGrr_48) (by omega) H locs ls (hP.sub [0, 1, 2] rfl) (hD.sub [0, 1, 2] (by decide +kernel) rfl) hS (lv_sub hl [0, 1, 2] rfl)
    exact J_27 _ (0 : Nat) (bs ++ [(c0 + kc) % 256]) rraq_22 rrkq_22 rrfq_22 (0 + d_22) rfl (Nat.zero_le _) (by rw [hc0]; simp [caB]) (hrr_22) (hGrr_22) (by omega) H locs ls (hP.sub [0, 1, 2] rfl) (hD.sub [0, 1, 2] (by decide +kernel) rfl) hS (lv_sub hl [0, 1, 2] rfl)
set_option maxHeartbeats 2000000 in
set_option maxRecDepth 100000 in
theorem f_Carries_shiftLow (l : Launch) (dC : Nat → ClassId) (dI : Nat → Nat → Nat) (cI cM cO : ClassId) (sz : Nat) (sl : Nat) (co : Nat) (xrange : Int64) (xcode : Int64) (xreadLow : Int64) (xreadRange : Int64) (ri : Nat) (ro : Nat) (rw : Nat) (xasked : Int32) (L : Nat) (ca : Option Nat) (Pn : Nat) (rwa : Nat) (rwk : Nat) (rwf : Nat → Int32) (bs : List Nat) (hL : L < 8589934592) (hc : ∀ x, ca = some x → x < 256) (hrw : rOk (nI bs.length) rwk) (hGrw : gIs rwf bs) (hN9 : bs.length + Pn + 1 ≤ 8000) : MetVg l y_Carries_shiftLow (Cond.code y_Carries_shiftLow prog_3_method_8_code 1 none :: gw) ({ frames := 4, cells := rPh rwk, slots := rPh rwk, locals := 105 } : Room) (dC, dI) vwCl (kT cI cM cO) [Value.ref co] [(co, Sum.inr (1, [Value.int (caI ca), Value.int (nI Pn), Value.long (lN L), Value.long xrange, Value.long xcode, Value.long xreadLow, Value.long xreadRange, Value.ref ri, Value.ref ro, Value.ref rw, Value.int xasked])), (rw, Sum.inr (0, [Value.int (nI bs.length), Value.ref rwa])), (rwa, Sum.inl (cI, rwk, Sum.inl rwf))] sz sl (fun (u : Nat × Nat × (Nat → Int32)) => rOk (nI (shB L ca Pn bs).length) u.2.1 ∧ gIs u.2.2 (shB L ca Pn bs)) (fun (u : Nat × Nat × (Nat → Int32)) => [(co, Sum.inr (1, [Value.int (caI (shC L ca)), Value.int (nI (shP L Pn)), Value.long (lN (shL L)), Value.long xrange, Value.long xcode, Value.long xreadLow, Value.long xreadRange, Value.ref ri, Value.ref ro, Value.ref rw, Value.int xasked])), (rw, Sum.inr (0, [Value.int (nI (shB L ca Pn bs).length), Value.ref u.1])), (u.1, Sum.inl (cI, u.2.1, Sum.inl u.2.2))]) (rPh rwk) (fun (u : Nat × Nat × (Nat → Int32)) => rPh u.2.1) := by
  refine my_ofVg (cc := prog_3_method_8_code) (n := 1) (ret := none) (by decide) rfl (Nat.le_of_ble_eq_true rfl) ?_
  intro p e s m args below meth c R Q A ls H locs hx hb hr hts hown hlocks hml hnm hR hQ hA hl hP hK hN hD hS
  have hg : ∀ w ∈ gw, w.before args s = true := fun w h => hts w (List.mem_cons_of_mem _ h)
  have hown : s.vm.findClass "RangeCoders$Carries" = some m.cls := hown
  have hl : lv_has ls 1 [(0, Value.ref co)] := hl
  have hltw := rOk_lt hrw
  refine lv_aload_n hx hb d_Carries_shiftLow_0 rfl (lv_at hl 0 rfl) ?_
  refine va_get (D := (dC, dI)) (ci := 1) (v := .long (lN L)) (C := "RangeCoders$Carries") (T := T_Carries) (N := 11) hx hb hg in_Carries hown hK hP 0 rfl rfl 2 (by decide) (hg _ k72) (fun x9 h9 => u_same (hg _ k73) x9 h9) rfl d_Carries_shiftLow_1 ?_
  refine lv_ldc2 (v := 4278190080) hx hb hown (hg _ k467) d_Carries_shiftLow_4 ?_
  refine W.lcmp hx hb d_Carries_shiftLow_7 ?_
  refine lv_if_lt (tgt := 22) hx hb d_Carries_shiftLow_8 (by decide) (fun c_1 => ?_) (fun c_1 => ?_)
  · rw [lg_cmp_lt] at c_1
    have hO : shO L := Or.inl ((L_lt (b := 4278190080) (by omega) (by decide)).mp c_1)
    refine lv_aload_n hx hb d_Carries_shiftLow_22 rfl (lv_at hl 0 rfl) ?_
    refine lv_aload_n hx hb d_Carries_shiftLow_23 rfl (lv_at hl 0 rfl) ?_
    refine va_get (D := (dC, dI)) (ci := 1) (v := .long (lN L)) (C := "RangeCoders$Carries") (T := T_Carries) (N := 11) hx hb hg in_Carries hown hK hP 0 rfl rfl 2 (by decide) (hg _ k72) (fun x9 h9 => u_same (hg _ k73) x9 h9) rfl d_Carries_shiftLow_24 ?_
    refine lv_bipush (v := 32) hx hb d_Carries_shiftLow_27 (by decide) ?_
    refine lv_lushr hx hb d_Carries_shiftLow_29 rfl ?_
    refine lv_topl (fun v_2 ev_2 => ?_)
    refine lv_l2i hx hb d_Carries_shiftLow_30 rfl ?_
    refine lv_topi (fun v_3 ev_3 => ?_)
    have z9 : v_3 = nI (L / 4294967296) := by subst_vars; rw [U_shr32 (by omega)]; exact lN_i _
    subst z9
    refine my_cvg (wr := []) (va_runV (As := [Value.int (nI (L / 4294967296))]) (rest := []) ⟨hx, hb, hml, hown, hts⟩ (f_Carries_writeWaiting l dC dI cI cM cO H.size (hSl H) co (lN L) xrange xcode xreadLow xreadRange ri ro rw xasked ca Pn (L / 4294967296) rwa rwk rwf bs (by first | assumption | omega) (by omega) (by first | assumption | omega) (by first | assumption | omega) (by first | assumption | omega)) (cwV 1 hts (my_gV k468 k470 ks7 k5 k471) rfl rfl rfl (by decide +kernel) ⟨by rw [hR]; exact Nat.le_of_ble_eq_true rfl, by rw [hR]; exact Nat.le_of_ble_eq_true rfl⟩) (my_preVg hK hN (hP.sub [0, 1, 2] rfl) (hD.sub [0, 1, 2] (by decide +kernel) rfl) 0 rfl rfl) rfl rfl hl.1 rfl (lv_room (Nat.le_of_ble_eq_true rfl)) d_Carries_shiftLow_31 ⟨by rw [hR]; exact (show 0 + (rPh rwk) ≤ (rPh rwk) by omega), by rw [hR]; exact (show 0 + (rPh rwk) ≤ (rPh rwk) by omega)⟩) hP hD hS hA [0, 1, 2] [] rfl rfl (by decide +kernel) (by decide +kernel) (fun u9 d_31 H locs hd_31 hw_31 hP hD hS => ?_)
    obtain ⟨rwaq_31, rwkq_31, rwfq_31⟩ := u9
    obtain ⟨hrw_31, hGrw_31⟩ : rOk (nI (bs ++ caB ca (L / 4294967296) ++ List.replicate Pn ((255 + (L / 4294967296)) % 256)).length) rwkq_31 ∧ gIs rwfq_31 (bs ++ caB ca (L / 4294967296) ++ List.replicate Pn ((255 + (L / 4294967296)) % 256)) := hw_31
    have hd_31 : d_31 + (rPh rwkq_31) ≤ (rPh rwk) := hd_31
    have hPD : my_PD (dC, dI) vwCl A [(co, Sum.inr (1, [Value.int (caI ca), Value.int 0, Value.long (lN L), Value.long xrange, Value.long xcode, Value.long xreadLow, Value.long xreadRange, Value.ref ri, Value.ref ro, Value.ref rw, Value.int xasked])), (rw, Sum.inr (0, [Value.int (nI (bs ++ caB ca (L / 4294967296) ++ List.replicate Pn ((255 + (L / 4294967296)) % 256)).length), Value.ref rwaq_31])), (rwaq_31, Sum.inl (cI, rwkq_31, Sum.inl rwfq_31))] H := ⟨hP, hD⟩
    have hP := hPD.1
    have hD := hPD.2
    refine lv_aload_n hx hb d_Carries_shiftLow_34 rfl (lv_at hl 0 rfl) ?_
    refine lv_aload_n hx hb d_Carries_shiftLow_35 rfl (lv_at hl 0 rfl) ?_
    refine va_get (D := (dC, dI)) (ci := 1) (v := .long (lN L)) (C := "RangeCoders$Carries") (T := T_Carries) (N := 11) hx hb hg in_Carries hown hK hP 0 rfl rfl 2 (by decide) (hg _ k72) (fun x9 h9 => u_same (hg _ k73) x9 h9) rfl d_Carries_shiftLow_36 ?_
    refine lv_bipush (v := 24) hx hb d_Carries_shiftLow_39 (by decide) ?_
    refine lv_lushr hx hb d_Carries_shiftLow_41 rfl ?_
    refine lv_topl (fun v_4 ev_4 => ?_)
    refine lv_l2i hx hb d_Carries_shiftLow_42 rfl ?_
    refine lv_topi (fun v_5 ev_5 => ?_)
    refine lv_sipush (v := 255) hx hb d_Carries_shiftLow_43 (by decide) ?_
    refine lv_iand hx hb d_Carries_shiftLow_46 ?_
    refine lv_topi (fun v_6 ev_6 => ?_)
    have z9 : v_6 = caI (shC L ca) := by subst_vars; rw [U_shr24 (by omega), lN_i]; unfold shC; rw [if_pos hO]; exact pk_andN (by omega) 8 (by decide +kernel)
    subst z9
    refine va_put (D := (dC, dI)) (ci := 1) (v := .int (caI (shC L ca))) (ty := .int) (C := "RangeCoders$Carries") (T := T_Carries) (N := 11) hx hb hg in_Carries t_Carries o_Carries n_Carries hown hK hP hD hS 0 rfl rfl 0 (by decide) (hg _ k68) (fun _ h9 => h9) rfl (by decide +kernel) rfl rfl (Nat.le_of_ble_eq_true rfl) d_Carries_shiftLow_47 (fun H locs hP hD hS => ?_)
    have hPD : my_PD (dC, dI) vwCl A [(co, Sum.inr (1, [Value.int (caI (shC L ca)), Value.int 0, Value.long (lN L), Value.long xrange, Value.long xcode, Value.long xreadLow, Value.long xreadRange, Value.ref ri, Value.ref ro, Value.ref rw, Value.int xasked])), (rw, Sum.inr (0, [Value.int (nI (bs ++ caB ca (L / 4294967296) ++ List.replicate Pn ((255 + (L / 4294967296)) % 256)).length), Value.ref rwaq_31])), (rwaq_31, Sum.inl (cI, rwkq_31, Sum.inl rwfq_31))] H := ⟨hP, hD⟩
    have hP := hPD.1
    have hD := hPD.2
    refine lv_goto (tgt := 63) hx hb d_Carries_shiftLow_50 (by decide) ?_
    have hsu : (nI (bs ++ caB ca (L / 4294967296) ++ List.replicate Pn ((255 + (L / 4294967296)) % 256)).length : Int32) = nI (shB L ca Pn bs).length := by unfold shB; rw [if_pos hO]
    rw [hsu] at hP hD
    have hPD : my_PD (dC, dI) vwCl A [(co, Sum.inr (1, [Value.int (caI (shC L ca)), Value.int 0, Value.long (lN L), Value.long xrange, Value.long xcode, Value.long xreadLow, Value.long xreadRange, Value.ref ri, Value.ref ro, Value.ref rw, Value.int xasked])), (rw, Sum.inr (0, [Value.int (nI (shB L ca Pn bs).length), Value.ref rwaq_31])), (rwaq_31, Sum.inl (cI, rwkq_31, Sum.inl rwfq_31))] H := ⟨hP, hD⟩
    have hP := hPD.1
    have hD := hPD.2
    have hsu : (0 : Int32) = nI (shP L Pn) := by unfold shP; rw [if_pos hO]; rfl
    rw [hsu] at hP hD
    have hPD : my_PD (dC, dI) vwCl A [(co, Sum.inr (1, [Value.int (caI (shC L ca)), Value.int (nI (shP L Pn)), Value.long (lN L), Value.long xrange, Value.long xcode, Value.long xreadLow, Value.long xreadRange, Value.ref ri, Value.ref ro, Value.ref rw, Value.int xasked])), (rw, Sum.inr (0, [Value.int (nI (shB L ca Pn bs).length), Value.ref rwaq_31])), (rwaq_31, Sum.inl (cI, rwkq_31, Sum.inl rwfq_31))] H := ⟨hP, hD⟩
    have hP := hPD.1
    have hD := hPD.2
    refine lv_aload_n hx hb d_Carries_shiftLow_63 rfl (lv_at hl 0 rfl) ?_
    refine lv_aload_n hx hb d_Carries_shiftLow_64 rfl (lv_at hl 0 rfl) ?_
    refine va_get (D := (dC, dI)) (ci := 1) (v := .long (lN L)) (C := "RangeCoders$Carries") (T := T_Carries) (N := 11) hx hb hg in_Carries hown hK hP 0 rfl rfl 2 (by decide) (hg _ k72) (fun x9 h9 => u_same (hg _ k73) x9 h9) rfl d_Carries_shiftLow_65 ?_
    refine lv_bipush (v := 8) hx hb d_Carries_shiftLow_68 (by decide) ?_
    refine lv_lshl hx hb d_Carries_shiftLow_70 rfl ?_
    refine lv_topl (fun v_7 ev_7 => ?_)
    refine lv_ldc2 (v := 4294967295) hx hb hown (hg _ k462) d_Carries_shiftLow_71 ?_
    refine lv_land hx hb d_Carries_shiftLow_74 ?_
    refine lv_topl (fun v_8 ev_8 => ?_)
    have z9 : v_8 = lN (shL L) := by subst_vars; rw [L_shl8, L_and32 (by omega)]; unfold shL; congr 1; omega
    subst z9
    refine va_put (D := (dC, dI)) (ci := 1) (v := .long (lN (shL L))) (ty := .long) (C := "RangeCoders$Carries") (T := T_Carries) (N := 11) hx hb hg in_Carries t_Carries o_Carries n_Carries hown hK hP hD hS 0 rfl rfl 2 (by decide) (hg _ k72) (fun x9 h9 => u_same (hg _ k73) x9 h9) rfl (by decide +kernel) rfl rfl (Nat.le_of_ble_eq_true rfl) d_Carries_shiftLow_75 (fun H locs hP hD hS => ?_)
    have hPD : my_PD (dC, dI) vwCl A [(co, Sum.inr (1, [Value.int (caI (shC L ca)), Value.int (nI (shP L Pn)), Value.long (lN (shL L)), Value.long xrange, Value.long xcode, Value.long xreadLow, Value.long xreadRange, Value.ref ri, Value.ref ro, Value.ref rw, Value.int xasked])), (rw, Sum.inr (0, [Value.int (nI (shB L ca Pn bs).length), Value.ref rwaq_31])), (rwaq_31, Sum.inl (cI, rwkq_31, Sum.inl rwfq_31))] H := ⟨hP, hD⟩
    have hP := hPD.1
    have hD := hPD.2
    exact my_vretg hx hb hr hlocks hQ hK hS (rwaq_31, rwkq_31, rwfq_31) (show (0 + d_31) + (rPh rwkq_31) ≤ (rPh rwk) by omega) (show (0 + d_31) + (rPh rwkq_31) ≤ (rPh rwk) by omega) (⟨by unfold shB; rw [if_pos hO]; exact hrw_31, by unfold shB; rw [if_pos hO]; exact hGrw_31⟩) (hP.sub [0, 1, 2] rfl) (hD.sub [0, 1, 2] (by decide +kernel) rfl) d_Carries_shiftLow_78
  · rw [lg_cmp_lt] at c_1
    refine lv_aload_n hx hb d_Carries_shiftLow_11 rfl (lv_at hl 0 rfl) ?_
    refine va_get (D := (dC, dI)) (ci := 1) (v := .long (lN L)) (C := "RangeCoders$Carries") (T := T_Carries) (N := 11) hx hb hg in_Carries hown hK hP 0 rfl rfl 2 (by decide) (hg _ k72) (fun x9 h9 => u_same (hg _ k73) x9 h9) rfl d_Carries_shiftLow_12 ?_
    refine lv_ldc2 (v := 4294967295) hx hb hown (hg _ k462) d_Carries_shiftLow_15 ?_
    refine W.lcmp hx hb d_Carries_shiftLow_18 ?_
    refine lv_if_le (tgt := 53) hx hb d_Carries_shiftLow_19 (by decide) (fun c_9 => ?_) (fun c_9 => ?_)
    · rw [lg_cmp_le] at c_9
      have hO : ¬ shO L := fun q => q.elim (fun q => absurd ((L_lt (b := 4278190080) (by omega) (by decide)).mpr q) c_1) (fun q => absurd ((L_le (b := 4294967295) (by omega) (by decide)).mp c_9) (by omega))
      refine lv_aload_n hx hb d_Carries_shiftLow_53 rfl (lv_at hl 0 rfl) ?_
      refine lv_dup hx hb d_Carries_shiftLow_54 rfl ?_
      refine va_get (D := (dC, dI)) (ci := 1) (v := .int (nI Pn)) (C := "RangeCoders$Carries") (T := T_Carries) (N := 11) hx hb hg in_Carries hown hK hP 0 rfl rfl 1 (by decide) (hg _ k69) (fun _ h9 => h9) rfl d_Carries_shiftLow_55 ?_
      refine lv_iconst (v := 1) hx hb d_Carries_shiftLow_58 (by decide) ?_
      refine lv_iadd hx hb d_Carries_shiftLow_59 ?_
      refine lv_topi (fun v_10 ev_10 => ?_)
      have z9 : v_10 = nI (shP L Pn) := by subst_vars; unfold shP; rw [if_neg hO]; exact nI_1 _
      subst z9
      refine va_put (D := (dC, dI)) (ci := 1) (v := .int (nI (shP L Pn))) (ty := .int) (C := "RangeCoders$Carries") (T := T_Carries) (N := 11) hx hb hg in_Carries t_Carries o_Carries n_Carries hown hK hP hD hS 0 rfl rfl 1 (by decide) (hg _ k69) (fun _ h9 => h9) rfl (by decide +kernel) rfl rfl (Nat.le_of_ble_eq_true rfl) d_Carries_shiftLow_60 (fun H locs hP hD hS => ?_)
      have hPD : my_PD (dC, dI) vwCl A [(co, Sum.inr (1, [Value.int (caI ca), Value.int (nI (shP L Pn)), Value.long (lN L), Value.long xrange, Value.long xcode, Value.long xreadLow, Value.long xreadRange, Value.ref ri, Value.ref ro, Value.ref rw, Value.int xasked])), (rw, Sum.inr (0, [Value.int (nI bs.length), Value.ref rwa])), (rwa, Sum.inl (cI, rwk, Sum.inl rwf))] H := ⟨hP, hD⟩
      have hP := hPD.1
      have hD := hPD.2
      have hsu : (nI bs.length : Int32) = nI (shB L ca Pn bs).length := by unfold shB; rw [if_neg hO]
      rw [hsu] at hP hD
      have hPD : my_PD (dC, dI) vwCl A [(co, Sum.inr (1, [Value.int (caI ca), Value.int (nI (shP L Pn)), Value.long (lN L), Value.long xrange, Value.long xcode, Value.long xreadLow, Value.long xreadRange, Value.ref ri, Value.ref ro, Value.ref rw, Value.int xasked])), (rw, Sum.inr (0, [Value.int (nI (shB L ca Pn bs).length), Value.ref rwa])), (rwa, Sum.inl (cI, rwk, Sum.inl rwf))] H := ⟨hP, hD⟩
      have hP := hPD.1
      have hD := hPD.2
      have hsu : (caI ca : Int32) = caI (shC L ca) := by unfold shC; rw [if_neg hO]
      rw [hsu] at hP hD
      have hPD : my_PD (dC, dI) vwCl A [(co, Sum.inr (1, [Value.int (caI (shC L ca)), Value.int (nI (shP L Pn)), Value.long (lN L), Value.long xrange, Value.long xcode, Value.long xreadLow, Value.long xreadRange, Value.ref ri, Value.ref ro, Value.ref rw, Value.int xasked])), (rw, Sum.inr (0, [Value.int (nI (shB L ca Pn bs).length), Value.ref rwa])), (rwa, Sum.inl (cI, rwk, Sum.inl rwf))] H := ⟨hP, hD⟩
      have hP := hPD.1
      have hD := hPD.2
      refine lv_aload_n hx hb d_Carries_shiftLow_63 rfl (lv_at hl 0 rfl) ?_
      refine lv_aload_n hx hb d_Carries_shiftLow_64 rfl (lv_at hl 0 rfl) ?_
      refine va_get (D := (dC, dI)) (ci := 1) (v := .long (lN L)) (C := "RangeCoders$Carries") (T := T_Carries) (N := 11) hx hb hg in_Carries hown hK hP 0 rfl rfl 2 (by decide) (hg _ k72) (fun x9 h9 => u_same (hg _ k73) x9 h9) rfl d_Carries_shiftLow_65 ?_
      refine lv_bipush (v := 8) hx hb d_Carries_shiftLow_68 (by decide) ?_
      refine lv_lshl hx hb d_Carries_shiftLow_70 rfl ?_
      refine lv_topl (fun v_11 ev_11 => ?_)
      refine lv_ldc2 (v := 4294967295) hx hb hown (hg _ k462) d_Carries_shiftLow_71 ?_
      refine lv_land hx hb d_Carries_shiftLow_74 ?_
      refine lv_topl (fun v_12 ev_12 => ?_)
      have z9 : v_12 = lN (shL L) := by subst_vars; rw [L_shl8, L_and32 (by omega)]; unfold shL; congr 1; omega
      subst z9
      refine va_put (D := (dC, dI)) (ci := 1) (v := .long (lN (shL L))) (ty := .long) (C := "RangeCoders$Carries") (T := T_Carries) (N := 11) hx hb hg in_Carries t_Carries o_Carries n_Carries hown hK hP hD hS 0 rfl rfl 2 (by decide) (hg _ k72) (fun x9 h9 => u_same (hg _ k73) x9 h9) rfl (by decide +kernel) rfl rfl (Nat.le_of_ble_eq_true rfl) d_Carries_shiftLow_75 (fun H locs hP hD hS => ?_)
      have hPD : my_PD (dC, dI) vwCl A [(co, Sum.inr (1, [Value.int (caI (shC L ca)), Value.int (nI (shP L Pn)), Value.long (lN (shL L)), Value.long xrange, Value.long xcode, Value.long xreadLow, Value.long xreadRange, Value.ref ri, Value.ref ro, Value.ref rw, Value.int xasked])), (rw, Sum.inr (0, [Value.int (nI (shB L ca Pn bs).length), Value.ref rwa])), (rwa, Sum.inl (cI, rwk, Sum.inl rwf))] H := ⟨hP, hD⟩
      have hP := hPD.1
      have hD := hPD.2
      exact my_vretg hx hb hr hlocks hQ hK hS (rwa, rwk, rwf) (show 0 + (rPh rwk) ≤ (rPh rwk) by omega) (show 0 + (rPh rwk) ≤ (rPh rwk) by omega) (⟨by unfold shB; rw [if_neg hO]; exact hrw, by unfold shB; rw [if_neg hO]; exact hGrw⟩) (hP.sub [0, 1, 2] rfl) (hD.sub [0, 1, 2] (by decide +kernel) rfl) d_Carries_shiftLow_78
    · rw [lg_cmp_le] at c_9
      have hO : shO L := Or.inr ((Nat.lt_or_ge L 4294967296).elim (fun q => absurd ((L_le (b := 4294967295) (by omega) (by decide)).mpr (by omega)) c_9) id)
      refine lv_aload_n hx hb d_Carries_shiftLow_22 rfl (lv_at hl 0 rfl) ?_
      refine lv_aload_n hx hb d_Carries_shiftLow_23 rfl (lv_at hl 0 rfl) ?_
      refine va_get (D := (dC, dI)) (ci := 1) (v := .long (lN L)) (C := "RangeCoders$Carries") (T := T_Carries) (N := 11) hx hb hg in_Carries hown hK hP 0 rfl rfl 2 (by decide) (hg _ k72) (fun x9 h9 => u_same (hg _ k73) x9 h9) rfl d_Carries_shiftLow_24 ?_
      refine lv_bipush (v := 32) hx hb d_Carries_shiftLow_27 (by decide) ?_
      refine lv_lushr hx hb d_Carries_shiftLow_29 rfl ?_
      refine lv_topl (fun v_13 ev_13 => ?_)
      refine lv_l2i hx hb d_Carries_shiftLow_30 rfl ?_
      refine lv_topi (fun v_14 ev_14 => ?_)
      have z9 : v_14 = nI (L / 4294967296) := by subst_vars; rw [U_shr32 (by omega)]; exact lN_i _
      subst z9
      refine my_cvg (wr := []) (va_runV (As := [Value.int (nI (L / 4294967296))]) (rest := []) ⟨hx, hb, hml, hown, hts⟩ (f_Carries_writeWaiting l dC dI cI cM cO H.size (hSl H) co (lN L) xrange xcode xreadLow xreadRange ri ro rw xasked ca Pn (L / 4294967296) rwa rwk rwf bs (by first | assumption | omega) (by omega) (by first | assumption | omega) (by first | assumption | omega) (by first | assumption | omega)) (cwV 1 hts (my_gV k468 k470 ks7 k5 k471) rfl rfl rfl (by decide +kernel) ⟨by rw [hR]; exact Nat.le_of_ble_eq_true rfl, by rw [hR]; exact Nat.le_of_ble_eq_true rfl⟩) (my_preVg hK hN (hP.sub [0, 1, 2] rfl) (hD.sub [0, 1, 2] (by decide +kernel) rfl) 0 rfl rfl) rfl rfl hl.1 rfl (lv_room (Nat.le_of_ble_eq_true rfl)) d_Carries_shiftLow_31 ⟨by rw [hR]; exact (show 0 + (rPh rwk) ≤ (rPh rwk) by omega), by rw [hR]; exact (show 0 + (rPh rwk) ≤ (rPh rwk) by omega)⟩) hP hD hS hA [0, 1, 2] [] rfl rfl (by decide +kernel) (by decide +kernel) (fun u9 d_31 H locs hd_31 hw_31 hP hD hS => ?_)
      obtain ⟨rwaq_31, rwkq_31, rwfq_31⟩ := u9
      obtain ⟨hrw_31, hGrw_31⟩ : rOk (nI (bs ++ caB ca (L / 4294967296) ++ List.replicate Pn ((255 + (L / 4294967296)) % 256)).length) rwkq_31 ∧ gIs rwfq_31 (bs ++ caB ca (L / 4294967296) ++ List.replicate Pn ((255 + (L / 4294967296)) % 256)) := hw_31
      have hd_31 : d_31 + (rPh rwkq_31) ≤ (rPh rwk) := hd_31
      have hPD : my_PD (dC, dI) vwCl A [(co, Sum.inr (1, [Value.int (caI ca), Value.int 0, Value.long (lN L), Value.long xrange, Value.long xcode, Value.long xreadLow, Value.long xreadRange, Value.ref ri, Value.ref ro, Value.ref rw, Value.int xasked])), (rw, Sum.inr (0, [Value.int (nI (bs ++ caB ca (L / 4294967296) ++ List.replicate Pn ((255 + (L / 4294967296)) % 256)).length), Value.ref rwaq_31])), (rwaq_31, Sum.inl (cI, rwkq_31, Sum.inl rwfq_31))] H := ⟨hP, hD⟩
      have hP := hPD.1
      have hD := hPD.2
      refine lv_aload_n hx hb d_Carries_shiftLow_34 rfl (lv_at hl 0 rfl) ?_
      refine lv_aload_n hx hb d_Carries_shiftLow_35 rfl (lv_at hl 0 rfl) ?_
      refine va_get (D := (dC, dI)) (ci := 1) (v := .long (lN L)) (C := "RangeCoders$Carries") (T := T_Carries) (N := 11) hx hb hg in_Carries hown hK hP 0 rfl rfl 2 (by decide) (hg _ k72) (fun x9 h9 => u_same (hg _ k73) x9 h9) rfl d_Carries_shiftLow_36 ?_
      refine lv_bipush (v := 24) hx hb d_Carries_shiftLow_39 (by decide) ?_
      refine lv_lushr hx hb d_Carries_shiftLow_41 rfl ?_
      refine lv_topl (fun v_15 ev_15 => ?_)
      refine lv_l2i hx hb d_Carries_shiftLow_42 rfl ?_
      refine lv_topi (fun v_16 ev_16 => ?_)
      refine lv_sipush (v := 255) hx hb d_Carries_shiftLow_43 (by decide) ?_
      refine lv_iand hx hb d_Carries_shiftLow_46 ?_
      refine lv_topi (fun v_17 ev_17 => ?_)
      have z9 : v_17 = caI (shC L ca) := by subst_vars; rw [U_shr24 (by omega), lN_i]; unfold shC; rw [if_pos hO]; exact pk_andN (by omega) 8 (by decide +kernel)
      subst z9
      refine va_put (D := (dC, dI)) (ci := 1) (v := .int (caI (shC L ca))) (ty := .int) (C := "RangeCoders$Carries") (T := T_Carries) (N := 11) hx hb hg in_Carries t_Carries o_Carries n_Carries hown hK hP hD hS 0 rfl rfl 0 (by decide) (hg _ k68) (fun _ h9 => h9) rfl (by decide +kernel) rfl rfl (Nat.le_of_ble_eq_true rfl) d_Carries_shiftLow_47 (fun H locs hP hD hS => ?_)
      have hPD : my_PD (dC, dI) vwCl A [(co, Sum.inr (1, [Value.int (caI (shC L ca)), Value.int 0, Value.long (lN L), Value.long xrange, Value.long xcode, Value.long xreadLow, Value.long xreadRange, Value.ref ri, Value.ref ro, Value.ref rw, Value.int xasked])), (rw, Sum.inr (0, [Value.int (nI (bs ++ caB ca (L / 4294967296) ++ List.replicate Pn ((255 + (L / 4294967296)) % 256)).length), Value.ref rwaq_31])), (rwaq_31, Sum.inl (cI, rwkq_31, Sum.inl rwfq_31))] H := ⟨hP, hD⟩
      have hP := hPD.1
      have hD := hPD.2
      refine lv_goto (tgt := 63) hx hb d_Carries_shiftLow_50 (by decide) ?_
      have hsu : (nI (bs ++ caB ca (L / 4294967296) ++ List.replicate Pn ((255 + (L / 4294967296)) % 256)).length : Int32) = nI (shB L ca Pn bs).length := by unfold shB; rw [if_pos hO]
      rw [hsu] at hP hD
      have hPD : my_PD (dC, dI) vwCl A [(co, Sum.inr (1, [Value.int (caI (shC L ca)), Value.int 0, Value.long (lN L), Value.long xrange, Value.long xcode, Value.long xreadLow, Value.long xreadRange, Value.ref ri, Value.ref ro, Value.ref rw, Value.int xasked])), (rw, Sum.inr (0, [Value.int (nI (shB L ca Pn bs).length), Value.ref rwaq_31])), (rwaq_31, Sum.inl (cI, rwkq_31, Sum.inl rwfq_31))] H := ⟨hP, hD⟩
      have hP := hPD.1
      have hD := hPD.2
      have hsu : (0 : Int32) = nI (shP L Pn) := by unfold shP; rw [if_pos hO]; rfl
      rw [hsu] at hP hD
      have hPD : my_PD (dC, dI) vwCl A [(co, Sum.inr (1, [Value.int (caI (shC L ca)), Value.int (nI (shP L Pn)), Value.long (lN L), Value.long xrange, Value.long xcode, Value.long xreadLow, Value.long xreadRange, Value.ref ri, Value.ref ro, Value.ref rw, Value.int xasked])), (rw, Sum.inr (0, [Value.int (nI (shB L ca Pn bs).length), Value.ref rwaq_31])), (rwaq_31, Sum.inl (cI, rwkq_31, Sum.inl rwfq_31))] H := ⟨hP, hD⟩
      have hP := hPD.1
      have hD := hPD.2
      refine lv_aload_n hx hb d_Carries_shiftLow_63 rfl (lv_at hl 0 rfl) ?_
      refine lv_aload_n hx hb d_Carries_shiftLow_64 rfl (lv_at hl 0 rfl) ?_
      refine va_get (D := (dC, dI)) (ci := 1) (v := .long (lN L)) (C := "RangeCoders$Carries") (T := T_Carries) (N := 11) hx hb hg in_Carries hown hK hP 0 rfl rfl 2 (by decide) (hg _ k72) (fun x9 h9 => u_same (hg _ k73) x9 h9) rfl d_Carries_shiftLow_65 ?_
      refine lv_bipush (v := 8) hx hb d_Carries_shiftLow_68 (by decide) ?_
      refine lv_lshl hx hb d_Carries_shiftLow_70 rfl ?_
      refine lv_topl (fun v_18 ev_18 => ?_)
      refine lv_ldc2 (v := 4294967295) hx hb hown (hg _ k462) d_Carries_shiftLow_71 ?_
      refine lv_land hx hb d_Carries_shiftLow_74 ?_
      refine lv_topl (fun v_19 ev_19 => ?_)
      have z9 : v_19 = lN (shL L) := by subst_vars; rw [L_shl8, L_and32 (by omega)]; unfold shL; congr 1; omega
      subst z9
      refine va_put (D := (dC, dI)) (ci := 1) (v := .long (lN (shL L))) (ty := .long) (C := "RangeCoders$Carries") (T := T_Carries) (N := 11) hx hb hg in_Carries t_Carries o_Carries n_Carries hown hK hP hD hS 0 rfl rfl 2 (by decide) (hg _ k72) (fun x9 h9 => u_same (hg _ k73) x9 h9) rfl (by decide +kernel) rfl rfl (Nat.le_of_ble_eq_true rfl) d_Carries_shiftLow_75 (fun H locs hP hD hS => ?_)
      have hPD : my_PD (dC, dI) vwCl A [(co, Sum.inr (1, [Value.int (caI (shC L ca)), Value.int (nI (shP L Pn)), Value.long (lN (shL L)), Value.long xrange, Value.long xcode, Value.long xreadLow, Value.long xreadRange, Value.ref ri, Value.ref ro, Value.ref rw, Value.int xasked])), (rw, Sum.inr (0, [Value.int (nI (shB L ca Pn bs).length), Value.ref rwaq_31])), (rwaq_31, Sum.inl (cI, rwkq_31, Sum.inl rwfq_31))] H := ⟨hP, hD⟩
      have hP := hPD.1
      have hD := hPD.2
      exact my_vretg hx hb hr hlocks hQ hK hS (rwaq_31, rwkq_31, rwfq_31) (show (0 + d_31) + (rPh rwkq_31) ≤ (rPh rwk) by omega) (show (0 + d_31) + (rPh rwkq_31) ≤ (rPh rwk) by omega) (⟨by unfold shB; rw [if_pos hO]; exact hrw_31, by unfold shB; rw [if_pos hO]; exact hGrw_31⟩) (hP.sub [0, 1, 2] rfl) (hD.sub [0, 1, 2] (by decide +kernel) rfl) d_Carries_shiftLow_78
set_option maxHeartbeats 2000000 in
set_option maxRecDepth 100000 in
theorem f_Carries_widen (l : Launch) (dC : Nat → ClassId) (dI : Nat → Nat → Nat) (cI cM cO : ClassId) (sz : Nat) (sl : Nat) (co : Nat) (xcode : Int64) (xreadLow : Int64) (xreadRange : Int64) (ri : Nat) (ro : Nat) (rw : Nat) (xasked : Int32) (Rg : Nat) (L : Nat) (ca : Option Nat) (Pn : Nat) (rwa : Nat) (rwk : Nat) (rwf : Nat → Int32) (bs : List Nat) (hR0 : 0 < Rg) (hR1 : Rg < 4294967296) (hL : L < 8589934592) (hc : ∀ x, ca = some x → x < 256) (hrw : rOk (nI bs.length) rwk) (hGrw : gIs rwf bs) (hN9 : bs.length + Pn + 4 ≤ 7900) : MetVg l y_Carries_widen (Cond.code y_Carries_widen prog_3_method_6_code 2 none :: gw) ({ frames := 5, cells := rPh rwk, slots := rPh rwk, locals := 125 } : Room) (dC, dI) vwCl (kT cI cM cO) [Value.ref co] [(co, Sum.inr (1, [Value.int (caI ca), Value.int (nI Pn), Value.long (lN L), Value.long (lN Rg), Value.long xcode, Value.long xreadLow, Value.long xreadRange, Value.ref ri, Value.ref ro, Value.ref rw, Value.int xasked])), (rw, Sum.inr (0, [Value.int (nI bs.length), Value.ref rwa])), (rwa, Sum.inl (cI, rwk, Sum.inl rwf))] sz sl (fun (u : Nat × Nat × (Nat → Int32)) => rOk (nI (eB (wdS (Rg, L, ca, Pn, bs))).length) u.2.1 ∧ gIs u.2.2 (eB (wdS (Rg, L, ca, Pn, bs)))) (fun (u : Nat × Nat × (Nat → Int32)) => [(co, Sum.inr (1, [Value.int (caI (eC (wdS (Rg, L, ca, Pn, bs)))), Value.int (nI (eP (wdS (Rg, L, ca, Pn, bs)))), Value.long (lN (eL (wdS (Rg, L, ca, Pn, bs)))), Value.long (lN (eR (wdS (Rg, L, ca, Pn, bs)))), Value.long xcode, Value.long xreadLow, Value.long xreadRange, Value.ref ri, Value.ref ro, Value.ref rw, Value.int xasked])), (rw, Sum.inr (0, [Value.int (nI (eB (wdS (Rg, L, ca, Pn, bs))).length), Value.ref u.1])), (u.1, Sum.inl (cI, u.2.1, Sum.inl u.2.2))]) (rPh rwk) (fun (u : Nat × Nat × (Nat → Int32)) => rPh u.2.1) := by
  refine my_ofVg (cc := prog_3_method_6_code) (n := 2) (ret := none) (by decide) rfl (Nat.le_of_ble_eq_true rfl) ?_
  intro p e s m args below meth c R Q A ls H locs hx hb hr hts hown hlocks hml hnm hR hQ hA hl hP hK hN hD hS
  have hg : ∀ w ∈ gw, w.before args s = true := fun w h => hts w (List.mem_cons_of_mem _ h)
  have hown : s.vm.findClass "RangeCoders$Carries" = some m.cls := hown
  have hl : lv_has ls 2 [(0, Value.ref co)] := hl
  have hltw := rOk_lt hrw
  refine lv_iconst (v := 0) hx hb d_Carries_widen_0 (by decide) ?_
  refine lv_istore_n (lv' := [(1, Value.int 0), (0, Value.ref co)]) hx hb d_Carries_widen_1 rfl hl (by decide) rfl (fun ls hl => ?_)
  have J_2 : ∀ (n9_2 : Nat) (e9 : ES) (k9 : Nat) (rwa9 : Nat) (rwk9 : Nat) (rwf9 : Nat → Int32) (d9 : Nat) (hn9_2 : k9 = n9_2) (hE9 : wdS (Rg, L, ca, Pn, bs) = wdN k9 e9) (hk5 : 5 ≤ k9) (hk8 : k9 ≤ 8) (hR9 : wb8 k9 ≤ eR e9) (hR32 : eR e9 < 4294967296) (hO9 : eOk e9) (hM9 : (eB e9).length + eP e9 + k9 ≤ 7904) (hr9 : rOk (nI (eB e9).length) rwk9) (hg9 : gIs rwf9 (eB e9)) (hd9 : d9 + rPh rwk9 ≤ rPh rwk) (H : Heap) (locs : List Loc) (ls : Array Slot), va_P (dC, dI) vwCl [(co, Sum.inr (1, [Value.int (caI (eC e9)), Value.int (nI (eP e9)), Value.long (lN (eL e9)), Value.long (lN (eR e9)), Value.long xcode, Value.long xreadLow, Value.long xreadRange, Value.ref ri, Value.ref ro, Value.ref rw, Value.int xasked])), (rw, Sum.inr (0, [Value.int (nI (eB e9).length), Value.ref rwa9])), (rwa9, Sum.inl (cI, rwk9, Sum.inl rwf9))] H → va_D A [(co, Sum.inr (1, [Value.int (caI (eC e9)), Value.int (nI (eP e9)), Value.long (lN (eL e9)), Value.long (lN (eR e9)), Value.long xcode, Value.long xreadLow, Value.long xreadRange, Value.ref ri, Value.ref ro, Value.ref rw, Value.int xasked])), (rw, Sum.inr (0, [Value.int (nI (eB e9).length), Value.ref rwa9])), (rwa9, Sum.inl (cI, rwk9, Sum.inl rwf9))] → va_S A s.heap H locs → lv_has ls 2 [(1, Value.int (nI (8 - k9))), (0, Value.ref co)] → W p l e R s m args below meth c H locs d9 d9 Q (F0 m 2 ls []) := by
    intro n9_2
    induction n9_2 using Nat.strongRecOn with
    | ind n9_2 ih9_2 =>
      intro e9 k9 rwa9 rwk9 rwf9 d9 hn9_2 hE9 hk5 hk8 hR9 hR32 hO9 hM9 hr9 hg9 hd9 H locs ls hP hD hS hl
      refine lv_iload_n hx hb d_Carries_widen_2 rfl (lv_at hl 0 rfl) ?_
      refine lv_bipush (v := 8) hx hb d_Carries_widen_3 (by decide) ?_
      refine lv_icmp_ge (tgt := 44) hx hb d_Carries_widen_5 (by decide) (fun c_1 => ?_) (fun c_1 => ?_)
      · exact absurd (nI_ge' (n := 8) (by omega) (by decide) c_1) (by omega)
      · refine lv_aload_n hx hb d_Carries_widen_8 rfl (lv_at hl 1 rfl) ?_
        refine va_get (D := (dC, dI)) (ci := 1) (v := .long (lN (eR e9))) (C := "RangeCoders$Carries") (T := T_Carries) (N := 11) hx hb hg in_Carries hown hK hP 0 rfl rfl 3 (by decide) (hg _ k80) (fun x9 h9 => u_same (hg _ k81) x9 h9) rfl d_Carries_widen_9 ?_
        refine lv_ldc2 (v := 16777216) hx hb hown (hg _ k461) d_Carries_widen_12 ?_
        refine W.lcmp hx hb d_Carries_widen_15 ?_
        refine lv_if_ge (tgt := 44) hx hb d_Carries_widen_16 (by decide) (fun c_2 => ?_) (fun c_2 => ?_)
        · rw [lg_cmp_ge] at c_2
          have hge : ¬ eR e9 < 16777216 := by have q := (L_le (a := 16777216) (by decide) (by omega)).mp c_2; omega
          have z9 : e9 = wdS (Rg, L, ca, Pn, bs) := by rw [hE9, wdN_e hge]
          subst z9
          exact my_vretg hx hb hr hlocks hQ hK hS (rwa9, rwk9, rwf9) (show d9 + (rPh rwk9) ≤ (rPh rwk) by omega) (show d9 + (rPh rwk9) ≤ (rPh rwk) by omega) (⟨hr9, hg9⟩) (hP.sub [0, 1, 2] rfl) (hD.sub [0, 1, 2] (by decide +kernel) rfl) d_Carries_widen_44
        · rw [lg_cmp_ge] at c_2
          have hlt : eR e9 < 16777216 := by
            rcases Nat.lt_or_ge (eR e9) 16777216 with q | q
            · exact q
            · exact absurd ((L_le (a := 16777216) (by decide) (by omega)).mpr q) c_2
          have hk6 := wb8_k hk5 hR9 hlt
          refine lv_aload_n hx hb d_Carries_widen_19 rfl (lv_at hl 1 rfl) ?_
          refine lv_aload_n hx hb d_Carries_widen_20 rfl (lv_at hl 1 rfl) ?_
          refine va_get (D := (dC, dI)) (ci := 1) (v := .long (lN (eR e9))) (C := "RangeCoders$Carries") (T := T_Carries) (N := 11) hx hb hg in_Carries hown hK hP 0 rfl rfl 3 (by decide) (hg _ k80) (fun x9 h9 => u_same (hg _ k81) x9 h9) rfl d_Carries_widen_21 ?_
          refine lv_bipush (v := 8) hx hb d_Carries_widen_24 (by decide) ?_
          refine lv_lshl hx hb d_Carries_widen_26 rfl ?_
          refine lv_topl (fun v_3 ev_3 => ?_)
          refine lv_ldc2 (v := 4294967295) hx hb hown (hg _ k462) d_Carries_widen_27 ?_
          refine lv_land hx hb d_Carries_widen_30 ?_
          refine lv_topl (fun v_4 ev_4 => ?_)
          have z9 : v_4 = lN (eR e9 * 256) := by subst_vars; rw [L_shl8, L_and32 (by omega), Nat.mod_eq_of_lt (by omega)]
          subst z9
          refine va_put (D := (dC, dI)) (ci := 1) (v := .long (lN (eR e9 * 256))) (ty := .long) (C := "RangeCoders$Carries") (T := T_Carries) (N := 11) hx hb hg in_Carries t_Carries o_Carries n_Carries hown hK hP hD hS 0 rfl rfl 3 (by decide) (hg _ k80) (fun x9 h9 => u_same (hg _ k81) x9 h9) rfl (by decide +kernel) rfl rfl (Nat.le_of_ble_eq_true rfl) d_Carries_widen_31 (fun H locs hP hD hS => ?_)
          have hPD : my_PD (dC, dI) vwCl A [(co, Sum.inr (1, [Value.int (caI (eC e9)), Value.int (nI (eP e9)), Value.long (lN (eL e9)), Value.long (lN (eR e9 * 256)), Value.long xcode, Value.long xreadLow, Value.long xreadRange, Value.ref ri, Value.ref ro, Value.ref rw, Value.int xasked])), (rw, Sum.inr (0, [Value.int (nI (eB e9).length), Value.ref rwa9])), (rwa9, Sum.inl (cI, rwk9, Sum.inl rwf9))] H := ⟨hP, hD⟩
          have hP := hPD.1
          have hD := hPD.2
          refine lv_aload_n hx hb d_Carries_widen_34 rfl (lv_at hl 1 rfl) ?_
          refine my_cvg (wr := []) (va_runV (As := []) (rest := []) ⟨hx, hb, hml, hown, hts⟩ (f_Carries_shiftLow l dC dI cI cM cO H.size (hSl H) co (lN (eR e9 * 256)) xcode xreadLow xreadRange ri ro rw xasked (eL e9) (eC e9) (eP e9) rwa9 rwk9 rwf9 (eB e9) (hO9.1) (hO9.2) (hr9) (hg9) (by omega)) (cwV 0 hts (my_gV k463 k465 ks6 k5 k466) rfl rfl rfl (by decide +kernel) ⟨by rw [hR]; exact Nat.le_of_ble_eq_true rfl, by rw [hR]; exact Nat.le_of_ble_eq_true rfl⟩) (my_preVg hK hN (hP.sub [0, 1, 2] rfl) (hD.sub [0, 1, 2] (by decide +kernel) rfl) 0 rfl rfl) rfl rfl hl.1 rfl (lv_room (Nat.le_of_ble_eq_true rfl)) d_Carries_widen_35 ⟨by rw [hR]; exact (show d9 + (rPh rwk9) ≤ (rPh rwk) by omega), by rw [hR]; exact (show d9 + (rPh rwk9) ≤ (rPh rwk) by omega)⟩) hP hD hS hA [0, 1, 2] [] rfl rfl (by decide +kernel) (by decide +kernel) (fun u9 d_35 H locs hd_35 hw_35 hP hD hS => ?_)
          obtain ⟨rwaq_35, rwkq_35, rwfq_35⟩ := u9
          obtain ⟨hrw_35, hGrw_35⟩ : rOk (nI (shB (eL e9) (eC e9) (eP e9) (eB e9)).length) rwkq_35 ∧ gIs rwfq_35 (shB (eL e9) (eC e9) (eP e9) (eB e9)) := hw_35
          have hd_35 : d_35 + (rPh rwkq_35) ≤ (rPh rwk9) := hd_35
          have hPD : my_PD (dC, dI) vwCl A [(co, Sum.inr (1, [Value.int (caI (shC (eL e9) (eC e9))), Value.int (nI (shP (eL e9) (eP e9))), Value.long (lN (shL (eL e9))), Value.long (lN (eR e9 * 256)), Value.long xcode, Value.long xreadLow, Value.long xreadRange, Value.ref ri, Value.ref ro, Value.ref rw, Value.int xasked])), (rw, Sum.inr (0, [Value.int (nI (shB (eL e9) (eC e9) (eP e9) (eB e9)).length), Value.ref rwaq_35])), (rwaq_35, Sum.inl (cI, rwkq_35, Sum.inl rwfq_35))] H := ⟨hP, hD⟩
          have hP := hPD.1
          have hD := hPD.2
          obtain ⟨v_5, ev_5⟩ : ∃ y : Int32, y = (nI (8 - k9)) + (1) := ⟨_, rfl⟩
          refine lv_iinc (v := v_5) (lv' := [(1, Value.int v_5), (0, Value.ref co)]) hx hb d_Carries_widen_38 hl (k := 0) rfl (by rw [ev_5]; rfl) (by decide) rfl (fun ls hl => ?_)
          have z9 : v_5 = nI (8 - (k9 - 1)) := by rw [ev_5, show 8 - (k9 - 1) = 8 - k9 + 1 by omega]; exact nI_1 _
          subst z9
          refine lv_goto (tgt := 2) hx hb d_Carries_widen_41 (by decide) ?_
          exact ih9_2 _ (by first | omega | (omega)) (shS (eR e9 * 256, e9.2)) (k9 - 1) rwaq_35 rwkq_35 rwfq_35 (d9 + d_35) rfl (by rw [hE9, wdN_s (by omega) hlt]) (by omega) (by omega) (wb8_s hk6 hk8 hR9) (by show eR e9 * 256 < _; omega) (eOk_sh (e := (eR e9 * 256, e9.2)) hO9) (by have q := eN_sh (eR e9 * 256, e9.2); simp only [eN, eB, eP] at q hM9 ⊢; omega) (hrw_35) (hGrw_35) (by omega) H locs ls (hP.sub [0, 1, 2] rfl) (hD.sub [0, 1, 2] (by decide +kernel) rfl) hS (lv_sub hl [0, 1] rfl)
  exact J_2 _ (Rg, L, ca, Pn, bs) (8 : Nat) rwa rwk rwf (0 : Nat) rfl (rfl) (by decide) (by decide) (hR0) (hR1) (⟨hL, hc⟩) (by show bs.length + Pn + 8 ≤ _; omega) (hrw) (hGrw) (by omega) H locs ls (hP.sub [0, 1, 2] rfl) (hD.sub [0, 1, 2] (by decide +kernel) rfl) hS (lv_sub hl [0, 1] rfl)
set_option maxHeartbeats 2000000 in
set_option maxRecDepth 100000 in
theorem f_Carries_writePart (l : Launch) (dC : Nat → ClassId) (dI : Nat → Nat → Nat) (cI cM cO : ClassId) (sz : Nat) (sl : Nat) (co : Nat) (xcode : Int64) (xreadLow : Int64) (xreadRange : Int64) (ri : Nat) (ro : Nat) (rw : Nat) (xasked : Int32) (Rg : Nat) (L : Nat) (ca : Option Nat) (Pn : Nat) (rwa : Nat) (rwk : Nat) (rwf : Nat → Int32) (bs : List Nat) (cc : Nat) (ff : Nat) (tt : Nat) (ht0 : 0 < tt) (ht1 : tt < 2 ^ 31) (hcf : cc + ff ≤ tt) (hff : 0 < ff) (hRt : tt ≤ Rg) (hR1 : Rg < 4294967296) (hL : L + Rg ≤ 8589934592) (hc : ∀ x, ca = some x → x < 256) (hrw : rOk (nI bs.length) rwk) (hGrw : gIs rwf bs) (hN9 : bs.length + Pn + 4 ≤ 7900) : MetVg l y_Carries_writePart (Cond.code y_Carries_writePart prog_3_method_3_code 6 none :: gw) ({ frames := 6, cells := rPh rwk, slots := rPh rwk, locals := 146 } : Room) (dC, dI) vwCl (kT cI cM cO) [Value.ref co, Value.int (nI ff), Value.int (nI cc), Value.int (nI tt)] [(co, Sum.inr (1, [Value.int (caI ca), Value.int (nI Pn), Value.long (lN L), Value.long (lN Rg), Value.long xcode, Value.long xreadLow, Value.long xreadRange, Value.ref ri, Value.ref ro, Value.ref rw, Value.int xasked])), (rw, Sum.inr (0, [Value.int (nI bs.length), Value.ref rwa])), (rwa, Sum.inl (cI, rwk, Sum.inl rwf))] sz sl (fun (u : Nat × Nat × (Nat → Int32)) => rOk (nI (eB (wdS (Rg / tt * ff, L + Rg / tt * cc, ca, Pn, bs))).length) u.2.1 ∧ gIs u.2.2 (eB (wdS (Rg / tt * ff, L + Rg / tt * cc, ca, Pn, bs)))) (fun (u : Nat × Nat × (Nat → Int32)) => [(co, Sum.inr (1, [Value.int (caI (eC (wdS (Rg / tt * ff, L + Rg / tt * cc, ca, Pn, bs)))), Value.int (nI (eP (wdS (Rg / tt * ff, L + Rg / tt * cc, ca, Pn, bs)))), Value.long (lN (eL (wdS (Rg / tt * ff, L + Rg / tt * cc, ca, Pn, bs)))), Value.long (lN (eR (wdS (Rg / tt * ff, L + Rg / tt * cc, ca, Pn, bs)))), Value.long xcode, Value.long xreadLow, Value.long xreadRange, Value.ref ri, Value.ref ro, Value.ref rw, Value.int xasked])), (rw, Sum.inr (0, [Value.int (nI (eB (wdS (Rg / tt * ff, L + Rg / tt * cc, ca, Pn, bs))).length), Value.ref u.1])), (u.1, Sum.inl (cI, u.2.1, Sum.inl u.2.2))]) (rPh rwk) (fun (u : Nat × Nat × (Nat → Int32)) => rPh u.2.1) := by
  refine my_ofVg (cc := prog_3_method_3_code) (n := 6) (ret := none) (by decide) rfl (Nat.le_of_ble_eq_true rfl) ?_
  intro p e s m args below meth c R Q A ls H locs hx hb hr hts hown hlocks hml hnm hR hQ hA hl hP hK hN hD hS
  have hg : ∀ w ∈ gw, w.before args s = true := fun w h => hts w (List.mem_cons_of_mem _ h)
  have hown : s.vm.findClass "RangeCoders$Carries" = some m.cls := hown
  have hl : lv_has ls 6 [(0, Value.ref co), (1, Value.int (nI ff)), (2, Value.int (nI cc)), (3, Value.int (nI tt))] := hl
  have hltw := rOk_lt hrw
  have hd1 : Rg / tt * tt ≤ Rg := Nat.div_mul_le_self _ _
  have hd2 : Rg / tt * cc + Rg / tt * ff ≤ Rg / tt * tt := by rw [← Nat.mul_add]; exact Nat.mul_le_mul_left _ hcf
  have hd3 : 0 < Rg / tt := Nat.div_pos hRt ht0
  have hd4 : 0 < Rg / tt * ff := Nat.mul_pos hd3 hff
  have hd5 : Rg / tt ≤ Rg := Nat.div_le_self _ _
  generalize hrc : Rg / tt * cc = rc at hd2
  generalize hrf : Rg / tt * ff = rf at hd2 hd4
  refine lv_iload_n hx hb d_Carries_writePart_0 rfl (lv_at hl 3 rfl) ?_
  refine lv_if_le (tgt := 14) hx hb d_Carries_writePart_1 (by decide) (fun c_1 => ?_) (fun c_1 => ?_)
  · exact absurd c_1 (nI_nle ht0 (by omega))
  · refine lv_aload_n hx hb d_Carries_writePart_4 rfl (lv_at hl 0 rfl) ?_
    refine va_get (D := (dC, dI)) (ci := 1) (v := .long (lN Rg)) (C := "RangeCoders$Carries") (T := T_Carries) (N := 11) hx hb hg in_Carries hown hK hP 0 rfl rfl 3 (by decide) (hg _ k80) (fun x9 h9 => u_same (hg _ k81) x9 h9) rfl d_Carries_writePart_5 ?_
    refine lv_iload_n hx hb d_Carries_writePart_8 rfl (lv_at hl 3 rfl) ?_
    refine lv_i2l hx hb d_Carries_writePart_9 rfl ?_
    refine lv_topl (fun v_2 ev_2 => ?_)
    refine lv_ldiv hx hb d_Carries_writePart_10 (by rw [ev_2]; rw [nI_l (by omega)]; intro z; have := (pk_lEQ (b := 0) (by omega) (by decide)).mp z; omega) ?_
    refine lv_topl (fun v_3 ev_3 => ?_)
    refine lv_goto (tgt := 15) hx hb d_Carries_writePart_11 (by decide) ?_
    have z9 : v_3 = lN (Rg / tt) := by subst_vars; rw [nI_l (by omega)]; exact pk_lDiv (by omega) ht0 (by omega)
    subst z9
    refine lv_lstore (lv' := [(4, Value.long (lN (Rg / tt))), (0, Value.ref co), (1, Value.int (nI ff)), (2, Value.int (nI cc)), (3, Value.int (nI tt))]) hx hb d_Carries_writePart_15 hl (by decide) rfl (fun ls hl => ?_)
    refine lv_aload_n hx hb d_Carries_writePart_17 rfl (lv_at hl 1 rfl) ?_
    refine lv_dup hx hb d_Carries_writePart_18 rfl ?_
    refine va_get (D := (dC, dI)) (ci := 1) (v := .long (lN L)) (C := "RangeCoders$Carries") (T := T_Carries) (N := 11) hx hb hg in_Carries hown hK hP 0 rfl rfl 2 (by decide) (hg _ k72) (fun x9 h9 => u_same (hg _ k73) x9 h9) rfl d_Carries_writePart_19 ?_
    refine lv_lload hx hb d_Carries_writePart_22 (lv_at hl 0 rfl) ?_
    refine lv_iload_n hx hb d_Carries_writePart_24 rfl (lv_at hl 3 rfl) ?_
    refine lv_i2l hx hb d_Carries_writePart_25 rfl ?_
    refine lv_topl (fun v_4 ev_4 => ?_)
    refine lv_lmul hx hb d_Carries_writePart_26 ?_
    refine lv_topl (fun v_5 ev_5 => ?_)
    refine lv_ladd hx hb d_Carries_writePart_27 ?_
    refine lv_topl (fun v_6 ev_6 => ?_)
    have z9 : v_6 = lN (L + rc) := by subst_vars; rw [nI_l (by omega), lN_mul, lN_add]
    subst z9
    refine va_put (D := (dC, dI)) (ci := 1) (v := .long (lN (L + rc))) (ty := .long) (C := "RangeCoders$Carries") (T := T_Carries) (N := 11) hx hb hg in_Carries t_Carries o_Carries n_Carries hown hK hP hD hS 0 rfl rfl 2 (by decide) (hg _ k72) (fun x9 h9 => u_same (hg _ k73) x9 h9) rfl (by decide +kernel) rfl rfl (Nat.le_of_ble_eq_true rfl) d_Carries_writePart_28 (fun H locs hP hD hS => ?_)
    have hPD : my_PD (dC, dI) vwCl A [(co, Sum.inr (1, [Value.int (caI ca), Value.int (nI Pn), Value.long (lN (L + rc)), Value.long (lN Rg), Value.long xcode, Value.long xreadLow, Value.long xreadRange, Value.ref ri, Value.ref ro, Value.ref rw, Value.int xasked])), (rw, Sum.inr (0, [Value.int (nI bs.length), Value.ref rwa])), (rwa, Sum.inl (cI, rwk, Sum.inl rwf))] H := ⟨hP, hD⟩
    have hP := hPD.1
    have hD := hPD.2
    refine lv_aload_n hx hb d_Carries_writePart_31 rfl (lv_at hl 1 rfl) ?_
    refine lv_lload hx hb d_Carries_writePart_32 (lv_at hl 0 rfl) ?_
    refine lv_iload_n hx hb d_Carries_writePart_34 rfl (lv_at hl 2 rfl) ?_
    refine lv_i2l hx hb d_Carries_writePart_35 rfl ?_
    refine lv_topl (fun v_7 ev_7 => ?_)
    refine lv_lmul hx hb d_Carries_writePart_36 ?_
    refine lv_topl (fun v_8 ev_8 => ?_)
    have z9 : v_8 = lN rf := by subst_vars; rw [nI_l (by omega), lN_mul]
    subst z9
    refine va_put (D := (dC, dI)) (ci := 1) (v := .long (lN rf)) (ty := .long) (C := "RangeCoders$Carries") (T := T_Carries) (N := 11) hx hb hg in_Carries t_Carries o_Carries n_Carries hown hK hP hD hS 0 rfl rfl 3 (by decide) (hg _ k80) (fun x9 h9 => u_same (hg _ k81) x9 h9) rfl (by decide +kernel) rfl rfl (Nat.le_of_ble_eq_true rfl) d_Carries_writePart_37 (fun H locs hP hD hS => ?_)
    have hPD : my_PD (dC, dI) vwCl A [(co, Sum.inr (1, [Value.int (caI ca), Value.int (nI Pn), Value.long (lN (L + rc)), Value.long (lN rf), Value.long xcode, Value.long xreadLow, Value.long xreadRange, Value.ref ri, Value.ref ro, Value.ref rw, Value.int xasked])), (rw, Sum.inr (0, [Value.int (nI bs.length), Value.ref rwa])), (rwa, Sum.inl (cI, rwk, Sum.inl rwf))] H := ⟨hP, hD⟩
    have hP := hPD.1
    have hD := hPD.2
    refine lv_aload_n hx hb d_Carries_writePart_40 rfl (lv_at hl 1 rfl) ?_
    refine my_cvg (wr := []) (va_runV (As := []) (rest := []) ⟨hx, hb, hml, hown, hts⟩ (f_Carries_widen l dC dI cI cM cO H.size (hSl H) co xcode xreadLow xreadRange ri ro rw xasked rf (L + rc) ca Pn rwa rwk rwf bs (hd4) (by omega) (by omega) (by first | assumption | omega) (by first | assumption | omega) (by first | assumption | omega) (hN9)) (cwV 0 hts (my_gV k504 k459 k1285 k5 k460) rfl rfl rfl (by decide +kernel) ⟨by rw [hR]; exact Nat.le_of_ble_eq_true rfl, by rw [hR]; exact Nat.le_of_ble_eq_true rfl⟩) (my_preVg hK hN (hP.sub [0, 1, 2] rfl) (hD.sub [0, 1, 2] (by decide +kernel) rfl) 0 rfl rfl) rfl rfl hl.1 rfl (lv_room (Nat.le_of_ble_eq_true rfl)) d_Carries_writePart_41 ⟨by rw [hR]; exact (show 0 + (rPh rwk) ≤ (rPh rwk) by omega), by rw [hR]; exact (show 0 + (rPh rwk) ≤ (rPh rwk) by omega)⟩) hP hD hS hA [0, 1, 2] [] rfl rfl (by decide +kernel) (by decide +kernel) (fun u9 d_41 H locs hd_41 hw_41 hP hD hS => ?_)
    obtain ⟨rwaq_41, rwkq_41, rwfq_41⟩ := u9
    obtain ⟨hrw_41, hGrw_41⟩ : rOk (nI (eB (wdS (rf, (L + rc), ca, Pn, bs))).length) rwkq_41 ∧ gIs rwfq_41 (eB (wdS (rf, (L + rc), ca, Pn, bs))) := hw_41
    have hd_41 : d_41 + (rPh rwkq_41) ≤ (rPh rwk) := hd_41
    have hPD : my_PD (dC, dI) vwCl A [(co, Sum.inr (1, [Value.int (caI (eC (wdS (rf, (L + rc), ca, Pn, bs)))), Value.int (nI (eP (wdS (rf, (L + rc), ca, Pn, bs)))), Value.long (lN (eL (wdS (rf, (L + rc), ca, Pn, bs)))), Value.long (lN (eR (wdS (rf, (L + rc), ca, Pn, bs)))), Value.long xcode, Value.long xreadLow, Value.long xreadRange, Value.ref ri, Value.ref ro, Value.ref rw, Value.int xasked])), (rw, Sum.inr (0, [Value.int (nI (eB (wdS (rf, (L + rc), ca, Pn, bs))).length), Value.ref rwaq_41])), (rwaq_41, Sum.inl (cI, rwkq_41, Sum.inl rwfq_41))] H := ⟨hP, hD⟩
    have hP := hPD.1
    have hD := hPD.2
    subst hrc
    subst hrf
    have hPD : my_PD (dC, dI) vwCl A [(co, Sum.inr (1, [Value.int (caI (eC (wdS ((Rg / tt * ff), (L + (Rg / tt * cc)), ca, Pn, bs)))), Value.int (nI (eP (wdS ((Rg / tt * ff), (L + (Rg / tt * cc)), ca, Pn, bs)))), Value.long (lN (eL (wdS ((Rg / tt * ff), (L + (Rg / tt * cc)), ca, Pn, bs)))), Value.long (lN (eR (wdS ((Rg / tt * ff), (L + (Rg / tt * cc)), ca, Pn, bs)))), Value.long xcode, Value.long xreadLow, Value.long xreadRange, Value.ref ri, Value.ref ro, Value.ref rw, Value.int xasked])), (rw, Sum.inr (0, [Value.int (nI (eB (wdS ((Rg / tt * ff), (L + (Rg / tt * cc)), ca, Pn, bs))).length), Value.ref rwaq_41])), (rwaq_41, Sum.inl (cI, rwkq_41, Sum.inl rwfq_41))] H := ⟨hP, hD⟩
    have hP := hPD.1
    have hD := hPD.2
    exact my_vretg hx hb hr hlocks hQ hK hS (rwaq_41, rwkq_41, rwfq_41) (show (0 + d_41) + (rPh rwkq_41) ≤ (rPh rwk) by omega) (show (0 + d_41) + (rPh rwkq_41) ≤ (rPh rwk) by omega) (⟨by subst_vars; exact hrw_41, by subst_vars; exact hGrw_41⟩) (hP.sub [0, 1, 2] rfl) (hD.sub [0, 1, 2] (by decide +kernel) rfl) d_Carries_writePart_44
set_option maxHeartbeats 2000000 in
set_option maxRecDepth 100000 in
theorem f_Carries_writeValue (l : Launch) (dC : Nat → ClassId) (dI : Nat → Nat → Nat) (cI cM cO : ClassId) (sz : Nat) (sl : Nat) (co : Nat) (xcode : Int64) (xreadLow : Int64) (xreadRange : Int64) (ri : Nat) (ro : Nat) (rw : Nat) (xasked : Int32) (Rg : Nat) (L : Nat) (ca : Option Nat) (Pn : Nat) (rwa : Nat) (rwk : Nat) (rwf : Nat → Int32) (bs : List Nat) (v : Nat) (b : Nat) (hb1 : 1 ≤ b) (hb2 : b ≤ 12) (hv : v < 2 ^ b) (hE : eInv (Rg, L, ca, Pn, bs)) (hrw : rOk (nI bs.length) rwk) (hGrw : gIs rwf bs) (hN9 : bs.length + Pn + 20 ≤ 7900) : MetVg l y_Ranged_writeValue (Cond.code y_Ranged_writeValue prog_8_method_8_code 3 none :: gw) ({ frames := 7, cells := rPh rwk, slots := rPh rwk, locals := 171 } : Room) (dC, dI) vwCl (kT cI cM cO) [Value.ref co, Value.int (nI v), Value.int (nI b)] [(co, Sum.inr (1, [Value.int (caI ca), Value.int (nI Pn), Value.long (lN L), Value.long (lN Rg), Value.long xcode, Value.long xreadLow, Value.long xreadRange, Value.ref ri, Value.ref ro, Value.ref rw, Value.int xasked])), (rw, Sum.inr (0, [Value.int (nI bs.length), Value.ref rwa])), (rwa, Sum.inl (cI, rwk, Sum.inl rwf))] sz sl (fun (u : Nat × Nat × (Nat → Int32)) => rOk (nI (eB (wdS (Rg / 2 ^ b * 1, L + Rg / 2 ^ b * v, ca, Pn, bs))).length) u.2.1 ∧ gIs u.2.2 (eB (wdS (Rg / 2 ^ b * 1, L + Rg / 2 ^ b * v, ca, Pn, bs)))) (fun (u : Nat × Nat × (Nat → Int32)) => [(co, Sum.inr (1, [Value.int (caI (eC (wdS (Rg / 2 ^ b * 1, L + Rg / 2 ^ b * v, ca, Pn, bs)))), Value.int (nI (eP (wdS (Rg / 2 ^ b * 1, L + Rg / 2 ^ b * v, ca, Pn, bs)))), Value.long (lN (eL (wdS (Rg / 2 ^ b * 1, L + Rg / 2 ^ b * v, ca, Pn, bs)))), Value.long (lN (eR (wdS (Rg / 2 ^ b * 1, L + Rg / 2 ^ b * v, ca, Pn, bs)))), Value.long xcode, Value.long xreadLow, Value.long xreadRange, Value.ref ri, Value.ref ro, Value.ref rw, Value.int xasked])), (rw, Sum.inr (0, [Value.int (nI (eB (wdS (Rg / 2 ^ b * 1, L + Rg / 2 ^ b * v, ca, Pn, bs))).length), Value.ref u.1])), (u.1, Sum.inl (cI, u.2.1, Sum.inl u.2.2))]) (rPh rwk) (fun (u : Nat × Nat × (Nat → Int32)) => rPh u.2.1) := by
  refine my_ofVg (cc := prog_8_method_8_code) (n := 3) (ret := none) (by decide) rfl (Nat.le_of_ble_eq_true rfl) ?_
  intro p e s m args below meth c R Q A ls H locs hx hb hr hts hown hlocks hml hnm hR hQ hA hl hP hK hN hD hS
  have hg : ∀ w ∈ gw, w.before args s = true := fun w h => hts w (List.mem_cons_of_mem _ h)
  have hown : s.vm.findClass "RangeCoders$Ranged" = some m.cls := hown
  have hl : lv_has ls 3 [(0, Value.ref co), (1, Value.int (nI v)), (2, Value.int (nI b))] := hl
  have hltw := rOk_lt hrw
  obtain ⟨hI1, hI2, hI3, hI4⟩ := id hE
  simp only [eR, eL, eC] at hI1 hI2 hI3 hI4
  have hpw : 2 ^ b ≤ 2 ^ 12 := Nat.pow_le_pow_right (by decide) hb2
  have hpw0 : 0 < 2 ^ b := Nat.pow_pos (by decide)
  refine lv_aload_n hx hb d_Ranged_writeValue_0 rfl (lv_at hl 0 rfl) ?_
  refine lv_iconst (v := 1) hx hb d_Ranged_writeValue_1 (by decide) ?_
  refine lv_iload_n hx hb d_Ranged_writeValue_2 rfl (lv_at hl 1 rfl) ?_
  refine lv_iconst (v := 1) hx hb d_Ranged_writeValue_3 (by decide) ?_
  refine lv_iload_n hx hb d_Ranged_writeValue_4 rfl (lv_at hl 2 rfl) ?_
  refine lv_ishl hx hb d_Ranged_writeValue_5 ?_
  refine lv_topi (fun v_1 ev_1 => ?_)
  have z9 : v_1 = nI (2 ^ b) := by rw [ev_1]; exact shl1 b (by omega)
  subst z9
  refine W.eq (g2 := F0 m 6 ls [Value.int (nI (2 ^ b)), Value.int (nI v), Value.int (nI 1), Value.ref co]) rfl ?_
  refine my_cvg (wr := []) (va_runU (As := [Value.int (nI 1), Value.int (nI v), Value.int (nI (2 ^ b))]) (rest := []) ⟨hx, hb, hml, hown, hts⟩ (f_Carries_writePart l dC dI cI cM cO H.size (hSl H) co xcode xreadLow xreadRange ri ro rw xasked Rg L ca Pn rwa rwk rwf bs v 1 (2 ^ b) (hpw0) (by omega) (hv) (by decide) (by omega) (hI2) (hI3) (hI4) (by first | assumption | omega) (by first | assumption | omega) (by omega)) (va_cwA 3 hts (my_gU k498 k500 k505 k502 k5 k503) rfl rfl rfl (hN.1 _ j499 rfl) (by decide +kernel) ⟨by rw [hR]; exact Nat.le_of_ble_eq_true rfl, by rw [hR]; exact Nat.le_of_ble_eq_true rfl⟩) (my_preVg hK hN (hP.sub [0, 1, 2] rfl) (hD.sub [0, 1, 2] (by decide +kernel) rfl) 0 rfl rfl) rfl rfl hl.1 rfl (lv_room (Nat.le_of_ble_eq_true rfl)) d_Ranged_writeValue_6 ⟨by rw [hR]; exact (show 0 + (rPh rwk) ≤ (rPh rwk) by omega), by rw [hR]; exact (show 0 + (rPh rwk) ≤ (rPh rwk) by omega)⟩) hP hD hS hA [0, 1, 2] [] rfl rfl (by decide +kernel) (by decide +kernel) (fun u9 d_6 H locs hd_6 hw_6 hP hD hS => ?_)
  obtain ⟨rwaq_6, rwkq_6, rwfq_6⟩ := u9
  obtain ⟨hrw_6, hGrw_6⟩ : rOk (nI (eB (wdS (Rg / (2 ^ b) * 1, L + Rg / (2 ^ b) * v, ca, Pn, bs))).length) rwkq_6 ∧ gIs rwfq_6 (eB (wdS (Rg / (2 ^ b) * 1, L + Rg / (2 ^ b) * v, ca, Pn, bs))) := hw_6
  have hd_6 : d_6 + (rPh rwkq_6) ≤ (rPh rwk) := hd_6
  have hPD : my_PD (dC, dI) vwCl A [(co, Sum.inr (1, [Value.int (caI (eC (wdS (Rg / (2 ^ b) * 1, L + Rg / (2 ^ b) * v, ca, Pn, bs)))), Value.int (nI (eP (wdS (Rg / (2 ^ b) * 1, L + Rg / (2 ^ b) * v, ca, Pn, bs)))), Value.long (lN (eL (wdS (Rg / (2 ^ b) * 1, L + Rg / (2 ^ b) * v, ca, Pn, bs)))), Value.long (lN (eR (wdS (Rg / (2 ^ b) * 1, L + Rg / (2 ^ b) * v, ca, Pn, bs)))), Value.long xcode, Value.long xreadLow, Value.long xreadRange, Value.ref ri, Value.ref ro, Value.ref rw, Value.int xasked])), (rw, Sum.inr (0, [Value.int (nI (eB (wdS (Rg / (2 ^ b) * 1, L + Rg / (2 ^ b) * v, ca, Pn, bs))).length), Value.ref rwaq_6])), (rwaq_6, Sum.inl (cI, rwkq_6, Sum.inl rwfq_6))] H := ⟨hP, hD⟩
  have hP := hPD.1
  have hD := hPD.2
  exact my_vretg hx hb hr hlocks hQ hK hS (rwaq_6, rwkq_6, rwfq_6) (show (0 + d_6) + (rPh rwkq_6) ≤ (rPh rwk) by omega) (show (0 + d_6) + (rPh rwkq_6) ≤ (rPh rwk) by omega) (⟨hrw_6, hGrw_6⟩) (hP.sub [0, 1, 2] rfl) (hD.sub [0, 1, 2] (by decide +kernel) rfl) d_Ranged_writeValue_9
set_option maxHeartbeats 2000000 in
set_option maxRecDepth 100000 in
theorem f_Carries_writeSign (l : Launch) (dC : Nat → ClassId) (dI : Nat → Nat → Nat) (cI cM cO : ClassId) (sz : Nat) (sl : Nat) (co : Nat) (xcode : Int64) (xreadLow : Int64) (xreadRange : Int64) (ri : Nat) (ro : Nat) (rw : Nat) (xasked : Int32) (Rg : Nat) (L : Nat) (ca : Option Nat) (Pn : Nat) (rwa : Nat) (rwk : Nat) (rwf : Nat → Int32) (bs : List Nat) (oo : Nat) (osg : Int32) (ofc : Int32) (oca : Nat) (opa : Nat) (n : Nat) (ocf : Nat → Int32) (opl : Nat) (opf : Nat → Int32) (F : Nat → Nat) (t : Nat) (hn : n ≤ 64) (hpl : opl ≤ 512) (hf : tbI ocf n F) (ht : t < n) (hfc : ofc ≤ nI t) (hFt : 0 < F t) (hsum : ns F n ≤ 8192) (hE : eInv (Rg, L, ca, Pn, bs)) (hrw : rOk (nI bs.length) rwk) (hGrw : gIs rwf bs) (hN9 : bs.length + Pn + 20 ≤ 7900) : MetVg l y_Ranged_writeSign (Cond.code y_Ranged_writeSign prog_8_method_7_code 3 none :: gw) ({ frames := 7, cells := rPh rwk, slots := rPh rwk, locals := 171 } : Room) (dC, dI) vwCl (kT cI cM cO) [Value.ref co, Value.ref oo, Value.int (nI t)] [(co, Sum.inr (1, [Value.int (caI ca), Value.int (nI Pn), Value.long (lN L), Value.long (lN Rg), Value.long xcode, Value.long xreadLow, Value.long xreadRange, Value.ref ri, Value.ref ro, Value.ref rw, Value.int xasked])), (rw, Sum.inr (0, [Value.int (nI bs.length), Value.ref rwa])), (rwa, Sum.inl (cI, rwk, Sum.inl rwf)), (oo, Sum.inr (7, [Value.int osg, Value.int (nI (ns F n)), Value.int ofc, Value.ref oca, Value.ref opa])), (oca, Sum.inl (cI, n, Sum.inl ocf)), (opa, Sum.inl (cI, opl, Sum.inl opf))] sz sl (fun (u : Nat × Nat × (Nat → Int32) × (Nat → Int32)) => rOk (nI (eB (wdS (Rg / ns F n * F t, L + Rg / ns F n * ns F t, ca, Pn, bs))).length) u.2.1 ∧ gIs u.2.2.1 (eB (wdS (Rg / ns F n * F t, L + Rg / ns F n * ns F t, ca, Pn, bs))) ∧ tbI u.2.2.2 n (lrn n t F)) (fun (u : Nat × Nat × (Nat → Int32) × (Nat → Int32)) => [(co, Sum.inr (1, [Value.int (caI (eC (wdS (Rg / ns F n * F t, L + Rg / ns F n * ns F t, ca, Pn, bs)))), Value.int (nI (eP (wdS (Rg / ns F n * F t, L + Rg / ns F n * ns F t, ca, Pn, bs)))), Value.long (lN (eL (wdS (Rg / ns F n * F t, L + Rg / ns F n * ns F t, ca, Pn, bs)))), Value.long (lN (eR (wdS (Rg / ns F n * F t, L + Rg / ns F n * ns F t, ca, Pn, bs)))), Value.long xcode, Value.long xreadLow, Value.long xreadRange, Value.ref ri, Value.ref ro, Value.ref rw, Value.int xasked])), (rw, Sum.inr (0, [Value.int (nI (eB (wdS (Rg / ns F n * F t, L + Rg / ns F n * ns F t, ca, Pn, bs))).length), Value.ref u.1])), (u.1, Sum.inl (cI, u.2.1, Sum.inl u.2.2.1)), (oo, Sum.inr (7, [Value.int osg, Value.int (nI (ns (lrn n t F) n)), Value.int ofc, Value.ref oca, Value.ref opa])), (oca, Sum.inl (cI, n, Sum.inl u.2.2.2)), (opa, Sum.inl (cI, opl, Sum.inl opf))]) (rPh rwk) (fun (u : Nat × Nat × (Nat → Int32) × (Nat → Int32)) => rPh u.2.1) := by
  refine my_ofVg (cc := prog_8_method_7_code) (n := 3) (ret := none) (by decide) rfl (Nat.le_of_ble_eq_true rfl) ?_
  intro p e s m args below meth c R Q A ls H locs hx hb hr hts hown hlocks hml hnm hR hQ hA hl hP hK hN hD hS
  have hg : ∀ w ∈ gw, w.before args s = true := fun w h => hts w (List.mem_cons_of_mem _ h)
  have hown : s.vm.findClass "RangeCoders$Ranged" = some m.cls := hown
  have hl : lv_has ls 3 [(0, Value.ref co), (1, Value.ref oo), (2, Value.int (nI t))] := hl
  have hltw := rOk_lt hrw
  obtain ⟨hI1, hI2, hI3, hI4⟩ := id hE
  simp only [eR, eL, eC] at hI1 hI2 hI3 hI4
  have hm1 := ns_m1 F ht
  have hbd : bd F n 100000 := fun k hk => by have := ns_ge (F := F) hk; omega
  refine lv_aload_n hx hb d_Ranged_writeSign_0 rfl (lv_at hl 0 rfl) ?_
  refine lv_aload_n hx hb d_Ranged_writeSign_1 rfl (lv_at hl 1 rfl) ?_
  refine lv_iload_n hx hb d_Ranged_writeSign_2 rfl (lv_at hl 2 rfl) ?_
  refine my_ci (wr := [(co, Sum.inr (1, [Value.int (caI ca), Value.int (nI Pn), Value.long (lN L), Value.long (lN Rg), Value.long xcode, Value.long xreadLow, Value.long xreadRange, Value.ref ri, Value.ref ro, Value.ref rw, Value.int xasked])), (rw, Sum.inr (0, [Value.int (nI bs.length), Value.ref rwa])), (rwa, Sum.inl (cI, rwk, Sum.inl rwf))]) (va_runV (As := [Value.int (nI t)]) (rest := [Value.ref co]) ⟨hx, hb, hml, hown, hts⟩ (f_Odds_at l dC dI cI cM cO H.size oo osg ofc oca opa n ocf opl opf (nI (ns F n)) t (by first | assumption | omega) (by first | assumption | omega) (by first | assumption | omega) (by first | assumption | omega)) (cwV 1 hts (my_gV k493 k436 k437 k14 k438) rfl rfl rfl (by decide +kernel) ⟨by rw [hR]; exact Nat.le_of_ble_eq_true rfl, by rw [hR]; exact Nat.le_of_ble_eq_true rfl⟩) (my_preV hK hN (hP.sub [3, 4, 5] rfl) (hD.sub [3, 4, 5] (by decide +kernel) rfl) 0 rfl rfl) rfl rfl hl.1 rfl (lv_room (Nat.le_of_ble_eq_true rfl)) d_Ranged_writeSign_3 ⟨by rw [hR]; exact (show 0 + 0 ≤ (rPh rwk) by omega), by rw [hR]; exact (show 0 + 0 ≤ (rPh rwk) by omega)⟩) hP hD hS hA [3, 4, 5] [0, 1, 2] rfl rfl (by decide +kernel) (by decide +kernel) (fun r_3 u9 H locs hw_3 hP hD hS => ?_)
  have hr_3 : r_3 = ocf t := hw_3
  have hPD : my_PD (dC, dI) vwCl A [(co, Sum.inr (1, [Value.int (caI ca), Value.int (nI Pn), Value.long (lN L), Value.long (lN Rg), Value.long xcode, Value.long xreadLow, Value.long xreadRange, Value.ref ri, Value.ref ro, Value.ref rw, Value.int xasked])), (rw, Sum.inr (0, [Value.int (nI bs.length), Value.ref rwa])), (rwa, Sum.inl (cI, rwk, Sum.inl rwf)), (oo, Sum.inr (7, [Value.int osg, Value.int (nI (ns F n)), Value.int ofc, Value.ref oca, Value.ref opa])), (oca, Sum.inl (cI, n, Sum.inl ocf)), (opa, Sum.inl (cI, opl, Sum.inl opf))] H := ⟨hP, hD⟩
  have hP := hPD.1
  have hD := hPD.2
  rw [hf t ht] at hr_3
  have z9 : r_3 = nI (F t) := hr_3
  subst z9
  refine lv_aload_n hx hb d_Ranged_writeSign_6 rfl (lv_at hl 1 rfl) ?_
  refine lv_iload_n hx hb d_Ranged_writeSign_7 rfl (lv_at hl 2 rfl) ?_
  refine my_ci (wr := [(co, Sum.inr (1, [Value.int (caI ca), Value.int (nI Pn), Value.long (lN L), Value.long (lN Rg), Value.long xcode, Value.long xreadLow, Value.long xreadRange, Value.ref ri, Value.ref ro, Value.ref rw, Value.int xasked])), (rw, Sum.inr (0, [Value.int (nI bs.length), Value.ref rwa])), (rwa, Sum.inl (cI, rwk, Sum.inl rwf))]) (va_runV (As := [Value.int (nI t)]) (rest := [Value.int (nI (F t)), Value.ref co]) ⟨hx, hb, hml, hown, hts⟩ (f_Odds_below l dC dI cI cM cO H.size oo osg ofc oca opa n ocf opl opf F (nI (ns F n)) t (by first | assumption | omega) (by first | assumption | omega) (by first | assumption | omega) (by omega)) (cwV 1 hts (my_gV k494 k495 k496 k14 k497) rfl rfl rfl (by decide +kernel) ⟨by rw [hR]; exact Nat.le_of_ble_eq_true rfl, by rw [hR]; exact Nat.le_of_ble_eq_true rfl⟩) (my_preV hK hN (hP.sub [3, 4, 5] rfl) (hD.sub [3, 4, 5] (by decide +kernel) rfl) 0 rfl rfl) rfl rfl hl.1 rfl (lv_room (Nat.le_of_ble_eq_true rfl)) d_Ranged_writeSign_8 ⟨by rw [hR]; exact (show 0 + 0 ≤ (rPh rwk) by omega), by rw [hR]; exact (show 0 + 0 ≤ (rPh rwk) by omega)⟩) hP hD hS hA [3, 4, 5] [0, 1, 2] rfl rfl (by decide +kernel) (by decide +kernel) (fun r_8 u9 H locs hw_8 hP hD hS => ?_)
  have hr_8 : r_8 = nI (ns F t) := hw_8
  have hPD : my_PD (dC, dI) vwCl A [(co, Sum.inr (1, [Value.int (caI ca), Value.int (nI Pn), Value.long (lN L), Value.long (lN Rg), Value.long xcode, Value.long xreadLow, Value.long xreadRange, Value.ref ri, Value.ref ro, Value.ref rw, Value.int xasked])), (rw, Sum.inr (0, [Value.int (nI bs.length), Value.ref rwa])), (rwa, Sum.inl (cI, rwk, Sum.inl rwf)), (oo, Sum.inr (7, [Value.int osg, Value.int (nI (ns F n)), Value.int ofc, Value.ref oca, Value.ref opa])), (oca, Sum.inl (cI, n, Sum.inl ocf)), (opa, Sum.inl (cI, opl, Sum.inl opf))] H := ⟨hP, hD⟩
  have hP := hPD.1
  have hD := hPD.2
  have z9 : r_8 = nI (ns F t) := hr_8
  subst z9
  refine lv_aload_n hx hb d_Ranged_writeSign_11 rfl (lv_at hl 1 rfl) ?_
  refine va_get (D := (dC, dI)) (ci := 7) (v := .int (nI (ns F n))) (C := "RangeCoders$Odds") (T := T_Odds) (N := 5) hx hb hg in_Odds hown hK hP 3 rfl rfl 1 (by decide) (hg _ k306) (fun _ h9 => h9) rfl d_Ranged_writeSign_12 ?_
  refine my_cvg (wr := [(oo, Sum.inr (7, [Value.int osg, Value.int (nI (ns F n)), Value.int ofc, Value.ref oca, Value.ref opa])), (oca, Sum.inl (cI, n, Sum.inl ocf)), (opa, Sum.inl (cI, opl, Sum.inl opf))]) (va_runU (As := [Value.int (nI (F t)), Value.int (nI (ns F t)), Value.int (nI (ns F n))]) (rest := []) ⟨hx, hb, hml, hown, hts⟩ (f_Carries_writePart l dC dI cI cM cO H.size (hSl H) co xcode xreadLow xreadRange ri ro rw xasked Rg L ca Pn rwa rwk rwf bs (ns F t) (F t) (ns F n) (by omega) (by omega) (hm1) (hFt) (by omega) (hI2) (hI3) (hI4) (by first | assumption | omega) (by first | assumption | omega) (by omega)) (va_cwA 3 hts (my_gU k498 k500 k505 k502 k5 k503) rfl rfl rfl (hN.1 _ j499 rfl) (by decide +kernel) ⟨by rw [hR]; exact Nat.le_of_ble_eq_true rfl, by rw [hR]; exact Nat.le_of_ble_eq_true rfl⟩) (my_preVg hK hN (hP.sub [0, 1, 2] rfl) (hD.sub [0, 1, 2] (by decide +kernel) rfl) 0 rfl rfl) rfl rfl hl.1 rfl (lv_room (Nat.le_of_ble_eq_true rfl)) d_Ranged_writeSign_15 ⟨by rw [hR]; exact (show 0 + (rPh rwk) ≤ (rPh rwk) by omega), by rw [hR]; exact (show 0 + (rPh rwk) ≤ (rPh rwk) by omega)⟩) hP hD hS hA [0, 1, 2] [3, 4, 5] rfl rfl (by decide +kernel) (by decide +kernel) (fun u9 d_15 H locs hd_15 hw_15 hP hD hS => ?_)
  obtain ⟨rwaq_15, rwkq_15, rwfq_15⟩ := u9
  obtain ⟨hrw_15, hGrw_15⟩ : rOk (nI (eB (wdS (Rg / (ns F n) * (F t), L + Rg / (ns F n) * (ns F t), ca, Pn, bs))).length) rwkq_15 ∧ gIs rwfq_15 (eB (wdS (Rg / (ns F n) * (F t), L + Rg / (ns F n) * (ns F t), ca, Pn, bs))) := hw_15
  have hd_15 : d_15 + (rPh rwkq_15) ≤ (rPh rwk) := hd_15
  have hPD : my_PD (dC, dI) vwCl A [(oo, Sum.inr (7, [Value.int osg, Value.int (nI (ns F n)), Value.int ofc, Value.ref oca, Value.ref opa])), (oca, Sum.inl (cI, n, Sum.inl ocf)), (opa, Sum.inl (cI, opl, Sum.inl opf)), (co, Sum.inr (1, [Value.int (caI (eC (wdS (Rg / (ns F n) * (F t), L + Rg / (ns F n) * (ns F t), ca, Pn, bs)))), Value.int (nI (eP (wdS (Rg / (ns F n) * (F t), L + Rg / (ns F n) * (ns F t), ca, Pn, bs)))), Value.long (lN (eL (wdS (Rg / (ns F n) * (F t), L + Rg / (ns F n) * (ns F t), ca, Pn, bs)))), Value.long (lN (eR (wdS (Rg / (ns F n) * (F t), L + Rg / (ns F n) * (ns F t), ca, Pn, bs)))), Value.long xcode, Value.long xreadLow, Value.long xreadRange, Value.ref ri, Value.ref ro, Value.ref rw, Value.int xasked])), (rw, Sum.inr (0, [Value.int (nI (eB (wdS (Rg / (ns F n) * (F t), L + Rg / (ns F n) * (ns F t), ca, Pn, bs))).length), Value.ref rwaq_15])), (rwaq_15, Sum.inl (cI, rwkq_15, Sum.inl rwfq_15))] H := ⟨hP, hD⟩
  have hP := hPD.1
  have hD := hPD.2
  refine lv_aload_n hx hb d_Ranged_writeSign_18 rfl (lv_at hl 1 rfl) ?_
  refine lv_iload_n hx hb d_Ranged_writeSign_19 rfl (lv_at hl 2 rfl) ?_
  refine my_cv (wr := [(co, Sum.inr (1, [Value.int (caI (eC (wdS (Rg / (ns F n) * (F t), L + Rg / (ns F n) * (ns F t), ca, Pn, bs)))), Value.int (nI (eP (wdS (Rg / (ns F n) * (F t), L + Rg / (ns F n) * (ns F t), ca, Pn, bs)))), Value.long (lN (eL (wdS (Rg / (ns F n) * (F t), L + Rg / (ns F n) * (ns F t), ca, Pn, bs)))), Value.long (lN (eR (wdS (Rg / (ns F n) * (F t), L + Rg / (ns F n) * (ns F t), ca, Pn, bs)))), Value.long xcode, Value.long xreadLow, Value.long xreadRange, Value.ref ri, Value.ref ro, Value.ref rw, Value.int xasked])), (rw, Sum.inr (0, [Value.int (nI (eB (wdS (Rg / (ns F n) * (F t), L + Rg / (ns F n) * (ns F t), ca, Pn, bs))).length), Value.ref rwaq_15])), (rwaq_15, Sum.inl (cI, rwkq_15, Sum.inl rwfq_15))]) (va_runV (As := [Value.int (nI t)]) (rest := []) ⟨hx, hb, hml, hown, hts⟩ (f_Odds_learn l dC dI cI cM cO H.size oo osg ofc oca opa n ocf opl opf F t (by first | assumption | omega) (by first | assumption | omega) (by first | assumption | omega) (by first | assumption | omega) (by first | assumption | omega) (hbd)) (cwV 1 hts (my_gV k526 k527 k528 k14 k529) rfl rfl rfl (by decide +kernel) ⟨by rw [hR]; exact Nat.le_of_ble_eq_true rfl, by rw [hR]; exact Nat.le_of_ble_eq_true rfl⟩) (my_preV hK hN (hP.sub [0, 1, 2] rfl) (hD.sub [0, 1, 2] (by decide +kernel) rfl) 0 rfl rfl) rfl rfl hl.1 rfl (lv_room (Nat.le_of_ble_eq_true rfl)) d_Ranged_writeSign_20 ⟨by rw [hR]; exact (show (0 + d_15) + 0 ≤ (rPh rwk) by omega), by rw [hR]; exact (show (0 + d_15) + 0 ≤ (rPh rwk) by omega)⟩) hP hD hS hA [0, 1, 2] [3, 4, 5] rfl rfl (by decide +kernel) (by decide +kernel) (fun u9 H locs hw_20 hP hD hS => ?_)
  obtain ⟨ocfq_20, rfl⟩ : ∃ z, z = u9 := ⟨_, rfl⟩
  have hf_20 : tbI ocfq_20 n (lrn n t F) := hw_20
  have hPD : my_PD (dC, dI) vwCl A [(co, Sum.inr (1, [Value.int (caI (eC (wdS (Rg / (ns F n) * (F t), L + Rg / (ns F n) * (ns F t), ca, Pn, bs)))), Value.int (nI (eP (wdS (Rg / (ns F n) * (F t), L + Rg / (ns F n) * (ns F t), ca, Pn, bs)))), Value.long (lN (eL (wdS (Rg / (ns F n) * (F t), L + Rg / (ns F n) * (ns F t), ca, Pn, bs)))), Value.long (lN (eR (wdS (Rg / (ns F n) * (F t), L + Rg / (ns F n) * (ns F t), ca, Pn, bs)))), Value.long xcode, Value.long xreadLow, Value.long xreadRange, Value.ref ri, Value.ref ro, Value.ref rw, Value.int xasked])), (rw, Sum.inr (0, [Value.int (nI (eB (wdS (Rg / (ns F n) * (F t), L + Rg / (ns F n) * (ns F t), ca, Pn, bs))).length), Value.ref rwaq_15])), (rwaq_15, Sum.inl (cI, rwkq_15, Sum.inl rwfq_15)), (oo, Sum.inr (7, [Value.int osg, Value.int (nI (ns (lrn n t F) n)), Value.int ofc, Value.ref oca, Value.ref opa])), (oca, Sum.inl (cI, n, Sum.inl ocfq_20)), (opa, Sum.inl (cI, opl, Sum.inl opf))] H := ⟨hP, hD⟩
  have hP := hPD.1
  have hD := hPD.2
  exact my_vretg hx hb hr hlocks hQ hK hS (rwaq_15, rwkq_15, rwfq_15, ocfq_20) (show (0 + d_15) + (rPh rwkq_15) ≤ (rPh rwk) by omega) (show (0 + d_15) + (rPh rwkq_15) ≤ (rPh rwk) by omega) (⟨hrw_15, hGrw_15, hf_20⟩) (hP.sub [0, 1, 2, 3, 4, 5] rfl) (hD.sub [0, 1, 2, 3, 4, 5] (by decide +kernel) rfl) d_Ranged_writeSign_23
set_option maxHeartbeats 2000000 in
set_option maxRecDepth 100000 in
theorem f_Carries_flush (l : Launch) (dC : Nat → ClassId) (dI : Nat → Nat → Nat) (cI cM cO : ClassId) (sz : Nat) (sl : Nat) (co : Nat) (xcode : Int64) (xreadLow : Int64) (xreadRange : Int64) (ri : Nat) (ro : Nat) (rw : Nat) (xasked : Int32) (Rg : Nat) (L : Nat) (ca : Option Nat) (Pn : Nat) (rwa : Nat) (rwk : Nat) (rwf : Nat → Int32) (bs : List Nat) (hE : eOk (Rg, L, ca, Pn, bs)) (hrw : rOk (nI bs.length) rwk) (hGrw : gIs rwf bs) (hN9 : bs.length + Pn + 20 ≤ 7900) : MetVg l y_Carries_flush (Cond.code y_Carries_flush prog_3_method_5_code 2 none :: gw) ({ frames := 5, cells := rPh rwk, slots := rPh rwk, locals := 125 } : Room) (dC, dI) vwCl (kT cI cM cO) [Value.ref co] [(co, Sum.inr (1, [Value.int (caI ca), Value.int (nI Pn), Value.long (lN L), Value.long (lN Rg), Value.long xcode, Value.long xreadLow, Value.long xreadRange, Value.ref ri, Value.ref ro, Value.ref rw, Value.int xasked])), (rw, Sum.inr (0, [Value.int (nI bs.length), Value.ref rwa])), (rwa, Sum.inl (cI, rwk, Sum.inl rwf))] sz sl (fun (u : Nat × Nat × (Nat → Int32)) => rOk (nI (eB (shK 5 (Rg, L, ca, Pn, bs))).length) u.2.1 ∧ gIs u.2.2 (eB (shK 5 (Rg, L, ca, Pn, bs)))) (fun (u : Nat × Nat × (Nat → Int32)) => [(co, Sum.inr (1, [Value.int (caI (eC (shK 5 (Rg, L, ca, Pn, bs)))), Value.int (nI (eP (shK 5 (Rg, L, ca, Pn, bs)))), Value.long (lN (eL (shK 5 (Rg, L, ca, Pn, bs)))), Value.long (lN (eR (shK 5 (Rg, L, ca, Pn, bs)))), Value.long xcode, Value.long xreadLow, Value.long xreadRange, Value.ref ri, Value.ref ro, Value.ref rw, Value.int xasked])), (rw, Sum.inr (0, [Value.int (nI (eB (shK 5 (Rg, L, ca, Pn, bs))).length), Value.ref u.1])), (u.1, Sum.inl (cI, u.2.1, Sum.inl u.2.2))]) (rPh rwk) (fun (u : Nat × Nat × (Nat → Int32)) => rPh u.2.1) := by
  refine my_ofVg (cc := prog_3_method_5_code) (n := 2) (ret := none) (by decide) rfl (Nat.le_of_ble_eq_true rfl) ?_
  intro p e s m args below meth c R Q A ls H locs hx hb hr hts hown hlocks hml hnm hR hQ hA hl hP hK hN hD hS
  have hg : ∀ w ∈ gw, w.before args s = true := fun w h => hts w (List.mem_cons_of_mem _ h)
  have hown : s.vm.findClass "RangeCoders$Carries" = some m.cls := hown
  have hl : lv_has ls 2 [(0, Value.ref co)] := hl
  have hltw := rOk_lt hrw
  refine lv_iconst (v := 0) hx hb d_Carries_flush_0 (by decide) ?_
  refine lv_istore_n (lv' := [(1, Value.int 0), (0, Value.ref co)]) hx hb d_Carries_flush_1 rfl hl (by decide) rfl (fun ls hl => ?_)
  have J_2 : ∀ (n9_2 : Nat) (j : Nat) (e9 : ES) (rwa9 : Nat) (rwk9 : Nat) (rwf9 : Nat → Int32) (d9 : Nat) (hn9_2 : 5 - j = n9_2) (hj : j ≤ 5) (hE9 : shK 5 (Rg, L, ca, Pn, bs) = shK (5 - j) e9) (hO9 : eOk e9) (hM9 : eN e9 ≤ 7900 + j) (hr9 : rOk (nI (eB e9).length) rwk9) (hg9 : gIs rwf9 (eB e9)) (hd9 : d9 + rPh rwk9 ≤ rPh rwk) (H : Heap) (locs : List Loc) (ls : Array Slot), va_P (dC, dI) vwCl [(co, Sum.inr (1, [Value.int (caI (eC e9)), Value.int (nI (eP e9)), Value.long (lN (eL e9)), Value.long (lN (eR e9)), Value.long xcode, Value.long xreadLow, Value.long xreadRange, Value.ref ri, Value.ref ro, Value.ref rw, Value.int xasked])), (rw, Sum.inr (0, [Value.int (nI (eB e9).length), Value.ref rwa9])), (rwa9, Sum.inl (cI, rwk9, Sum.inl rwf9))] H → va_D A [(co, Sum.inr (1, [Value.int (caI (eC e9)), Value.int (nI (eP e9)), Value.long (lN (eL e9)), Value.long (lN (eR e9)), Value.long xcode, Value.long xreadLow, Value.long xreadRange, Value.ref ri, Value.ref ro, Value.ref rw, Value.int xasked])), (rw, Sum.inr (0, [Value.int (nI (eB e9).length), Value.ref rwa9])), (rwa9, Sum.inl (cI, rwk9, Sum.inl rwf9))] → va_S A s.heap H locs → lv_has ls 2 [(1, Value.int (nI j)), (0, Value.ref co)] → W p l e R s m args below meth c H locs d9 d9 Q (F0 m 2 ls []) := by
    intro n9_2
    induction n9_2 using Nat.strongRecOn with
    | ind n9_2 ih9_2 =>
      intro j e9 rwa9 rwk9 rwf9 d9 hn9_2 hj hE9 hO9 hM9 hr9 hg9 hd9 H locs ls hP hD hS hl
      refine lv_iload_n hx hb d_Carries_flush_2 rfl (lv_at hl 0 rfl) ?_
      refine lv_iconst (v := 5) hx hb d_Carries_flush_3 (by decide) ?_
      refine lv_icmp_ge (tgt := 17) hx hb d_Carries_flush_4 (by decide) (fun c_1 => ?_) (fun c_1 => ?_)
      · have hj3 : j = 5 := by have := nI_ge' (n := 5) (by omega) (by decide) c_1; omega
        have z9 : e9 = shK 5 (Rg, L, ca, Pn, bs) := by rw [hE9, hj3]; rfl
        subst z9
        exact my_vretg hx hb hr hlocks hQ hK hS (rwa9, rwk9, rwf9) (show d9 + (rPh rwk9) ≤ (rPh rwk) by omega) (show d9 + (rPh rwk9) ≤ (rPh rwk) by omega) (⟨hr9, hg9⟩) (hP.sub [0, 1, 2] rfl) (hD.sub [0, 1, 2] (by decide +kernel) rfl) d_Carries_flush_17
      · have hj2 : j < 5 := nI_lt' (by omega) c_1
        refine lv_aload_n hx hb d_Carries_flush_7 rfl (lv_at hl 1 rfl) ?_
        refine my_cvg (wr := []) (va_runV (As := []) (rest := []) ⟨hx, hb, hml, hown, hts⟩ (f_Carries_shiftLow l dC dI cI cM cO H.size (hSl H) co (lN (eR e9)) xcode xreadLow xreadRange ri ro rw xasked (eL e9) (eC e9) (eP e9) rwa9 rwk9 rwf9 (eB e9) (hO9.1) (hO9.2) (hr9) (hg9) (by have z : eN e9 = (eB e9).length + eP e9 + 1 := rfl; omega)) (cwV 0 hts (my_gV k463 k465 ks6 k5 k466) rfl rfl rfl (by decide +kernel) ⟨by rw [hR]; exact Nat.le_of_ble_eq_true rfl, by rw [hR]; exact Nat.le_of_ble_eq_true rfl⟩) (my_preVg hK hN (hP.sub [0, 1, 2] rfl) (hD.sub [0, 1, 2] (by decide +kernel) rfl) 0 rfl rfl) rfl rfl hl.1 rfl (lv_room (Nat.le_of_ble_eq_true rfl)) d_Carries_flush_8 ⟨by rw [hR]; exact (show d9 + (rPh rwk9) ≤ (rPh rwk) by omega), by rw [hR]; exact (show d9 + (rPh rwk9) ≤ (rPh rwk) by omega)⟩) hP hD hS hA [0, 1, 2] [] rfl rfl (by decide +kernel) (by decide +kernel) (fun u9 d_8 H locs hd_8 hw_8 hP hD hS => ?_)
        obtain ⟨rwaq_8, rwkq_8, rwfq_8⟩ := u9
        obtain ⟨hrw_8, hGrw_8⟩ : rOk (nI (shB (eL e9) (eC e9) (eP e9) (eB e9)).length) rwkq_8 ∧ gIs rwfq_8 (shB (eL e9) (eC e9) (eP e9) (eB e9)) := hw_8
        have hd_8 : d_8 + (rPh rwkq_8) ≤ (rPh rwk9) := hd_8
        have hPD : my_PD (dC, dI) vwCl A [(co, Sum.inr (1, [Value.int (caI (shC (eL e9) (eC e9))), Value.int (nI (shP (eL e9) (eP e9))), Value.long (lN (shL (eL e9))), Value.long (lN (eR e9)), Value.long xcode, Value.long xreadLow, Value.long xreadRange, Value.ref ri, Value.ref ro, Value.ref rw, Value.int xasked])), (rw, Sum.inr (0, [Value.int (nI (shB (eL e9) (eC e9) (eP e9) (eB e9)).length), Value.ref rwaq_8])), (rwaq_8, Sum.inl (cI, rwkq_8, Sum.inl rwfq_8))] H := ⟨hP, hD⟩
        have hP := hPD.1
        have hD := hPD.2
        obtain ⟨v_2, ev_2⟩ : ∃ y : Int32, y = (nI j) + (1) := ⟨_, rfl⟩
        refine lv_iinc (v := v_2) (lv' := [(1, Value.int v_2), (0, Value.ref co)]) hx hb d_Carries_flush_11 hl (k := 0) rfl (by rw [ev_2]; rfl) (by decide) rfl (fun ls hl => ?_)
        have z9 : v_2 = nI (j + 1) := by rw [ev_2]; exact nI_1 _
        subst z9
        refine lv_goto (tgt := 2) hx hb d_Carries_flush_14 (by decide) ?_
        exact ih9_2 _ (by first | omega | (omega)) (j + 1) (shS e9) rwaq_8 rwkq_8 rwfq_8 (d9 + d_8) rfl (by omega) (by rw [hE9, show 5 - j = (5 - (j + 1)) + 1 by omega]; rfl) (eOk_sh hO9) (by have q := eN_sh e9; omega) (hrw_8) (hGrw_8) (by omega) H locs ls (hP.sub [0, 1, 2] rfl) (hD.sub [0, 1, 2] (by decide +kernel) rfl) hS (lv_sub hl [0, 1] rfl)
  exact J_2 _ (0 : Nat) (Rg, L, ca, Pn, bs) rwa rwk rwf (0 : Nat) rfl (by decide) (rfl) (hE) (by show bs.length + Pn + 1 ≤ _; omega) (hrw) (hGrw) (by omega) H locs ls (hP.sub [0, 1, 2] rfl) (hD.sub [0, 1, 2] (by decide +kernel) rfl) hS (lv_sub hl [0, 1] rfl)
end
section
set_option maxHeartbeats 2000000 in
set_option maxRecDepth 100000 in
theorem f_NoCarries_sameTop (l : Launch) (dC : Nat → ClassId) (dI : Nat → Nat → Nat) (cI cM cO : ClassId) (sz : Nat) (L : Nat) (Rg : Nat) (hL : L < 4294967296) (hRg : Rg ≤ 4294967296) : MetI l y_NoCarries_sameTop (Cond.code y_NoCarries_sameTop prog_6_method_6_code 4 (some .boolean) :: gw) ({ frames := 0, cells := 0, slots := 0, locals := 0 } : Room) (dC, dI) vwCl (kT cI cM cO) [Value.long (lN L), Value.long (lN Rg)] [] sz (fun (r : Int32) (u : Unit) => r = if smT L Rg then 1 else 0) (fun (u : Unit) => []) 0 0 := by
  refine my_ofI (cc := prog_6_method_6_code) (n := 4) (ret := (some .boolean)) (by decide) rfl (Nat.le_of_ble_eq_true rfl) ?_
  intro p e s m args below meth c R Q A ls H locs hx hb hr hts hown hlocks hml hnm hR hQ hA hl hP hK hN hD hS
  have hg : ∀ w ∈ gw, w.before args s = true := fun w h => hts w (List.mem_cons_of_mem _ h)
  have hown : s.vm.findClass "RangeCoders$NoCarries" = some m.cls := hown
  have hl : lv_has ls 4 [(0, Value.long (lN L)), (2, Value.long (lN Rg))] := hl
  refine lv_lload_n hx hb d_NoCarries_sameTop_0 rfl (lv_at hl 0 rfl) ?_
  refine lv_bipush (v := 24) hx hb d_NoCarries_sameTop_1 (by decide) ?_
  refine lv_lushr hx hb d_NoCarries_sameTop_3 rfl ?_
  refine lv_topl (fun v_1 ev_1 => ?_)
  have z9 : v_1 = lN (L / 16777216) := by rw [ev_1]; exact U_shr24 (by omega)
  subst z9
  refine lv_lload_n hx hb d_NoCarries_sameTop_4 rfl (lv_at hl 0 rfl) ?_
  refine lv_lload_n hx hb d_NoCarries_sameTop_5 rfl (lv_at hl 1 rfl) ?_
  refine lv_ladd hx hb d_NoCarries_sameTop_6 ?_
  refine lv_topl (fun v_2 ev_2 => ?_)
  refine lv_ldc2 (v := 4294967295) hx hb hown (hg _ k509) d_NoCarries_sameTop_7 ?_
  refine lv_land hx hb d_NoCarries_sameTop_10 ?_
  refine lv_topl (fun v_3 ev_3 => ?_)
  have z9 : v_3 = lN ((L + Rg) % 4294967296) := by subst_vars; rw [lN_add, L_and32 (by omega)]
  subst z9
  refine lv_bipush (v := 24) hx hb d_NoCarries_sameTop_11 (by decide) ?_
  refine lv_lushr hx hb d_NoCarries_sameTop_13 rfl ?_
  refine lv_topl (fun v_4 ev_4 => ?_)
  have z9 : v_4 = lN ((L + Rg) % 4294967296 / 16777216) := by rw [ev_4]; exact U_shr24 (by omega)
  subst z9
  refine W.lcmp hx hb d_NoCarries_sameTop_14 ?_
  refine lv_if_ne (tgt := 22) hx hb d_NoCarries_sameTop_15 (by decide) (fun c_5 => ?_) (fun c_5 => ?_)
  · rw [lg_cmp_eq] at c_5
    refine lv_iconst (v := 0) hx hb d_NoCarries_sameTop_22 (by decide) ?_
    exact my_iret (v := 0) hx hb hr (rfl) hlocks hQ hK hS (Nat.le_refl _) (Nat.le_refl _) () (by rw [if_neg (fun q => c_5 (by rw [show L / 16777216 = (L + Rg) % 4294967296 / 16777216 from q]))]) (hP.sub [] rfl) (hD.sub [] (by decide +kernel) rfl) d_NoCarries_sameTop_23
  · rw [lg_cmp_eq] at c_5
    refine lv_iconst (v := 1) hx hb d_NoCarries_sameTop_18 (by decide) ?_
    refine lv_goto (tgt := 23) hx hb d_NoCarries_sameTop_19 (by decide) ?_
    exact my_iret (v := 1) hx hb hr (rfl) hlocks hQ hK hS (Nat.le_refl _) (Nat.le_refl _) () (by rw [if_pos (show L / 16777216 = (L + Rg) % 4294967296 / 16777216 from (pk_lEQ (by omega) (by omega)).mp c_5)]) (hP.sub [] rfl) (hD.sub [] (by decide +kernel) rfl) d_NoCarries_sameTop_23
set_option maxHeartbeats 2000000 in
set_option maxRecDepth 100000 in
theorem f_NoCarries_mustMove (l : Launch) (dC : Nat → ClassId) (dI : Nat → Nat → Nat) (cI cM cO : ClassId) (sz : Nat) (L : Nat) (Rg : Nat) (hL : L < 4294967296) (hRg : Rg ≤ 4294967296) : MetI l y_NoCarries_mustMove (Cond.code y_NoCarries_mustMove prog_6_method_7_code 4 (some .boolean) :: gw) ({ frames := 1, cells := 0, slots := 0, locals := 23 } : Room) (dC, dI) vwCl (kT cI cM cO) [Value.long (lN L), Value.long (lN Rg)] [] sz (fun (r : Int32) (u : Unit) => r = if mvP L Rg then 1 else 0) (fun (u : Unit) => []) 0 0 := by
  refine my_ofI (cc := prog_6_method_7_code) (n := 4) (ret := (some .boolean)) (by decide) rfl (Nat.le_of_ble_eq_true rfl) ?_
  intro p e s m args below meth c R Q A ls H locs hx hb hr hts hown hlocks hml hnm hR hQ hA hl hP hK hN hD hS
  have hg : ∀ w ∈ gw, w.before args s = true := fun w h => hts w (List.mem_cons_of_mem _ h)
  have hown : s.vm.findClass "RangeCoders$NoCarries" = some m.cls := hown
  have hl : lv_has ls 4 [(0, Value.long (lN L)), (2, Value.long (lN Rg))] := hl
  refine lv_lload_n hx hb d_NoCarries_mustMove_0 rfl (lv_at hl 0 rfl) ?_
  refine lv_lload_n hx hb d_NoCarries_mustMove_1 rfl (lv_at hl 1 rfl) ?_
  refine my_ci (wr := []) (va_runS (As := [Value.long (lN L), Value.long (lN Rg)]) (rest := []) ⟨hx, hb, hml, hown, hts⟩ (f_NoCarries_sameTop l dC dI cI cM cO H.size L Rg (by first | assumption | omega) (by first | assumption | omega)) (cwS 2 hts (my_gS k513 k514 k7 k515) rfl rfl rfl (by decide +kernel) ⟨by rw [hR]; exact Nat.le_of_ble_eq_true rfl, by rw [hR]; exact Nat.le_of_ble_eq_true rfl⟩) (my_pre hK hN (hP.sub [] rfl) (hD.sub [] (by decide +kernel) rfl)) rfl rfl hl.1 rfl (lv_room (Nat.le_of_ble_eq_true rfl)) d_NoCarries_mustMove_2 ⟨by rw [hR]; exact Nat.le_of_ble_eq_true rfl, by rw [hR]; exact Nat.le_of_ble_eq_true rfl⟩) hP hD hS hA [] [] rfl rfl (by decide +kernel) (by decide +kernel) (fun r_2 u9 H locs hw_2 hP hD hS => ?_)
  have hr_2 : r_2 = if smT L Rg then 1 else 0 := hw_2
  have hPD : my_PD (dC, dI) vwCl A [] H := ⟨hP, hD⟩
  have hP := hPD.1
  have hD := hPD.2
  refine lv_if_ne (tgt := 16) hx hb d_NoCarries_mustMove_5 (by decide) (fun c_1 => ?_) (fun c_1 => ?_)
  · refine lv_iconst (v := 1) hx hb d_NoCarries_mustMove_16 (by decide) ?_
    refine lv_goto (tgt := 21) hx hb d_NoCarries_mustMove_17 (by decide) ?_
    exact my_iret (v := 1) hx hb hr (rfl) hlocks hQ hK hS (Nat.le_refl _) (Nat.le_refl _) () (by rw [if_pos (Or.inl (one_ne hr_2 c_1))]) (hP.sub [] rfl) (hD.sub [] (by decide +kernel) rfl) d_NoCarries_mustMove_21
  · refine lv_lload_n hx hb d_NoCarries_mustMove_8 rfl (lv_at hl 1 rfl) ?_
    refine lv_ldc2 (v := 65536) hx hb hown (hg _ k516) d_NoCarries_mustMove_9 ?_
    refine W.lcmp hx hb d_NoCarries_mustMove_12 ?_
    refine lv_if_ge (tgt := 20) hx hb d_NoCarries_mustMove_13 (by decide) (fun c_2 => ?_) (fun c_2 => ?_)
    · rw [lg_cmp_ge] at c_2
      refine lv_iconst (v := 0) hx hb d_NoCarries_mustMove_20 (by decide) ?_
      exact my_iret (v := 0) hx hb hr (rfl) hlocks hQ hK hS (Nat.le_refl _) (Nat.le_refl _) () (by rw [if_neg (fun q => q.elim (one_eq hr_2 c_1) (fun q => absurd ((L_le (a := 65536) (by decide) (by omega)).mp c_2) (by omega)))]) (hP.sub [] rfl) (hD.sub [] (by decide +kernel) rfl) d_NoCarries_mustMove_21
    · rw [lg_cmp_ge] at c_2
      refine lv_iconst (v := 1) hx hb d_NoCarries_mustMove_16 (by decide) ?_
      refine lv_goto (tgt := 21) hx hb d_NoCarries_mustMove_17 (by decide) ?_
      exact my_iret (v := 1) hx hb hr (rfl) hlocks hQ hK hS (Nat.le_refl _) (Nat.le_refl _) () (by rw [if_pos (Or.inr (by rcases Nat.lt_or_ge Rg 65536 with q | q; exact q; exact absurd ((L_le (a := 65536) (by decide) (by omega)).mpr q) c_2))]) (hP.sub [] rfl) (hD.sub [] (by decide +kernel) rfl) d_NoCarries_mustMove_21
set_option maxHeartbeats 2000000 in
set_option maxRecDepth 100000 in
theorem f_NoCarries_moved (l : Launch) (dC : Nat → ClassId) (dI : Nat → Nat → Nat) (cI cM cO : ClassId) (sz : Nat) (L : Nat) (Rg : Nat) (hL : L < 4294967296) (hRg : Rg ≤ 4294967296) : MetL l y_NoCarries_moved (Cond.code y_NoCarries_moved prog_6_method_8_code 6 (some .long) :: gw) ({ frames := 1, cells := 0, slots := 0, locals := 23 } : Room) (dC, dI) vwCl (kT cI cM cO) [Value.long (lN L), Value.long (lN Rg)] [] sz (fun (r : Int64) (u : Unit) => r = lN (mvR L Rg)) (fun (u : Unit) => []) 0 0 := by
  refine my_ofL (cc := prog_6_method_8_code) (n := 6) (ret := (some .long)) (by decide) rfl (Nat.le_of_ble_eq_true rfl) ?_
  intro p e s m args below meth c R Q A ls H locs hx hb hr hts hown hlocks hml hnm hR hQ hA hl hP hK hN hD hS
  have hg : ∀ w ∈ gw, w.before args s = true := fun w h => hts w (List.mem_cons_of_mem _ h)
  have hown : s.vm.findClass "RangeCoders$NoCarries" = some m.cls := hown
  have hl : lv_has ls 6 [(0, Value.long (lN L)), (2, Value.long (lN Rg))] := hl
  refine lv_lload_n hx hb d_NoCarries_moved_0 rfl (lv_at hl 0 rfl) ?_
  refine lv_lload_n hx hb d_NoCarries_moved_1 rfl (lv_at hl 1 rfl) ?_
  refine my_ci (wr := []) (va_runS (As := [Value.long (lN L), Value.long (lN Rg)]) (rest := []) ⟨hx, hb, hml, hown, hts⟩ (f_NoCarries_sameTop l dC dI cI cM cO H.size L Rg (by first | assumption | omega) (by first | assumption | omega)) (cwS 2 hts (my_gS k513 k514 k7 k515) rfl rfl rfl (by decide +kernel) ⟨by rw [hR]; exact Nat.le_of_ble_eq_true rfl, by rw [hR]; exact Nat.le_of_ble_eq_true rfl⟩) (my_pre hK hN (hP.sub [] rfl) (hD.sub [] (by decide +kernel) rfl)) rfl rfl hl.1 rfl (lv_room (Nat.le_of_ble_eq_true rfl)) d_NoCarries_moved_2 ⟨by rw [hR]; exact Nat.le_of_ble_eq_true rfl, by rw [hR]; exact Nat.le_of_ble_eq_true rfl⟩) hP hD hS hA [] [] rfl rfl (by decide +kernel) (by decide +kernel) (fun r_2 u9 H locs hw_2 hP hD hS => ?_)
  have hr_2 : r_2 = if smT L Rg then 1 else 0 := hw_2
  have hPD : my_PD (dC, dI) vwCl A [] H := ⟨hP, hD⟩
  have hP := hPD.1
  have hD := hPD.2
  refine lv_if_eq (tgt := 12) hx hb d_NoCarries_moved_5 (by decide) (fun c_1 => ?_) (fun c_1 => ?_)
  · refine lv_lload_n hx hb d_NoCarries_moved_12 rfl (lv_at hl 0 rfl) ?_
    refine lv_lneg hx hb d_NoCarries_moved_13 ?_
    refine lv_topl (fun v_2 ev_2 => ?_)
    refine lv_ldc2 (v := 65535) hx hb hown (hg _ k520) d_NoCarries_moved_14 ?_
    refine lv_land hx hb d_NoCarries_moved_17 ?_
    refine lv_topl (fun v_3 ev_3 => ?_)
    have hk9 : v_3 = lN (if smT L Rg then Rg else ngL L) := by rw [if_neg (one_eq hr_2 c_1)]; subst_vars; exact L_ngA (by omega)
    refine lv_lstore (lv' := [(4, Value.long v_3), (0, Value.long (lN L)), (2, Value.long (lN Rg))]) hx hb d_NoCarries_moved_18 hl (by decide) rfl (fun ls hl => ?_)
    refine lv_lload hx hb d_NoCarries_moved_20 (lv_at hl 0 rfl) ?_
    refine lv_bipush (v := 8) hx hb d_NoCarries_moved_22 (by decide) ?_
    refine lv_lshl hx hb d_NoCarries_moved_24 rfl ?_
    refine lv_topl (fun v_4 ev_4 => ?_)
    refine lv_ldc2 (v := 4294967295) hx hb hown (hg _ k509) d_NoCarries_moved_25 ?_
    refine lv_land hx hb d_NoCarries_moved_28 ?_
    refine lv_topl (fun v_5 ev_5 => ?_)
    exact my_lret (v := v_5) hx hb hr hlocks hQ hK hS (Nat.le_refl _) (Nat.le_refl _) () (by have hng : ngL L < 65536 := Nat.mod_lt _ (by decide); have hif : (if smT L Rg then Rg else ngL L) ≤ 4294967296 := (by split <;> omega); unfold mvR; generalize (if smT L Rg then Rg else ngL L) = y9 at hk9 hif ⊢; subst_vars; first | rw [hk9, L_shl8, L_and32 (by omega)] | rw [L_shl8, L_and32 (by omega)]) (hP.sub [] rfl) (hD.sub [] (by decide +kernel) rfl) d_NoCarries_moved_29
  · refine lv_lload_n hx hb d_NoCarries_moved_8 rfl (lv_at hl 1 rfl) ?_
    refine lv_goto (tgt := 18) hx hb d_NoCarries_moved_9 (by decide) ?_
    have hk9 : (lN Rg) = lN (if smT L Rg then Rg else ngL L) := by rw [if_pos (one_ne hr_2 c_1)]
    refine lv_lstore (lv' := [(4, Value.long (lN Rg)), (0, Value.long (lN L)), (2, Value.long (lN Rg))]) hx hb d_NoCarries_moved_18 hl (by decide) rfl (fun ls hl => ?_)
    refine lv_lload hx hb d_NoCarries_moved_20 (lv_at hl 0 rfl) ?_
    refine lv_bipush (v := 8) hx hb d_NoCarries_moved_22 (by decide) ?_
    refine lv_lshl hx hb d_NoCarries_moved_24 rfl ?_
    refine lv_topl (fun v_6 ev_6 => ?_)
    refine lv_ldc2 (v := 4294967295) hx hb hown (hg _ k509) d_NoCarries_moved_25 ?_
    refine lv_land hx hb d_NoCarries_moved_28 ?_
    refine lv_topl (fun v_7 ev_7 => ?_)
    exact my_lret (v := v_7) hx hb hr hlocks hQ hK hS (Nat.le_refl _) (Nat.le_refl _) () (by have hng : ngL L < 65536 := Nat.mod_lt _ (by decide); have hif : (if smT L Rg then Rg else ngL L) ≤ 4294967296 := (by split <;> omega); unfold mvR; generalize (if smT L Rg then Rg else ngL L) = y9 at hk9 hif ⊢; subst_vars; first | rw [hk9, L_shl8, L_and32 (by omega)] | rw [L_shl8, L_and32 (by omega)]) (hP.sub [] rfl) (hD.sub [] (by decide +kernel) rfl) d_NoCarries_moved_29
set_option maxHeartbeats 2000000 in
set_option maxRecDepth 100000 in
theorem f_NoCarries_writeTop (l : Launch) (dC : Nat → ClassId) (dI : Nat → Nat → Nat) (cI cM cO : ClassId) (sz : Nat) (sl : Nat) (co : Nat) (xrange : Int64) (xcode : Int64) (xreadLow : Int64) (xreadRange : Int64) (ri : Nat) (ro : Nat) (rw : Nat) (xasked : Int32) (L : Nat) (rwa : Nat) (rwk : Nat) (rwf : Nat → Int32) (bs : List Nat) (hL : L < 4294967296) (hrw : rOk (nI bs.length) rwk) (hGrw : gIs rwf bs) (hN9 : bs.length ≤ 8000) : MetVg l y_NoCarries_writeTop (Cond.code y_NoCarries_writeTop prog_6_method_5_code 1 none :: gw) ({ frames := 3, cells := rPh rwk, slots := rPh rwk, locals := 83 } : Room) (dC, dI) vwCl (kT cI cM cO) [Value.ref co] [(co, Sum.inr (2, [Value.long (lN L), Value.long xrange, Value.long xcode, Value.long xreadLow, Value.long xreadRange, Value.ref ri, Value.ref ro, Value.ref rw, Value.int xasked])), (rw, Sum.inr (0, [Value.int (nI bs.length), Value.ref rwa])), (rwa, Sum.inl (cI, rwk, Sum.inl rwf))] sz sl (fun (u : Nat × Nat × (Nat → Int32)) => rOk (nI (bs ++ [L / 16777216 % 256]).length) u.2.1 ∧ gIs u.2.2 (bs ++ [L / 16777216 % 256])) (fun (u : Nat × Nat × (Nat → Int32)) => [(co, Sum.inr (2, [Value.long (lN (mvL L)), Value.long xrange, Value.long xcode, Value.long xreadLow, Value.long xreadRange, Value.ref ri, Value.ref ro, Value.ref rw, Value.int xasked])), (rw, Sum.inr (0, [Value.int (nI (bs ++ [L / 16777216 % 256]).length), Value.ref u.1])), (u.1, Sum.inl (cI, u.2.1, Sum.inl u.2.2))]) (rPh rwk) (fun (u : Nat × Nat × (Nat → Int32)) => rPh u.2.1) := by
  refine my_ofVg (cc := prog_6_method_5_code) (n := 1) (ret := none) (by decide) rfl (Nat.le_of_ble_eq_true rfl) ?_
  intro p e s m args below meth c R Q A ls H locs hx hb hr hts hown hlocks hml hnm hR hQ hA hl hP hK hN hD hS
  have hg : ∀ w ∈ gw, w.before args s = true := fun w h => hts w (List.mem_cons_of_mem _ h)
  have hown : s.vm.findClass "RangeCoders$NoCarries" = some m.cls := hown
  have hl : lv_has ls 1 [(0, Value.ref co)] := hl
  have hltw := rOk_lt hrw
  refine lv_aload_n hx hb d_NoCarries_writeTop_0 rfl (lv_at hl 0 rfl) ?_
  refine va_get (D := (dC, dI)) (ci := 2) (v := .ref rw) (C := "RangeCoders$NoCarries") (T := T_NoCarries) (N := 9) hx hb hg in_NoCarries hown hK hP 0 rfl rfl 7 (by decide) (hg _ k114) (fun x9 h9 => u_same (hg _ k115) x9 h9) rfl d_NoCarries_writeTop_1 ?_
  refine lv_aload_n hx hb d_NoCarries_writeTop_4 rfl (lv_at hl 0 rfl) ?_
  refine va_get (D := (dC, dI)) (ci := 2) (v := .long (lN L)) (C := "RangeCoders$NoCarries") (T := T_NoCarries) (N := 9) hx hb hg in_NoCarries hown hK hP 0 rfl rfl 0 (by decide) (hg _ k70) (fun x9 h9 => u_same (hg _ k71) x9 h9) rfl d_NoCarries_writeTop_5 ?_
  refine lv_bipush (v := 24) hx hb d_NoCarries_writeTop_8 (by decide) ?_
  refine lv_lushr hx hb d_NoCarries_writeTop_10 rfl ?_
  refine lv_topl (fun v_1 ev_1 => ?_)
  refine lv_l2i hx hb d_NoCarries_writeTop_11 rfl ?_
  refine lv_topi (fun v_2 ev_2 => ?_)
  have z9 : v_2 = nI (L / 16777216 % 256) := by subst_vars; rw [U_shr24 (by omega), lN_i, Nat.mod_eq_of_lt (by omega)]
  subst z9
  refine my_cvg (wr := [(co, Sum.inr (2, [Value.long (lN L), Value.long xrange, Value.long xcode, Value.long xreadLow, Value.long xreadRange, Value.ref ri, Value.ref ro, Value.ref rw, Value.int xasked]))]) (va_runV (As := [Value.int (nI (L / 16777216 % 256))]) (rest := []) ⟨hx, hb, hml, hown, hts⟩ (f_Row_add l dC dI cI cM cO H.size (hSl H) rw rwa rwk rwf bs (L / 16777216 % 256) (hrw) (hGrw) (by omega)) (cwV 1 hts (my_gV k525 k473 k474 k6 k475) rfl rfl rfl (by decide +kernel) ⟨by rw [hR]; exact Nat.le_of_ble_eq_true rfl, by rw [hR]; exact Nat.le_of_ble_eq_true rfl⟩) (my_preVg hK hN (hP.sub [1, 2] rfl) (hD.sub [1, 2] (by decide +kernel) rfl) 0 rfl rfl) rfl rfl hl.1 rfl (lv_room (Nat.le_of_ble_eq_true rfl)) d_NoCarries_writeTop_12 ⟨by rw [hR]; exact (show 0 + (rPh rwk) ≤ (rPh rwk) by omega), by rw [hR]; exact (show 0 + (rPh rwk) ≤ (rPh rwk) by omega)⟩) hP hD hS hA [1, 2] [0] rfl rfl (by decide +kernel) (by decide +kernel) (fun u9 d_12 H locs hd_12 hw_12 hP hD hS => ?_)
  obtain ⟨rraq_12, rrkq_12, rrfq_12⟩ := u9
  obtain ⟨hrr_12, hGrr_12⟩ : rOk (nI (bs ++ [(L / 16777216 % 256)]).length) rrkq_12 ∧ gIs rrfq_12 (bs ++ [(L / 16777216 % 256)]) := hw_12
  have hd_12 : d_12 + (rPh rrkq_12) ≤ (rPh rwk) := hd_12
  have hPD : my_PD (dC, dI) vwCl A [(co, Sum.inr (2, [Value.long (lN L), Value.long xrange, Value.long xcode, Value.long xreadLow, Value.long xreadRange, Value.ref ri, Value.ref ro, Value.ref rw, Value.int xasked])), (rw, Sum.inr (0, [Value.int (nI (bs ++ [(L / 16777216 % 256)]).length), Value.ref rraq_12])), (rraq_12, Sum.inl (cI, rrkq_12, Sum.inl rrfq_12))] H := ⟨hP, hD⟩
  have hP := hPD.1
  have hD := hPD.2
  refine lv_aload_n hx hb d_NoCarries_writeTop_15 rfl (lv_at hl 0 rfl) ?_
  refine lv_aload_n hx hb d_NoCarries_writeTop_16 rfl (lv_at hl 0 rfl) ?_
  refine va_get (D := (dC, dI)) (ci := 2) (v := .long (lN L)) (C := "RangeCoders$NoCarries") (T := T_NoCarries) (N := 9) hx hb hg in_NoCarries hown hK hP 0 rfl rfl 0 (by decide) (hg _ k70) (fun x9 h9 => u_same (hg _ k71) x9 h9) rfl d_NoCarries_writeTop_17 ?_
  refine lv_bipush (v := 8) hx hb d_NoCarries_writeTop_20 (by decide) ?_
  refine lv_lshl hx hb d_NoCarries_writeTop_22 rfl ?_
  refine lv_topl (fun v_3 ev_3 => ?_)
  refine lv_ldc2 (v := 4294967295) hx hb hown (hg _ k509) d_NoCarries_writeTop_23 ?_
  refine lv_land hx hb d_NoCarries_writeTop_26 ?_
  refine lv_topl (fun v_4 ev_4 => ?_)
  have z9 : v_4 = lN (mvL L) := by subst_vars; rw [L_shl8, L_and32 (by omega)]; rfl
  subst z9
  refine va_put (D := (dC, dI)) (ci := 2) (v := .long (lN (mvL L))) (ty := .long) (C := "RangeCoders$NoCarries") (T := T_NoCarries) (N := 9) hx hb hg in_NoCarries t_NoCarries o_NoCarries n_NoCarries hown hK hP hD hS 0 rfl rfl 0 (by decide) (hg _ k70) (fun x9 h9 => u_same (hg _ k71) x9 h9) rfl (by decide +kernel) rfl rfl (Nat.le_of_ble_eq_true rfl) d_NoCarries_writeTop_27 (fun H locs hP hD hS => ?_)
  have hPD : my_PD (dC, dI) vwCl A [(co, Sum.inr (2, [Value.long (lN (mvL L)), Value.long xrange, Value.long xcode, Value.long xreadLow, Value.long xreadRange, Value.ref ri, Value.ref ro, Value.ref rw, Value.int xasked])), (rw, Sum.inr (0, [Value.int (nI (bs ++ [(L / 16777216 % 256)]).length), Value.ref rraq_12])), (rraq_12, Sum.inl (cI, rrkq_12, Sum.inl rrfq_12))] H := ⟨hP, hD⟩
  have hP := hPD.1
  have hD := hPD.2
  exact my_vretg hx hb hr hlocks hQ hK hS (rraq_12, rrkq_12, rrfq_12) (show (0 + d_12) + (rPh rrkq_12) ≤ (rPh rwk) by omega) (show (0 + d_12) + (rPh rrkq_12) ≤ (rPh rwk) by omega) (⟨hrr_12, hGrr_12⟩) (hP.sub [0, 1, 2] rfl) (hD.sub [0, 1, 2] (by decide +kernel) rfl) d_NoCarries_writeTop_30
set_option maxHeartbeats 2000000 in
set_option maxRecDepth 100000 in
theorem f_NoCarries_writePart (l : Launch) (dC : Nat → ClassId) (dI : Nat → Nat → Nat) (cI cM cO : ClassId) (sz : Nat) (sl : Nat) (co : Nat) (xcode : Int64) (xreadLow : Int64) (xreadRange : Int64) (ri : Nat) (ro : Nat) (rw : Nat) (xasked : Int32) (Rg : Nat) (L : Nat) (rwa : Nat) (rwk : Nat) (rwf : Nat → Int32) (bs : List Nat) (cc : Nat) (ff : Nat) (tt : Nat) (ht0 : 0 < tt) (ht1 : tt < 2 ^ 31) (hcf : cc + ff ≤ tt) (hff : 0 < ff) (hRt : tt ≤ Rg) (hp : pOk Rg L) (hrw : rOk (nI bs.length) rwk) (hGrw : gIs rwf bs) (hN9 : bs.length + 5 ≤ 7900) : MetVg l y_NoCarries_writePart (Cond.code y_NoCarries_writePart prog_6_method_2_code 7 none :: gw) ({ frames := 4, cells := rPh rwk, slots := rPh rwk, locals := 103 } : Room) (dC, dI) vwCl (kT cI cM cO) [Value.ref co, Value.int (nI ff), Value.int (nI cc), Value.int (nI tt)] [(co, Sum.inr (2, [Value.long (lN L), Value.long (lN Rg), Value.long xcode, Value.long xreadLow, Value.long xreadRange, Value.ref ri, Value.ref ro, Value.ref rw, Value.int xasked])), (rw, Sum.inr (0, [Value.int (nI bs.length), Value.ref rwa])), (rwa, Sum.inl (cI, rwk, Sum.inl rwf))] sz sl (fun (u : Nat × Nat × (Nat → Int32)) => rOk (nI ((plS (Rg / tt * ff, L + Rg / tt * cc, bs)).2.2).length) u.2.1 ∧ gIs u.2.2 ((plS (Rg / tt * ff, L + Rg / tt * cc, bs)).2.2)) (fun (u : Nat × Nat × (Nat → Int32)) => [(co, Sum.inr (2, [Value.long (lN (plS (Rg / tt * ff, L + Rg / tt * cc, bs)).2.1), Value.long (lN (plS (Rg / tt * ff, L + Rg / tt * cc, bs)).1), Value.long xcode, Value.long xreadLow, Value.long xreadRange, Value.ref ri, Value.ref ro, Value.ref rw, Value.int xasked])), (rw, Sum.inr (0, [Value.int (nI (plS (Rg / tt * ff, L + Rg / tt * cc, bs)).2.2.length), Value.ref u.1])), (u.1, Sum.inl (cI, u.2.1, Sum.inl u.2.2))]) (rPh rwk) (fun (u : Nat × Nat × (Nat → Int32)) => rPh u.2.1) := by
  refine my_ofVg (cc := prog_6_method_2_code) (n := 7) (ret := none) (by decide) rfl (Nat.le_of_ble_eq_true rfl) ?_
  intro p e s m args below meth c R Q A ls H locs hx hb hr hts hown hlocks hml hnm hR hQ hA hl hP hK hN hD hS
  have hg : ∀ w ∈ gw, w.before args s = true := fun w h => hts w (List.mem_cons_of_mem _ h)
  have hown : s.vm.findClass "RangeCoders$NoCarries" = some m.cls := hown
  have hl : lv_has ls 7 [(0, Value.ref co), (1, Value.int (nI ff)), (2, Value.int (nI cc)), (3, Value.int (nI tt))] := hl
  have hltw := rOk_lt hrw
  obtain ⟨hp1, hp2, hp3, hp4⟩ := id hp
  have hd1 : Rg / tt * tt ≤ Rg := Nat.div_mul_le_self _ _
  have hd2 : Rg / tt * cc + Rg / tt * ff ≤ Rg / tt * tt := by rw [← Nat.mul_add]; exact Nat.mul_le_mul_left _ hcf
  have hd3 : 0 < Rg / tt := Nat.div_pos hRt ht0
  have hd4 : 0 < Rg / tt * ff := Nat.mul_pos hd3 hff
  have hd5 : Rg / tt ≤ Rg := Nat.div_le_self _ _
  generalize hrc : Rg / tt * cc = rc at hd2
  generalize hrf : Rg / tt * ff = rf at hd2 hd4
  refine lv_iload_n hx hb d_NoCarries_writePart_0 rfl (lv_at hl 3 rfl) ?_
  refine lv_if_le (tgt := 14) hx hb d_NoCarries_writePart_1 (by decide) (fun c_1 => ?_) (fun c_1 => ?_)
  · exact absurd c_1 (nI_nle ht0 (by omega))
  · refine lv_aload_n hx hb d_NoCarries_writePart_4 rfl (lv_at hl 0 rfl) ?_
    refine va_get (D := (dC, dI)) (ci := 2) (v := .long (lN Rg)) (C := "RangeCoders$NoCarries") (T := T_NoCarries) (N := 9) hx hb hg in_NoCarries hown hK hP 0 rfl rfl 1 (by decide) (hg _ k78) (fun x9 h9 => u_same (hg _ k79) x9 h9) rfl d_NoCarries_writePart_5 ?_
    refine lv_iload_n hx hb d_NoCarries_writePart_8 rfl (lv_at hl 3 rfl) ?_
    refine lv_i2l hx hb d_NoCarries_writePart_9 rfl ?_
    refine lv_topl (fun v_2 ev_2 => ?_)
    refine lv_ldiv hx hb d_NoCarries_writePart_10 (by rw [ev_2]; rw [nI_l (by omega)]; intro z; have := (pk_lEQ (b := 0) (by omega) (by decide)).mp z; omega) ?_
    refine lv_topl (fun v_3 ev_3 => ?_)
    refine lv_goto (tgt := 15) hx hb d_NoCarries_writePart_11 (by decide) ?_
    have z9 : v_3 = lN (Rg / tt) := by subst_vars; rw [nI_l (by omega)]; exact pk_lDiv (by omega) ht0 (by omega)
    subst z9
    refine lv_lstore (lv' := [(4, Value.long (lN (Rg / tt))), (0, Value.ref co), (1, Value.int (nI ff)), (2, Value.int (nI cc)), (3, Value.int (nI tt))]) hx hb d_NoCarries_writePart_15 hl (by decide) rfl (fun ls hl => ?_)
    refine lv_aload_n hx hb d_NoCarries_writePart_17 rfl (lv_at hl 1 rfl) ?_
    refine lv_aload_n hx hb d_NoCarries_writePart_18 rfl (lv_at hl 1 rfl) ?_
    refine va_get (D := (dC, dI)) (ci := 2) (v := .long (lN L)) (C := "RangeCoders$NoCarries") (T := T_NoCarries) (N := 9) hx hb hg in_NoCarries hown hK hP 0 rfl rfl 0 (by decide) (hg _ k70) (fun x9 h9 => u_same (hg _ k71) x9 h9) rfl d_NoCarries_writePart_19 ?_
    refine lv_lload hx hb d_NoCarries_writePart_22 (lv_at hl 0 rfl) ?_
    refine lv_iload_n hx hb d_NoCarries_writePart_24 rfl (lv_at hl 3 rfl) ?_
    refine lv_i2l hx hb d_NoCarries_writePart_25 rfl ?_
    refine lv_topl (fun v_4 ev_4 => ?_)
    refine lv_lmul hx hb d_NoCarries_writePart_26 ?_
    refine lv_topl (fun v_5 ev_5 => ?_)
    refine lv_ladd hx hb d_NoCarries_writePart_27 ?_
    refine lv_topl (fun v_6 ev_6 => ?_)
    refine lv_ldc2 (v := 4294967295) hx hb hown (hg _ k509) d_NoCarries_writePart_28 ?_
    refine lv_land hx hb d_NoCarries_writePart_31 ?_
    refine lv_topl (fun v_7 ev_7 => ?_)
    have z9 : v_7 = lN (L + rc) := by subst_vars; rw [nI_l (by omega), lN_mul, lN_add, L_and32 (by omega), Nat.mod_eq_of_lt (by omega)]
    subst z9
    refine va_put (D := (dC, dI)) (ci := 2) (v := .long (lN (L + rc))) (ty := .long) (C := "RangeCoders$NoCarries") (T := T_NoCarries) (N := 9) hx hb hg in_NoCarries t_NoCarries o_NoCarries n_NoCarries hown hK hP hD hS 0 rfl rfl 0 (by decide) (hg _ k70) (fun x9 h9 => u_same (hg _ k71) x9 h9) rfl (by decide +kernel) rfl rfl (Nat.le_of_ble_eq_true rfl) d_NoCarries_writePart_32 (fun H locs hP hD hS => ?_)
    have hPD : my_PD (dC, dI) vwCl A [(co, Sum.inr (2, [Value.long (lN (L + rc)), Value.long (lN Rg), Value.long xcode, Value.long xreadLow, Value.long xreadRange, Value.ref ri, Value.ref ro, Value.ref rw, Value.int xasked])), (rw, Sum.inr (0, [Value.int (nI bs.length), Value.ref rwa])), (rwa, Sum.inl (cI, rwk, Sum.inl rwf))] H := ⟨hP, hD⟩
    have hP := hPD.1
    have hD := hPD.2
    refine lv_aload_n hx hb d_NoCarries_writePart_35 rfl (lv_at hl 1 rfl) ?_
    refine lv_lload hx hb d_NoCarries_writePart_36 (lv_at hl 0 rfl) ?_
    refine lv_iload_n hx hb d_NoCarries_writePart_38 rfl (lv_at hl 2 rfl) ?_
    refine lv_i2l hx hb d_NoCarries_writePart_39 rfl ?_
    refine lv_topl (fun v_8 ev_8 => ?_)
    refine lv_lmul hx hb d_NoCarries_writePart_40 ?_
    refine lv_topl (fun v_9 ev_9 => ?_)
    refine lv_ldc2 (v := 4294967295) hx hb hown (hg _ k509) d_NoCarries_writePart_41 ?_
    refine lv_land hx hb d_NoCarries_writePart_44 ?_
    refine lv_topl (fun v_10 ev_10 => ?_)
    have z9 : v_10 = lN rf := by subst_vars; rw [nI_l (by omega), lN_mul, L_and32 (by omega), Nat.mod_eq_of_lt (by omega)]
    subst z9
    refine va_put (D := (dC, dI)) (ci := 2) (v := .long (lN rf)) (ty := .long) (C := "RangeCoders$NoCarries") (T := T_NoCarries) (N := 9) hx hb hg in_NoCarries t_NoCarries o_NoCarries n_NoCarries hown hK hP hD hS 0 rfl rfl 1 (by decide) (hg _ k78) (fun x9 h9 => u_same (hg _ k79) x9 h9) rfl (by decide +kernel) rfl rfl (Nat.le_of_ble_eq_true rfl) d_NoCarries_writePart_45 (fun H locs hP hD hS => ?_)
    have hPD : my_PD (dC, dI) vwCl A [(co, Sum.inr (2, [Value.long (lN (L + rc)), Value.long (lN rf), Value.long xcode, Value.long xreadLow, Value.long xreadRange, Value.ref ri, Value.ref ro, Value.ref rw, Value.int xasked])), (rw, Sum.inr (0, [Value.int (nI bs.length), Value.ref rwa])), (rwa, Sum.inl (cI, rwk, Sum.inl rwf))] H := ⟨hP, hD⟩
    have hP := hPD.1
    have hD := hPD.2
    refine lv_iconst (v := 0) hx hb d_NoCarries_writePart_48 (by decide) ?_
    refine lv_istore (lv' := [(6, Value.int 0), (4, Value.long (lN (Rg / tt))), (0, Value.ref co), (1, Value.int (nI ff)), (2, Value.int (nI cc)), (3, Value.int (nI tt))]) hx hb d_NoCarries_writePart_49 hl (by decide) rfl (fun ls hl => ?_)
    have J_51 : ∀ (n9_51 : Nat) (e9 : PS) (k9 : Nat) (rwa9 : Nat) (rwk9 : Nat) (rwf9 : Nat → Int32) (d9 : Nat) (hn9_51 : k9 = n9_51) (hE9 : plS (rf, L + rc, bs) = plN k9 e9) (hI9 : plI k9 e9.1 e9.2.1) (hM9 : e9.2.2.length + k9 ≤ 7904) (hr9 : rOk (nI e9.2.2.length) rwk9) (hg9 : gIs rwf9 e9.2.2) (hd9 : d9 + rPh rwk9 ≤ rPh rwk) (H : Heap) (locs : List Loc) (ls : Array Slot), va_P (dC, dI) vwCl [(co, Sum.inr (2, [Value.long (lN e9.2.1), Value.long (lN e9.1), Value.long xcode, Value.long xreadLow, Value.long xreadRange, Value.ref ri, Value.ref ro, Value.ref rw, Value.int xasked])), (rw, Sum.inr (0, [Value.int (nI e9.2.2.length), Value.ref rwa9])), (rwa9, Sum.inl (cI, rwk9, Sum.inl rwf9))] H → va_D A [(co, Sum.inr (2, [Value.long (lN e9.2.1), Value.long (lN e9.1), Value.long xcode, Value.long xreadLow, Value.long xreadRange, Value.ref ri, Value.ref ro, Value.ref rw, Value.int xasked])), (rw, Sum.inr (0, [Value.int (nI e9.2.2.length), Value.ref rwa9])), (rwa9, Sum.inl (cI, rwk9, Sum.inl rwf9))] → va_S A s.heap H locs → lv_has ls 7 [(6, Value.int (nI (8 - k9))), (4, Value.long (lN (Rg / tt))), (0, Value.ref co), (1, Value.int (nI ff)), (2, Value.int (nI cc)), (3, Value.int (nI tt))] → W p l e R s m args below meth c H locs d9 d9 Q (F0 m 51 ls []) := by
      intro n9_51
      induction n9_51 using Nat.strongRecOn with
      | ind n9_51 ih9_51 =>
        intro e9 k9 rwa9 rwk9 rwf9 d9 hn9_51 hE9 hI9 hM9 hr9 hg9 hd9 H locs ls hP hD hS hl
        have hk48 := hI9.2.1
        have hk88 := hI9.2.2.1
        obtain ⟨hq1, hq2, hq3, hq4⟩ := hI9.1
        refine lv_iload hx hb d_NoCarries_writePart_51 (lv_at hl 0 rfl) ?_
        refine lv_bipush (v := 8) hx hb d_NoCarries_writePart_53 (by decide) ?_
        refine lv_icmp_ge (tgt := 97) hx hb d_NoCarries_writePart_55 (by decide) (fun c_11 => ?_) (fun c_11 => ?_)
        · exact absurd (nI_ge' (n := 8) (by omega) (by decide) c_11) (by omega)
        · refine lv_aload_n hx hb d_NoCarries_writePart_58 rfl (lv_at hl 2 rfl) ?_
          refine va_get (D := (dC, dI)) (ci := 2) (v := .long (lN e9.2.1)) (C := "RangeCoders$NoCarries") (T := T_NoCarries) (N := 9) hx hb hg in_NoCarries hown hK hP 0 rfl rfl 0 (by decide) (hg _ k70) (fun x9 h9 => u_same (hg _ k71) x9 h9) rfl d_NoCarries_writePart_59 ?_
          refine lv_aload_n hx hb d_NoCarries_writePart_62 rfl (lv_at hl 2 rfl) ?_
          refine va_get (D := (dC, dI)) (ci := 2) (v := .long (lN e9.1)) (C := "RangeCoders$NoCarries") (T := T_NoCarries) (N := 9) hx hb hg in_NoCarries hown hK hP 0 rfl rfl 1 (by decide) (hg _ k78) (fun x9 h9 => u_same (hg _ k79) x9 h9) rfl d_NoCarries_writePart_63 ?_
          refine my_ci (wr := [(co, Sum.inr (2, [Value.long (lN e9.2.1), Value.long (lN e9.1), Value.long xcode, Value.long xreadLow, Value.long xreadRange, Value.ref ri, Value.ref ro, Value.ref rw, Value.int xasked])), (rw, Sum.inr (0, [Value.int (nI e9.2.2.length), Value.ref rwa9])), (rwa9, Sum.inl (cI, rwk9, Sum.inl rwf9))]) (va_runS (As := [Value.long (lN e9.2.1), Value.long (lN e9.1)]) (rest := []) ⟨hx, hb, hml, hown, hts⟩ (f_NoCarries_mustMove l dC dI cI cM cO H.size e9.2.1 e9.1 (hq1) (by omega)) (cwS 2 hts (my_gS k510 k511 k7 k512) rfl rfl rfl (by decide +kernel) ⟨by rw [hR]; exact Nat.le_of_ble_eq_true rfl, by rw [hR]; exact Nat.le_of_ble_eq_true rfl⟩) (my_pre hK hN (hP.sub [] rfl) (hD.sub [] (by decide +kernel) rfl)) rfl rfl hl.1 rfl (lv_room (Nat.le_of_ble_eq_true rfl)) d_NoCarries_writePart_66 ⟨by rw [hR]; exact (show d9 + 0 ≤ (rPh rwk) by omega), by rw [hR]; exact (show d9 + 0 ≤ (rPh rwk) by omega)⟩) hP hD hS hA [] [0, 1, 2] rfl rfl (by decide +kernel) (by decide +kernel) (fun r_66 u9 H locs hw_66 hP hD hS => ?_)
          have hr_66 : r_66 = if mvP e9.2.1 e9.1 then 1 else 0 := hw_66
          have hPD : my_PD (dC, dI) vwCl A [(co, Sum.inr (2, [Value.long (lN e9.2.1), Value.long (lN e9.1), Value.long xcode, Value.long xreadLow, Value.long xreadRange, Value.ref ri, Value.ref ro, Value.ref rw, Value.int xasked])), (rw, Sum.inr (0, [Value.int (nI e9.2.2.length), Value.ref rwa9])), (rwa9, Sum.inl (cI, rwk9, Sum.inl rwf9))] H := ⟨hP, hD⟩
          have hP := hPD.1
          have hD := hPD.2
          refine lv_if_eq (tgt := 97) hx hb d_NoCarries_writePart_69 (by decide) (fun c_12 => ?_) (fun c_12 => ?_)
          · have z9 : e9 = plS (rf, L + rc, bs) := by rw [hE9, plN_e (one_eq hr_66 c_12)]
            subst z9
            subst hrc
            subst hrf
            have hPD : my_PD (dC, dI) vwCl A [(co, Sum.inr (2, [Value.long (lN (plS ((Rg / tt * ff), L + (Rg / tt * cc), bs)).2.1), Value.long (lN (plS ((Rg / tt * ff), L + (Rg / tt * cc), bs)).1), Value.long xcode, Value.long xreadLow, Value.long xreadRange, Value.ref ri, Value.ref ro, Value.ref rw, Value.int xasked])), (rw, Sum.inr (0, [Value.int (nI (plS ((Rg / tt * ff), L + (Rg / tt * cc), bs)).2.2.length), Value.ref rwa9])), (rwa9, Sum.inl (cI, rwk9, Sum.inl rwf9))] H := ⟨hP, hD⟩
            have hP := hPD.1
            have hD := hPD.2
            exact my_vretg hx hb hr hlocks hQ hK hS (rwa9, rwk9, rwf9) (show d9 + (rPh rwk9) ≤ (rPh rwk) by omega) (show d9 + (rPh rwk9) ≤ (rPh rwk) by omega) (⟨hr9, hg9⟩) (hP.sub [0, 1, 2] rfl) (hD.sub [0, 1, 2] (by decide +kernel) rfl) d_NoCarries_writePart_97
          · have hmv : mvP e9.2.1 e9.1 := one_ne hr_66 c_12
            refine lv_aload_n hx hb d_NoCarries_writePart_72 rfl (lv_at hl 2 rfl) ?_
            refine lv_aload_n hx hb d_NoCarries_writePart_73 rfl (lv_at hl 2 rfl) ?_
            refine va_get (D := (dC, dI)) (ci := 2) (v := .long (lN e9.2.1)) (C := "RangeCoders$NoCarries") (T := T_NoCarries) (N := 9) hx hb hg in_NoCarries hown hK hP 0 rfl rfl 0 (by decide) (hg _ k70) (fun x9 h9 => u_same (hg _ k71) x9 h9) rfl d_NoCarries_writePart_74 ?_
            refine lv_aload_n hx hb d_NoCarries_writePart_77 rfl (lv_at hl 2 rfl) ?_
            refine va_get (D := (dC, dI)) (ci := 2) (v := .long (lN e9.1)) (C := "RangeCoders$NoCarries") (T := T_NoCarries) (N := 9) hx hb hg in_NoCarries hown hK hP 0 rfl rfl 1 (by decide) (hg _ k78) (fun x9 h9 => u_same (hg _ k79) x9 h9) rfl d_NoCarries_writePart_78 ?_
            refine my_cl (wr := [(co, Sum.inr (2, [Value.long (lN e9.2.1), Value.long (lN e9.1), Value.long xcode, Value.long xreadLow, Value.long xreadRange, Value.ref ri, Value.ref ro, Value.ref rw, Value.int xasked])), (rw, Sum.inr (0, [Value.int (nI e9.2.2.length), Value.ref rwa9])), (rwa9, Sum.inl (cI, rwk9, Sum.inl rwf9))]) (va_runS (As := [Value.long (lN e9.2.1), Value.long (lN e9.1)]) (rest := [Value.ref co]) ⟨hx, hb, hml, hown, hts⟩ (f_NoCarries_moved l dC dI cI cM cO H.size e9.2.1 e9.1 (hq1) (by omega)) (cwS 2 hts (my_gS k517 k518 k7 k519) rfl rfl rfl (by decide +kernel) ⟨by rw [hR]; exact Nat.le_of_ble_eq_true rfl, by rw [hR]; exact Nat.le_of_ble_eq_true rfl⟩) (my_pre hK hN (hP.sub [] rfl) (hD.sub [] (by decide +kernel) rfl)) rfl rfl hl.1 rfl (lv_room (Nat.le_of_ble_eq_true rfl)) d_NoCarries_writePart_81 ⟨by rw [hR]; exact (show d9 + 0 ≤ (rPh rwk) by omega), by rw [hR]; exact (show d9 + 0 ≤ (rPh rwk) by omega)⟩) hP hD hS hA [] [0, 1, 2] rfl rfl (by decide +kernel) (by decide +kernel) (fun r_81 u9 H locs hw_81 hP hD hS => ?_)
            have hr_81 : r_81 = lN (mvR e9.2.1 e9.1) := hw_81
            have hPD : my_PD (dC, dI) vwCl A [(co, Sum.inr (2, [Value.long (lN e9.2.1), Value.long (lN e9.1), Value.long xcode, Value.long xreadLow, Value.long xreadRange, Value.ref ri, Value.ref ro, Value.ref rw, Value.int xasked])), (rw, Sum.inr (0, [Value.int (nI e9.2.2.length), Value.ref rwa9])), (rwa9, Sum.inl (cI, rwk9, Sum.inl rwf9))] H := ⟨hP, hD⟩
            have hP := hPD.1
            have hD := hPD.2
            have z9 : r_81 = lN (mvR e9.2.1 e9.1) := hr_81
            subst z9
            refine va_put (D := (dC, dI)) (ci := 2) (v := .long (lN (mvR e9.2.1 e9.1))) (ty := .long) (C := "RangeCoders$NoCarries") (T := T_NoCarries) (N := 9) hx hb hg in_NoCarries t_NoCarries o_NoCarries n_NoCarries hown hK hP hD hS 0 rfl rfl 1 (by decide) (hg _ k78) (fun x9 h9 => u_same (hg _ k79) x9 h9) rfl (by decide +kernel) rfl rfl (Nat.le_of_ble_eq_true rfl) d_NoCarries_writePart_84 (fun H locs hP hD hS => ?_)
            have hPD : my_PD (dC, dI) vwCl A [(co, Sum.inr (2, [Value.long (lN e9.2.1), Value.long (lN (mvR e9.2.1 e9.1)), Value.long xcode, Value.long xreadLow, Value.long xreadRange, Value.ref ri, Value.ref ro, Value.ref rw, Value.int xasked])), (rw, Sum.inr (0, [Value.int (nI e9.2.2.length), Value.ref rwa9])), (rwa9, Sum.inl (cI, rwk9, Sum.inl rwf9))] H := ⟨hP, hD⟩
            have hP := hPD.1
            have hD := hPD.2
            refine lv_aload_n hx hb d_NoCarries_writePart_87 rfl (lv_at hl 2 rfl) ?_
            refine my_cvg (wr := []) (va_runV (As := []) (rest := []) ⟨hx, hb, hml, hown, hts⟩ (f_NoCarries_writeTop l dC dI cI cM cO H.size (hSl H) co (lN (mvR e9.2.1 e9.1)) xcode xreadLow xreadRange ri ro rw xasked e9.2.1 rwa9 rwk9 rwf9 e9.2.2 (hq1) (hr9) (hg9) (by omega)) (cwV 0 hts (my_gV k521 k523 ks8 k7 k524) rfl rfl rfl (by decide +kernel) ⟨by rw [hR]; exact Nat.le_of_ble_eq_true rfl, by rw [hR]; exact Nat.le_of_ble_eq_true rfl⟩) (my_preVg hK hN (hP.sub [0, 1, 2] rfl) (hD.sub [0, 1, 2] (by decide +kernel) rfl) 0 rfl rfl) rfl rfl hl.1 rfl (lv_room (Nat.le_of_ble_eq_true rfl)) d_NoCarries_writePart_88 ⟨by rw [hR]; exact (show d9 + (rPh rwk9) ≤ (rPh rwk) by omega), by rw [hR]; exact (show d9 + (rPh rwk9) ≤ (rPh rwk) by omega)⟩) hP hD hS hA [0, 1, 2] [] rfl rfl (by decide +kernel) (by decide +kernel) (fun u9 d_88 H locs hd_88 hw_88 hP hD hS => ?_)
            obtain ⟨rwaq_88, rwkq_88, rwfq_88⟩ := u9
            obtain ⟨hrw_88, hGrw_88⟩ : rOk (nI (e9.2.2 ++ [e9.2.1 / 16777216 % 256]).length) rwkq_88 ∧ gIs rwfq_88 (e9.2.2 ++ [e9.2.1 / 16777216 % 256]) := hw_88
            have hd_88 : d_88 + (rPh rwkq_88) ≤ (rPh rwk9) := hd_88
            have hPD : my_PD (dC, dI) vwCl A [(co, Sum.inr (2, [Value.long (lN (mvL e9.2.1)), Value.long (lN (mvR e9.2.1 e9.1)), Value.long xcode, Value.long xreadLow, Value.long xreadRange, Value.ref ri, Value.ref ro, Value.ref rw, Value.int xasked])), (rw, Sum.inr (0, [Value.int (nI (e9.2.2 ++ [e9.2.1 / 16777216 % 256]).length), Value.ref rwaq_88])), (rwaq_88, Sum.inl (cI, rwkq_88, Sum.inl rwfq_88))] H := ⟨hP, hD⟩
            have hP := hPD.1
            have hD := hPD.2
            obtain ⟨v_13, ev_13⟩ : ∃ y : Int32, y = (nI (8 - k9)) + (1) := ⟨_, rfl⟩
            refine lv_iinc (v := v_13) (lv' := [(6, Value.int v_13), (4, Value.long (lN (Rg / tt))), (0, Value.ref co), (1, Value.int (nI ff)), (2, Value.int (nI cc)), (3, Value.int (nI tt))]) hx hb d_NoCarries_writePart_91 hl (k := 0) rfl (by rw [ev_13]; rfl) (by decide) rfl (fun ls hl => ?_)
            have z9 : v_13 = nI (8 - (k9 - 1)) := by rw [ev_13, show 8 - (k9 - 1) = 8 - k9 + 1 by omega]; exact nI_1 _
            subst z9
            refine lv_goto (tgt := 51) hx hb d_NoCarries_writePart_94 (by decide) ?_
            exact ih9_51 _ (by first | omega | (omega)) (mvR e9.2.1 e9.1, mvL e9.2.1, e9.2.2 ++ [e9.2.1 / 16777216 % 256]) (k9 - 1) rwaq_88 rwkq_88 rwfq_88 (d9 + d_88) rfl (by rw [hE9, plN_s (by omega) hmv]) ((plI_st hI9 hmv).2) (by have z9 := (plI_st hI9 hmv).1; show (e9.2.2 ++ [_]).length + (k9 - 1) ≤ _; rw [List.length_append, List.length_singleton]; omega) (hrw_88) (hGrw_88) (by omega) H locs ls (hP.sub [0, 1, 2] rfl) (hD.sub [0, 1, 2] (by decide +kernel) rfl) hS (lv_sub hl [0, 1, 2, 3, 4, 5] rfl)
    exact J_51 _ (rf, L + rc, bs) (8 : Nat) rwa rwk rwf (0 : Nat) rfl (rfl) (plI_0 (R := rf) (L := L + rc) ⟨by omega, by omega, by omega, fun z => by have := hp4 (by omega); omega⟩) (by show bs.length + 8 ≤ _; omega) (hrw) (hGrw) (by omega) H locs ls (hP.sub [0, 1, 2] rfl) (hD.sub [0, 1, 2] (by decide +kernel) rfl) hS (lv_sub hl [0, 1, 2, 3, 4, 5] rfl)
set_option maxHeartbeats 2000000 in
set_option maxRecDepth 100000 in
theorem f_NoCarries_writeValue (l : Launch) (dC : Nat → ClassId) (dI : Nat → Nat → Nat) (cI cM cO : ClassId) (sz : Nat) (sl : Nat) (co : Nat) (xcode : Int64) (xreadLow : Int64) (xreadRange : Int64) (ri : Nat) (ro : Nat) (rw : Nat) (xasked : Int32) (Rg : Nat) (L : Nat) (rwa : Nat) (rwk : Nat) (rwf : Nat → Int32) (bs : List Nat) (v : Nat) (b : Nat) (hb1 : 1 ≤ b) (hb2 : b ≤ 12) (hv : v < 2 ^ b) (hp : pOk Rg L) (hR6 : 65536 ≤ Rg) (hrw : rOk (nI bs.length) rwk) (hGrw : gIs rwf bs) (hN9 : bs.length + 5 ≤ 7900) : MetVg l y_Ranged_writeValue (Cond.code y_Ranged_writeValue prog_8_method_8_code 3 none :: gw) ({ frames := 5, cells := rPh rwk, slots := rPh rwk, locals := 129 } : Room) (dC, dI) vwCl (kT cI cM cO) [Value.ref co, Value.int (nI v), Value.int (nI b)] [(co, Sum.inr (2, [Value.long (lN L), Value.long (lN Rg), Value.long xcode, Value.long xreadLow, Value.long xreadRange, Value.ref ri, Value.ref ro, Value.ref rw, Value.int xasked])), (rw, Sum.inr (0, [Value.int (nI bs.length), Value.ref rwa])), (rwa, Sum.inl (cI, rwk, Sum.inl rwf))] sz sl (fun (u : Nat × Nat × (Nat → Int32)) => rOk (nI ((plS (Rg / 2 ^ b * 1, L + Rg / 2 ^ b * v, bs)).2.2).length) u.2.1 ∧ gIs u.2.2 ((plS (Rg / 2 ^ b * 1, L + Rg / 2 ^ b * v, bs)).2.2)) (fun (u : Nat × Nat × (Nat → Int32)) => [(co, Sum.inr (2, [Value.long (lN (plS (Rg / 2 ^ b * 1, L + Rg / 2 ^ b * v, bs)).2.1), Value.long (lN (plS (Rg / 2 ^ b * 1, L + Rg / 2 ^ b * v, bs)).1), Value.long xcode, Value.long xreadLow, Value.long xreadRange, Value.ref ri, Value.ref ro, Value.ref rw, Value.int xasked])), (rw, Sum.inr (0, [Value.int (nI (plS (Rg / 2 ^ b * 1, L + Rg / 2 ^ b * v, bs)).2.2.length), Value.ref u.1])), (u.1, Sum.inl (cI, u.2.1, Sum.inl u.2.2))]) (rPh rwk) (fun (u : Nat × Nat × (Nat → Int32)) => rPh u.2.1) := by
  refine my_ofVg (cc := prog_8_method_8_code) (n := 3) (ret := none) (by decide) rfl (Nat.le_of_ble_eq_true rfl) ?_
  intro p e s m args below meth c R Q A ls H locs hx hb hr hts hown hlocks hml hnm hR hQ hA hl hP hK hN hD hS
  have hg : ∀ w ∈ gw, w.before args s = true := fun w h => hts w (List.mem_cons_of_mem _ h)
  have hown : s.vm.findClass "RangeCoders$Ranged" = some m.cls := hown
  have hl : lv_has ls 3 [(0, Value.ref co), (1, Value.int (nI v)), (2, Value.int (nI b))] := hl
  have hltw := rOk_lt hrw
  have hpw : 2 ^ b ≤ 2 ^ 12 := Nat.pow_le_pow_right (by decide) hb2
  have hpw0 : 0 < 2 ^ b := Nat.pow_pos (by decide)
  refine lv_aload_n hx hb d_Ranged_writeValue_0 rfl (lv_at hl 0 rfl) ?_
  refine lv_iconst (v := 1) hx hb d_Ranged_writeValue_1 (by decide) ?_
  refine lv_iload_n hx hb d_Ranged_writeValue_2 rfl (lv_at hl 1 rfl) ?_
  refine lv_iconst (v := 1) hx hb d_Ranged_writeValue_3 (by decide) ?_
  refine lv_iload_n hx hb d_Ranged_writeValue_4 rfl (lv_at hl 2 rfl) ?_
  refine lv_ishl hx hb d_Ranged_writeValue_5 ?_
  refine lv_topi (fun v_1 ev_1 => ?_)
  have z9 : v_1 = nI (2 ^ b) := by rw [ev_1]; exact shl1 b (by omega)
  subst z9
  refine W.eq (g2 := F0 m 6 ls [Value.int (nI (2 ^ b)), Value.int (nI v), Value.int (nI 1), Value.ref co]) rfl ?_
  refine my_cvg (wr := []) (va_runU (As := [Value.int (nI 1), Value.int (nI v), Value.int (nI (2 ^ b))]) (rest := []) ⟨hx, hb, hml, hown, hts⟩ (f_NoCarries_writePart l dC dI cI cM cO H.size (hSl H) co xcode xreadLow xreadRange ri ro rw xasked Rg L rwa rwk rwf bs v 1 (2 ^ b) (hpw0) (by omega) (hv) (by decide) (by omega) (by first | assumption | omega) (by first | assumption | omega) (by first | assumption | omega) (by omega)) (va_cwA 3 hts (my_gU k498 k500 k506 k507 k7 k508) rfl rfl rfl (hN.1 _ j499 rfl) (by decide +kernel) ⟨by rw [hR]; exact Nat.le_of_ble_eq_true rfl, by rw [hR]; exact Nat.le_of_ble_eq_true rfl⟩) (my_preVg hK hN (hP.sub [0, 1, 2] rfl) (hD.sub [0, 1, 2] (by decide +kernel) rfl) 0 rfl rfl) rfl rfl hl.1 rfl (lv_room (Nat.le_of_ble_eq_true rfl)) d_Ranged_writeValue_6 ⟨by rw [hR]; exact (show 0 + (rPh rwk) ≤ (rPh rwk) by omega), by rw [hR]; exact (show 0 + (rPh rwk) ≤ (rPh rwk) by omega)⟩) hP hD hS hA [0, 1, 2] [] rfl rfl (by decide +kernel) (by decide +kernel) (fun u9 d_6 H locs hd_6 hw_6 hP hD hS => ?_)
  obtain ⟨rwaq_6, rwkq_6, rwfq_6⟩ := u9
  obtain ⟨hrw_6, hGrw_6⟩ : rOk (nI ((plS (Rg / (2 ^ b) * 1, L + Rg / (2 ^ b) * v, bs)).2.2).length) rwkq_6 ∧ gIs rwfq_6 ((plS (Rg / (2 ^ b) * 1, L + Rg / (2 ^ b) * v, bs)).2.2) := hw_6
  have hd_6 : d_6 + (rPh rwkq_6) ≤ (rPh rwk) := hd_6
  have hPD : my_PD (dC, dI) vwCl A [(co, Sum.inr (2, [Value.long (lN (plS (Rg / (2 ^ b) * 1, L + Rg / (2 ^ b) * v, bs)).2.1), Value.long (lN (plS (Rg / (2 ^ b) * 1, L + Rg / (2 ^ b) * v, bs)).1), Value.long xcode, Value.long xreadLow, Value.long xreadRange, Value.ref ri, Value.ref ro, Value.ref rw, Value.int xasked])), (rw, Sum.inr (0, [Value.int (nI (plS (Rg / (2 ^ b) * 1, L + Rg / (2 ^ b) * v, bs)).2.2.length), Value.ref rwaq_6])), (rwaq_6, Sum.inl (cI, rwkq_6, Sum.inl rwfq_6))] H := ⟨hP, hD⟩
  have hP := hPD.1
  have hD := hPD.2
  exact my_vretg hx hb hr hlocks hQ hK hS (rwaq_6, rwkq_6, rwfq_6) (show (0 + d_6) + (rPh rwkq_6) ≤ (rPh rwk) by omega) (show (0 + d_6) + (rPh rwkq_6) ≤ (rPh rwk) by omega) (⟨hrw_6, hGrw_6⟩) (hP.sub [0, 1, 2] rfl) (hD.sub [0, 1, 2] (by decide +kernel) rfl) d_Ranged_writeValue_9
set_option maxHeartbeats 2000000 in
set_option maxRecDepth 100000 in
theorem f_NoCarries_writeSign (l : Launch) (dC : Nat → ClassId) (dI : Nat → Nat → Nat) (cI cM cO : ClassId) (sz : Nat) (sl : Nat) (co : Nat) (xcode : Int64) (xreadLow : Int64) (xreadRange : Int64) (ri : Nat) (ro : Nat) (rw : Nat) (xasked : Int32) (Rg : Nat) (L : Nat) (rwa : Nat) (rwk : Nat) (rwf : Nat → Int32) (bs : List Nat) (oo : Nat) (osg : Int32) (ofc : Int32) (oca : Nat) (opa : Nat) (n : Nat) (ocf : Nat → Int32) (opl : Nat) (opf : Nat → Int32) (F : Nat → Nat) (t : Nat) (hn : n ≤ 64) (hpl : opl ≤ 512) (hf : tbI ocf n F) (ht : t < n) (hfc : ofc ≤ nI t) (hFt : 0 < F t) (hsum : ns F n ≤ 8192) (hp : pOk Rg L) (hR6 : 65536 ≤ Rg) (hrw : rOk (nI bs.length) rwk) (hGrw : gIs rwf bs) (hN9 : bs.length + 5 ≤ 7900) : MetVg l y_Ranged_writeSign (Cond.code y_Ranged_writeSign prog_8_method_7_code 3 none :: gw) ({ frames := 5, cells := rPh rwk, slots := rPh rwk, locals := 129 } : Room) (dC, dI) vwCl (kT cI cM cO) [Value.ref co, Value.ref oo, Value.int (nI t)] [(co, Sum.inr (2, [Value.long (lN L), Value.long (lN Rg), Value.long xcode, Value.long xreadLow, Value.long xreadRange, Value.ref ri, Value.ref ro, Value.ref rw, Value.int xasked])), (rw, Sum.inr (0, [Value.int (nI bs.length), Value.ref rwa])), (rwa, Sum.inl (cI, rwk, Sum.inl rwf)), (oo, Sum.inr (7, [Value.int osg, Value.int (nI (ns F n)), Value.int ofc, Value.ref oca, Value.ref opa])), (oca, Sum.inl (cI, n, Sum.inl ocf)), (opa, Sum.inl (cI, opl, Sum.inl opf))] sz sl (fun (u : Nat × Nat × (Nat → Int32) × (Nat → Int32)) => rOk (nI ((plS (Rg / ns F n * F t, L + Rg / ns F n * ns F t, bs)).2.2).length) u.2.1 ∧ gIs u.2.2.1 ((plS (Rg / ns F n * F t, L + Rg / ns F n * ns F t, bs)).2.2) ∧ tbI u.2.2.2 n (lrn n t F)) (fun (u : Nat × Nat × (Nat → Int32) × (Nat → Int32)) => [(co, Sum.inr (2, [Value.long (lN (plS (Rg / ns F n * F t, L + Rg / ns F n * ns F t, bs)).2.1), Value.long (lN (plS (Rg / ns F n * F t, L + Rg / ns F n * ns F t, bs)).1), Value.long xcode, Value.long xreadLow, Value.long xreadRange, Value.ref ri, Value.ref ro, Value.ref rw, Value.int xasked])), (rw, Sum.inr (0, [Value.int (nI (plS (Rg / ns F n * F t, L + Rg / ns F n * ns F t, bs)).2.2.length), Value.ref u.1])), (u.1, Sum.inl (cI, u.2.1, Sum.inl u.2.2.1)), (oo, Sum.inr (7, [Value.int osg, Value.int (nI (ns (lrn n t F) n)), Value.int ofc, Value.ref oca, Value.ref opa])), (oca, Sum.inl (cI, n, Sum.inl u.2.2.2)), (opa, Sum.inl (cI, opl, Sum.inl opf))]) (rPh rwk) (fun (u : Nat × Nat × (Nat → Int32) × (Nat → Int32)) => rPh u.2.1) := by
  refine my_ofVg (cc := prog_8_method_7_code) (n := 3) (ret := none) (by decide) rfl (Nat.le_of_ble_eq_true rfl) ?_
  intro p e s m args below meth c R Q A ls H locs hx hb hr hts hown hlocks hml hnm hR hQ hA hl hP hK hN hD hS
  have hg : ∀ w ∈ gw, w.before args s = true := fun w h => hts w (List.mem_cons_of_mem _ h)
  have hown : s.vm.findClass "RangeCoders$Ranged" = some m.cls := hown
  have hl : lv_has ls 3 [(0, Value.ref co), (1, Value.ref oo), (2, Value.int (nI t))] := hl
  have hltw := rOk_lt hrw
  have hm1 := ns_m1 F ht
  have hbd : bd F n 100000 := fun k hk => by have := ns_ge (F := F) hk; omega
  refine lv_aload_n hx hb d_Ranged_writeSign_0 rfl (lv_at hl 0 rfl) ?_
  refine lv_aload_n hx hb d_Ranged_writeSign_1 rfl (lv_at hl 1 rfl) ?_
  refine lv_iload_n hx hb d_Ranged_writeSign_2 rfl (lv_at hl 2 rfl) ?_
  refine my_ci (wr := [(co, Sum.inr (2, [Value.long (lN L), Value.long (lN Rg), Value.long xcode, Value.long xreadLow, Value.long xreadRange, Value.ref ri, Value.ref ro, Value.ref rw, Value.int xasked])), (rw, Sum.inr (0, [Value.int (nI bs.length), Value.ref rwa])), (rwa, Sum.inl (cI, rwk, Sum.inl rwf))]) (va_runV (As := [Value.int (nI t)]) (rest := [Value.ref co]) ⟨hx, hb, hml, hown, hts⟩ (f_Odds_at l dC dI cI cM cO H.size oo osg ofc oca opa n ocf opl opf (nI (ns F n)) t (by first | assumption | omega) (by first | assumption | omega) (by first | assumption | omega) (by first | assumption | omega)) (cwV 1 hts (my_gV k493 k436 k437 k14 k438) rfl rfl rfl (by decide +kernel) ⟨by rw [hR]; exact Nat.le_of_ble_eq_true rfl, by rw [hR]; exact Nat.le_of_ble_eq_true rfl⟩) (my_preV hK hN (hP.sub [3, 4, 5] rfl) (hD.sub [3, 4, 5] (by decide +kernel) rfl) 0 rfl rfl) rfl rfl hl.1 rfl (lv_room (Nat.le_of_ble_eq_true rfl)) d_Ranged_writeSign_3 ⟨by rw [hR]; exact (show 0 + 0 ≤ (rPh rwk) by omega), by rw [hR]; exact (show 0 + 0 ≤ (rPh rwk) by omega)⟩) hP hD hS hA [3, 4, 5] [0, 1, 2] rfl rfl (by decide +kernel) (by decide +kernel) (fun r_3 u9 H locs hw_3 hP hD hS => ?_)
  have hr_3 : r_3 = ocf t := hw_3
  have hPD : my_PD (dC, dI) vwCl A [(co, Sum.inr (2, [Value.long (lN L), Value.long (lN Rg), Value.long xcode, Value.long xreadLow, Value.long xreadRange, Value.ref ri, Value.ref ro, Value.ref rw, Value.int xasked])), (rw, Sum.inr (0, [Value.int (nI bs.length), Value.ref rwa])), (rwa, Sum.inl (cI, rwk, Sum.inl rwf)), (oo, Sum.inr (7, [Value.int osg, Value.int (nI (ns F n)), Value.int ofc, Value.ref oca, Value.ref opa])), (oca, Sum.inl (cI, n, Sum.inl ocf)), (opa, Sum.inl (cI, opl, Sum.inl opf))] H := ⟨hP, hD⟩
  have hP := hPD.1
  have hD := hPD.2
  rw [hf t ht] at hr_3
  have z9 : r_3 = nI (F t) := hr_3
  subst z9
  refine lv_aload_n hx hb d_Ranged_writeSign_6 rfl (lv_at hl 1 rfl) ?_
  refine lv_iload_n hx hb d_Ranged_writeSign_7 rfl (lv_at hl 2 rfl) ?_
  refine my_ci (wr := [(co, Sum.inr (2, [Value.long (lN L), Value.long (lN Rg), Value.long xcode, Value.long xreadLow, Value.long xreadRange, Value.ref ri, Value.ref ro, Value.ref rw, Value.int xasked])), (rw, Sum.inr (0, [Value.int (nI bs.length), Value.ref rwa])), (rwa, Sum.inl (cI, rwk, Sum.inl rwf))]) (va_runV (As := [Value.int (nI t)]) (rest := [Value.int (nI (F t)), Value.ref co]) ⟨hx, hb, hml, hown, hts⟩ (f_Odds_below l dC dI cI cM cO H.size oo osg ofc oca opa n ocf opl opf F (nI (ns F n)) t (by first | assumption | omega) (by first | assumption | omega) (by first | assumption | omega) (by omega)) (cwV 1 hts (my_gV k494 k495 k496 k14 k497) rfl rfl rfl (by decide +kernel) ⟨by rw [hR]; exact Nat.le_of_ble_eq_true rfl, by rw [hR]; exact Nat.le_of_ble_eq_true rfl⟩) (my_preV hK hN (hP.sub [3, 4, 5] rfl) (hD.sub [3, 4, 5] (by decide +kernel) rfl) 0 rfl rfl) rfl rfl hl.1 rfl (lv_room (Nat.le_of_ble_eq_true rfl)) d_Ranged_writeSign_8 ⟨by rw [hR]; exact (show 0 + 0 ≤ (rPh rwk) by omega), by rw [hR]; exact (show 0 + 0 ≤ (rPh rwk) by omega)⟩) hP hD hS hA [3, 4, 5] [0, 1, 2] rfl rfl (by decide +kernel) (by decide +kernel) (fun r_8 u9 H locs hw_8 hP hD hS => ?_)
  have hr_8 : r_8 = nI (ns F t) := hw_8
  have hPD : my_PD (dC, dI) vwCl A [(co, Sum.inr (2, [Value.long (lN L), Value.long (lN Rg), Value.long xcode, Value.long xreadLow, Value.long xreadRange, Value.ref ri, Value.ref ro, Value.ref rw, Value.int xasked])), (rw, Sum.inr (0, [Value.int (nI bs.length), Value.ref rwa])), (rwa, Sum.inl (cI, rwk, Sum.inl rwf)), (oo, Sum.inr (7, [Value.int osg, Value.int (nI (ns F n)), Value.int ofc, Value.ref oca, Value.ref opa])), (oca, Sum.inl (cI, n, Sum.inl ocf)), (opa, Sum.inl (cI, opl, Sum.inl opf))] H := ⟨hP, hD⟩
  have hP := hPD.1
  have hD := hPD.2
  have z9 : r_8 = nI (ns F t) := hr_8
  subst z9
  refine lv_aload_n hx hb d_Ranged_writeSign_11 rfl (lv_at hl 1 rfl) ?_
  refine va_get (D := (dC, dI)) (ci := 7) (v := .int (nI (ns F n))) (C := "RangeCoders$Odds") (T := T_Odds) (N := 5) hx hb hg in_Odds hown hK hP 3 rfl rfl 1 (by decide) (hg _ k306) (fun _ h9 => h9) rfl d_Ranged_writeSign_12 ?_
  refine my_cvg (wr := [(oo, Sum.inr (7, [Value.int osg, Value.int (nI (ns F n)), Value.int ofc, Value.ref oca, Value.ref opa])), (oca, Sum.inl (cI, n, Sum.inl ocf)), (opa, Sum.inl (cI, opl, Sum.inl opf))]) (va_runU (As := [Value.int (nI (F t)), Value.int (nI (ns F t)), Value.int (nI (ns F n))]) (rest := []) ⟨hx, hb, hml, hown, hts⟩ (f_NoCarries_writePart l dC dI cI cM cO H.size (hSl H) co xcode xreadLow xreadRange ri ro rw xasked Rg L rwa rwk rwf bs (ns F t) (F t) (ns F n) (by omega) (by omega) (hm1) (hFt) (by omega) (by first | assumption | omega) (by first | assumption | omega) (by first | assumption | omega) (by first | assumption | omega)) (va_cwA 3 hts (my_gU k498 k500 k506 k507 k7 k508) rfl rfl rfl (hN.1 _ j499 rfl) (by decide +kernel) ⟨by rw [hR]; exact Nat.le_of_ble_eq_true rfl, by rw [hR]; exact Nat.le_of_ble_eq_true rfl⟩) (my_preVg hK hN (hP.sub [0, 1, 2] rfl) (hD.sub [0, 1, 2] (by decide +kernel) rfl) 0 rfl rfl) rfl rfl hl.1 rfl (lv_room (Nat.le_of_ble_eq_true rfl)) d_Ranged_writeSign_15 ⟨by rw [hR]; exact (show 0 + (rPh rwk) ≤ (rPh rwk) by omega), by rw [hR]; exact (show 0 + (rPh rwk) ≤ (rPh rwk) by omega)⟩) hP hD hS hA [0, 1, 2] [3, 4, 5] rfl rfl (by decide +kernel) (by decide +kernel) (fun u9 d_15 H locs hd_15 hw_15 hP hD hS => ?_)
  obtain ⟨rwaq_15, rwkq_15, rwfq_15⟩ := u9
  obtain ⟨hrw_15, hGrw_15⟩ : rOk (nI ((plS (Rg / (ns F n) * (F t), L + Rg / (ns F n) * (ns F t), bs)).2.2).length) rwkq_15 ∧ gIs rwfq_15 ((plS (Rg / (ns F n) * (F t), L + Rg / (ns F n) * (ns F t), bs)).2.2) := hw_15
  have hd_15 : d_15 + (rPh rwkq_15) ≤ (rPh rwk) := hd_15
  have hPD : my_PD (dC, dI) vwCl A [(oo, Sum.inr (7, [Value.int osg, Value.int (nI (ns F n)), Value.int ofc, Value.ref oca, Value.ref opa])), (oca, Sum.inl (cI, n, Sum.inl ocf)), (opa, Sum.inl (cI, opl, Sum.inl opf)), (co, Sum.inr (2, [Value.long (lN (plS (Rg / (ns F n) * (F t), L + Rg / (ns F n) * (ns F t), bs)).2.1), Value.long (lN (plS (Rg / (ns F n) * (F t), L + Rg / (ns F n) * (ns F t), bs)).1), Value.long xcode, Value.long xreadLow, Value.long xreadRange, Value.ref ri, Value.ref ro, Value.ref rw, Value.int xasked])), (rw, Sum.inr (0, [Value.int (nI (plS (Rg / (ns F n) * (F t), L + Rg / (ns F n) * (ns F t), bs)).2.2.length), Value.ref rwaq_15])), (rwaq_15, Sum.inl (cI, rwkq_15, Sum.inl rwfq_15))] H := ⟨hP, hD⟩
  have hP := hPD.1
  have hD := hPD.2
  refine lv_aload_n hx hb d_Ranged_writeSign_18 rfl (lv_at hl 1 rfl) ?_
  refine lv_iload_n hx hb d_Ranged_writeSign_19 rfl (lv_at hl 2 rfl) ?_
  refine my_cv (wr := [(co, Sum.inr (2, [Value.long (lN (plS (Rg / (ns F n) * (F t), L + Rg / (ns F n) * (ns F t), bs)).2.1), Value.long (lN (plS (Rg / (ns F n) * (F t), L + Rg / (ns F n) * (ns F t), bs)).1), Value.long xcode, Value.long xreadLow, Value.long xreadRange, Value.ref ri, Value.ref ro, Value.ref rw, Value.int xasked])), (rw, Sum.inr (0, [Value.int (nI (plS (Rg / (ns F n) * (F t), L + Rg / (ns F n) * (ns F t), bs)).2.2.length), Value.ref rwaq_15])), (rwaq_15, Sum.inl (cI, rwkq_15, Sum.inl rwfq_15))]) (va_runV (As := [Value.int (nI t)]) (rest := []) ⟨hx, hb, hml, hown, hts⟩ (f_Odds_learn l dC dI cI cM cO H.size oo osg ofc oca opa n ocf opl opf F t (by first | assumption | omega) (by first | assumption | omega) (by first | assumption | omega) (by first | assumption | omega) (by first | assumption | omega) (hbd)) (cwV 1 hts (my_gV k526 k527 k528 k14 k529) rfl rfl rfl (by decide +kernel) ⟨by rw [hR]; exact Nat.le_of_ble_eq_true rfl, by rw [hR]; exact Nat.le_of_ble_eq_true rfl⟩) (my_preV hK hN (hP.sub [0, 1, 2] rfl) (hD.sub [0, 1, 2] (by decide +kernel) rfl) 0 rfl rfl) rfl rfl hl.1 rfl (lv_room (Nat.le_of_ble_eq_true rfl)) d_Ranged_writeSign_20 ⟨by rw [hR]; exact (show (0 + d_15) + 0 ≤ (rPh rwk) by omega), by rw [hR]; exact (show (0 + d_15) + 0 ≤ (rPh rwk) by omega)⟩) hP hD hS hA [0, 1, 2] [3, 4, 5] rfl rfl (by decide +kernel) (by decide +kernel) (fun u9 H locs hw_20 hP hD hS => ?_)
  obtain ⟨ocfq_20, rfl⟩ : ∃ z, z = u9 := ⟨_, rfl⟩
  have hf_20 : tbI ocfq_20 n (lrn n t F) := hw_20
  have hPD : my_PD (dC, dI) vwCl A [(co, Sum.inr (2, [Value.long (lN (plS (Rg / (ns F n) * (F t), L + Rg / (ns F n) * (ns F t), bs)).2.1), Value.long (lN (plS (Rg / (ns F n) * (F t), L + Rg / (ns F n) * (ns F t), bs)).1), Value.long xcode, Value.long xreadLow, Value.long xreadRange, Value.ref ri, Value.ref ro, Value.ref rw, Value.int xasked])), (rw, Sum.inr (0, [Value.int (nI (plS (Rg / (ns F n) * (F t), L + Rg / (ns F n) * (ns F t), bs)).2.2.length), Value.ref rwaq_15])), (rwaq_15, Sum.inl (cI, rwkq_15, Sum.inl rwfq_15)), (oo, Sum.inr (7, [Value.int osg, Value.int (nI (ns (lrn n t F) n)), Value.int ofc, Value.ref oca, Value.ref opa])), (oca, Sum.inl (cI, n, Sum.inl ocfq_20)), (opa, Sum.inl (cI, opl, Sum.inl opf))] H := ⟨hP, hD⟩
  have hP := hPD.1
  have hD := hPD.2
  exact my_vretg hx hb hr hlocks hQ hK hS (rwaq_15, rwkq_15, rwfq_15, ocfq_20) (show (0 + d_15) + (rPh rwkq_15) ≤ (rPh rwk) by omega) (show (0 + d_15) + (rPh rwkq_15) ≤ (rPh rwk) by omega) (⟨hrw_15, hGrw_15, hf_20⟩) (hP.sub [0, 1, 2, 3, 4, 5] rfl) (hD.sub [0, 1, 2, 3, 4, 5] (by decide +kernel) rfl) d_Ranged_writeSign_23
set_option maxHeartbeats 2000000 in
set_option maxRecDepth 100000 in
theorem f_NoCarries_flush (l : Launch) (dC : Nat → ClassId) (dI : Nat → Nat → Nat) (cI cM cO : ClassId) (sz : Nat) (sl : Nat) (co : Nat) (xrange : Int64) (xcode : Int64) (xreadLow : Int64) (xreadRange : Int64) (ri : Nat) (ro : Nat) (rw : Nat) (xasked : Int32) (L : Nat) (rwa : Nat) (rwk : Nat) (rwf : Nat → Int32) (bs : List Nat) (hL : L < 4294967296) (hrw : rOk (nI bs.length) rwk) (hGrw : gIs rwf bs) (hN9 : bs.length + 5 ≤ 7900) : MetVg l y_NoCarries_flush (Cond.code y_NoCarries_flush prog_6_method_4_code 2 none :: gw) ({ frames := 4, cells := rPh rwk, slots := rPh rwk, locals := 103 } : Room) (dC, dI) vwCl (kT cI cM cO) [Value.ref co] [(co, Sum.inr (2, [Value.long (lN L), Value.long xrange, Value.long xcode, Value.long xreadLow, Value.long xreadRange, Value.ref ri, Value.ref ro, Value.ref rw, Value.int xasked])), (rw, Sum.inr (0, [Value.int (nI bs.length), Value.ref rwa])), (rwa, Sum.inl (cI, rwk, Sum.inl rwf))] sz sl (fun (u : Nat × Nat × (Nat → Int32)) => rOk (nI ((tpK 4 (L, bs)).2).length) u.2.1 ∧ gIs u.2.2 ((tpK 4 (L, bs)).2)) (fun (u : Nat × Nat × (Nat → Int32)) => [(co, Sum.inr (2, [Value.long (lN (tpK 4 (L, bs)).1), Value.long xrange, Value.long xcode, Value.long xreadLow, Value.long xreadRange, Value.ref ri, Value.ref ro, Value.ref rw, Value.int xasked])), (rw, Sum.inr (0, [Value.int (nI (tpK 4 (L, bs)).2.length), Value.ref u.1])), (u.1, Sum.inl (cI, u.2.1, Sum.inl u.2.2))]) (rPh rwk) (fun (u : Nat × Nat × (Nat → Int32)) => rPh u.2.1) := by
  refine my_ofVg (cc := prog_6_method_4_code) (n := 2) (ret := none) (by decide) rfl (Nat.le_of_ble_eq_true rfl) ?_
  intro p e s m args below meth c R Q A ls H locs hx hb hr hts hown hlocks hml hnm hR hQ hA hl hP hK hN hD hS
  have hg : ∀ w ∈ gw, w.before args s = true := fun w h => hts w (List.mem_cons_of_mem _ h)
  have hown : s.vm.findClass "RangeCoders$NoCarries" = some m.cls := hown
  have hl : lv_has ls 2 [(0, Value.ref co)] := hl
  have hltw := rOk_lt hrw
  refine lv_iconst (v := 0) hx hb d_NoCarries_flush_0 (by decide) ?_
  refine lv_istore_n (lv' := [(1, Value.int 0), (0, Value.ref co)]) hx hb d_NoCarries_flush_1 rfl hl (by decide) rfl (fun ls hl => ?_)
  have J_2 : ∀ (n9_2 : Nat) (j : Nat) (e9 : Nat × List Nat) (rwa9 : Nat) (rwk9 : Nat) (rwf9 : Nat → Int32) (d9 : Nat) (hn9_2 : 4 - j = n9_2) (hj : j ≤ 4) (hE9 : tpK 4 (L, bs) = tpK (4 - j) e9) (hL9 : e9.1 < 4294967296) (hM9 : e9.2.length ≤ 7895 + j) (hr9 : rOk (nI e9.2.length) rwk9) (hg9 : gIs rwf9 e9.2) (hd9 : d9 + rPh rwk9 ≤ rPh rwk) (H : Heap) (locs : List Loc) (ls : Array Slot), va_P (dC, dI) vwCl [(co, Sum.inr (2, [Value.long (lN e9.1), Value.long xrange, Value.long xcode, Value.long xreadLow, Value.long xreadRange, Value.ref ri, Value.ref ro, Value.ref rw, Value.int xasked])), (rw, Sum.inr (0, [Value.int (nI e9.2.length), Value.ref rwa9])), (rwa9, Sum.inl (cI, rwk9, Sum.inl rwf9))] H → va_D A [(co, Sum.inr (2, [Value.long (lN e9.1), Value.long xrange, Value.long xcode, Value.long xreadLow, Value.long xreadRange, Value.ref ri, Value.ref ro, Value.ref rw, Value.int xasked])), (rw, Sum.inr (0, [Value.int (nI e9.2.length), Value.ref rwa9])), (rwa9, Sum.inl (cI, rwk9, Sum.inl rwf9))] → va_S A s.heap H locs → lv_has ls 2 [(1, Value.int (nI j)), (0, Value.ref co)] → W p l e R s m args below meth c H locs d9 d9 Q (F0 m 2 ls []) := by
    intro n9_2
    induction n9_2 using Nat.strongRecOn with
    | ind n9_2 ih9_2 =>
      intro j e9 rwa9 rwk9 rwf9 d9 hn9_2 hj hE9 hL9 hM9 hr9 hg9 hd9 H locs ls hP hD hS hl
      refine lv_iload_n hx hb d_NoCarries_flush_2 rfl (lv_at hl 0 rfl) ?_
      refine lv_iconst (v := 4) hx hb d_NoCarries_flush_3 (by decide) ?_
      refine lv_icmp_ge (tgt := 17) hx hb d_NoCarries_flush_4 (by decide) (fun c_1 => ?_) (fun c_1 => ?_)
      · have hj3 : j = 4 := by have := nI_ge' (n := 4) (by omega) (by decide) c_1; omega
        have z9 : e9 = tpK 4 (L, bs) := by rw [hE9, hj3]; rfl
        subst z9
        exact my_vretg hx hb hr hlocks hQ hK hS (rwa9, rwk9, rwf9) (show d9 + (rPh rwk9) ≤ (rPh rwk) by omega) (show d9 + (rPh rwk9) ≤ (rPh rwk) by omega) (⟨hr9, hg9⟩) (hP.sub [0, 1, 2] rfl) (hD.sub [0, 1, 2] (by decide +kernel) rfl) d_NoCarries_flush_17
      · have hj2 : j < 4 := nI_lt' (by omega) c_1
        refine lv_aload_n hx hb d_NoCarries_flush_7 rfl (lv_at hl 1 rfl) ?_
        refine my_cvg (wr := []) (va_runV (As := []) (rest := []) ⟨hx, hb, hml, hown, hts⟩ (f_NoCarries_writeTop l dC dI cI cM cO H.size (hSl H) co xrange xcode xreadLow xreadRange ri ro rw xasked e9.1 rwa9 rwk9 rwf9 e9.2 (hL9) (hr9) (hg9) (by omega)) (cwV 0 hts (my_gV k521 k523 ks8 k7 k524) rfl rfl rfl (by decide +kernel) ⟨by rw [hR]; exact Nat.le_of_ble_eq_true rfl, by rw [hR]; exact Nat.le_of_ble_eq_true rfl⟩) (my_preVg hK hN (hP.sub [0, 1, 2] rfl) (hD.sub [0, 1, 2] (by decide +kernel) rfl) 0 rfl rfl) rfl rfl hl.1 rfl (lv_room (Nat.le_of_ble_eq_true rfl)) d_NoCarries_flush_8 ⟨by rw [hR]; exact (show d9 + (rPh rwk9) ≤ (rPh rwk) by omega), by rw [hR]; exact (show d9 + (rPh rwk9) ≤ (rPh rwk) by omega)⟩) hP hD hS hA [0, 1, 2] [] rfl rfl (by decide +kernel) (by decide +kernel) (fun u9 d_8 H locs hd_8 hw_8 hP hD hS => ?_)
        obtain ⟨rwaq_8, rwkq_8, rwfq_8⟩ := u9
        obtain ⟨hrw_8, hGrw_8⟩ : rOk (nI (e9.2 ++ [e9.1 / 16777216 % 256]).length) rwkq_8 ∧ gIs rwfq_8 (e9.2 ++ [e9.1 / 16777216 % 256]) := hw_8
        have hd_8 : d_8 + (rPh rwkq_8) ≤ (rPh rwk9) := hd_8
        have hPD : my_PD (dC, dI) vwCl A [(co, Sum.inr (2, [Value.long (lN (mvL e9.1)), Value.long xrange, Value.long xcode, Value.long xreadLow, Value.long xreadRange, Value.ref ri, Value.ref ro, Value.ref rw, Value.int xasked])), (rw, Sum.inr (0, [Value.int (nI (e9.2 ++ [e9.1 / 16777216 % 256]).length), Value.ref rwaq_8])), (rwaq_8, Sum.inl (cI, rwkq_8, Sum.inl rwfq_8))] H := ⟨hP, hD⟩
        have hP := hPD.1
        have hD := hPD.2
        obtain ⟨v_2, ev_2⟩ : ∃ y : Int32, y = (nI j) + (1) := ⟨_, rfl⟩
        refine lv_iinc (v := v_2) (lv' := [(1, Value.int v_2), (0, Value.ref co)]) hx hb d_NoCarries_flush_11 hl (k := 0) rfl (by rw [ev_2]; rfl) (by decide) rfl (fun ls hl => ?_)
        have z9 : v_2 = nI (j + 1) := by rw [ev_2]; exact nI_1 _
        subst z9
        refine lv_goto (tgt := 2) hx hb d_NoCarries_flush_14 (by decide) ?_
        exact ih9_2 _ (by first | omega | (omega)) (j + 1) (mvL e9.1, e9.2 ++ [e9.1 / 16777216 % 256]) rwaq_8 rwkq_8 rwfq_8 (d9 + d_8) rfl (by omega) (by rw [hE9, show 4 - j = (4 - (j + 1)) + 1 by omega]; rfl) (Nat.mod_lt _ (by decide)) (by show (e9.2 ++ [_]).length ≤ _; rw [List.length_append, List.length_singleton]; omega) (hrw_8) (hGrw_8) (by omega) H locs ls (hP.sub [0, 1, 2] rfl) (hD.sub [0, 1, 2] (by decide +kernel) rfl) hS (lv_sub hl [0, 1] rfl)
  exact J_2 _ (0 : Nat) (L, bs) rwa rwk rwf (0 : Nat) rfl (by decide) (rfl) (hL) (by show bs.length ≤ _; omega) (hrw) (hGrw) (by omega) H locs ls (hP.sub [0, 1, 2] rfl) (hD.sub [0, 1, 2] (by decide +kernel) rfl) hS (lv_sub hl [0, 1] rfl)
end
section
set_option maxHeartbeats 2000000 in
set_option maxRecDepth 100000 in
theorem f_Bits_levelsOf (l : Launch) (dC : Nat → ClassId) (dI : Nat → Nat → Nat) (cI cM cO : ClassId) (sz : Nat) (n : Nat) (hn1 : 2 ≤ n) (hn : n ≤ 64) : MetI l y_Bits_levelsOf (Cond.code y_Bits_levelsOf prog_2_method_9_code 2 (some .int) :: gw) ({ frames := 0, cells := 0, slots := 0, locals := 0 } : Room) (dC, dI) vwCl (kT cI cM cO) [Value.int (nI n)] [] sz (fun (r : Int32) (u : Unit) => r = nI (lev n)) (fun (u : Unit) => []) 0 0 := by
  refine my_ofI (cc := prog_2_method_9_code) (n := 2) (ret := (some .int)) (by decide) rfl (Nat.le_of_ble_eq_true rfl) ?_
  intro p e s m args below meth c R Q A ls H locs hx hb hr hts hown hlocks hml hnm hR hQ hA hl hP hK hN hD hS
  have hg : ∀ w ∈ gw, w.before args s = true := fun w h => hts w (List.mem_cons_of_mem _ h)
  have hown : s.vm.findClass "RangeCoders$Bits" = some m.cls := hown
  have hl : lv_has ls 2 [(0, Value.int (nI n))] := hl
  refine lv_iconst (v := 1) hx hb d_Bits_levelsOf_0 (by decide) ?_
  refine lv_istore_n (lv' := [(1, Value.int 1), (0, Value.int (nI n))]) hx hb d_Bits_levelsOf_1 rfl hl (by decide) rfl (fun ls hl => ?_)
  have J_2 : ∀ (n9_2 : Nat) (j : Nat) (hn9_2 : 6 - j = n9_2) (hj : j ≤ 6) (hj1 : 1 ≤ j) (hq : 2 ^ (j - 1) < n) (H : Heap) (locs : List Loc) (ls : Array Slot), va_P (dC, dI) vwCl [] H → va_D A [] → va_S A s.heap H locs → lv_has ls 2 [(1, Value.int (nI j)), (0, Value.int (nI n))] → W p l e R s m args below meth c H locs 0 0 Q (F0 m 2 ls []) := by
    intro n9_2
    induction n9_2 using Nat.strongRecOn with
    | ind n9_2 ih9_2 =>
      intro j hn9_2 hj hj1 hq H locs ls hP hD hS hl
      have hp9 : 2 ^ j ≤ 2 ^ 6 := Nat.pow_le_pow_right (by decide) hj
      refine lv_iload_n hx hb d_Bits_levelsOf_2 rfl (lv_at hl 0 rfl) ?_
      refine lv_bipush (v := 6) hx hb d_Bits_levelsOf_3 (by decide) ?_
      refine lv_icmp_ge (tgt := 21) hx hb d_Bits_levelsOf_5 (by decide) (fun c_1 => ?_) (fun c_1 => ?_)
      · have hlv : j = lev n := lev_of hj (by have := nI_ge' (n := 6) (by omega) (by decide) c_1; have e : j = 6 := (by omega); rw [e]; exact hn) (fun _ => hq)
        refine lv_iload_n hx hb d_Bits_levelsOf_21 rfl (lv_at hl 0 rfl) ?_
        exact my_iret (v := nI j) hx hb hr (rfl) hlocks hQ hK hS (Nat.le_refl _) (Nat.le_refl _) () (by rw [← hlv]) (hP.sub [] rfl) (hD.sub [] (by decide +kernel) rfl) d_Bits_levelsOf_22
      · have hj6 : j < 6 := nI_lt' (by omega) c_1
        refine lv_iconst (v := 1) hx hb d_Bits_levelsOf_8 (by decide) ?_
        refine lv_iload_n hx hb d_Bits_levelsOf_9 rfl (lv_at hl 0 rfl) ?_
        refine lv_ishl hx hb d_Bits_levelsOf_10 ?_
        refine lv_topi (fun v_2 ev_2 => ?_)
        have z9 : v_2 = nI (2 ^ j) := by rw [ev_2]; exact shl1 j (by omega)
        subst z9
        refine lv_iload_n hx hb d_Bits_levelsOf_11 rfl (lv_at hl 1 rfl) ?_
        refine lv_icmp_ge (tgt := 21) hx hb d_Bits_levelsOf_12 (by decide) (fun c_3 => ?_) (fun c_3 => ?_)
        · have hlv : j = lev n := lev_of hj (nI_ge' (by omega) (by omega) c_3) (fun _ => hq)
          refine lv_iload_n hx hb d_Bits_levelsOf_21 rfl (lv_at hl 0 rfl) ?_
          exact my_iret (v := nI j) hx hb hr (rfl) hlocks hQ hK hS (Nat.le_refl _) (Nat.le_refl _) () (by rw [← hlv]) (hP.sub [] rfl) (hD.sub [] (by decide +kernel) rfl) d_Bits_levelsOf_22
        · have hlt : 2 ^ (j + 1 - 1) < n := by rw [Nat.add_sub_cancel]; exact nI_lt' (by omega) c_3
          obtain ⟨v_4, ev_4⟩ : ∃ y : Int32, y = (nI j) + (1) := ⟨_, rfl⟩
          refine lv_iinc (v := v_4) (lv' := [(1, Value.int v_4), (0, Value.int (nI n))]) hx hb d_Bits_levelsOf_15 hl (k := 0) rfl (by rw [ev_4]; rfl) (by decide) rfl (fun ls hl => ?_)
          have z9 : v_4 = nI (j + 1) := by rw [ev_4]; exact nI_1 _
          subst z9
          refine lv_goto (tgt := 2) hx hb d_Bits_levelsOf_18 (by decide) ?_
          exact ih9_2 _ (by first | omega | (omega)) (j + 1) rfl (by omega) (by omega) (hlt) H locs ls (hP.sub [] rfl) (hD.sub [] (by decide +kernel) rfl) hS (lv_sub hl [0, 1] rfl)
  exact J_2 _ (1 : Nat) rfl (by decide) (by decide) (by show 1 < n; omega) H locs ls (hP.sub [] rfl) (hD.sub [] (by decide +kernel) rfl) hS (lv_sub hl [0, 1] rfl)
set_option maxHeartbeats 2000000 in
set_option maxRecDepth 100000 in
theorem f_Bits_adapt (l : Launch) (dC : Nat → ClassId) (dI : Nat → Nat → Nat) (cI cM cO : ClassId) (sz : Nat) (co : Nat) (xkeptCode : Int64) (xkeptRange : Int64) (xkeptAsked : Int32) (xcache : Int32) (xpending : Int32) (xlow : Int64) (xrange : Int64) (xcode : Int64) (xreadLow : Int64) (xreadRange : Int64) (ri : Nat) (ro : Nat) (rw : Nat) (xasked : Int32) (oo : Nat) (osg : Int32) (ofc : Int32) (oca : Nat) (opa : Nat) (n : Nat) (ocf : Nat → Int32) (opl : Nat) (opf : Nat → Int32) (osm : Int32) (nd : Nat) (pp : Nat) (bt : Nat) (sh : Nat) (hn : n ≤ 64) (hpl : opl ≤ 512) (hnd0 : 1 ≤ nd) (hnd : nd < n) (hofc : ofc = 1) (hp : ocf nd = nI pp) (hp2 : pp ≤ 2048) (hsh : sh ≤ 10) (hbt : bt < 2) : MetV l y_Bits_adapt (Cond.code y_Bits_adapt prog_2_method_12_code 5 none :: gw) ({ frames := 2, cells := 0, slots := 0, locals := 43 } : Room) (dC, dI) vwCl (kT cI cM cO) [Value.ref co, Value.ref oo, Value.int (nI nd), Value.int (nI bt)] [(co, Sum.inr (3, [Value.int (nI sh), Value.long xkeptCode, Value.long xkeptRange, Value.int xkeptAsked, Value.int xcache, Value.int xpending, Value.long xlow, Value.long xrange, Value.long xcode, Value.long xreadLow, Value.long xreadRange, Value.ref ri, Value.ref ro, Value.ref rw, Value.int xasked])), (oo, Sum.inr (7, [Value.int osg, Value.int osm, Value.int ofc, Value.ref oca, Value.ref opa])), (oca, Sum.inl (cI, n, Sum.inl ocf)), (opa, Sum.inl (cI, opl, Sum.inl opf))] sz (fun (u : Int32 × (Nat → Int32)) => u.2 = upd ocf nd (nI (mvC sh bt pp))) (fun (u : Int32 × (Nat → Int32)) => [(co, Sum.inr (3, [Value.int (nI sh), Value.long xkeptCode, Value.long xkeptRange, Value.int xkeptAsked, Value.int xcache, Value.int xpending, Value.long xlow, Value.long xrange, Value.long xcode, Value.long xreadLow, Value.long xreadRange, Value.ref ri, Value.ref ro, Value.ref rw, Value.int xasked])), (oo, Sum.inr (7, [Value.int osg, Value.int u.1, Value.int ofc, Value.ref oca, Value.ref opa])), (oca, Sum.inl (cI, n, Sum.inl u.2)), (opa, Sum.inl (cI, opl, Sum.inl opf))]) 0 0 := by
  refine my_ofV (cc := prog_2_method_12_code) (n := 5) (ret := none) (by decide) rfl (Nat.le_of_ble_eq_true rfl) ?_
  intro p e s m args below meth c R Q A ls H locs hx hb hr hts hown hlocks hml hnm hR hQ hA hl hP hK hN hD hS
  have hg : ∀ w ∈ gw, w.before args s = true := fun w h => hts w (List.mem_cons_of_mem _ h)
  have hown : s.vm.findClass "RangeCoders$Bits" = some m.cls := hown
  have hl : lv_has ls 5 [(0, Value.ref co), (1, Value.ref oo), (2, Value.int (nI nd)), (3, Value.int (nI bt))] := hl
  refine lv_aload_n hx hb d_Bits_adapt_0 rfl (lv_at hl 1 rfl) ?_
  refine lv_iload_n hx hb d_Bits_adapt_1 rfl (lv_at hl 2 rfl) ?_
  refine my_ci (wr := [(co, Sum.inr (3, [Value.int (nI sh), Value.long xkeptCode, Value.long xkeptRange, Value.int xkeptAsked, Value.int xcache, Value.int xpending, Value.long xlow, Value.long xrange, Value.long xcode, Value.long xreadLow, Value.long xreadRange, Value.ref ri, Value.ref ro, Value.ref rw, Value.int xasked]))]) (va_runV (As := [Value.int (nI nd)]) (rest := []) ⟨hx, hb, hml, hown, hts⟩ (f_Odds_at l dC dI cI cM cO H.size oo osg ofc oca opa n ocf opl opf osm nd (by first | assumption | omega) (by first | assumption | omega) (hnd) (by rw [hofc]; exact nI_le (a := 1) hnd0 (by omega))) (cwV 1 hts (my_gV k449 k436 k437 k14 k438) rfl rfl rfl (by decide +kernel) ⟨by rw [hR]; exact Nat.le_of_ble_eq_true rfl, by rw [hR]; exact Nat.le_of_ble_eq_true rfl⟩) (my_preV hK hN (hP.sub [1, 2, 3] rfl) (hD.sub [1, 2, 3] (by decide +kernel) rfl) 0 rfl rfl) rfl rfl hl.1 rfl (lv_room (Nat.le_of_ble_eq_true rfl)) d_Bits_adapt_2 ⟨by rw [hR]; exact Nat.le_of_ble_eq_true rfl, by rw [hR]; exact Nat.le_of_ble_eq_true rfl⟩) hP hD hS hA [1, 2, 3] [0] rfl rfl (by decide +kernel) (by decide +kernel) (fun r_2 u9 H locs hw_2 hP hD hS => ?_)
  have hr_2 : r_2 = ocf nd := hw_2
  have hPD : my_PD (dC, dI) vwCl A [(co, Sum.inr (3, [Value.int (nI sh), Value.long xkeptCode, Value.long xkeptRange, Value.int xkeptAsked, Value.int xcache, Value.int xpending, Value.long xlow, Value.long xrange, Value.long xcode, Value.long xreadLow, Value.long xreadRange, Value.ref ri, Value.ref ro, Value.ref rw, Value.int xasked])), (oo, Sum.inr (7, [Value.int osg, Value.int osm, Value.int ofc, Value.ref oca, Value.ref opa])), (oca, Sum.inl (cI, n, Sum.inl ocf)), (opa, Sum.inl (cI, opl, Sum.inl opf))] H := ⟨hP, hD⟩
  have hP := hPD.1
  have hD := hPD.2
  rw [hp] at hr_2
  have z9 : r_2 = nI pp := hr_2
  subst z9
  have hpl9 : pp / 2 ^ sh ≤ pp := Nat.div_le_self _ _
  refine lv_istore (lv' := [(4, Value.int (nI pp)), (0, Value.ref co), (1, Value.ref oo), (2, Value.int (nI nd)), (3, Value.int (nI bt))]) hx hb d_Bits_adapt_5 hl (by decide) rfl (fun ls hl => ?_)
  refine lv_aload_n hx hb d_Bits_adapt_7 rfl (lv_at hl 2 rfl) ?_
  refine lv_iload_n hx hb d_Bits_adapt_8 rfl (lv_at hl 3 rfl) ?_
  refine lv_iload_n hx hb d_Bits_adapt_9 rfl (lv_at hl 4 rfl) ?_
  refine lv_if_ne (tgt := 27) hx hb d_Bits_adapt_10 (by decide) (fun c_1 => ?_) (fun c_1 => ?_)
  · refine lv_iload hx hb d_Bits_adapt_27 (lv_at hl 0 rfl) ?_
    refine lv_aload_n hx hb d_Bits_adapt_29 rfl (lv_at hl 1 rfl) ?_
    refine va_get (D := (dC, dI)) (ci := 3) (v := .int (nI sh)) (C := "RangeCoders$Bits") (T := T_Bits) (N := 15) hx hb hg in_Bits hown hK hP 0 rfl rfl 0 (by decide) (hg _ k176) (fun _ h9 => h9) rfl d_Bits_adapt_30 ?_
    refine lv_ishr hx hb d_Bits_adapt_33 ?_
    refine lv_topi (fun v_2 ev_2 => ?_)
    refine lv_ineg hx hb d_Bits_adapt_34 ?_
    refine lv_topi (fun v_3 ev_3 => ?_)
    have hgv : nI pp + v_3 = nI (mvC sh bt pp) := by
      unfold mvC
      rw [if_neg (fun q => c_1 (by rw [q]; rfl))]
      subst_vars
      rw [I_shr (by omega) (by omega), ← Int32.sub_eq_add_neg]
      exact pk_sub hpl9
    refine my_cv (wr := [(co, Sum.inr (3, [Value.int (nI sh), Value.long xkeptCode, Value.long xkeptRange, Value.int xkeptAsked, Value.int xcache, Value.int xpending, Value.long xlow, Value.long xrange, Value.long xcode, Value.long xreadLow, Value.long xreadRange, Value.ref ri, Value.ref ro, Value.ref rw, Value.int xasked]))]) (va_runV (As := [Value.int (nI nd), Value.int v_3]) (rest := []) ⟨hx, hb, hml, hown, hts⟩ (f_Odds_grow l dC dI cI cM cO H.size oo osg ofc oca opa n ocf opl opf osm nd v_3 (by first | assumption | omega) (by first | assumption | omega) (hnd) (by rw [hofc]; exact nI_le (a := 1) hnd0 (by omega))) (cwV 2 hts (my_gV k454 k393 k394 k14 k395) rfl rfl rfl (by decide +kernel) ⟨by rw [hR]; exact Nat.le_of_ble_eq_true rfl, by rw [hR]; exact Nat.le_of_ble_eq_true rfl⟩) (my_preV hK hN (hP.sub [1, 2, 3] rfl) (hD.sub [1, 2, 3] (by decide +kernel) rfl) 0 rfl rfl) rfl rfl hl.1 rfl (lv_room (Nat.le_of_ble_eq_true rfl)) d_Bits_adapt_35 ⟨by rw [hR]; exact Nat.le_of_ble_eq_true rfl, by rw [hR]; exact Nat.le_of_ble_eq_true rfl⟩) hP hD hS hA [1, 2, 3] [0] rfl rfl (by decide +kernel) (by decide +kernel) (fun u9 H locs hw_35 hP hD hS => ?_)
    obtain ⟨ocfq_35, rfl⟩ : ∃ z, z = u9 := ⟨_, rfl⟩
    have hc_35 : ocfq_35 = upd ocf nd (ocf nd + v_3) := hw_35
    have hPD : my_PD (dC, dI) vwCl A [(co, Sum.inr (3, [Value.int (nI sh), Value.long xkeptCode, Value.long xkeptRange, Value.int xkeptAsked, Value.int xcache, Value.int xpending, Value.long xlow, Value.long xrange, Value.long xcode, Value.long xreadLow, Value.long xreadRange, Value.ref ri, Value.ref ro, Value.ref rw, Value.int xasked])), (oo, Sum.inr (7, [Value.int osg, Value.int (osm + v_3), Value.int ofc, Value.ref oca, Value.ref opa])), (oca, Sum.inl (cI, n, Sum.inl ocfq_35)), (opa, Sum.inl (cI, opl, Sum.inl opf))] H := ⟨hP, hD⟩
    have hP := hPD.1
    have hD := hPD.2
    exact my_vret hx hb hr hlocks hQ hK hS (Nat.le_refl _) (Nat.le_refl _) (osm + v_3, ocfq_35) (by rw [hc_35, hp, hgv]) (hP.sub [0, 1, 2, 3] rfl) (hD.sub [0, 1, 2, 3] (by decide +kernel) rfl) d_Bits_adapt_38
  · refine lv_sipush (v := 2048) hx hb d_Bits_adapt_13 (by decide) ?_
    refine lv_iload hx hb d_Bits_adapt_16 (lv_at hl 0 rfl) ?_
    refine lv_isub hx hb d_Bits_adapt_18 ?_
    refine lv_topi (fun v_4 ev_4 => ?_)
    refine lv_aload_n hx hb d_Bits_adapt_19 rfl (lv_at hl 1 rfl) ?_
    refine va_get (D := (dC, dI)) (ci := 3) (v := .int (nI sh)) (C := "RangeCoders$Bits") (T := T_Bits) (N := 15) hx hb hg in_Bits hown hK hP 0 rfl rfl 0 (by decide) (hg _ k176) (fun _ h9 => h9) rfl d_Bits_adapt_20 ?_
    refine lv_ishr hx hb d_Bits_adapt_23 ?_
    refine lv_topi (fun v_5 ev_5 => ?_)
    refine lv_goto (tgt := 35) hx hb d_Bits_adapt_24 (by decide) ?_
    have hgv : nI pp + v_5 = nI (mvC sh bt pp) := by
      unfold mvC
      rw [if_pos ((nI_eq (b := 0) (by omega) (by decide)).mp c_1)]
      subst_vars
      rw [show (2048 : Int32) - nI pp = nI (2048 - pp) from pk_sub (a := 2048) hp2, I_shr (by omega) (by omega)]
      exact nI_add _ _
    refine my_cv (wr := [(co, Sum.inr (3, [Value.int (nI sh), Value.long xkeptCode, Value.long xkeptRange, Value.int xkeptAsked, Value.int xcache, Value.int xpending, Value.long xlow, Value.long xrange, Value.long xcode, Value.long xreadLow, Value.long xreadRange, Value.ref ri, Value.ref ro, Value.ref rw, Value.int xasked]))]) (va_runV (As := [Value.int (nI nd), Value.int v_5]) (rest := []) ⟨hx, hb, hml, hown, hts⟩ (f_Odds_grow l dC dI cI cM cO H.size oo osg ofc oca opa n ocf opl opf osm nd v_5 (by first | assumption | omega) (by first | assumption | omega) (hnd) (by rw [hofc]; exact nI_le (a := 1) hnd0 (by omega))) (cwV 2 hts (my_gV k454 k393 k394 k14 k395) rfl rfl rfl (by decide +kernel) ⟨by rw [hR]; exact Nat.le_of_ble_eq_true rfl, by rw [hR]; exact Nat.le_of_ble_eq_true rfl⟩) (my_preV hK hN (hP.sub [1, 2, 3] rfl) (hD.sub [1, 2, 3] (by decide +kernel) rfl) 0 rfl rfl) rfl rfl hl.1 rfl (lv_room (Nat.le_of_ble_eq_true rfl)) d_Bits_adapt_35 ⟨by rw [hR]; exact Nat.le_of_ble_eq_true rfl, by rw [hR]; exact Nat.le_of_ble_eq_true rfl⟩) hP hD hS hA [1, 2, 3] [0] rfl rfl (by decide +kernel) (by decide +kernel) (fun u9 H locs hw_35 hP hD hS => ?_)
    obtain ⟨ocfq_35, rfl⟩ : ∃ z, z = u9 := ⟨_, rfl⟩
    have hc_35 : ocfq_35 = upd ocf nd (ocf nd + v_5) := hw_35
    have hPD : my_PD (dC, dI) vwCl A [(co, Sum.inr (3, [Value.int (nI sh), Value.long xkeptCode, Value.long xkeptRange, Value.int xkeptAsked, Value.int xcache, Value.int xpending, Value.long xlow, Value.long xrange, Value.long xcode, Value.long xreadLow, Value.long xreadRange, Value.ref ri, Value.ref ro, Value.ref rw, Value.int xasked])), (oo, Sum.inr (7, [Value.int osg, Value.int (osm + v_5), Value.int ofc, Value.ref oca, Value.ref opa])), (oca, Sum.inl (cI, n, Sum.inl ocfq_35)), (opa, Sum.inl (cI, opl, Sum.inl opf))] H := ⟨hP, hD⟩
    have hP := hPD.1
    have hD := hPD.2
    exact my_vret hx hb hr hlocks hQ hK hS (Nat.le_refl _) (Nat.le_refl _) (osm + v_5, ocfq_35) (by rw [hc_35, hp, hgv]) (hP.sub [0, 1, 2, 3] rfl) (hD.sub [0, 1, 2, 3] (by decide +kernel) rfl) d_Bits_adapt_38
set_option maxHeartbeats 2000000 in
set_option maxRecDepth 100000 in
theorem f_Bits_writeBit (l : Launch) (dC : Nat → ClassId) (dI : Nat → Nat → Nat) (cI cM cO : ClassId) (sz : Nat) (sl : Nat) (co : Nat) (xkeptCode : Int64) (xkeptRange : Int64) (xkeptAsked : Int32) (xcode : Int64) (xreadLow : Int64) (xreadRange : Int64) (ri : Nat) (ro : Nat) (rw : Nat) (xasked : Int32) (Rg : Nat) (L : Nat) (ca : Option Nat) (Pn : Nat) (rwa : Nat) (rwk : Nat) (rwf : Nat → Int32) (bs : List Nat) (oo : Nat) (osg : Int32) (ofc : Int32) (oca : Nat) (opa : Nat) (n : Nat) (ocf : Nat → Int32) (opl : Nat) (opf : Nat → Int32) (osm : Int32) (nd : Nat) (pp : Nat) (bt : Nat) (sh : Nat) (hn : n ≤ 64) (hpl : opl ≤ 512) (hnd0 : 1 ≤ nd) (hnd : nd < n) (hofc : ofc = 1) (hp : ocf nd = nI pp) (hp1 : 1 ≤ pp) (hp2 : pp ≤ 2047) (hsh : sh ≤ 10) (hbt : bt < 2) (hE : eInv (Rg, L, ca, Pn, bs)) (hrw : rOk (nI bs.length) rwk) (hGrw : gIs rwf bs) (hN9 : bs.length + Pn + 4 ≤ 7900) : MetVg l y_Bits_writeBit (Cond.code y_Bits_writeBit prog_2_method_10_code 6 none :: gw) ({ frames := 6, cells := rPh rwk, slots := rPh rwk, locals := 146 } : Room) (dC, dI) vwCl (kT cI cM cO) [Value.ref co, Value.ref oo, Value.int (nI nd), Value.int (nI bt)] [(co, Sum.inr (3, [Value.int (nI sh), Value.long xkeptCode, Value.long xkeptRange, Value.int xkeptAsked, Value.int (caI ca), Value.int (nI Pn), Value.long (lN L), Value.long (lN Rg), Value.long xcode, Value.long xreadLow, Value.long xreadRange, Value.ref ri, Value.ref ro, Value.ref rw, Value.int xasked])), (rw, Sum.inr (0, [Value.int (nI bs.length), Value.ref rwa])), (rwa, Sum.inl (cI, rwk, Sum.inl rwf)), (oo, Sum.inr (7, [Value.int osg, Value.int osm, Value.int ofc, Value.ref oca, Value.ref opa])), (oca, Sum.inl (cI, n, Sum.inl ocf)), (opa, Sum.inl (cI, opl, Sum.inl opf))] sz sl (fun (u : Nat × Nat × (Nat → Int32) × Int32 × (Nat → Int32)) => rOk (nI (eB (wdS (btS pp bt Rg L ca Pn bs))).length) u.2.1 ∧ gIs u.2.2.1 (eB (wdS (btS pp bt Rg L ca Pn bs))) ∧ u.2.2.2.2 = upd ocf nd (nI (mvC sh bt pp))) (fun (u : Nat × Nat × (Nat → Int32) × Int32 × (Nat → Int32)) => [(co, Sum.inr (3, [Value.int (nI sh), Value.long xkeptCode, Value.long xkeptRange, Value.int xkeptAsked, Value.int (caI (eC (wdS (btS pp bt Rg L ca Pn bs)))), Value.int (nI (eP (wdS (btS pp bt Rg L ca Pn bs)))), Value.long (lN (eL (wdS (btS pp bt Rg L ca Pn bs)))), Value.long (lN (eR (wdS (btS pp bt Rg L ca Pn bs)))), Value.long xcode, Value.long xreadLow, Value.long xreadRange, Value.ref ri, Value.ref ro, Value.ref rw, Value.int xasked])), (rw, Sum.inr (0, [Value.int (nI (eB (wdS (btS pp bt Rg L ca Pn bs))).length), Value.ref u.1])), (u.1, Sum.inl (cI, u.2.1, Sum.inl u.2.2.1)), (oo, Sum.inr (7, [Value.int osg, Value.int u.2.2.2.1, Value.int ofc, Value.ref oca, Value.ref opa])), (oca, Sum.inl (cI, n, Sum.inl u.2.2.2.2)), (opa, Sum.inl (cI, opl, Sum.inl opf))]) (rPh rwk) (fun (u : Nat × Nat × (Nat → Int32) × Int32 × (Nat → Int32)) => rPh u.2.1) := by
  refine my_ofVg (cc := prog_2_method_10_code) (n := 6) (ret := none) (by decide) rfl (Nat.le_of_ble_eq_true rfl) ?_
  intro p e s m args below meth c R Q A ls H locs hx hb hr hts hown hlocks hml hnm hR hQ hA hl hP hK hN hD hS
  have hg : ∀ w ∈ gw, w.before args s = true := fun w h => hts w (List.mem_cons_of_mem _ h)
  have hown : s.vm.findClass "RangeCoders$Bits" = some m.cls := hown
  have hl : lv_has ls 6 [(0, Value.ref co), (1, Value.ref oo), (2, Value.int (nI nd)), (3, Value.int (nI bt))] := hl
  have hltw := rOk_lt hrw
  obtain ⟨hI1, hI2, hI3, hI4⟩ := id hE
  simp only [eR, eL, eC] at hI1 hI2 hI3 hI4
  have hq1 : 8192 ≤ Rg / 2048 := by omega
  have hq2 : Rg / 2048 * pp ≤ Rg / 2048 * 2047 := Nat.mul_le_mul_left _ hp2
  have hq3 : Rg / 2048 * 1 ≤ Rg / 2048 * pp := Nat.mul_le_mul_left _ hp1
  generalize hb9 : Rg / 2048 * pp = bb at hq2 hq3
  refine lv_aload_n hx hb d_Bits_writeBit_0 rfl (lv_at hl 0 rfl) ?_
  refine va_get (D := (dC, dI)) (ci := 3) (v := .long (lN Rg)) (C := "RangeCoders$Bits") (T := T_Bits) (N := 15) hx hb hg in_Bits hown hK hP 0 rfl rfl 7 (by decide) (hg _ k82) (fun x9 h9 => u_same (hg _ k83) x9 h9) rfl d_Bits_writeBit_1 ?_
  refine lv_bipush (v := 11) hx hb d_Bits_writeBit_4 (by decide) ?_
  refine lv_lushr hx hb d_Bits_writeBit_6 rfl ?_
  refine lv_topl (fun v_1 ev_1 => ?_)
  refine lv_aload_n hx hb d_Bits_writeBit_7 rfl (lv_at hl 1 rfl) ?_
  refine lv_iload_n hx hb d_Bits_writeBit_8 rfl (lv_at hl 2 rfl) ?_
  refine my_ci (wr := [(co, Sum.inr (3, [Value.int (nI sh), Value.long xkeptCode, Value.long xkeptRange, Value.int xkeptAsked, Value.int (caI ca), Value.int (nI Pn), Value.long (lN L), Value.long (lN Rg), Value.long xcode, Value.long xreadLow, Value.long xreadRange, Value.ref ri, Value.ref ro, Value.ref rw, Value.int xasked])), (rw, Sum.inr (0, [Value.int (nI bs.length), Value.ref rwa])), (rwa, Sum.inl (cI, rwk, Sum.inl rwf))]) (va_runV (As := [Value.int (nI nd)]) (rest := [Value.long v_1]) ⟨hx, hb, hml, hown, hts⟩ (f_Odds_at l dC dI cI cM cO H.size oo osg ofc oca opa n ocf opl opf osm nd (by first | assumption | omega) (by first | assumption | omega) (hnd) (by rw [hofc]; exact nI_le (a := 1) hnd0 (by omega))) (cwV 1 hts (my_gV k449 k436 k437 k14 k438) rfl rfl rfl (by decide +kernel) ⟨by rw [hR]; exact Nat.le_of_ble_eq_true rfl, by rw [hR]; exact Nat.le_of_ble_eq_true rfl⟩) (my_preV hK hN (hP.sub [3, 4, 5] rfl) (hD.sub [3, 4, 5] (by decide +kernel) rfl) 0 rfl rfl) rfl rfl hl.1 rfl (lv_room (Nat.le_of_ble_eq_true rfl)) d_Bits_writeBit_9 ⟨by rw [hR]; exact (show 0 + 0 ≤ (rPh rwk) by omega), by rw [hR]; exact (show 0 + 0 ≤ (rPh rwk) by omega)⟩) hP hD hS hA [3, 4, 5] [0, 1, 2] rfl rfl (by decide +kernel) (by decide +kernel) (fun r_9 u9 H locs hw_9 hP hD hS => ?_)
  have hr_9 : r_9 = ocf nd := hw_9
  have hPD : my_PD (dC, dI) vwCl A [(co, Sum.inr (3, [Value.int (nI sh), Value.long xkeptCode, Value.long xkeptRange, Value.int xkeptAsked, Value.int (caI ca), Value.int (nI Pn), Value.long (lN L), Value.long (lN Rg), Value.long xcode, Value.long xreadLow, Value.long xreadRange, Value.ref ri, Value.ref ro, Value.ref rw, Value.int xasked])), (rw, Sum.inr (0, [Value.int (nI bs.length), Value.ref rwa])), (rwa, Sum.inl (cI, rwk, Sum.inl rwf)), (oo, Sum.inr (7, [Value.int osg, Value.int osm, Value.int ofc, Value.ref oca, Value.ref opa])), (oca, Sum.inl (cI, n, Sum.inl ocf)), (opa, Sum.inl (cI, opl, Sum.inl opf))] H := ⟨hP, hD⟩
  have hP := hPD.1
  have hD := hPD.2
  rw [hp] at hr_9
  have z9 : r_9 = nI pp := hr_9
  subst z9
  refine lv_i2l hx hb d_Bits_writeBit_12 rfl ?_
  refine lv_topl (fun v_2 ev_2 => ?_)
  refine lv_lmul hx hb d_Bits_writeBit_13 ?_
  refine lv_topl (fun v_3 ev_3 => ?_)
  have z9 : v_3 = lN bb := by subst_vars; rw [U_shr11 (by omega), nI_l (by omega), lN_mul]
  subst z9
  refine lv_lstore (lv' := [(4, Value.long (lN bb)), (0, Value.ref co), (1, Value.ref oo), (2, Value.int (nI nd)), (3, Value.int (nI bt))]) hx hb d_Bits_writeBit_14 hl (by decide) rfl (fun ls hl => ?_)
  refine lv_iload_n hx hb d_Bits_writeBit_16 rfl (lv_at hl 4 rfl) ?_
  refine lv_if_ne (tgt := 29) hx hb d_Bits_writeBit_17 (by decide) (fun c_4 => ?_) (fun c_4 => ?_)
  · refine lv_aload_n hx hb d_Bits_writeBit_29 rfl (lv_at hl 1 rfl) ?_
    refine lv_dup hx hb d_Bits_writeBit_30 rfl ?_
    refine va_get (D := (dC, dI)) (ci := 3) (v := .long (lN L)) (C := "RangeCoders$Bits") (T := T_Bits) (N := 15) hx hb hg in_Bits hown hK hP 0 rfl rfl 6 (by decide) (hg _ k75) (fun x9 h9 => u_same (hg _ k76) x9 h9) rfl d_Bits_writeBit_31 ?_
    refine lv_lload hx hb d_Bits_writeBit_34 (lv_at hl 0 rfl) ?_
    refine lv_ladd hx hb d_Bits_writeBit_36 ?_
    refine lv_topl (fun v_5 ev_5 => ?_)
    have z9 : v_5 = lN (L + bb) := by rw [ev_5]; exact lN_add _ _
    subst z9
    refine va_put (D := (dC, dI)) (ci := 3) (v := .long (lN (L + bb))) (ty := .long) (C := "RangeCoders$Bits") (T := T_Bits) (N := 15) hx hb hg in_Bits t_Bits o_Bits n_Bits hown hK hP hD hS 0 rfl rfl 6 (by decide) (hg _ k75) (fun x9 h9 => u_same (hg _ k76) x9 h9) rfl (by decide +kernel) rfl rfl (Nat.le_of_ble_eq_true rfl) d_Bits_writeBit_37 (fun H locs hP hD hS => ?_)
    have hPD : my_PD (dC, dI) vwCl A [(co, Sum.inr (3, [Value.int (nI sh), Value.long xkeptCode, Value.long xkeptRange, Value.int xkeptAsked, Value.int (caI ca), Value.int (nI Pn), Value.long (lN (L + bb)), Value.long (lN Rg), Value.long xcode, Value.long xreadLow, Value.long xreadRange, Value.ref ri, Value.ref ro, Value.ref rw, Value.int xasked])), (rw, Sum.inr (0, [Value.int (nI bs.length), Value.ref rwa])), (rwa, Sum.inl (cI, rwk, Sum.inl rwf)), (oo, Sum.inr (7, [Value.int osg, Value.int osm, Value.int ofc, Value.ref oca, Value.ref opa])), (oca, Sum.inl (cI, n, Sum.inl ocf)), (opa, Sum.inl (cI, opl, Sum.inl opf))] H := ⟨hP, hD⟩
    have hP := hPD.1
    have hD := hPD.2
    refine lv_aload_n hx hb d_Bits_writeBit_40 rfl (lv_at hl 1 rfl) ?_
    refine lv_dup hx hb d_Bits_writeBit_41 rfl ?_
    refine va_get (D := (dC, dI)) (ci := 3) (v := .long (lN Rg)) (C := "RangeCoders$Bits") (T := T_Bits) (N := 15) hx hb hg in_Bits hown hK hP 0 rfl rfl 7 (by decide) (hg _ k82) (fun x9 h9 => u_same (hg _ k83) x9 h9) rfl d_Bits_writeBit_42 ?_
    refine lv_lload hx hb d_Bits_writeBit_45 (lv_at hl 0 rfl) ?_
    refine lv_lsub hx hb d_Bits_writeBit_47 ?_
    refine lv_topl (fun v_6 ev_6 => ?_)
    have z9 : v_6 = lN (Rg - bb) := by rw [ev_6]; exact lN_sub (by omega)
    subst z9
    refine va_put (D := (dC, dI)) (ci := 3) (v := .long (lN (Rg - bb))) (ty := .long) (C := "RangeCoders$Bits") (T := T_Bits) (N := 15) hx hb hg in_Bits t_Bits o_Bits n_Bits hown hK hP hD hS 0 rfl rfl 7 (by decide) (hg _ k82) (fun x9 h9 => u_same (hg _ k83) x9 h9) rfl (by decide +kernel) rfl rfl (Nat.le_of_ble_eq_true rfl) d_Bits_writeBit_48 (fun H locs hP hD hS => ?_)
    have hPD : my_PD (dC, dI) vwCl A [(co, Sum.inr (3, [Value.int (nI sh), Value.long xkeptCode, Value.long xkeptRange, Value.int xkeptAsked, Value.int (caI ca), Value.int (nI Pn), Value.long (lN (L + bb)), Value.long (lN (Rg - bb)), Value.long xcode, Value.long xreadLow, Value.long xreadRange, Value.ref ri, Value.ref ro, Value.ref rw, Value.int xasked])), (rw, Sum.inr (0, [Value.int (nI bs.length), Value.ref rwa])), (rwa, Sum.inl (cI, rwk, Sum.inl rwf)), (oo, Sum.inr (7, [Value.int osg, Value.int osm, Value.int ofc, Value.ref oca, Value.ref opa])), (oca, Sum.inl (cI, n, Sum.inl ocf)), (opa, Sum.inl (cI, opl, Sum.inl opf))] H := ⟨hP, hD⟩
    have hP := hPD.1
    have hD := hPD.2
    refine lv_aload_n hx hb d_Bits_writeBit_51 rfl (lv_at hl 1 rfl) ?_
    refine lv_aload_n hx hb d_Bits_writeBit_52 rfl (lv_at hl 2 rfl) ?_
    refine lv_iload_n hx hb d_Bits_writeBit_53 rfl (lv_at hl 3 rfl) ?_
    refine lv_iload_n hx hb d_Bits_writeBit_54 rfl (lv_at hl 4 rfl) ?_
    refine my_cv (wr := [(rw, Sum.inr (0, [Value.int (nI bs.length), Value.ref rwa])), (rwa, Sum.inl (cI, rwk, Sum.inl rwf))]) (va_runV (As := [Value.ref oo, Value.int (nI nd), Value.int (nI bt)]) (rest := []) ⟨hx, hb, hml, hown, hts⟩ (f_Bits_adapt l dC dI cI cM cO H.size co xkeptCode xkeptRange xkeptAsked (caI ca) (nI Pn) (lN (L + bb)) (lN (Rg - bb)) xcode xreadLow xreadRange ri ro rw xasked oo osg ofc oca opa n ocf opl opf osm nd pp bt sh (by first | assumption | omega) (by first | assumption | omega) (by first | assumption | omega) (by first | assumption | omega) (by first | assumption | omega) (by first | assumption | omega) (by omega) (by first | assumption | omega) (by first | assumption | omega)) (cwV 3 hts (my_gV k450 k452 ks5 k8 k453) rfl rfl rfl (by decide +kernel) ⟨by rw [hR]; exact Nat.le_of_ble_eq_true rfl, by rw [hR]; exact Nat.le_of_ble_eq_true rfl⟩) (my_preV hK hN (hP.sub [0, 3, 4, 5] rfl) (hD.sub [0, 3, 4, 5] (by decide +kernel) rfl) 0 rfl rfl) rfl rfl hl.1 rfl (lv_room (Nat.le_of_ble_eq_true rfl)) d_Bits_writeBit_55 ⟨by rw [hR]; exact (show 0 + 0 ≤ (rPh rwk) by omega), by rw [hR]; exact (show 0 + 0 ≤ (rPh rwk) by omega)⟩) hP hD hS hA [0, 3, 4, 5] [1, 2] rfl rfl (by decide +kernel) (by decide +kernel) (fun u9 H locs hw_55 hP hD hS => ?_)
    obtain ⟨osmq_55, ocfq_55⟩ := u9
    have hc_55 : ocfq_55 = upd ocf nd (nI (mvC sh bt pp)) := hw_55
    have hPD : my_PD (dC, dI) vwCl A [(rw, Sum.inr (0, [Value.int (nI bs.length), Value.ref rwa])), (rwa, Sum.inl (cI, rwk, Sum.inl rwf)), (co, Sum.inr (3, [Value.int (nI sh), Value.long xkeptCode, Value.long xkeptRange, Value.int xkeptAsked, Value.int (caI ca), Value.int (nI Pn), Value.long (lN (L + bb)), Value.long (lN (Rg - bb)), Value.long xcode, Value.long xreadLow, Value.long xreadRange, Value.ref ri, Value.ref ro, Value.ref rw, Value.int xasked])), (oo, Sum.inr (7, [Value.int osg, Value.int osmq_55, Value.int ofc, Value.ref oca, Value.ref opa])), (oca, Sum.inl (cI, n, Sum.inl ocfq_55)), (opa, Sum.inl (cI, opl, Sum.inl opf))] H := ⟨hP, hD⟩
    have hP := hPD.1
    have hD := hPD.2
    refine lv_aload_n hx hb d_Bits_writeBit_58 rfl (lv_at hl 1 rfl) ?_
    refine my_cvg (wr := [(oo, Sum.inr (7, [Value.int osg, Value.int osmq_55, Value.int ofc, Value.ref oca, Value.ref opa])), (oca, Sum.inl (cI, n, Sum.inl ocfq_55)), (opa, Sum.inl (cI, opl, Sum.inl opf))]) (va_runU (As := []) (rest := []) ⟨hx, hb, hml, hown, hts⟩ (f_Bits_widen l dC dI cI cM cO H.size (hSl H) co (nI sh) xkeptCode xkeptRange xkeptAsked xcode xreadLow xreadRange ri ro rw xasked (Rg - bb) (L + bb) ca Pn rwa rwk rwf bs (by omega) (by omega) (by omega) (hI4) (by first | assumption | omega) (by first | assumption | omega) (by first | assumption | omega)) (va_cwU 0 hts (my_gU k455 k456 k458 k459 k5 k460) rfl rfl rfl rfl (by decide +kernel) ⟨by rw [hR]; exact Nat.le_of_ble_eq_true rfl, by rw [hR]; exact Nat.le_of_ble_eq_true rfl⟩) (my_preVg hK hN (hP.sub [2, 0, 1] rfl) (hD.sub [2, 0, 1] (by decide +kernel) rfl) 0 rfl rfl) rfl rfl hl.1 rfl (lv_room (Nat.le_of_ble_eq_true rfl)) d_Bits_writeBit_59 ⟨by rw [hR]; exact (show 0 + (rPh rwk) ≤ (rPh rwk) by omega), by rw [hR]; exact (show 0 + (rPh rwk) ≤ (rPh rwk) by omega)⟩) hP hD hS hA [2, 0, 1] [3, 4, 5] rfl rfl (by decide +kernel) (by decide +kernel) (fun u9 d_59 H locs hd_59 hw_59 hP hD hS => ?_)
    obtain ⟨rwaq_59, rwkq_59, rwfq_59⟩ := u9
    obtain ⟨hrw_59, hGrw_59⟩ : rOk (nI (eB (wdS ((Rg - bb), (L + bb), ca, Pn, bs))).length) rwkq_59 ∧ gIs rwfq_59 (eB (wdS ((Rg - bb), (L + bb), ca, Pn, bs))) := hw_59
    have hd_59 : d_59 + (rPh rwkq_59) ≤ (rPh rwk) := hd_59
    have hPD : my_PD (dC, dI) vwCl A [(oo, Sum.inr (7, [Value.int osg, Value.int osmq_55, Value.int ofc, Value.ref oca, Value.ref opa])), (oca, Sum.inl (cI, n, Sum.inl ocfq_55)), (opa, Sum.inl (cI, opl, Sum.inl opf)), (co, Sum.inr (3, [Value.int (nI sh), Value.long xkeptCode, Value.long xkeptRange, Value.int xkeptAsked, Value.int (caI (eC (wdS ((Rg - bb), (L + bb), ca, Pn, bs)))), Value.int (nI (eP (wdS ((Rg - bb), (L + bb), ca, Pn, bs)))), Value.long (lN (eL (wdS ((Rg - bb), (L + bb), ca, Pn, bs)))), Value.long (lN (eR (wdS ((Rg - bb), (L + bb), ca, Pn, bs)))), Value.long xcode, Value.long xreadLow, Value.long xreadRange, Value.ref ri, Value.ref ro, Value.ref rw, Value.int xasked])), (rw, Sum.inr (0, [Value.int (nI (eB (wdS ((Rg - bb), (L + bb), ca, Pn, bs))).length), Value.ref rwaq_59])), (rwaq_59, Sum.inl (cI, rwkq_59, Sum.inl rwfq_59))] H := ⟨hP, hD⟩
    have hP := hPD.1
    have hD := hPD.2
    have hbt9 : ((Rg - bb), (L + bb), ca, Pn, bs) = btS pp bt Rg L ca Pn bs := by unfold btS; rw [if_neg (fun q => c_4 (by rw [q]; rfl)), hb9]
    rw [hbt9] at hP hD hrw_59 hGrw_59
    have hPD : my_PD (dC, dI) vwCl A [(oo, Sum.inr (7, [Value.int osg, Value.int osmq_55, Value.int ofc, Value.ref oca, Value.ref opa])), (oca, Sum.inl (cI, n, Sum.inl ocfq_55)), (opa, Sum.inl (cI, opl, Sum.inl opf)), (co, Sum.inr (3, [Value.int (nI sh), Value.long xkeptCode, Value.long xkeptRange, Value.int xkeptAsked, Value.int (caI (eC (wdS (btS pp bt Rg L ca Pn bs)))), Value.int (nI (eP (wdS (btS pp bt Rg L ca Pn bs)))), Value.long (lN (eL (wdS (btS pp bt Rg L ca Pn bs)))), Value.long (lN (eR (wdS (btS pp bt Rg L ca Pn bs)))), Value.long xcode, Value.long xreadLow, Value.long xreadRange, Value.ref ri, Value.ref ro, Value.ref rw, Value.int xasked])), (rw, Sum.inr (0, [Value.int (nI (eB (wdS (btS pp bt Rg L ca Pn bs))).length), Value.ref rwaq_59])), (rwaq_59, Sum.inl (cI, rwkq_59, Sum.inl rwfq_59))] H := ⟨hP, hD⟩
    have hP := hPD.1
    have hD := hPD.2
    exact my_vretg hx hb hr hlocks hQ hK hS (rwaq_59, rwkq_59, rwfq_59, osmq_55, ocfq_55) (show (0 + d_59) + (rPh rwkq_59) ≤ (rPh rwk) by omega) (show (0 + d_59) + (rPh rwkq_59) ≤ (rPh rwk) by omega) (⟨hrw_59, hGrw_59, hc_55⟩) (hP.sub [3, 4, 5, 0, 1, 2] rfl) (hD.sub [3, 4, 5, 0, 1, 2] (by decide +kernel) rfl) d_Bits_writeBit_62
  · refine lv_aload_n hx hb d_Bits_writeBit_20 rfl (lv_at hl 1 rfl) ?_
    refine lv_lload hx hb d_Bits_writeBit_21 (lv_at hl 0 rfl) ?_
    refine va_put (D := (dC, dI)) (ci := 3) (v := .long (lN bb)) (ty := .long) (C := "RangeCoders$Bits") (T := T_Bits) (N := 15) hx hb hg in_Bits t_Bits o_Bits n_Bits hown hK hP hD hS 0 rfl rfl 7 (by decide) (hg _ k82) (fun x9 h9 => u_same (hg _ k83) x9 h9) rfl (by decide +kernel) rfl rfl (Nat.le_of_ble_eq_true rfl) d_Bits_writeBit_23 (fun H locs hP hD hS => ?_)
    have hPD : my_PD (dC, dI) vwCl A [(co, Sum.inr (3, [Value.int (nI sh), Value.long xkeptCode, Value.long xkeptRange, Value.int xkeptAsked, Value.int (caI ca), Value.int (nI Pn), Value.long (lN L), Value.long (lN bb), Value.long xcode, Value.long xreadLow, Value.long xreadRange, Value.ref ri, Value.ref ro, Value.ref rw, Value.int xasked])), (rw, Sum.inr (0, [Value.int (nI bs.length), Value.ref rwa])), (rwa, Sum.inl (cI, rwk, Sum.inl rwf)), (oo, Sum.inr (7, [Value.int osg, Value.int osm, Value.int ofc, Value.ref oca, Value.ref opa])), (oca, Sum.inl (cI, n, Sum.inl ocf)), (opa, Sum.inl (cI, opl, Sum.inl opf))] H := ⟨hP, hD⟩
    have hP := hPD.1
    have hD := hPD.2
    refine lv_goto (tgt := 51) hx hb d_Bits_writeBit_26 (by decide) ?_
    refine lv_aload_n hx hb d_Bits_writeBit_51 rfl (lv_at hl 1 rfl) ?_
    refine lv_aload_n hx hb d_Bits_writeBit_52 rfl (lv_at hl 2 rfl) ?_
    refine lv_iload_n hx hb d_Bits_writeBit_53 rfl (lv_at hl 3 rfl) ?_
    refine lv_iload_n hx hb d_Bits_writeBit_54 rfl (lv_at hl 4 rfl) ?_
    refine my_cv (wr := [(rw, Sum.inr (0, [Value.int (nI bs.length), Value.ref rwa])), (rwa, Sum.inl (cI, rwk, Sum.inl rwf))]) (va_runV (As := [Value.ref oo, Value.int (nI nd), Value.int (nI bt)]) (rest := []) ⟨hx, hb, hml, hown, hts⟩ (f_Bits_adapt l dC dI cI cM cO H.size co xkeptCode xkeptRange xkeptAsked (caI ca) (nI Pn) (lN L) (lN bb) xcode xreadLow xreadRange ri ro rw xasked oo osg ofc oca opa n ocf opl opf osm nd pp bt sh (by first | assumption | omega) (by first | assumption | omega) (by first | assumption | omega) (by first | assumption | omega) (by first | assumption | omega) (by first | assumption | omega) (by omega) (by first | assumption | omega) (by first | assumption | omega)) (cwV 3 hts (my_gV k450 k452 ks5 k8 k453) rfl rfl rfl (by decide +kernel) ⟨by rw [hR]; exact Nat.le_of_ble_eq_true rfl, by rw [hR]; exact Nat.le_of_ble_eq_true rfl⟩) (my_preV hK hN (hP.sub [0, 3, 4, 5] rfl) (hD.sub [0, 3, 4, 5] (by decide +kernel) rfl) 0 rfl rfl) rfl rfl hl.1 rfl (lv_room (Nat.le_of_ble_eq_true rfl)) d_Bits_writeBit_55 ⟨by rw [hR]; exact (show 0 + 0 ≤ (rPh rwk) by omega), by rw [hR]; exact (show 0 + 0 ≤ (rPh rwk) by omega)⟩) hP hD hS hA [0, 3, 4, 5] [1, 2] rfl rfl (by decide +kernel) (by decide +kernel) (fun u9 H locs hw_55 hP hD hS => ?_)
    obtain ⟨osmq_55, ocfq_55⟩ := u9
    have hc_55 : ocfq_55 = upd ocf nd (nI (mvC sh bt pp)) := hw_55
    have hPD : my_PD (dC, dI) vwCl A [(rw, Sum.inr (0, [Value.int (nI bs.length), Value.ref rwa])), (rwa, Sum.inl (cI, rwk, Sum.inl rwf)), (co, Sum.inr (3, [Value.int (nI sh), Value.long xkeptCode, Value.long xkeptRange, Value.int xkeptAsked, Value.int (caI ca), Value.int (nI Pn), Value.long (lN L), Value.long (lN bb), Value.long xcode, Value.long xreadLow, Value.long xreadRange, Value.ref ri, Value.ref ro, Value.ref rw, Value.int xasked])), (oo, Sum.inr (7, [Value.int osg, Value.int osmq_55, Value.int ofc, Value.ref oca, Value.ref opa])), (oca, Sum.inl (cI, n, Sum.inl ocfq_55)), (opa, Sum.inl (cI, opl, Sum.inl opf))] H := ⟨hP, hD⟩
    have hP := hPD.1
    have hD := hPD.2
    refine lv_aload_n hx hb d_Bits_writeBit_58 rfl (lv_at hl 1 rfl) ?_
    refine my_cvg (wr := [(oo, Sum.inr (7, [Value.int osg, Value.int osmq_55, Value.int ofc, Value.ref oca, Value.ref opa])), (oca, Sum.inl (cI, n, Sum.inl ocfq_55)), (opa, Sum.inl (cI, opl, Sum.inl opf))]) (va_runU (As := []) (rest := []) ⟨hx, hb, hml, hown, hts⟩ (f_Bits_widen l dC dI cI cM cO H.size (hSl H) co (nI sh) xkeptCode xkeptRange xkeptAsked xcode xreadLow xreadRange ri ro rw xasked bb L ca Pn rwa rwk rwf bs (by omega) (by omega) (by omega) (hI4) (by first | assumption | omega) (by first | assumption | omega) (by first | assumption | omega)) (va_cwU 0 hts (my_gU k455 k456 k458 k459 k5 k460) rfl rfl rfl rfl (by decide +kernel) ⟨by rw [hR]; exact Nat.le_of_ble_eq_true rfl, by rw [hR]; exact Nat.le_of_ble_eq_true rfl⟩) (my_preVg hK hN (hP.sub [2, 0, 1] rfl) (hD.sub [2, 0, 1] (by decide +kernel) rfl) 0 rfl rfl) rfl rfl hl.1 rfl (lv_room (Nat.le_of_ble_eq_true rfl)) d_Bits_writeBit_59 ⟨by rw [hR]; exact (show 0 + (rPh rwk) ≤ (rPh rwk) by omega), by rw [hR]; exact (show 0 + (rPh rwk) ≤ (rPh rwk) by omega)⟩) hP hD hS hA [2, 0, 1] [3, 4, 5] rfl rfl (by decide +kernel) (by decide +kernel) (fun u9 d_59 H locs hd_59 hw_59 hP hD hS => ?_)
    obtain ⟨rwaq_59, rwkq_59, rwfq_59⟩ := u9
    obtain ⟨hrw_59, hGrw_59⟩ : rOk (nI (eB (wdS (bb, L, ca, Pn, bs))).length) rwkq_59 ∧ gIs rwfq_59 (eB (wdS (bb, L, ca, Pn, bs))) := hw_59
    have hd_59 : d_59 + (rPh rwkq_59) ≤ (rPh rwk) := hd_59
    have hPD : my_PD (dC, dI) vwCl A [(oo, Sum.inr (7, [Value.int osg, Value.int osmq_55, Value.int ofc, Value.ref oca, Value.ref opa])), (oca, Sum.inl (cI, n, Sum.inl ocfq_55)), (opa, Sum.inl (cI, opl, Sum.inl opf)), (co, Sum.inr (3, [Value.int (nI sh), Value.long xkeptCode, Value.long xkeptRange, Value.int xkeptAsked, Value.int (caI (eC (wdS (bb, L, ca, Pn, bs)))), Value.int (nI (eP (wdS (bb, L, ca, Pn, bs)))), Value.long (lN (eL (wdS (bb, L, ca, Pn, bs)))), Value.long (lN (eR (wdS (bb, L, ca, Pn, bs)))), Value.long xcode, Value.long xreadLow, Value.long xreadRange, Value.ref ri, Value.ref ro, Value.ref rw, Value.int xasked])), (rw, Sum.inr (0, [Value.int (nI (eB (wdS (bb, L, ca, Pn, bs))).length), Value.ref rwaq_59])), (rwaq_59, Sum.inl (cI, rwkq_59, Sum.inl rwfq_59))] H := ⟨hP, hD⟩
    have hP := hPD.1
    have hD := hPD.2
    have hbt9 : (bb, L, ca, Pn, bs) = btS pp bt Rg L ca Pn bs := by unfold btS; rw [if_pos ((nI_eq (b := 0) (by omega) (by decide)).mp c_4), hb9]
    rw [hbt9] at hP hD hrw_59 hGrw_59
    have hPD : my_PD (dC, dI) vwCl A [(oo, Sum.inr (7, [Value.int osg, Value.int osmq_55, Value.int ofc, Value.ref oca, Value.ref opa])), (oca, Sum.inl (cI, n, Sum.inl ocfq_55)), (opa, Sum.inl (cI, opl, Sum.inl opf)), (co, Sum.inr (3, [Value.int (nI sh), Value.long xkeptCode, Value.long xkeptRange, Value.int xkeptAsked, Value.int (caI (eC (wdS (btS pp bt Rg L ca Pn bs)))), Value.int (nI (eP (wdS (btS pp bt Rg L ca Pn bs)))), Value.long (lN (eL (wdS (btS pp bt Rg L ca Pn bs)))), Value.long (lN (eR (wdS (btS pp bt Rg L ca Pn bs)))), Value.long xcode, Value.long xreadLow, Value.long xreadRange, Value.ref ri, Value.ref ro, Value.ref rw, Value.int xasked])), (rw, Sum.inr (0, [Value.int (nI (eB (wdS (btS pp bt Rg L ca Pn bs))).length), Value.ref rwaq_59])), (rwaq_59, Sum.inl (cI, rwkq_59, Sum.inl rwfq_59))] H := ⟨hP, hD⟩
    have hP := hPD.1
    have hD := hPD.2
    exact my_vretg hx hb hr hlocks hQ hK hS (rwaq_59, rwkq_59, rwfq_59, osmq_55, ocfq_55) (show (0 + d_59) + (rPh rwkq_59) ≤ (rPh rwk) by omega) (show (0 + d_59) + (rPh rwkq_59) ≤ (rPh rwk) by omega) (⟨hrw_59, hGrw_59, hc_55⟩) (hP.sub [3, 4, 5, 0, 1, 2] rfl) (hD.sub [3, 4, 5, 0, 1, 2] (by decide +kernel) rfl) d_Bits_writeBit_62
set_option maxHeartbeats 2000000 in
set_option maxRecDepth 100000 in
theorem f_Bits_writeSign (l : Launch) (dC : Nat → ClassId) (dI : Nat → Nat → Nat) (cI cM cO : ClassId) (sz : Nat) (sl : Nat) (co : Nat) (xkeptCode : Int64) (xkeptRange : Int64) (xkeptAsked : Int32) (xcode : Int64) (xreadLow : Int64) (xreadRange : Int64) (ri : Nat) (ro : Nat) (rw : Nat) (xasked : Int32) (Rg : Nat) (L : Nat) (ca : Option Nat) (Pn : Nat) (rwa : Nat) (rwk : Nat) (rwf : Nat → Int32) (bs : List Nat) (oo : Nat) (ofc : Int32) (oca : Nat) (opa : Nat) (n : Nat) (ocf : Nat → Int32) (opl : Nat) (opf : Nat → Int32) (osm : Int32) (sg : Nat) (t : Nat) (C : Nat → Nat) (sh : Nat) (lv : Nat) (hn : n ≤ 64) (hpl : opl ≤ 512) (hs9 : 2 ≤ sg) (hs8 : sg ≤ 64) (hlv : lv = lev sg) (hnl : n = 2 ^ lv) (ht : t < sg) (hofc : ofc = 1) (hf : tbI ocf n C) (hC : ∀ k, k < 64 → 1 ≤ C k ∧ C k ≤ 2047) (hs1 : 1 ≤ sh) (hs2 : sh ≤ 10) (hE : eInv (Rg, L, ca, Pn, bs)) (hrw : rOk (nI bs.length) rwk) (hGrw : gIs rwf bs) (hN9 : bs.length + Pn + 20 ≤ 7900) : MetVg l y_Bits_writeSign (Cond.code y_Bits_writeSign prog_2_method_5_code 6 none :: gw) ({ frames := 7, cells := rPh rwk, slots := rPh rwk, locals := 171 } : Room) (dC, dI) vwCl (kT cI cM cO) [Value.ref co, Value.ref oo, Value.int (nI t)] [(co, Sum.inr (3, [Value.int (nI sh), Value.long xkeptCode, Value.long xkeptRange, Value.int xkeptAsked, Value.int (caI ca), Value.int (nI Pn), Value.long (lN L), Value.long (lN Rg), Value.long xcode, Value.long xreadLow, Value.long xreadRange, Value.ref ri, Value.ref ro, Value.ref rw, Value.int xasked])), (rw, Sum.inr (0, [Value.int (nI bs.length), Value.ref rwa])), (rwa, Sum.inl (cI, rwk, Sum.inl rwf)), (oo, Sum.inr (7, [Value.int (nI sg), Value.int osm, Value.int ofc, Value.ref oca, Value.ref opa])), (oca, Sum.inl (cI, n, Sum.inl ocf)), (opa, Sum.inl (cI, opl, Sum.inl opf))] sz sl (fun (u : Nat × Nat × (Nat → Int32) × Int32 × (Nat → Int32)) => rOk (nI (eB (spN sh t lv 1 (Rg, L, ca, Pn, bs) C).1).length) u.2.1 ∧ gIs u.2.2.1 (eB (spN sh t lv 1 (Rg, L, ca, Pn, bs) C).1) ∧ tbI u.2.2.2.2 n (spN sh t lv 1 (Rg, L, ca, Pn, bs) C).2) (fun (u : Nat × Nat × (Nat → Int32) × Int32 × (Nat → Int32)) => [(co, Sum.inr (3, [Value.int (nI sh), Value.long xkeptCode, Value.long xkeptRange, Value.int xkeptAsked, Value.int (caI (eC ((spN sh t lv 1 (Rg, L, ca, Pn, bs) C).1))), Value.int (nI (eP ((spN sh t lv 1 (Rg, L, ca, Pn, bs) C).1))), Value.long (lN (eL ((spN sh t lv 1 (Rg, L, ca, Pn, bs) C).1))), Value.long (lN (eR ((spN sh t lv 1 (Rg, L, ca, Pn, bs) C).1))), Value.long xcode, Value.long xreadLow, Value.long xreadRange, Value.ref ri, Value.ref ro, Value.ref rw, Value.int xasked])), (rw, Sum.inr (0, [Value.int (nI (eB (spN sh t lv 1 (Rg, L, ca, Pn, bs) C).1).length), Value.ref u.1])), (u.1, Sum.inl (cI, u.2.1, Sum.inl u.2.2.1)), (oo, Sum.inr (7, [Value.int (nI sg), Value.int u.2.2.2.1, Value.int ofc, Value.ref oca, Value.ref opa])), (oca, Sum.inl (cI, n, Sum.inl u.2.2.2.2)), (opa, Sum.inl (cI, opl, Sum.inl opf))]) (rPh rwk) (fun (u : Nat × Nat × (Nat → Int32) × Int32 × (Nat → Int32)) => rPh u.2.1) := by
  refine my_ofVg (cc := prog_2_method_5_code) (n := 6) (ret := none) (by decide) rfl (Nat.le_of_ble_eq_true rfl) ?_
  intro p e s m args below meth c R Q A ls H locs hx hb hr hts hown hlocks hml hnm hR hQ hA hl hP hK hN hD hS
  have hg : ∀ w ∈ gw, w.before args s = true := fun w h => hts w (List.mem_cons_of_mem _ h)
  have hown : s.vm.findClass "RangeCoders$Bits" = some m.cls := hown
  have hl : lv_has ls 6 [(0, Value.ref co), (1, Value.ref oo), (2, Value.int (nI t))] := hl
  have hltw := rOk_lt hrw
  have hl6 : lev sg ≤ 6 := lev_6 sg
  refine lv_iconst (v := 1) hx hb d_Bits_writeSign_0 (by decide) ?_
  refine lv_istore_n (lv' := [(3, Value.int 1), (0, Value.ref co), (1, Value.ref oo), (2, Value.int (nI t))]) hx hb d_Bits_writeSign_1 rfl hl (by decide) rfl (fun ls hl => ?_)
  refine lv_aload_n hx hb d_Bits_writeSign_2 rfl (lv_at hl 2 rfl) ?_
  refine va_get (D := (dC, dI)) (ci := 7) (v := .int (nI sg)) (C := "RangeCoders$Odds") (T := T_Odds) (N := 5) hx hb hg in_Odds hown hK hP 3 rfl rfl 0 (by decide) (hg _ k304) (fun _ h9 => h9) rfl d_Bits_writeSign_3 ?_
  refine my_ci (wr := [(co, Sum.inr (3, [Value.int (nI sh), Value.long xkeptCode, Value.long xkeptRange, Value.int xkeptAsked, Value.int (caI ca), Value.int (nI Pn), Value.long (lN L), Value.long (lN Rg), Value.long xcode, Value.long xreadLow, Value.long xreadRange, Value.ref ri, Value.ref ro, Value.ref rw, Value.int xasked])), (rw, Sum.inr (0, [Value.int (nI bs.length), Value.ref rwa])), (rwa, Sum.inl (cI, rwk, Sum.inl rwf)), (oo, Sum.inr (7, [Value.int (nI sg), Value.int osm, Value.int ofc, Value.ref oca, Value.ref opa])), (oca, Sum.inl (cI, n, Sum.inl ocf)), (opa, Sum.inl (cI, opl, Sum.inl opf))]) (va_runS (As := [Value.int (nI sg)]) (rest := []) ⟨hx, hb, hml, hown, hts⟩ (f_Bits_levelsOf l dC dI cI cM cO H.size sg (by first | assumption | omega) (by first | assumption | omega)) (cwS 1 hts (my_gS k296 k297 k8 k298) rfl rfl rfl (by decide +kernel) ⟨by rw [hR]; exact Nat.le_of_ble_eq_true rfl, by rw [hR]; exact Nat.le_of_ble_eq_true rfl⟩) (my_pre hK hN (hP.sub [] rfl) (hD.sub [] (by decide +kernel) rfl)) rfl rfl hl.1 rfl (lv_room (Nat.le_of_ble_eq_true rfl)) d_Bits_writeSign_6 ⟨by rw [hR]; exact (show 0 + 0 ≤ (rPh rwk) by omega), by rw [hR]; exact (show 0 + 0 ≤ (rPh rwk) by omega)⟩) hP hD hS hA [] [0, 1, 2, 3, 4, 5] rfl rfl (by decide +kernel) (by decide +kernel) (fun r_6 u9 H locs hw_6 hP hD hS => ?_)
  have hr_6 : r_6 = nI (lev sg) := hw_6
  have hPD : my_PD (dC, dI) vwCl A [(co, Sum.inr (3, [Value.int (nI sh), Value.long xkeptCode, Value.long xkeptRange, Value.int xkeptAsked, Value.int (caI ca), Value.int (nI Pn), Value.long (lN L), Value.long (lN Rg), Value.long xcode, Value.long xreadLow, Value.long xreadRange, Value.ref ri, Value.ref ro, Value.ref rw, Value.int xasked])), (rw, Sum.inr (0, [Value.int (nI bs.length), Value.ref rwa])), (rwa, Sum.inl (cI, rwk, Sum.inl rwf)), (oo, Sum.inr (7, [Value.int (nI sg), Value.int osm, Value.int ofc, Value.ref oca, Value.ref opa])), (oca, Sum.inl (cI, n, Sum.inl ocf)), (opa, Sum.inl (cI, opl, Sum.inl opf))] H := ⟨hP, hD⟩
  have hP := hPD.1
  have hD := hPD.2
  refine lv_iconst (v := 1) hx hb d_Bits_writeSign_9 (by decide) ?_
  refine lv_isub hx hb d_Bits_writeSign_10 ?_
  refine lv_topi (fun v_1 ev_1 => ?_)
  refine lv_istore (lv' := [(4, Value.int v_1), (3, Value.int 1), (0, Value.ref co), (1, Value.ref oo), (2, Value.int (nI t))]) hx hb d_Bits_writeSign_11 hl (by decide) rfl (fun ls hl => ?_)
  have J_13 : ∀ (n9_13 : Nat) (i9 : Int32) (j : Nat) (nd : Nat) (e9 : ES) (D : Nat → Nat) (fK : Nat → Int32) (sm9 : Int32) (rwa9 : Nat) (rwk9 : Nat) (rwf9 : Nat → Int32) (d9 : Nat) (hn9_13 : j = n9_13) (hi : i9 + 1 = nI j) (hj : j ≤ lv) (hE9 : spN sh t lv 1 (Rg, L, ca, Pn, bs) C = spN sh t j nd e9 D) (hI9 : eInv e9) (hM9 : eN e9 + 2 * j ≤ 7881 + 2 * lv) (hnd : 0 < nd ∧ nd < 2 ^ (lv - j + 1)) (hfK : tbI fK n D) (hD9 : ∀ k, k < 64 → 1 ≤ D k ∧ D k ≤ 2047) (hr9 : rOk (nI (eB e9).length) rwk9) (hg9 : gIs rwf9 (eB e9)) (hd9 : d9 + rPh rwk9 ≤ rPh rwk) (H : Heap) (locs : List Loc) (ls : Array Slot), va_P (dC, dI) vwCl [(co, Sum.inr (3, [Value.int (nI sh), Value.long xkeptCode, Value.long xkeptRange, Value.int xkeptAsked, Value.int (caI (eC e9)), Value.int (nI (eP e9)), Value.long (lN (eL e9)), Value.long (lN (eR e9)), Value.long xcode, Value.long xreadLow, Value.long xreadRange, Value.ref ri, Value.ref ro, Value.ref rw, Value.int xasked])), (rw, Sum.inr (0, [Value.int (nI (eB e9).length), Value.ref rwa9])), (rwa9, Sum.inl (cI, rwk9, Sum.inl rwf9)), (oo, Sum.inr (7, [Value.int (nI sg), Value.int sm9, Value.int ofc, Value.ref oca, Value.ref opa])), (oca, Sum.inl (cI, n, Sum.inl fK)), (opa, Sum.inl (cI, opl, Sum.inl opf))] H → va_D A [(co, Sum.inr (3, [Value.int (nI sh), Value.long xkeptCode, Value.long xkeptRange, Value.int xkeptAsked, Value.int (caI (eC e9)), Value.int (nI (eP e9)), Value.long (lN (eL e9)), Value.long (lN (eR e9)), Value.long xcode, Value.long xreadLow, Value.long xreadRange, Value.ref ri, Value.ref ro, Value.ref rw, Value.int xasked])), (rw, Sum.inr (0, [Value.int (nI (eB e9).length), Value.ref rwa9])), (rwa9, Sum.inl (cI, rwk9, Sum.inl rwf9)), (oo, Sum.inr (7, [Value.int (nI sg), Value.int sm9, Value.int ofc, Value.ref oca, Value.ref opa])), (oca, Sum.inl (cI, n, Sum.inl fK)), (opa, Sum.inl (cI, opl, Sum.inl opf))] → va_S A s.heap H locs → lv_has ls 6 [(4, Value.int i9), (3, Value.int (nI nd)), (0, Value.ref co), (1, Value.ref oo), (2, Value.int (nI t))] → W p l e R s m args below meth c H locs d9 d9 Q (F0 m 13 ls []) := by
    intro n9_13
    induction n9_13 using Nat.strongRecOn with
    | ind n9_13 ih9_13 =>
      intro i9 j nd e9 D fK sm9 rwa9 rwk9 rwf9 d9 hn9_13 hi hj hE9 hI9 hM9 hnd hfK hD9 hr9 hg9 hd9 H locs ls hP hD hS hl
      refine lv_iload hx hb d_Bits_writeSign_13 (lv_at hl 0 rfl) ?_
      refine lv_if_lt (tgt := 47) hx hb d_Bits_writeSign_15 (by decide) (fun c_2 => ?_) (fun c_2 => ?_)
      · have hj0 : j = 0 := by
          rcases Nat.eq_zero_or_pos j with z | z
          · exact z
          · exact absurd (show i9 < 0 from c_2) (by rw [show i9 = nI (j - 1) from by rw [← Int32.add_sub_cancel (a := i9) (b := 1), hi]; exact pk_sub (b := 1) z]; exact nI_pos (by omega))
        have hx9 : spN sh t lv 1 (Rg, L, ca, Pn, bs) C = (e9, D) := by rw [hE9, hj0]; rfl
        have z9 : e9 = (spN sh t lv 1 (Rg, L, ca, Pn, bs) C).1 := by rw [hx9]
        subst z9
        exact my_vretg hx hb hr hlocks hQ hK hS (rwa9, rwk9, rwf9, sm9, fK) (show d9 + (rPh rwk9) ≤ (rPh rwk) by omega) (show d9 + (rPh rwk9) ≤ (rPh rwk) by omega) (⟨hr9, hg9, by rw [hx9]; exact hfK⟩) (hP.sub [0, 1, 2, 3, 4, 5] rfl) (hD.sub [0, 1, 2, 3, 4, 5] (by decide +kernel) rfl) d_Bits_writeSign_47
      · have hj0 : 1 ≤ j := by
          rcases Nat.eq_zero_or_pos j with z | z
          · subst z; exact absurd (show i9 < 0 by rw [show i9 = -1 from by rw [← Int32.add_sub_cancel (a := i9) (b := 1), hi]; rfl]; decide) c_2
          · exact z
        have hi9 : i9 = nI (j - 1) := by rw [← Int32.add_sub_cancel (a := i9) (b := 1), hi]; exact pk_sub (b := 1) hj0
        have hvl : t / 2 ^ (j - 1) ≤ t := Nat.div_le_self _ _
        have hndn : nd < n := by rw [hnl]; exact Nat.lt_of_lt_of_le hnd.2 (Nat.pow_le_pow_right (by decide) (by omega))
        have hnd64 : nd < 64 := by omega
        have hb2 := Nat.mod_lt (t / 2 ^ (j - 1)) (show 0 < 2 by decide)
        subst hi9
        refine lv_iload_n hx hb d_Bits_writeSign_18 rfl (lv_at hl 4 rfl) ?_
        refine lv_iload hx hb d_Bits_writeSign_19 (lv_at hl 0 rfl) ?_
        refine lv_iushr hx hb d_Bits_writeSign_21 rfl ?_
        refine lv_topi (fun v_3 ev_3 => ?_)
        refine lv_iconst (v := 1) hx hb d_Bits_writeSign_22 (by decide) ?_
        refine lv_iand hx hb d_Bits_writeSign_23 ?_
        refine lv_topi (fun v_4 ev_4 => ?_)
        have z9 : v_4 = nI (t / 2 ^ (j - 1) % 2) := by subst_vars; rw [I_ushr (by omega) (by omega)]; exact I_and1 (by omega)
        subst z9
        refine lv_istore (lv' := [(5, Value.int (nI (t / 2 ^ (j - 1) % 2))), (4, Value.int (nI (j - 1))), (3, Value.int (nI nd)), (0, Value.ref co), (1, Value.ref oo), (2, Value.int (nI t))]) hx hb d_Bits_writeSign_24 hl (by decide) rfl (fun ls hl => ?_)
        refine lv_aload_n hx hb d_Bits_writeSign_26 rfl (lv_at hl 3 rfl) ?_
        refine lv_aload_n hx hb d_Bits_writeSign_27 rfl (lv_at hl 4 rfl) ?_
        refine lv_iload_n hx hb d_Bits_writeSign_28 rfl (lv_at hl 2 rfl) ?_
        refine lv_iload hx hb d_Bits_writeSign_29 (lv_at hl 0 rfl) ?_
        refine my_cvg (wr := []) (va_runV (As := [Value.ref oo, Value.int (nI nd), Value.int (nI (t / 2 ^ (j - 1) % 2))]) (rest := []) ⟨hx, hb, hml, hown, hts⟩ (f_Bits_writeBit l dC dI cI cM cO H.size (hSl H) co xkeptCode xkeptRange xkeptAsked xcode xreadLow xreadRange ri ro rw xasked (eR e9) (eL e9) (eC e9) (eP e9) rwa9 rwk9 rwf9 (eB e9) oo (nI sg) ofc oca opa n fK opl opf sm9 nd (D nd) (t / 2 ^ (j - 1) % 2) sh (by first | assumption | omega) (by first | assumption | omega) (hnd.1) (hndn) (by first | assumption | omega) (hfK nd hndn) ((hD9 nd hnd64).1) ((hD9 nd hnd64).2) (hs2) (hb2) (hI9) (hr9) (hg9) (by have z : eN e9 = (eB e9).length + eP e9 + 1 := rfl; omega)) (cwV 3 hts (my_gV k445 k447 ks4 k8 k448) rfl rfl rfl (by decide +kernel) ⟨by rw [hR]; exact Nat.le_of_ble_eq_true rfl, by rw [hR]; exact Nat.le_of_ble_eq_true rfl⟩) (my_preVg hK hN (hP.sub [0, 1, 2, 3, 4, 5] rfl) (hD.sub [0, 1, 2, 3, 4, 5] (by decide +kernel) rfl) 0 rfl rfl) rfl rfl hl.1 rfl (lv_room (Nat.le_of_ble_eq_true rfl)) d_Bits_writeSign_31 ⟨by rw [hR]; exact (show d9 + (rPh rwk9) ≤ (rPh rwk) by omega), by rw [hR]; exact (show d9 + (rPh rwk9) ≤ (rPh rwk) by omega)⟩) hP hD hS hA [0, 1, 2, 3, 4, 5] [] rfl rfl (by decide +kernel) (by decide +kernel) (fun u9 d_31 H locs hd_31 hw_31 hP hD hS => ?_)
        obtain ⟨rwaq_31, rwkq_31, rwfq_31, osmq_31, ocfq_31⟩ := u9
        obtain ⟨hrw_31, hGrw_31, hc_31⟩ : rOk (nI (eB (wdS (btS (D nd) (t / 2 ^ (j - 1) % 2) (eR e9) (eL e9) (eC e9) (eP e9) (eB e9)))).length) rwkq_31 ∧ gIs rwfq_31 (eB (wdS (btS (D nd) (t / 2 ^ (j - 1) % 2) (eR e9) (eL e9) (eC e9) (eP e9) (eB e9)))) ∧ ocfq_31 = upd fK nd (nI (mvC sh (t / 2 ^ (j - 1) % 2) (D nd))) := hw_31
        have hd_31 : d_31 + (rPh rwkq_31) ≤ (rPh rwk9) := hd_31
        have hPD : my_PD (dC, dI) vwCl A [(co, Sum.inr (3, [Value.int (nI sh), Value.long xkeptCode, Value.long xkeptRange, Value.int xkeptAsked, Value.int (caI (eC (wdS (btS (D nd) (t / 2 ^ (j - 1) % 2) (eR e9) (eL e9) (eC e9) (eP e9) (eB e9))))), Value.int (nI (eP (wdS (btS (D nd) (t / 2 ^ (j - 1) % 2) (eR e9) (eL e9) (eC e9) (eP e9) (eB e9))))), Value.long (lN (eL (wdS (btS (D nd) (t / 2 ^ (j - 1) % 2) (eR e9) (eL e9) (eC e9) (eP e9) (eB e9))))), Value.long (lN (eR (wdS (btS (D nd) (t / 2 ^ (j - 1) % 2) (eR e9) (eL e9) (eC e9) (eP e9) (eB e9))))), Value.long xcode, Value.long xreadLow, Value.long xreadRange, Value.ref ri, Value.ref ro, Value.ref rw, Value.int xasked])), (rw, Sum.inr (0, [Value.int (nI (eB (wdS (btS (D nd) (t / 2 ^ (j - 1) % 2) (eR e9) (eL e9) (eC e9) (eP e9) (eB e9)))).length), Value.ref rwaq_31])), (rwaq_31, Sum.inl (cI, rwkq_31, Sum.inl rwfq_31)), (oo, Sum.inr (7, [Value.int (nI sg), Value.int osmq_31, Value.int ofc, Value.ref oca, Value.ref opa])), (oca, Sum.inl (cI, n, Sum.inl ocfq_31)), (opa, Sum.inl (cI, opl, Sum.inl opf))] H := ⟨hP, hD⟩
        have hP := hPD.1
        have hD := hPD.2
        refine lv_iconst (v := 2) hx hb d_Bits_writeSign_34 (by decide) ?_
        refine lv_iload_n hx hb d_Bits_writeSign_35 rfl (lv_at hl 2 rfl) ?_
        refine lv_imul hx hb d_Bits_writeSign_36 ?_
        refine lv_topi (fun v_5 ev_5 => ?_)
        refine lv_iload hx hb d_Bits_writeSign_37 (lv_at hl 0 rfl) ?_
        refine lv_iadd hx hb d_Bits_writeSign_39 ?_
        refine lv_topi (fun v_6 ev_6 => ?_)
        have z9 : v_6 = nI (2 * nd + t / 2 ^ (j - 1) % 2) := by subst_vars; rw [show (2 : Int32) * nI nd = nI (2 * nd) from pk_mul 2 nd]; exact nI_add _ _
        subst z9
        refine lv_istore_n (lv' := [(3, Value.int (nI (2 * nd + t / 2 ^ (j - 1) % 2))), (5, Value.int (nI (t / 2 ^ (j - 1) % 2))), (4, Value.int (nI (j - 1))), (0, Value.ref co), (1, Value.ref oo), (2, Value.int (nI t))]) hx hb d_Bits_writeSign_40 rfl hl (by decide) rfl (fun ls hl => ?_)
        obtain ⟨v_7, ev_7⟩ : ∃ y : Int32, y = (nI (j - 1)) + (-1) := ⟨_, rfl⟩
        refine lv_iinc (v := v_7) (lv' := [(4, Value.int v_7), (3, Value.int (nI (2 * nd + t / 2 ^ (j - 1) % 2))), (5, Value.int (nI (t / 2 ^ (j - 1) % 2))), (0, Value.ref co), (1, Value.ref oo), (2, Value.int (nI t))]) hx hb d_Bits_writeSign_41 hl (k := 2) rfl (by rw [ev_7]; rfl) (by decide) rfl (fun ls hl => ?_)
        refine lv_goto (tgt := 13) hx hb d_Bits_writeSign_44 (by decide) ?_
        exact ih9_13 _ (by first | omega | (omega)) v_7 (j - 1) (2 * nd + t / 2 ^ (j - 1) % 2) (wdS (btS (D nd) (t / 2 ^ (j - 1) % 2) (eR e9) (eL e9) (eC e9) (eP e9) (eB e9))) (upN D nd (mvC sh (t / 2 ^ (j - 1) % 2) (D nd))) ocfq_31 osmq_31 rwaq_31 rwkq_31 rwfq_31 (d9 + d_31) rfl (by rw [ev_7, show nI (j - 1) + (-1) + 1 = nI (j - 1) from by rw [Int32.add_assoc, show (-1 : Int32) + 1 = 0 from by decide, Int32.add_zero]]) (by omega) (by rw [hE9, show spN sh t j nd e9 D = spN sh t (j - 1 + 1) nd e9 D by rw [Nat.sub_add_cancel hj0]]; rfl) ((bt_inv hI9 (hD9 nd hnd64).1 (hD9 nd hnd64).2).1) (by have z := (bt_inv (bt := t / 2 ^ (j - 1) % 2) hI9 (hD9 nd hnd64).1 (hD9 nd hnd64).2).2; omega) (nd_st hj0 hj hnd hb2) (by rw [hc_31]; exact tb_up hfK rfl rfl) (ch_up hs1 hD9) (hrw_31) (hGrw_31) (by omega) H locs ls (hP.sub [0, 1, 2, 3, 4, 5] rfl) (hD.sub [0, 1, 2, 3, 4, 5] (by decide +kernel) rfl) hS (lv_sub hl [0, 1, 3, 4, 5] rfl)
  exact J_13 _ v_1 lv (1 : Nat) (Rg, L, ca, Pn, bs) C ocf osm rwa rwk rwf (0 : Nat) rfl (by rw [ev_1, hr_6, Int32.sub_add_cancel, hlv]) (Nat.le_refl _) (rfl) (hE) (by show bs.length + Pn + 1 + 2 * lv ≤ _; omega) (⟨by decide, by rw [Nat.sub_self]; decide⟩) (hf) (hC) (hrw) (hGrw) (by omega) H locs ls (hP.sub [0, 1, 2, 3, 4, 5] rfl) (hD.sub [0, 1, 2, 3, 4, 5] (by decide +kernel) rfl) hS (lv_sub hl [0, 1, 2, 3, 4] rfl)
set_option maxHeartbeats 2000000 in
set_option maxRecDepth 100000 in
theorem f_Bits_writeValue (l : Launch) (dC : Nat → ClassId) (dI : Nat → Nat → Nat) (cI cM cO : ClassId) (sz : Nat) (sl : Nat) (co : Nat) (xshift : Int32) (xkeptCode : Int64) (xkeptRange : Int64) (xkeptAsked : Int32) (xcode : Int64) (xreadLow : Int64) (xreadRange : Int64) (ri : Nat) (ro : Nat) (rw : Nat) (xasked : Int32) (Rg : Nat) (L : Nat) (ca : Option Nat) (Pn : Nat) (rwa : Nat) (rwk : Nat) (rwf : Nat → Int32) (bs : List Nat) (v : Nat) (b : Nat) (hb1 : 1 ≤ b) (hb2 : b ≤ 12) (hv : v < 4096) (hE : eInv (Rg, L, ca, Pn, bs)) (hrw : rOk (nI bs.length) rwk) (hGrw : gIs rwf bs) (hN9 : bs.length + Pn + 20 ≤ 7900) : MetVg l y_Bits_writeValue (Cond.code y_Bits_writeValue prog_2_method_6_code 4 none :: gw) ({ frames := 6, cells := rPh rwk, slots := rPh rwk, locals := 146 } : Room) (dC, dI) vwCl (kT cI cM cO) [Value.ref co, Value.int (nI v), Value.int (nI b)] [(co, Sum.inr (3, [Value.int xshift, Value.long xkeptCode, Value.long xkeptRange, Value.int xkeptAsked, Value.int (caI ca), Value.int (nI Pn), Value.long (lN L), Value.long (lN Rg), Value.long xcode, Value.long xreadLow, Value.long xreadRange, Value.ref ri, Value.ref ro, Value.ref rw, Value.int xasked])), (rw, Sum.inr (0, [Value.int (nI bs.length), Value.ref rwa])), (rwa, Sum.inl (cI, rwk, Sum.inl rwf))] sz sl (fun (u : Nat × Nat × (Nat → Int32)) => rOk (nI (eB (vbN v b (Rg, L, ca, Pn, bs))).length) u.2.1 ∧ gIs u.2.2 (eB (vbN v b (Rg, L, ca, Pn, bs)))) (fun (u : Nat × Nat × (Nat → Int32)) => [(co, Sum.inr (3, [Value.int xshift, Value.long xkeptCode, Value.long xkeptRange, Value.int xkeptAsked, Value.int (caI (eC (vbN v b (Rg, L, ca, Pn, bs)))), Value.int (nI (eP (vbN v b (Rg, L, ca, Pn, bs)))), Value.long (lN (eL (vbN v b (Rg, L, ca, Pn, bs)))), Value.long (lN (eR (vbN v b (Rg, L, ca, Pn, bs)))), Value.long xcode, Value.long xreadLow, Value.long xreadRange, Value.ref ri, Value.ref ro, Value.ref rw, Value.int xasked])), (rw, Sum.inr (0, [Value.int (nI (eB (vbN v b (Rg, L, ca, Pn, bs))).length), Value.ref u.1])), (u.1, Sum.inl (cI, u.2.1, Sum.inl u.2.2))]) (rPh rwk) (fun (u : Nat × Nat × (Nat → Int32)) => rPh u.2.1) := by
  refine my_ofVg (cc := prog_2_method_6_code) (n := 4) (ret := none) (by decide) rfl (Nat.le_of_ble_eq_true rfl) ?_
  intro p e s m args below meth c R Q A ls H locs hx hb hr hts hown hlocks hml hnm hR hQ hA hl hP hK hN hD hS
  have hg : ∀ w ∈ gw, w.before args s = true := fun w h => hts w (List.mem_cons_of_mem _ h)
  have hown : s.vm.findClass "RangeCoders$Bits" = some m.cls := hown
  have hl : lv_has ls 4 [(0, Value.ref co), (1, Value.int (nI v)), (2, Value.int (nI b))] := hl
  have hltw := rOk_lt hrw
  refine lv_iload_n hx hb d_Bits_writeValue_0 rfl (lv_at hl 2 rfl) ?_
  refine lv_iconst (v := 1) hx hb d_Bits_writeValue_1 (by decide) ?_
  refine lv_isub hx hb d_Bits_writeValue_2 ?_
  refine lv_topi (fun v_1 ev_1 => ?_)
  refine lv_istore_n (lv' := [(3, Value.int v_1), (0, Value.ref co), (1, Value.int (nI v)), (2, Value.int (nI b))]) hx hb d_Bits_writeValue_3 rfl hl (by decide) rfl (fun ls hl => ?_)
  have J_4 : ∀ (n9_4 : Nat) (i9 : Int32) (j : Nat) (e9 : ES) (rwa9 : Nat) (rwk9 : Nat) (rwf9 : Nat → Int32) (d9 : Nat) (hn9_4 : j = n9_4) (hi : i9 + 1 = nI j) (hj : j ≤ b) (hE9 : vbN v b (Rg, L, ca, Pn, bs) = vbN v j e9) (hI9 : eInv e9) (hM9 : eN e9 + j ≤ 7900 - 19 + b) (hr9 : rOk (nI (eB e9).length) rwk9) (hg9 : gIs rwf9 (eB e9)) (hd9 : d9 + rPh rwk9 ≤ rPh rwk) (H : Heap) (locs : List Loc) (ls : Array Slot), va_P (dC, dI) vwCl [(co, Sum.inr (3, [Value.int xshift, Value.long xkeptCode, Value.long xkeptRange, Value.int xkeptAsked, Value.int (caI (eC e9)), Value.int (nI (eP e9)), Value.long (lN (eL e9)), Value.long (lN (eR e9)), Value.long xcode, Value.long xreadLow, Value.long xreadRange, Value.ref ri, Value.ref ro, Value.ref rw, Value.int xasked])), (rw, Sum.inr (0, [Value.int (nI (eB e9).length), Value.ref rwa9])), (rwa9, Sum.inl (cI, rwk9, Sum.inl rwf9))] H → va_D A [(co, Sum.inr (3, [Value.int xshift, Value.long xkeptCode, Value.long xkeptRange, Value.int xkeptAsked, Value.int (caI (eC e9)), Value.int (nI (eP e9)), Value.long (lN (eL e9)), Value.long (lN (eR e9)), Value.long xcode, Value.long xreadLow, Value.long xreadRange, Value.ref ri, Value.ref ro, Value.ref rw, Value.int xasked])), (rw, Sum.inr (0, [Value.int (nI (eB e9).length), Value.ref rwa9])), (rwa9, Sum.inl (cI, rwk9, Sum.inl rwf9))] → va_S A s.heap H locs → lv_has ls 4 [(3, Value.int i9), (0, Value.ref co), (1, Value.int (nI v)), (2, Value.int (nI b))] → W p l e R s m args below meth c H locs d9 d9 Q (F0 m 4 ls []) := by
    intro n9_4
    induction n9_4 using Nat.strongRecOn with
    | ind n9_4 ih9_4 =>
      intro i9 j e9 rwa9 rwk9 rwf9 d9 hn9_4 hi hj hE9 hI9 hM9 hr9 hg9 hd9 H locs ls hP hD hS hl
      refine lv_iload_n hx hb d_Bits_writeValue_4 rfl (lv_at hl 0 rfl) ?_
      refine lv_if_lt (tgt := 50) hx hb d_Bits_writeValue_5 (by decide) (fun c_2 => ?_) (fun c_2 => ?_)
      · have hj0 : j = 0 := by
          rcases Nat.eq_zero_or_pos j with z | z
          · exact z
          · exact absurd (show i9 < 0 from c_2) (by rw [show i9 = nI (j - 1) from by rw [← Int32.add_sub_cancel (a := i9) (b := 1), hi]; exact pk_sub (b := 1) z]; exact nI_pos (by omega))
        have z9 : e9 = vbN v b (Rg, L, ca, Pn, bs) := by rw [hE9, hj0]; rfl
        subst z9
        exact my_vretg hx hb hr hlocks hQ hK hS (rwa9, rwk9, rwf9) (show d9 + (rPh rwk9) ≤ (rPh rwk) by omega) (show d9 + (rPh rwk9) ≤ (rPh rwk) by omega) (⟨hr9, hg9⟩) (hP.sub [0, 1, 2] rfl) (hD.sub [0, 1, 2] (by decide +kernel) rfl) d_Bits_writeValue_50
      · have hj0 : 1 ≤ j := by
          rcases Nat.eq_zero_or_pos j with z | z
          · subst z; exact absurd (show i9 < 0 by rw [show i9 = -1 from by rw [← Int32.add_sub_cancel (a := i9) (b := 1), hi]; rfl]; decide) c_2
          · exact z
        have hi9 : i9 = nI (j - 1) := by rw [← Int32.add_sub_cancel (a := i9) (b := 1), hi]; exact pk_sub (b := 1) hj0
        obtain ⟨hI1, hI2, hI3, hI4⟩ := id hI9
        have hvl : v / 2 ^ (j - 1) ≤ v := Nat.div_le_self _ _
        subst hi9
        refine lv_aload_n hx hb d_Bits_writeValue_8 rfl (lv_at hl 1 rfl) ?_
        refine lv_dup hx hb d_Bits_writeValue_9 rfl ?_
        refine va_get (D := (dC, dI)) (ci := 3) (v := .long (lN (eR e9))) (C := "RangeCoders$Bits") (T := T_Bits) (N := 15) hx hb hg in_Bits hown hK hP 0 rfl rfl 7 (by decide) (hg _ k82) (fun x9 h9 => u_same (hg _ k83) x9 h9) rfl d_Bits_writeValue_10 ?_
        refine lv_iconst (v := 1) hx hb d_Bits_writeValue_13 (by decide) ?_
        refine lv_lushr hx hb d_Bits_writeValue_14 rfl ?_
        refine lv_topl (fun v_3 ev_3 => ?_)
        have z9 : v_3 = lN (eR e9 / 2) := by rw [ev_3]; exact U_shr1 (by omega)
        subst z9
        refine va_put (D := (dC, dI)) (ci := 3) (v := .long (lN (eR e9 / 2))) (ty := .long) (C := "RangeCoders$Bits") (T := T_Bits) (N := 15) hx hb hg in_Bits t_Bits o_Bits n_Bits hown hK hP hD hS 0 rfl rfl 7 (by decide) (hg _ k82) (fun x9 h9 => u_same (hg _ k83) x9 h9) rfl (by decide +kernel) rfl rfl (Nat.le_of_ble_eq_true rfl) d_Bits_writeValue_15 (fun H locs hP hD hS => ?_)
        have hPD : my_PD (dC, dI) vwCl A [(co, Sum.inr (3, [Value.int xshift, Value.long xkeptCode, Value.long xkeptRange, Value.int xkeptAsked, Value.int (caI (eC e9)), Value.int (nI (eP e9)), Value.long (lN (eL e9)), Value.long (lN (eR e9 / 2)), Value.long xcode, Value.long xreadLow, Value.long xreadRange, Value.ref ri, Value.ref ro, Value.ref rw, Value.int xasked])), (rw, Sum.inr (0, [Value.int (nI (eB e9).length), Value.ref rwa9])), (rwa9, Sum.inl (cI, rwk9, Sum.inl rwf9))] H := ⟨hP, hD⟩
        have hP := hPD.1
        have hD := hPD.2
        refine lv_iload_n hx hb d_Bits_writeValue_18 rfl (lv_at hl 2 rfl) ?_
        refine lv_iload_n hx hb d_Bits_writeValue_19 rfl (lv_at hl 0 rfl) ?_
        refine lv_iushr hx hb d_Bits_writeValue_20 rfl ?_
        refine lv_topi (fun v_4 ev_4 => ?_)
        refine lv_iconst (v := 1) hx hb d_Bits_writeValue_21 (by decide) ?_
        refine lv_iand hx hb d_Bits_writeValue_22 ?_
        refine lv_topi (fun v_5 ev_5 => ?_)
        have z9 : v_5 = nI (v / 2 ^ (j - 1) % 2) := by subst_vars; rw [I_ushr (by omega) (by omega)]; exact I_and1 (by omega)
        subst z9
        refine lv_iconst (v := 1) hx hb d_Bits_writeValue_23 (by decide) ?_
        refine lv_icmp_ne (tgt := 40) hx hb d_Bits_writeValue_24 (by decide) (fun c_6 => ?_) (fun c_6 => ?_)
        · have hsu : (lN (eL e9) : Int64) = lN (if v / 2 ^ (j - 1) % 2 = 1 then eL e9 + eR e9 / 2 else eL e9) := by rw [if_neg (fun z => c_6 (by rw [z]; rfl))]
          rw [hsu] at hP hD
          have hPD : my_PD (dC, dI) vwCl A [(co, Sum.inr (3, [Value.int xshift, Value.long xkeptCode, Value.long xkeptRange, Value.int xkeptAsked, Value.int (caI (eC e9)), Value.int (nI (eP e9)), Value.long (lN (if v / 2 ^ (j - 1) % 2 = 1 then eL e9 + eR e9 / 2 else eL e9)), Value.long (lN (eR e9 / 2)), Value.long xcode, Value.long xreadLow, Value.long xreadRange, Value.ref ri, Value.ref ro, Value.ref rw, Value.int xasked])), (rw, Sum.inr (0, [Value.int (nI (eB e9).length), Value.ref rwa9])), (rwa9, Sum.inl (cI, rwk9, Sum.inl rwf9))] H := ⟨hP, hD⟩
          have hP := hPD.1
          have hD := hPD.2
          have hLL : (if v / 2 ^ (j - 1) % 2 = 1 then eL e9 + eR e9 / 2 else eL e9) < 8589934592 := by split <;> omega
          refine lv_aload_n hx hb d_Bits_writeValue_40 rfl (lv_at hl 1 rfl) ?_
          refine my_cvg (wr := []) (va_runU (As := []) (rest := []) ⟨hx, hb, hml, hown, hts⟩ (f_Bits_widen l dC dI cI cM cO H.size (hSl H) co xshift xkeptCode xkeptRange xkeptAsked xcode xreadLow xreadRange ri ro rw xasked (eR e9 / 2) (if v / 2 ^ (j - 1) % 2 = 1 then eL e9 + eR e9 / 2 else eL e9) (eC e9) (eP e9) rwa9 rwk9 rwf9 (eB e9) (by omega) (by omega) (hLL) (hI4) (hr9) (hg9) (by have z : eN e9 = (eB e9).length + eP e9 + 1 := rfl; omega)) (va_cwU 0 hts (my_gU k455 k456 k458 k459 k5 k460) rfl rfl rfl rfl (by decide +kernel) ⟨by rw [hR]; exact Nat.le_of_ble_eq_true rfl, by rw [hR]; exact Nat.le_of_ble_eq_true rfl⟩) (my_preVg hK hN (hP.sub [0, 1, 2] rfl) (hD.sub [0, 1, 2] (by decide +kernel) rfl) 0 rfl rfl) rfl rfl hl.1 rfl (lv_room (Nat.le_of_ble_eq_true rfl)) d_Bits_writeValue_41 ⟨by rw [hR]; exact (show d9 + (rPh rwk9) ≤ (rPh rwk) by omega), by rw [hR]; exact (show d9 + (rPh rwk9) ≤ (rPh rwk) by omega)⟩) hP hD hS hA [0, 1, 2] [] rfl rfl (by decide +kernel) (by decide +kernel) (fun u9 d_41 H locs hd_41 hw_41 hP hD hS => ?_)
          obtain ⟨rwaq_41, rwkq_41, rwfq_41⟩ := u9
          obtain ⟨hrw_41, hGrw_41⟩ : rOk (nI (eB (wdS ((eR e9 / 2), (if v / 2 ^ (j - 1) % 2 = 1 then eL e9 + eR e9 / 2 else eL e9), (eC e9), (eP e9), (eB e9)))).length) rwkq_41 ∧ gIs rwfq_41 (eB (wdS ((eR e9 / 2), (if v / 2 ^ (j - 1) % 2 = 1 then eL e9 + eR e9 / 2 else eL e9), (eC e9), (eP e9), (eB e9)))) := hw_41
          have hd_41 : d_41 + (rPh rwkq_41) ≤ (rPh rwk9) := hd_41
          have hPD : my_PD (dC, dI) vwCl A [(co, Sum.inr (3, [Value.int xshift, Value.long xkeptCode, Value.long xkeptRange, Value.int xkeptAsked, Value.int (caI (eC (wdS ((eR e9 / 2), (if v / 2 ^ (j - 1) % 2 = 1 then eL e9 + eR e9 / 2 else eL e9), (eC e9), (eP e9), (eB e9))))), Value.int (nI (eP (wdS ((eR e9 / 2), (if v / 2 ^ (j - 1) % 2 = 1 then eL e9 + eR e9 / 2 else eL e9), (eC e9), (eP e9), (eB e9))))), Value.long (lN (eL (wdS ((eR e9 / 2), (if v / 2 ^ (j - 1) % 2 = 1 then eL e9 + eR e9 / 2 else eL e9), (eC e9), (eP e9), (eB e9))))), Value.long (lN (eR (wdS ((eR e9 / 2), (if v / 2 ^ (j - 1) % 2 = 1 then eL e9 + eR e9 / 2 else eL e9), (eC e9), (eP e9), (eB e9))))), Value.long xcode, Value.long xreadLow, Value.long xreadRange, Value.ref ri, Value.ref ro, Value.ref rw, Value.int xasked])), (rw, Sum.inr (0, [Value.int (nI (eB (wdS ((eR e9 / 2), (if v / 2 ^ (j - 1) % 2 = 1 then eL e9 + eR e9 / 2 else eL e9), (eC e9), (eP e9), (eB e9)))).length), Value.ref rwaq_41])), (rwaq_41, Sum.inl (cI, rwkq_41, Sum.inl rwfq_41))] H := ⟨hP, hD⟩
          have hP := hPD.1
          have hD := hPD.2
          obtain ⟨v_7, ev_7⟩ : ∃ y : Int32, y = (nI (j - 1)) + (-1) := ⟨_, rfl⟩
          refine lv_iinc (v := v_7) (lv' := [(3, Value.int v_7), (0, Value.ref co), (1, Value.int (nI v)), (2, Value.int (nI b))]) hx hb d_Bits_writeValue_44 hl (k := 0) rfl (by rw [ev_7]; rfl) (by decide) rfl (fun ls hl => ?_)
          refine lv_goto (tgt := 4) hx hb d_Bits_writeValue_47 (by decide) ?_
          exact ih9_4 _ (by first | omega | (omega)) v_7 (j - 1) (wdS (eR e9 / 2, (if v / 2 ^ (j - 1) % 2 = 1 then eL e9 + eR e9 / 2 else eL e9), e9.2.2)) rwaq_41 rwkq_41 rwfq_41 (d9 + d_41) rfl (by rw [ev_7, show nI (j - 1) + (-1) + 1 = nI (j - 1) from by rw [Int32.add_assoc, show (-1 : Int32) + 1 = 0 from by decide, Int32.add_zero]]) (by omega) (by rw [hE9, show vbN v j e9 = vbN v (j - 1 + 1) e9 by rw [Nat.sub_add_cancel hj0]]; rfl) ((vb_inv hI9 _).1) (by have z := (vb_inv hI9 (v / 2 ^ (j - 1) % 2 = 1)).2; omega) (hrw_41) (hGrw_41) (by omega) H locs ls (hP.sub [0, 1, 2] rfl) (hD.sub [0, 1, 2] (by decide +kernel) rfl) hS (lv_sub hl [0, 1, 2, 3] rfl)
        · refine lv_aload_n hx hb d_Bits_writeValue_27 rfl (lv_at hl 1 rfl) ?_
          refine lv_dup hx hb d_Bits_writeValue_28 rfl ?_
          refine va_get (D := (dC, dI)) (ci := 3) (v := .long (lN (eL e9))) (C := "RangeCoders$Bits") (T := T_Bits) (N := 15) hx hb hg in_Bits hown hK hP 0 rfl rfl 6 (by decide) (hg _ k75) (fun x9 h9 => u_same (hg _ k76) x9 h9) rfl d_Bits_writeValue_29 ?_
          refine lv_aload_n hx hb d_Bits_writeValue_32 rfl (lv_at hl 1 rfl) ?_
          refine va_get (D := (dC, dI)) (ci := 3) (v := .long (lN (eR e9 / 2))) (C := "RangeCoders$Bits") (T := T_Bits) (N := 15) hx hb hg in_Bits hown hK hP 0 rfl rfl 7 (by decide) (hg _ k82) (fun x9 h9 => u_same (hg _ k83) x9 h9) rfl d_Bits_writeValue_33 ?_
          refine lv_ladd hx hb d_Bits_writeValue_36 ?_
          refine lv_topl (fun v_8 ev_8 => ?_)
          have z9 : v_8 = lN (if v / 2 ^ (j - 1) % 2 = 1 then eL e9 + eR e9 / 2 else eL e9) := by rw [ev_8, if_pos ((nI_eq (b := 1) (by omega) (by decide)).mp c_6)]; exact lN_add _ _
          subst z9
          refine va_put (D := (dC, dI)) (ci := 3) (v := .long (lN (if v / 2 ^ (j - 1) % 2 = 1 then eL e9 + eR e9 / 2 else eL e9))) (ty := .long) (C := "RangeCoders$Bits") (T := T_Bits) (N := 15) hx hb hg in_Bits t_Bits o_Bits n_Bits hown hK hP hD hS 0 rfl rfl 6 (by decide) (hg _ k75) (fun x9 h9 => u_same (hg _ k76) x9 h9) rfl (by decide +kernel) rfl rfl (Nat.le_of_ble_eq_true rfl) d_Bits_writeValue_37 (fun H locs hP hD hS => ?_)
          have hPD : my_PD (dC, dI) vwCl A [(co, Sum.inr (3, [Value.int xshift, Value.long xkeptCode, Value.long xkeptRange, Value.int xkeptAsked, Value.int (caI (eC e9)), Value.int (nI (eP e9)), Value.long (lN (if v / 2 ^ (j - 1) % 2 = 1 then eL e9 + eR e9 / 2 else eL e9)), Value.long (lN (eR e9 / 2)), Value.long xcode, Value.long xreadLow, Value.long xreadRange, Value.ref ri, Value.ref ro, Value.ref rw, Value.int xasked])), (rw, Sum.inr (0, [Value.int (nI (eB e9).length), Value.ref rwa9])), (rwa9, Sum.inl (cI, rwk9, Sum.inl rwf9))] H := ⟨hP, hD⟩
          have hP := hPD.1
          have hD := hPD.2
          have hLL : (if v / 2 ^ (j - 1) % 2 = 1 then eL e9 + eR e9 / 2 else eL e9) < 8589934592 := by split <;> omega
          refine lv_aload_n hx hb d_Bits_writeValue_40 rfl (lv_at hl 1 rfl) ?_
          refine my_cvg (wr := []) (va_runU (As := []) (rest := []) ⟨hx, hb, hml, hown, hts⟩ (f_Bits_widen l dC dI cI cM cO H.size (hSl H) co xshift xkeptCode xkeptRange xkeptAsked xcode xreadLow xreadRange ri ro rw xasked (eR e9 / 2) (if v / 2 ^ (j - 1) % 2 = 1 then eL e9 + eR e9 / 2 else eL e9) (eC e9) (eP e9) rwa9 rwk9 rwf9 (eB e9) (by omega) (by omega) (hLL) (hI4) (hr9) (hg9) (by have z : eN e9 = (eB e9).length + eP e9 + 1 := rfl; omega)) (va_cwU 0 hts (my_gU k455 k456 k458 k459 k5 k460) rfl rfl rfl rfl (by decide +kernel) ⟨by rw [hR]; exact Nat.le_of_ble_eq_true rfl, by rw [hR]; exact Nat.le_of_ble_eq_true rfl⟩) (my_preVg hK hN (hP.sub [0, 1, 2] rfl) (hD.sub [0, 1, 2] (by decide +kernel) rfl) 0 rfl rfl) rfl rfl hl.1 rfl (lv_room (Nat.le_of_ble_eq_true rfl)) d_Bits_writeValue_41 ⟨by rw [hR]; exact (show d9 + (rPh rwk9) ≤ (rPh rwk) by omega), by rw [hR]; exact (show d9 + (rPh rwk9) ≤ (rPh rwk) by omega)⟩) hP hD hS hA [0, 1, 2] [] rfl rfl (by decide +kernel) (by decide +kernel) (fun u9 d_41 H locs hd_41 hw_41 hP hD hS => ?_)
          obtain ⟨rwaq_41, rwkq_41, rwfq_41⟩ := u9
          obtain ⟨hrw_41, hGrw_41⟩ : rOk (nI (eB (wdS ((eR e9 / 2), (if v / 2 ^ (j - 1) % 2 = 1 then eL e9 + eR e9 / 2 else eL e9), (eC e9), (eP e9), (eB e9)))).length) rwkq_41 ∧ gIs rwfq_41 (eB (wdS ((eR e9 / 2), (if v / 2 ^ (j - 1) % 2 = 1 then eL e9 + eR e9 / 2 else eL e9), (eC e9), (eP e9), (eB e9)))) := hw_41
          have hd_41 : d_41 + (rPh rwkq_41) ≤ (rPh rwk9) := hd_41
          have hPD : my_PD (dC, dI) vwCl A [(co, Sum.inr (3, [Value.int xshift, Value.long xkeptCode, Value.long xkeptRange, Value.int xkeptAsked, Value.int (caI (eC (wdS ((eR e9 / 2), (if v / 2 ^ (j - 1) % 2 = 1 then eL e9 + eR e9 / 2 else eL e9), (eC e9), (eP e9), (eB e9))))), Value.int (nI (eP (wdS ((eR e9 / 2), (if v / 2 ^ (j - 1) % 2 = 1 then eL e9 + eR e9 / 2 else eL e9), (eC e9), (eP e9), (eB e9))))), Value.long (lN (eL (wdS ((eR e9 / 2), (if v / 2 ^ (j - 1) % 2 = 1 then eL e9 + eR e9 / 2 else eL e9), (eC e9), (eP e9), (eB e9))))), Value.long (lN (eR (wdS ((eR e9 / 2), (if v / 2 ^ (j - 1) % 2 = 1 then eL e9 + eR e9 / 2 else eL e9), (eC e9), (eP e9), (eB e9))))), Value.long xcode, Value.long xreadLow, Value.long xreadRange, Value.ref ri, Value.ref ro, Value.ref rw, Value.int xasked])), (rw, Sum.inr (0, [Value.int (nI (eB (wdS ((eR e9 / 2), (if v / 2 ^ (j - 1) % 2 = 1 then eL e9 + eR e9 / 2 else eL e9), (eC e9), (eP e9), (eB e9)))).length), Value.ref rwaq_41])), (rwaq_41, Sum.inl (cI, rwkq_41, Sum.inl rwfq_41))] H := ⟨hP, hD⟩
          have hP := hPD.1
          have hD := hPD.2
          obtain ⟨v_9, ev_9⟩ : ∃ y : Int32, y = (nI (j - 1)) + (-1) := ⟨_, rfl⟩
          refine lv_iinc (v := v_9) (lv' := [(3, Value.int v_9), (0, Value.ref co), (1, Value.int (nI v)), (2, Value.int (nI b))]) hx hb d_Bits_writeValue_44 hl (k := 0) rfl (by rw [ev_9]; rfl) (by decide) rfl (fun ls hl => ?_)
          refine lv_goto (tgt := 4) hx hb d_Bits_writeValue_47 (by decide) ?_
          exact ih9_4 _ (by first | omega | (omega)) v_9 (j - 1) (wdS (eR e9 / 2, (if v / 2 ^ (j - 1) % 2 = 1 then eL e9 + eR e9 / 2 else eL e9), e9.2.2)) rwaq_41 rwkq_41 rwfq_41 (d9 + d_41) rfl (by rw [ev_9, show nI (j - 1) + (-1) + 1 = nI (j - 1) from by rw [Int32.add_assoc, show (-1 : Int32) + 1 = 0 from by decide, Int32.add_zero]]) (by omega) (by rw [hE9, show vbN v j e9 = vbN v (j - 1 + 1) e9 by rw [Nat.sub_add_cancel hj0]]; rfl) ((vb_inv hI9 _).1) (by have z := (vb_inv hI9 (v / 2 ^ (j - 1) % 2 = 1)).2; omega) (hrw_41) (hGrw_41) (by omega) H locs ls (hP.sub [0, 1, 2] rfl) (hD.sub [0, 1, 2] (by decide +kernel) rfl) hS (lv_sub hl [0, 1, 2, 3] rfl)
  exact J_4 _ v_1 b (Rg, L, ca, Pn, bs) rwa rwk rwf (0 : Nat) rfl (by rw [ev_1, Int32.sub_add_cancel]) (Nat.le_refl _) (rfl) (hE) (by show bs.length + Pn + 1 + b ≤ _; omega) (hrw) (hGrw) (by omega) H locs ls (hP.sub [0, 1, 2] rfl) (hD.sub [0, 1, 2] (by decide +kernel) rfl) hS (lv_sub hl [0, 1, 2, 3] rfl)
end
