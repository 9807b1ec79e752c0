set_option maxHeartbeats 2000000 in
set_option maxRecDepth 100000 in
theorem f_Row_becomeReverseOf (l : Launch) (dC : Nat → ClassId) (dI : Nat → Nat → Nat) (cI cM cO : ClassId) (sz : Nat) (sl : Nat) (rr : Nat) (rrn : Int32) (rra : Nat) (rrk : Nat) (rrf : Nat → Int32) (rs : Nat) (rsa : Nat) (rsk : Nat) (rsf : Nat → Int32) (ws : List Nat) (hrr : rOk rrn rrk) (hrs : rOk (nI ws.length) rsk) (hGrs : gIs rsf ws) (hw : ws.length ≤ 8000) : MetVg l y_Row_becomeReverseOf (Cond.code y_Row_becomeReverseOf prog_9_method_7_code 3 none :: gw) ({ frames := 3, cells := rPh rrk, slots := rPh rrk, locals := 83 } : Room) (dC, dI) vwCl (kT cI cM cO) [Value.ref rr, Value.ref rs] [(rr, Sum.inr (0, [Value.int rrn, Value.ref rra])), (rra, Sum.inl (cI, rrk, Sum.inl rrf)), (rs, Sum.inr (0, [Value.int (nI ws.length), Value.ref rsa])), (rsa, Sum.inl (cI, rsk, Sum.inl rsf))] sz sl (fun (u : Nat × Nat × (Nat → Int32)) => rOk (nI (ws.reverse).length) u.2.1 ∧ gIs u.2.2 (ws.reverse)) (fun (u : Nat × Nat × (Nat → Int32)) => [(rr, Sum.inr (0, [Value.int (nI (ws.reverse).length), Value.ref u.1])), (u.1, Sum.inl (cI, u.2.1, Sum.inl u.2.2)), (rs, Sum.inr (0, [Value.int (nI ws.length), Value.ref rsa])), (rsa, Sum.inl (cI, rsk, Sum.inl rsf))]) (rPh rrk) (fun (u : Nat × Nat × (Nat → Int32)) => rPh u.2.1) := by
  refine my_ofVg (cc := prog_9_method_7_code) (n := 3) (ret := none) (by decide) rfl (Nat.le_of_ble_eq_true rfl) ?_
  intro p e s m args below meth c R Q A ls H locs hx hb hr hts hown hlocks hml hnm hR hQ hA hl hP hK hN hD hS
  have hg : ∀ w ∈ gw, w.before args s = true := fun w h => hts w (List.mem_cons_of_mem _ h)
  have hown : s.vm.findClass "RangeCoders$Row" = some m.cls := hown
  have hl : lv_has ls 3 [(0, Value.ref rr), (1, Value.ref rs)] := hl
  have hlt9 := rOk_lt hrr
  have hlt8 := rOk_lt hrs
  refine lv_aload_n hx hb d_Row_becomeReverseOf_0 rfl (lv_at hl 0 rfl) ?_
  refine my_cv (wr := [(rs, Sum.inr (0, [Value.int (nI ws.length), Value.ref rsa])), (rsa, Sum.inl (cI, rsk, Sum.inl rsf))]) (va_runV (As := []) (rest := []) ⟨hx, hb, hml, hown, hts⟩ (c_Row_clear l dC dI cI cM cO H.size rr rrn rra rrk rrf (by first | assumption | omega)) (cwV 0 hts (my_gV k657 k594 k595 k6 k596) rfl rfl rfl (by decide +kernel) ⟨by rw [hR]; exact Nat.le_of_ble_eq_true rfl, by rw [hR]; exact Nat.le_of_ble_eq_true rfl⟩) (my_preV hK hN (hP.sub [0, 1] rfl) (hD.sub [0, 1] (by decide +kernel) rfl) 0 rfl rfl) rfl rfl hl.1 rfl (lv_room (Nat.le_of_ble_eq_true rfl)) d_Row_becomeReverseOf_1 ⟨by rw [hR]; exact (show 0 + 0 ≤ (rPh rrk) by omega), by rw [hR]; exact (show 0 + 0 ≤ (rPh rrk) by omega)⟩) hP hD hS hA [0, 1] [2, 3] rfl rfl (by decide +kernel) (by decide +kernel) (fun u9 H locs hw_1 hP hD hS => ?_)
  have hr_1 : rOk 0 rrk := hw_1
  have hP : va_P (dC, dI) vwCl [(rs, Sum.inr (0, [Value.int (nI ws.length), Value.ref rsa])), (rsa, Sum.inl (cI, rsk, Sum.inl rsf)), (rr, Sum.inr (0, [Value.int 0, Value.ref rra])), (rra, Sum.inl (cI, rrk, Sum.inl rrf))] H := hP
  have hD : va_D A [(rs, Sum.inr (0, [Value.int (nI ws.length), Value.ref rsa])), (rsa, Sum.inl (cI, rsk, Sum.inl rsf)), (rr, Sum.inr (0, [Value.int 0, Value.ref rra])), (rra, Sum.inl (cI, rrk, Sum.inl rrf))] := hD
  refine lv_aload_n hx hb d_Row_becomeReverseOf_4 rfl (lv_at hl 1 rfl) ?_
  refine va_get (D := (dC, dI)) (ci := 0) (v := .int (nI ws.length)) (C := "RangeCoders$Row") (T := T_Row) (N := 2) hx hb hg in_Row hown hK hP 0 rfl rfl 0 (by decide) (hg _ k57) (fun _ h9 => h9) rfl d_Row_becomeReverseOf_5 ?_
  refine lv_iconst (v := 1) hx hb d_Row_becomeReverseOf_8 (by decide) ?_
  refine lv_isub hx hb d_Row_becomeReverseOf_9 ?_
  refine lv_topi (fun v_1 ev_1 => ?_)
  refine lv_istore_n (lv' := [(2, Value.int v_1), (0, Value.ref rr), (1, Value.ref rs)]) hx hb d_Row_becomeReverseOf_10 rfl hl (by decide) rfl (fun ls hl => ?_)
  have J_11 : ∀ (n9_11 : Nat) (i9 : Int32) (j : Nat) (b9 : List Nat) (rra9 : Nat) (rrk9 : Nat) (rrf9 : Nat → Int32) (d9 : Nat) (hn9_11 : j = n9_11) (hi : i9 + 1 = nI j) (hj : j ≤ ws.length) (hb9 : b9 = (ws.drop j).reverse) (hr9 : rOk (nI b9.length) rrk9) (hg9 : gIs rrf9 b9) (hd9 : d9 + rPh rrk9 ≤ rPh rrk) (H : Heap) (locs : List Loc) (ls : Array Slot), va_P (dC, dI) vwCl [(rs, Sum.inr (0, [Value.int (nI ws.length), Value.ref rsa])), (rsa, Sum.inl (cI, rsk, Sum.inl rsf)), (rr, Sum.inr (0, [Value.int (nI b9.length), Value.ref rra9])), (rra9, Sum.inl (cI, rrk9, Sum.inl rrf9))] H → va_D A [(rs, Sum.inr (0, [Value.int (nI ws.length), Value.ref rsa])), (rsa, Sum.inl (cI, rsk, Sum.inl rsf)), (rr, Sum.inr (0, [Value.int (nI b9.length), Value.ref rra9])), (rra9, Sum.inl (cI, rrk9, Sum.inl rrf9))] → va_S A s.heap H locs → lv_has ls 3 [(2, Value.int i9), (0, Value.ref rr), (1, Value.ref rs)] → W p l e R s m args below meth c H locs d9 d9 Q (F0 m 11 ls []) := by
    intro n9_11
    induction n9_11 using Nat.strongRecOn with
    | ind n9_11 ih9_11 =>
      intro i9 j b9 rra9 rrk9 rrf9 d9 hn9_11 hi hj hb9 hr9 hg9 hd9 H locs ls hP hD hS hl
      have hbl : b9.length = ws.length - j := by rw [hb9, List.length_reverse, List.length_drop]
      refine lv_iload_n hx hb d_Row_becomeReverseOf_11 rfl (lv_at hl 0 rfl) ?_
      refine lv_if_lt (tgt := 30) hx hb d_Row_becomeReverseOf_12 (by decide) (fun c_2 => ?_) (fun c_2 => ?_)
      · have hj0 : j = 0 := by
          rcases Nat.eq_zero_or_pos j with z | z
          · exact z
          · exact absurd (show i9 < 0 from c_2) (by rw [show i9 = nI (j - 1) from by rw [← Int32.add_sub_cancel (a := i9) (b := 1), hi]; exact pk_sub (b := 1) z]; exact nI_pos (by omega))
        have z9 : b9 = ws.reverse := by rw [hb9, hj0]; rfl
        subst z9
        exact my_vretg hx hb hr hlocks hQ hK hS (rra9, rrk9, rrf9) (show d9 + (rPh rrk9) ≤ (rPh rrk) by omega) (show d9 + (rPh rrk9) ≤ (rPh rrk) by omega) (⟨hr9, hg9⟩) (hP.sub [2, 3, 0, 1] rfl) (hD.sub [2, 3, 0, 1] (by decide +kernel) rfl) d_Row_becomeReverseOf_30
      · have hj0 : 1 ≤ j := by
          rcases Nat.eq_zero_or_pos j with z | z
          · subst z; exact absurd (show i9 < 0 by rw [show i9 = -1 from by rw [← Int32.add_sub_cancel (a := i9) (b := 1), hi]; rfl]; decide) c_2
          · exact z
        have hi9 : i9 = nI (j - 1) := by rw [← Int32.add_sub_cancel (a := i9) (b := 1), hi]; exact pk_sub (b := 1) hj0
        subst hi9
        refine lv_aload_n hx hb d_Row_becomeReverseOf_15 rfl (lv_at hl 1 rfl) ?_
        refine lv_aload_n hx hb d_Row_becomeReverseOf_16 rfl (lv_at hl 2 rfl) ?_
        refine lv_iload_n hx hb d_Row_becomeReverseOf_17 rfl (lv_at hl 0 rfl) ?_
        refine my_ci (wr := [(rr, Sum.inr (0, [Value.int (nI b9.length), Value.ref rra9])), (rra9, Sum.inl (cI, rrk9, Sum.inl rrf9))]) (va_runV (As := [Value.int (nI (j - 1))]) (rest := [Value.ref rr]) ⟨hx, hb, hml, hown, hts⟩ (f_Row_at l dC dI cI cM cO H.size rs rsa rsk rsf ws (nI (j - 1)) (hrs) (hGrs) (by omega)) (cwV 1 hts (my_gV k658 k659 k660 k6 k661) rfl rfl rfl (by decide +kernel) ⟨by rw [hR]; exact Nat.le_of_ble_eq_true rfl, by rw [hR]; exact Nat.le_of_ble_eq_true rfl⟩) (my_preV hK hN (hP.sub [0, 1] rfl) (hD.sub [0, 1] (by decide +kernel) rfl) 0 rfl rfl) rfl rfl hl.1 rfl (lv_room (Nat.le_of_ble_eq_true rfl)) d_Row_becomeReverseOf_18 ⟨by rw [hR]; exact (show d9 + 0 ≤ (rPh rrk) by omega), by rw [hR]; exact (show d9 + 0 ≤ (rPh rrk) by omega)⟩) hP hD hS hA [0, 1] [2, 3] rfl rfl (by decide +kernel) (by decide +kernel) (fun r_18 u9 H locs hw_18 hP hD hS => ?_)
        have hr_18 : r_18 = rAt ws (nI (j - 1)) := hw_18
        have hP : va_P (dC, dI) vwCl [(rr, Sum.inr (0, [Value.int (nI b9.length), Value.ref rra9])), (rra9, Sum.inl (cI, rrk9, Sum.inl rrf9)), (rs, Sum.inr (0, [Value.int (nI ws.length), Value.ref rsa])), (rsa, Sum.inl (cI, rsk, Sum.inl rsf))] H := hP
        have hD : va_D A [(rr, Sum.inr (0, [Value.int (nI b9.length), Value.ref rra9])), (rra9, Sum.inl (cI, rrk9, Sum.inl rrf9)), (rs, Sum.inr (0, [Value.int (nI ws.length), Value.ref rsa])), (rsa, Sum.inl (cI, rsk, Sum.inl rsf))] := hD
        have z9 : r_18 = nI (ws.getD (j - 1) 0) := by rw [hr_18]; exact rAt_nI (by omega) (by omega)
        subst z9
        refine my_cvg (wr := [(rs, Sum.inr (0, [Value.int (nI ws.length), Value.ref rsa])), (rsa, Sum.inl (cI, rsk, Sum.inl rsf))]) (va_runV (As := [Value.int (nI (ws.getD (j - 1) 0))]) (rest := []) ⟨hx, hb, hml, hown, hts⟩ (f_Row_add l dC dI cI cM cO H.size (hSl H) rr rra9 rrk9 rrf9 b9 (ws.getD (j - 1) 0) (hr9) (hg9) (by omega)) (cwV 1 hts (my_gV k666 k473 k474 k6 k475) rfl rfl rfl (by decide +kernel) ⟨by rw [hR]; exact Nat.le_of_ble_eq_true rfl, by rw [hR]; exact Nat.le_of_ble_eq_true rfl⟩) (my_preVg hK hN (hP.sub [0, 1] rfl) (hD.sub [0, 1] (by decide +kernel) rfl) 0 rfl rfl) rfl rfl hl.1 rfl (lv_room (Nat.le_of_ble_eq_true rfl)) d_Row_becomeReverseOf_21 ⟨by rw [hR]; exact (show d9 + (rPh rrk9) ≤ (rPh rrk) by omega), by rw [hR]; exact (show d9 + (rPh rrk9) ≤ (rPh rrk) by omega)⟩) hP hD hS hA [0, 1] [2, 3] rfl rfl (by decide +kernel) (by decide +kernel) (fun u9 d_21 H locs hd_21 hw_21 hP hD hS => ?_)
        obtain ⟨rraq_21, rrkq_21, rrfq_21⟩ := u9
        obtain ⟨hrr_21, hGrr_21⟩ : rOk (nI (b9 ++ [(ws.getD (j - 1) 0)]).length) rrkq_21 ∧ gIs rrfq_21 (b9 ++ [(ws.getD (j - 1) 0)]) := hw_21
        have hd_21 : d_21 + (rPh rrkq_21) ≤ (rPh rrk9) := hd_21
        have hP : va_P (dC, dI) vwCl [(rs, Sum.inr (0, [Value.int (nI ws.length), Value.ref rsa])), (rsa, Sum.inl (cI, rsk, Sum.inl rsf)), (rr, Sum.inr (0, [Value.int (nI (b9 ++ [(ws.getD (j - 1) 0)]).length), Value.ref rraq_21])), (rraq_21, Sum.inl (cI, rrkq_21, Sum.inl rrfq_21))] H := hP
        have hD : va_D A [(rs, Sum.inr (0, [Value.int (nI ws.length), Value.ref rsa])), (rsa, Sum.inl (cI, rsk, Sum.inl rsf)), (rr, Sum.inr (0, [Value.int (nI (b9 ++ [(ws.getD (j - 1) 0)]).length), Value.ref rraq_21])), (rraq_21, Sum.inl (cI, rrkq_21, Sum.inl rrfq_21))] := hD
        obtain ⟨v_3, ev_3⟩ : ∃ y : Int32, y = (nI (j - 1)) + (-1) := ⟨_, rfl⟩
        refine lv_iinc (v := v_3) (lv' := [(2, Value.int v_3), (0, Value.ref rr), (1, Value.ref rs)]) hx hb d_Row_becomeReverseOf_24 hl (k := 0) rfl (by rw [ev_3]; rfl) (by decide) rfl (fun ls hl => ?_)
        refine lv_goto (tgt := 11) hx hb d_Row_becomeReverseOf_27 (by decide) ?_
        exact ih9_11 _ (by first | omega | (omega)) v_3 (j - 1) (b9 ++ [ws.getD (j - 1) 0]) rraq_21 rrkq_21 rrfq_21 (d9 + d_21) rfl (by rw [ev_3, show nI (j - 1) + (-1) + 1 = nI (j - 1) from by rw [Int32.add_assoc, show (-1 : Int32) + 1 = 0 from by decide, Int32.add_zero]]) (by omega) (by rw [hb9]; exact rv_drop hj0 hj) (hrr_21) (hGrr_21) (by omega) H locs ls (hP.sub [0, 1, 2, 3] rfl) (hD.sub [0, 1, 2, 3] (by decide +kernel) rfl) hS (lv_sub hl [0, 1, 2] rfl)
  exact J_11 _ v_1 ws.length ([]) rra rrk rrf (0 : Nat) rfl (by rw [ev_1, Int32.sub_add_cancel]) (Nat.le_refl _) (by rw [List.drop_length]; rfl) (rOk_0 hrr) (fun i h => absurd h (Nat.not_lt_zero i)) (by omega) H locs ls (hP.sub [0, 1, 2, 3] rfl) (hD.sub [0, 1, 2, 3] (by decide +kernel) rfl) hS (lv_sub hl [0, 1, 2] rfl)

