section
set_option maxHeartbeats 2000000 in
set_option maxRecDepth 100000 in
theorem c_Arrays_fill (l : Launch) (dC : Nat → ClassId) (dI : Nat → Nat → Nat) (cI cM cO : ClassId) (sz : Nat) (aa : Nat) (al : Nat) (af : Nat → Int32) (vv : Int32) (hal : al ≤ 16384) : MetV l y_Arrays_fill (Cond.code y_Arrays_fill prog_18_method_103_code 4 none :: gw) ({ frames := 0, cells := 0, slots := 0, locals := 0 } : Room) (dC, dI) vwCl (kT cI cM cO) [Value.ref aa, Value.int vv] [(aa, Sum.inl (cI, al, Sum.inl af))] sz (fun (u : (Nat → Int32)) => True) (fun (u : (Nat → Int32)) => [(aa, Sum.inl (cI, al, Sum.inl u))]) 0 0 := by
  refine my_ofV (cc := prog_18_method_103_code) (n := 4) (ret := none) (by decide) rfl (Nat.le_of_ble_eq_true rfl) ?_
  intro p e s m args below meth c R Q A ls H locs hx hb hr hts hown hlocks hml hnm hR hQ hA hl hP hK hN hD hS
  have hg : ∀ w ∈ gw, w.before args s = true := fun w h => hts w (List.mem_cons_of_mem _ h)
  have hown : s.vm.findClass "java/util/Arrays" = some m.cls := hown
  have hl : lv_has ls 4 [(0, Value.ref aa), (1, Value.int vv)] := hl
  refine lv_iconst (v := 0) hx hb d_Arrays_fill_0 (by decide) ?_
  refine lv_istore_n (lv' := [(2, Value.int 0), (0, Value.ref aa), (1, Value.int vv)]) hx hb d_Arrays_fill_1 rfl hl (by decide) rfl (fun ls hl => ?_)
  refine lv_aload_n hx hb d_Arrays_fill_2 rfl (lv_at hl 1 rfl) ?_
  refine va_alen hx hb hK hP 0 0 rfl rfl (v := nI al) rfl d_Arrays_fill_3 ?_
  refine lv_istore_n (lv' := [(3, Value.int (nI al)), (2, Value.int 0), (0, Value.ref aa), (1, Value.int vv)]) hx hb d_Arrays_fill_4 rfl hl (by decide) rfl (fun ls hl => ?_)
  have J_5 : ∀ (n9_5 : Nat) (b5_0 : Int32) (b5_1 : Nat → Int32) (hn9_5 : ((nI al).toInt - b5_0.toInt).toNat = n9_5) (hi_5 : 0 ≤ b5_0.toInt) (H : Heap) (locs : List Loc) (ls : Array Slot), va_P (dC, dI) vwCl [(aa, Sum.inl (cI, al, Sum.inl b5_1))] H → va_D A [(aa, Sum.inl (cI, al, Sum.inl b5_1))] → va_S A s.heap H locs → lv_has ls 4 [(3, Value.int (nI al)), (2, Value.int b5_0), (0, Value.ref aa), (1, Value.int vv)] → W p l e R s m args below meth c H locs 0 0 Q (F0 m 5 ls []) := by
    intro n9_5
    induction n9_5 using Nat.strongRecOn with
    | ind n9_5 ih9_5 =>
      intro b5_0 b5_1 hn9_5 hi_5 H locs ls hP hD hS hl
      refine lv_iload_n hx hb d_Arrays_fill_5 rfl (lv_at hl 1 rfl) ?_
      refine lv_iload_n hx hb d_Arrays_fill_6 rfl (lv_at hl 0 rfl) ?_
      refine lv_icmp_ge (tgt := 20) hx hb d_Arrays_fill_7 (by decide) (fun c_1 => ?_) (fun c_1 => ?_)
      · exact my_vret hx hb hr hlocks hQ hK hS (Nat.le_refl _) (Nat.le_refl _) (b5_1) (trivial) (hP.sub [0] rfl) (hD.sub [0] (by decide +kernel) rfl) d_Arrays_fill_20
      · refine lv_aload_n hx hb d_Arrays_fill_10 rfl (lv_at hl 2 rfl) ?_
        refine lv_iload_n hx hb d_Arrays_fill_11 rfl (lv_at hl 1 rfl) ?_
        refine lv_iload_n hx hb d_Arrays_fill_12 rfl (lv_at hl 3 rfl) ?_
        refine va_iast hx hb hK hP hD hS 0 0 rfl rfl (by first | assumption | exact I_in (by omega) (by assumption) (by assumption) | exact I_in' (by omega) (by assumption) (by assumption)) d_Arrays_fill_13 (fun H locs hP hD hS => ?_)
        have hPD : my_PD (dC, dI) vwCl A [(aa, Sum.inl (cI, al, Sum.inl (upd b5_1 b5_0.toNatClampNeg vv)))] H := ⟨hP, hD⟩
        have hP := hPD.1
        have hD := hPD.2
        obtain ⟨v_2, ev_2⟩ : ∃ y : Int32, y = b5_0 + (1) := ⟨_, rfl⟩
        refine lv_iinc (v := v_2) (lv' := [(2, Value.int v_2), (3, Value.int (nI al)), (0, Value.ref aa), (1, Value.int vv)]) hx hb d_Arrays_fill_14 hl (k := 1) rfl (by rw [ev_2]; rfl) (by decide) rfl (fun ls hl => ?_)
        refine lv_goto (tgt := 5) hx hb d_Arrays_fill_17 (by decide) ?_
        exact ih9_5 _ (by first | omega | (have z9 := I_up c_1 ev_2; omega)) v_2 (upd b5_1 b5_0.toNatClampNeg vv) rfl (by have z9 := I_up c_1 ev_2; omega) H locs ls (hP.sub [0] rfl) (hD.sub [0] (by decide +kernel) rfl) hS (lv_sub hl [1, 0, 2, 3] rfl)
  exact J_5 _ (0 : Int32) af rfl (by first | decide | assumption | omega) H locs ls (hP.sub [0] rfl) (hD.sub [0] (by decide +kernel) rfl) hS (lv_sub hl [0, 1, 2, 3] rfl)
set_option maxHeartbeats 2000000 in
set_option maxRecDepth 100000 in
theorem c_Row_has (l : Launch) (dC : Nat → ClassId) (dI : Nat → Nat → Nat) (cI cM cO : ClassId) (sz : Nat) (rr : Nat) (rrn : Int32) (rra : Nat) (rrk : Nat) (rrf : Nat → Int32) (ii : Int32) (hrr : rOk rrn rrk) : MetI l y_Row_has (Cond.code y_Row_has prog_9_method_2_code 2 (some .boolean) :: gw) ({ frames := 0, cells := 0, slots := 0, locals := 0 } : Room) (dC, dI) vwCl (kT cI cM cO) [Value.ref rr, Value.int ii] [(rr, Sum.inr (0, [Value.int rrn, Value.ref rra])), (rra, Sum.inl (cI, rrk, Sum.inl rrf))] sz (fun (r : Int32) (u : Unit) => r ≠ 0 → vp_in ii rrk) (fun (u : Unit) => [(rr, Sum.inr (0, [Value.int rrn, Value.ref rra])), (rra, Sum.inl (cI, rrk, Sum.inl rrf))]) 0 0 := by
  refine my_ofI (cc := prog_9_method_2_code) (n := 2) (ret := (some .boolean)) (by decide) rfl (Nat.le_of_ble_eq_true rfl) ?_
  intro p e s m args below meth c R Q A ls H locs hx hb hr hts hown hlocks hml hnm hR hQ hA hl hP hK hN hD hS
  have hg : ∀ w ∈ gw, w.before args s = true := fun w h => hts w (List.mem_cons_of_mem _ h)
  have hown : s.vm.findClass "RangeCoders$Row" = some m.cls := hown
  have hl : lv_has ls 2 [(0, Value.ref rr), (1, Value.int ii)] := hl
  have hlt9 := rOk_lt hrr
  refine lv_iload_n hx hb d_Row_has_0 rfl (lv_at hl 1 rfl) ?_
  refine lv_if_lt (tgt := 25) hx hb d_Row_has_1 (by decide) (fun c_1 => ?_) (fun c_1 => ?_)
  · refine lv_iconst (v := 0) hx hb d_Row_has_25 (by decide) ?_
    exact my_iret (v := 0) hx hb hr (rfl) hlocks hQ hK hS (Nat.le_refl _) (Nat.le_refl _) () (fun h9 => absurd rfl h9) (hP.sub [0, 1] rfl) (hD.sub [0, 1] (by decide +kernel) rfl) d_Row_has_26
  · refine lv_iload_n hx hb d_Row_has_4 rfl (lv_at hl 1 rfl) ?_
    refine lv_aload_n hx hb d_Row_has_5 rfl (lv_at hl 0 rfl) ?_
    refine va_get (D := (dC, dI)) (ci := 0) (v := .int rrn) (C := "RangeCoders$Row") (T := T_Row) (N := 2) hx hb hg in_Row hown hK hP 0 rfl rfl 0 (by decide) (hg _ k57) (fun _ h9 => h9) rfl d_Row_has_6 ?_
    refine lv_icmp_ge (tgt := 25) hx hb d_Row_has_9 (by decide) (fun c_2 => ?_) (fun c_2 => ?_)
    · refine lv_iconst (v := 0) hx hb d_Row_has_25 (by decide) ?_
      exact my_iret (v := 0) hx hb hr (rfl) hlocks hQ hK hS (Nat.le_refl _) (Nat.le_refl _) () (fun h9 => absurd rfl h9) (hP.sub [0, 1] rfl) (hD.sub [0, 1] (by decide +kernel) rfl) d_Row_has_26
    · refine lv_iload_n hx hb d_Row_has_12 rfl (lv_at hl 1 rfl) ?_
      refine lv_aload_n hx hb d_Row_has_13 rfl (lv_at hl 0 rfl) ?_
      refine va_get (D := (dC, dI)) (ci := 0) (v := .ref rra) (C := "RangeCoders$Row") (T := T_Row) (N := 2) hx hb hg in_Row hown hK hP 0 rfl rfl 1 (by decide) (hg _ k60) (fun _ h9 => h9) rfl d_Row_has_14 ?_
      refine va_alen hx hb hK hP 1 0 rfl rfl (v := nI rrk) rfl d_Row_has_17 ?_
      refine lv_icmp_ge (tgt := 25) hx hb d_Row_has_18 (by decide) (fun c_3 => ?_) (fun c_3 => ?_)
      · refine lv_iconst (v := 0) hx hb d_Row_has_25 (by decide) ?_
        exact my_iret (v := 0) hx hb hr (rfl) hlocks hQ hK hS (Nat.le_refl _) (Nat.le_refl _) () (fun h9 => absurd rfl h9) (hP.sub [0, 1] rfl) (hD.sub [0, 1] (by decide +kernel) rfl) d_Row_has_26
      · refine lv_iconst (v := 1) hx hb d_Row_has_21 (by decide) ?_
        refine lv_goto (tgt := 26) hx hb d_Row_has_22 (by decide) ?_
        exact my_iret (v := 1) hx hb hr (rfl) hlocks hQ hK hS (Nat.le_refl _) (Nat.le_refl _) () (fun _ => I_in' (by omega) (by assumption) (by assumption)) (hP.sub [0, 1] rfl) (hD.sub [0, 1] (by decide +kernel) rfl) d_Row_has_26
set_option maxHeartbeats 2000000 in
set_option maxRecDepth 100000 in
theorem c_Row_at (l : Launch) (dC : Nat → ClassId) (dI : Nat → Nat → Nat) (cI cM cO : ClassId) (sz : Nat) (rr : Nat) (rrn : Int32) (rra : Nat) (rrk : Nat) (rrf : Nat → Int32) (ii : Int32) (hrr : rOk rrn rrk) : MetI l y_Row_at (Cond.code y_Row_at prog_9_method_3_code 2 (some .int) :: gw) ({ frames := 1, cells := 0, slots := 0, locals := 21 } : Room) (dC, dI) vwCl (kT cI cM cO) [Value.ref rr, Value.int ii] [(rr, Sum.inr (0, [Value.int rrn, Value.ref rra])), (rra, Sum.inl (cI, rrk, Sum.inl rrf))] sz (fun (r : Int32) (u : Unit) => True) (fun (u : Unit) => [(rr, Sum.inr (0, [Value.int rrn, Value.ref rra])), (rra, Sum.inl (cI, rrk, Sum.inl rrf))]) 0 0 := by
  refine my_ofI (cc := prog_9_method_3_code) (n := 2) (ret := (some .int)) (by decide) rfl (Nat.le_of_ble_eq_true rfl) ?_
  intro p e s m args below meth c R Q A ls H locs hx hb hr hts hown hlocks hml hnm hR hQ hA hl hP hK hN hD hS
  have hg : ∀ w ∈ gw, w.before args s = true := fun w h => hts w (List.mem_cons_of_mem _ h)
  have hown : s.vm.findClass "RangeCoders$Row" = some m.cls := hown
  have hl : lv_has ls 2 [(0, Value.ref rr), (1, Value.int ii)] := hl
  have hlt9 := rOk_lt hrr
  refine lv_aload_n hx hb d_Row_at_0 rfl (lv_at hl 0 rfl) ?_
  refine lv_iload_n hx hb d_Row_at_1 rfl (lv_at hl 1 rfl) ?_
  refine my_ci (wr := []) (va_runV (As := [Value.int ii]) (rest := []) ⟨hx, hb, hml, hown, hts⟩ (c_Row_has l dC dI cI cM cO H.size rr rrn rra rrk rrf ii (by first | assumption | omega)) (cwV 1 hts (my_gV k662 k663 k664 k6 k665) rfl rfl rfl (by decide +kernel) ⟨by rw [hR]; exact Nat.le_of_ble_eq_true rfl, by rw [hR]; exact Nat.le_of_ble_eq_true rfl⟩) (my_preV hK hN (hP.sub [0, 1] rfl) (hD.sub [0, 1] (by decide +kernel) rfl) 0 rfl rfl) rfl rfl hl.1 rfl (lv_room (Nat.le_of_ble_eq_true rfl)) d_Row_at_2 ⟨by rw [hR]; exact Nat.le_of_ble_eq_true rfl, by rw [hR]; exact Nat.le_of_ble_eq_true rfl⟩) hP hD hS hA [0, 1] [] rfl rfl (by decide +kernel) (by decide +kernel) (fun r_2 u9 H locs hw_2 hP hD hS => ?_)
  have hr_2 : r_2 ≠ 0 → vp_in ii rrk := hw_2
  have hPD : my_PD (dC, dI) vwCl A [(rr, Sum.inr (0, [Value.int rrn, Value.ref rra])), (rra, Sum.inl (cI, rrk, Sum.inl rrf))] H := ⟨hP, hD⟩
  have hP := hPD.1
  have hD := hPD.2
  refine lv_if_eq (tgt := 17) hx hb d_Row_at_5 (by decide) (fun c_1 => ?_) (fun c_1 => ?_)
  · refine lv_iconst (v := (-1)) hx hb d_Row_at_17 (by decide) ?_
    exact my_iret (v := (-1)) hx hb hr (rfl) hlocks hQ hK hS (Nat.le_refl _) (Nat.le_refl _) () (trivial) (hP.sub [0, 1] rfl) (hD.sub [0, 1] (by decide +kernel) rfl) d_Row_at_18
  · refine lv_aload_n hx hb d_Row_at_8 rfl (lv_at hl 0 rfl) ?_
    refine va_get (D := (dC, dI)) (ci := 0) (v := .ref rra) (C := "RangeCoders$Row") (T := T_Row) (N := 2) hx hb hg in_Row hown hK hP 0 rfl rfl 1 (by decide) (hg _ k60) (fun _ h9 => h9) rfl d_Row_at_9 ?_
    refine lv_iload_n hx hb d_Row_at_12 rfl (lv_at hl 1 rfl) ?_
    refine va_iald hx hb hK hP 1 0 rfl rfl (hr_2 c_1) d_Row_at_13 ?_
    refine lv_topi (fun v_2 ev_2 => ?_)
    refine lv_goto (tgt := 18) hx hb d_Row_at_14 (by decide) ?_
    exact my_iret (v := v_2) hx hb hr (rfl) hlocks hQ hK hS (Nat.le_refl _) (Nat.le_refl _) () (trivial) (hP.sub [0, 1] rfl) (hD.sub [0, 1] (by decide +kernel) rfl) d_Row_at_18
set_option maxHeartbeats 2000000 in
set_option maxRecDepth 100000 in
theorem c_Row_clear (l : Launch) (dC : Nat → ClassId) (dI : Nat → Nat → Nat) (cI cM cO : ClassId) (sz : Nat) (rr : Nat) (rrn : Int32) (rra : Nat) (rrk : Nat) (rrf : Nat → Int32) (hrr : rOk rrn rrk) : MetV l y_Row_clear (Cond.code y_Row_clear prog_9_method_6_code 1 none :: gw) ({ frames := 0, cells := 0, slots := 0, locals := 0 } : Room) (dC, dI) vwCl (kT cI cM cO) [Value.ref rr] [(rr, Sum.inr (0, [Value.int rrn, Value.ref rra])), (rra, Sum.inl (cI, rrk, Sum.inl rrf))] sz (fun (u : Unit) => rOk 0 rrk) (fun (u : Unit) => [(rr, Sum.inr (0, [Value.int 0, Value.ref rra])), (rra, Sum.inl (cI, rrk, Sum.inl rrf))]) 0 0 := by
  refine my_ofV (cc := prog_9_method_6_code) (n := 1) (ret := none) (by decide) rfl (Nat.le_of_ble_eq_true rfl) ?_
  intro p e s m args below meth c R Q A ls H locs hx hb hr hts hown hlocks hml hnm hR hQ hA hl hP hK hN hD hS
  have hg : ∀ w ∈ gw, w.before args s = true := fun w h => hts w (List.mem_cons_of_mem _ h)
  have hown : s.vm.findClass "RangeCoders$Row" = some m.cls := hown
  have hl : lv_has ls 1 [(0, Value.ref rr)] := hl
  refine lv_aload_n hx hb d_Row_clear_0 rfl (lv_at hl 0 rfl) ?_
  refine lv_iconst (v := 0) hx hb d_Row_clear_1 (by decide) ?_
  refine va_put (D := (dC, dI)) (ci := 0) (v := .int 0) (ty := .int) (C := "RangeCoders$Row") (T := T_Row) (N := 2) hx hb hg in_Row t_Row o_Row n_Row hown hK hP hD hS 0 rfl rfl 0 (by decide) (hg _ k57) (fun _ h9 => h9) rfl (by decide +kernel) rfl rfl (Nat.le_of_ble_eq_true rfl) d_Row_clear_2 (fun H locs hP hD hS => ?_)
  have hPD : my_PD (dC, dI) vwCl A [(rr, Sum.inr (0, [Value.int 0, Value.ref rra])), (rra, Sum.inl (cI, rrk, Sum.inl rrf))] H := ⟨hP, hD⟩
  have hP := hPD.1
  have hD := hPD.2
  exact my_vret hx hb hr hlocks hQ hK hS (Nat.le_refl _) (Nat.le_refl _) () (rOk_0 hrr) (hP.sub [0, 1] rfl) (hD.sub [0, 1] (by decide +kernel) rfl) d_Row_clear_5
set_option maxHeartbeats 2000000 in
set_option maxRecDepth 100000 in
theorem c_Row_init (l : Launch) (dC : Nat → ClassId) (dI : Nat → Nat → Nat) (cI cM cO : ClassId) (sz : Nat) (sl : Nat) (rr : Nat) : MetVg l y_Row_init (Cond.code y_Row_init prog_9_method_1_code 1 none :: gw) ({ frames := 1, cells := 64, slots := 64, locals := 12 } : Room) (dC, dI) vwCl (kT cI cM cO) [Value.ref rr] [(rr, Sum.inr (0, [Value.int 0, Value.null]))] sz sl (fun (u : Nat) => True) (fun (u : Nat) => [(rr, Sum.inr (0, [Value.int 0, Value.ref u])), (u, Sum.inl (cI, 64, Sum.inl (fun _ => 0)))]) 64 (fun (u : Nat) => 0) := by
  refine my_ofVg (cc := prog_9_method_1_code) (n := 1) (ret := none) (by decide) rfl (Nat.le_of_ble_eq_true rfl) ?_
  intro p e s m args below meth c R Q A ls H locs hx hb hr hts hown hlocks hml hnm hR hQ hA hl hP hK hN hD hS
  have hg : ∀ w ∈ gw, w.before args s = true := fun w h => hts w (List.mem_cons_of_mem _ h)
  have hown : s.vm.findClass "RangeCoders$Row" = some m.cls := hown
  have hl : lv_has ls 1 [(0, Value.ref rr)] := hl
  refine lv_aload_n hx hb d_Row_init_0 rfl (lv_at hl 0 rfl) ?_
  refine W.objInit hx hb hown (hg _ k56) (hg _ k23) (hg _ k24) rfl (by rw [hml]; exact hl.1) rfl d_Row_init_1 (by rw [hR]; exact Nat.le_of_ble_eq_true rfl) (by rw [hR]; exact Nat.le_of_ble_eq_true rfl) ?_
  refine W.eq (g2 := F0 m 4 ls []) rfl ?_
  refine lv_aload_n hx hb d_Row_init_4 rfl (lv_at hl 0 rfl) ?_
  refine lv_bipush (v := 64) hx hb d_Row_init_5 (by decide) ?_
  refine my_newi hx hb (hg _ k66) hK 0 rfl hP hD hS hA (N' := 64) (by decide) (rfl) (by omega) (by rw [hR]; exact (by decide : 0 + 1 ≤ 64)) (by rw [hR]; exact Nat.le_refl _) d_Row_init_7 (fun q_1 H hP hD hS => ?_)
  have hPD : my_PD (dC, dI) vwCl A [(rr, Sum.inr (0, [Value.int 0, Value.null])), (q_1, Sum.inl (cI, 64, Sum.inl (fun _ => 0)))] H := ⟨hP, hD⟩
  have hP := hPD.1
  have hD := hPD.2
  refine va_put (D := (dC, dI)) (ci := 0) (v := .ref q_1) (ty := (.array .int)) (C := "RangeCoders$Row") (T := T_Row) (N := 2) hx hb hg in_Row t_Row o_Row n_Row hown hK hP hD hS 0 rfl rfl 1 (by decide) (hg _ k60) (fun _ h9 => h9) rfl (by decide +kernel) rfl rfl (Nat.le_of_ble_eq_true rfl) d_Row_init_9 (fun H locs hP hD hS => ?_)
  have hPD : my_PD (dC, dI) vwCl A [(rr, Sum.inr (0, [Value.int 0, Value.ref q_1])), (q_1, Sum.inl (cI, 64, Sum.inl (fun _ => 0)))] H := ⟨hP, hD⟩
  have hP := hPD.1
  have hD := hPD.2
  exact my_vretg hx hb hr hlocks hQ hK hS (q_1) (show (0 + 1) + 0 ≤ 64 by omega) (show (0 + 64) + 0 ≤ 64 by omega) (trivial) (hP.sub [0, 1] rfl) (hD.sub [0, 1] (by decide +kernel) rfl) d_Row_init_12
end
section
set_option maxHeartbeats 2000000 in
set_option maxRecDepth 100000 in
theorem c_Odds_hasCell (l : Launch) (dC : Nat → ClassId) (dI : Nat → Nat → Nat) (cI cM cO : ClassId) (sz : Nat) (oo : Nat) (osg : Int32) (osm : Int32) (ofc : Int32) (oca : Nat) (opa : Nat) (ol : Nat) (ocf : Nat → Int32) (opl : Nat) (opf : Nat → Int32) (ii : Int32) (hol : ol ≤ 64) (hopl : opl ≤ 512) : MetI l y_Odds_hasCell (Cond.code y_Odds_hasCell prog_7_method_2_code 2 (some .boolean) :: gw) ({ frames := 0, cells := 0, slots := 0, locals := 0 } : Room) (dC, dI) vwCl (kT cI cM cO) [Value.ref oo, Value.int ii] [(oo, Sum.inr (7, [Value.int osg, Value.int osm, Value.int ofc, Value.ref oca, Value.ref opa])), (oca, Sum.inl (cI, ol, Sum.inl ocf)), (opa, Sum.inl (cI, opl, Sum.inl opf))] sz (fun (r : Int32) (u : Unit) => r ≠ 0 → vp_in ii ol) (fun (u : Unit) => [(oo, Sum.inr (7, [Value.int osg, Value.int osm, Value.int ofc, Value.ref oca, Value.ref opa])), (oca, Sum.inl (cI, ol, Sum.inl ocf)), (opa, Sum.inl (cI, opl, Sum.inl opf))]) 0 0 := by
  refine my_ofI (cc := prog_7_method_2_code) (n := 2) (ret := (some .boolean)) (by decide) rfl (Nat.le_of_ble_eq_true rfl) ?_
  intro p e s m args below meth c R Q A ls H locs hx hb hr hts hown hlocks hml hnm hR hQ hA hl hP hK hN hD hS
  have hg : ∀ w ∈ gw, w.before args s = true := fun w h => hts w (List.mem_cons_of_mem _ h)
  have hown : s.vm.findClass "RangeCoders$Odds" = some m.cls := hown
  have hl : lv_has ls 2 [(0, Value.ref oo), (1, Value.int ii)] := hl
  refine lv_iload_n hx hb d_Odds_hasCell_0 rfl (lv_at hl 1 rfl) ?_
  refine lv_aload_n hx hb d_Odds_hasCell_1 rfl (lv_at hl 0 rfl) ?_
  refine va_get (D := (dC, dI)) (ci := 7) (v := .int ofc) (C := "RangeCoders$Odds") (T := T_Odds) (N := 5) hx hb hg in_Odds hown hK hP 0 rfl rfl 2 (by decide) (hg _ k308) (fun _ h9 => h9) rfl d_Odds_hasCell_2 ?_
  refine lv_icmp_lt (tgt := 25) hx hb d_Odds_hasCell_5 (by decide) (fun c_1 => ?_) (fun c_1 => ?_)
  · refine lv_iconst (v := 0) hx hb d_Odds_hasCell_25 (by decide) ?_
    exact my_iret (v := 0) hx hb hr (rfl) hlocks hQ hK hS (Nat.le_refl _) (Nat.le_refl _) () (fun h9 => absurd rfl h9) (hP.sub [0, 1, 2] rfl) (hD.sub [0, 1, 2] (by decide +kernel) rfl) d_Odds_hasCell_26
  · refine lv_iload_n hx hb d_Odds_hasCell_8 rfl (lv_at hl 1 rfl) ?_
    refine lv_if_lt (tgt := 25) hx hb d_Odds_hasCell_9 (by decide) (fun c_2 => ?_) (fun c_2 => ?_)
    · refine lv_iconst (v := 0) hx hb d_Odds_hasCell_25 (by decide) ?_
      exact my_iret (v := 0) hx hb hr (rfl) hlocks hQ hK hS (Nat.le_refl _) (Nat.le_refl _) () (fun h9 => absurd rfl h9) (hP.sub [0, 1, 2] rfl) (hD.sub [0, 1, 2] (by decide +kernel) rfl) d_Odds_hasCell_26
    · refine lv_iload_n hx hb d_Odds_hasCell_12 rfl (lv_at hl 1 rfl) ?_
      refine lv_aload_n hx hb d_Odds_hasCell_13 rfl (lv_at hl 0 rfl) ?_
      refine va_get (D := (dC, dI)) (ci := 7) (v := .ref oca) (C := "RangeCoders$Odds") (T := T_Odds) (N := 5) hx hb hg in_Odds hown hK hP 0 rfl rfl 3 (by decide) (hg _ k309) (fun _ h9 => h9) rfl d_Odds_hasCell_14 ?_
      refine va_alen hx hb hK hP 1 0 rfl rfl (v := nI ol) rfl d_Odds_hasCell_17 ?_
      refine lv_icmp_ge (tgt := 25) hx hb d_Odds_hasCell_18 (by decide) (fun c_3 => ?_) (fun c_3 => ?_)
      · refine lv_iconst (v := 0) hx hb d_Odds_hasCell_25 (by decide) ?_
        exact my_iret (v := 0) hx hb hr (rfl) hlocks hQ hK hS (Nat.le_refl _) (Nat.le_refl _) () (fun h9 => absurd rfl h9) (hP.sub [0, 1, 2] rfl) (hD.sub [0, 1, 2] (by decide +kernel) rfl) d_Odds_hasCell_26
      · refine lv_iconst (v := 1) hx hb d_Odds_hasCell_21 (by decide) ?_
        refine lv_goto (tgt := 26) hx hb d_Odds_hasCell_22 (by decide) ?_
        exact my_iret (v := 1) hx hb hr (rfl) hlocks hQ hK hS (Nat.le_refl _) (Nat.le_refl _) () (fun _ => I_in' (by omega) (by assumption) (by assumption)) (hP.sub [0, 1, 2] rfl) (hD.sub [0, 1, 2] (by decide +kernel) rfl) d_Odds_hasCell_26
set_option maxHeartbeats 2000000 in
set_option maxRecDepth 100000 in
theorem c_Odds_at (l : Launch) (dC : Nat → ClassId) (dI : Nat → Nat → Nat) (cI cM cO : ClassId) (sz : Nat) (oo : Nat) (osg : Int32) (osm : Int32) (ofc : Int32) (oca : Nat) (opa : Nat) (ol : Nat) (ocf : Nat → Int32) (opl : Nat) (opf : Nat → Int32) (ii : Int32) (hol : ol ≤ 64) (hopl : opl ≤ 512) : MetI l y_Odds_at (Cond.code y_Odds_at prog_7_method_3_code 2 (some .int) :: gw) ({ frames := 1, cells := 0, slots := 0, locals := 21 } : Room) (dC, dI) vwCl (kT cI cM cO) [Value.ref oo, Value.int ii] [(oo, Sum.inr (7, [Value.int osg, Value.int osm, Value.int ofc, Value.ref oca, Value.ref opa])), (oca, Sum.inl (cI, ol, Sum.inl ocf)), (opa, Sum.inl (cI, opl, Sum.inl opf))] sz (fun (r : Int32) (u : Unit) => True) (fun (u : Unit) => [(oo, Sum.inr (7, [Value.int osg, Value.int osm, Value.int ofc, Value.ref oca, Value.ref opa])), (oca, Sum.inl (cI, ol, Sum.inl ocf)), (opa, Sum.inl (cI, opl, Sum.inl opf))]) 0 0 := by
  refine my_ofI (cc := prog_7_method_3_code) (n := 2) (ret := (some .int)) (by decide) rfl (Nat.le_of_ble_eq_true rfl) ?_
  intro p e s m args below meth c R Q A ls H locs hx hb hr hts hown hlocks hml hnm hR hQ hA hl hP hK hN hD hS
  have hg : ∀ w ∈ gw, w.before args s = true := fun w h => hts w (List.mem_cons_of_mem _ h)
  have hown : s.vm.findClass "RangeCoders$Odds" = some m.cls := hown
  have hl : lv_has ls 2 [(0, Value.ref oo), (1, Value.int ii)] := hl
  refine lv_aload_n hx hb d_Odds_at_0 rfl (lv_at hl 0 rfl) ?_
  refine lv_iload_n hx hb d_Odds_at_1 rfl (lv_at hl 1 rfl) ?_
  refine my_ci (wr := []) (va_runV (As := [Value.int ii]) (rest := []) ⟨hx, hb, hml, hown, hts⟩ (c_Odds_hasCell l dC dI cI cM cO H.size oo osg osm ofc oca opa ol ocf opl opf ii (by first | assumption | omega) (by first | assumption | omega)) (cwV 1 hts (my_gV k396 k397 k398 k14 k399) rfl rfl rfl (by decide +kernel) ⟨by rw [hR]; exact Nat.le_of_ble_eq_true rfl, by rw [hR]; exact Nat.le_of_ble_eq_true rfl⟩) (my_preV hK hN (hP.sub [0, 1, 2] rfl) (hD.sub [0, 1, 2] (by decide +kernel) rfl) 0 rfl rfl) rfl rfl hl.1 rfl (lv_room (Nat.le_of_ble_eq_true rfl)) d_Odds_at_2 ⟨by rw [hR]; exact Nat.le_of_ble_eq_true rfl, by rw [hR]; exact Nat.le_of_ble_eq_true rfl⟩) hP hD hS hA [0, 1, 2] [] rfl rfl (by decide +kernel) (by decide +kernel) (fun r_2 u9 H locs hw_2 hP hD hS => ?_)
  have hr_2 : r_2 ≠ 0 → vp_in ii ol := hw_2
  have hPD : my_PD (dC, dI) vwCl A [(oo, Sum.inr (7, [Value.int osg, Value.int osm, Value.int ofc, Value.ref oca, Value.ref opa])), (oca, Sum.inl (cI, ol, Sum.inl ocf)), (opa, Sum.inl (cI, opl, Sum.inl opf))] H := ⟨hP, hD⟩
  have hP := hPD.1
  have hD := hPD.2
  refine lv_if_eq (tgt := 17) hx hb d_Odds_at_5 (by decide) (fun c_1 => ?_) (fun c_1 => ?_)
  · refine lv_iconst (v := 0) hx hb d_Odds_at_17 (by decide) ?_
    exact my_iret (v := 0) hx hb hr (rfl) hlocks hQ hK hS (Nat.le_refl _) (Nat.le_refl _) () (trivial) (hP.sub [0, 1, 2] rfl) (hD.sub [0, 1, 2] (by decide +kernel) rfl) d_Odds_at_18
  · refine lv_aload_n hx hb d_Odds_at_8 rfl (lv_at hl 0 rfl) ?_
    refine va_get (D := (dC, dI)) (ci := 7) (v := .ref oca) (C := "RangeCoders$Odds") (T := T_Odds) (N := 5) hx hb hg in_Odds hown hK hP 0 rfl rfl 3 (by decide) (hg _ k309) (fun _ h9 => h9) rfl d_Odds_at_9 ?_
    refine lv_iload_n hx hb d_Odds_at_12 rfl (lv_at hl 1 rfl) ?_
    refine va_iald hx hb hK hP 1 0 rfl rfl (hr_2 c_1) d_Odds_at_13 ?_
    refine lv_topi (fun v_2 ev_2 => ?_)
    refine lv_goto (tgt := 18) hx hb d_Odds_at_14 (by decide) ?_
    exact my_iret (v := v_2) hx hb hr (rfl) hlocks hQ hK hS (Nat.le_refl _) (Nat.le_refl _) () (trivial) (hP.sub [0, 1, 2] rfl) (hD.sub [0, 1, 2] (by decide +kernel) rfl) d_Odds_at_18
set_option maxHeartbeats 2000000 in
set_option maxRecDepth 100000 in
theorem c_Odds_grow (l : Launch) (dC : Nat → ClassId) (dI : Nat → Nat → Nat) (cI cM cO : ClassId) (sz : Nat) (oo : Nat) (osg : Int32) (osm : Int32) (ofc : Int32) (oca : Nat) (opa : Nat) (ol : Nat) (ocf : Nat → Int32) (opl : Nat) (opf : Nat → Int32) (ii : Int32) (vv : Int32) (hol : ol ≤ 64) (hopl : opl ≤ 512) : MetV l y_Odds_grow (Cond.code y_Odds_grow prog_7_method_4_code 3 none :: gw) ({ frames := 1, cells := 0, slots := 0, locals := 21 } : Room) (dC, dI) vwCl (kT cI cM cO) [Value.ref oo, Value.int ii, Value.int vv] [(oo, Sum.inr (7, [Value.int osg, Value.int osm, Value.int ofc, Value.ref oca, Value.ref opa])), (oca, Sum.inl (cI, ol, Sum.inl ocf)), (opa, Sum.inl (cI, opl, Sum.inl opf))] sz (fun (u : Int32 × (Nat → Int32)) => True) (fun (u : Int32 × (Nat → Int32)) => [(oo, Sum.inr (7, [Value.int osg, Value.int u.1, Value.int ofc, Value.ref oca, Value.ref opa])), (oca, Sum.inl (cI, ol, Sum.inl u.2)), (opa, Sum.inl (cI, opl, Sum.inl opf))]) 0 0 := by
  refine my_ofV (cc := prog_7_method_4_code) (n := 3) (ret := none) (by decide) rfl (Nat.le_of_ble_eq_true rfl) ?_
  intro p e s m args below meth c R Q A ls H locs hx hb hr hts hown hlocks hml hnm hR hQ hA hl hP hK hN hD hS
  have hg : ∀ w ∈ gw, w.before args s = true := fun w h => hts w (List.mem_cons_of_mem _ h)
  have hown : s.vm.findClass "RangeCoders$Odds" = some m.cls := hown
  have hl : lv_has ls 3 [(0, Value.ref oo), (1, Value.int ii), (2, Value.int vv)] := hl
  refine lv_aload_n hx hb d_Odds_grow_0 rfl (lv_at hl 0 rfl) ?_
  refine lv_iload_n hx hb d_Odds_grow_1 rfl (lv_at hl 1 rfl) ?_
  refine my_ci (wr := []) (va_runV (As := [Value.int ii]) (rest := []) ⟨hx, hb, hml, hown, hts⟩ (c_Odds_hasCell l dC dI cI cM cO H.size oo osg osm ofc oca opa ol ocf opl opf ii (by first | assumption | omega) (by first | assumption | omega)) (cwV 1 hts (my_gV k396 k397 k398 k14 k399) rfl rfl rfl (by decide +kernel) ⟨by rw [hR]; exact Nat.le_of_ble_eq_true rfl, by rw [hR]; exact Nat.le_of_ble_eq_true rfl⟩) (my_preV hK hN (hP.sub [0, 1, 2] rfl) (hD.sub [0, 1, 2] (by decide +kernel) rfl) 0 rfl rfl) rfl rfl hl.1 rfl (lv_room (Nat.le_of_ble_eq_true rfl)) d_Odds_grow_2 ⟨by rw [hR]; exact Nat.le_of_ble_eq_true rfl, by rw [hR]; exact Nat.le_of_ble_eq_true rfl⟩) hP hD hS hA [0, 1, 2] [] rfl rfl (by decide +kernel) (by decide +kernel) (fun r_2 u9 H locs hw_2 hP hD hS => ?_)
  have hr_2 : r_2 ≠ 0 → vp_in ii ol := hw_2
  have hPD : my_PD (dC, dI) vwCl A [(oo, Sum.inr (7, [Value.int osg, Value.int osm, Value.int ofc, Value.ref oca, Value.ref opa])), (oca, Sum.inl (cI, ol, Sum.inl ocf)), (opa, Sum.inl (cI, opl, Sum.inl opf))] H := ⟨hP, hD⟩
  have hP := hPD.1
  have hD := hPD.2
  refine lv_if_eq (tgt := 28) hx hb d_Odds_grow_5 (by decide) (fun c_1 => ?_) (fun c_1 => ?_)
  · exact my_vret hx hb hr hlocks hQ hK hS (Nat.le_refl _) (Nat.le_refl _) (osm, ocf) (trivial) (hP.sub [0, 1, 2] rfl) (hD.sub [0, 1, 2] (by decide +kernel) rfl) d_Odds_grow_28
  · refine lv_aload_n hx hb d_Odds_grow_8 rfl (lv_at hl 0 rfl) ?_
    refine va_get (D := (dC, dI)) (ci := 7) (v := .ref oca) (C := "RangeCoders$Odds") (T := T_Odds) (N := 5) hx hb hg in_Odds hown hK hP 0 rfl rfl 3 (by decide) (hg _ k309) (fun _ h9 => h9) rfl d_Odds_grow_9 ?_
    refine lv_iload_n hx hb d_Odds_grow_12 rfl (lv_at hl 1 rfl) ?_
    refine lv_dup2_11 hx hb d_Odds_grow_13 rfl rfl ?_
    refine va_iald hx hb hK hP 1 0 rfl rfl (hr_2 c_1) d_Odds_grow_14 ?_
    refine lv_topi (fun v_2 ev_2 => ?_)
    refine lv_iload_n hx hb d_Odds_grow_15 rfl (lv_at hl 2 rfl) ?_
    refine lv_iadd hx hb d_Odds_grow_16 ?_
    refine lv_topi (fun v_3 ev_3 => ?_)
    refine va_iast hx hb hK hP hD hS 1 0 rfl rfl (hr_2 c_1) d_Odds_grow_17 (fun H locs hP hD hS => ?_)
    have hPD : my_PD (dC, dI) vwCl A [(oo, Sum.inr (7, [Value.int osg, Value.int osm, Value.int ofc, Value.ref oca, Value.ref opa])), (oca, Sum.inl (cI, ol, Sum.inl (upd ocf ii.toNatClampNeg v_3))), (opa, Sum.inl (cI, opl, Sum.inl opf))] H := ⟨hP, hD⟩
    have hP := hPD.1
    have hD := hPD.2
    refine lv_aload_n hx hb d_Odds_grow_18 rfl (lv_at hl 0 rfl) ?_
    refine lv_dup hx hb d_Odds_grow_19 rfl ?_
    refine va_get (D := (dC, dI)) (ci := 7) (v := .int osm) (C := "RangeCoders$Odds") (T := T_Odds) (N := 5) hx hb hg in_Odds hown hK hP 0 rfl rfl 1 (by decide) (hg _ k305) (fun _ h9 => h9) rfl d_Odds_grow_20 ?_
    refine lv_iload_n hx hb d_Odds_grow_23 rfl (lv_at hl 2 rfl) ?_
    refine lv_iadd hx hb d_Odds_grow_24 ?_
    refine lv_topi (fun v_4 ev_4 => ?_)
    refine va_put (D := (dC, dI)) (ci := 7) (v := .int v_4) (ty := .int) (C := "RangeCoders$Odds") (T := T_Odds) (N := 5) hx hb hg in_Odds t_Odds o_Odds n_Odds hown hK hP hD hS 0 rfl rfl 1 (by decide) (hg _ k305) (fun _ h9 => h9) rfl (by decide +kernel) rfl rfl (Nat.le_of_ble_eq_true rfl) d_Odds_grow_25 (fun H locs hP hD hS => ?_)
    have hPD : my_PD (dC, dI) vwCl A [(oo, Sum.inr (7, [Value.int osg, Value.int v_4, Value.int ofc, Value.ref oca, Value.ref opa])), (oca, Sum.inl (cI, ol, Sum.inl (upd ocf ii.toNatClampNeg v_3))), (opa, Sum.inl (cI, opl, Sum.inl opf))] H := ⟨hP, hD⟩
    have hP := hPD.1
    have hD := hPD.2
    exact my_vret hx hb hr hlocks hQ hK hS (Nat.le_refl _) (Nat.le_refl _) (v_4, upd ocf ii.toNatClampNeg v_3) (trivial) (hP.sub [0, 1, 2] rfl) (hD.sub [0, 1, 2] (by decide +kernel) rfl) d_Odds_grow_28
set_option maxHeartbeats 2000000 in
set_option maxRecDepth 100000 in
theorem c_Odds_fill (l : Launch) (dC : Nat → ClassId) (dI : Nat → Nat → Nat) (cI cM cO : ClassId) (sz : Nat) (oo : Nat) (osg : Int32) (osm : Int32) (ofc : Int32) (oca : Nat) (opa : Nat) (ol : Nat) (ocf : Nat → Int32) (opl : Nat) (opf : Nat → Int32) (vv : Int32) (hol : ol ≤ 64) (hopl : opl ≤ 512) : MetV l y_Odds_fill (Cond.code y_Odds_fill prog_7_method_5_code 2 none :: gw) ({ frames := 1, cells := 0, slots := 0, locals := 23 } : Room) (dC, dI) vwCl (kT cI cM cO) [Value.ref oo, Value.int vv] [(oo, Sum.inr (7, [Value.int osg, Value.int osm, Value.int ofc, Value.ref oca, Value.ref opa])), (oca, Sum.inl (cI, ol, Sum.inl ocf)), (opa, Sum.inl (cI, opl, Sum.inl opf))] sz (fun (u : Int32 × (Nat → Int32)) => True) (fun (u : Int32 × (Nat → Int32)) => [(oo, Sum.inr (7, [Value.int osg, Value.int u.1, Value.int ofc, Value.ref oca, Value.ref opa])), (oca, Sum.inl (cI, ol, Sum.inl u.2)), (opa, Sum.inl (cI, opl, Sum.inl opf))]) 0 0 := by
  refine my_ofV (cc := prog_7_method_5_code) (n := 2) (ret := none) (by decide) rfl (Nat.le_of_ble_eq_true rfl) ?_
  intro p e s m args below meth c R Q A ls H locs hx hb hr hts hown hlocks hml hnm hR hQ hA hl hP hK hN hD hS
  have hg : ∀ w ∈ gw, w.before args s = true := fun w h => hts w (List.mem_cons_of_mem _ h)
  have hown : s.vm.findClass "RangeCoders$Odds" = some m.cls := hown
  have hl : lv_has ls 2 [(0, Value.ref oo), (1, Value.int vv)] := hl
  refine lv_aload_n hx hb d_Odds_fill_0 rfl (lv_at hl 0 rfl) ?_
  refine va_get (D := (dC, dI)) (ci := 7) (v := .ref oca) (C := "RangeCoders$Odds") (T := T_Odds) (N := 5) hx hb hg in_Odds hown hK hP 0 rfl rfl 3 (by decide) (hg _ k309) (fun _ h9 => h9) rfl d_Odds_fill_1 ?_
  refine lv_iload_n hx hb d_Odds_fill_4 rfl (lv_at hl 1 rfl) ?_
  refine my_cv (wr := [(oo, Sum.inr (7, [Value.int osg, Value.int osm, Value.int ofc, Value.ref oca, Value.ref opa])), (opa, Sum.inl (cI, opl, Sum.inl opf))]) (va_runS (As := [Value.ref oca, Value.int vv]) (rest := []) ⟨hx, hb, hml, hown, hts⟩ (c_Arrays_fill l dC dI cI cM cO H.size oca ol ocf vv (by first | assumption | omega)) (my_cwS2 2 hts (my_gC k339) rfl rfl rfl (hg _ k15) (hg _ k363) (hg _ k338) (by decide +kernel) ⟨by rw [hR]; exact Nat.le_of_ble_eq_true rfl, by rw [hR]; exact Nat.le_of_ble_eq_true rfl⟩) (my_pre hK hN (hP.sub [1] rfl) (hD.sub [1] (by decide +kernel) rfl)) rfl rfl hl.1 rfl (lv_room (Nat.le_of_ble_eq_true rfl)) d_Odds_fill_5 ⟨by rw [hR]; exact Nat.le_of_ble_eq_true rfl, by rw [hR]; exact Nat.le_of_ble_eq_true rfl⟩) hP hD hS hA [1] [0, 2] rfl rfl (by decide +kernel) (by decide +kernel) (fun u9 H locs hw_5 hP hD hS => ?_)
  obtain ⟨afq_5, rfl⟩ : ∃ z, z = u9 := ⟨_, rfl⟩
  have hPD : my_PD (dC, dI) vwCl A [(oo, Sum.inr (7, [Value.int osg, Value.int osm, Value.int ofc, Value.ref oca, Value.ref opa])), (opa, Sum.inl (cI, opl, Sum.inl opf)), (oca, Sum.inl (cI, ol, Sum.inl afq_5))] H := ⟨hP, hD⟩
  have hP := hPD.1
  have hD := hPD.2
  refine lv_aload_n hx hb d_Odds_fill_8 rfl (lv_at hl 0 rfl) ?_
  refine lv_iload_n hx hb d_Odds_fill_9 rfl (lv_at hl 1 rfl) ?_
  refine lv_aload_n hx hb d_Odds_fill_10 rfl (lv_at hl 0 rfl) ?_
  refine va_get (D := (dC, dI)) (ci := 7) (v := .ref oca) (C := "RangeCoders$Odds") (T := T_Odds) (N := 5) hx hb hg in_Odds hown hK hP 0 rfl rfl 3 (by decide) (hg _ k309) (fun _ h9 => h9) rfl d_Odds_fill_11 ?_
  refine va_alen hx hb hK hP 2 0 rfl rfl (v := nI ol) rfl d_Odds_fill_14 ?_
  refine lv_imul hx hb d_Odds_fill_15 ?_
  refine lv_topi (fun v_1 ev_1 => ?_)
  refine va_put (D := (dC, dI)) (ci := 7) (v := .int v_1) (ty := .int) (C := "RangeCoders$Odds") (T := T_Odds) (N := 5) hx hb hg in_Odds t_Odds o_Odds n_Odds hown hK hP hD hS 0 rfl rfl 1 (by decide) (hg _ k305) (fun _ h9 => h9) rfl (by decide +kernel) rfl rfl (Nat.le_of_ble_eq_true rfl) d_Odds_fill_16 (fun H locs hP hD hS => ?_)
  have hPD : my_PD (dC, dI) vwCl A [(oo, Sum.inr (7, [Value.int osg, Value.int v_1, Value.int ofc, Value.ref oca, Value.ref opa])), (opa, Sum.inl (cI, opl, Sum.inl opf)), (oca, Sum.inl (cI, ol, Sum.inl afq_5))] H := ⟨hP, hD⟩
  have hP := hPD.1
  have hD := hPD.2
  exact my_vret hx hb hr hlocks hQ hK hS (Nat.le_refl _) (Nat.le_refl _) (v_1, afq_5) (trivial) (hP.sub [0, 2, 1] rfl) (hD.sub [0, 2, 1] (by decide +kernel) rfl) d_Odds_fill_19
set_option maxHeartbeats 2000000 in
set_option maxRecDepth 100000 in
theorem c_Odds_copyCounts (l : Launch) (dC : Nat → ClassId) (dI : Nat → Nat → Nat) (cI cM cO : ClassId) (sz : Nat) (oo : Nat) (osg : Int32) (osm : Int32) (ofc : Int32) (oca : Nat) (opa : Nat) (ol : Nat) (ocf : Nat → Int32) (opl : Nat) (opf : Nat → Int32) (ka : Nat) (kl : Nat) (kf : Nat → Int32) (hol : ol ≤ 64) (hopl : opl ≤ 512) (hkl : kl ≤ 64) : MetV l y_Odds_copyCounts (Cond.code y_Odds_copyCounts prog_7_method_15_code 3 none :: gw) ({ frames := 0, cells := 0, slots := 0, locals := 0 } : Room) (dC, dI) vwCl (kT cI cM cO) [Value.ref oo, Value.ref ka] [(oo, Sum.inr (7, [Value.int osg, Value.int osm, Value.int ofc, Value.ref oca, Value.ref opa])), (oca, Sum.inl (cI, ol, Sum.inl ocf)), (opa, Sum.inl (cI, opl, Sum.inl opf)), (ka, Sum.inl (cI, kl, Sum.inl kf))] sz (fun (u : Int32 × (Nat → Int32)) => True) (fun (u : Int32 × (Nat → Int32)) => [(oo, Sum.inr (7, [Value.int osg, Value.int u.1, Value.int ofc, Value.ref oca, Value.ref opa])), (oca, Sum.inl (cI, ol, Sum.inl u.2)), (opa, Sum.inl (cI, opl, Sum.inl opf)), (ka, Sum.inl (cI, kl, Sum.inl kf))]) 0 0 := by
  refine my_ofV (cc := prog_7_method_15_code) (n := 3) (ret := none) (by decide) rfl (Nat.le_of_ble_eq_true rfl) ?_
  intro p e s m args below meth c R Q A ls H locs hx hb hr hts hown hlocks hml hnm hR hQ hA hl hP hK hN hD hS
  have hg : ∀ w ∈ gw, w.before args s = true := fun w h => hts w (List.mem_cons_of_mem _ h)
  have hown : s.vm.findClass "RangeCoders$Odds" = some m.cls := hown
  have hl : lv_has ls 3 [(0, Value.ref oo), (1, Value.ref ka)] := hl
  refine lv_aload_n hx hb d_Odds_copyCounts_0 rfl (lv_at hl 0 rfl) ?_
  refine lv_iconst (v := 0) hx hb d_Odds_copyCounts_1 (by decide) ?_
  refine va_put (D := (dC, dI)) (ci := 7) (v := .int 0) (ty := .int) (C := "RangeCoders$Odds") (T := T_Odds) (N := 5) hx hb hg in_Odds t_Odds o_Odds n_Odds hown hK hP hD hS 0 rfl rfl 1 (by decide) (hg _ k305) (fun _ h9 => h9) rfl (by decide +kernel) rfl rfl (Nat.le_of_ble_eq_true rfl) d_Odds_copyCounts_2 (fun H locs hP hD hS => ?_)
  have hPD : my_PD (dC, dI) vwCl A [(oo, Sum.inr (7, [Value.int osg, Value.int 0, Value.int ofc, Value.ref oca, Value.ref opa])), (oca, Sum.inl (cI, ol, Sum.inl ocf)), (opa, Sum.inl (cI, opl, Sum.inl opf)), (ka, Sum.inl (cI, kl, Sum.inl kf))] H := ⟨hP, hD⟩
  have hP := hPD.1
  have hD := hPD.2
  refine lv_iconst (v := 0) hx hb d_Odds_copyCounts_5 (by decide) ?_
  refine lv_istore_n (lv' := [(2, Value.int 0), (0, Value.ref oo), (1, Value.ref ka)]) hx hb d_Odds_copyCounts_6 rfl hl (by decide) rfl (fun ls hl => ?_)
  have J_7 : ∀ (n9_7 : Nat) (b7_0 : Int32) (b7_1 : Int32) (b7_2 : Nat → Int32) (hn9_7 : ((nI ol).toInt - b7_0.toInt).toNat = n9_7) (hi_7 : 0 ≤ b7_0.toInt) (H : Heap) (locs : List Loc) (ls : Array Slot), va_P (dC, dI) vwCl [(oo, Sum.inr (7, [Value.int osg, Value.int b7_1, Value.int ofc, Value.ref oca, Value.ref opa])), (oca, Sum.inl (cI, ol, Sum.inl b7_2)), (opa, Sum.inl (cI, opl, Sum.inl opf)), (ka, Sum.inl (cI, kl, Sum.inl kf))] H → va_D A [(oo, Sum.inr (7, [Value.int osg, Value.int b7_1, Value.int ofc, Value.ref oca, Value.ref opa])), (oca, Sum.inl (cI, ol, Sum.inl b7_2)), (opa, Sum.inl (cI, opl, Sum.inl opf)), (ka, Sum.inl (cI, kl, Sum.inl kf))] → va_S A s.heap H locs → lv_has ls 3 [(2, Value.int b7_0), (0, Value.ref oo), (1, Value.ref ka)] → W p l e R s m args below meth c H locs 0 0 Q (F0 m 7 ls []) := by
    intro n9_7
    induction n9_7 using Nat.strongRecOn with
    | ind n9_7 ih9_7 =>
      intro b7_0 b7_1 b7_2 hn9_7 hi_7 H locs ls hP hD hS hl
      refine lv_iload_n hx hb d_Odds_copyCounts_7 rfl (lv_at hl 0 rfl) ?_
      refine lv_aload_n hx hb d_Odds_copyCounts_8 rfl (lv_at hl 1 rfl) ?_
      refine va_get (D := (dC, dI)) (ci := 7) (v := .ref oca) (C := "RangeCoders$Odds") (T := T_Odds) (N := 5) hx hb hg in_Odds hown hK hP 0 rfl rfl 3 (by decide) (hg _ k309) (fun _ h9 => h9) rfl d_Odds_copyCounts_9 ?_
      refine va_alen hx hb hK hP 1 0 rfl rfl (v := nI ol) rfl d_Odds_copyCounts_12 ?_
      refine lv_icmp_ge (tgt := 49) hx hb d_Odds_copyCounts_13 (by decide) (fun c_1 => ?_) (fun c_1 => ?_)
      · exact my_vret hx hb hr hlocks hQ hK hS (Nat.le_refl _) (Nat.le_refl _) (b7_1, b7_2) (trivial) (hP.sub [0, 1, 2, 3] rfl) (hD.sub [0, 1, 2, 3] (by decide +kernel) rfl) d_Odds_copyCounts_49
      · refine lv_iload_n hx hb d_Odds_copyCounts_16 rfl (lv_at hl 0 rfl) ?_
        refine lv_aload_n hx hb d_Odds_copyCounts_17 rfl (lv_at hl 2 rfl) ?_
        refine va_alen hx hb hK hP 3 0 rfl rfl (v := nI kl) rfl d_Odds_copyCounts_18 ?_
        refine lv_icmp_ge (tgt := 49) hx hb d_Odds_copyCounts_19 (by decide) (fun c_2 => ?_) (fun c_2 => ?_)
        · exact my_vret hx hb hr hlocks hQ hK hS (Nat.le_refl _) (Nat.le_refl _) (b7_1, b7_2) (trivial) (hP.sub [0, 1, 2, 3] rfl) (hD.sub [0, 1, 2, 3] (by decide +kernel) rfl) d_Odds_copyCounts_49
        · refine lv_aload_n hx hb d_Odds_copyCounts_22 rfl (lv_at hl 1 rfl) ?_
          refine va_get (D := (dC, dI)) (ci := 7) (v := .ref oca) (C := "RangeCoders$Odds") (T := T_Odds) (N := 5) hx hb hg in_Odds hown hK hP 0 rfl rfl 3 (by decide) (hg _ k309) (fun _ h9 => h9) rfl d_Odds_copyCounts_23 ?_
          refine lv_iload_n hx hb d_Odds_copyCounts_26 rfl (lv_at hl 0 rfl) ?_
          refine lv_aload_n hx hb d_Odds_copyCounts_27 rfl (lv_at hl 2 rfl) ?_
          refine lv_iload_n hx hb d_Odds_copyCounts_28 rfl (lv_at hl 0 rfl) ?_
          refine va_iald hx hb hK hP 3 0 rfl rfl (by first | assumption | exact I_in (by omega) (by assumption) (by assumption) | exact I_in' (by omega) (by assumption) (by assumption)) d_Odds_copyCounts_29 ?_
          refine lv_topi (fun v_3 ev_3 => ?_)
          refine va_iast hx hb hK hP hD hS 1 0 rfl rfl (by first | assumption | exact I_in (by omega) (by assumption) (by assumption) | exact I_in' (by omega) (by assumption) (by assumption)) d_Odds_copyCounts_30 (fun H locs hP hD hS => ?_)
          have hPD : my_PD (dC, dI) vwCl A [(oo, Sum.inr (7, [Value.int osg, Value.int b7_1, Value.int ofc, Value.ref oca, Value.ref opa])), (oca, Sum.inl (cI, ol, Sum.inl (upd b7_2 b7_0.toNatClampNeg v_3))), (opa, Sum.inl (cI, opl, Sum.inl opf)), (ka, Sum.inl (cI, kl, Sum.inl kf))] H := ⟨hP, hD⟩
          have hP := hPD.1
          have hD := hPD.2
          refine lv_aload_n hx hb d_Odds_copyCounts_31 rfl (lv_at hl 1 rfl) ?_
          refine lv_dup hx hb d_Odds_copyCounts_32 rfl ?_
          refine va_get (D := (dC, dI)) (ci := 7) (v := .int b7_1) (C := "RangeCoders$Odds") (T := T_Odds) (N := 5) hx hb hg in_Odds hown hK hP 0 rfl rfl 1 (by decide) (hg _ k305) (fun _ h9 => h9) rfl d_Odds_copyCounts_33 ?_
          refine lv_aload_n hx hb d_Odds_copyCounts_36 rfl (lv_at hl 2 rfl) ?_
          refine lv_iload_n hx hb d_Odds_copyCounts_37 rfl (lv_at hl 0 rfl) ?_
          refine va_iald hx hb hK hP 3 0 rfl rfl (by first | assumption | exact I_in (by omega) (by assumption) (by assumption) | exact I_in' (by omega) (by assumption) (by assumption)) d_Odds_copyCounts_38 ?_
          refine lv_topi (fun v_4 ev_4 => ?_)
          refine lv_iadd hx hb d_Odds_copyCounts_39 ?_
          refine lv_topi (fun v_5 ev_5 => ?_)
          refine va_put (D := (dC, dI)) (ci := 7) (v := .int v_5) (ty := .int) (C := "RangeCoders$Odds") (T := T_Odds) (N := 5) hx hb hg in_Odds t_Odds o_Odds n_Odds hown hK hP hD hS 0 rfl rfl 1 (by decide) (hg _ k305) (fun _ h9 => h9) rfl (by decide +kernel) rfl rfl (Nat.le_of_ble_eq_true rfl) d_Odds_copyCounts_40 (fun H locs hP hD hS => ?_)
          have hPD : my_PD (dC, dI) vwCl A [(oo, Sum.inr (7, [Value.int osg, Value.int v_5, Value.int ofc, Value.ref oca, Value.ref opa])), (oca, Sum.inl (cI, ol, Sum.inl (upd b7_2 b7_0.toNatClampNeg v_3))), (opa, Sum.inl (cI, opl, Sum.inl opf)), (ka, Sum.inl (cI, kl, Sum.inl kf))] H := ⟨hP, hD⟩
          have hP := hPD.1
          have hD := hPD.2
          obtain ⟨v_6, ev_6⟩ : ∃ y : Int32, y = b7_0 + (1) := ⟨_, rfl⟩
          refine lv_iinc (v := v_6) (lv' := [(2, Value.int v_6), (0, Value.ref oo), (1, Value.ref ka)]) hx hb d_Odds_copyCounts_43 hl (k := 0) rfl (by rw [ev_6]; rfl) (by decide) rfl (fun ls hl => ?_)
          refine lv_goto (tgt := 7) hx hb d_Odds_copyCounts_46 (by decide) ?_
          exact ih9_7 _ (by first | omega | (have z9 := I_up c_1 ev_6; omega)) v_6 v_5 (upd b7_2 b7_0.toNatClampNeg v_3) rfl (by have z9 := I_up c_1 ev_6; omega) H locs ls (hP.sub [0, 1, 2, 3] rfl) (hD.sub [0, 1, 2, 3] (by decide +kernel) rfl) hS (lv_sub hl [0, 1, 2] rfl)
  exact J_7 _ (0 : Int32) (0 : Int32) ocf rfl (by first | decide | assumption | omega) H locs ls (hP.sub [0, 1, 2, 3] rfl) (hD.sub [0, 1, 2, 3] (by decide +kernel) rfl) hS (lv_sub hl [0, 1, 2] rfl)
set_option maxHeartbeats 2000000 in
set_option maxRecDepth 100000 in
theorem c_Odds_halve (l : Launch) (dC : Nat → ClassId) (dI : Nat → Nat → Nat) (cI cM cO : ClassId) (sz : Nat) (oo : Nat) (osg : Int32) (osm : Int32) (ofc : Int32) (oca : Nat) (opa : Nat) (ol : Nat) (ocf : Nat → Int32) (opl : Nat) (opf : Nat → Int32) (hol : ol ≤ 64) (hopl : opl ≤ 512) : MetV l y_Odds_halve (Cond.code y_Odds_halve prog_7_method_16_code 2 none :: gw) ({ frames := 0, cells := 0, slots := 0, locals := 0 } : Room) (dC, dI) vwCl (kT cI cM cO) [Value.ref oo] [(oo, Sum.inr (7, [Value.int osg, Value.int osm, Value.int ofc, Value.ref oca, Value.ref opa])), (oca, Sum.inl (cI, ol, Sum.inl ocf)), (opa, Sum.inl (cI, opl, Sum.inl opf))] sz (fun (u : Int32 × (Nat → Int32)) => True) (fun (u : Int32 × (Nat → Int32)) => [(oo, Sum.inr (7, [Value.int osg, Value.int u.1, Value.int ofc, Value.ref oca, Value.ref opa])), (oca, Sum.inl (cI, ol, Sum.inl u.2)), (opa, Sum.inl (cI, opl, Sum.inl opf))]) 0 0 := by
  refine my_ofV (cc := prog_7_method_16_code) (n := 2) (ret := none) (by decide) rfl (Nat.le_of_ble_eq_true rfl) ?_
  intro p e s m args below meth c R Q A ls H locs hx hb hr hts hown hlocks hml hnm hR hQ hA hl hP hK hN hD hS
  have hg : ∀ w ∈ gw, w.before args s = true := fun w h => hts w (List.mem_cons_of_mem _ h)
  have hown : s.vm.findClass "RangeCoders$Odds" = some m.cls := hown
  have hl : lv_has ls 2 [(0, Value.ref oo)] := hl
  refine lv_aload_n hx hb d_Odds_halve_0 rfl (lv_at hl 0 rfl) ?_
  refine lv_iconst (v := 0) hx hb d_Odds_halve_1 (by decide) ?_
  refine va_put (D := (dC, dI)) (ci := 7) (v := .int 0) (ty := .int) (C := "RangeCoders$Odds") (T := T_Odds) (N := 5) hx hb hg in_Odds t_Odds o_Odds n_Odds hown hK hP hD hS 0 rfl rfl 1 (by decide) (hg _ k305) (fun _ h9 => h9) rfl (by decide +kernel) rfl rfl (Nat.le_of_ble_eq_true rfl) d_Odds_halve_2 (fun H locs hP hD hS => ?_)
  have hPD : my_PD (dC, dI) vwCl A [(oo, Sum.inr (7, [Value.int osg, Value.int 0, Value.int ofc, Value.ref oca, Value.ref opa])), (oca, Sum.inl (cI, ol, Sum.inl ocf)), (opa, Sum.inl (cI, opl, Sum.inl opf))] H := ⟨hP, hD⟩
  have hP := hPD.1
  have hD := hPD.2
  refine lv_iconst (v := 0) hx hb d_Odds_halve_5 (by decide) ?_
  refine lv_istore_n (lv' := [(1, Value.int 0), (0, Value.ref oo)]) hx hb d_Odds_halve_6 rfl hl (by decide) rfl (fun ls hl => ?_)
  have J_7 : ∀ (n9_7 : Nat) (b7_0 : Int32) (b7_1 : Int32) (b7_2 : Nat → Int32) (hn9_7 : ((nI ol).toInt - b7_0.toInt).toNat = n9_7) (hi_7 : 0 ≤ b7_0.toInt) (H : Heap) (locs : List Loc) (ls : Array Slot), va_P (dC, dI) vwCl [(oo, Sum.inr (7, [Value.int osg, Value.int b7_1, Value.int ofc, Value.ref oca, Value.ref opa])), (oca, Sum.inl (cI, ol, Sum.inl b7_2)), (opa, Sum.inl (cI, opl, Sum.inl opf))] H → va_D A [(oo, Sum.inr (7, [Value.int osg, Value.int b7_1, Value.int ofc, Value.ref oca, Value.ref opa])), (oca, Sum.inl (cI, ol, Sum.inl b7_2)), (opa, Sum.inl (cI, opl, Sum.inl opf))] → va_S A s.heap H locs → lv_has ls 2 [(1, Value.int b7_0), (0, Value.ref oo)] → W p l e R s m args below meth c H locs 0 0 Q (F0 m 7 ls []) := by
    intro n9_7
    induction n9_7 using Nat.strongRecOn with
    | ind n9_7 ih9_7 =>
      intro b7_0 b7_1 b7_2 hn9_7 hi_7 H locs ls hP hD hS hl
      refine lv_iload_n hx hb d_Odds_halve_7 rfl (lv_at hl 0 rfl) ?_
      refine lv_aload_n hx hb d_Odds_halve_8 rfl (lv_at hl 1 rfl) ?_
      refine va_get (D := (dC, dI)) (ci := 7) (v := .ref oca) (C := "RangeCoders$Odds") (T := T_Odds) (N := 5) hx hb hg in_Odds hown hK hP 0 rfl rfl 3 (by decide) (hg _ k309) (fun _ h9 => h9) rfl d_Odds_halve_9 ?_
      refine va_alen hx hb hK hP 1 0 rfl rfl (v := nI ol) rfl d_Odds_halve_12 ?_
      refine lv_icmp_ge (tgt := 53) hx hb d_Odds_halve_13 (by decide) (fun c_1 => ?_) (fun c_1 => ?_)
      · exact my_vret hx hb hr hlocks hQ hK hS (Nat.le_refl _) (Nat.le_refl _) (b7_1, b7_2) (trivial) (hP.sub [0, 1, 2] rfl) (hD.sub [0, 1, 2] (by decide +kernel) rfl) d_Odds_halve_53
      · refine lv_aload_n hx hb d_Odds_halve_16 rfl (lv_at hl 1 rfl) ?_
        refine va_get (D := (dC, dI)) (ci := 7) (v := .ref oca) (C := "RangeCoders$Odds") (T := T_Odds) (N := 5) hx hb hg in_Odds hown hK hP 0 rfl rfl 3 (by decide) (hg _ k309) (fun _ h9 => h9) rfl d_Odds_halve_17 ?_
        refine lv_iload_n hx hb d_Odds_halve_20 rfl (lv_at hl 0 rfl) ?_
        refine lv_aload_n hx hb d_Odds_halve_21 rfl (lv_at hl 1 rfl) ?_
        refine va_get (D := (dC, dI)) (ci := 7) (v := .ref oca) (C := "RangeCoders$Odds") (T := T_Odds) (N := 5) hx hb hg in_Odds hown hK hP 0 rfl rfl 3 (by decide) (hg _ k309) (fun _ h9 => h9) rfl d_Odds_halve_22 ?_
        refine lv_iload_n hx hb d_Odds_halve_25 rfl (lv_at hl 0 rfl) ?_
        refine va_iald hx hb hK hP 1 0 rfl rfl (by first | assumption | exact I_in (by omega) (by assumption) (by assumption) | exact I_in' (by omega) (by assumption) (by assumption)) d_Odds_halve_26 ?_
        refine lv_topi (fun v_2 ev_2 => ?_)
        refine lv_iconst (v := 1) hx hb d_Odds_halve_27 (by decide) ?_
        refine lv_iadd hx hb d_Odds_halve_28 ?_
        refine lv_topi (fun v_3 ev_3 => ?_)
        refine lv_iconst (v := 2) hx hb d_Odds_halve_29 (by decide) ?_
        refine lv_idiv hx hb d_Odds_halve_30 (by first | decide | exact I_nzp (by assumption) | exact I_nz (by assumption)) ?_
        refine lv_topi (fun v_4 ev_4 => ?_)
        refine va_iast hx hb hK hP hD hS 1 0 rfl rfl (by first | assumption | exact I_in (by omega) (by assumption) (by assumption) | exact I_in' (by omega) (by assumption) (by assumption)) d_Odds_halve_31 (fun H locs hP hD hS => ?_)
        have hPD : my_PD (dC, dI) vwCl A [(oo, Sum.inr (7, [Value.int osg, Value.int b7_1, Value.int ofc, Value.ref oca, Value.ref opa])), (oca, Sum.inl (cI, ol, Sum.inl (upd b7_2 b7_0.toNatClampNeg v_4))), (opa, Sum.inl (cI, opl, Sum.inl opf))] H := ⟨hP, hD⟩
        have hP := hPD.1
        have hD := hPD.2
        refine lv_aload_n hx hb d_Odds_halve_32 rfl (lv_at hl 1 rfl) ?_
        refine lv_dup hx hb d_Odds_halve_33 rfl ?_
        refine va_get (D := (dC, dI)) (ci := 7) (v := .int b7_1) (C := "RangeCoders$Odds") (T := T_Odds) (N := 5) hx hb hg in_Odds hown hK hP 0 rfl rfl 1 (by decide) (hg _ k305) (fun _ h9 => h9) rfl d_Odds_halve_34 ?_
        refine lv_aload_n hx hb d_Odds_halve_37 rfl (lv_at hl 1 rfl) ?_
        refine va_get (D := (dC, dI)) (ci := 7) (v := .ref oca) (C := "RangeCoders$Odds") (T := T_Odds) (N := 5) hx hb hg in_Odds hown hK hP 0 rfl rfl 3 (by decide) (hg _ k309) (fun _ h9 => h9) rfl d_Odds_halve_38 ?_
        refine lv_iload_n hx hb d_Odds_halve_41 rfl (lv_at hl 0 rfl) ?_
        refine va_iald hx hb hK hP 1 0 rfl rfl (by first | assumption | exact I_in (by omega) (by assumption) (by assumption) | exact I_in' (by omega) (by assumption) (by assumption)) d_Odds_halve_42 ?_
        refine lv_topi (fun v_5 ev_5 => ?_)
        refine lv_iadd hx hb d_Odds_halve_43 ?_
        refine lv_topi (fun v_6 ev_6 => ?_)
        refine va_put (D := (dC, dI)) (ci := 7) (v := .int v_6) (ty := .int) (C := "RangeCoders$Odds") (T := T_Odds) (N := 5) hx hb hg in_Odds t_Odds o_Odds n_Odds hown hK hP hD hS 0 rfl rfl 1 (by decide) (hg _ k305) (fun _ h9 => h9) rfl (by decide +kernel) rfl rfl (Nat.le_of_ble_eq_true rfl) d_Odds_halve_44 (fun H locs hP hD hS => ?_)
        have hPD : my_PD (dC, dI) vwCl A [(oo, Sum.inr (7, [Value.int osg, Value.int v_6, Value.int ofc, Value.ref oca, Value.ref opa])), (oca, Sum.inl (cI, ol, Sum.inl (upd b7_2 b7_0.toNatClampNeg v_4))), (opa, Sum.inl (cI, opl, Sum.inl opf))] H := ⟨hP, hD⟩
        have hP := hPD.1
        have hD := hPD.2
        obtain ⟨v_7, ev_7⟩ : ∃ y : Int32, y = b7_0 + (1) := ⟨_, rfl⟩
        refine lv_iinc (v := v_7) (lv' := [(1, Value.int v_7), (0, Value.ref oo)]) hx hb d_Odds_halve_47 hl (k := 0) rfl (by rw [ev_7]; rfl) (by decide) rfl (fun ls hl => ?_)
        refine lv_goto (tgt := 7) hx hb d_Odds_halve_50 (by decide) ?_
        exact ih9_7 _ (by first | omega | (have z9 := I_up c_1 ev_7; omega)) v_7 v_6 (upd b7_2 b7_0.toNatClampNeg v_4) rfl (by have z9 := I_up c_1 ev_7; omega) H locs ls (hP.sub [0, 1, 2] rfl) (hD.sub [0, 1, 2] (by decide +kernel) rfl) hS (lv_sub hl [0, 1] rfl)
  exact J_7 _ (0 : Int32) (0 : Int32) ocf rfl (by first | decide | assumption | omega) H locs ls (hP.sub [0, 1, 2] rfl) (hD.sub [0, 1, 2] (by decide +kernel) rfl) hS (lv_sub hl [0, 1] rfl)
set_option maxHeartbeats 2000000 in
set_option maxRecDepth 100000 in
theorem c_Odds_fromCounts (l : Launch) (dC : Nat → ClassId) (dI : Nat → Nat → Nat) (cI cM cO : ClassId) (sz : Nat) (oo : Nat) (osg : Int32) (osm : Int32) (ofc : Int32) (oca : Nat) (opa : Nat) (ol : Nat) (ocf : Nat → Int32) (opl : Nat) (opf : Nat → Int32) (ka : Nat) (kl : Nat) (kf : Nat → Int32) (hol : ol ≤ 64) (hopl : opl ≤ 512) (hkl : kl ≤ 64) : MetV l y_Odds_fromCounts (Cond.code y_Odds_fromCounts prog_7_method_6_code 3 none :: gw) ({ frames := 1, cells := 0, slots := 0, locals := 22 } : Room) (dC, dI) vwCl (kT cI cM cO) [Value.ref oo, Value.ref ka] [(oo, Sum.inr (7, [Value.int osg, Value.int osm, Value.int ofc, Value.ref oca, Value.ref opa])), (oca, Sum.inl (cI, ol, Sum.inl ocf)), (opa, Sum.inl (cI, opl, Sum.inl opf)), (ka, Sum.inl (cI, kl, Sum.inl kf))] sz (fun (u : Int32 × (Nat → Int32)) => True) (fun (u : Int32 × (Nat → Int32)) => [(oo, Sum.inr (7, [Value.int osg, Value.int u.1, Value.int ofc, Value.ref oca, Value.ref opa])), (oca, Sum.inl (cI, ol, Sum.inl u.2)), (opa, Sum.inl (cI, opl, Sum.inl opf)), (ka, Sum.inl (cI, kl, Sum.inl kf))]) 0 0 := by
  refine my_ofV (cc := prog_7_method_6_code) (n := 3) (ret := none) (by decide) rfl (Nat.le_of_ble_eq_true rfl) ?_
  intro p e s m args below meth c R Q A ls H locs hx hb hr hts hown hlocks hml hnm hR hQ hA hl hP hK hN hD hS
  have hg : ∀ w ∈ gw, w.before args s = true := fun w h => hts w (List.mem_cons_of_mem _ h)
  have hown : s.vm.findClass "RangeCoders$Odds" = some m.cls := hown
  have hl : lv_has ls 3 [(0, Value.ref oo), (1, Value.ref ka)] := hl
  refine lv_aload_n hx hb d_Odds_fromCounts_0 rfl (lv_at hl 0 rfl) ?_
  refine lv_aload_n hx hb d_Odds_fromCounts_1 rfl (lv_at hl 1 rfl) ?_
  refine my_cv (wr := []) (va_runV (As := [Value.ref ka]) (rest := []) ⟨hx, hb, hml, hown, hts⟩ (c_Odds_copyCounts l dC dI cI cM cO H.size oo osg osm ofc oca opa ol ocf opl opf ka kl kf (by first | assumption | omega) (by first | assumption | omega) (by first | assumption | omega)) (cwV 1 hts (my_gV k371 k373 ks0 k14 k374) rfl rfl rfl (by decide +kernel) ⟨by rw [hR]; exact Nat.le_of_ble_eq_true rfl, by rw [hR]; exact Nat.le_of_ble_eq_true rfl⟩) (my_preV hK hN (hP.sub [0, 1, 2, 3] rfl) (hD.sub [0, 1, 2, 3] (by decide +kernel) rfl) 0 rfl rfl) rfl rfl hl.1 rfl (lv_room (Nat.le_of_ble_eq_true rfl)) d_Odds_fromCounts_2 ⟨by rw [hR]; exact Nat.le_of_ble_eq_true rfl, by rw [hR]; exact Nat.le_of_ble_eq_true rfl⟩) hP hD hS hA [0, 1, 2, 3] [] rfl rfl (by decide +kernel) (by decide +kernel) (fun u9 H locs hw_2 hP hD hS => ?_)
  obtain ⟨osmq_2, ocfq_2⟩ := u9
  have hPD : my_PD (dC, dI) vwCl A [(oo, Sum.inr (7, [Value.int osg, Value.int osmq_2, Value.int ofc, Value.ref oca, Value.ref opa])), (oca, Sum.inl (cI, ol, Sum.inl ocfq_2)), (opa, Sum.inl (cI, opl, Sum.inl opf)), (ka, Sum.inl (cI, kl, Sum.inl kf))] H := ⟨hP, hD⟩
  have hP := hPD.1
  have hD := hPD.2
  refine lv_iconst (v := 0) hx hb d_Odds_fromCounts_5 (by decide) ?_
  refine lv_istore_n (lv' := [(2, Value.int 0), (0, Value.ref oo), (1, Value.ref ka)]) hx hb d_Odds_fromCounts_6 rfl hl (by decide) rfl (fun ls hl => ?_)
  have J_7 : ∀ (n9_7 : Nat) (b7_0 : Int32) (b7_1 : Int32) (b7_2 : Nat → Int32) (hn9_7 : ((32 : Int32).toInt - b7_0.toInt).toNat = n9_7) (hi_7 : 0 ≤ b7_0.toInt) (H : Heap) (locs : List Loc) (ls : Array Slot), va_P (dC, dI) vwCl [(oo, Sum.inr (7, [Value.int osg, Value.int b7_1, Value.int ofc, Value.ref oca, Value.ref opa])), (oca, Sum.inl (cI, ol, Sum.inl b7_2)), (opa, Sum.inl (cI, opl, Sum.inl opf)), (ka, Sum.inl (cI, kl, Sum.inl kf))] H → va_D A [(oo, Sum.inr (7, [Value.int osg, Value.int b7_1, Value.int ofc, Value.ref oca, Value.ref opa])), (oca, Sum.inl (cI, ol, Sum.inl b7_2)), (opa, Sum.inl (cI, opl, Sum.inl opf)), (ka, Sum.inl (cI, kl, Sum.inl kf))] → va_S A s.heap H locs → lv_has ls 3 [(2, Value.int b7_0), (0, Value.ref oo), (1, Value.ref ka)] → W p l e R s m args below meth c H locs 0 0 Q (F0 m 7 ls []) := by
    intro n9_7
    induction n9_7 using Nat.strongRecOn with
    | ind n9_7 ih9_7 =>
      intro b7_0 b7_1 b7_2 hn9_7 hi_7 H locs ls hP hD hS hl
      refine lv_iload_n hx hb d_Odds_fromCounts_7 rfl (lv_at hl 0 rfl) ?_
      refine lv_bipush (v := 32) hx hb d_Odds_fromCounts_8 (by decide) ?_
      refine lv_icmp_ge (tgt := 33) hx hb d_Odds_fromCounts_10 (by decide) (fun c_1 => ?_) (fun c_1 => ?_)
      · exact my_vret hx hb hr hlocks hQ hK hS (Nat.le_refl _) (Nat.le_refl _) (b7_1, b7_2) (trivial) (hP.sub [0, 1, 2, 3] rfl) (hD.sub [0, 1, 2, 3] (by decide +kernel) rfl) d_Odds_fromCounts_33
      · refine lv_aload_n hx hb d_Odds_fromCounts_13 rfl (lv_at hl 1 rfl) ?_
        refine va_get (D := (dC, dI)) (ci := 7) (v := .int b7_1) (C := "RangeCoders$Odds") (T := T_Odds) (N := 5) hx hb hg in_Odds hown hK hP 0 rfl rfl 1 (by decide) (hg _ k305) (fun _ h9 => h9) rfl d_Odds_fromCounts_14 ?_
        refine lv_sipush (v := 8192) hx hb d_Odds_fromCounts_17 (by decide) ?_
        refine lv_icmp_le (tgt := 33) hx hb d_Odds_fromCounts_20 (by decide) (fun c_2 => ?_) (fun c_2 => ?_)
        · exact my_vret hx hb hr hlocks hQ hK hS (Nat.le_refl _) (Nat.le_refl _) (b7_1, b7_2) (trivial) (hP.sub [0, 1, 2, 3] rfl) (hD.sub [0, 1, 2, 3] (by decide +kernel) rfl) d_Odds_fromCounts_33
        · refine lv_aload_n hx hb d_Odds_fromCounts_23 rfl (lv_at hl 1 rfl) ?_
          refine my_cv (wr := [(ka, Sum.inl (cI, kl, Sum.inl kf))]) (va_runV (As := []) (rest := []) ⟨hx, hb, hml, hown, hts⟩ (c_Odds_halve l dC dI cI cM cO H.size oo osg b7_1 ofc oca opa ol b7_2 opl opf (by first | assumption | omega) (by first | assumption | omega)) (cwV 0 hts (my_gV k375 k377 ks1 k14 k378) rfl rfl rfl (by decide +kernel) ⟨by rw [hR]; exact Nat.le_of_ble_eq_true rfl, by rw [hR]; exact Nat.le_of_ble_eq_true rfl⟩) (my_preV hK hN (hP.sub [0, 1, 2] rfl) (hD.sub [0, 1, 2] (by decide +kernel) rfl) 0 rfl rfl) rfl rfl hl.1 rfl (lv_room (Nat.le_of_ble_eq_true rfl)) d_Odds_fromCounts_24 ⟨by rw [hR]; exact Nat.le_of_ble_eq_true rfl, by rw [hR]; exact Nat.le_of_ble_eq_true rfl⟩) hP hD hS hA [0, 1, 2] [3] rfl rfl (by decide +kernel) (by decide +kernel) (fun u9 H locs hw_24 hP hD hS => ?_)
          obtain ⟨osmq_24, ocfq_24⟩ := u9
          have hPD : my_PD (dC, dI) vwCl A [(ka, Sum.inl (cI, kl, Sum.inl kf)), (oo, Sum.inr (7, [Value.int osg, Value.int osmq_24, Value.int ofc, Value.ref oca, Value.ref opa])), (oca, Sum.inl (cI, ol, Sum.inl ocfq_24)), (opa, Sum.inl (cI, opl, Sum.inl opf))] H := ⟨hP, hD⟩
          have hP := hPD.1
          have hD := hPD.2
          obtain ⟨v_3, ev_3⟩ : ∃ y : Int32, y = b7_0 + (1) := ⟨_, rfl⟩
          refine lv_iinc (v := v_3) (lv' := [(2, Value.int v_3), (0, Value.ref oo), (1, Value.ref ka)]) hx hb d_Odds_fromCounts_27 hl (k := 0) rfl (by rw [ev_3]; rfl) (by decide) rfl (fun ls hl => ?_)
          refine lv_goto (tgt := 7) hx hb d_Odds_fromCounts_30 (by decide) ?_
          exact ih9_7 _ (by first | omega | (have z9 := I_up c_1 ev_3; omega)) v_3 osmq_24 ocfq_24 rfl (by have z9 := I_up c_1 ev_3; omega) H locs ls (hP.sub [1, 2, 3, 0] rfl) (hD.sub [1, 2, 3, 0] (by decide +kernel) rfl) hS (lv_sub hl [0, 1, 2] rfl)
  exact J_7 _ (0 : Int32) osmq_2 ocfq_2 rfl (by first | decide | assumption | omega) H locs ls (hP.sub [0, 1, 2, 3] rfl) (hD.sub [0, 1, 2, 3] (by decide +kernel) rfl) hS (lv_sub hl [0, 1, 2] rfl)
set_option maxHeartbeats 2000000 in
set_option maxRecDepth 100000 in
theorem c_Odds_learn (l : Launch) (dC : Nat → ClassId) (dI : Nat → Nat → Nat) (cI cM cO : ClassId) (sz : Nat) (oo : Nat) (osg : Int32) (osm : Int32) (ofc : Int32) (oca : Nat) (opa : Nat) (ol : Nat) (ocf : Nat → Int32) (opl : Nat) (opf : Nat → Int32) (ii : Int32) (hol : ol ≤ 64) (hopl : opl ≤ 512) : MetV l y_Odds_learn (Cond.code y_Odds_learn prog_7_method_7_code 2 none :: gw) ({ frames := 2, cells := 0, slots := 0, locals := 43 } : Room) (dC, dI) vwCl (kT cI cM cO) [Value.ref oo, Value.int ii] [(oo, Sum.inr (7, [Value.int osg, Value.int osm, Value.int ofc, Value.ref oca, Value.ref opa])), (oca, Sum.inl (cI, ol, Sum.inl ocf)), (opa, Sum.inl (cI, opl, Sum.inl opf))] sz (fun (u : Int32 × (Nat → Int32)) => True) (fun (u : Int32 × (Nat → Int32)) => [(oo, Sum.inr (7, [Value.int osg, Value.int u.1, Value.int ofc, Value.ref oca, Value.ref opa])), (oca, Sum.inl (cI, ol, Sum.inl u.2)), (opa, Sum.inl (cI, opl, Sum.inl opf))]) 0 0 := by
  refine my_ofV (cc := prog_7_method_7_code) (n := 2) (ret := none) (by decide) rfl (Nat.le_of_ble_eq_true rfl) ?_
  intro p e s m args below meth c R Q A ls H locs hx hb hr hts hown hlocks hml hnm hR hQ hA hl hP hK hN hD hS
  have hg : ∀ w ∈ gw, w.before args s = true := fun w h => hts w (List.mem_cons_of_mem _ h)
  have hown : s.vm.findClass "RangeCoders$Odds" = some m.cls := hown
  have hl : lv_has ls 2 [(0, Value.ref oo), (1, Value.int ii)] := hl
  refine lv_aload_n hx hb d_Odds_learn_0 rfl (lv_at hl 0 rfl) ?_
  refine lv_iload_n hx hb d_Odds_learn_1 rfl (lv_at hl 1 rfl) ?_
  refine lv_bipush (v := 32) hx hb d_Odds_learn_2 (by decide) ?_
  refine my_cv (wr := []) (va_runV (As := [Value.int ii, Value.int 32]) (rest := []) ⟨hx, hb, hml, hown, hts⟩ (c_Odds_grow l dC dI cI cM cO H.size oo osg osm ofc oca opa ol ocf opl opf ii 32 (by first | assumption | omega) (by first | assumption | omega)) (cwV 2 hts (my_gV k392 k393 k394 k14 k395) rfl rfl rfl (by decide +kernel) ⟨by rw [hR]; exact Nat.le_of_ble_eq_true rfl, by rw [hR]; exact Nat.le_of_ble_eq_true rfl⟩) (my_preV hK hN (hP.sub [0, 1, 2] rfl) (hD.sub [0, 1, 2] (by decide +kernel) rfl) 0 rfl rfl) rfl rfl hl.1 rfl (lv_room (Nat.le_of_ble_eq_true rfl)) d_Odds_learn_4 ⟨by rw [hR]; exact Nat.le_of_ble_eq_true rfl, by rw [hR]; exact Nat.le_of_ble_eq_true rfl⟩) hP hD hS hA [0, 1, 2] [] rfl rfl (by decide +kernel) (by decide +kernel) (fun u9 H locs hw_4 hP hD hS => ?_)
  obtain ⟨osmq_4, ocfq_4⟩ := u9
  have hPD : my_PD (dC, dI) vwCl A [(oo, Sum.inr (7, [Value.int osg, Value.int osmq_4, Value.int ofc, Value.ref oca, Value.ref opa])), (oca, Sum.inl (cI, ol, Sum.inl ocfq_4)), (opa, Sum.inl (cI, opl, Sum.inl opf))] H := ⟨hP, hD⟩
  have hP := hPD.1
  have hD := hPD.2
  refine lv_aload_n hx hb d_Odds_learn_7 rfl (lv_at hl 0 rfl) ?_
  refine va_get (D := (dC, dI)) (ci := 7) (v := .int osmq_4) (C := "RangeCoders$Odds") (T := T_Odds) (N := 5) hx hb hg in_Odds hown hK hP 0 rfl rfl 1 (by decide) (hg _ k305) (fun _ h9 => h9) rfl d_Odds_learn_8 ?_
  refine lv_sipush (v := 8192) hx hb d_Odds_learn_11 (by decide) ?_
  refine lv_icmp_le (tgt := 21) hx hb d_Odds_learn_14 (by decide) (fun c_1 => ?_) (fun c_1 => ?_)
  · exact my_vret hx hb hr hlocks hQ hK hS (Nat.le_refl _) (Nat.le_refl _) (osmq_4, ocfq_4) (trivial) (hP.sub [0, 1, 2] rfl) (hD.sub [0, 1, 2] (by decide +kernel) rfl) d_Odds_learn_21
  · refine lv_aload_n hx hb d_Odds_learn_17 rfl (lv_at hl 0 rfl) ?_
    refine my_cv (wr := []) (va_runV (As := []) (rest := []) ⟨hx, hb, hml, hown, hts⟩ (c_Odds_halve l dC dI cI cM cO H.size oo osg osmq_4 ofc oca opa ol ocfq_4 opl opf (by first | assumption | omega) (by first | assumption | omega)) (cwV 0 hts (my_gV k375 k377 ks1 k14 k378) rfl rfl rfl (by decide +kernel) ⟨by rw [hR]; exact Nat.le_of_ble_eq_true rfl, by rw [hR]; exact Nat.le_of_ble_eq_true rfl⟩) (my_preV hK hN (hP.sub [0, 1, 2] rfl) (hD.sub [0, 1, 2] (by decide +kernel) rfl) 0 rfl rfl) rfl rfl hl.1 rfl (lv_room (Nat.le_of_ble_eq_true rfl)) d_Odds_learn_18 ⟨by rw [hR]; exact Nat.le_of_ble_eq_true rfl, by rw [hR]; exact Nat.le_of_ble_eq_true rfl⟩) hP hD hS hA [0, 1, 2] [] rfl rfl (by decide +kernel) (by decide +kernel) (fun u9 H locs hw_18 hP hD hS => ?_)
    obtain ⟨osmq_18, ocfq_18⟩ := u9
    have hPD : my_PD (dC, dI) vwCl A [(oo, Sum.inr (7, [Value.int osg, Value.int osmq_18, Value.int ofc, Value.ref oca, Value.ref opa])), (oca, Sum.inl (cI, ol, Sum.inl ocfq_18)), (opa, Sum.inl (cI, opl, Sum.inl opf))] H := ⟨hP, hD⟩
    have hP := hPD.1
    have hD := hPD.2
    exact my_vret hx hb hr hlocks hQ hK hS (Nat.le_refl _) (Nat.le_refl _) (osmq_18, ocfq_18) (trivial) (hP.sub [0, 1, 2] rfl) (hD.sub [0, 1, 2] (by decide +kernel) rfl) d_Odds_learn_21
set_option maxHeartbeats 2000000 in
set_option maxRecDepth 100000 in
theorem c_Odds_below (l : Launch) (dC : Nat → ClassId) (dI : Nat → Nat → Nat) (cI cM cO : ClassId) (sz : Nat) (oo : Nat) (osg : Int32) (osm : Int32) (ofc : Int32) (oca : Nat) (opa : Nat) (ol : Nat) (ocf : Nat → Int32) (opl : Nat) (opf : Nat → Int32) (ii : Int32) (hol : ol ≤ 64) (hopl : opl ≤ 512) : MetI l y_Odds_below (Cond.code y_Odds_below prog_7_method_8_code 4 (some .int) :: gw) ({ frames := 0, cells := 0, slots := 0, locals := 0 } : Room) (dC, dI) vwCl (kT cI cM cO) [Value.ref oo, Value.int ii] [(oo, Sum.inr (7, [Value.int osg, Value.int osm, Value.int ofc, Value.ref oca, Value.ref opa])), (oca, Sum.inl (cI, ol, Sum.inl ocf)), (opa, Sum.inl (cI, opl, Sum.inl opf))] sz (fun (r : Int32) (u : Unit) => True) (fun (u : Unit) => [(oo, Sum.inr (7, [Value.int osg, Value.int osm, Value.int ofc, Value.ref oca, Value.ref opa])), (oca, Sum.inl (cI, ol, Sum.inl ocf)), (opa, Sum.inl (cI, opl, Sum.inl opf))]) 0 0 := by
  refine my_ofI (cc := prog_7_method_8_code) (n := 4) (ret := (some .int)) (by decide) rfl (Nat.le_of_ble_eq_true rfl) ?_
  intro p e s m args below meth c R Q A ls H locs hx hb hr hts hown hlocks hml hnm hR hQ hA hl hP hK hN hD hS
  have hg : ∀ w ∈ gw, w.before args s = true := fun w h => hts w (List.mem_cons_of_mem _ h)
  have hown : s.vm.findClass "RangeCoders$Odds" = some m.cls := hown
  have hl : lv_has ls 4 [(0, Value.ref oo), (1, Value.int ii)] := hl
  refine lv_iconst (v := 0) hx hb d_Odds_below_0 (by decide) ?_
  refine lv_istore_n (lv' := [(2, Value.int 0), (0, Value.ref oo), (1, Value.int ii)]) hx hb d_Odds_below_1 rfl hl (by decide) rfl (fun ls hl => ?_)
  refine lv_iconst (v := 0) hx hb d_Odds_below_2 (by decide) ?_
  refine lv_istore_n (lv' := [(3, Value.int 0), (2, Value.int 0), (0, Value.ref oo), (1, Value.int ii)]) hx hb d_Odds_below_3 rfl hl (by decide) rfl (fun ls hl => ?_)
  have J_4 : ∀ (n9_4 : Nat) (b4_0 : Int32) (b4_1 : Int32) (hn9_4 : (ii.toInt - b4_0.toInt).toNat = n9_4) (hi_4 : 0 ≤ b4_0.toInt) (H : Heap) (locs : List Loc) (ls : Array Slot), va_P (dC, dI) vwCl [(oo, Sum.inr (7, [Value.int osg, Value.int osm, Value.int ofc, Value.ref oca, Value.ref opa])), (oca, Sum.inl (cI, ol, Sum.inl ocf)), (opa, Sum.inl (cI, opl, Sum.inl opf))] H → va_D A [(oo, Sum.inr (7, [Value.int osg, Value.int osm, Value.int ofc, Value.ref oca, Value.ref opa])), (oca, Sum.inl (cI, ol, Sum.inl ocf)), (opa, Sum.inl (cI, opl, Sum.inl opf))] → va_S A s.heap H locs → lv_has ls 4 [(3, Value.int b4_0), (2, Value.int b4_1), (0, Value.ref oo), (1, Value.int ii)] → W p l e R s m args below meth c H locs 0 0 Q (F0 m 4 ls []) := by
    intro n9_4
    induction n9_4 using Nat.strongRecOn with
    | ind n9_4 ih9_4 =>
      intro b4_0 b4_1 hn9_4 hi_4 H locs ls hP hD hS hl
      refine lv_iload_n hx hb d_Odds_below_4 rfl (lv_at hl 0 rfl) ?_
      refine lv_iload_n hx hb d_Odds_below_5 rfl (lv_at hl 3 rfl) ?_
      refine lv_icmp_ge (tgt := 33) hx hb d_Odds_below_6 (by decide) (fun c_1 => ?_) (fun c_1 => ?_)
      · refine lv_iload_n hx hb d_Odds_below_33 rfl (lv_at hl 1 rfl) ?_
        exact my_iret (v := b4_1) hx hb hr (rfl) hlocks hQ hK hS (Nat.le_refl _) (Nat.le_refl _) () (trivial) (hP.sub [0, 1, 2] rfl) (hD.sub [0, 1, 2] (by decide +kernel) rfl) d_Odds_below_34
      · refine lv_iload_n hx hb d_Odds_below_9 rfl (lv_at hl 0 rfl) ?_
        refine lv_aload_n hx hb d_Odds_below_10 rfl (lv_at hl 2 rfl) ?_
        refine va_get (D := (dC, dI)) (ci := 7) (v := .ref oca) (C := "RangeCoders$Odds") (T := T_Odds) (N := 5) hx hb hg in_Odds hown hK hP 0 rfl rfl 3 (by decide) (hg _ k309) (fun _ h9 => h9) rfl d_Odds_below_11 ?_
        refine va_alen hx hb hK hP 1 0 rfl rfl (v := nI ol) rfl d_Odds_below_14 ?_
        refine lv_icmp_ge (tgt := 33) hx hb d_Odds_below_15 (by decide) (fun c_2 => ?_) (fun c_2 => ?_)
        · refine lv_iload_n hx hb d_Odds_below_33 rfl (lv_at hl 1 rfl) ?_
          exact my_iret (v := b4_1) hx hb hr (rfl) hlocks hQ hK hS (Nat.le_refl _) (Nat.le_refl _) () (trivial) (hP.sub [0, 1, 2] rfl) (hD.sub [0, 1, 2] (by decide +kernel) rfl) d_Odds_below_34
        · refine lv_iload_n hx hb d_Odds_below_18 rfl (lv_at hl 1 rfl) ?_
          refine lv_aload_n hx hb d_Odds_below_19 rfl (lv_at hl 2 rfl) ?_
          refine va_get (D := (dC, dI)) (ci := 7) (v := .ref oca) (C := "RangeCoders$Odds") (T := T_Odds) (N := 5) hx hb hg in_Odds hown hK hP 0 rfl rfl 3 (by decide) (hg _ k309) (fun _ h9 => h9) rfl d_Odds_below_20 ?_
          refine lv_iload_n hx hb d_Odds_below_23 rfl (lv_at hl 0 rfl) ?_
          refine va_iald hx hb hK hP 1 0 rfl rfl (by first | assumption | exact I_in (by omega) (by assumption) (by assumption) | exact I_in' (by omega) (by assumption) (by assumption)) d_Odds_below_24 ?_
          refine lv_topi (fun v_3 ev_3 => ?_)
          refine lv_iadd hx hb d_Odds_below_25 ?_
          refine lv_topi (fun v_4 ev_4 => ?_)
          refine lv_istore_n (lv' := [(2, Value.int v_4), (3, Value.int b4_0), (0, Value.ref oo), (1, Value.int ii)]) hx hb d_Odds_below_26 rfl hl (by decide) rfl (fun ls hl => ?_)
          obtain ⟨v_5, ev_5⟩ : ∃ y : Int32, y = b4_0 + (1) := ⟨_, rfl⟩
          refine lv_iinc (v := v_5) (lv' := [(3, Value.int v_5), (2, Value.int v_4), (0, Value.ref oo), (1, Value.int ii)]) hx hb d_Odds_below_27 hl (k := 1) rfl (by rw [ev_5]; rfl) (by decide) rfl (fun ls hl => ?_)
          refine lv_goto (tgt := 4) hx hb d_Odds_below_30 (by decide) ?_
          exact ih9_4 _ (by first | omega | (have z9 := I_up c_1 ev_5; omega)) v_5 v_4 rfl (by have z9 := I_up c_1 ev_5; omega) H locs ls (hP.sub [0, 1, 2] rfl) (hD.sub [0, 1, 2] (by decide +kernel) rfl) hS (lv_sub hl [0, 1, 2, 3] rfl)
  exact J_4 _ (0 : Int32) (0 : Int32) rfl (by first | decide | assumption | omega) H locs ls (hP.sub [0, 1, 2] rfl) (hD.sub [0, 1, 2] (by decide +kernel) rfl) hS (lv_sub hl [0, 1, 2, 3] rfl)
set_option maxHeartbeats 2000000 in
set_option maxRecDepth 100000 in
theorem c_Odds_signAt (l : Launch) (dC : Nat → ClassId) (dI : Nat → Nat → Nat) (cI cM cO : ClassId) (sz : Nat) (oo : Nat) (osg : Int32) (osm : Int32) (ofc : Int32) (oca : Nat) (opa : Nat) (ol : Nat) (ocf : Nat → Int32) (opl : Nat) (opf : Nat → Int32) (ii : Int32) (hol : ol ≤ 64) (hopl : opl ≤ 512) : MetI l y_Odds_signAt (Cond.code y_Odds_signAt prog_7_method_9_code 4 (some .int) :: gw) ({ frames := 0, cells := 0, slots := 0, locals := 0 } : Room) (dC, dI) vwCl (kT cI cM cO) [Value.ref oo, Value.int ii] [(oo, Sum.inr (7, [Value.int osg, Value.int osm, Value.int ofc, Value.ref oca, Value.ref opa])), (oca, Sum.inl (cI, ol, Sum.inl ocf)), (opa, Sum.inl (cI, opl, Sum.inl opf))] sz (fun (r : Int32) (u : Unit) => True) (fun (u : Unit) => [(oo, Sum.inr (7, [Value.int osg, Value.int osm, Value.int ofc, Value.ref oca, Value.ref opa])), (oca, Sum.inl (cI, ol, Sum.inl ocf)), (opa, Sum.inl (cI, opl, Sum.inl opf))]) 0 0 := by
  refine my_ofI (cc := prog_7_method_9_code) (n := 4) (ret := (some .int)) (by decide) rfl (Nat.le_of_ble_eq_true rfl) ?_
  intro p e s m args below meth c R Q A ls H locs hx hb hr hts hown hlocks hml hnm hR hQ hA hl hP hK hN hD hS
  have hg : ∀ w ∈ gw, w.before args s = true := fun w h => hts w (List.mem_cons_of_mem _ h)
  have hown : s.vm.findClass "RangeCoders$Odds" = some m.cls := hown
  have hl : lv_has ls 4 [(0, Value.ref oo), (1, Value.int ii)] := hl
  refine lv_iconst (v := 0) hx hb d_Odds_signAt_0 (by decide) ?_
  refine lv_istore_n (lv' := [(2, Value.int 0), (0, Value.ref oo), (1, Value.int ii)]) hx hb d_Odds_signAt_1 rfl hl (by decide) rfl (fun ls hl => ?_)
  refine lv_iconst (v := 0) hx hb d_Odds_signAt_2 (by decide) ?_
  refine lv_istore_n (lv' := [(3, Value.int 0), (2, Value.int 0), (0, Value.ref oo), (1, Value.int ii)]) hx hb d_Odds_signAt_3 rfl hl (by decide) rfl (fun ls hl => ?_)
  have J_4 : ∀ (n9_4 : Nat) (b4_0 : Int32) (b4_1 : Int32) (hn9_4 : ((nI ol).toInt - b4_0.toInt).toNat = n9_4) (hi_4 : 0 ≤ b4_0.toInt) (H : Heap) (locs : List Loc) (ls : Array Slot), va_P (dC, dI) vwCl [(oo, Sum.inr (7, [Value.int osg, Value.int osm, Value.int ofc, Value.ref oca, Value.ref opa])), (oca, Sum.inl (cI, ol, Sum.inl ocf)), (opa, Sum.inl (cI, opl, Sum.inl opf))] H → va_D A [(oo, Sum.inr (7, [Value.int osg, Value.int osm, Value.int ofc, Value.ref oca, Value.ref opa])), (oca, Sum.inl (cI, ol, Sum.inl ocf)), (opa, Sum.inl (cI, opl, Sum.inl opf))] → va_S A s.heap H locs → lv_has ls 4 [(3, Value.int b4_0), (2, Value.int b4_1), (0, Value.ref oo), (1, Value.int ii)] → W p l e R s m args below meth c H locs 0 0 Q (F0 m 4 ls []) := by
    intro n9_4
    induction n9_4 using Nat.strongRecOn with
    | ind n9_4 ih9_4 =>
      intro b4_0 b4_1 hn9_4 hi_4 H locs ls hP hD hS hl
      refine lv_iload_n hx hb d_Odds_signAt_4 rfl (lv_at hl 0 rfl) ?_
      refine lv_aload_n hx hb d_Odds_signAt_5 rfl (lv_at hl 2 rfl) ?_
      refine va_get (D := (dC, dI)) (ci := 7) (v := .ref oca) (C := "RangeCoders$Odds") (T := T_Odds) (N := 5) hx hb hg in_Odds hown hK hP 0 rfl rfl 3 (by decide) (hg _ k309) (fun _ h9 => h9) rfl d_Odds_signAt_6 ?_
      refine va_alen hx hb hK hP 1 0 rfl rfl (v := nI ol) rfl d_Odds_signAt_9 ?_
      refine lv_icmp_ge (tgt := 35) hx hb d_Odds_signAt_10 (by decide) (fun c_1 => ?_) (fun c_1 => ?_)
      · refine lv_iconst (v := (-1)) hx hb d_Odds_signAt_35 (by decide) ?_
        exact my_iret (v := (-1)) hx hb hr (rfl) hlocks hQ hK hS (Nat.le_refl _) (Nat.le_refl _) () (trivial) (hP.sub [0, 1, 2] rfl) (hD.sub [0, 1, 2] (by decide +kernel) rfl) d_Odds_signAt_36
      · refine lv_iload_n hx hb d_Odds_signAt_13 rfl (lv_at hl 1 rfl) ?_
        refine lv_aload_n hx hb d_Odds_signAt_14 rfl (lv_at hl 2 rfl) ?_
        refine va_get (D := (dC, dI)) (ci := 7) (v := .ref oca) (C := "RangeCoders$Odds") (T := T_Odds) (N := 5) hx hb hg in_Odds hown hK hP 0 rfl rfl 3 (by decide) (hg _ k309) (fun _ h9 => h9) rfl d_Odds_signAt_15 ?_
        refine lv_iload_n hx hb d_Odds_signAt_18 rfl (lv_at hl 0 rfl) ?_
        refine va_iald hx hb hK hP 1 0 rfl rfl (by first | assumption | exact I_in (by omega) (by assumption) (by assumption) | exact I_in' (by omega) (by assumption) (by assumption)) d_Odds_signAt_19 ?_
        refine lv_topi (fun v_2 ev_2 => ?_)
        refine lv_iadd hx hb d_Odds_signAt_20 ?_
        refine lv_topi (fun v_3 ev_3 => ?_)
        refine lv_istore_n (lv' := [(2, Value.int v_3), (3, Value.int b4_0), (0, Value.ref oo), (1, Value.int ii)]) hx hb d_Odds_signAt_21 rfl hl (by decide) rfl (fun ls hl => ?_)
        refine lv_iload_n hx hb d_Odds_signAt_22 rfl (lv_at hl 3 rfl) ?_
        refine lv_iload_n hx hb d_Odds_signAt_23 rfl (lv_at hl 0 rfl) ?_
        refine lv_icmp_ge (tgt := 29) hx hb d_Odds_signAt_24 (by decide) (fun c_4 => ?_) (fun c_4 => ?_)
        · obtain ⟨v_5, ev_5⟩ : ∃ y : Int32, y = b4_0 + (1) := ⟨_, rfl⟩
          refine lv_iinc (v := v_5) (lv' := [(3, Value.int v_5), (2, Value.int v_3), (0, Value.ref oo), (1, Value.int ii)]) hx hb d_Odds_signAt_29 hl (k := 1) rfl (by rw [ev_5]; rfl) (by decide) rfl (fun ls hl => ?_)
          refine lv_goto (tgt := 4) hx hb d_Odds_signAt_32 (by decide) ?_
          exact ih9_4 _ (by first | omega | (have z9 := I_up c_1 ev_5; omega)) v_5 v_3 rfl (by have z9 := I_up c_1 ev_5; omega) H locs ls (hP.sub [0, 1, 2] rfl) (hD.sub [0, 1, 2] (by decide +kernel) rfl) hS (lv_sub hl [0, 1, 2, 3] rfl)
        · refine lv_iload_n hx hb d_Odds_signAt_27 rfl (lv_at hl 1 rfl) ?_
          exact my_iret (v := b4_0) hx hb hr (rfl) hlocks hQ hK hS (Nat.le_refl _) (Nat.le_refl _) () (trivial) (hP.sub [0, 1, 2] rfl) (hD.sub [0, 1, 2] (by decide +kernel) rfl) d_Odds_signAt_28
  exact J_4 _ (0 : Int32) (0 : Int32) rfl (by first | decide | assumption | omega) H locs ls (hP.sub [0, 1, 2] rfl) (hD.sub [0, 1, 2] (by decide +kernel) rfl) hS (lv_sub hl [0, 1, 2, 3] rfl)
set_option maxHeartbeats 2000000 in
set_option maxRecDepth 100000 in
theorem c_Odds_greatest (l : Launch) (dC : Nat → ClassId) (dI : Nat → Nat → Nat) (cI cM cO : ClassId) (sz : Nat) (oo : Nat) (osg : Int32) (osm : Int32) (ofc : Int32) (oca : Nat) (opa : Nat) (ol : Nat) (ocf : Nat → Int32) (opl : Nat) (opf : Nat → Int32) (hol : ol ≤ 64) (hopl : opl ≤ 512) (hol0 : 1 ≤ ol) : MetI l y_Odds_greatest (Cond.code y_Odds_greatest prog_7_method_17_code 3 (some .int) :: gw) ({ frames := 0, cells := 0, slots := 0, locals := 0 } : Room) (dC, dI) vwCl (kT cI cM cO) [Value.ref oo] [(oo, Sum.inr (7, [Value.int osg, Value.int osm, Value.int ofc, Value.ref oca, Value.ref opa])), (oca, Sum.inl (cI, ol, Sum.inl ocf)), (opa, Sum.inl (cI, opl, Sum.inl opf))] sz (fun (r : Int32) (u : Unit) => True) (fun (u : Unit) => [(oo, Sum.inr (7, [Value.int osg, Value.int osm, Value.int ofc, Value.ref oca, Value.ref opa])), (oca, Sum.inl (cI, ol, Sum.inl ocf)), (opa, Sum.inl (cI, opl, Sum.inl opf))]) 0 0 := by
  refine my_ofI (cc := prog_7_method_17_code) (n := 3) (ret := (some .int)) (by decide) rfl (Nat.le_of_ble_eq_true rfl) ?_
  intro p e s m args below meth c R Q A ls H locs hx hb hr hts hown hlocks hml hnm hR hQ hA hl hP hK hN hD hS
  have hg : ∀ w ∈ gw, w.before args s = true := fun w h => hts w (List.mem_cons_of_mem _ h)
  have hown : s.vm.findClass "RangeCoders$Odds" = some m.cls := hown
  have hl : lv_has ls 3 [(0, Value.ref oo)] := hl
  refine lv_iconst (v := 0) hx hb d_Odds_greatest_0 (by decide) ?_
  refine lv_istore_n (lv' := [(1, Value.int 0), (0, Value.ref oo)]) hx hb d_Odds_greatest_1 rfl hl (by decide) rfl (fun ls hl => ?_)
  refine lv_iconst (v := 1) hx hb d_Odds_greatest_2 (by decide) ?_
  refine lv_istore_n (lv' := [(2, Value.int 1), (1, Value.int 0), (0, Value.ref oo)]) hx hb d_Odds_greatest_3 rfl hl (by decide) rfl (fun ls hl => ?_)
  have J_4 : ∀ (n9_4 : Nat) (b4_0 : Int32) (b4_1 : Int32) (hn9_4 : ((nI ol).toInt - b4_0.toInt).toNat = n9_4) (hi_4 : 0 ≤ b4_0.toInt) (hg9 : vp_in b4_1 ol) (H : Heap) (locs : List Loc) (ls : Array Slot), va_P (dC, dI) vwCl [(oo, Sum.inr (7, [Value.int osg, Value.int osm, Value.int ofc, Value.ref oca, Value.ref opa])), (oca, Sum.inl (cI, ol, Sum.inl ocf)), (opa, Sum.inl (cI, opl, Sum.inl opf))] H → va_D A [(oo, Sum.inr (7, [Value.int osg, Value.int osm, Value.int ofc, Value.ref oca, Value.ref opa])), (oca, Sum.inl (cI, ol, Sum.inl ocf)), (opa, Sum.inl (cI, opl, Sum.inl opf))] → va_S A s.heap H locs → lv_has ls 3 [(2, Value.int b4_0), (1, Value.int b4_1), (0, Value.ref oo)] → W p l e R s m args below meth c H locs 0 0 Q (F0 m 4 ls []) := by
    intro n9_4
    induction n9_4 using Nat.strongRecOn with
    | ind n9_4 ih9_4 =>
      intro b4_0 b4_1 hn9_4 hi_4 hg9 H locs ls hP hD hS hl
      refine lv_iload_n hx hb d_Odds_greatest_4 rfl (lv_at hl 0 rfl) ?_
      refine lv_aload_n hx hb d_Odds_greatest_5 rfl (lv_at hl 2 rfl) ?_
      refine va_get (D := (dC, dI)) (ci := 7) (v := .ref oca) (C := "RangeCoders$Odds") (T := T_Odds) (N := 5) hx hb hg in_Odds hown hK hP 0 rfl rfl 3 (by decide) (hg _ k309) (fun _ h9 => h9) rfl d_Odds_greatest_6 ?_
      refine va_alen hx hb hK hP 1 0 rfl rfl (v := nI ol) rfl d_Odds_greatest_9 ?_
      refine lv_icmp_ge (tgt := 36) hx hb d_Odds_greatest_10 (by decide) (fun c_1 => ?_) (fun c_1 => ?_)
      · refine lv_iload_n hx hb d_Odds_greatest_36 rfl (lv_at hl 1 rfl) ?_
        exact my_iret (v := b4_1) hx hb hr (rfl) hlocks hQ hK hS (Nat.le_refl _) (Nat.le_refl _) () (trivial) (hP.sub [0, 1, 2] rfl) (hD.sub [0, 1, 2] (by decide +kernel) rfl) d_Odds_greatest_37
      · refine lv_aload_n hx hb d_Odds_greatest_13 rfl (lv_at hl 2 rfl) ?_
        refine va_get (D := (dC, dI)) (ci := 7) (v := .ref oca) (C := "RangeCoders$Odds") (T := T_Odds) (N := 5) hx hb hg in_Odds hown hK hP 0 rfl rfl 3 (by decide) (hg _ k309) (fun _ h9 => h9) rfl d_Odds_greatest_14 ?_
        refine lv_iload_n hx hb d_Odds_greatest_17 rfl (lv_at hl 0 rfl) ?_
        refine va_iald hx hb hK hP 1 0 rfl rfl (by first | assumption | exact I_in (by omega) (by assumption) (by assumption) | exact I_in' (by omega) (by assumption) (by assumption)) d_Odds_greatest_18 ?_
        refine lv_topi (fun v_2 ev_2 => ?_)
        refine lv_aload_n hx hb d_Odds_greatest_19 rfl (lv_at hl 2 rfl) ?_
        refine va_get (D := (dC, dI)) (ci := 7) (v := .ref oca) (C := "RangeCoders$Odds") (T := T_Odds) (N := 5) hx hb hg in_Odds hown hK hP 0 rfl rfl 3 (by decide) (hg _ k309) (fun _ h9 => h9) rfl d_Odds_greatest_20 ?_
        refine lv_iload_n hx hb d_Odds_greatest_23 rfl (lv_at hl 1 rfl) ?_
        refine va_iald hx hb hK hP 1 0 rfl rfl (by first | assumption | exact I_in (by omega) (by assumption) (by assumption) | exact I_in' (by omega) (by assumption) (by assumption)) d_Odds_greatest_24 ?_
        refine lv_topi (fun v_3 ev_3 => ?_)
        refine lv_icmp_le (tgt := 30) hx hb d_Odds_greatest_25 (by decide) (fun c_4 => ?_) (fun c_4 => ?_)
        · obtain ⟨v_5, ev_5⟩ : ∃ y : Int32, y = b4_0 + (1) := ⟨_, rfl⟩
          refine lv_iinc (v := v_5) (lv' := [(2, Value.int v_5), (1, Value.int b4_1), (0, Value.ref oo)]) hx hb d_Odds_greatest_30 hl (k := 0) rfl (by rw [ev_5]; rfl) (by decide) rfl (fun ls hl => ?_)
          refine lv_goto (tgt := 4) hx hb d_Odds_greatest_33 (by decide) ?_
          exact ih9_4 _ (by first | omega | (have z9 := I_up c_1 ev_5; omega)) v_5 b4_1 rfl (by have z9 := I_up c_1 ev_5; omega) (by first | assumption | exact I_in (by omega) (by assumption) (by assumption) | exact I_in (by omega) (by decide) (by rw [Int32.le_iff_toInt_le, nI_toInt (by omega)]; have e0 : (0 : Int32).toInt = 0 := rfl; rw [e0]; omega)) H locs ls (hP.sub [0, 1, 2] rfl) (hD.sub [0, 1, 2] (by decide +kernel) rfl) hS (lv_sub hl [0, 1, 2] rfl)
        · refine lv_iload_n hx hb d_Odds_greatest_28 rfl (lv_at hl 0 rfl) ?_
          refine lv_istore_n (lv' := [(1, Value.int b4_0), (2, Value.int b4_0), (0, Value.ref oo)]) hx hb d_Odds_greatest_29 rfl hl (by decide) rfl (fun ls hl => ?_)
          obtain ⟨v_6, ev_6⟩ : ∃ y : Int32, y = b4_0 + (1) := ⟨_, rfl⟩
          refine lv_iinc (v := v_6) (lv' := [(2, Value.int v_6), (1, Value.int b4_0), (0, Value.ref oo)]) hx hb d_Odds_greatest_30 hl (k := 1) rfl (by rw [ev_6]; rfl) (by decide) rfl (fun ls hl => ?_)
          refine lv_goto (tgt := 4) hx hb d_Odds_greatest_33 (by decide) ?_
          exact ih9_4 _ (by first | omega | (have z9 := I_up c_1 ev_6; omega)) v_6 b4_0 rfl (by have z9 := I_up c_1 ev_6; omega) (by first | assumption | exact I_in (by omega) (by assumption) (by assumption) | exact I_in (by omega) (by decide) (by rw [Int32.le_iff_toInt_le, nI_toInt (by omega)]; have e0 : (0 : Int32).toInt = 0 := rfl; rw [e0]; omega)) H locs ls (hP.sub [0, 1, 2] rfl) (hD.sub [0, 1, 2] (by decide +kernel) rfl) hS (lv_sub hl [0, 1, 2] rfl)
  exact J_4 _ (1 : Int32) (0 : Int32) rfl (by first | decide | assumption | omega) (by first | assumption | exact I_in (by omega) (by assumption) (by assumption) | exact I_in (by omega) (by decide) (by rw [Int32.le_iff_toInt_le, nI_toInt (by omega)]; have e0 : (0 : Int32).toInt = 0 := rfl; rw [e0]; omega)) H locs ls (hP.sub [0, 1, 2] rfl) (hD.sub [0, 1, 2] (by decide +kernel) rfl) hS (lv_sub hl [0, 1, 2] rfl)
set_option maxHeartbeats 2000000 in
set_option maxRecDepth 100000 in
theorem c_Odds_scaleTo (l : Launch) (dC : Nat → ClassId) (dI : Nat → Nat → Nat) (cI cM cO : ClassId) (sz : Nat) (oo : Nat) (osg : Int32) (osm : Int32) (ofc : Int32) (oca : Nat) (opa : Nat) (ol : Nat) (ocf : Nat → Int32) (opl : Nat) (opf : Nat → Int32) (ww : Int32) (ka : Nat) (kl : Nat) (kf : Nat → Int32) (hol : ol ≤ 64) (hopl : opl ≤ 512) (hkl : kl ≤ 64) (hol0 : 1 ≤ ol) : MetV l y_Odds_scaleTo (Cond.code y_Odds_scaleTo prog_7_method_10_code 5 none :: gw) ({ frames := 2, cells := 0, slots := 0, locals := 43 } : Room) (dC, dI) vwCl (kT cI cM cO) [Value.ref oo, Value.int ww, Value.ref ka] [(oo, Sum.inr (7, [Value.int osg, Value.int osm, Value.int ofc, Value.ref oca, Value.ref opa])), (oca, Sum.inl (cI, ol, Sum.inl ocf)), (opa, Sum.inl (cI, opl, Sum.inl opf)), (ka, Sum.inl (cI, kl, Sum.inl kf))] sz (fun (u : Int32 × (Nat → Int32)) => True) (fun (u : Int32 × (Nat → Int32)) => [(oo, Sum.inr (7, [Value.int osg, Value.int u.1, Value.int ofc, Value.ref oca, Value.ref opa])), (oca, Sum.inl (cI, ol, Sum.inl u.2)), (opa, Sum.inl (cI, opl, Sum.inl opf)), (ka, Sum.inl (cI, kl, Sum.inl kf))]) 0 0 := by
  refine my_ofV (cc := prog_7_method_10_code) (n := 5) (ret := none) (by decide) rfl (Nat.le_of_ble_eq_true rfl) ?_
  intro p e s m args below meth c R Q A ls H locs hx hb hr hts hown hlocks hml hnm hR hQ hA hl hP hK hN hD hS
  have hg : ∀ w ∈ gw, w.before args s = true := fun w h => hts w (List.mem_cons_of_mem _ h)
  have hown : s.vm.findClass "RangeCoders$Odds" = some m.cls := hown
  have hl : lv_has ls 5 [(0, Value.ref oo), (1, Value.int ww), (2, Value.ref ka)] := hl
  refine lv_aload_n hx hb d_Odds_scaleTo_0 rfl (lv_at hl 0 rfl) ?_
  refine lv_aload_n hx hb d_Odds_scaleTo_1 rfl (lv_at hl 2 rfl) ?_
  refine my_cv (wr := []) (va_runV (As := [Value.ref ka]) (rest := []) ⟨hx, hb, hml, hown, hts⟩ (c_Odds_copyCounts l dC dI cI cM cO H.size oo osg osm ofc oca opa ol ocf opl opf ka kl kf (by first | assumption | omega) (by first | assumption | omega) (by first | assumption | omega)) (cwV 1 hts (my_gV k371 k373 ks0 k14 k374) rfl rfl rfl (by decide +kernel) ⟨by rw [hR]; exact Nat.le_of_ble_eq_true rfl, by rw [hR]; exact Nat.le_of_ble_eq_true rfl⟩) (my_preV hK hN (hP.sub [0, 1, 2, 3] rfl) (hD.sub [0, 1, 2, 3] (by decide +kernel) rfl) 0 rfl rfl) rfl rfl hl.1 rfl (lv_room (Nat.le_of_ble_eq_true rfl)) d_Odds_scaleTo_2 ⟨by rw [hR]; exact Nat.le_of_ble_eq_true rfl, by rw [hR]; exact Nat.le_of_ble_eq_true rfl⟩) hP hD hS hA [0, 1, 2, 3] [] rfl rfl (by decide +kernel) (by decide +kernel) (fun u9 H locs hw_2 hP hD hS => ?_)
  obtain ⟨osmq_2, ocfq_2⟩ := u9
  have hPD : my_PD (dC, dI) vwCl A [(oo, Sum.inr (7, [Value.int osg, Value.int osmq_2, Value.int ofc, Value.ref oca, Value.ref opa])), (oca, Sum.inl (cI, ol, Sum.inl ocfq_2)), (opa, Sum.inl (cI, opl, Sum.inl opf)), (ka, Sum.inl (cI, kl, Sum.inl kf))] H := ⟨hP, hD⟩
  have hP := hPD.1
  have hD := hPD.2
  refine lv_aload_n hx hb d_Odds_scaleTo_5 rfl (lv_at hl 0 rfl) ?_
  refine va_get (D := (dC, dI)) (ci := 7) (v := .int osmq_2) (C := "RangeCoders$Odds") (T := T_Odds) (N := 5) hx hb hg in_Odds hown hK hP 0 rfl rfl 1 (by decide) (hg _ k305) (fun _ h9 => h9) rfl d_Odds_scaleTo_6 ?_
  refine lv_istore_n (lv' := [(3, Value.int osmq_2), (0, Value.ref oo), (1, Value.int ww), (2, Value.ref ka)]) hx hb d_Odds_scaleTo_9 rfl hl (by decide) rfl (fun ls hl => ?_)
  refine lv_iload_n hx hb d_Odds_scaleTo_10 rfl (lv_at hl 0 rfl) ?_
  refine lv_if_gt (tgt := 15) hx hb d_Odds_scaleTo_11 (by decide) (fun c_1 => ?_) (fun c_1 => ?_)
  · refine lv_aload_n hx hb d_Odds_scaleTo_15 rfl (lv_at hl 1 rfl) ?_
    refine lv_iconst (v := 0) hx hb d_Odds_scaleTo_16 (by decide) ?_
    refine va_put (D := (dC, dI)) (ci := 7) (v := .int 0) (ty := .int) (C := "RangeCoders$Odds") (T := T_Odds) (N := 5) hx hb hg in_Odds t_Odds o_Odds n_Odds hown hK hP hD hS 0 rfl rfl 1 (by decide) (hg _ k305) (fun _ h9 => h9) rfl (by decide +kernel) rfl rfl (Nat.le_of_ble_eq_true rfl) d_Odds_scaleTo_17 (fun H locs hP hD hS => ?_)
    have hPD : my_PD (dC, dI) vwCl A [(oo, Sum.inr (7, [Value.int osg, Value.int 0, Value.int ofc, Value.ref oca, Value.ref opa])), (oca, Sum.inl (cI, ol, Sum.inl ocfq_2)), (opa, Sum.inl (cI, opl, Sum.inl opf)), (ka, Sum.inl (cI, kl, Sum.inl kf))] H := ⟨hP, hD⟩
    have hP := hPD.1
    have hD := hPD.2
    refine lv_iconst (v := 0) hx hb d_Odds_scaleTo_20 (by decide) ?_
    refine lv_istore (lv' := [(4, Value.int 0), (3, Value.int osmq_2), (0, Value.ref oo), (1, Value.int ww), (2, Value.ref ka)]) hx hb d_Odds_scaleTo_21 hl (by decide) rfl (fun ls hl => ?_)
    have J_23 : ∀ (n9_23 : Nat) (b23_0 : Int32) (b23_1 : Int32) (b23_2 : Nat → Int32) (hn9_23 : ((nI ol).toInt - b23_0.toInt).toNat = n9_23) (hi_23 : 0 ≤ b23_0.toInt) (H : Heap) (locs : List Loc) (ls : Array Slot), va_P (dC, dI) vwCl [(oo, Sum.inr (7, [Value.int osg, Value.int b23_1, Value.int ofc, Value.ref oca, Value.ref opa])), (oca, Sum.inl (cI, ol, Sum.inl b23_2)), (opa, Sum.inl (cI, opl, Sum.inl opf)), (ka, Sum.inl (cI, kl, Sum.inl kf))] H → va_D A [(oo, Sum.inr (7, [Value.int osg, Value.int b23_1, Value.int ofc, Value.ref oca, Value.ref opa])), (oca, Sum.inl (cI, ol, Sum.inl b23_2)), (opa, Sum.inl (cI, opl, Sum.inl opf)), (ka, Sum.inl (cI, kl, Sum.inl kf))] → va_S A s.heap H locs → lv_has ls 5 [(4, Value.int b23_0), (3, Value.int osmq_2), (0, Value.ref oo), (1, Value.int ww), (2, Value.ref ka)] → W p l e R s m args below meth c H locs 0 0 Q (F0 m 23 ls []) := by
      intro n9_23
      induction n9_23 using Nat.strongRecOn with
      | ind n9_23 ih9_23 =>
        intro b23_0 b23_1 b23_2 hn9_23 hi_23 H locs ls hP hD hS hl
        refine lv_iload hx hb d_Odds_scaleTo_23 (lv_at hl 0 rfl) ?_
        refine lv_aload_n hx hb d_Odds_scaleTo_25 rfl (lv_at hl 2 rfl) ?_
        refine va_get (D := (dC, dI)) (ci := 7) (v := .ref oca) (C := "RangeCoders$Odds") (T := T_Odds) (N := 5) hx hb hg in_Odds hown hK hP 0 rfl rfl 3 (by decide) (hg _ k309) (fun _ h9 => h9) rfl d_Odds_scaleTo_26 ?_
        refine va_alen hx hb hK hP 1 0 rfl rfl (v := nI ol) rfl d_Odds_scaleTo_29 ?_
        refine lv_icmp_ge (tgt := 91) hx hb d_Odds_scaleTo_30 (by decide) (fun c_2 => ?_) (fun c_2 => ?_)
        · refine lv_aload_n hx hb d_Odds_scaleTo_91 rfl (lv_at hl 2 rfl) ?_
          refine va_get (D := (dC, dI)) (ci := 7) (v := .int b23_1) (C := "RangeCoders$Odds") (T := T_Odds) (N := 5) hx hb hg in_Odds hown hK hP 0 rfl rfl 1 (by decide) (hg _ k305) (fun _ h9 => h9) rfl d_Odds_scaleTo_92 ?_
          refine lv_iload_n hx hb d_Odds_scaleTo_95 rfl (lv_at hl 3 rfl) ?_
          refine lv_isub hx hb d_Odds_scaleTo_96 ?_
          refine lv_topi (fun v_3 ev_3 => ?_)
          refine lv_istore (lv' := [(4, Value.int v_3), (3, Value.int osmq_2), (0, Value.ref oo), (1, Value.int ww), (2, Value.ref ka)]) hx hb d_Odds_scaleTo_97 hl (by decide) rfl (fun ls hl => ?_)
          have J_99 : ∀ (n9_99 : Nat) (b99_0 : Int32) (b99_1 : Int32) (b99_2 : Nat → Int32) (hn9_99 : b99_0.toInt.toNat = n9_99) (H : Heap) (locs : List Loc) (ls : Array Slot), va_P (dC, dI) vwCl [(oo, Sum.inr (7, [Value.int osg, Value.int b99_1, Value.int ofc, Value.ref oca, Value.ref opa])), (oca, Sum.inl (cI, ol, Sum.inl b99_2)), (opa, Sum.inl (cI, opl, Sum.inl opf)), (ka, Sum.inl (cI, kl, Sum.inl kf))] H → va_D A [(oo, Sum.inr (7, [Value.int osg, Value.int b99_1, Value.int ofc, Value.ref oca, Value.ref opa])), (oca, Sum.inl (cI, ol, Sum.inl b99_2)), (opa, Sum.inl (cI, opl, Sum.inl opf)), (ka, Sum.inl (cI, kl, Sum.inl kf))] → va_S A s.heap H locs → lv_has ls 5 [(4, Value.int b99_0), (3, Value.int osmq_2), (0, Value.ref oo), (1, Value.int ww), (2, Value.ref ka)] → W p l e R s m args below meth c H locs 0 0 Q (F0 m 99 ls []) := by
            intro n9_99
            induction n9_99 using Nat.strongRecOn with
            | ind n9_99 ih9_99 =>
              intro b99_0 b99_1 b99_2 hn9_99  H locs ls hP hD hS hl
              refine lv_iload hx hb d_Odds_scaleTo_99 (lv_at hl 0 rfl) ?_
              refine lv_if_le (tgt := 119) hx hb d_Odds_scaleTo_101 (by decide) (fun c_4 => ?_) (fun c_4 => ?_)
              · refine lv_aload_n hx hb d_Odds_scaleTo_119 rfl (lv_at hl 2 rfl) ?_
                refine lv_aload_n hx hb d_Odds_scaleTo_120 rfl (lv_at hl 2 rfl) ?_
                refine my_ci (wr := [(ka, Sum.inl (cI, kl, Sum.inl kf))]) (va_runV (As := []) (rest := [Value.ref oo]) ⟨hx, hb, hml, hown, hts⟩ (c_Odds_greatest l dC dI cI cM cO H.size oo osg b99_1 ofc oca opa ol b99_2 opl opf (by first | assumption | omega) (by first | assumption | omega) (by first | assumption | omega)) (cwV 0 hts (my_gV k388 k390 ks2 k14 k391) rfl rfl rfl (by decide +kernel) ⟨by rw [hR]; exact Nat.le_of_ble_eq_true rfl, by rw [hR]; exact Nat.le_of_ble_eq_true rfl⟩) (my_preV hK hN (hP.sub [0, 1, 2] rfl) (hD.sub [0, 1, 2] (by decide +kernel) rfl) 0 rfl rfl) rfl rfl hl.1 rfl (lv_room (Nat.le_of_ble_eq_true rfl)) d_Odds_scaleTo_121 ⟨by rw [hR]; exact Nat.le_of_ble_eq_true rfl, by rw [hR]; exact Nat.le_of_ble_eq_true rfl⟩) hP hD hS hA [0, 1, 2] [3] rfl rfl (by decide +kernel) (by decide +kernel) (fun r_121 u9 H locs hw_121 hP hD hS => ?_)
                have hPD : my_PD (dC, dI) vwCl A [(ka, Sum.inl (cI, kl, Sum.inl kf)), (oo, Sum.inr (7, [Value.int osg, Value.int b99_1, Value.int ofc, Value.ref oca, Value.ref opa])), (oca, Sum.inl (cI, ol, Sum.inl b99_2)), (opa, Sum.inl (cI, opl, Sum.inl opf))] H := ⟨hP, hD⟩
                have hP := hPD.1
                have hD := hPD.2
                refine lv_iload_n hx hb d_Odds_scaleTo_124 rfl (lv_at hl 3 rfl) ?_
                refine lv_aload_n hx hb d_Odds_scaleTo_125 rfl (lv_at hl 2 rfl) ?_
                refine va_get (D := (dC, dI)) (ci := 7) (v := .int b99_1) (C := "RangeCoders$Odds") (T := T_Odds) (N := 5) hx hb hg in_Odds hown hK hP 1 rfl rfl 1 (by decide) (hg _ k305) (fun _ h9 => h9) rfl d_Odds_scaleTo_126 ?_
                refine lv_isub hx hb d_Odds_scaleTo_129 ?_
                refine lv_topi (fun v_5 ev_5 => ?_)
                refine my_cv (wr := [(ka, Sum.inl (cI, kl, Sum.inl kf))]) (va_runV (As := [Value.int r_121, Value.int v_5]) (rest := []) ⟨hx, hb, hml, hown, hts⟩ (c_Odds_grow l dC dI cI cM cO H.size oo osg b99_1 ofc oca opa ol b99_2 opl opf r_121 v_5 (by first | assumption | omega) (by first | assumption | omega)) (cwV 2 hts (my_gV k392 k393 k394 k14 k395) rfl rfl rfl (by decide +kernel) ⟨by rw [hR]; exact Nat.le_of_ble_eq_true rfl, by rw [hR]; exact Nat.le_of_ble_eq_true rfl⟩) (my_preV hK hN (hP.sub [1, 2, 3] rfl) (hD.sub [1, 2, 3] (by decide +kernel) rfl) 0 rfl rfl) rfl rfl hl.1 rfl (lv_room (Nat.le_of_ble_eq_true rfl)) d_Odds_scaleTo_130 ⟨by rw [hR]; exact Nat.le_of_ble_eq_true rfl, by rw [hR]; exact Nat.le_of_ble_eq_true rfl⟩) hP hD hS hA [1, 2, 3] [0] rfl rfl (by decide +kernel) (by decide +kernel) (fun u9 H locs hw_130 hP hD hS => ?_)
                obtain ⟨osmq_130, ocfq_130⟩ := u9
                have hPD : my_PD (dC, dI) vwCl A [(ka, Sum.inl (cI, kl, Sum.inl kf)), (oo, Sum.inr (7, [Value.int osg, Value.int osmq_130, Value.int ofc, Value.ref oca, Value.ref opa])), (oca, Sum.inl (cI, ol, Sum.inl ocfq_130)), (opa, Sum.inl (cI, opl, Sum.inl opf))] H := ⟨hP, hD⟩
                have hP := hPD.1
                have hD := hPD.2
                exact my_vret hx hb hr hlocks hQ hK hS (Nat.le_refl _) (Nat.le_refl _) (osmq_130, ocfq_130) (trivial) (hP.sub [1, 2, 3, 0] rfl) (hD.sub [1, 2, 3, 0] (by decide +kernel) rfl) d_Odds_scaleTo_133
              · refine lv_aload_n hx hb d_Odds_scaleTo_104 rfl (lv_at hl 2 rfl) ?_
                refine lv_aload_n hx hb d_Odds_scaleTo_105 rfl (lv_at hl 2 rfl) ?_
                refine my_ci (wr := [(ka, Sum.inl (cI, kl, Sum.inl kf))]) (va_runV (As := []) (rest := [Value.ref oo]) ⟨hx, hb, hml, hown, hts⟩ (c_Odds_greatest l dC dI cI cM cO H.size oo osg b99_1 ofc oca opa ol b99_2 opl opf (by first | assumption | omega) (by first | assumption | omega) (by first | assumption | omega)) (cwV 0 hts (my_gV k388 k390 ks2 k14 k391) rfl rfl rfl (by decide +kernel) ⟨by rw [hR]; exact Nat.le_of_ble_eq_true rfl, by rw [hR]; exact Nat.le_of_ble_eq_true rfl⟩) (my_preV hK hN (hP.sub [0, 1, 2] rfl) (hD.sub [0, 1, 2] (by decide +kernel) rfl) 0 rfl rfl) rfl rfl hl.1 rfl (lv_room (Nat.le_of_ble_eq_true rfl)) d_Odds_scaleTo_106 ⟨by rw [hR]; exact Nat.le_of_ble_eq_true rfl, by rw [hR]; exact Nat.le_of_ble_eq_true rfl⟩) hP hD hS hA [0, 1, 2] [3] rfl rfl (by decide +kernel) (by decide +kernel) (fun r_106 u9 H locs hw_106 hP hD hS => ?_)
                have hPD : my_PD (dC, dI) vwCl A [(ka, Sum.inl (cI, kl, Sum.inl kf)), (oo, Sum.inr (7, [Value.int osg, Value.int b99_1, Value.int ofc, Value.ref oca, Value.ref opa])), (oca, Sum.inl (cI, ol, Sum.inl b99_2)), (opa, Sum.inl (cI, opl, Sum.inl opf))] H := ⟨hP, hD⟩
                have hP := hPD.1
                have hD := hPD.2
                refine lv_iconst (v := (-1)) hx hb d_Odds_scaleTo_109 (by decide) ?_
                refine my_cv (wr := [(ka, Sum.inl (cI, kl, Sum.inl kf))]) (va_runV (As := [Value.int r_106, Value.int (-1)]) (rest := []) ⟨hx, hb, hml, hown, hts⟩ (c_Odds_grow l dC dI cI cM cO H.size oo osg b99_1 ofc oca opa ol b99_2 opl opf r_106 (-1) (by first | assumption | omega) (by first | assumption | omega)) (cwV 2 hts (my_gV k392 k393 k394 k14 k395) rfl rfl rfl (by decide +kernel) ⟨by rw [hR]; exact Nat.le_of_ble_eq_true rfl, by rw [hR]; exact Nat.le_of_ble_eq_true rfl⟩) (my_preV hK hN (hP.sub [1, 2, 3] rfl) (hD.sub [1, 2, 3] (by decide +kernel) rfl) 0 rfl rfl) rfl rfl hl.1 rfl (lv_room (Nat.le_of_ble_eq_true rfl)) d_Odds_scaleTo_110 ⟨by rw [hR]; exact Nat.le_of_ble_eq_true rfl, by rw [hR]; exact Nat.le_of_ble_eq_true rfl⟩) hP hD hS hA [1, 2, 3] [0] rfl rfl (by decide +kernel) (by decide +kernel) (fun u9 H locs hw_110 hP hD hS => ?_)
                obtain ⟨osmq_110, ocfq_110⟩ := u9
                have hPD : my_PD (dC, dI) vwCl A [(ka, Sum.inl (cI, kl, Sum.inl kf)), (oo, Sum.inr (7, [Value.int osg, Value.int osmq_110, Value.int ofc, Value.ref oca, Value.ref opa])), (oca, Sum.inl (cI, ol, Sum.inl ocfq_110)), (opa, Sum.inl (cI, opl, Sum.inl opf))] H := ⟨hP, hD⟩
                have hP := hPD.1
                have hD := hPD.2
                obtain ⟨v_6, ev_6⟩ : ∃ y : Int32, y = b99_0 + (-1) := ⟨_, rfl⟩
                refine lv_iinc (v := v_6) (lv' := [(4, Value.int v_6), (3, Value.int osmq_2), (0, Value.ref oo), (1, Value.int ww), (2, Value.ref ka)]) hx hb d_Odds_scaleTo_113 hl (k := 0) rfl (by rw [ev_6]; rfl) (by decide) rfl (fun ls hl => ?_)
                refine lv_goto (tgt := 99) hx hb d_Odds_scaleTo_116 (by decide) ?_
                exact ih9_99 _ (by first | omega | (have z9 := I_dnp c_4 ev_6; omega)) v_6 osmq_110 ocfq_110 rfl  H locs ls (hP.sub [1, 2, 3, 0] rfl) (hD.sub [1, 2, 3, 0] (by decide +kernel) rfl) hS (lv_sub hl [0, 1, 2, 3, 4] rfl)
          exact J_99 _ v_3 b23_1 b23_2 rfl  H locs ls (hP.sub [0, 1, 2, 3] rfl) (hD.sub [0, 1, 2, 3] (by decide +kernel) rfl) hS (lv_sub hl [0, 1, 2, 3, 4] rfl)
        · refine lv_aload_n hx hb d_Odds_scaleTo_33 rfl (lv_at hl 2 rfl) ?_
          refine va_get (D := (dC, dI)) (ci := 7) (v := .ref oca) (C := "RangeCoders$Odds") (T := T_Odds) (N := 5) hx hb hg in_Odds hown hK hP 0 rfl rfl 3 (by decide) (hg _ k309) (fun _ h9 => h9) rfl d_Odds_scaleTo_34 ?_
          refine lv_iload hx hb d_Odds_scaleTo_37 (lv_at hl 0 rfl) ?_
          refine lv_aload_n hx hb d_Odds_scaleTo_39 rfl (lv_at hl 2 rfl) ?_
          refine va_get (D := (dC, dI)) (ci := 7) (v := .ref oca) (C := "RangeCoders$Odds") (T := T_Odds) (N := 5) hx hb hg in_Odds hown hK hP 0 rfl rfl 3 (by decide) (hg _ k309) (fun _ h9 => h9) rfl d_Odds_scaleTo_40 ?_
          refine lv_iload hx hb d_Odds_scaleTo_43 (lv_at hl 0 rfl) ?_
          refine va_iald hx hb hK hP 1 0 rfl rfl (by first | assumption | exact I_in (by omega) (by assumption) (by assumption) | exact I_in' (by omega) (by assumption) (by assumption)) d_Odds_scaleTo_45 ?_
          refine lv_topi (fun v_7 ev_7 => ?_)
          refine lv_if_ne (tgt := 53) hx hb d_Odds_scaleTo_46 (by decide) (fun c_8 => ?_) (fun c_8 => ?_)
          · refine lv_iconst (v := 1) hx hb d_Odds_scaleTo_53 (by decide) ?_
            refine lv_aload_n hx hb d_Odds_scaleTo_54 rfl (lv_at hl 2 rfl) ?_
            refine va_get (D := (dC, dI)) (ci := 7) (v := .ref oca) (C := "RangeCoders$Odds") (T := T_Odds) (N := 5) hx hb hg in_Odds hown hK hP 0 rfl rfl 3 (by decide) (hg _ k309) (fun _ h9 => h9) rfl d_Odds_scaleTo_55 ?_
            refine lv_iload hx hb d_Odds_scaleTo_58 (lv_at hl 0 rfl) ?_
            refine va_iald hx hb hK hP 1 0 rfl rfl (by first | assumption | exact I_in (by omega) (by assumption) (by assumption) | exact I_in' (by omega) (by assumption) (by assumption)) d_Odds_scaleTo_60 ?_
            refine lv_topi (fun v_9 ev_9 => ?_)
            refine lv_iload_n hx hb d_Odds_scaleTo_61 rfl (lv_at hl 3 rfl) ?_
            refine lv_imul hx hb d_Odds_scaleTo_62 ?_
            refine lv_topi (fun v_10 ev_10 => ?_)
            refine lv_iload_n hx hb d_Odds_scaleTo_63 rfl (lv_at hl 1 rfl) ?_
            refine lv_idiv hx hb d_Odds_scaleTo_64 (by first | decide | exact I_nzp (by assumption) | exact I_nz (by assumption)) ?_
            refine lv_topi (fun v_11 ev_11 => ?_)
            refine va_mmax hx hb (by rw [hml]; exact hl.1.symm) hown (hg _ k387) (hg _ k34) (hg _ k2) (hg _ k35) (by rw [hR]; exact Nat.le_of_ble_eq_true rfl) (by rw [hR]; exact Nat.le_of_ble_eq_true rfl) (Nat.zero_le _) (Nat.zero_le _) d_Odds_scaleTo_65 ?_
            refine lv_topi (fun v_12 ev_12 => ?_)
            refine va_iast hx hb hK hP hD hS 1 0 rfl rfl (by first | assumption | exact I_in (by omega) (by assumption) (by assumption) | exact I_in' (by omega) (by assumption) (by assumption)) d_Odds_scaleTo_68 (fun H locs hP hD hS => ?_)
            have hPD : my_PD (dC, dI) vwCl A [(oo, Sum.inr (7, [Value.int osg, Value.int b23_1, Value.int ofc, Value.ref oca, Value.ref opa])), (oca, Sum.inl (cI, ol, Sum.inl (upd b23_2 b23_0.toNatClampNeg v_12))), (opa, Sum.inl (cI, opl, Sum.inl opf)), (ka, Sum.inl (cI, kl, Sum.inl kf))] H := ⟨hP, hD⟩
            have hP := hPD.1
            have hD := hPD.2
            refine lv_aload_n hx hb d_Odds_scaleTo_69 rfl (lv_at hl 2 rfl) ?_
            refine lv_dup hx hb d_Odds_scaleTo_70 rfl ?_
            refine va_get (D := (dC, dI)) (ci := 7) (v := .int b23_1) (C := "RangeCoders$Odds") (T := T_Odds) (N := 5) hx hb hg in_Odds hown hK hP 0 rfl rfl 1 (by decide) (hg _ k305) (fun _ h9 => h9) rfl d_Odds_scaleTo_71 ?_
            refine lv_aload_n hx hb d_Odds_scaleTo_74 rfl (lv_at hl 2 rfl) ?_
            refine va_get (D := (dC, dI)) (ci := 7) (v := .ref oca) (C := "RangeCoders$Odds") (T := T_Odds) (N := 5) hx hb hg in_Odds hown hK hP 0 rfl rfl 3 (by decide) (hg _ k309) (fun _ h9 => h9) rfl d_Odds_scaleTo_75 ?_
            refine lv_iload hx hb d_Odds_scaleTo_78 (lv_at hl 0 rfl) ?_
            refine va_iald hx hb hK hP 1 0 rfl rfl (by first | assumption | exact I_in (by omega) (by assumption) (by assumption) | exact I_in' (by omega) (by assumption) (by assumption)) d_Odds_scaleTo_80 ?_
            refine lv_topi (fun v_13 ev_13 => ?_)
            refine lv_iadd hx hb d_Odds_scaleTo_81 ?_
            refine lv_topi (fun v_14 ev_14 => ?_)
            refine va_put (D := (dC, dI)) (ci := 7) (v := .int v_14) (ty := .int) (C := "RangeCoders$Odds") (T := T_Odds) (N := 5) hx hb hg in_Odds t_Odds o_Odds n_Odds hown hK hP hD hS 0 rfl rfl 1 (by decide) (hg _ k305) (fun _ h9 => h9) rfl (by decide +kernel) rfl rfl (Nat.le_of_ble_eq_true rfl) d_Odds_scaleTo_82 (fun H locs hP hD hS => ?_)
            have hPD : my_PD (dC, dI) vwCl A [(oo, Sum.inr (7, [Value.int osg, Value.int v_14, Value.int ofc, Value.ref oca, Value.ref opa])), (oca, Sum.inl (cI, ol, Sum.inl (upd b23_2 b23_0.toNatClampNeg v_12))), (opa, Sum.inl (cI, opl, Sum.inl opf)), (ka, Sum.inl (cI, kl, Sum.inl kf))] H := ⟨hP, hD⟩
            have hP := hPD.1
            have hD := hPD.2
            obtain ⟨v_15, ev_15⟩ : ∃ y : Int32, y = b23_0 + (1) := ⟨_, rfl⟩
            refine lv_iinc (v := v_15) (lv' := [(4, Value.int v_15), (3, Value.int osmq_2), (0, Value.ref oo), (1, Value.int ww), (2, Value.ref ka)]) hx hb d_Odds_scaleTo_85 hl (k := 0) rfl (by rw [ev_15]; rfl) (by decide) rfl (fun ls hl => ?_)
            refine lv_goto (tgt := 23) hx hb d_Odds_scaleTo_88 (by decide) ?_
            exact ih9_23 _ (by first | omega | (have z9 := I_up c_2 ev_15; omega)) v_15 v_14 (upd b23_2 b23_0.toNatClampNeg v_12) rfl (by have z9 := I_up c_2 ev_15; omega) H locs ls (hP.sub [0, 1, 2, 3] rfl) (hD.sub [0, 1, 2, 3] (by decide +kernel) rfl) hS (lv_sub hl [0, 1, 2, 3, 4] rfl)
          · refine lv_iconst (v := 0) hx hb d_Odds_scaleTo_49 (by decide) ?_
            refine lv_goto (tgt := 68) hx hb d_Odds_scaleTo_50 (by decide) ?_
            refine va_iast hx hb hK hP hD hS 1 0 rfl rfl (by first | assumption | exact I_in (by omega) (by assumption) (by assumption) | exact I_in' (by omega) (by assumption) (by assumption)) d_Odds_scaleTo_68 (fun H locs hP hD hS => ?_)
            have hPD : my_PD (dC, dI) vwCl A [(oo, Sum.inr (7, [Value.int osg, Value.int b23_1, Value.int ofc, Value.ref oca, Value.ref opa])), (oca, Sum.inl (cI, ol, Sum.inl (upd b23_2 b23_0.toNatClampNeg 0))), (opa, Sum.inl (cI, opl, Sum.inl opf)), (ka, Sum.inl (cI, kl, Sum.inl kf))] H := ⟨hP, hD⟩
            have hP := hPD.1
            have hD := hPD.2
            refine lv_aload_n hx hb d_Odds_scaleTo_69 rfl (lv_at hl 2 rfl) ?_
            refine lv_dup hx hb d_Odds_scaleTo_70 rfl ?_
            refine va_get (D := (dC, dI)) (ci := 7) (v := .int b23_1) (C := "RangeCoders$Odds") (T := T_Odds) (N := 5) hx hb hg in_Odds hown hK hP 0 rfl rfl 1 (by decide) (hg _ k305) (fun _ h9 => h9) rfl d_Odds_scaleTo_71 ?_
            refine lv_aload_n hx hb d_Odds_scaleTo_74 rfl (lv_at hl 2 rfl) ?_
            refine va_get (D := (dC, dI)) (ci := 7) (v := .ref oca) (C := "RangeCoders$Odds") (T := T_Odds) (N := 5) hx hb hg in_Odds hown hK hP 0 rfl rfl 3 (by decide) (hg _ k309) (fun _ h9 => h9) rfl d_Odds_scaleTo_75 ?_
            refine lv_iload hx hb d_Odds_scaleTo_78 (lv_at hl 0 rfl) ?_
            refine va_iald hx hb hK hP 1 0 rfl rfl (by first | assumption | exact I_in (by omega) (by assumption) (by assumption) | exact I_in' (by omega) (by assumption) (by assumption)) d_Odds_scaleTo_80 ?_
            refine lv_topi (fun v_16 ev_16 => ?_)
            refine lv_iadd hx hb d_Odds_scaleTo_81 ?_
            refine lv_topi (fun v_17 ev_17 => ?_)
            refine va_put (D := (dC, dI)) (ci := 7) (v := .int v_17) (ty := .int) (C := "RangeCoders$Odds") (T := T_Odds) (N := 5) hx hb hg in_Odds t_Odds o_Odds n_Odds hown hK hP hD hS 0 rfl rfl 1 (by decide) (hg _ k305) (fun _ h9 => h9) rfl (by decide +kernel) rfl rfl (Nat.le_of_ble_eq_true rfl) d_Odds_scaleTo_82 (fun H locs hP hD hS => ?_)
            have hPD : my_PD (dC, dI) vwCl A [(oo, Sum.inr (7, [Value.int osg, Value.int v_17, Value.int ofc, Value.ref oca, Value.ref opa])), (oca, Sum.inl (cI, ol, Sum.inl (upd b23_2 b23_0.toNatClampNeg 0))), (opa, Sum.inl (cI, opl, Sum.inl opf)), (ka, Sum.inl (cI, kl, Sum.inl kf))] H := ⟨hP, hD⟩
            have hP := hPD.1
            have hD := hPD.2
            obtain ⟨v_18, ev_18⟩ : ∃ y : Int32, y = b23_0 + (1) := ⟨_, rfl⟩
            refine lv_iinc (v := v_18) (lv' := [(4, Value.int v_18), (3, Value.int osmq_2), (0, Value.ref oo), (1, Value.int ww), (2, Value.ref ka)]) hx hb d_Odds_scaleTo_85 hl (k := 0) rfl (by rw [ev_18]; rfl) (by decide) rfl (fun ls hl => ?_)
            refine lv_goto (tgt := 23) hx hb d_Odds_scaleTo_88 (by decide) ?_
            exact ih9_23 _ (by first | omega | (have z9 := I_up c_2 ev_18; omega)) v_18 v_17 (upd b23_2 b23_0.toNatClampNeg 0) rfl (by have z9 := I_up c_2 ev_18; omega) H locs ls (hP.sub [0, 1, 2, 3] rfl) (hD.sub [0, 1, 2, 3] (by decide +kernel) rfl) hS (lv_sub hl [0, 1, 2, 3, 4] rfl)
    exact J_23 _ (0 : Int32) (0 : Int32) ocfq_2 rfl (by first | decide | assumption | omega) H locs ls (hP.sub [0, 1, 2, 3] rfl) (hD.sub [0, 1, 2, 3] (by decide +kernel) rfl) hS (lv_sub hl [0, 1, 2, 3, 4] rfl)
  · exact my_vret hx hb hr hlocks hQ hK hS (Nat.le_refl _) (Nat.le_refl _) (osmq_2, ocfq_2) (trivial) (hP.sub [0, 1, 2, 3] rfl) (hD.sub [0, 1, 2, 3] (by decide +kernel) rfl) d_Odds_scaleTo_14
set_option maxHeartbeats 2000000 in
set_option maxRecDepth 100000 in
theorem c_Odds_spread (l : Launch) (dC : Nat → ClassId) (dI : Nat → Nat → Nat) (cI cM cO : ClassId) (sz : Nat) (oo : Nat) (osg : Int32) (osm : Int32) (ofc : Int32) (oca : Nat) (opa : Nat) (ol : Nat) (ocf : Nat → Int32) (opl : Nat) (opf : Nat → Int32) (hol : ol ≤ 64) (hopl : opl ≤ 512) : MetV l y_Odds_spread (Cond.code y_Odds_spread prog_7_method_11_code 4 none :: gw) ({ frames := 0, cells := 0, slots := 0, locals := 0 } : Room) (dC, dI) vwCl (kT cI cM cO) [Value.ref oo] [(oo, Sum.inr (7, [Value.int osg, Value.int osm, Value.int ofc, Value.ref oca, Value.ref opa])), (oca, Sum.inl (cI, ol, Sum.inl ocf)), (opa, Sum.inl (cI, opl, Sum.inl opf))] sz (fun (u : (Nat → Int32)) => True) (fun (u : (Nat → Int32)) => [(oo, Sum.inr (7, [Value.int osg, Value.int osm, Value.int ofc, Value.ref oca, Value.ref opa])), (oca, Sum.inl (cI, ol, Sum.inl ocf)), (opa, Sum.inl (cI, opl, Sum.inl u))]) 0 0 := by
  refine my_ofV (cc := prog_7_method_11_code) (n := 4) (ret := none) (by decide) rfl (Nat.le_of_ble_eq_true rfl) ?_
  intro p e s m args below meth c R Q A ls H locs hx hb hr hts hown hlocks hml hnm hR hQ hA hl hP hK hN hD hS
  have hg : ∀ w ∈ gw, w.before args s = true := fun w h => hts w (List.mem_cons_of_mem _ h)
  have hown : s.vm.findClass "RangeCoders$Odds" = some m.cls := hown
  have hl : lv_has ls 4 [(0, Value.ref oo)] := hl
  refine lv_iconst (v := 0) hx hb d_Odds_spread_0 (by decide) ?_
  refine lv_istore_n (lv' := [(1, Value.int 0), (0, Value.ref oo)]) hx hb d_Odds_spread_1 rfl hl (by decide) rfl (fun ls hl => ?_)
  refine lv_iconst (v := 0) hx hb d_Odds_spread_2 (by decide) ?_
  refine lv_istore_n (lv' := [(2, Value.int 0), (1, Value.int 0), (0, Value.ref oo)]) hx hb d_Odds_spread_3 rfl hl (by decide) rfl (fun ls hl => ?_)
  have J_4 : ∀ (n9_4 : Nat) (b4_0 : Int32) (b4_1 : Int32) (b4_2 : Nat → Int32) (hn9_4 : ((nI ol).toInt - b4_0.toInt).toNat = n9_4) (hi_4 : 0 ≤ b4_0.toInt) (H : Heap) (locs : List Loc) (ls : Array Slot), va_P (dC, dI) vwCl [(oo, Sum.inr (7, [Value.int osg, Value.int osm, Value.int ofc, Value.ref oca, Value.ref opa])), (oca, Sum.inl (cI, ol, Sum.inl ocf)), (opa, Sum.inl (cI, opl, Sum.inl b4_2))] H → va_D A [(oo, Sum.inr (7, [Value.int osg, Value.int osm, Value.int ofc, Value.ref oca, Value.ref opa])), (oca, Sum.inl (cI, ol, Sum.inl ocf)), (opa, Sum.inl (cI, opl, Sum.inl b4_2))] → va_S A s.heap H locs → lv_has ls 4 [(2, Value.int b4_0), (1, Value.int b4_1), (0, Value.ref oo)] → W p l e R s m args below meth c H locs 0 0 Q (F0 m 4 ls []) := by
    intro n9_4
    induction n9_4 using Nat.strongRecOn with
    | ind n9_4 ih9_4 =>
      intro b4_0 b4_1 b4_2 hn9_4 hi_4 H locs ls hP hD hS hl
      refine lv_iload_n hx hb d_Odds_spread_4 rfl (lv_at hl 0 rfl) ?_
      refine lv_aload_n hx hb d_Odds_spread_5 rfl (lv_at hl 2 rfl) ?_
      refine va_get (D := (dC, dI)) (ci := 7) (v := .ref oca) (C := "RangeCoders$Odds") (T := T_Odds) (N := 5) hx hb hg in_Odds hown hK hP 0 rfl rfl 3 (by decide) (hg _ k309) (fun _ h9 => h9) rfl d_Odds_spread_6 ?_
      refine va_alen hx hb hK hP 1 0 rfl rfl (v := nI ol) rfl d_Odds_spread_9 ?_
      refine lv_icmp_ge (tgt := 69) hx hb d_Odds_spread_10 (by decide) (fun c_1 => ?_) (fun c_1 => ?_)
      · exact my_vret hx hb hr hlocks hQ hK hS (Nat.le_refl _) (Nat.le_refl _) (b4_2) (trivial) (hP.sub [0, 1, 2] rfl) (hD.sub [0, 1, 2] (by decide +kernel) rfl) d_Odds_spread_69
      · refine lv_iconst (v := 0) hx hb d_Odds_spread_13 (by decide) ?_
        refine lv_istore_n (lv' := [(3, Value.int 0), (2, Value.int b4_0), (1, Value.int b4_1), (0, Value.ref oo)]) hx hb d_Odds_spread_14 rfl hl (by decide) rfl (fun ls hl => ?_)
        have J_15 : ∀ (n9_15 : Nat) (b15_0 : Int32) (b15_1 : Int32) (b15_2 : Nat → Int32) (hn9_15 : ((ocf b4_0.toNatClampNeg).toInt - b15_0.toInt).toNat = n9_15) (hi_15 : 0 ≤ b15_0.toInt) (H : Heap) (locs : List Loc) (ls : Array Slot), va_P (dC, dI) vwCl [(oo, Sum.inr (7, [Value.int osg, Value.int osm, Value.int ofc, Value.ref oca, Value.ref opa])), (oca, Sum.inl (cI, ol, Sum.inl ocf)), (opa, Sum.inl (cI, opl, Sum.inl b15_2))] H → va_D A [(oo, Sum.inr (7, [Value.int osg, Value.int osm, Value.int ofc, Value.ref oca, Value.ref opa])), (oca, Sum.inl (cI, ol, Sum.inl ocf)), (opa, Sum.inl (cI, opl, Sum.inl b15_2))] → va_S A s.heap H locs → lv_has ls 4 [(3, Value.int b15_0), (2, Value.int b4_0), (1, Value.int b15_1), (0, Value.ref oo)] → W p l e R s m args below meth c H locs 0 0 Q (F0 m 15 ls []) := by
          intro n9_15
          induction n9_15 using Nat.strongRecOn with
          | ind n9_15 ih9_15 =>
            intro b15_0 b15_1 b15_2 hn9_15 hi_15 H locs ls hP hD hS hl
            refine lv_iload_n hx hb d_Odds_spread_15 rfl (lv_at hl 0 rfl) ?_
            refine lv_aload_n hx hb d_Odds_spread_16 rfl (lv_at hl 3 rfl) ?_
            refine va_get (D := (dC, dI)) (ci := 7) (v := .ref oca) (C := "RangeCoders$Odds") (T := T_Odds) (N := 5) hx hb hg in_Odds hown hK hP 0 rfl rfl 3 (by decide) (hg _ k309) (fun _ h9 => h9) rfl d_Odds_spread_17 ?_
            refine lv_iload_n hx hb d_Odds_spread_20 rfl (lv_at hl 1 rfl) ?_
            refine va_iald hx hb hK hP 1 0 rfl rfl (by first | assumption | exact I_in (by omega) (by assumption) (by assumption) | exact I_in' (by omega) (by assumption) (by assumption)) d_Odds_spread_21 ?_
            refine lv_topi (fun v_2 ev_2 => ?_)
            refine lv_icmp_ge (tgt := 63) hx hb d_Odds_spread_22 (by decide) (fun c_3 => ?_) (fun c_3 => ?_)
            · obtain ⟨v_4, ev_4⟩ : ∃ y : Int32, y = b4_0 + (1) := ⟨_, rfl⟩
              refine lv_iinc (v := v_4) (lv' := [(2, Value.int v_4), (3, Value.int b15_0), (1, Value.int b15_1), (0, Value.ref oo)]) hx hb d_Odds_spread_63 hl (k := 1) rfl (by rw [ev_4]; rfl) (by decide) rfl (fun ls hl => ?_)
              refine lv_goto (tgt := 4) hx hb d_Odds_spread_66 (by decide) ?_
              exact ih9_4 _ (by first | omega | (have z9 := I_up c_1 ev_4; omega)) v_4 b15_1 b15_2 rfl (by have z9 := I_up c_1 ev_4; omega) H locs ls (hP.sub [0, 1, 2] rfl) (hD.sub [0, 1, 2] (by decide +kernel) rfl) hS (lv_sub hl [0, 2, 3] rfl)
            · refine lv_iload_n hx hb d_Odds_spread_25 rfl (lv_at hl 2 rfl) ?_
              refine lv_if_lt (tgt := 57) hx hb d_Odds_spread_26 (by decide) (fun c_5 => ?_) (fun c_5 => ?_)
              · obtain ⟨v_6, ev_6⟩ : ∃ y : Int32, y = b15_0 + (1) := ⟨_, rfl⟩
                refine lv_iinc (v := v_6) (lv' := [(3, Value.int v_6), (2, Value.int b4_0), (1, Value.int b15_1), (0, Value.ref oo)]) hx hb d_Odds_spread_57 hl (k := 0) rfl (by rw [ev_6]; rfl) (by decide) rfl (fun ls hl => ?_)
                refine lv_goto (tgt := 15) hx hb d_Odds_spread_60 (by decide) ?_
                exact ih9_15 _ (by first | omega | (have z9 := I_up c_3 ev_6; rw [ev_2] at z9; omega)) v_6 b15_1 b15_2 rfl (by have z9 := I_up c_3 ev_6; omega) H locs ls (hP.sub [0, 1, 2] rfl) (hD.sub [0, 1, 2] (by decide +kernel) rfl) hS (lv_sub hl [0, 1, 2, 3] rfl)
              · refine lv_iload_n hx hb d_Odds_spread_29 rfl (lv_at hl 2 rfl) ?_
                refine lv_aload_n hx hb d_Odds_spread_30 rfl (lv_at hl 3 rfl) ?_
                refine va_get (D := (dC, dI)) (ci := 7) (v := .ref opa) (C := "RangeCoders$Odds") (T := T_Odds) (N := 5) hx hb hg in_Odds hown hK hP 0 rfl rfl 4 (by decide) (hg _ k310) (fun _ h9 => h9) rfl d_Odds_spread_31 ?_
                refine va_alen hx hb hK hP 2 0 rfl rfl (v := nI opl) rfl d_Odds_spread_34 ?_
                refine lv_icmp_ge (tgt := 57) hx hb d_Odds_spread_35 (by decide) (fun c_7 => ?_) (fun c_7 => ?_)
                · obtain ⟨v_8, ev_8⟩ : ∃ y : Int32, y = b15_0 + (1) := ⟨_, rfl⟩
                  refine lv_iinc (v := v_8) (lv' := [(3, Value.int v_8), (2, Value.int b4_0), (1, Value.int b15_1), (0, Value.ref oo)]) hx hb d_Odds_spread_57 hl (k := 0) rfl (by rw [ev_8]; rfl) (by decide) rfl (fun ls hl => ?_)
                  refine lv_goto (tgt := 15) hx hb d_Odds_spread_60 (by decide) ?_
                  exact ih9_15 _ (by first | omega | (have z9 := I_up c_3 ev_8; rw [ev_2] at z9; omega)) v_8 b15_1 b15_2 rfl (by have z9 := I_up c_3 ev_8; omega) H locs ls (hP.sub [0, 1, 2] rfl) (hD.sub [0, 1, 2] (by decide +kernel) rfl) hS (lv_sub hl [0, 1, 2, 3] rfl)
                · refine lv_aload_n hx hb d_Odds_spread_38 rfl (lv_at hl 3 rfl) ?_
                  refine va_get (D := (dC, dI)) (ci := 7) (v := .ref opa) (C := "RangeCoders$Odds") (T := T_Odds) (N := 5) hx hb hg in_Odds hown hK hP 0 rfl rfl 4 (by decide) (hg _ k310) (fun _ h9 => h9) rfl d_Odds_spread_39 ?_
                  refine lv_iload_n hx hb d_Odds_spread_42 rfl (lv_at hl 2 rfl) ?_
                  refine lv_iload_n hx hb d_Odds_spread_43 rfl (lv_at hl 1 rfl) ?_
                  refine va_iast hx hb hK hP hD hS 2 0 rfl rfl (by first | assumption | exact I_in (by omega) (by assumption) (by assumption) | exact I_in' (by omega) (by assumption) (by assumption)) d_Odds_spread_44 (fun H locs hP hD hS => ?_)
                  have hPD : my_PD (dC, dI) vwCl A [(oo, Sum.inr (7, [Value.int osg, Value.int osm, Value.int ofc, Value.ref oca, Value.ref opa])), (oca, Sum.inl (cI, ol, Sum.inl ocf)), (opa, Sum.inl (cI, opl, Sum.inl (upd b15_2 b15_1.toNatClampNeg b4_0)))] H := ⟨hP, hD⟩
                  have hP := hPD.1
                  have hD := hPD.2
                  refine lv_iload_n hx hb d_Odds_spread_45 rfl (lv_at hl 2 rfl) ?_
                  refine lv_sipush (v := 323) hx hb d_Odds_spread_46 (by decide) ?_
                  refine lv_iadd hx hb d_Odds_spread_49 ?_
                  refine lv_topi (fun v_9 ev_9 => ?_)
                  refine lv_aload_n hx hb d_Odds_spread_50 rfl (lv_at hl 3 rfl) ?_
                  refine va_get (D := (dC, dI)) (ci := 7) (v := .ref opa) (C := "RangeCoders$Odds") (T := T_Odds) (N := 5) hx hb hg in_Odds hown hK hP 0 rfl rfl 4 (by decide) (hg _ k310) (fun _ h9 => h9) rfl d_Odds_spread_51 ?_
                  refine va_alen hx hb hK hP 2 0 rfl rfl (v := nI opl) rfl d_Odds_spread_54 ?_
                  refine lv_irem hx hb d_Odds_spread_55 (by first | exact I_lenz (by omega) (by assumption) (by assumption)) ?_
                  refine lv_topi (fun v_10 ev_10 => ?_)
                  refine lv_istore_n (lv' := [(1, Value.int v_10), (3, Value.int b15_0), (2, Value.int b4_0), (0, Value.ref oo)]) hx hb d_Odds_spread_56 rfl hl (by decide) rfl (fun ls hl => ?_)
                  obtain ⟨v_11, ev_11⟩ : ∃ y : Int32, y = b15_0 + (1) := ⟨_, rfl⟩
                  refine lv_iinc (v := v_11) (lv' := [(3, Value.int v_11), (1, Value.int v_10), (2, Value.int b4_0), (0, Value.ref oo)]) hx hb d_Odds_spread_57 hl (k := 1) rfl (by rw [ev_11]; rfl) (by decide) rfl (fun ls hl => ?_)
                  refine lv_goto (tgt := 15) hx hb d_Odds_spread_60 (by decide) ?_
                  exact ih9_15 _ (by first | omega | (have z9 := I_up c_3 ev_11; rw [ev_2] at z9; omega)) v_11 v_10 (upd b15_2 b15_1.toNatClampNeg b4_0) rfl (by have z9 := I_up c_3 ev_11; omega) H locs ls (hP.sub [0, 1, 2] rfl) (hD.sub [0, 1, 2] (by decide +kernel) rfl) hS (lv_sub hl [0, 2, 1, 3] rfl)
        exact J_15 _ (0 : Int32) b4_1 b4_2 rfl (by first | decide | assumption | omega) H locs ls (hP.sub [0, 1, 2] rfl) (hD.sub [0, 1, 2] (by decide +kernel) rfl) hS (lv_sub hl [0, 1, 2, 3] rfl)
  exact J_4 _ (0 : Int32) (0 : Int32) opf rfl (by first | decide | assumption | omega) H locs ls (hP.sub [0, 1, 2] rfl) (hD.sub [0, 1, 2] (by decide +kernel) rfl) hS (lv_sub hl [0, 1, 2] rfl)
set_option maxHeartbeats 2000000 in
set_option maxRecDepth 100000 in
theorem c_Odds_signOfPlace (l : Launch) (dC : Nat → ClassId) (dI : Nat → Nat → Nat) (cI cM cO : ClassId) (sz : Nat) (oo : Nat) (osg : Int32) (osm : Int32) (ofc : Int32) (oca : Nat) (opa : Nat) (ol : Nat) (ocf : Nat → Int32) (opl : Nat) (opf : Nat → Int32) (ii : Int32) (hol : ol ≤ 64) (hopl : opl ≤ 512) : MetI l y_Odds_signOfPlace (Cond.code y_Odds_signOfPlace prog_7_method_12_code 2 (some .int) :: gw) ({ frames := 0, cells := 0, slots := 0, locals := 0 } : Room) (dC, dI) vwCl (kT cI cM cO) [Value.ref oo, Value.int ii] [(oo, Sum.inr (7, [Value.int osg, Value.int osm, Value.int ofc, Value.ref oca, Value.ref opa])), (oca, Sum.inl (cI, ol, Sum.inl ocf)), (opa, Sum.inl (cI, opl, Sum.inl opf))] sz (fun (r : Int32) (u : Unit) => True) (fun (u : Unit) => [(oo, Sum.inr (7, [Value.int osg, Value.int osm, Value.int ofc, Value.ref oca, Value.ref opa])), (oca, Sum.inl (cI, ol, Sum.inl ocf)), (opa, Sum.inl (cI, opl, Sum.inl opf))]) 0 0 := by
  refine my_ofI (cc := prog_7_method_12_code) (n := 2) (ret := (some .int)) (by decide) rfl (Nat.le_of_ble_eq_true rfl) ?_
  intro p e s m args below meth c R Q A ls H locs hx hb hr hts hown hlocks hml hnm hR hQ hA hl hP hK hN hD hS
  have hg : ∀ w ∈ gw, w.before args s = true := fun w h => hts w (List.mem_cons_of_mem _ h)
  have hown : s.vm.findClass "RangeCoders$Odds" = some m.cls := hown
  have hl : lv_has ls 2 [(0, Value.ref oo), (1, Value.int ii)] := hl
  refine lv_iload_n hx hb d_Odds_signOfPlace_0 rfl (lv_at hl 1 rfl) ?_
  refine lv_if_lt (tgt := 22) hx hb d_Odds_signOfPlace_1 (by decide) (fun c_1 => ?_) (fun c_1 => ?_)
  · refine lv_iconst (v := (-1)) hx hb d_Odds_signOfPlace_22 (by decide) ?_
    exact my_iret (v := (-1)) hx hb hr (rfl) hlocks hQ hK hS (Nat.le_refl _) (Nat.le_refl _) () (trivial) (hP.sub [0, 1, 2] rfl) (hD.sub [0, 1, 2] (by decide +kernel) rfl) d_Odds_signOfPlace_23
  · refine lv_iload_n hx hb d_Odds_signOfPlace_4 rfl (lv_at hl 1 rfl) ?_
    refine lv_aload_n hx hb d_Odds_signOfPlace_5 rfl (lv_at hl 0 rfl) ?_
    refine va_get (D := (dC, dI)) (ci := 7) (v := .ref opa) (C := "RangeCoders$Odds") (T := T_Odds) (N := 5) hx hb hg in_Odds hown hK hP 0 rfl rfl 4 (by decide) (hg _ k310) (fun _ h9 => h9) rfl d_Odds_signOfPlace_6 ?_
    refine va_alen hx hb hK hP 2 0 rfl rfl (v := nI opl) rfl d_Odds_signOfPlace_9 ?_
    refine lv_icmp_ge (tgt := 22) hx hb d_Odds_signOfPlace_10 (by decide) (fun c_2 => ?_) (fun c_2 => ?_)
    · refine lv_iconst (v := (-1)) hx hb d_Odds_signOfPlace_22 (by decide) ?_
      exact my_iret (v := (-1)) hx hb hr (rfl) hlocks hQ hK hS (Nat.le_refl _) (Nat.le_refl _) () (trivial) (hP.sub [0, 1, 2] rfl) (hD.sub [0, 1, 2] (by decide +kernel) rfl) d_Odds_signOfPlace_23
    · refine lv_aload_n hx hb d_Odds_signOfPlace_13 rfl (lv_at hl 0 rfl) ?_
      refine va_get (D := (dC, dI)) (ci := 7) (v := .ref opa) (C := "RangeCoders$Odds") (T := T_Odds) (N := 5) hx hb hg in_Odds hown hK hP 0 rfl rfl 4 (by decide) (hg _ k310) (fun _ h9 => h9) rfl d_Odds_signOfPlace_14 ?_
      refine lv_iload_n hx hb d_Odds_signOfPlace_17 rfl (lv_at hl 1 rfl) ?_
      refine va_iald hx hb hK hP 2 0 rfl rfl (by first | assumption | exact I_in (by omega) (by assumption) (by assumption) | exact I_in' (by omega) (by assumption) (by assumption)) d_Odds_signOfPlace_18 ?_
      refine lv_topi (fun v_3 ev_3 => ?_)
      refine lv_goto (tgt := 23) hx hb d_Odds_signOfPlace_19 (by decide) ?_
      exact my_iret (v := v_3) hx hb hr (rfl) hlocks hQ hK hS (Nat.le_refl _) (Nat.le_refl _) () (trivial) (hP.sub [0, 1, 2] rfl) (hD.sub [0, 1, 2] (by decide +kernel) rfl) d_Odds_signOfPlace_23
set_option maxHeartbeats 2000000 in
set_option maxRecDepth 100000 in
theorem c_Odds_numberOfPlace (l : Launch) (dC : Nat → ClassId) (dI : Nat → Nat → Nat) (cI cM cO : ClassId) (sz : Nat) (oo : Nat) (osg : Int32) (osm : Int32) (ofc : Int32) (oca : Nat) (opa : Nat) (ol : Nat) (ocf : Nat → Int32) (opl : Nat) (opf : Nat → Int32) (ii : Int32) (hol : ol ≤ 64) (hopl : opl ≤ 512) : MetI l y_Odds_numberOfPlace (Cond.code y_Odds_numberOfPlace prog_7_method_13_code 5 (some .int) :: gw) ({ frames := 1, cells := 0, slots := 0, locals := 21 } : Room) (dC, dI) vwCl (kT cI cM cO) [Value.ref oo, Value.int ii] [(oo, Sum.inr (7, [Value.int osg, Value.int osm, Value.int ofc, Value.ref oca, Value.ref opa])), (oca, Sum.inl (cI, ol, Sum.inl ocf)), (opa, Sum.inl (cI, opl, Sum.inl opf))] sz (fun (r : Int32) (u : Unit) => True) (fun (u : Unit) => [(oo, Sum.inr (7, [Value.int osg, Value.int osm, Value.int ofc, Value.ref oca, Value.ref opa])), (oca, Sum.inl (cI, ol, Sum.inl ocf)), (opa, Sum.inl (cI, opl, Sum.inl opf))]) 0 0 := by
  refine my_ofI (cc := prog_7_method_13_code) (n := 5) (ret := (some .int)) (by decide) rfl (Nat.le_of_ble_eq_true rfl) ?_
  intro p e s m args below meth c R Q A ls H locs hx hb hr hts hown hlocks hml hnm hR hQ hA hl hP hK hN hD hS
  have hg : ∀ w ∈ gw, w.before args s = true := fun w h => hts w (List.mem_cons_of_mem _ h)
  have hown : s.vm.findClass "RangeCoders$Odds" = some m.cls := hown
  have hl : lv_has ls 5 [(0, Value.ref oo), (1, Value.int ii)] := hl
  refine lv_aload_n hx hb d_Odds_numberOfPlace_0 rfl (lv_at hl 0 rfl) ?_
  refine lv_iload_n hx hb d_Odds_numberOfPlace_1 rfl (lv_at hl 1 rfl) ?_
  refine my_ci (wr := []) (va_runV (As := [Value.int ii]) (rest := []) ⟨hx, hb, hml, hown, hts⟩ (c_Odds_signOfPlace l dC dI cI cM cO H.size oo osg osm ofc oca opa ol ocf opl opf ii (by first | assumption | omega) (by first | assumption | omega)) (cwV 1 hts (my_gV k853 k846 k847 k14 k848) rfl rfl rfl (by decide +kernel) ⟨by rw [hR]; exact Nat.le_of_ble_eq_true rfl, by rw [hR]; exact Nat.le_of_ble_eq_true rfl⟩) (my_preV hK hN (hP.sub [0, 1, 2] rfl) (hD.sub [0, 1, 2] (by decide +kernel) rfl) 0 rfl rfl) rfl rfl hl.1 rfl (lv_room (Nat.le_of_ble_eq_true rfl)) d_Odds_numberOfPlace_2 ⟨by rw [hR]; exact Nat.le_of_ble_eq_true rfl, by rw [hR]; exact Nat.le_of_ble_eq_true rfl⟩) hP hD hS hA [0, 1, 2] [] rfl rfl (by decide +kernel) (by decide +kernel) (fun r_2 u9 H locs hw_2 hP hD hS => ?_)
  have hPD : my_PD (dC, dI) vwCl A [(oo, Sum.inr (7, [Value.int osg, Value.int osm, Value.int ofc, Value.ref oca, Value.ref opa])), (oca, Sum.inl (cI, ol, Sum.inl ocf)), (opa, Sum.inl (cI, opl, Sum.inl opf))] H := ⟨hP, hD⟩
  have hP := hPD.1
  have hD := hPD.2
  refine lv_istore_n (lv' := [(2, Value.int r_2), (0, Value.ref oo), (1, Value.int ii)]) hx hb d_Odds_numberOfPlace_5 rfl hl (by decide) rfl (fun ls hl => ?_)
  refine lv_iconst (v := 0) hx hb d_Odds_numberOfPlace_6 (by decide) ?_
  refine lv_istore_n (lv' := [(3, Value.int 0), (2, Value.int r_2), (0, Value.ref oo), (1, Value.int ii)]) hx hb d_Odds_numberOfPlace_7 rfl hl (by decide) rfl (fun ls hl => ?_)
  refine lv_iconst (v := 0) hx hb d_Odds_numberOfPlace_8 (by decide) ?_
  refine lv_istore (lv' := [(4, Value.int 0), (3, Value.int 0), (2, Value.int r_2), (0, Value.ref oo), (1, Value.int ii)]) hx hb d_Odds_numberOfPlace_9 hl (by decide) rfl (fun ls hl => ?_)
  have J_11 : ∀ (n9_11 : Nat) (b11_0 : Int32) (b11_1 : Int32) (hn9_11 : (ii.toInt - b11_0.toInt).toNat = n9_11) (hi_11 : 0 ≤ b11_0.toInt) (H : Heap) (locs : List Loc) (ls : Array Slot), va_P (dC, dI) vwCl [(oo, Sum.inr (7, [Value.int osg, Value.int osm, Value.int ofc, Value.ref oca, Value.ref opa])), (oca, Sum.inl (cI, ol, Sum.inl ocf)), (opa, Sum.inl (cI, opl, Sum.inl opf))] H → va_D A [(oo, Sum.inr (7, [Value.int osg, Value.int osm, Value.int ofc, Value.ref oca, Value.ref opa])), (oca, Sum.inl (cI, ol, Sum.inl ocf)), (opa, Sum.inl (cI, opl, Sum.inl opf))] → va_S A s.heap H locs → lv_has ls 5 [(4, Value.int b11_0), (3, Value.int b11_1), (2, Value.int r_2), (0, Value.ref oo), (1, Value.int ii)] → W p l e R s m args below meth c H locs 0 0 Q (F0 m 11 ls []) := by
    intro n9_11
    induction n9_11 using Nat.strongRecOn with
    | ind n9_11 ih9_11 =>
      intro b11_0 b11_1 hn9_11 hi_11 H locs ls hP hD hS hl
      refine lv_iload hx hb d_Odds_numberOfPlace_11 (lv_at hl 0 rfl) ?_
      refine lv_iload_n hx hb d_Odds_numberOfPlace_13 rfl (lv_at hl 4 rfl) ?_
      refine lv_icmp_ge (tgt := 47) hx hb d_Odds_numberOfPlace_14 (by decide) (fun c_1 => ?_) (fun c_1 => ?_)
      · refine lv_iload_n hx hb d_Odds_numberOfPlace_47 rfl (lv_at hl 1 rfl) ?_
        exact my_iret (v := b11_1) hx hb hr (rfl) hlocks hQ hK hS (Nat.le_refl _) (Nat.le_refl _) () (trivial) (hP.sub [0, 1, 2] rfl) (hD.sub [0, 1, 2] (by decide +kernel) rfl) d_Odds_numberOfPlace_48
      · refine lv_iload hx hb d_Odds_numberOfPlace_17 (lv_at hl 0 rfl) ?_
        refine lv_aload_n hx hb d_Odds_numberOfPlace_19 rfl (lv_at hl 3 rfl) ?_
        refine va_get (D := (dC, dI)) (ci := 7) (v := .ref opa) (C := "RangeCoders$Odds") (T := T_Odds) (N := 5) hx hb hg in_Odds hown hK hP 0 rfl rfl 4 (by decide) (hg _ k310) (fun _ h9 => h9) rfl d_Odds_numberOfPlace_20 ?_
        refine va_alen hx hb hK hP 2 0 rfl rfl (v := nI opl) rfl d_Odds_numberOfPlace_23 ?_
        refine lv_icmp_ge (tgt := 47) hx hb d_Odds_numberOfPlace_24 (by decide) (fun c_2 => ?_) (fun c_2 => ?_)
        · refine lv_iload_n hx hb d_Odds_numberOfPlace_47 rfl (lv_at hl 1 rfl) ?_
          exact my_iret (v := b11_1) hx hb hr (rfl) hlocks hQ hK hS (Nat.le_refl _) (Nat.le_refl _) () (trivial) (hP.sub [0, 1, 2] rfl) (hD.sub [0, 1, 2] (by decide +kernel) rfl) d_Odds_numberOfPlace_48
        · refine lv_aload_n hx hb d_Odds_numberOfPlace_27 rfl (lv_at hl 3 rfl) ?_
          refine va_get (D := (dC, dI)) (ci := 7) (v := .ref opa) (C := "RangeCoders$Odds") (T := T_Odds) (N := 5) hx hb hg in_Odds hown hK hP 0 rfl rfl 4 (by decide) (hg _ k310) (fun _ h9 => h9) rfl d_Odds_numberOfPlace_28 ?_
          refine lv_iload hx hb d_Odds_numberOfPlace_31 (lv_at hl 0 rfl) ?_
          refine va_iald hx hb hK hP 2 0 rfl rfl (by first | assumption | exact I_in (by omega) (by assumption) (by assumption) | exact I_in' (by omega) (by assumption) (by assumption)) d_Odds_numberOfPlace_33 ?_
          refine lv_topi (fun v_3 ev_3 => ?_)
          refine lv_iload_n hx hb d_Odds_numberOfPlace_34 rfl (lv_at hl 2 rfl) ?_
          refine lv_icmp_ne (tgt := 41) hx hb d_Odds_numberOfPlace_35 (by decide) (fun c_4 => ?_) (fun c_4 => ?_)
          · obtain ⟨v_5, ev_5⟩ : ∃ y : Int32, y = b11_0 + (1) := ⟨_, rfl⟩
            refine lv_iinc (v := v_5) (lv' := [(4, Value.int v_5), (3, Value.int b11_1), (2, Value.int r_2), (0, Value.ref oo), (1, Value.int ii)]) hx hb d_Odds_numberOfPlace_41 hl (k := 0) rfl (by rw [ev_5]; rfl) (by decide) rfl (fun ls hl => ?_)
            refine lv_goto (tgt := 11) hx hb d_Odds_numberOfPlace_44 (by decide) ?_
            exact ih9_11 _ (by first | omega | (have z9 := I_up c_1 ev_5; omega)) v_5 b11_1 rfl (by have z9 := I_up c_1 ev_5; omega) H locs ls (hP.sub [0, 1, 2] rfl) (hD.sub [0, 1, 2] (by decide +kernel) rfl) hS (lv_sub hl [0, 1, 2, 3, 4] rfl)
          · obtain ⟨v_6, ev_6⟩ : ∃ y : Int32, y = b11_1 + (1) := ⟨_, rfl⟩
            refine lv_iinc (v := v_6) (lv' := [(3, Value.int v_6), (4, Value.int b11_0), (2, Value.int r_2), (0, Value.ref oo), (1, Value.int ii)]) hx hb d_Odds_numberOfPlace_38 hl (k := 1) rfl (by rw [ev_6]; rfl) (by decide) rfl (fun ls hl => ?_)
            obtain ⟨v_7, ev_7⟩ : ∃ y : Int32, y = b11_0 + (1) := ⟨_, rfl⟩
            refine lv_iinc (v := v_7) (lv' := [(4, Value.int v_7), (3, Value.int v_6), (2, Value.int r_2), (0, Value.ref oo), (1, Value.int ii)]) hx hb d_Odds_numberOfPlace_41 hl (k := 1) rfl (by rw [ev_7]; rfl) (by decide) rfl (fun ls hl => ?_)
            refine lv_goto (tgt := 11) hx hb d_Odds_numberOfPlace_44 (by decide) ?_
            exact ih9_11 _ (by first | omega | (have z9 := I_up c_1 ev_7; omega)) v_7 v_6 rfl (by have z9 := I_up c_1 ev_7; omega) H locs ls (hP.sub [0, 1, 2] rfl) (hD.sub [0, 1, 2] (by decide +kernel) rfl) hS (lv_sub hl [0, 1, 2, 3, 4] rfl)
  exact J_11 _ (0 : Int32) (0 : Int32) rfl (by first | decide | assumption | omega) H locs ls (hP.sub [0, 1, 2] rfl) (hD.sub [0, 1, 2] (by decide +kernel) rfl) hS (lv_sub hl [0, 1, 2, 3, 4] rfl)
end
section
theorem L_nzip {t : Int32} (h : 0 < t) : t.toInt64 ≠ 0 := L_nzi (by rw [Int32.lt_iff_toInt_lt] at h; rw [Int32.le_iff_toInt_le]; omega)
theorem L_nzp {t : Int64} (h : 0 < t) : ¬ t = 0 := fun e => by rw [e] at h; exact absurd h (by decide)
end
