set_option maxHeartbeats 2000000 in
set_option maxRecDepth 100000 in
theorem c_Arrays_fill (l : Launch) (dC : Nat → ClassId) (dI : Nat → Nat → Nat) (cI cM cO : ClassId) (sz : Nat) (aa : Nat) (al : Nat) (af : Nat → Int32) (vv : Int32) (hal : al ≤ 16384) : MetV l y_Arrays_fill (Cond.code y_Arrays_fill prog_18_method_103_code 4 none :: gw) ({ frames := 0, cells := 0, slots := 0, locals := 0 } : Room) (dC, dI) vwCl (kT cI cM cO) [.ref aa, .int vv] [(aa, .inl (cI, al, .inl af))] sz (fun (u : (Nat → Int32)) => True) (fun (u : (Nat → Int32)) => [(aa, .inl (cI, al, .inl u))]) 0 0 := by
  refine my_ofV (cc := prog_18_method_103_code) (n := 4) (ret := none) (by decide) rfl (Nat.le_of_ble_eq_true rfl) ?_
  intro p e s m args below meth c R Q A ls H locs hx hb hr hts hown hlocks hml hnm hR hQ hA hl hP hK hN hD hS
  have hg : ∀ w ∈ gw, w.before args s = true := fun w h => hts w (List.mem_cons_of_mem _ h)
  have hown : s.vm.findClass "java/util/Arrays" = some m.cls := hown
  have hl : lv_has ls 4 [(0, .ref aa), (1, .int vv)] := hl
  refine lv_iconst (v := 0) hx hb d_Arrays_fill_0 (by decide) ?_
  refine lv_istore_n (lv' := [(2, .int 0), (0, .ref aa), (1, .int vv)]) hx hb d_Arrays_fill_1 rfl hl (by decide) rfl (fun ls hl => ?_)
  refine lv_aload_n hx hb d_Arrays_fill_2 rfl (lv_at hl 1 rfl) ?_
  refine va_alen hx hb hK hP 0 0 rfl rfl (v := nI al) rfl d_Arrays_fill_3 ?_
  refine lv_istore_n (lv' := [(3, .int (nI al)), (2, .int 0), (0, .ref aa), (1, .int vv)]) hx hb d_Arrays_fill_4 rfl hl (by decide) rfl (fun ls hl => ?_)
  have J_5 : ∀ (n9_5 : Nat) (b5_0 : Int32) (b5_1 : Nat → Int32) (hn9_5 : ((nI al).toInt - b5_0.toInt).toNat = n9_5) (hi_5 : 0 ≤ b5_0.toInt) (H : Heap) (locs : List Loc) (ls : Array Slot), va_P (dC, dI) vwCl [(aa, .inl (cI, al, .inl b5_1))] H → va_D A [(aa, .inl (cI, al, .inl b5_1))] → va_S A s.heap H locs → lv_has ls 4 [(3, .int (nI al)), (2, .int b5_0), (0, .ref aa), (1, .int vv)] → W p l e R s m args below meth c H locs 0 0 Q (F0 m 5 ls []) := by
    intro n9_5
    induction n9_5 using Nat.strongRecOn with
    | ind n9_5 ih9_5 =>
      intro b5_0 b5_1 hn9_5 hi_5 H locs ls hP hD hS hl
      refine lv_iload_n hx hb d_Arrays_fill_5 rfl (lv_at hl 1 rfl) ?_
      refine lv_iload_n hx hb d_Arrays_fill_6 rfl (lv_at hl 0 rfl) ?_
      refine lv_icmp_ge (tgt := 20) hx hb d_Arrays_fill_7 (by decide) (fun c_1 => ?_) (fun c_1 => ?_)
      · exact my_vret hx hb hr hlocks hQ hK hS (Nat.le_refl _) (Nat.le_refl _) (b5_1) (trivial) (hP.sub [0] rfl) (hD.sub [0] (by decide) rfl) d_Arrays_fill_20
      · refine lv_aload_n hx hb d_Arrays_fill_10 rfl (lv_at hl 2 rfl) ?_
        refine lv_iload_n hx hb d_Arrays_fill_11 rfl (lv_at hl 1 rfl) ?_
        refine lv_iload_n hx hb d_Arrays_fill_12 rfl (lv_at hl 3 rfl) ?_
        refine va_iast hx hb hK hP hD hS 0 0 rfl rfl (by first | assumption | exact I_in (by omega) (by assumption) (by assumption) | exact I_in' (by omega) (by assumption) (by assumption)) d_Arrays_fill_13 (fun H locs hP hD hS => ?_)
        have hP : va_P (dC, dI) vwCl [(aa, .inl (cI, al, .inl (upd b5_1 b5_0.toNatClampNeg vv)))] H := hP
        have hD : va_D A [(aa, .inl (cI, al, .inl (upd b5_1 b5_0.toNatClampNeg vv)))] := hD
        obtain ⟨v_2, ev_2⟩ : ∃ y : Int32, y = b5_0 + (1) := ⟨_, rfl⟩
        refine lv_iinc (v := v_2) (lv' := [(2, .int v_2), (3, .int (nI al)), (0, .ref aa), (1, .int vv)]) hx hb d_Arrays_fill_14 hl (k := 1) rfl (by rw [ev_2]; rfl) (by decide) rfl (fun ls hl => ?_)
        refine lv_goto (tgt := 5) hx hb d_Arrays_fill_17 (by decide) ?_
        exact ih9_5 _ (by first | omega | (have z9 := I_up c_1 ev_2; omega)) v_2 (upd b5_1 b5_0.toNatClampNeg vv) rfl (by have z9 := I_up c_1 ev_2; omega) H locs ls (hP.sub [0] rfl) (hD.sub [0] (by decide) rfl) hS (lv_sub hl [1, 0, 2, 3] rfl)
  exact J_5 _ (0 : Int32) af rfl (by first | decide | assumption | omega) H locs ls (hP.sub [0] rfl) (hD.sub [0] (by decide) rfl) hS (lv_sub hl [0, 1, 2, 3] rfl)
set_option maxHeartbeats 2000000 in
set_option maxRecDepth 100000 in
theorem c_Arrays_copyOf (l : Launch) (dC : Nat → ClassId) (dI : Nat → Nat → Nat) (cI cM cO : ClassId) (sz : Nat) (sl : Nat) (aa : Nat) (al : Nat) (af : Nat → Int32) (nl : Nat) (hal : al < nl) (hnl : nl ≤ 32768) : MetQg l y_Arrays_copyOf (Cond.code y_Arrays_copyOf prog_18_method_123_code 3 (some (.array .int)) :: gw) ({ frames := 1, cells := nl, slots := nl, locals := 40 } : Room) (dC, dI) vwCl (kT cI cM cO) [.ref aa, .int (nI nl)] [(aa, .inl (cI, al, .inl af))] sz sl (fun (r : Option Nat) (u : Nat × (Nat → Int32)) => r = some u.1) (fun (u : Nat × (Nat → Int32)) => [(aa, .inl (cI, al, .inl af)), (u.1, .inl (cI, nl, .inl u.2))]) nl (fun (u : Nat × (Nat → Int32)) => 0) := by
  refine my_ofQg (cc := prog_18_method_123_code) (n := 3) (ret := (some (.array .int))) (by decide) rfl (Nat.le_of_ble_eq_true rfl) ?_
  intro p e s m args below meth c R Q A ls H locs hx hb hr hts hown hlocks hml hnm hR hQ hA hl hP hK hN hD hS
  have hg : ∀ w ∈ gw, w.before args s = true := fun w h => hts w (List.mem_cons_of_mem _ h)
  have hown : s.vm.findClass "java/util/Arrays" = some m.cls := hown
  have hl : lv_has ls 3 [(0, .ref aa), (1, .int (nI nl))] := hl
  refine lv_iload_n hx hb d_Arrays_copyOf_0 rfl (lv_at hl 1 rfl) ?_
  refine lv_aload_n hx hb d_Arrays_copyOf_1 rfl (lv_at hl 0 rfl) ?_
  refine va_alen hx hb hK hP 0 0 rfl rfl (v := nI al) rfl d_Arrays_copyOf_2 ?_
  refine lv_icmp_ne (tgt := 14) hx hb d_Arrays_copyOf_3 (by decide) (fun c_1 => ?_) (fun c_1 => ?_)
  · refine lv_iload_n hx hb d_Arrays_copyOf_14 rfl (lv_at hl 1 rfl) ?_
    refine my_newi hx hb (hg _ k66) hK 0 rfl hP hD hS hA (N' := nl) (nI_pos (by omega)) (nI_clamp (by omega)) (by omega) (by rw [hR]; exact (show 0 + 1 ≤ nl by omega)) (by rw [hR]; exact (show 0 + nl ≤ nl by omega)) d_Arrays_copyOf_15 (fun q_2 H hP hD hS => ?_)
    have hP : va_P (dC, dI) vwCl [(aa, .inl (cI, al, .inl af)), (q_2, .inl (cI, nl, .inl (fun _ => 0)))] H := hP
    have hD : va_D A [(aa, .inl (cI, al, .inl af)), (q_2, .inl (cI, nl, .inl (fun _ => 0)))] := hD
    refine lv_astore_n (lv' := [(2, .ref q_2), (0, .ref aa), (1, .int (nI nl))]) hx hb d_Arrays_copyOf_17 rfl hl (by decide) rfl (fun ls hl => ?_)
    refine lv_aload_n hx hb d_Arrays_copyOf_18 rfl (lv_at hl 1 rfl) ?_
    refine lv_iconst (v := 0) hx hb d_Arrays_copyOf_19 (by decide) ?_
    refine lv_aload_n hx hb d_Arrays_copyOf_20 rfl (lv_at hl 0 rfl) ?_
    refine lv_iconst (v := 0) hx hb d_Arrays_copyOf_21 (by decide) ?_
    refine lv_aload_n hx hb d_Arrays_copyOf_22 rfl (lv_at hl 1 rfl) ?_
    refine va_alen hx hb hK hP 0 0 rfl rfl (v := nI al) rfl d_Arrays_copyOf_23 ?_
    refine lv_iload_n hx hb d_Arrays_copyOf_24 rfl (lv_at hl 2 rfl) ?_
    refine va_mmin hx hb (by rw [hml]; exact hl.1.symm) hown (hg _ k486) (hg _ k31) (hg _ k2) (hg _ k32) (by rw [hR]; exact Nat.le_of_ble_eq_true rfl) (by rw [hR]; exact Nat.le_of_ble_eq_true rfl) (by rw [hR]; exact (show 0 + 1 ≤ nl by omega)) (by rw [hR]; exact (show 0 + nl ≤ nl by omega)) d_Arrays_copyOf_25 ?_
    refine lv_topi (fun v_3 ev_3 => ?_)
    have z9 : v_3 = nI al := by rw [ev_3, if_neg (nI_nlt (by omega) (by omega))]
    subst z9
    refine va_copyi hx hb (by rw [hml]; exact hl.1.symm) hown (hg _ k487) (hg _ k489) (hg _ k488) (hg _ k16) hK hP hD hS 0 1 0 0 rfl rfl rfl rfl rfl (by decide) (by decide) (nI_pos (by omega)) (by rw [nI_clamp (by omega)]; exact Nat.le_of_eq (Nat.zero_add _)) (by rw [nI_clamp (by omega)]; exact (show 0 + al ≤ nl by omega)) (fun _ _ => rfl) (by rw [hR]; exact Nat.le_of_ble_eq_true rfl) (by rw [hR]; exact Nat.le_of_ble_eq_true rfl) d_Arrays_copyOf_28 (fun H locs hP hD hS => ?_)
    have hP : va_P (dC, dI) vwCl [(aa, .inl (cI, al, .inl af)), (q_2, .inl (cI, nl, .inl (va_cpy af (fun _ => 0) (0 : Int32).toNatClampNeg (0 : Int32).toNatClampNeg (nI al).toNatClampNeg)))] H := hP
    have hD : va_D A [(aa, .inl (cI, al, .inl af)), (q_2, .inl (cI, nl, .inl (va_cpy af (fun _ => 0) (0 : Int32).toNatClampNeg (0 : Int32).toNatClampNeg (nI al).toNatClampNeg)))] := hD
    refine lv_aload_n hx hb d_Arrays_copyOf_31 rfl (lv_at hl 0 rfl) ?_
    exact my_qretg (v := some q_2) hx hb hr (Or.inr ⟨_, rfl⟩) hlocks hQ hK hS (q_2, va_cpy af (fun _ => 0) (0 : Int32).toNatClampNeg (0 : Int32).toNatClampNeg (nI al).toNatClampNeg) (show (0 + 1) + 0 ≤ nl by omega) (show (0 + nl) + 0 ≤ nl by omega) (rfl) (hP.sub [0, 1] rfl) (hD.sub [0, 1] (by decide) rfl) d_Arrays_copyOf_32
  · exact absurd (nI_inj (by omega) (by omega) c_1) (by omega)
set_option maxHeartbeats 2000000 in
set_option maxRecDepth 100000 in
theorem c_Row_has (l : Launch) (dC : Nat → ClassId) (dI : Nat → Nat → Nat) (cI cM cO : ClassId) (sz : Nat) (rr : Nat) (rrn : Int32) (rra : Nat) (rrk : Nat) (rrf : Nat → Int32) (ii : Int32) (hrr : rOk rrn rrk) : MetI l y_Row_has (Cond.code y_Row_has prog_9_method_2_code 2 (some .boolean) :: gw) ({ frames := 0, cells := 0, slots := 0, locals := 0 } : Room) (dC, dI) vwCl (kT cI cM cO) [.ref rr, .int ii] [(rr, .inr (0, [.int rrn, .ref rra])), (rra, .inl (cI, rrk, .inl rrf))] sz (fun (r : Int32) (u : Unit) => r ≠ 0 → vp_in ii rrk) (fun (u : Unit) => [(rr, .inr (0, [.int rrn, .ref rra])), (rra, .inl (cI, rrk, .inl rrf))]) 0 0 := by
  refine my_ofI (cc := prog_9_method_2_code) (n := 2) (ret := (some .boolean)) (by decide) rfl (Nat.le_of_ble_eq_true rfl) ?_
  intro p e s m args below meth c R Q A ls H locs hx hb hr hts hown hlocks hml hnm hR hQ hA hl hP hK hN hD hS
  have hg : ∀ w ∈ gw, w.before args s = true := fun w h => hts w (List.mem_cons_of_mem _ h)
  have hown : s.vm.findClass "RangeCoders$Row" = some m.cls := hown
  have hl : lv_has ls 2 [(0, .ref rr), (1, .int ii)] := hl
  have hlt9 := rOk_lt hrr
  refine lv_iload_n hx hb d_Row_has_0 rfl (lv_at hl 1 rfl) ?_
  refine lv_if_lt (tgt := 25) hx hb d_Row_has_1 (by decide) (fun c_1 => ?_) (fun c_1 => ?_)
  · refine lv_iconst (v := 0) hx hb d_Row_has_25 (by decide) ?_
    exact my_iret (v := 0) hx hb hr (rfl) hlocks hQ hK hS (Nat.le_refl _) (Nat.le_refl _) () (fun h9 => absurd rfl h9) (hP.sub [0, 1] rfl) (hD.sub [0, 1] (by decide) rfl) d_Row_has_26
  · refine lv_iload_n hx hb d_Row_has_4 rfl (lv_at hl 1 rfl) ?_
    refine lv_aload_n hx hb d_Row_has_5 rfl (lv_at hl 0 rfl) ?_
    refine va_get (D := (dC, dI)) (ci := 0) (v := .int rrn) (C := "RangeCoders$Row") (T := T_Row) (N := 2) hx hb hg in_Row hown hK hP 0 rfl rfl 0 (by decide) (hg _ k57) (fun _ h9 => h9) rfl d_Row_has_6 ?_
    refine lv_icmp_ge (tgt := 25) hx hb d_Row_has_9 (by decide) (fun c_2 => ?_) (fun c_2 => ?_)
    · refine lv_iconst (v := 0) hx hb d_Row_has_25 (by decide) ?_
      exact my_iret (v := 0) hx hb hr (rfl) hlocks hQ hK hS (Nat.le_refl _) (Nat.le_refl _) () (fun h9 => absurd rfl h9) (hP.sub [0, 1] rfl) (hD.sub [0, 1] (by decide) rfl) d_Row_has_26
    · refine lv_iload_n hx hb d_Row_has_12 rfl (lv_at hl 1 rfl) ?_
      refine lv_aload_n hx hb d_Row_has_13 rfl (lv_at hl 0 rfl) ?_
      refine va_get (D := (dC, dI)) (ci := 0) (v := .ref rra) (C := "RangeCoders$Row") (T := T_Row) (N := 2) hx hb hg in_Row hown hK hP 0 rfl rfl 1 (by decide) (hg _ k60) (fun _ h9 => h9) rfl d_Row_has_14 ?_
      refine va_alen hx hb hK hP 1 0 rfl rfl (v := nI rrk) rfl d_Row_has_17 ?_
      refine lv_icmp_ge (tgt := 25) hx hb d_Row_has_18 (by decide) (fun c_3 => ?_) (fun c_3 => ?_)
      · refine lv_iconst (v := 0) hx hb d_Row_has_25 (by decide) ?_
        exact my_iret (v := 0) hx hb hr (rfl) hlocks hQ hK hS (Nat.le_refl _) (Nat.le_refl _) () (fun h9 => absurd rfl h9) (hP.sub [0, 1] rfl) (hD.sub [0, 1] (by decide) rfl) d_Row_has_26
      · refine lv_iconst (v := 1) hx hb d_Row_has_21 (by decide) ?_
        refine lv_goto (tgt := 26) hx hb d_Row_has_22 (by decide) ?_
        exact my_iret (v := 1) hx hb hr (rfl) hlocks hQ hK hS (Nat.le_refl _) (Nat.le_refl _) () (fun _ => I_in' (by omega) (by assumption) (by assumption)) (hP.sub [0, 1] rfl) (hD.sub [0, 1] (by decide) rfl) d_Row_has_26
set_option maxHeartbeats 2000000 in
set_option maxRecDepth 100000 in
theorem c_Row_at (l : Launch) (dC : Nat → ClassId) (dI : Nat → Nat → Nat) (cI cM cO : ClassId) (sz : Nat) (rr : Nat) (rrn : Int32) (rra : Nat) (rrk : Nat) (rrf : Nat → Int32) (ii : Int32) (hrr : rOk rrn rrk) : MetI l y_Row_at (Cond.code y_Row_at prog_9_method_3_code 2 (some .int) :: gw) ({ frames := 1, cells := 0, slots := 0, locals := 21 } : Room) (dC, dI) vwCl (kT cI cM cO) [.ref rr, .int ii] [(rr, .inr (0, [.int rrn, .ref rra])), (rra, .inl (cI, rrk, .inl rrf))] sz (fun (r : Int32) (u : Unit) => True) (fun (u : Unit) => [(rr, .inr (0, [.int rrn, .ref rra])), (rra, .inl (cI, rrk, .inl rrf))]) 0 0 := by
  refine my_ofI (cc := prog_9_method_3_code) (n := 2) (ret := (some .int)) (by decide) rfl (Nat.le_of_ble_eq_true rfl) ?_
  intro p e s m args below meth c R Q A ls H locs hx hb hr hts hown hlocks hml hnm hR hQ hA hl hP hK hN hD hS
  have hg : ∀ w ∈ gw, w.before args s = true := fun w h => hts w (List.mem_cons_of_mem _ h)
  have hown : s.vm.findClass "RangeCoders$Row" = some m.cls := hown
  have hl : lv_has ls 2 [(0, .ref rr), (1, .int ii)] := hl
  have hlt9 := rOk_lt hrr
  refine lv_aload_n hx hb d_Row_at_0 rfl (lv_at hl 0 rfl) ?_
  refine lv_iload_n hx hb d_Row_at_1 rfl (lv_at hl 1 rfl) ?_
  refine my_ci (wr := []) (va_runV (As := [.int ii]) (rest := []) ⟨hx, hb, hml, hown, hts⟩ (c_Row_has l dC dI cI cM cO H.size rr rrn rra rrk rrf ii (by first | assumption | omega)) (cwV 1 hts (my_gV k662 k663 k664 k6 k665) rfl rfl rfl (by decide +kernel) ⟨by rw [hR]; exact Nat.le_of_ble_eq_true rfl, by rw [hR]; exact Nat.le_of_ble_eq_true rfl⟩) (my_preV hK hN (hP.sub [0, 1] rfl) (hD.sub [0, 1] (by decide) rfl) 0 rfl rfl) rfl rfl hl.1 rfl (lv_room (Nat.le_of_ble_eq_true rfl)) d_Row_at_2 ⟨by rw [hR]; exact Nat.le_of_ble_eq_true rfl, by rw [hR]; exact Nat.le_of_ble_eq_true rfl⟩) hP hD hS hA [0, 1] [] rfl rfl (by decide) (by decide) (fun r_2 u9 H locs hw_2 hP hD hS => ?_)
  have hr_2 : r_2 ≠ 0 → vp_in ii rrk := hw_2
  have hP : va_P (dC, dI) vwCl [(rr, .inr (0, [.int rrn, .ref rra])), (rra, .inl (cI, rrk, .inl rrf))] H := hP
  have hD : va_D A [(rr, .inr (0, [.int rrn, .ref rra])), (rra, .inl (cI, rrk, .inl rrf))] := hD
  refine lv_if_eq (tgt := 17) hx hb d_Row_at_5 (by decide) (fun c_1 => ?_) (fun c_1 => ?_)
  · refine lv_iconst (v := (-1)) hx hb d_Row_at_17 (by decide) ?_
    exact my_iret (v := (-1)) hx hb hr (rfl) hlocks hQ hK hS (Nat.le_refl _) (Nat.le_refl _) () (trivial) (hP.sub [0, 1] rfl) (hD.sub [0, 1] (by decide) rfl) d_Row_at_18
  · refine lv_aload_n hx hb d_Row_at_8 rfl (lv_at hl 0 rfl) ?_
    refine va_get (D := (dC, dI)) (ci := 0) (v := .ref rra) (C := "RangeCoders$Row") (T := T_Row) (N := 2) hx hb hg in_Row hown hK hP 0 rfl rfl 1 (by decide) (hg _ k60) (fun _ h9 => h9) rfl d_Row_at_9 ?_
    refine lv_iload_n hx hb d_Row_at_12 rfl (lv_at hl 1 rfl) ?_
    refine va_iald hx hb hK hP 1 0 rfl rfl (hr_2 c_1) d_Row_at_13 ?_
    refine lv_topi (fun v_2 ev_2 => ?_)
    refine lv_goto (tgt := 18) hx hb d_Row_at_14 (by decide) ?_
    exact my_iret (v := v_2) hx hb hr (rfl) hlocks hQ hK hS (Nat.le_refl _) (Nat.le_refl _) () (trivial) (hP.sub [0, 1] rfl) (hD.sub [0, 1] (by decide) rfl) d_Row_at_18
set_option maxHeartbeats 2000000 in
set_option maxRecDepth 100000 in
theorem c_Row_set (l : Launch) (dC : Nat → ClassId) (dI : Nat → Nat → Nat) (cI cM cO : ClassId) (sz : Nat) (rr : Nat) (rrn : Int32) (rra : Nat) (rrk : Nat) (rrf : Nat → Int32) (ii : Int32) (vv : Int32) (hrr : rOk rrn rrk) : MetV l y_Row_set (Cond.code y_Row_set prog_9_method_4_code 3 none :: gw) ({ frames := 1, cells := 0, slots := 0, locals := 21 } : Room) (dC, dI) vwCl (kT cI cM cO) [.ref rr, .int ii, .int vv] [(rr, .inr (0, [.int rrn, .ref rra])), (rra, .inl (cI, rrk, .inl rrf))] sz (fun (u : (Nat → Int32)) => True) (fun (u : (Nat → Int32)) => [(rr, .inr (0, [.int rrn, .ref rra])), (rra, .inl (cI, rrk, .inl u))]) 0 0 := by
  refine my_ofV (cc := prog_9_method_4_code) (n := 3) (ret := none) (by decide) rfl (Nat.le_of_ble_eq_true rfl) ?_
  intro p e s m args below meth c R Q A ls H locs hx hb hr hts hown hlocks hml hnm hR hQ hA hl hP hK hN hD hS
  have hg : ∀ w ∈ gw, w.before args s = true := fun w h => hts w (List.mem_cons_of_mem _ h)
  have hown : s.vm.findClass "RangeCoders$Row" = some m.cls := hown
  have hl : lv_has ls 3 [(0, .ref rr), (1, .int ii), (2, .int vv)] := hl
  have hlt9 := rOk_lt hrr
  refine lv_aload_n hx hb d_Row_set_0 rfl (lv_at hl 0 rfl) ?_
  refine lv_iload_n hx hb d_Row_set_1 rfl (lv_at hl 1 rfl) ?_
  refine my_ci (wr := []) (va_runV (As := [.int ii]) (rest := []) ⟨hx, hb, hml, hown, hts⟩ (c_Row_has l dC dI cI cM cO H.size rr rrn rra rrk rrf ii (by first | assumption | omega)) (cwV 1 hts (my_gV k662 k663 k664 k6 k665) rfl rfl rfl (by decide +kernel) ⟨by rw [hR]; exact Nat.le_of_ble_eq_true rfl, by rw [hR]; exact Nat.le_of_ble_eq_true rfl⟩) (my_preV hK hN (hP.sub [0, 1] rfl) (hD.sub [0, 1] (by decide) rfl) 0 rfl rfl) rfl rfl hl.1 rfl (lv_room (Nat.le_of_ble_eq_true rfl)) d_Row_set_2 ⟨by rw [hR]; exact Nat.le_of_ble_eq_true rfl, by rw [hR]; exact Nat.le_of_ble_eq_true rfl⟩) hP hD hS hA [0, 1] [] rfl rfl (by decide) (by decide) (fun r_2 u9 H locs hw_2 hP hD hS => ?_)
  have hr_2 : r_2 ≠ 0 → vp_in ii rrk := hw_2
  have hP : va_P (dC, dI) vwCl [(rr, .inr (0, [.int rrn, .ref rra])), (rra, .inl (cI, rrk, .inl rrf))] H := hP
  have hD : va_D A [(rr, .inr (0, [.int rrn, .ref rra])), (rra, .inl (cI, rrk, .inl rrf))] := hD
  refine lv_if_eq (tgt := 15) hx hb d_Row_set_5 (by decide) (fun c_1 => ?_) (fun c_1 => ?_)
  · exact my_vret hx hb hr hlocks hQ hK hS (Nat.le_refl _) (Nat.le_refl _) (rrf) (trivial) (hP.sub [0, 1] rfl) (hD.sub [0, 1] (by decide) rfl) d_Row_set_15
  · refine lv_aload_n hx hb d_Row_set_8 rfl (lv_at hl 0 rfl) ?_
    refine va_get (D := (dC, dI)) (ci := 0) (v := .ref rra) (C := "RangeCoders$Row") (T := T_Row) (N := 2) hx hb hg in_Row hown hK hP 0 rfl rfl 1 (by decide) (hg _ k60) (fun _ h9 => h9) rfl d_Row_set_9 ?_
    refine lv_iload_n hx hb d_Row_set_12 rfl (lv_at hl 1 rfl) ?_
    refine lv_iload_n hx hb d_Row_set_13 rfl (lv_at hl 2 rfl) ?_
    refine va_iast hx hb hK hP hD hS 1 0 rfl rfl (hr_2 c_1) d_Row_set_14 (fun H locs hP hD hS => ?_)
    have hP : va_P (dC, dI) vwCl [(rr, .inr (0, [.int rrn, .ref rra])), (rra, .inl (cI, rrk, .inl (upd rrf ii.toNatClampNeg vv)))] H := hP
    have hD : va_D A [(rr, .inr (0, [.int rrn, .ref rra])), (rra, .inl (cI, rrk, .inl (upd rrf ii.toNatClampNeg vv)))] := hD
    exact my_vret hx hb hr hlocks hQ hK hS (Nat.le_refl _) (Nat.le_refl _) (upd rrf ii.toNatClampNeg vv) (trivial) (hP.sub [0, 1] rfl) (hD.sub [0, 1] (by decide) rfl) d_Row_set_15
set_option maxHeartbeats 2000000 in
set_option maxRecDepth 100000 in
theorem c_Row_clear (l : Launch) (dC : Nat → ClassId) (dI : Nat → Nat → Nat) (cI cM cO : ClassId) (sz : Nat) (rr : Nat) (rrn : Int32) (rra : Nat) (rrk : Nat) (rrf : Nat → Int32) (hrr : rOk rrn rrk) : MetV l y_Row_clear (Cond.code y_Row_clear prog_9_method_6_code 1 none :: gw) ({ frames := 0, cells := 0, slots := 0, locals := 0 } : Room) (dC, dI) vwCl (kT cI cM cO) [.ref rr] [(rr, .inr (0, [.int rrn, .ref rra])), (rra, .inl (cI, rrk, .inl rrf))] sz (fun (u : Unit) => rOk 0 rrk) (fun (u : Unit) => [(rr, .inr (0, [.int 0, .ref rra])), (rra, .inl (cI, rrk, .inl rrf))]) 0 0 := by
  refine my_ofV (cc := prog_9_method_6_code) (n := 1) (ret := none) (by decide) rfl (Nat.le_of_ble_eq_true rfl) ?_
  intro p e s m args below meth c R Q A ls H locs hx hb hr hts hown hlocks hml hnm hR hQ hA hl hP hK hN hD hS
  have hg : ∀ w ∈ gw, w.before args s = true := fun w h => hts w (List.mem_cons_of_mem _ h)
  have hown : s.vm.findClass "RangeCoders$Row" = some m.cls := hown
  have hl : lv_has ls 1 [(0, .ref rr)] := hl
  refine lv_aload_n hx hb d_Row_clear_0 rfl (lv_at hl 0 rfl) ?_
  refine lv_iconst (v := 0) hx hb d_Row_clear_1 (by decide) ?_
  refine va_put (D := (dC, dI)) (ci := 0) (v := .int 0) (ty := .int) (C := "RangeCoders$Row") (T := T_Row) (N := 2) hx hb hg in_Row t_Row o_Row n_Row hown hK hP hD hS 0 rfl rfl 0 (by decide) (hg _ k57) (fun _ h9 => h9) rfl (by decide +kernel) rfl rfl (Nat.le_of_ble_eq_true rfl) d_Row_clear_2 (fun H locs hP hD hS => ?_)
  have hP : va_P (dC, dI) vwCl [(rr, .inr (0, [.int 0, .ref rra])), (rra, .inl (cI, rrk, .inl rrf))] H := hP
  have hD : va_D A [(rr, .inr (0, [.int 0, .ref rra])), (rra, .inl (cI, rrk, .inl rrf))] := hD
  exact my_vret hx hb hr hlocks hQ hK hS (Nat.le_refl _) (Nat.le_refl _) () (rOk_0 hrr) (hP.sub [0, 1] rfl) (hD.sub [0, 1] (by decide) rfl) d_Row_clear_5
set_option maxHeartbeats 2000000 in
set_option maxRecDepth 100000 in
theorem c_Row_add (l : Launch) (dC : Nat → ClassId) (dI : Nat → Nat → Nat) (cI cM cO : ClassId) (sz : Nat) (sl : Nat) (rr : Nat) (rrn : Int32) (rra : Nat) (rrk : Nat) (rrf : Nat → Int32) (vv : Int32) (hrr : rOk rrn rrk) : MetVg l y_Row_add (Cond.code y_Row_add prog_9_method_5_code 2 none :: gw) ({ frames := 2, cells := rPh rrk, slots := rPh rrk, locals := 62 } : Room) (dC, dI) vwCl (kT cI cM cO) [.ref rr, .int vv] [(rr, .inr (0, [.int rrn, .ref rra])), (rra, .inl (cI, rrk, .inl rrf))] sz sl (fun (u : Int32 × Nat × Nat × (Nat → Int32)) => rOk u.1 u.2.2.1) (fun (u : Int32 × Nat × Nat × (Nat → Int32)) => [(rr, .inr (0, [.int u.1, .ref u.2.1])), (u.2.1, .inl (cI, u.2.2.1, .inl u.2.2.2))]) (rPh rrk) (fun (u : Int32 × Nat × Nat × (Nat → Int32)) => rPh u.2.2.1) := by
  refine my_ofVg (cc := prog_9_method_5_code) (n := 2) (ret := none) (by decide) rfl (Nat.le_of_ble_eq_true rfl) ?_
  intro p e s m args below meth c R Q A ls H locs hx hb hr hts hown hlocks hml hnm hR hQ hA hl hP hK hN hD hS
  have hg : ∀ w ∈ gw, w.before args s = true := fun w h => hts w (List.mem_cons_of_mem _ h)
  have hown : s.vm.findClass "RangeCoders$Row" = some m.cls := hown
  have hl : lv_has ls 2 [(0, .ref rr), (1, .int vv)] := hl
  have hlt9 := rOk_lt hrr
  refine lv_aload_n hx hb d_Row_add_0 rfl (lv_at hl 0 rfl) ?_
  refine va_get (D := (dC, dI)) (ci := 0) (v := .int rrn) (C := "RangeCoders$Row") (T := T_Row) (N := 2) hx hb hg in_Row hown hK hP 0 rfl rfl 0 (by decide) (hg _ k57) (fun _ h9 => h9) rfl d_Row_add_1 ?_
  refine lv_aload_n hx hb d_Row_add_4 rfl (lv_at hl 0 rfl) ?_
  refine va_get (D := (dC, dI)) (ci := 0) (v := .ref rra) (C := "RangeCoders$Row") (T := T_Row) (N := 2) hx hb hg in_Row hown hK hP 0 rfl rfl 1 (by decide) (hg _ k60) (fun _ h9 => h9) rfl d_Row_add_5 ?_
  refine va_alen hx hb hK hP 1 0 rfl rfl (v := nI rrk) rfl d_Row_add_8 ?_
  refine lv_icmp_lt (tgt := 41) hx hb d_Row_add_9 (by decide) (fun c_1 => ?_) (fun c_1 => ?_)
  · refine lv_aload_n hx hb d_Row_add_41 rfl (lv_at hl 0 rfl) ?_
    refine va_get (D := (dC, dI)) (ci := 0) (v := .int rrn) (C := "RangeCoders$Row") (T := T_Row) (N := 2) hx hb hg in_Row hown hK hP 0 rfl rfl 0 (by decide) (hg _ k57) (fun _ h9 => h9) rfl d_Row_add_42 ?_
    refine lv_if_lt (tgt := 80) hx hb d_Row_add_45 (by decide) (fun c_2 => ?_) (fun c_2 => ?_)
    · exact my_vretg hx hb hr hlocks hQ hK hS (rrn, rra, rrk, rrf) (show 0 + (rPh rrk) ≤ (rPh rrk) by omega) (show 0 + (rPh rrk) ≤ (rPh rrk) by omega) (by first | exact hrr | exact hrr2 | exact rOk_1 hrr (by assumption) (by assumption) | exact rOk_1 hrr2 (by assumption) (by assumption)) (hP.sub [0, 1] rfl) (hD.sub [0, 1] (by decide) rfl) d_Row_add_80
    · refine lv_aload_n hx hb d_Row_add_48 rfl (lv_at hl 0 rfl) ?_
      refine va_get (D := (dC, dI)) (ci := 0) (v := .int rrn) (C := "RangeCoders$Row") (T := T_Row) (N := 2) hx hb hg in_Row hown hK hP 0 rfl rfl 0 (by decide) (hg _ k57) (fun _ h9 => h9) rfl d_Row_add_49 ?_
      refine lv_aload_n hx hb d_Row_add_52 rfl (lv_at hl 0 rfl) ?_
      refine va_get (D := (dC, dI)) (ci := 0) (v := .ref rra) (C := "RangeCoders$Row") (T := T_Row) (N := 2) hx hb hg in_Row hown hK hP 0 rfl rfl 1 (by decide) (hg _ k60) (fun _ h9 => h9) rfl d_Row_add_53 ?_
      refine va_alen hx hb hK hP 1 0 rfl rfl (v := nI rrk) rfl d_Row_add_56 ?_
      refine lv_icmp_ge (tgt := 80) hx hb d_Row_add_57 (by decide) (fun c_3 => ?_) (fun c_3 => ?_)
      · exact my_vretg hx hb hr hlocks hQ hK hS (rrn, rra, rrk, rrf) (show 0 + (rPh rrk) ≤ (rPh rrk) by omega) (show 0 + (rPh rrk) ≤ (rPh rrk) by omega) (by first | exact hrr | exact hrr2 | exact rOk_1 hrr (by assumption) (by assumption) | exact rOk_1 hrr2 (by assumption) (by assumption)) (hP.sub [0, 1] rfl) (hD.sub [0, 1] (by decide) rfl) d_Row_add_80
      · refine lv_aload_n hx hb d_Row_add_60 rfl (lv_at hl 0 rfl) ?_
        refine va_get (D := (dC, dI)) (ci := 0) (v := .ref rra) (C := "RangeCoders$Row") (T := T_Row) (N := 2) hx hb hg in_Row hown hK hP 0 rfl rfl 1 (by decide) (hg _ k60) (fun _ h9 => h9) rfl d_Row_add_61 ?_
        refine lv_aload_n hx hb d_Row_add_64 rfl (lv_at hl 0 rfl) ?_
        refine va_get (D := (dC, dI)) (ci := 0) (v := .int rrn) (C := "RangeCoders$Row") (T := T_Row) (N := 2) hx hb hg in_Row hown hK hP 0 rfl rfl 0 (by decide) (hg _ k57) (fun _ h9 => h9) rfl d_Row_add_65 ?_
        refine lv_iload_n hx hb d_Row_add_68 rfl (lv_at hl 1 rfl) ?_
        refine va_iast hx hb hK hP hD hS 1 0 rfl rfl (by first | assumption | exact I_in (by omega) (by assumption) (by assumption) | exact I_in' (by omega) (by assumption) (by assumption)) d_Row_add_69 (fun H locs hP hD hS => ?_)
        have hP : va_P (dC, dI) vwCl [(rr, .inr (0, [.int rrn, .ref rra])), (rra, .inl (cI, rrk, .inl (upd rrf rrn.toNatClampNeg vv)))] H := hP
        have hD : va_D A [(rr, .inr (0, [.int rrn, .ref rra])), (rra, .inl (cI, rrk, .inl (upd rrf rrn.toNatClampNeg vv)))] := hD
        refine lv_aload_n hx hb d_Row_add_70 rfl (lv_at hl 0 rfl) ?_
        refine lv_dup hx hb d_Row_add_71 rfl ?_
        refine va_get (D := (dC, dI)) (ci := 0) (v := .int rrn) (C := "RangeCoders$Row") (T := T_Row) (N := 2) hx hb hg in_Row hown hK hP 0 rfl rfl 0 (by decide) (hg _ k57) (fun _ h9 => h9) rfl d_Row_add_72 ?_
        refine lv_iconst (v := 1) hx hb d_Row_add_75 (by decide) ?_
        refine lv_iadd hx hb d_Row_add_76 ?_
        refine lv_topi (fun v_4 ev_4 => ?_)
        refine va_put (D := (dC, dI)) (ci := 0) (v := .int v_4) (ty := .int) (C := "RangeCoders$Row") (T := T_Row) (N := 2) hx hb hg in_Row t_Row o_Row n_Row hown hK hP hD hS 0 rfl rfl 0 (by decide) (hg _ k57) (fun _ h9 => h9) rfl (by decide +kernel) rfl rfl (Nat.le_of_ble_eq_true rfl) d_Row_add_77 (fun H locs hP hD hS => ?_)
        have hP : va_P (dC, dI) vwCl [(rr, .inr (0, [.int v_4, .ref rra])), (rra, .inl (cI, rrk, .inl (upd rrf rrn.toNatClampNeg vv)))] H := hP
        have hD : va_D A [(rr, .inr (0, [.int v_4, .ref rra])), (rra, .inl (cI, rrk, .inl (upd rrf rrn.toNatClampNeg vv)))] := hD
        exact my_vretg hx hb hr hlocks hQ hK hS (v_4, rra, rrk, upd rrf rrn.toNatClampNeg vv) (show 0 + (rPh rrk) ≤ (rPh rrk) by omega) (show 0 + (rPh rrk) ≤ (rPh rrk) by omega) (by first | exact hrr | exact hrr2 | exact rOk_1 hrr (by assumption) (by assumption) | exact rOk_1 hrr2 (by assumption) (by assumption)) (hP.sub [0, 1] rfl) (hD.sub [0, 1] (by decide) rfl) d_Row_add_80
  · refine lv_aload_n hx hb d_Row_add_12 rfl (lv_at hl 0 rfl) ?_
    refine va_get (D := (dC, dI)) (ci := 0) (v := .ref rra) (C := "RangeCoders$Row") (T := T_Row) (N := 2) hx hb hg in_Row hown hK hP 0 rfl rfl 1 (by decide) (hg _ k60) (fun _ h9 => h9) rfl d_Row_add_13 ?_
    refine va_alen hx hb hK hP 1 0 rfl rfl (v := nI rrk) rfl d_Row_add_16 ?_
    refine lv_sipush (v := 8192) hx hb d_Row_add_17 (by decide) ?_
    refine lv_icmp_ge (tgt := 41) hx hb d_Row_add_20 (by decide) (fun c_5 => ?_) (fun c_5 => ?_)
    · refine lv_aload_n hx hb d_Row_add_41 rfl (lv_at hl 0 rfl) ?_
      refine va_get (D := (dC, dI)) (ci := 0) (v := .int rrn) (C := "RangeCoders$Row") (T := T_Row) (N := 2) hx hb hg in_Row hown hK hP 0 rfl rfl 0 (by decide) (hg _ k57) (fun _ h9 => h9) rfl d_Row_add_42 ?_
      refine lv_if_lt (tgt := 80) hx hb d_Row_add_45 (by decide) (fun c_6 => ?_) (fun c_6 => ?_)
      · exact my_vretg hx hb hr hlocks hQ hK hS (rrn, rra, rrk, rrf) (show 0 + (rPh rrk) ≤ (rPh rrk) by omega) (show 0 + (rPh rrk) ≤ (rPh rrk) by omega) (by first | exact hrr | exact hrr2 | exact rOk_1 hrr (by assumption) (by assumption) | exact rOk_1 hrr2 (by assumption) (by assumption)) (hP.sub [0, 1] rfl) (hD.sub [0, 1] (by decide) rfl) d_Row_add_80
      · refine lv_aload_n hx hb d_Row_add_48 rfl (lv_at hl 0 rfl) ?_
        refine va_get (D := (dC, dI)) (ci := 0) (v := .int rrn) (C := "RangeCoders$Row") (T := T_Row) (N := 2) hx hb hg in_Row hown hK hP 0 rfl rfl 0 (by decide) (hg _ k57) (fun _ h9 => h9) rfl d_Row_add_49 ?_
        refine lv_aload_n hx hb d_Row_add_52 rfl (lv_at hl 0 rfl) ?_
        refine va_get (D := (dC, dI)) (ci := 0) (v := .ref rra) (C := "RangeCoders$Row") (T := T_Row) (N := 2) hx hb hg in_Row hown hK hP 0 rfl rfl 1 (by decide) (hg _ k60) (fun _ h9 => h9) rfl d_Row_add_53 ?_
        refine va_alen hx hb hK hP 1 0 rfl rfl (v := nI rrk) rfl d_Row_add_56 ?_
        refine lv_icmp_ge (tgt := 80) hx hb d_Row_add_57 (by decide) (fun c_7 => ?_) (fun c_7 => ?_)
        · exact my_vretg hx hb hr hlocks hQ hK hS (rrn, rra, rrk, rrf) (show 0 + (rPh rrk) ≤ (rPh rrk) by omega) (show 0 + (rPh rrk) ≤ (rPh rrk) by omega) (by first | exact hrr | exact hrr2 | exact rOk_1 hrr (by assumption) (by assumption) | exact rOk_1 hrr2 (by assumption) (by assumption)) (hP.sub [0, 1] rfl) (hD.sub [0, 1] (by decide) rfl) d_Row_add_80
        · refine lv_aload_n hx hb d_Row_add_60 rfl (lv_at hl 0 rfl) ?_
          refine va_get (D := (dC, dI)) (ci := 0) (v := .ref rra) (C := "RangeCoders$Row") (T := T_Row) (N := 2) hx hb hg in_Row hown hK hP 0 rfl rfl 1 (by decide) (hg _ k60) (fun _ h9 => h9) rfl d_Row_add_61 ?_
          refine lv_aload_n hx hb d_Row_add_64 rfl (lv_at hl 0 rfl) ?_
          refine va_get (D := (dC, dI)) (ci := 0) (v := .int rrn) (C := "RangeCoders$Row") (T := T_Row) (N := 2) hx hb hg in_Row hown hK hP 0 rfl rfl 0 (by decide) (hg _ k57) (fun _ h9 => h9) rfl d_Row_add_65 ?_
          refine lv_iload_n hx hb d_Row_add_68 rfl (lv_at hl 1 rfl) ?_
          refine va_iast hx hb hK hP hD hS 1 0 rfl rfl (by first | assumption | exact I_in (by omega) (by assumption) (by assumption) | exact I_in' (by omega) (by assumption) (by assumption)) d_Row_add_69 (fun H locs hP hD hS => ?_)
          have hP : va_P (dC, dI) vwCl [(rr, .inr (0, [.int rrn, .ref rra])), (rra, .inl (cI, rrk, .inl (upd rrf rrn.toNatClampNeg vv)))] H := hP
          have hD : va_D A [(rr, .inr (0, [.int rrn, .ref rra])), (rra, .inl (cI, rrk, .inl (upd rrf rrn.toNatClampNeg vv)))] := hD
          refine lv_aload_n hx hb d_Row_add_70 rfl (lv_at hl 0 rfl) ?_
          refine lv_dup hx hb d_Row_add_71 rfl ?_
          refine va_get (D := (dC, dI)) (ci := 0) (v := .int rrn) (C := "RangeCoders$Row") (T := T_Row) (N := 2) hx hb hg in_Row hown hK hP 0 rfl rfl 0 (by decide) (hg _ k57) (fun _ h9 => h9) rfl d_Row_add_72 ?_
          refine lv_iconst (v := 1) hx hb d_Row_add_75 (by decide) ?_
          refine lv_iadd hx hb d_Row_add_76 ?_
          refine lv_topi (fun v_8 ev_8 => ?_)
          refine va_put (D := (dC, dI)) (ci := 0) (v := .int v_8) (ty := .int) (C := "RangeCoders$Row") (T := T_Row) (N := 2) hx hb hg in_Row t_Row o_Row n_Row hown hK hP hD hS 0 rfl rfl 0 (by decide) (hg _ k57) (fun _ h9 => h9) rfl (by decide +kernel) rfl rfl (Nat.le_of_ble_eq_true rfl) d_Row_add_77 (fun H locs hP hD hS => ?_)
          have hP : va_P (dC, dI) vwCl [(rr, .inr (0, [.int v_8, .ref rra])), (rra, .inl (cI, rrk, .inl (upd rrf rrn.toNatClampNeg vv)))] H := hP
          have hD : va_D A [(rr, .inr (0, [.int v_8, .ref rra])), (rra, .inl (cI, rrk, .inl (upd rrf rrn.toNatClampNeg vv)))] := hD
          exact my_vretg hx hb hr hlocks hQ hK hS (v_8, rra, rrk, upd rrf rrn.toNatClampNeg vv) (show 0 + (rPh rrk) ≤ (rPh rrk) by omega) (show 0 + (rPh rrk) ≤ (rPh rrk) by omega) (by first | exact hrr | exact hrr2 | exact rOk_1 hrr (by assumption) (by assumption) | exact rOk_1 hrr2 (by assumption) (by assumption)) (hP.sub [0, 1] rfl) (hD.sub [0, 1] (by decide) rfl) d_Row_add_80
    · refine lv_aload_n hx hb d_Row_add_23 rfl (lv_at hl 0 rfl) ?_
      refine lv_aload_n hx hb d_Row_add_24 rfl (lv_at hl 0 rfl) ?_
      refine va_get (D := (dC, dI)) (ci := 0) (v := .ref rra) (C := "RangeCoders$Row") (T := T_Row) (N := 2) hx hb hg in_Row hown hK hP 0 rfl rfl 1 (by decide) (hg _ k60) (fun _ h9 => h9) rfl d_Row_add_25 ?_
      refine lv_aload_n hx hb d_Row_add_28 rfl (lv_at hl 0 rfl) ?_
      refine va_get (D := (dC, dI)) (ci := 0) (v := .ref rra) (C := "RangeCoders$Row") (T := T_Row) (N := 2) hx hb hg in_Row hown hK hP 0 rfl rfl 1 (by decide) (hg _ k60) (fun _ h9 => h9) rfl d_Row_add_29 ?_
      refine va_alen hx hb hK hP 1 0 rfl rfl (v := nI rrk) rfl d_Row_add_32 ?_
      refine lv_iconst (v := 2) hx hb d_Row_add_33 (by decide) ?_
      refine lv_imul hx hb d_Row_add_34 ?_
      refine lv_topi (fun v_9 ev_9 => ?_)
      have hlt8 : rrk < 8192 := rw_lt (by omega) c_5
      have hph := rPh_2 (by omega) hlt8
      have z9 : v_9 = nI (2 * rrk) := by rw [ev_9]; exact rw_dbl _
      subst z9
      refine my_cqg (wr := [(rr, .inr (0, [.int rrn, .ref rra]))]) (va_runS (As := [.ref rra, .int (nI (2 * rrk))]) (rest := [.ref rr]) ⟨hx, hb, hml, hown, hts⟩ (c_Arrays_copyOf l dC dI cI cM cO H.size (hSl H) rra rrk rrf (2 * rrk) (by first | assumption | omega) (by first | assumption | omega)) (my_cwS2 2 hts (my_gC k478) rfl rfl rfl (hg _ k15) (hg _ k476) (hg _ k477) (by decide +kernel) ⟨by rw [hR]; exact Nat.le_of_ble_eq_true rfl, by rw [hR]; exact Nat.le_of_ble_eq_true rfl⟩) (my_preg hK hN (hP.sub [1] rfl) (hD.sub [1] (by decide) rfl)) rfl rfl hl.1 rfl (lv_room (Nat.le_of_ble_eq_true rfl)) d_Row_add_35 ⟨by rw [hR]; exact (show 0 + (2 * rrk) ≤ (rPh rrk) by omega), by rw [hR]; exact (show 0 + (2 * rrk) ≤ (rPh rrk) by omega)⟩) hP hD hS hA [1] [0] rfl rfl (by decide) (by decide) (fun r_35 u9 d_35 H locs hd_35 hw_35 hP hD hS => ?_)
      obtain ⟨qa_35, qf_35⟩ := u9
      have hr_35 : r_35 = some qa_35 := hw_35
      have hd_35 : d_35 + 0 ≤ (2 * rrk) := hd_35
      have hP : va_P (dC, dI) vwCl [(rr, .inr (0, [.int rrn, .ref rra])), (rra, .inl (cI, rrk, .inl rrf)), (qa_35, .inl (cI, (2 * rrk), .inl qf_35))] H := hP
      have hD : va_D A [(rr, .inr (0, [.int rrn, .ref rra])), (rra, .inl (cI, rrk, .inl rrf)), (qa_35, .inl (cI, (2 * rrk), .inl qf_35))] := hD
      subst hr_35
      refine W.eq (g2 := F0 m 38 ls [.ref qa_35, .ref rr]) rfl ?_
      have hrr2 := rOk_2 hrr hlt8
      have hlt7 := rOk_lt hrr2
      refine va_put (D := (dC, dI)) (ci := 0) (v := .ref qa_35) (ty := (.array .int)) (C := "RangeCoders$Row") (T := T_Row) (N := 2) hx hb hg in_Row t_Row o_Row n_Row hown hK hP hD hS 0 rfl rfl 1 (by decide) (hg _ k60) (fun _ h9 => h9) rfl (by decide +kernel) rfl rfl (Nat.le_of_ble_eq_true rfl) d_Row_add_38 (fun H locs hP hD hS => ?_)
      have hP : va_P (dC, dI) vwCl [(rr, .inr (0, [.int rrn, .ref qa_35])), (rra, .inl (cI, rrk, .inl rrf)), (qa_35, .inl (cI, (2 * rrk), .inl qf_35))] H := hP
      have hD : va_D A [(rr, .inr (0, [.int rrn, .ref qa_35])), (rra, .inl (cI, rrk, .inl rrf)), (qa_35, .inl (cI, (2 * rrk), .inl qf_35))] := hD
      refine lv_aload_n hx hb d_Row_add_41 rfl (lv_at hl 0 rfl) ?_
      refine va_get (D := (dC, dI)) (ci := 0) (v := .int rrn) (C := "RangeCoders$Row") (T := T_Row) (N := 2) hx hb hg in_Row hown hK hP 0 rfl rfl 0 (by decide) (hg _ k57) (fun _ h9 => h9) rfl d_Row_add_42 ?_
      refine lv_if_lt (tgt := 80) hx hb d_Row_add_45 (by decide) (fun c_10 => ?_) (fun c_10 => ?_)
      · exact my_vretg hx hb hr hlocks hQ hK hS (rrn, qa_35, (2 * rrk), qf_35) (show (0 + d_35) + (rPh (2 * rrk)) ≤ (rPh rrk) by omega) (show (0 + d_35) + (rPh (2 * rrk)) ≤ (rPh rrk) by omega) (by first | exact hrr | exact hrr2 | exact rOk_1 hrr (by assumption) (by assumption) | exact rOk_1 hrr2 (by assumption) (by assumption)) (hP.sub [0, 2] rfl) (hD.sub [0, 2] (by decide) rfl) d_Row_add_80
      · refine lv_aload_n hx hb d_Row_add_48 rfl (lv_at hl 0 rfl) ?_
        refine va_get (D := (dC, dI)) (ci := 0) (v := .int rrn) (C := "RangeCoders$Row") (T := T_Row) (N := 2) hx hb hg in_Row hown hK hP 0 rfl rfl 0 (by decide) (hg _ k57) (fun _ h9 => h9) rfl d_Row_add_49 ?_
        refine lv_aload_n hx hb d_Row_add_52 rfl (lv_at hl 0 rfl) ?_
        refine va_get (D := (dC, dI)) (ci := 0) (v := .ref qa_35) (C := "RangeCoders$Row") (T := T_Row) (N := 2) hx hb hg in_Row hown hK hP 0 rfl rfl 1 (by decide) (hg _ k60) (fun _ h9 => h9) rfl d_Row_add_53 ?_
        refine va_alen hx hb hK hP 2 0 rfl rfl (v := nI (2 * rrk)) rfl d_Row_add_56 ?_
        refine lv_icmp_ge (tgt := 80) hx hb d_Row_add_57 (by decide) (fun c_11 => ?_) (fun c_11 => ?_)
        · exact my_vretg hx hb hr hlocks hQ hK hS (rrn, qa_35, (2 * rrk), qf_35) (show (0 + d_35) + (rPh (2 * rrk)) ≤ (rPh rrk) by omega) (show (0 + d_35) + (rPh (2 * rrk)) ≤ (rPh rrk) by omega) (by first | exact hrr | exact hrr2 | exact rOk_1 hrr (by assumption) (by assumption) | exact rOk_1 hrr2 (by assumption) (by assumption)) (hP.sub [0, 2] rfl) (hD.sub [0, 2] (by decide) rfl) d_Row_add_80
        · refine lv_aload_n hx hb d_Row_add_60 rfl (lv_at hl 0 rfl) ?_
          refine va_get (D := (dC, dI)) (ci := 0) (v := .ref qa_35) (C := "RangeCoders$Row") (T := T_Row) (N := 2) hx hb hg in_Row hown hK hP 0 rfl rfl 1 (by decide) (hg _ k60) (fun _ h9 => h9) rfl d_Row_add_61 ?_
          refine lv_aload_n hx hb d_Row_add_64 rfl (lv_at hl 0 rfl) ?_
          refine va_get (D := (dC, dI)) (ci := 0) (v := .int rrn) (C := "RangeCoders$Row") (T := T_Row) (N := 2) hx hb hg in_Row hown hK hP 0 rfl rfl 0 (by decide) (hg _ k57) (fun _ h9 => h9) rfl d_Row_add_65 ?_
          refine lv_iload_n hx hb d_Row_add_68 rfl (lv_at hl 1 rfl) ?_
          refine va_iast hx hb hK hP hD hS 2 0 rfl rfl (by first | assumption | exact I_in (by omega) (by assumption) (by assumption) | exact I_in' (by omega) (by assumption) (by assumption)) d_Row_add_69 (fun H locs hP hD hS => ?_)
          have hP : va_P (dC, dI) vwCl [(rr, .inr (0, [.int rrn, .ref qa_35])), (rra, .inl (cI, rrk, .inl rrf)), (qa_35, .inl (cI, (2 * rrk), .inl (upd qf_35 rrn.toNatClampNeg vv)))] H := hP
          have hD : va_D A [(rr, .inr (0, [.int rrn, .ref qa_35])), (rra, .inl (cI, rrk, .inl rrf)), (qa_35, .inl (cI, (2 * rrk), .inl (upd qf_35 rrn.toNatClampNeg vv)))] := hD
          refine lv_aload_n hx hb d_Row_add_70 rfl (lv_at hl 0 rfl) ?_
          refine lv_dup hx hb d_Row_add_71 rfl ?_
          refine va_get (D := (dC, dI)) (ci := 0) (v := .int rrn) (C := "RangeCoders$Row") (T := T_Row) (N := 2) hx hb hg in_Row hown hK hP 0 rfl rfl 0 (by decide) (hg _ k57) (fun _ h9 => h9) rfl d_Row_add_72 ?_
          refine lv_iconst (v := 1) hx hb d_Row_add_75 (by decide) ?_
          refine lv_iadd hx hb d_Row_add_76 ?_
          refine lv_topi (fun v_12 ev_12 => ?_)
          refine va_put (D := (dC, dI)) (ci := 0) (v := .int v_12) (ty := .int) (C := "RangeCoders$Row") (T := T_Row) (N := 2) hx hb hg in_Row t_Row o_Row n_Row hown hK hP hD hS 0 rfl rfl 0 (by decide) (hg _ k57) (fun _ h9 => h9) rfl (by decide +kernel) rfl rfl (Nat.le_of_ble_eq_true rfl) d_Row_add_77 (fun H locs hP hD hS => ?_)
          have hP : va_P (dC, dI) vwCl [(rr, .inr (0, [.int v_12, .ref qa_35])), (rra, .inl (cI, rrk, .inl rrf)), (qa_35, .inl (cI, (2 * rrk), .inl (upd qf_35 rrn.toNatClampNeg vv)))] H := hP
          have hD : va_D A [(rr, .inr (0, [.int v_12, .ref qa_35])), (rra, .inl (cI, rrk, .inl rrf)), (qa_35, .inl (cI, (2 * rrk), .inl (upd qf_35 rrn.toNatClampNeg vv)))] := hD
          exact my_vretg hx hb hr hlocks hQ hK hS (v_12, qa_35, (2 * rrk), upd qf_35 rrn.toNatClampNeg vv) (show (0 + d_35) + (rPh (2 * rrk)) ≤ (rPh rrk) by omega) (show (0 + d_35) + (rPh (2 * rrk)) ≤ (rPh rrk) by omega) (by first | exact hrr | exact hrr2 | exact rOk_1 hrr (by assumption) (by assumption) | exact rOk_1 hrr2 (by assumption) (by assumption)) (hP.sub [0, 2] rfl) (hD.sub [0, 2] (by decide) rfl) d_Row_add_80
set_option maxHeartbeats 2000000 in
set_option maxRecDepth 100000 in
theorem c_Row_becomeReverseOf (l : Launch) (dC : Nat → ClassId) (dI : Nat → Nat → Nat) (cI cM cO : ClassId) (sz : Nat) (sl : Nat) (rr : Nat) (rrn : Int32) (rra : Nat) (rrk : Nat) (rrf : Nat → Int32) (rs : Nat) (rsn : Int32) (rsa : Nat) (rsk : Nat) (rsf : Nat → Int32) (hrr : rOk rrn rrk) (hrs : rOk rsn rsk) : MetVg l y_Row_becomeReverseOf (Cond.code y_Row_becomeReverseOf prog_9_method_7_code 3 none :: gw) ({ frames := 3, cells := rPh rrk, slots := rPh rrk, locals := 83 } : Room) (dC, dI) vwCl (kT cI cM cO) [.ref rr, .ref rs] [(rr, .inr (0, [.int rrn, .ref rra])), (rra, .inl (cI, rrk, .inl rrf)), (rs, .inr (0, [.int rsn, .ref rsa])), (rsa, .inl (cI, rsk, .inl rsf))] sz sl (fun (u : Int32 × Nat × Nat × (Nat → Int32)) => rOk u.1 u.2.2.1) (fun (u : Int32 × Nat × Nat × (Nat → Int32)) => [(rr, .inr (0, [.int u.1, .ref u.2.1])), (u.2.1, .inl (cI, u.2.2.1, .inl u.2.2.2)), (rs, .inr (0, [.int rsn, .ref rsa])), (rsa, .inl (cI, rsk, .inl rsf))]) (rPh rrk) (fun (u : Int32 × Nat × Nat × (Nat → Int32)) => rPh u.2.2.1) := by
  refine my_ofVg (cc := prog_9_method_7_code) (n := 3) (ret := none) (by decide) rfl (Nat.le_of_ble_eq_true rfl) ?_
  intro p e s m args below meth c R Q A ls H locs hx hb hr hts hown hlocks hml hnm hR hQ hA hl hP hK hN hD hS
  have hg : ∀ w ∈ gw, w.before args s = true := fun w h => hts w (List.mem_cons_of_mem _ h)
  have hown : s.vm.findClass "RangeCoders$Row" = some m.cls := hown
  have hl : lv_has ls 3 [(0, .ref rr), (1, .ref rs)] := hl
  refine lv_aload_n hx hb d_Row_becomeReverseOf_0 rfl (lv_at hl 0 rfl) ?_
  refine my_cv (wr := [(rs, .inr (0, [.int rsn, .ref rsa])), (rsa, .inl (cI, rsk, .inl rsf))]) (va_runV (As := []) (rest := []) ⟨hx, hb, hml, hown, hts⟩ (c_Row_clear l dC dI cI cM cO H.size rr rrn rra rrk rrf (by first | assumption | omega)) (cwV 0 hts (my_gV k657 k594 k595 k6 k596) rfl rfl rfl (by decide +kernel) ⟨by rw [hR]; exact Nat.le_of_ble_eq_true rfl, by rw [hR]; exact Nat.le_of_ble_eq_true rfl⟩) (my_preV hK hN (hP.sub [0, 1] rfl) (hD.sub [0, 1] (by decide) rfl) 0 rfl rfl) rfl rfl hl.1 rfl (lv_room (Nat.le_of_ble_eq_true rfl)) d_Row_becomeReverseOf_1 ⟨by rw [hR]; exact (show 0 + 0 ≤ (rPh rrk) by omega), by rw [hR]; exact (show 0 + 0 ≤ (rPh rrk) by omega)⟩) hP hD hS hA [0, 1] [2, 3] rfl rfl (by decide) (by decide) (fun u9 H locs hw_1 hP hD hS => ?_)
  have hr_1 : rOk 0 rrk := hw_1
  have hP : va_P (dC, dI) vwCl [(rs, .inr (0, [.int rsn, .ref rsa])), (rsa, .inl (cI, rsk, .inl rsf)), (rr, .inr (0, [.int 0, .ref rra])), (rra, .inl (cI, rrk, .inl rrf))] H := hP
  have hD : va_D A [(rs, .inr (0, [.int rsn, .ref rsa])), (rsa, .inl (cI, rsk, .inl rsf)), (rr, .inr (0, [.int 0, .ref rra])), (rra, .inl (cI, rrk, .inl rrf))] := hD
  refine lv_aload_n hx hb d_Row_becomeReverseOf_4 rfl (lv_at hl 1 rfl) ?_
  refine va_get (D := (dC, dI)) (ci := 0) (v := .int rsn) (C := "RangeCoders$Row") (T := T_Row) (N := 2) hx hb hg in_Row hown hK hP 0 rfl rfl 0 (by decide) (hg _ k57) (fun _ h9 => h9) rfl d_Row_becomeReverseOf_5 ?_
  refine lv_iconst (v := 1) hx hb d_Row_becomeReverseOf_8 (by decide) ?_
  refine lv_isub hx hb d_Row_becomeReverseOf_9 ?_
  refine lv_topi (fun v_1 ev_1 => ?_)
  refine lv_istore_n (lv' := [(2, .int v_1), (0, .ref rr), (1, .ref rs)]) hx hb d_Row_becomeReverseOf_10 rfl hl (by decide) rfl (fun ls hl => ?_)
  have J_11 : ∀ (n9_11 : Nat) (b11_0 : Int32) (b11_1 : Nat) (b11_2 : Int32) (b11_3 : Nat) (b11_4 : Nat → Int32) (b11_5 : Nat) (hn9_11 : (b11_0.toInt + 1).toNat = n9_11) (hr1_11 : rOk b11_2 b11_3) (hd_11 : b11_5 + (rPh b11_3) ≤ rPh rrk) (H : Heap) (locs : List Loc) (ls : Array Slot), va_P (dC, dI) vwCl [(rs, .inr (0, [.int rsn, .ref rsa])), (rsa, .inl (cI, rsk, .inl rsf)), (rr, .inr (0, [.int b11_2, .ref b11_1])), (b11_1, .inl (cI, b11_3, .inl b11_4))] H → va_D A [(rs, .inr (0, [.int rsn, .ref rsa])), (rsa, .inl (cI, rsk, .inl rsf)), (rr, .inr (0, [.int b11_2, .ref b11_1])), (b11_1, .inl (cI, b11_3, .inl b11_4))] → va_S A s.heap H locs → lv_has ls 3 [(2, .int b11_0), (0, .ref rr), (1, .ref rs)] → W p l e R s m args below meth c H locs b11_5 b11_5 Q (F0 m 11 ls []) := by
    intro n9_11
    induction n9_11 using Nat.strongRecOn with
    | ind n9_11 ih9_11 =>
      intro b11_0 b11_1 b11_2 b11_3 b11_4 b11_5 hn9_11 hr1_11 hd_11 H locs ls hP hD hS hl
      refine lv_iload_n hx hb d_Row_becomeReverseOf_11 rfl (lv_at hl 0 rfl) ?_
      refine lv_if_lt (tgt := 30) hx hb d_Row_becomeReverseOf_12 (by decide) (fun c_2 => ?_) (fun c_2 => ?_)
      · exact my_vretg hx hb hr hlocks hQ hK hS (b11_2, b11_1, b11_3, b11_4) (show b11_5 + (rPh b11_3) ≤ (rPh rrk) by omega) (show b11_5 + (rPh b11_3) ≤ (rPh rrk) by omega) (by first | assumption | (subst_vars; assumption)) (hP.sub [2, 3, 0, 1] rfl) (hD.sub [2, 3, 0, 1] (by decide) rfl) d_Row_becomeReverseOf_30
      · refine lv_aload_n hx hb d_Row_becomeReverseOf_15 rfl (lv_at hl 1 rfl) ?_
        refine lv_aload_n hx hb d_Row_becomeReverseOf_16 rfl (lv_at hl 2 rfl) ?_
        refine lv_iload_n hx hb d_Row_becomeReverseOf_17 rfl (lv_at hl 0 rfl) ?_
        refine my_ci (wr := [(rr, .inr (0, [.int b11_2, .ref b11_1])), (b11_1, .inl (cI, b11_3, .inl b11_4))]) (va_runV (As := [.int b11_0]) (rest := [.ref rr]) ⟨hx, hb, hml, hown, hts⟩ (c_Row_at l dC dI cI cM cO H.size rs rsn rsa rsk rsf b11_0 (by first | assumption | omega)) (cwV 1 hts (my_gV k658 k659 k660 k6 k661) rfl rfl rfl (by decide +kernel) ⟨by rw [hR]; exact Nat.le_of_ble_eq_true rfl, by rw [hR]; exact Nat.le_of_ble_eq_true rfl⟩) (my_preV hK hN (hP.sub [0, 1] rfl) (hD.sub [0, 1] (by decide) rfl) 0 rfl rfl) rfl rfl hl.1 rfl (lv_room (Nat.le_of_ble_eq_true rfl)) d_Row_becomeReverseOf_18 ⟨by rw [hR]; exact (show b11_5 + 0 ≤ (rPh rrk) by omega), by rw [hR]; exact (show b11_5 + 0 ≤ (rPh rrk) by omega)⟩) hP hD hS hA [0, 1] [2, 3] rfl rfl (by decide) (by decide) (fun r_18 u9 H locs hw_18 hP hD hS => ?_)
        have hP : va_P (dC, dI) vwCl [(rr, .inr (0, [.int b11_2, .ref b11_1])), (b11_1, .inl (cI, b11_3, .inl b11_4)), (rs, .inr (0, [.int rsn, .ref rsa])), (rsa, .inl (cI, rsk, .inl rsf))] H := hP
        have hD : va_D A [(rr, .inr (0, [.int b11_2, .ref b11_1])), (b11_1, .inl (cI, b11_3, .inl b11_4)), (rs, .inr (0, [.int rsn, .ref rsa])), (rsa, .inl (cI, rsk, .inl rsf))] := hD
        refine my_cvg (wr := [(rs, .inr (0, [.int rsn, .ref rsa])), (rsa, .inl (cI, rsk, .inl rsf))]) (va_runV (As := [.int r_18]) (rest := []) ⟨hx, hb, hml, hown, hts⟩ (c_Row_add l dC dI cI cM cO H.size (hSl H) rr b11_2 b11_1 b11_3 b11_4 r_18 (by first | assumption | omega)) (cwV 1 hts (my_gV k666 k473 k474 k6 k475) rfl rfl rfl (by decide +kernel) ⟨by rw [hR]; exact Nat.le_of_ble_eq_true rfl, by rw [hR]; exact Nat.le_of_ble_eq_true rfl⟩) (my_preVg hK hN (hP.sub [0, 1] rfl) (hD.sub [0, 1] (by decide) rfl) 0 rfl rfl) rfl rfl hl.1 rfl (lv_room (Nat.le_of_ble_eq_true rfl)) d_Row_becomeReverseOf_21 ⟨by rw [hR]; exact (show b11_5 + (rPh b11_3) ≤ (rPh rrk) by omega), by rw [hR]; exact (show b11_5 + (rPh b11_3) ≤ (rPh rrk) by omega)⟩) hP hD hS hA [0, 1] [2, 3] rfl rfl (by decide) (by decide) (fun u9 d_21 H locs hd_21 hw_21 hP hD hS => ?_)
        obtain ⟨rrnq_21, rraq_21, rrkq_21, rrfq_21⟩ := u9
        have hrr_21 : rOk rrnq_21 rrkq_21 := hw_21
        have hd_21 : d_21 + (rPh rrkq_21) ≤ (rPh b11_3) := hd_21
        have hP : va_P (dC, dI) vwCl [(rs, .inr (0, [.int rsn, .ref rsa])), (rsa, .inl (cI, rsk, .inl rsf)), (rr, .inr (0, [.int rrnq_21, .ref rraq_21])), (rraq_21, .inl (cI, rrkq_21, .inl rrfq_21))] H := hP
        have hD : va_D A [(rs, .inr (0, [.int rsn, .ref rsa])), (rsa, .inl (cI, rsk, .inl rsf)), (rr, .inr (0, [.int rrnq_21, .ref rraq_21])), (rraq_21, .inl (cI, rrkq_21, .inl rrfq_21))] := hD
        obtain ⟨v_3, ev_3⟩ : ∃ y : Int32, y = b11_0 + (-1) := ⟨_, rfl⟩
        refine lv_iinc (v := v_3) (lv' := [(2, .int v_3), (0, .ref rr), (1, .ref rs)]) hx hb d_Row_becomeReverseOf_24 hl (k := 0) rfl (by rw [ev_3]; rfl) (by decide) rfl (fun ls hl => ?_)
        refine lv_goto (tgt := 11) hx hb d_Row_becomeReverseOf_27 (by decide) ?_
        exact ih9_11 _ (by first | omega | (have z9 := I_dn c_2 ev_3; omega)) v_3 rraq_21 rrnq_21 rrkq_21 rrfq_21 (b11_5 + d_21) rfl (by assumption) (by omega) H locs ls (hP.sub [0, 1, 2, 3] rfl) (hD.sub [0, 1, 2, 3] (by decide) rfl) hS (lv_sub hl [0, 1, 2] rfl)
  exact J_11 _ v_1 rra (0 : Int32) rrk rrf (0 : Nat) rfl (by assumption) (by omega) H locs ls (hP.sub [0, 1, 2, 3] rfl) (hD.sub [0, 1, 2, 3] (by decide) rfl) hS (lv_sub hl [0, 1, 2] rfl)
set_option maxHeartbeats 2000000 in
set_option maxRecDepth 100000 in
theorem c_Row_init (l : Launch) (dC : Nat → ClassId) (dI : Nat → Nat → Nat) (cI cM cO : ClassId) (sz : Nat) (sl : Nat) (rr : Nat) : MetVg l y_Row_init (Cond.code y_Row_init prog_9_method_1_code 1 none :: gw) ({ frames := 1, cells := 64, slots := 64, locals := 12 } : Room) (dC, dI) vwCl (kT cI cM cO) [.ref rr] [(rr, .inr (0, [.int 0, .null]))] sz sl (fun (u : Nat) => True) (fun (u : Nat) => [(rr, .inr (0, [.int 0, .ref u])), (u, .inl (cI, 64, .inl (fun _ => 0)))]) 64 (fun (u : Nat) => 0) := by
  refine my_ofVg (cc := prog_9_method_1_code) (n := 1) (ret := none) (by decide) rfl (Nat.le_of_ble_eq_true rfl) ?_
  intro p e s m args below meth c R Q A ls H locs hx hb hr hts hown hlocks hml hnm hR hQ hA hl hP hK hN hD hS
  have hg : ∀ w ∈ gw, w.before args s = true := fun w h => hts w (List.mem_cons_of_mem _ h)
  have hown : s.vm.findClass "RangeCoders$Row" = some m.cls := hown
  have hl : lv_has ls 1 [(0, .ref rr)] := hl
  refine lv_aload_n hx hb d_Row_init_0 rfl (lv_at hl 0 rfl) ?_
  refine W.objInit hx hb hown (hg _ k56) (hg _ k23) (hg _ k24) rfl (by rw [hml]; exact hl.1) rfl d_Row_init_1 (by rw [hR]; exact Nat.le_of_ble_eq_true rfl) (by rw [hR]; exact Nat.le_of_ble_eq_true rfl) ?_
  refine W.eq (g2 := F0 m 4 ls []) rfl ?_
  refine lv_aload_n hx hb d_Row_init_4 rfl (lv_at hl 0 rfl) ?_
  refine lv_bipush (v := 64) hx hb d_Row_init_5 (by decide) ?_
  refine my_newi hx hb (hg _ k66) hK 0 rfl hP hD hS hA (N' := 64) (by decide) (rfl) (by omega) (by rw [hR]; exact (by decide : 0 + 1 ≤ 64)) (by rw [hR]; exact Nat.le_refl _) d_Row_init_7 (fun q_1 H hP hD hS => ?_)
  have hP : va_P (dC, dI) vwCl [(rr, .inr (0, [.int 0, .null])), (q_1, .inl (cI, 64, .inl (fun _ => 0)))] H := hP
  have hD : va_D A [(rr, .inr (0, [.int 0, .null])), (q_1, .inl (cI, 64, .inl (fun _ => 0)))] := hD
  refine va_put (D := (dC, dI)) (ci := 0) (v := .ref q_1) (ty := (.array .int)) (C := "RangeCoders$Row") (T := T_Row) (N := 2) hx hb hg in_Row t_Row o_Row n_Row hown hK hP hD hS 0 rfl rfl 1 (by decide) (hg _ k60) (fun _ h9 => h9) rfl (by decide +kernel) rfl rfl (Nat.le_of_ble_eq_true rfl) d_Row_init_9 (fun H locs hP hD hS => ?_)
  have hP : va_P (dC, dI) vwCl [(rr, .inr (0, [.int 0, .ref q_1])), (q_1, .inl (cI, 64, .inl (fun _ => 0)))] H := hP
  have hD : va_D A [(rr, .inr (0, [.int 0, .ref q_1])), (q_1, .inl (cI, 64, .inl (fun _ => 0)))] := hD
  exact my_vretg hx hb hr hlocks hQ hK hS (q_1) (show (0 + 1) + 0 ≤ 64 by omega) (show (0 + 64) + 0 ≤ 64 by omega) (trivial) (hP.sub [0, 1] rfl) (hD.sub [0, 1] (by decide) rfl) d_Row_init_12
