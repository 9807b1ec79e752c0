set_option maxHeartbeats 2000000 in
set_option maxRecDepth 100000 in
theorem f_Arrays_fill (l : Launch) (dC : Nat → ClassId) (dI : Nat → Nat → Nat) (cI cM cO : ClassId) (sz : Nat) (aa : Nat) (al : Nat) (af : Nat → Int32) (vn : Nat) (hal : al ≤ 16384) : MetV l y_Arrays_fill (Cond.code y_Arrays_fill prog_18_method_103_code 4 none :: gw) ({ frames := 0, cells := 0, slots := 0, locals := 0 } : Room) (dC, dI) vwCl (kT cI cM cO) [Value.ref aa, Value.int (nI vn)] [(aa, Sum.inl (cI, al, Sum.inl af))] sz (fun (u : (Nat → Int32)) => tbI u al (fun _ => vn)) (fun (u : (Nat → Int32)) => [(aa, Sum.inl (cI, al, Sum.inl u))]) 0 0 := by
  refine my_ofV (cc := prog_18_method_103_code) (n := 4) (ret := none) (by decide) rfl (Nat.le_of_ble_eq_true rfl) ?_
  intro p e s m args below meth c R Q A ls H locs hx hb hr hts hown hlocks hml hnm hR hQ hA hl hP hK hN hD hS
  have hg : ∀ w ∈ gw, w.before args s = true := fun w h => hts w (List.mem_cons_of_mem _ h)
  have hown : s.vm.findClass "java/util/Arrays" = some m.cls := hown
  have hl : lv_has ls 4 [(0, Value.ref aa), (1, Value.int (nI vn))] := hl
  refine lv_iconst (v := 0) hx hb d_Arrays_fill_0 (by decide) ?_
  refine lv_istore_n (lv' := [(2, Value.int 0), (0, Value.ref aa), (1, Value.int (nI vn))]) hx hb d_Arrays_fill_1 rfl hl (by decide) rfl (fun ls hl => ?_)
  refine lv_aload_n hx hb d_Arrays_fill_2 rfl (lv_at hl 1 rfl) ?_
  refine va_alen hx hb hK hP 0 0 rfl rfl (v := nI al) rfl d_Arrays_fill_3 ?_
  refine lv_istore_n (lv' := [(3, Value.int (nI al)), (2, Value.int 0), (0, Value.ref aa), (1, Value.int (nI vn))]) hx hb d_Arrays_fill_4 rfl hl (by decide) rfl (fun ls hl => ?_)
  have J_5 : ∀ (n9_5 : Nat) (j : Nat) (fL : Nat → Int32) (hn9_5 : al - j = n9_5) (hj : j ≤ al) (hL : tbI fL j (fun _ => vn)) (H : Heap) (locs : List Loc) (ls : Array Slot), va_P (dC, dI) vwCl [(aa, Sum.inl (cI, al, Sum.inl fL))] H → va_D A [(aa, Sum.inl (cI, al, Sum.inl fL))] → va_S A s.heap H locs → lv_has ls 4 [(2, Value.int (nI j)), (3, Value.int (nI al)), (0, Value.ref aa), (1, Value.int (nI vn))] → W p l e R s m args below meth c H locs 0 0 Q (F0 m 5 ls []) := by
    intro n9_5
    induction n9_5 using Nat.strongRecOn with
    | ind n9_5 ih9_5 =>
      intro j fL hn9_5 hj hL H locs ls hP hD hS hl
      refine lv_iload_n hx hb d_Arrays_fill_5 rfl (lv_at hl 0 rfl) ?_
      refine lv_iload_n hx hb d_Arrays_fill_6 rfl (lv_at hl 1 rfl) ?_
      refine lv_icmp_ge (tgt := 20) hx hb d_Arrays_fill_7 (by decide) (fun c_1 => ?_) (fun c_1 => ?_)
      · have hj3 : j = al := by have := nI_ge' (by omega) (by omega) c_1; omega
        exact my_vret hx hb hr hlocks hQ hK hS (Nat.le_refl _) (Nat.le_refl _) (fL) (by rw [← hj3]; exact hL) (hP.sub [0] rfl) (hD.sub [0] (by decide +kernel) rfl) d_Arrays_fill_20
      · have hj2 : j < al := nI_lt' (by omega) c_1
        refine lv_aload_n hx hb d_Arrays_fill_10 rfl (lv_at hl 2 rfl) ?_
        refine lv_iload_n hx hb d_Arrays_fill_11 rfl (lv_at hl 0 rfl) ?_
        refine lv_iload_n hx hb d_Arrays_fill_12 rfl (lv_at hl 3 rfl) ?_
        refine va_iast hx hb hK hP hD hS 0 0 rfl rfl (vp_in_nI hj2 (by omega)) d_Arrays_fill_13 (fun H locs hP hD hS => ?_)
        have hP : va_P (dC, dI) vwCl [(aa, Sum.inl (cI, al, Sum.inl (upd fL (nI j).toNatClampNeg (nI vn))))] H := hP
        have hD : va_D A [(aa, Sum.inl (cI, al, Sum.inl (upd fL (nI j).toNatClampNeg (nI vn))))] := hD
        obtain ⟨v_2, ev_2⟩ : ∃ y : Int32, y = (nI j) + (1) := ⟨_, rfl⟩
        refine lv_iinc (v := v_2) (lv' := [(2, Value.int v_2), (3, Value.int (nI al)), (0, Value.ref aa), (1, Value.int (nI vn))]) hx hb d_Arrays_fill_14 hl (k := 0) rfl (by rw [ev_2]; rfl) (by decide) rfl (fun ls hl => ?_)
        have z9 : v_2 = nI (j + 1) := by rw [ev_2]; exact nI_1 _
        subst z9
        refine lv_goto (tgt := 5) hx hb d_Arrays_fill_17 (by decide) ?_
        exact ih9_5 _ (by first | omega | (omega)) (j + 1) (upd fL (nI j).toNatClampNeg (nI vn)) rfl (by omega) (tb_add hL (nI_clamp (by omega)) rfl) H locs ls (hP.sub [0] rfl) (hD.sub [0] (by decide +kernel) rfl) hS (lv_sub hl [0, 1, 2, 3] rfl)
  exact J_5 _ (0 : Nat) af rfl (Nat.zero_le _) (tbI_0 _ _) H locs ls (hP.sub [0] rfl) (hD.sub [0] (by decide +kernel) rfl) hS (lv_sub hl [1, 0, 2, 3] rfl)
set_option maxHeartbeats 2000000 in
set_option maxRecDepth 100000 in
theorem f_Arrays_copyOf (l : Launch) (dC : Nat → ClassId) (dI : Nat → Nat → Nat) (cI cM cO : ClassId) (sz : Nat) (sl : Nat) (aa : Nat) (al : Nat) (af : Nat → Int32) (nl : Nat) (bs : List Nat) (hal : al < nl) (hnl : nl ≤ 32768) (hG : gIs af bs) (hbl : bs.length ≤ al) : MetQg l y_Arrays_copyOf (Cond.code y_Arrays_copyOf prog_18_method_123_code 3 (some (.array .int)) :: gw) ({ frames := 1, cells := nl, slots := nl, locals := 40 } : Room) (dC, dI) vwCl (kT cI cM cO) [Value.ref aa, Value.int (nI nl)] [(aa, Sum.inl (cI, al, Sum.inl af))] sz sl (fun (r : Option Nat) (u : Nat × (Nat → Int32)) => r = some u.1 ∧ gIs u.2 bs) (fun (u : Nat × (Nat → Int32)) => [(aa, Sum.inl (cI, al, Sum.inl af)), (u.1, Sum.inl (cI, nl, Sum.inl u.2))]) nl (fun (u : Nat × (Nat → Int32)) => 0) := by
  refine my_ofQg (cc := prog_18_method_123_code) (n := 3) (ret := (some (.array .int))) (by decide) rfl (Nat.le_of_ble_eq_true rfl) ?_
  intro p e s m args below meth c R Q A ls H locs hx hb hr hts hown hlocks hml hnm hR hQ hA hl hP hK hN hD hS
  have hg : ∀ w ∈ gw, w.before args s = true := fun w h => hts w (List.mem_cons_of_mem _ h)
  have hown : s.vm.findClass "java/util/Arrays" = some m.cls := hown
  have hl : lv_has ls 3 [(0, Value.ref aa), (1, Value.int (nI nl))] := hl
  refine lv_iload_n hx hb d_Arrays_copyOf_0 rfl (lv_at hl 1 rfl) ?_
  refine lv_aload_n hx hb d_Arrays_copyOf_1 rfl (lv_at hl 0 rfl) ?_
  refine va_alen hx hb hK hP 0 0 rfl rfl (v := nI al) rfl d_Arrays_copyOf_2 ?_
  refine lv_icmp_ne (tgt := 14) hx hb d_Arrays_copyOf_3 (by decide) (fun c_1 => ?_) (fun c_1 => ?_)
  · refine lv_iload_n hx hb d_Arrays_copyOf_14 rfl (lv_at hl 1 rfl) ?_
    refine my_newi hx hb (hg _ k66) hK 0 rfl hP hD hS hA (N' := nl) (nI_pos (by omega)) (nI_clamp (by omega)) (by omega) (by rw [hR]; exact (show 0 + 1 ≤ nl by omega)) (by rw [hR]; exact (show 0 + nl ≤ nl by omega)) d_Arrays_copyOf_15 (fun q_2 H hP hD hS => ?_)
    have hP : va_P (dC, dI) vwCl [(aa, Sum.inl (cI, al, Sum.inl af)), (q_2, Sum.inl (cI, nl, Sum.inl (fun _ => 0)))] H := hP
    have hD : va_D A [(aa, Sum.inl (cI, al, Sum.inl af)), (q_2, Sum.inl (cI, nl, Sum.inl (fun _ => 0)))] := hD
    refine lv_astore_n (lv' := [(2, Value.ref q_2), (0, Value.ref aa), (1, Value.int (nI nl))]) hx hb d_Arrays_copyOf_17 rfl hl (by decide) rfl (fun ls hl => ?_)
    refine lv_aload_n hx hb d_Arrays_copyOf_18 rfl (lv_at hl 1 rfl) ?_
    refine lv_iconst (v := 0) hx hb d_Arrays_copyOf_19 (by decide) ?_
    refine lv_aload_n hx hb d_Arrays_copyOf_20 rfl (lv_at hl 0 rfl) ?_
    refine lv_iconst (v := 0) hx hb d_Arrays_copyOf_21 (by decide) ?_
    refine lv_aload_n hx hb d_Arrays_copyOf_22 rfl (lv_at hl 1 rfl) ?_
    refine va_alen hx hb hK hP 0 0 rfl rfl (v := nI al) rfl d_Arrays_copyOf_23 ?_
    refine lv_iload_n hx hb d_Arrays_copyOf_24 rfl (lv_at hl 2 rfl) ?_
    refine va_mmin hx hb (by rw [hml]; exact hl.1.symm) hown (hg _ k486) (hg _ k31) (hg _ k2) (hg _ k32) (by rw [hR]; exact Nat.le_of_ble_eq_true rfl) (by rw [hR]; exact Nat.le_of_ble_eq_true rfl) (by rw [hR]; exact (show 0 + 1 ≤ nl by omega)) (by rw [hR]; exact (show 0 + nl ≤ nl by omega)) d_Arrays_copyOf_25 ?_
    refine lv_topi (fun v_3 ev_3 => ?_)
    have z9 : v_3 = nI al := by rw [ev_3, if_neg (nI_nlt (by omega) (by omega))]
    subst z9
    refine va_copyi hx hb (by rw [hml]; exact hl.1.symm) hown (hg _ k487) (hg _ k489) (hg _ k488) (hg _ k16) hK hP hD hS 0 1 0 0 rfl rfl rfl rfl rfl (by decide +kernel) (by decide +kernel) (nI_pos (by omega)) (by rw [nI_clamp (by omega)]; exact Nat.le_of_eq (Nat.zero_add _)) (by rw [nI_clamp (by omega)]; exact (show 0 + al ≤ nl by omega)) (fun _ _ => rfl) (by rw [hR]; exact Nat.le_of_ble_eq_true rfl) (by rw [hR]; exact Nat.le_of_ble_eq_true rfl) d_Arrays_copyOf_28 (fun H locs hP hD hS => ?_)
    have hP : va_P (dC, dI) vwCl [(aa, Sum.inl (cI, al, Sum.inl af)), (q_2, Sum.inl (cI, nl, Sum.inl (va_cpy af (fun _ => 0) (0 : Int32).toNatClampNeg (0 : Int32).toNatClampNeg (nI al).toNatClampNeg)))] H := hP
    have hD : va_D A [(aa, Sum.inl (cI, al, Sum.inl af)), (q_2, Sum.inl (cI, nl, Sum.inl (va_cpy af (fun _ => 0) (0 : Int32).toNatClampNeg (0 : Int32).toNatClampNeg (nI al).toNatClampNeg)))] := hD
    refine lv_aload_n hx hb d_Arrays_copyOf_31 rfl (lv_at hl 0 rfl) ?_
    exact my_qretg (v := some q_2) hx hb hr (Or.inr ⟨_, rfl⟩) hlocks hQ hK hS (q_2, va_cpy af (fun _ => 0) (0 : Int32).toNatClampNeg (0 : Int32).toNatClampNeg (nI al).toNatClampNeg) (show (0 + 1) + 0 ≤ nl by omega) (show (0 + nl) + 0 ≤ nl by omega) (⟨rfl, gIs_cpy (n := (nI al).toNatClampNeg) hG (by rw [nI_clamp (by omega)]; exact hbl)⟩) (hP.sub [0, 1] rfl) (hD.sub [0, 1] (by decide +kernel) rfl) d_Arrays_copyOf_32
  · exact absurd (nI_inj (by omega) (by omega) c_1) (by omega)
set_option maxHeartbeats 2000000 in
set_option maxRecDepth 100000 in
theorem f_Row_has (l : Launch) (dC : Nat → ClassId) (dI : Nat → Nat → Nat) (cI cM cO : ClassId) (sz : Nat) (rr : Nat) (rra : Nat) (rrk : Nat) (rrf : Nat → Int32) (bs : List Nat) (ii : Int32) (hrr : rOk (nI bs.length) rrk) (hGrr : gIs rrf bs) (hLrr : bs.length ≤ 8192) : MetI l y_Row_has (Cond.code y_Row_has prog_9_method_2_code 2 (some .boolean) :: gw) ({ frames := 0, cells := 0, slots := 0, locals := 0 } : Room) (dC, dI) vwCl (kT cI cM cO) [Value.ref rr, Value.int ii] [(rr, Sum.inr (0, [Value.int (nI bs.length), Value.ref rra])), (rra, Sum.inl (cI, rrk, Sum.inl rrf))] sz (fun (r : Int32) (u : Unit) => (r = if 0 ≤ ii ∧ ii < nI bs.length then 1 else 0) ∧ (r ≠ 0 → vp_in ii rrk)) (fun (u : Unit) => [(rr, Sum.inr (0, [Value.int (nI bs.length), Value.ref rra])), (rra, Sum.inl (cI, rrk, Sum.inl rrf))]) 0 0 := by
  refine my_ofI (cc := prog_9_method_2_code) (n := 2) (ret := (some .boolean)) (by decide) rfl (Nat.le_of_ble_eq_true rfl) ?_
  intro p e s m args below meth c R Q A ls H locs hx hb hr hts hown hlocks hml hnm hR hQ hA hl hP hK hN hD hS
  have hg : ∀ w ∈ gw, w.before args s = true := fun w h => hts w (List.mem_cons_of_mem _ h)
  have hown : s.vm.findClass "RangeCoders$Row" = some m.cls := hown
  have hl : lv_has ls 2 [(0, Value.ref rr), (1, Value.int ii)] := hl
  have hlt9 := rOk_lt hrr
  have hle9 := rOk_nI hrr (by omega)
  refine lv_iload_n hx hb d_Row_has_0 rfl (lv_at hl 1 rfl) ?_
  refine lv_if_lt (tgt := 25) hx hb d_Row_has_1 (by decide) (fun c_1 => ?_) (fun c_1 => ?_)
  · refine lv_iconst (v := 0) hx hb d_Row_has_25 (by decide) ?_
    exact my_iret (v := 0) hx hb hr (rfl) hlocks hQ hK hS (Nat.le_refl _) (Nat.le_refl _) () (⟨has_0a c_1, fun h9 => absurd rfl h9⟩) (hP.sub [0, 1] rfl) (hD.sub [0, 1] (by decide +kernel) rfl) d_Row_has_26
  · refine lv_iload_n hx hb d_Row_has_4 rfl (lv_at hl 1 rfl) ?_
    refine lv_aload_n hx hb d_Row_has_5 rfl (lv_at hl 0 rfl) ?_
    refine va_get (D := (dC, dI)) (ci := 0) (v := .int (nI bs.length)) (C := "RangeCoders$Row") (T := T_Row) (N := 2) hx hb hg in_Row hown hK hP 0 rfl rfl 0 (by decide) (hg _ k57) (fun _ h9 => h9) rfl d_Row_has_6 ?_
    refine lv_icmp_ge (tgt := 25) hx hb d_Row_has_9 (by decide) (fun c_2 => ?_) (fun c_2 => ?_)
    · refine lv_iconst (v := 0) hx hb d_Row_has_25 (by decide) ?_
      exact my_iret (v := 0) hx hb hr (rfl) hlocks hQ hK hS (Nat.le_refl _) (Nat.le_refl _) () (⟨has_0b c_2, fun h9 => absurd rfl h9⟩) (hP.sub [0, 1] rfl) (hD.sub [0, 1] (by decide +kernel) rfl) d_Row_has_26
    · refine lv_iload_n hx hb d_Row_has_12 rfl (lv_at hl 1 rfl) ?_
      refine lv_aload_n hx hb d_Row_has_13 rfl (lv_at hl 0 rfl) ?_
      refine va_get (D := (dC, dI)) (ci := 0) (v := .ref rra) (C := "RangeCoders$Row") (T := T_Row) (N := 2) hx hb hg in_Row hown hK hP 0 rfl rfl 1 (by decide) (hg _ k60) (fun _ h9 => h9) rfl d_Row_has_14 ?_
      refine va_alen hx hb hK hP 1 0 rfl rfl (v := nI rrk) rfl d_Row_has_17 ?_
      refine lv_icmp_ge (tgt := 25) hx hb d_Row_has_18 (by decide) (fun c_3 => ?_) (fun c_3 => ?_)
      · exact absurd (has_lt (by omega) (by omega) c_1 c_2) (fun q9 => q9 c_3)
      · refine lv_iconst (v := 1) hx hb d_Row_has_21 (by decide) ?_
        refine lv_goto (tgt := 26) hx hb d_Row_has_22 (by decide) ?_
        exact my_iret (v := 1) hx hb hr (rfl) hlocks hQ hK hS (Nat.le_refl _) (Nat.le_refl _) () (⟨has_1 c_1 c_2, fun _ => I_in' (by omega) (by assumption) (by assumption)⟩) (hP.sub [0, 1] rfl) (hD.sub [0, 1] (by decide +kernel) rfl) d_Row_has_26
set_option maxHeartbeats 2000000 in
set_option maxRecDepth 100000 in
theorem f_Row_at (l : Launch) (dC : Nat → ClassId) (dI : Nat → Nat → Nat) (cI cM cO : ClassId) (sz : Nat) (rr : Nat) (rra : Nat) (rrk : Nat) (rrf : Nat → Int32) (bs : List Nat) (ii : Int32) (hrr : rOk (nI bs.length) rrk) (hGrr : gIs rrf bs) (hLrr : bs.length ≤ 8192) : MetI l y_Row_at (Cond.code y_Row_at prog_9_method_3_code 2 (some .int) :: gw) ({ frames := 1, cells := 0, slots := 0, locals := 21 } : Room) (dC, dI) vwCl (kT cI cM cO) [Value.ref rr, Value.int ii] [(rr, Sum.inr (0, [Value.int (nI bs.length), Value.ref rra])), (rra, Sum.inl (cI, rrk, Sum.inl rrf))] sz (fun (r : Int32) (u : Unit) => r = rAt bs ii) (fun (u : Unit) => [(rr, Sum.inr (0, [Value.int (nI bs.length), Value.ref rra])), (rra, Sum.inl (cI, rrk, Sum.inl rrf))]) 0 0 := by
  refine my_ofI (cc := prog_9_method_3_code) (n := 2) (ret := (some .int)) (by decide) rfl (Nat.le_of_ble_eq_true rfl) ?_
  intro p e s m args below meth c R Q A ls H locs hx hb hr hts hown hlocks hml hnm hR hQ hA hl hP hK hN hD hS
  have hg : ∀ w ∈ gw, w.before args s = true := fun w h => hts w (List.mem_cons_of_mem _ h)
  have hown : s.vm.findClass "RangeCoders$Row" = some m.cls := hown
  have hl : lv_has ls 2 [(0, Value.ref rr), (1, Value.int ii)] := hl
  have hlt9 := rOk_lt hrr
  have hle9 := rOk_nI hrr (by omega)
  refine lv_aload_n hx hb d_Row_at_0 rfl (lv_at hl 0 rfl) ?_
  refine lv_iload_n hx hb d_Row_at_1 rfl (lv_at hl 1 rfl) ?_
  refine my_ci (wr := []) (va_runV (As := [Value.int ii]) (rest := []) ⟨hx, hb, hml, hown, hts⟩ (f_Row_has l dC dI cI cM cO H.size rr rra rrk rrf bs ii (by first | assumption | omega) (by first | assumption | omega) (by first | assumption | omega)) (cwV 1 hts (my_gV k662 k663 k664 k6 k665) rfl rfl rfl (by decide +kernel) ⟨by rw [hR]; exact Nat.le_of_ble_eq_true rfl, by rw [hR]; exact Nat.le_of_ble_eq_true rfl⟩) (my_preV hK hN (hP.sub [0, 1] rfl) (hD.sub [0, 1] (by decide +kernel) rfl) 0 rfl rfl) rfl rfl hl.1 rfl (lv_room (Nat.le_of_ble_eq_true rfl)) d_Row_at_2 ⟨by rw [hR]; exact Nat.le_of_ble_eq_true rfl, by rw [hR]; exact Nat.le_of_ble_eq_true rfl⟩) hP hD hS hA [0, 1] [] rfl rfl (by decide +kernel) (by decide +kernel) (fun r_2 u9 H locs hw_2 hP hD hS => ?_)
  obtain ⟨hr_2, hv_2⟩ : (r_2 = if 0 ≤ ii ∧ ii < nI bs.length then 1 else 0) ∧ (r_2 ≠ 0 → vp_in ii rrk) := hw_2
  have hP : va_P (dC, dI) vwCl [(rr, Sum.inr (0, [Value.int (nI bs.length), Value.ref rra])), (rra, Sum.inl (cI, rrk, Sum.inl rrf))] H := hP
  have hD : va_D A [(rr, Sum.inr (0, [Value.int (nI bs.length), Value.ref rra])), (rra, Sum.inl (cI, rrk, Sum.inl rrf))] := hD
  refine lv_if_eq (tgt := 17) hx hb d_Row_at_5 (by decide) (fun c_1 => ?_) (fun c_1 => ?_)
  · refine lv_iconst (v := (-1)) hx hb d_Row_at_17 (by decide) ?_
    exact my_iret (v := (-1)) hx hb hr (rfl) hlocks hQ hK hS (Nat.le_refl _) (Nat.le_refl _) () (rAt_0 (one_eq hr_2 c_1)) (hP.sub [0, 1] rfl) (hD.sub [0, 1] (by decide +kernel) rfl) d_Row_at_18
  · refine lv_aload_n hx hb d_Row_at_8 rfl (lv_at hl 0 rfl) ?_
    refine va_get (D := (dC, dI)) (ci := 0) (v := .ref rra) (C := "RangeCoders$Row") (T := T_Row) (N := 2) hx hb hg in_Row hown hK hP 0 rfl rfl 1 (by decide) (hg _ k60) (fun _ h9 => h9) rfl d_Row_at_9 ?_
    refine lv_iload_n hx hb d_Row_at_12 rfl (lv_at hl 1 rfl) ?_
    refine va_iald hx hb hK hP 1 0 rfl rfl (hv_2 c_1) d_Row_at_13 ?_
    refine lv_topi (fun v_2 ev_2 => ?_)
    refine lv_goto (tgt := 18) hx hb d_Row_at_14 (by decide) ?_
    exact my_iret (v := v_2) hx hb hr (rfl) hlocks hQ hK hS (Nat.le_refl _) (Nat.le_refl _) () (rAt_1 (by omega) hGrr (one_ne hr_2 c_1) ev_2) (hP.sub [0, 1] rfl) (hD.sub [0, 1] (by decide +kernel) rfl) d_Row_at_18
set_option maxHeartbeats 2000000 in
set_option maxRecDepth 100000 in
theorem f_Row_set (l : Launch) (dC : Nat → ClassId) (dI : Nat → Nat → Nat) (cI cM cO : ClassId) (sz : Nat) (rr : Nat) (rra : Nat) (rrk : Nat) (rrf : Nat → Int32) (bs : List Nat) (ii : Nat) (x : Nat) (hrr : rOk (nI bs.length) rrk) (hGrr : gIs rrf bs) (hLrr : bs.length ≤ 8192) (hii : ii < bs.length) : MetV l y_Row_set (Cond.code y_Row_set prog_9_method_4_code 3 none :: gw) ({ frames := 1, cells := 0, slots := 0, locals := 21 } : Room) (dC, dI) vwCl (kT cI cM cO) [Value.ref rr, Value.int (nI ii), Value.int (nI x)] [(rr, Sum.inr (0, [Value.int (nI bs.length), Value.ref rra])), (rra, Sum.inl (cI, rrk, Sum.inl rrf))] sz (fun (u : (Nat → Int32)) => gIs u (bs.set ii x)) (fun (u : (Nat → Int32)) => [(rr, Sum.inr (0, [Value.int (nI bs.length), Value.ref rra])), (rra, Sum.inl (cI, rrk, Sum.inl u))]) 0 0 := by
  refine my_ofV (cc := prog_9_method_4_code) (n := 3) (ret := none) (by decide) rfl (Nat.le_of_ble_eq_true rfl) ?_
  intro p e s m args below meth c R Q A ls H locs hx hb hr hts hown hlocks hml hnm hR hQ hA hl hP hK hN hD hS
  have hg : ∀ w ∈ gw, w.before args s = true := fun w h => hts w (List.mem_cons_of_mem _ h)
  have hown : s.vm.findClass "RangeCoders$Row" = some m.cls := hown
  have hl : lv_has ls 3 [(0, Value.ref rr), (1, Value.int (nI ii)), (2, Value.int (nI x))] := hl
  have hlt9 := rOk_lt hrr
  have hle9 := rOk_nI hrr (by omega)
  refine lv_aload_n hx hb d_Row_set_0 rfl (lv_at hl 0 rfl) ?_
  refine lv_iload_n hx hb d_Row_set_1 rfl (lv_at hl 1 rfl) ?_
  refine my_ci (wr := []) (va_runV (As := [Value.int (nI ii)]) (rest := []) ⟨hx, hb, hml, hown, hts⟩ (f_Row_has l dC dI cI cM cO H.size rr rra rrk rrf bs (nI ii) (by first | assumption | omega) (by first | assumption | omega) (by first | assumption | omega)) (cwV 1 hts (my_gV k662 k663 k664 k6 k665) rfl rfl rfl (by decide +kernel) ⟨by rw [hR]; exact Nat.le_of_ble_eq_true rfl, by rw [hR]; exact Nat.le_of_ble_eq_true rfl⟩) (my_preV hK hN (hP.sub [0, 1] rfl) (hD.sub [0, 1] (by decide +kernel) rfl) 0 rfl rfl) rfl rfl hl.1 rfl (lv_room (Nat.le_of_ble_eq_true rfl)) d_Row_set_2 ⟨by rw [hR]; exact Nat.le_of_ble_eq_true rfl, by rw [hR]; exact Nat.le_of_ble_eq_true rfl⟩) hP hD hS hA [0, 1] [] rfl rfl (by decide +kernel) (by decide +kernel) (fun r_2 u9 H locs hw_2 hP hD hS => ?_)
  obtain ⟨hr_2, hv_2⟩ : (r_2 = if 0 ≤ (nI ii) ∧ (nI ii) < nI bs.length then 1 else 0) ∧ (r_2 ≠ 0 → vp_in (nI ii) rrk) := hw_2
  have hP : va_P (dC, dI) vwCl [(rr, Sum.inr (0, [Value.int (nI bs.length), Value.ref rra])), (rra, Sum.inl (cI, rrk, Sum.inl rrf))] H := hP
  have hD : va_D A [(rr, Sum.inr (0, [Value.int (nI bs.length), Value.ref rra])), (rra, Sum.inl (cI, rrk, Sum.inl rrf))] := hD
  refine lv_if_eq (tgt := 15) hx hb d_Row_set_5 (by decide) (fun c_1 => ?_) (fun c_1 => ?_)
  · exact absurd (has_in hii (by omega)) (one_eq hr_2 c_1)
  · refine lv_aload_n hx hb d_Row_set_8 rfl (lv_at hl 0 rfl) ?_
    refine va_get (D := (dC, dI)) (ci := 0) (v := .ref rra) (C := "RangeCoders$Row") (T := T_Row) (N := 2) hx hb hg in_Row hown hK hP 0 rfl rfl 1 (by decide) (hg _ k60) (fun _ h9 => h9) rfl d_Row_set_9 ?_
    refine lv_iload_n hx hb d_Row_set_12 rfl (lv_at hl 1 rfl) ?_
    refine lv_iload_n hx hb d_Row_set_13 rfl (lv_at hl 2 rfl) ?_
    refine va_iast hx hb hK hP hD hS 1 0 rfl rfl (hv_2 c_1) d_Row_set_14 (fun H locs hP hD hS => ?_)
    have hP : va_P (dC, dI) vwCl [(rr, Sum.inr (0, [Value.int (nI bs.length), Value.ref rra])), (rra, Sum.inl (cI, rrk, Sum.inl (upd rrf (nI ii).toNatClampNeg (nI x))))] H := hP
    have hD : va_D A [(rr, Sum.inr (0, [Value.int (nI bs.length), Value.ref rra])), (rra, Sum.inl (cI, rrk, Sum.inl (upd rrf (nI ii).toNatClampNeg (nI x))))] := hD
    exact my_vret hx hb hr hlocks hQ hK hS (Nat.le_refl _) (Nat.le_refl _) (upd rrf (nI ii).toNatClampNeg (nI x)) (gIs_setN hGrr (nI_clamp (by omega))) (hP.sub [0, 1] rfl) (hD.sub [0, 1] (by decide +kernel) rfl) d_Row_set_15
set_option maxHeartbeats 2000000 in
set_option maxRecDepth 100000 in
theorem f_Row_add (l : Launch) (dC : Nat → ClassId) (dI : Nat → Nat → Nat) (cI cM cO : ClassId) (sz : Nat) (sl : Nat) (rr : Nat) (rra : Nat) (rrk : Nat) (rrf : Nat → Int32) (bs : List Nat) (x : Nat) (hrr : rOk (nI bs.length) rrk) (hGrr : gIs rrf bs) (hl : bs.length < 8192) : MetVg l y_Row_add (Cond.code y_Row_add prog_9_method_5_code 2 none :: gw) ({ frames := 2, cells := rPh rrk, slots := rPh rrk, locals := 62 } : Room) (dC, dI) vwCl (kT cI cM cO) [Value.ref rr, Value.int (nI x)] [(rr, Sum.inr (0, [Value.int (nI bs.length), Value.ref rra])), (rra, Sum.inl (cI, rrk, Sum.inl rrf))] sz sl (fun (u : Nat × Nat × (Nat → Int32)) => rOk (nI (bs ++ [x]).length) u.2.1 ∧ gIs u.2.2 (bs ++ [x])) (fun (u : Nat × Nat × (Nat → Int32)) => [(rr, Sum.inr (0, [Value.int (nI (bs ++ [x]).length), Value.ref u.1])), (u.1, Sum.inl (cI, u.2.1, Sum.inl u.2.2))]) (rPh rrk) (fun (u : Nat × Nat × (Nat → Int32)) => rPh u.2.1) := by
  refine my_ofVg (cc := prog_9_method_5_code) (n := 2) (ret := none) (by decide) rfl (Nat.le_of_ble_eq_true rfl) ?_
  intro p e s m args below meth c R Q A ls H locs hx hb hr hts hown hlocks hml hnm hR hQ hA hl hP hK hN hD hS
  have hg : ∀ w ∈ gw, w.before args s = true := fun w h => hts w (List.mem_cons_of_mem _ h)
  have hown : s.vm.findClass "RangeCoders$Row" = some m.cls := hown
  have hl : lv_has ls 2 [(0, Value.ref rr), (1, Value.int (nI x))] := hl
  have hlt9 := rOk_lt hrr
  have hle9 := rOk_nI hrr (by omega)
  refine lv_aload_n hx hb d_Row_add_0 rfl (lv_at hl 0 rfl) ?_
  refine va_get (D := (dC, dI)) (ci := 0) (v := .int (nI bs.length)) (C := "RangeCoders$Row") (T := T_Row) (N := 2) hx hb hg in_Row hown hK hP 0 rfl rfl 0 (by decide) (hg _ k57) (fun _ h9 => h9) rfl d_Row_add_1 ?_
  refine lv_aload_n hx hb d_Row_add_4 rfl (lv_at hl 0 rfl) ?_
  refine va_get (D := (dC, dI)) (ci := 0) (v := .ref rra) (C := "RangeCoders$Row") (T := T_Row) (N := 2) hx hb hg in_Row hown hK hP 0 rfl rfl 1 (by decide) (hg _ k60) (fun _ h9 => h9) rfl d_Row_add_5 ?_
  refine va_alen hx hb hK hP 1 0 rfl rfl (v := nI rrk) rfl d_Row_add_8 ?_
  refine lv_icmp_lt (tgt := 41) hx hb d_Row_add_9 (by decide) (fun c_1 => ?_) (fun c_1 => ?_)
  · refine lv_aload_n hx hb d_Row_add_41 rfl (lv_at hl 0 rfl) ?_
    refine va_get (D := (dC, dI)) (ci := 0) (v := .int (nI bs.length)) (C := "RangeCoders$Row") (T := T_Row) (N := 2) hx hb hg in_Row hown hK hP 0 rfl rfl 0 (by decide) (hg _ k57) (fun _ h9 => h9) rfl d_Row_add_42 ?_
    refine lv_if_lt (tgt := 80) hx hb d_Row_add_45 (by decide) (fun c_2 => ?_) (fun c_2 => ?_)
    · exact absurd c_2 (nI_pos (by omega))
    · refine lv_aload_n hx hb d_Row_add_48 rfl (lv_at hl 0 rfl) ?_
      refine va_get (D := (dC, dI)) (ci := 0) (v := .int (nI bs.length)) (C := "RangeCoders$Row") (T := T_Row) (N := 2) hx hb hg in_Row hown hK hP 0 rfl rfl 0 (by decide) (hg _ k57) (fun _ h9 => h9) rfl d_Row_add_49 ?_
      refine lv_aload_n hx hb d_Row_add_52 rfl (lv_at hl 0 rfl) ?_
      refine va_get (D := (dC, dI)) (ci := 0) (v := .ref rra) (C := "RangeCoders$Row") (T := T_Row) (N := 2) hx hb hg in_Row hown hK hP 0 rfl rfl 1 (by decide) (hg _ k60) (fun _ h9 => h9) rfl d_Row_add_53 ?_
      refine va_alen hx hb hK hP 1 0 rfl rfl (v := nI rrk) rfl d_Row_add_56 ?_
      refine lv_icmp_ge (tgt := 80) hx hb d_Row_add_57 (by decide) (fun c_3 => ?_) (fun c_3 => ?_)
      · exact absurd c_1 (Int32.not_lt.mpr c_3)
      · refine lv_aload_n hx hb d_Row_add_60 rfl (lv_at hl 0 rfl) ?_
        refine va_get (D := (dC, dI)) (ci := 0) (v := .ref rra) (C := "RangeCoders$Row") (T := T_Row) (N := 2) hx hb hg in_Row hown hK hP 0 rfl rfl 1 (by decide) (hg _ k60) (fun _ h9 => h9) rfl d_Row_add_61 ?_
        refine lv_aload_n hx hb d_Row_add_64 rfl (lv_at hl 0 rfl) ?_
        refine va_get (D := (dC, dI)) (ci := 0) (v := .int (nI bs.length)) (C := "RangeCoders$Row") (T := T_Row) (N := 2) hx hb hg in_Row hown hK hP 0 rfl rfl 0 (by decide) (hg _ k57) (fun _ h9 => h9) rfl d_Row_add_65 ?_
        refine lv_iload_n hx hb d_Row_add_68 rfl (lv_at hl 1 rfl) ?_
        have hbl : bs.length < rrk := nI_lt' (by omega) c_3
        refine va_iast hx hb hK hP hD hS 1 0 rfl rfl (vp_in_nI hbl (by omega)) d_Row_add_69 (fun H locs hP hD hS => ?_)
        have hP : va_P (dC, dI) vwCl [(rr, Sum.inr (0, [Value.int (nI bs.length), Value.ref rra])), (rra, Sum.inl (cI, rrk, Sum.inl (upd rrf (nI bs.length).toNatClampNeg (nI x))))] H := hP
        have hD : va_D A [(rr, Sum.inr (0, [Value.int (nI bs.length), Value.ref rra])), (rra, Sum.inl (cI, rrk, Sum.inl (upd rrf (nI bs.length).toNatClampNeg (nI x))))] := hD
        refine lv_aload_n hx hb d_Row_add_70 rfl (lv_at hl 0 rfl) ?_
        refine lv_dup hx hb d_Row_add_71 rfl ?_
        refine va_get (D := (dC, dI)) (ci := 0) (v := .int (nI bs.length)) (C := "RangeCoders$Row") (T := T_Row) (N := 2) hx hb hg in_Row hown hK hP 0 rfl rfl 0 (by decide) (hg _ k57) (fun _ h9 => h9) rfl d_Row_add_72 ?_
        refine lv_iconst (v := 1) hx hb d_Row_add_75 (by decide) ?_
        refine lv_iadd hx hb d_Row_add_76 ?_
        refine lv_topi (fun v_4 ev_4 => ?_)
        have z9 : v_4 = nI (bs ++ [x]).length := by rw [ev_4, List.length_append]; exact nI_1 _
        subst z9
        refine va_put (D := (dC, dI)) (ci := 0) (v := .int (nI (bs ++ [x]).length)) (ty := .int) (C := "RangeCoders$Row") (T := T_Row) (N := 2) hx hb hg in_Row t_Row o_Row n_Row hown hK hP hD hS 0 rfl rfl 0 (by decide) (hg _ k57) (fun _ h9 => h9) rfl (by decide +kernel) rfl rfl (Nat.le_of_ble_eq_true rfl) d_Row_add_77 (fun H locs hP hD hS => ?_)
        have hP : va_P (dC, dI) vwCl [(rr, Sum.inr (0, [Value.int (nI (bs ++ [x]).length), Value.ref rra])), (rra, Sum.inl (cI, rrk, Sum.inl (upd rrf (nI bs.length).toNatClampNeg (nI x))))] H := hP
        have hD : va_D A [(rr, Sum.inr (0, [Value.int (nI (bs ++ [x]).length), Value.ref rra])), (rra, Sum.inl (cI, rrk, Sum.inl (upd rrf (nI bs.length).toNatClampNeg (nI x))))] := hD
        have hrr8 : rOk (nI (bs ++ [x]).length) rrk := rOk_of (by rw [List.length_append, List.length_singleton]; omega) (by omega) (by omega)
        exact my_vretg hx hb hr hlocks hQ hK hS (rra, rrk, upd rrf (nI bs.length).toNatClampNeg (nI x)) (show 0 + (rPh rrk) ≤ (rPh rrk) by omega) (show 0 + (rPh rrk) ≤ (rPh rrk) by omega) (⟨hrr8, gIs_up (by assumption) (nI_clamp (by omega)) rfl⟩) (hP.sub [0, 1] rfl) (hD.sub [0, 1] (by decide +kernel) rfl) d_Row_add_80
  · refine lv_aload_n hx hb d_Row_add_12 rfl (lv_at hl 0 rfl) ?_
    refine va_get (D := (dC, dI)) (ci := 0) (v := .ref rra) (C := "RangeCoders$Row") (T := T_Row) (N := 2) hx hb hg in_Row hown hK hP 0 rfl rfl 1 (by decide) (hg _ k60) (fun _ h9 => h9) rfl d_Row_add_13 ?_
    refine va_alen hx hb hK hP 1 0 rfl rfl (v := nI rrk) rfl d_Row_add_16 ?_
    refine lv_sipush (v := 8192) hx hb d_Row_add_17 (by decide) ?_
    refine lv_icmp_ge (tgt := 41) hx hb d_Row_add_20 (by decide) (fun c_5 => ?_) (fun c_5 => ?_)
    · refine lv_aload_n hx hb d_Row_add_41 rfl (lv_at hl 0 rfl) ?_
      refine va_get (D := (dC, dI)) (ci := 0) (v := .int (nI bs.length)) (C := "RangeCoders$Row") (T := T_Row) (N := 2) hx hb hg in_Row hown hK hP 0 rfl rfl 0 (by decide) (hg _ k57) (fun _ h9 => h9) rfl d_Row_add_42 ?_
      refine lv_if_lt (tgt := 80) hx hb d_Row_add_45 (by decide) (fun c_6 => ?_) (fun c_6 => ?_)
      · exact absurd c_6 (nI_pos (by omega))
      · refine lv_aload_n hx hb d_Row_add_48 rfl (lv_at hl 0 rfl) ?_
        refine va_get (D := (dC, dI)) (ci := 0) (v := .int (nI bs.length)) (C := "RangeCoders$Row") (T := T_Row) (N := 2) hx hb hg in_Row hown hK hP 0 rfl rfl 0 (by decide) (hg _ k57) (fun _ h9 => h9) rfl d_Row_add_49 ?_
        refine lv_aload_n hx hb d_Row_add_52 rfl (lv_at hl 0 rfl) ?_
        refine va_get (D := (dC, dI)) (ci := 0) (v := .ref rra) (C := "RangeCoders$Row") (T := T_Row) (N := 2) hx hb hg in_Row hown hK hP 0 rfl rfl 1 (by decide) (hg _ k60) (fun _ h9 => h9) rfl d_Row_add_53 ?_
        refine va_alen hx hb hK hP 1 0 rfl rfl (v := nI rrk) rfl d_Row_add_56 ?_
        refine lv_icmp_ge (tgt := 80) hx hb d_Row_add_57 (by decide) (fun c_7 => ?_) (fun c_7 => ?_)
        · exact absurd (nI_ge' (by omega) (by omega) c_7) (by have := nI_ge' (n := 8192) (by omega) (by decide) c_5; omega)
        · refine lv_aload_n hx hb d_Row_add_60 rfl (lv_at hl 0 rfl) ?_
          refine va_get (D := (dC, dI)) (ci := 0) (v := .ref rra) (C := "RangeCoders$Row") (T := T_Row) (N := 2) hx hb hg in_Row hown hK hP 0 rfl rfl 1 (by decide) (hg _ k60) (fun _ h9 => h9) rfl d_Row_add_61 ?_
          refine lv_aload_n hx hb d_Row_add_64 rfl (lv_at hl 0 rfl) ?_
          refine va_get (D := (dC, dI)) (ci := 0) (v := .int (nI bs.length)) (C := "RangeCoders$Row") (T := T_Row) (N := 2) hx hb hg in_Row hown hK hP 0 rfl rfl 0 (by decide) (hg _ k57) (fun _ h9 => h9) rfl d_Row_add_65 ?_
          refine lv_iload_n hx hb d_Row_add_68 rfl (lv_at hl 1 rfl) ?_
          have hbl : bs.length < rrk := nI_lt' (by omega) c_7
          refine va_iast hx hb hK hP hD hS 1 0 rfl rfl (vp_in_nI hbl (by omega)) d_Row_add_69 (fun H locs hP hD hS => ?_)
          have hP : va_P (dC, dI) vwCl [(rr, Sum.inr (0, [Value.int (nI bs.length), Value.ref rra])), (rra, Sum.inl (cI, rrk, Sum.inl (upd rrf (nI bs.length).toNatClampNeg (nI x))))] H := hP
          have hD : va_D A [(rr, Sum.inr (0, [Value.int (nI bs.length), Value.ref rra])), (rra, Sum.inl (cI, rrk, Sum.inl (upd rrf (nI bs.length).toNatClampNeg (nI x))))] := hD
          refine lv_aload_n hx hb d_Row_add_70 rfl (lv_at hl 0 rfl) ?_
          refine lv_dup hx hb d_Row_add_71 rfl ?_
          refine va_get (D := (dC, dI)) (ci := 0) (v := .int (nI bs.length)) (C := "RangeCoders$Row") (T := T_Row) (N := 2) hx hb hg in_Row hown hK hP 0 rfl rfl 0 (by decide) (hg _ k57) (fun _ h9 => h9) rfl d_Row_add_72 ?_
          refine lv_iconst (v := 1) hx hb d_Row_add_75 (by decide) ?_
          refine lv_iadd hx hb d_Row_add_76 ?_
          refine lv_topi (fun v_8 ev_8 => ?_)
          have z9 : v_8 = nI (bs ++ [x]).length := by rw [ev_8, List.length_append]; exact nI_1 _
          subst z9
          refine va_put (D := (dC, dI)) (ci := 0) (v := .int (nI (bs ++ [x]).length)) (ty := .int) (C := "RangeCoders$Row") (T := T_Row) (N := 2) hx hb hg in_Row t_Row o_Row n_Row hown hK hP hD hS 0 rfl rfl 0 (by decide) (hg _ k57) (fun _ h9 => h9) rfl (by decide +kernel) rfl rfl (Nat.le_of_ble_eq_true rfl) d_Row_add_77 (fun H locs hP hD hS => ?_)
          have hP : va_P (dC, dI) vwCl [(rr, Sum.inr (0, [Value.int (nI (bs ++ [x]).length), Value.ref rra])), (rra, Sum.inl (cI, rrk, Sum.inl (upd rrf (nI bs.length).toNatClampNeg (nI x))))] H := hP
          have hD : va_D A [(rr, Sum.inr (0, [Value.int (nI (bs ++ [x]).length), Value.ref rra])), (rra, Sum.inl (cI, rrk, Sum.inl (upd rrf (nI bs.length).toNatClampNeg (nI x))))] := hD
          have hrr8 : rOk (nI (bs ++ [x]).length) rrk := rOk_of (by rw [List.length_append, List.length_singleton]; omega) (by omega) (by omega)
          exact my_vretg hx hb hr hlocks hQ hK hS (rra, rrk, upd rrf (nI bs.length).toNatClampNeg (nI x)) (show 0 + (rPh rrk) ≤ (rPh rrk) by omega) (show 0 + (rPh rrk) ≤ (rPh rrk) by omega) (⟨hrr8, gIs_up (by assumption) (nI_clamp (by omega)) rfl⟩) (hP.sub [0, 1] rfl) (hD.sub [0, 1] (by decide +kernel) rfl) d_Row_add_80
    · refine lv_aload_n hx hb d_Row_add_23 rfl (lv_at hl 0 rfl) ?_
      refine lv_aload_n hx hb d_Row_add_24 rfl (lv_at hl 0 rfl) ?_
      refine va_get (D := (dC, dI)) (ci := 0) (v := .ref rra) (C := "RangeCoders$Row") (T := T_Row) (N := 2) hx hb hg in_Row hown hK hP 0 rfl rfl 1 (by decide) (hg _ k60) (fun _ h9 => h9) rfl d_Row_add_25 ?_
      refine lv_aload_n hx hb d_Row_add_28 rfl (lv_at hl 0 rfl) ?_
      refine va_get (D := (dC, dI)) (ci := 0) (v := .ref rra) (C := "RangeCoders$Row") (T := T_Row) (N := 2) hx hb hg in_Row hown hK hP 0 rfl rfl 1 (by decide) (hg _ k60) (fun _ h9 => h9) rfl d_Row_add_29 ?_
      refine va_alen hx hb hK hP 1 0 rfl rfl (v := nI rrk) rfl d_Row_add_32 ?_
      refine lv_iconst (v := 2) hx hb d_Row_add_33 (by decide) ?_
      refine lv_imul hx hb d_Row_add_34 ?_
      refine lv_topi (fun v_9 ev_9 => ?_)
      have hlt8 : rrk < 8192 := rw_lt (by omega) c_5
      have hph := rPh_2 (by omega) hlt8
      have z9 : v_9 = nI (2 * rrk) := by rw [ev_9]; exact rw_dbl _
      subst z9
      refine my_cqg (wr := [(rr, Sum.inr (0, [Value.int (nI bs.length), Value.ref rra]))]) (va_runS (As := [Value.ref rra, Value.int (nI (2 * rrk))]) (rest := [Value.ref rr]) ⟨hx, hb, hml, hown, hts⟩ (f_Arrays_copyOf l dC dI cI cM cO H.size (hSl H) rra rrk rrf (2 * rrk) bs (by first | assumption | omega) (by first | assumption | omega) (hGrr) (hle9)) (my_cwS2 2 hts (my_gC k478) rfl rfl rfl (hg _ k15) (hg _ k476) (hg _ k477) (by decide +kernel) ⟨by rw [hR]; exact Nat.le_of_ble_eq_true rfl, by rw [hR]; exact Nat.le_of_ble_eq_true rfl⟩) (my_preg hK hN (hP.sub [1] rfl) (hD.sub [1] (by decide +kernel) rfl)) rfl rfl hl.1 rfl (lv_room (Nat.le_of_ble_eq_true rfl)) d_Row_add_35 ⟨by rw [hR]; exact (show 0 + (2 * rrk) ≤ (rPh rrk) by omega), by rw [hR]; exact (show 0 + (2 * rrk) ≤ (rPh rrk) by omega)⟩) hP hD hS hA [1] [0] rfl rfl (by decide +kernel) (by decide +kernel) (fun r_35 u9 d_35 H locs hd_35 hw_35 hP hD hS => ?_)
      obtain ⟨qa_35, qf_35⟩ := u9
      obtain ⟨hr_35, hGq_35⟩ : r_35 = some qa_35 ∧ gIs qf_35 bs := hw_35
      have hd_35 : d_35 + 0 ≤ (2 * rrk) := hd_35
      have hP : va_P (dC, dI) vwCl [(rr, Sum.inr (0, [Value.int (nI bs.length), Value.ref rra])), (rra, Sum.inl (cI, rrk, Sum.inl rrf)), (qa_35, Sum.inl (cI, (2 * rrk), Sum.inl qf_35))] H := hP
      have hD : va_D A [(rr, Sum.inr (0, [Value.int (nI bs.length), Value.ref rra])), (rra, Sum.inl (cI, rrk, Sum.inl rrf)), (qa_35, Sum.inl (cI, (2 * rrk), Sum.inl qf_35))] := hD
      subst hr_35
      refine W.eq (g2 := F0 m 38 ls [Value.ref qa_35, Value.ref rr]) rfl ?_
      have hrr2 := rOk_2 hrr hlt8
      have hlt7 := rOk_lt hrr2
      refine va_put (D := (dC, dI)) (ci := 0) (v := .ref qa_35) (ty := (.array .int)) (C := "RangeCoders$Row") (T := T_Row) (N := 2) hx hb hg in_Row t_Row o_Row n_Row hown hK hP hD hS 0 rfl rfl 1 (by decide) (hg _ k60) (fun _ h9 => h9) rfl (by decide +kernel) rfl rfl (Nat.le_of_ble_eq_true rfl) d_Row_add_38 (fun H locs hP hD hS => ?_)
      have hP : va_P (dC, dI) vwCl [(rr, Sum.inr (0, [Value.int (nI bs.length), Value.ref qa_35])), (rra, Sum.inl (cI, rrk, Sum.inl rrf)), (qa_35, Sum.inl (cI, (2 * rrk), Sum.inl qf_35))] H := hP
      have hD : va_D A [(rr, Sum.inr (0, [Value.int (nI bs.length), Value.ref qa_35])), (rra, Sum.inl (cI, rrk, Sum.inl rrf)), (qa_35, Sum.inl (cI, (2 * rrk), Sum.inl qf_35))] := hD
      refine lv_aload_n hx hb d_Row_add_41 rfl (lv_at hl 0 rfl) ?_
      refine va_get (D := (dC, dI)) (ci := 0) (v := .int (nI bs.length)) (C := "RangeCoders$Row") (T := T_Row) (N := 2) hx hb hg in_Row hown hK hP 0 rfl rfl 0 (by decide) (hg _ k57) (fun _ h9 => h9) rfl d_Row_add_42 ?_
      refine lv_if_lt (tgt := 80) hx hb d_Row_add_45 (by decide) (fun c_10 => ?_) (fun c_10 => ?_)
      · exact absurd c_10 (nI_pos (by omega))
      · refine lv_aload_n hx hb d_Row_add_48 rfl (lv_at hl 0 rfl) ?_
        refine va_get (D := (dC, dI)) (ci := 0) (v := .int (nI bs.length)) (C := "RangeCoders$Row") (T := T_Row) (N := 2) hx hb hg in_Row hown hK hP 0 rfl rfl 0 (by decide) (hg _ k57) (fun _ h9 => h9) rfl d_Row_add_49 ?_
        refine lv_aload_n hx hb d_Row_add_52 rfl (lv_at hl 0 rfl) ?_
        refine va_get (D := (dC, dI)) (ci := 0) (v := .ref qa_35) (C := "RangeCoders$Row") (T := T_Row) (N := 2) hx hb hg in_Row hown hK hP 0 rfl rfl 1 (by decide) (hg _ k60) (fun _ h9 => h9) rfl d_Row_add_53 ?_
        refine va_alen hx hb hK hP 2 0 rfl rfl (v := nI (2 * rrk)) rfl d_Row_add_56 ?_
        refine lv_icmp_ge (tgt := 80) hx hb d_Row_add_57 (by decide) (fun c_11 => ?_) (fun c_11 => ?_)
        · exact absurd (nI_ge' (by omega) (by omega) c_11) (by omega)
        · refine lv_aload_n hx hb d_Row_add_60 rfl (lv_at hl 0 rfl) ?_
          refine va_get (D := (dC, dI)) (ci := 0) (v := .ref qa_35) (C := "RangeCoders$Row") (T := T_Row) (N := 2) hx hb hg in_Row hown hK hP 0 rfl rfl 1 (by decide) (hg _ k60) (fun _ h9 => h9) rfl d_Row_add_61 ?_
          refine lv_aload_n hx hb d_Row_add_64 rfl (lv_at hl 0 rfl) ?_
          refine va_get (D := (dC, dI)) (ci := 0) (v := .int (nI bs.length)) (C := "RangeCoders$Row") (T := T_Row) (N := 2) hx hb hg in_Row hown hK hP 0 rfl rfl 0 (by decide) (hg _ k57) (fun _ h9 => h9) rfl d_Row_add_65 ?_
          refine lv_iload_n hx hb d_Row_add_68 rfl (lv_at hl 1 rfl) ?_
          have hbl : bs.length < (2 * rrk) := nI_lt' (by omega) c_11
          refine va_iast hx hb hK hP hD hS 2 0 rfl rfl (vp_in_nI hbl (by omega)) d_Row_add_69 (fun H locs hP hD hS => ?_)
          have hP : va_P (dC, dI) vwCl [(rr, Sum.inr (0, [Value.int (nI bs.length), Value.ref qa_35])), (rra, Sum.inl (cI, rrk, Sum.inl rrf)), (qa_35, Sum.inl (cI, (2 * rrk), Sum.inl (upd qf_35 (nI bs.length).toNatClampNeg (nI x))))] H := hP
          have hD : va_D A [(rr, Sum.inr (0, [Value.int (nI bs.length), Value.ref qa_35])), (rra, Sum.inl (cI, rrk, Sum.inl rrf)), (qa_35, Sum.inl (cI, (2 * rrk), Sum.inl (upd qf_35 (nI bs.length).toNatClampNeg (nI x))))] := hD
          refine lv_aload_n hx hb d_Row_add_70 rfl (lv_at hl 0 rfl) ?_
          refine lv_dup hx hb d_Row_add_71 rfl ?_
          refine va_get (D := (dC, dI)) (ci := 0) (v := .int (nI bs.length)) (C := "RangeCoders$Row") (T := T_Row) (N := 2) hx hb hg in_Row hown hK hP 0 rfl rfl 0 (by decide) (hg _ k57) (fun _ h9 => h9) rfl d_Row_add_72 ?_
          refine lv_iconst (v := 1) hx hb d_Row_add_75 (by decide) ?_
          refine lv_iadd hx hb d_Row_add_76 ?_
          refine lv_topi (fun v_12 ev_12 => ?_)
          have z9 : v_12 = nI (bs ++ [x]).length := by rw [ev_12, List.length_append]; exact nI_1 _
          subst z9
          refine va_put (D := (dC, dI)) (ci := 0) (v := .int (nI (bs ++ [x]).length)) (ty := .int) (C := "RangeCoders$Row") (T := T_Row) (N := 2) hx hb hg in_Row t_Row o_Row n_Row hown hK hP hD hS 0 rfl rfl 0 (by decide) (hg _ k57) (fun _ h9 => h9) rfl (by decide +kernel) rfl rfl (Nat.le_of_ble_eq_true rfl) d_Row_add_77 (fun H locs hP hD hS => ?_)
          have hP : va_P (dC, dI) vwCl [(rr, Sum.inr (0, [Value.int (nI (bs ++ [x]).length), Value.ref qa_35])), (rra, Sum.inl (cI, rrk, Sum.inl rrf)), (qa_35, Sum.inl (cI, (2 * rrk), Sum.inl (upd qf_35 (nI bs.length).toNatClampNeg (nI x))))] H := hP
          have hD : va_D A [(rr, Sum.inr (0, [Value.int (nI (bs ++ [x]).length), Value.ref qa_35])), (rra, Sum.inl (cI, rrk, Sum.inl rrf)), (qa_35, Sum.inl (cI, (2 * rrk), Sum.inl (upd qf_35 (nI bs.length).toNatClampNeg (nI x))))] := hD
          have hrr8 : rOk (nI (bs ++ [x]).length) (2 * rrk) := rOk_of (by rw [List.length_append, List.length_singleton]; omega) (by omega) (by omega)
          exact my_vretg hx hb hr hlocks hQ hK hS (qa_35, (2 * rrk), upd qf_35 (nI bs.length).toNatClampNeg (nI x)) (show (0 + d_35) + (rPh (2 * rrk)) ≤ (rPh rrk) by omega) (show (0 + d_35) + (rPh (2 * rrk)) ≤ (rPh rrk) by omega) (⟨hrr8, gIs_up (by assumption) (nI_clamp (by omega)) rfl⟩) (hP.sub [0, 2] rfl) (hD.sub [0, 2] (by decide +kernel) rfl) d_Row_add_80

