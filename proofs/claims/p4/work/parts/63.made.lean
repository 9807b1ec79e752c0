set_option maxHeartbeats 2000000 in
set_option maxRecDepth 100000 in
theorem c_Odds_init (l : Launch) (dC : Nat → ClassId) (dI : Nat → Nat → Nat) (cI cM cO : ClassId) (sz : Nat) (sl : Nat) (oo : Nat) (isg : Int32) (ifc : Int32) (nc : Nat) (np : Nat) (hnc : nc ≤ 64) (hnp : np ≤ 512) : MetVg l y_Odds_init (Cond.code y_Odds_init prog_7_method_1_code 5 none :: gw) ({ frames := 1, cells := 600, slots := 600, locals := 12 } : Room) (dC, dI) vwCl (kT cI cM cO) [Value.ref oo, Value.int isg, Value.int ifc, Value.int (nI nc), Value.int (nI np)] [(oo, Sum.inr (7, [Value.int 0, Value.int 0, Value.int 0, Value.null, Value.null]))] sz sl (fun (u : Nat × Nat) => True) (fun (u : Nat × Nat) => [(oo, Sum.inr (7, [Value.int isg, Value.int 0, Value.int ifc, Value.ref u.1, Value.ref u.2])), (u.1, Sum.inl (cI, nc, Sum.inl (fun _ => 0))), (u.2, Sum.inl (cI, np, Sum.inl (fun _ => 0)))]) 600 (fun (u : Nat × Nat) => 0) := by
  refine my_ofVg (cc := prog_7_method_1_code) (n := 5) (ret := none) (by decide) rfl (Nat.le_of_ble_eq_true rfl) ?_
  intro p e s m args below meth c R Q A ls H locs hx hb hr hts hown hlocks hml hnm hR hQ hA hl hP hK hN hD hS
  have hg : ∀ w ∈ gw, w.before args s = true := fun w h => hts w (List.mem_cons_of_mem _ h)
  have hown : s.vm.findClass "RangeCoders$Odds" = some m.cls := hown
  have hl : lv_has ls 5 [(0, Value.ref oo), (1, Value.int isg), (2, Value.int ifc), (3, Value.int (nI nc)), (4, Value.int (nI np))] := hl
  refine lv_aload_n hx hb d_Odds_init_0 rfl (lv_at hl 0 rfl) ?_
  refine W.objInit hx hb hown (hg _ k302) (hg _ k23) (hg _ k24) rfl (by rw [hml]; exact hl.1) rfl d_Odds_init_1 (by rw [hR]; exact Nat.le_of_ble_eq_true rfl) (by rw [hR]; exact Nat.le_of_ble_eq_true rfl) ?_
  refine W.eq (g2 := F0 m 4 ls []) rfl ?_
  refine lv_aload_n hx hb d_Odds_init_4 rfl (lv_at hl 0 rfl) ?_
  refine lv_iload_n hx hb d_Odds_init_5 rfl (lv_at hl 1 rfl) ?_
  refine va_putF (D := (dC, dI)) (ci := 7) (v := .int isg) (ty := .int) (C := "RangeCoders$Odds") (T := T_Odds) (N := 5) hx hb hg in_Odds t_Odds o_Odds n_Odds hown hK hP hD hS 0 rfl rfl 0 (by decide) (hg _ k303) (fun _ h9 => h9) rfl (by rw [hnm]; rfl) rfl (by decide +kernel) rfl rfl (Nat.le_of_ble_eq_true rfl) d_Odds_init_6 (fun H locs hP hD hS => ?_)
  have hP : va_P (dC, dI) vwCl [(oo, Sum.inr (7, [Value.int isg, Value.int 0, Value.int 0, Value.null, Value.null]))] H := hP
  have hD : va_D A [(oo, Sum.inr (7, [Value.int isg, Value.int 0, Value.int 0, Value.null, Value.null]))] := hD
  refine lv_aload_n hx hb d_Odds_init_9 rfl (lv_at hl 0 rfl) ?_
  refine lv_iload_n hx hb d_Odds_init_10 rfl (lv_at hl 2 rfl) ?_
  refine va_putF (D := (dC, dI)) (ci := 7) (v := .int ifc) (ty := .int) (C := "RangeCoders$Odds") (T := T_Odds) (N := 5) hx hb hg in_Odds t_Odds o_Odds n_Odds hown hK hP hD hS 0 rfl rfl 2 (by decide) (hg _ k308) (fun _ h9 => h9) rfl (by rw [hnm]; rfl) rfl (by decide +kernel) rfl rfl (Nat.le_of_ble_eq_true rfl) d_Odds_init_11 (fun H locs hP hD hS => ?_)
  have hP : va_P (dC, dI) vwCl [(oo, Sum.inr (7, [Value.int isg, Value.int 0, Value.int ifc, Value.null, Value.null]))] H := hP
  have hD : va_D A [(oo, Sum.inr (7, [Value.int isg, Value.int 0, Value.int ifc, Value.null, Value.null]))] := hD
  refine lv_aload_n hx hb d_Odds_init_14 rfl (lv_at hl 0 rfl) ?_
  refine lv_iload_n hx hb d_Odds_init_15 rfl (lv_at hl 3 rfl) ?_
  refine lv_if_lt (tgt := 23) hx hb d_Odds_init_16 (by decide) (fun c_1 => ?_) (fun c_1 => ?_)
  · exact absurd c_1 (nI_pos (by omega))
  · refine lv_iload_n hx hb d_Odds_init_19 rfl (lv_at hl 3 rfl) ?_
    refine lv_goto (tgt := 24) hx hb d_Odds_init_20 (by decide) ?_
    refine my_newi hx hb (hg _ k66) hK 0 rfl hP hD hS hA (N' := nc) (nI_pos (by omega)) (nI_clamp (by omega)) (by omega) (by rw [hR]; exact (show 0 + 1 ≤ 600 by omega)) (by rw [hR]; exact (show 0 + nc ≤ 600 by omega)) d_Odds_init_24 (fun q_2 H hP hD hS => ?_)
    have hP : va_P (dC, dI) vwCl [(oo, Sum.inr (7, [Value.int isg, Value.int 0, Value.int ifc, Value.null, Value.null])), (q_2, Sum.inl (cI, nc, Sum.inl (fun _ => 0)))] H := hP
    have hD : va_D A [(oo, Sum.inr (7, [Value.int isg, Value.int 0, Value.int ifc, Value.null, Value.null])), (q_2, Sum.inl (cI, nc, Sum.inl (fun _ => 0)))] := hD
    refine va_putF (D := (dC, dI)) (ci := 7) (v := .ref q_2) (ty := (.array .int)) (C := "RangeCoders$Odds") (T := T_Odds) (N := 5) hx hb hg in_Odds t_Odds o_Odds n_Odds hown hK hP hD hS 0 rfl rfl 3 (by decide) (hg _ k309) (fun _ h9 => h9) rfl (by rw [hnm]; rfl) rfl (by decide +kernel) rfl rfl (Nat.le_of_ble_eq_true rfl) d_Odds_init_26 (fun H locs hP hD hS => ?_)
    have hP : va_P (dC, dI) vwCl [(oo, Sum.inr (7, [Value.int isg, Value.int 0, Value.int ifc, Value.ref q_2, Value.null])), (q_2, Sum.inl (cI, nc, Sum.inl (fun _ => 0)))] H := hP
    have hD : va_D A [(oo, Sum.inr (7, [Value.int isg, Value.int 0, Value.int ifc, Value.ref q_2, Value.null])), (q_2, Sum.inl (cI, nc, Sum.inl (fun _ => 0)))] := hD
    refine lv_aload_n hx hb d_Odds_init_29 rfl (lv_at hl 0 rfl) ?_
    refine lv_iload hx hb d_Odds_init_30 (lv_at hl 4 rfl) ?_
    refine lv_if_lt (tgt := 40) hx hb d_Odds_init_32 (by decide) (fun c_3 => ?_) (fun c_3 => ?_)
    · exact absurd c_3 (nI_pos (by omega))
    · refine lv_iload hx hb d_Odds_init_35 (lv_at hl 4 rfl) ?_
      refine lv_goto (tgt := 41) hx hb d_Odds_init_37 (by decide) ?_
      refine my_newi hx hb (hg _ k66) hK 0 rfl hP hD hS hA (N' := np) (nI_pos (by omega)) (nI_clamp (by omega)) (by omega) (by rw [hR]; exact (show 0 + 1 + 1 ≤ 600 by omega)) (by rw [hR]; exact (show 0 + nc + np ≤ 600 by omega)) d_Odds_init_41 (fun q_4 H hP hD hS => ?_)
      have hP : va_P (dC, dI) vwCl [(oo, Sum.inr (7, [Value.int isg, Value.int 0, Value.int ifc, Value.ref q_2, Value.null])), (q_2, Sum.inl (cI, nc, Sum.inl (fun _ => 0))), (q_4, Sum.inl (cI, np, Sum.inl (fun _ => 0)))] H := hP
      have hD : va_D A [(oo, Sum.inr (7, [Value.int isg, Value.int 0, Value.int ifc, Value.ref q_2, Value.null])), (q_2, Sum.inl (cI, nc, Sum.inl (fun _ => 0))), (q_4, Sum.inl (cI, np, Sum.inl (fun _ => 0)))] := hD
      refine va_putF (D := (dC, dI)) (ci := 7) (v := .ref q_4) (ty := (.array .int)) (C := "RangeCoders$Odds") (T := T_Odds) (N := 5) hx hb hg in_Odds t_Odds o_Odds n_Odds hown hK hP hD hS 0 rfl rfl 4 (by decide) (hg _ k310) (fun _ h9 => h9) rfl (by rw [hnm]; rfl) rfl (by decide +kernel) rfl rfl (Nat.le_of_ble_eq_true rfl) d_Odds_init_43 (fun H locs hP hD hS => ?_)
      have hP : va_P (dC, dI) vwCl [(oo, Sum.inr (7, [Value.int isg, Value.int 0, Value.int ifc, Value.ref q_2, Value.ref q_4])), (q_2, Sum.inl (cI, nc, Sum.inl (fun _ => 0))), (q_4, Sum.inl (cI, np, Sum.inl (fun _ => 0)))] H := hP
      have hD : va_D A [(oo, Sum.inr (7, [Value.int isg, Value.int 0, Value.int ifc, Value.ref q_2, Value.ref q_4])), (q_2, Sum.inl (cI, nc, Sum.inl (fun _ => 0))), (q_4, Sum.inl (cI, np, Sum.inl (fun _ => 0)))] := hD
      exact my_vretg hx hb hr hlocks hQ hK hS (q_2, q_4) (show (0 + 1 + 1) + 0 ≤ 600 by omega) (show (0 + nc + np) + 0 ≤ 600 by omega) (trivial) (hP.sub [0, 1, 2] rfl) (hD.sub [0, 1, 2] (by decide +kernel) rfl) d_Odds_init_46
