section
def nearM (v lo hi : Int32) : Int32 := if lo < (if v < hi then v else hi) then (if v < hi then v else hi) else lo
theorem near_lo {v lo hi : Int32} (h : ¬ lo ≤ v) (hh : lo < hi) : nearM v lo hi = lo := by
  unfold nearM
  rw [Int32.le_iff_toInt_le] at h
  rw [Int32.lt_iff_toInt_lt] at hh
  rw [if_pos (show v < hi by rw [Int32.lt_iff_toInt_lt]; omega), if_neg (by rw [Int32.lt_iff_toInt_lt]; omega)]
theorem near_hi {v lo hi : Int32} (h : ¬ v ≤ hi) (hh : lo < hi) : nearM v lo hi = hi := by
  unfold nearM
  rw [Int32.le_iff_toInt_le] at h
  rw [if_neg (show ¬ v < hi by rw [Int32.lt_iff_toInt_lt]; omega), if_pos hh]
theorem near_mid {v lo hi : Int32} (h : lo ≤ v) (h2 : v ≤ hi) : nearM v lo hi = v := by
  unfold nearM
  rw [Int32.le_iff_toInt_le] at h h2
  have e : (if v < hi then v else hi) = v := by
    split
    · rfl
    · rename_i z
      rw [Int32.lt_iff_toInt_lt] at z
      exact Int32.toInt_inj.mp (by omega)
  rw [e]
  split
  · rfl
  · rename_i z
    rw [Int32.lt_iff_toInt_lt] at z
    exact Int32.toInt_inj.mp (by omega)
theorem near_n (v : Int32) {a b : Nat} (hab : a < b) (hb : b < 2 ^ 31) : ∃ n, a ≤ n ∧ n ≤ b ∧ nearM v (nI a) (nI b) = nI n := by
  by_cases h1 : nI a ≤ v
  · by_cases h2 : v ≤ nI b
    · rw [near_mid h1 h2]; exact in_of2 (by omega) hb ⟨h1, h2⟩
    · exact ⟨b, by omega, Nat.le_refl _, near_hi h2 (nI_lt hab hb)⟩
  · exact ⟨a, Nat.le_refl _, by omega, near_lo h1 (nI_lt hab hb)⟩
set_option maxHeartbeats 2000000 in
set_option maxRecDepth 100000 in
theorem c_M_init (l : Launch) (dC : Nat → ClassId) (dI : Nat → Nat → Nat) (cI cM cO : ClassId) (sz : Nat) (sl : Nat) (o : Nat) (p1 : Int32) (p2 : Int32) : MetVg l y_M_init (Cond.code y_M_init prog_14_method_1_code 3 none :: gw) ({ frames := 4, cells := 50000, slots := 50000, locals := 96 } : Room) (dC, dI) vwCl (kT cI cM cO) [Value.ref o, Value.int p1, Value.int p2] [(o, Sum.inr (9, [Value.int 0, Value.int 0, Value.int 0, Value.null, Value.null, Value.null, Value.null, Value.int 0, Value.null, Value.null, Value.int 0, Value.long 0, Value.long 0, Value.int 0, Value.int 0, Value.null, Value.int 0, Value.null, Value.int 0, Value.null, Value.int 0, Value.int 0, Value.int 0, Value.int 0, Value.int 0, Value.int 0, Value.long 0, Value.long 0, Value.long 0, Value.long 0, Value.null, Value.null, Value.null, Value.int 0, Value.int 0]))] sz sl (fun (u : (Nat → Nat) × Int32 × Int32 × (Nat → Int32)) => u.2.1 = nearM p1 0 4 ∧ u.2.2.1 = nearM p2 1 10) (fun (u : (Nat → Nat) × Int32 × Int32 × (Nat → Int32)) => [(o, Sum.inr (9, mO u.1 u.2.1 u.2.2.1 0 0 0 0 4294967295 (-1) 0 0 0 0 0 0 0 0 0 0 0 0 0 0 0)), ((u.1 0), Sum.inl (cI, 8, Sum.inl (fun _ => 0))), ((u.1 1), Sum.inl (cI, 512, Sum.inl (fun _ => 0))), ((u.1 2), Sum.inl (cI, 512, Sum.inl u.2.2.2)), ((u.1 3), Sum.inl (cI, 512, Sum.inl (fun _ => 0))), ((u.1 4), Sum.inl (cI, 600, Sum.inl (fun _ => 0))), ((u.1 5), Sum.inl (cI, 600, Sum.inl (fun _ => 0))), ((u.1 6), Sum.inl (cI, 9000, Sum.inl (fun _ => 0))), ((u.1 7), Sum.inl (cI, 9000, Sum.inl (fun _ => 0))), ((u.1 8), Sum.inl (cI, 6000, Sum.inl (fun _ => 0))), ((u.1 9), Sum.inl (cI, 512, Sum.inl (fun _ => 0))), ((u.1 10), Sum.inl (cI, 512, Sum.inl (fun _ => 0))), ((u.1 11), Sum.inl (cI, 20000, Sum.inl (fun _ => 0)))]) 50000 (fun (u : (Nat → Nat) × Int32 × Int32 × (Nat → Int32)) => 0) := by
  refine my_ofVg (cc := prog_14_method_1_code) (n := 3) (ret := none) (by decide) rfl (Nat.le_of_ble_eq_true rfl) ?_
  intro p e s m args below meth c R Q A ls H locs hx hb hr hts hown hlocks hml hnm hR hQ hA hl hP hK hN hD hS
  have hg : ∀ w ∈ gw, w.before args s = true := fun w h => hts w (List.mem_cons_of_mem _ h)
  have hown : s.vm.findClass "RangeCodersModel" = some m.cls := hown
  replace hl : lv_has ls 3 [(0, Value.ref o), (1, Value.int p1), (2, Value.int p2)] := hl
  refine lv_aload_n hx hb d_M_init_0 rfl (lv_at hl 0 rfl) ?_
  refine W.objInit hx hb hown (hg _ k922) (hg _ k23) (hg _ k24) rfl (by rw [hml]; exact hl.1) rfl d_M_init_1 (by rw [hR]; exact Nat.le_of_ble_eq_true rfl) (by rw [hR]; exact Nat.le_of_ble_eq_true rfl) ?_
  refine W.eq (g2 := F0 m 4 ls []) rfl ?_
  refine lv_aload_n hx hb d_M_init_4 rfl (lv_at hl 0 rfl) ?_
  refine lv_bipush (v := 8) hx hb d_M_init_5 (by decide) ?_
  refine my_newi hx hb (hg _ k66) hK 0 rfl hP hD hS hA (N' := 8) (by decide) (rfl) (by decide) (by rw [hR]; exact (show 0 + 1 ≤ 50000 by decide)) (by rw [hR]; exact (show 0 + 8 ≤ 50000 by decide)) d_M_init_7 (fun q_1 _ _ _ _ => ?_)
  clear hP hD hS
  rename_i H hP hD hS
  have hPD : my_PD (dC, dI) vwCl A [(o, Sum.inr (9, [Value.int 0, Value.int 0, Value.int 0, Value.null, Value.null, Value.null, Value.null, Value.int 0, Value.null, Value.null, Value.int 0, Value.long 0, Value.long 0, Value.int 0, Value.int 0, Value.null, Value.int 0, Value.null, Value.int 0, Value.null, Value.int 0, Value.int 0, Value.int 0, Value.int 0, Value.int 0, Value.int 0, Value.long 0, Value.long 0, Value.long 0, Value.long 0, Value.null, Value.null, Value.null, Value.int 0, Value.int 0])), (q_1, Sum.inl (cI, 8, Sum.inl (fun _ => 0)))] H := ⟨hP, hD⟩
  clear hP hD
  have hP := hPD.1
  have hD := hPD.2
  clear hPD
  refine va_putF (D := (dC, dI)) (ci := 9) (v := .ref q_1) (ty := (.array .int)) (C := "RangeCodersModel") (T := T_M) (N := 35) hx hb hg in_M t_M o_M n_M hown hK hP hD hS 0 rfl rfl 3 (by decide) (hg _ k955) (fun _ h9 => h9) rfl (by rw [hnm]; rfl) rfl (o_M 3 (by decide)) rfl rfl (Nat.le_of_ble_eq_true rfl) d_M_init_9 (fun _ _ _ _ _ => ?_)
  clear hP hD hS
  rename_i H locs hP hD hS
  have hPD : my_PD (dC, dI) vwCl A [(o, Sum.inr (9, [Value.int 0, Value.int 0, Value.int 0, Value.ref q_1, Value.null, Value.null, Value.null, Value.int 0, Value.null, Value.null, Value.int 0, Value.long 0, Value.long 0, Value.int 0, Value.int 0, Value.null, Value.int 0, Value.null, Value.int 0, Value.null, Value.int 0, Value.int 0, Value.int 0, Value.int 0, Value.int 0, Value.int 0, Value.long 0, Value.long 0, Value.long 0, Value.long 0, Value.null, Value.null, Value.null, Value.int 0, Value.int 0])), (q_1, Sum.inl (cI, 8, Sum.inl (fun _ => 0)))] H := ⟨hP, hD⟩
  clear hP hD
  have hP := hPD.1
  have hD := hPD.2
  clear hPD
  refine lv_aload_n hx hb d_M_init_12 rfl (lv_at hl 0 rfl) ?_
  refine lv_sipush (v := 512) hx hb d_M_init_13 (by decide) ?_
  refine my_newi hx hb (hg _ k66) hK 0 rfl hP hD hS hA (N' := 512) (by decide) (rfl) (by decide) (by rw [hR]; exact (show 0 + 1 + 1 ≤ 50000 by decide)) (by rw [hR]; exact (show 0 + 8 + 512 ≤ 50000 by decide)) d_M_init_16 (fun q_2 _ _ _ _ => ?_)
  clear hP hD hS
  rename_i H hP hD hS
  have hPD : my_PD (dC, dI) vwCl A [(o, Sum.inr (9, [Value.int 0, Value.int 0, Value.int 0, Value.ref q_1, Value.null, Value.null, Value.null, Value.int 0, Value.null, Value.null, Value.int 0, Value.long 0, Value.long 0, Value.int 0, Value.int 0, Value.null, Value.int 0, Value.null, Value.int 0, Value.null, Value.int 0, Value.int 0, Value.int 0, Value.int 0, Value.int 0, Value.int 0, Value.long 0, Value.long 0, Value.long 0, Value.long 0, Value.null, Value.null, Value.null, Value.int 0, Value.int 0])), (q_1, Sum.inl (cI, 8, Sum.inl (fun _ => 0))), (q_2, Sum.inl (cI, 512, Sum.inl (fun _ => 0)))] H := ⟨hP, hD⟩
  clear hP hD
  have hP := hPD.1
  have hD := hPD.2
  clear hPD
  refine va_putF (D := (dC, dI)) (ci := 9) (v := .ref q_2) (ty := (.array .int)) (C := "RangeCodersModel") (T := T_M) (N := 35) hx hb hg in_M t_M o_M n_M hown hK hP hD hS 0 rfl rfl 4 (by decide) (hg _ k956) (fun _ h9 => h9) rfl (by rw [hnm]; rfl) rfl (o_M 4 (by decide)) rfl rfl (Nat.le_of_ble_eq_true rfl) d_M_init_18 (fun _ _ _ _ _ => ?_)
  clear hP hD hS
  rename_i H locs hP hD hS
  have hPD : my_PD (dC, dI) vwCl A [(o, Sum.inr (9, [Value.int 0, Value.int 0, Value.int 0, Value.ref q_1, Value.ref q_2, Value.null, Value.null, Value.int 0, Value.null, Value.null, Value.int 0, Value.long 0, Value.long 0, Value.int 0, Value.int 0, Value.null, Value.int 0, Value.null, Value.int 0, Value.null, Value.int 0, Value.int 0, Value.int 0, Value.int 0, Value.int 0, Value.int 0, Value.long 0, Value.long 0, Value.long 0, Value.long 0, Value.null, Value.null, Value.null, Value.int 0, Value.int 0])), (q_1, Sum.inl (cI, 8, Sum.inl (fun _ => 0))), (q_2, Sum.inl (cI, 512, Sum.inl (fun _ => 0)))] H := ⟨hP, hD⟩
  clear hP hD
  have hP := hPD.1
  have hD := hPD.2
  clear hPD
  refine lv_aload_n hx hb d_M_init_21 rfl (lv_at hl 0 rfl) ?_
  refine lv_sipush (v := 512) hx hb d_M_init_22 (by decide) ?_
  refine my_newi hx hb (hg _ k66) hK 0 rfl hP hD hS hA (N' := 512) (by decide) (rfl) (by decide) (by rw [hR]; exact (show 0 + 1 + 1 + 1 ≤ 50000 by decide)) (by rw [hR]; exact (show 0 + 8 + 512 + 512 ≤ 50000 by decide)) d_M_init_25 (fun q_3 _ _ _ _ => ?_)
  clear hP hD hS
  rename_i H hP hD hS
  have hPD : my_PD (dC, dI) vwCl A [(o, Sum.inr (9, [Value.int 0, Value.int 0, Value.int 0, Value.ref q_1, Value.ref q_2, Value.null, Value.null, Value.int 0, Value.null, Value.null, Value.int 0, Value.long 0, Value.long 0, Value.int 0, Value.int 0, Value.null, Value.int 0, Value.null, Value.int 0, Value.null, Value.int 0, Value.int 0, Value.int 0, Value.int 0, Value.int 0, Value.int 0, Value.long 0, Value.long 0, Value.long 0, Value.long 0, Value.null, Value.null, Value.null, Value.int 0, Value.int 0])), (q_1, Sum.inl (cI, 8, Sum.inl (fun _ => 0))), (q_2, Sum.inl (cI, 512, Sum.inl (fun _ => 0))), (q_3, Sum.inl (cI, 512, Sum.inl (fun _ => 0)))] H := ⟨hP, hD⟩
  clear hP hD
  have hP := hPD.1
  have hD := hPD.2
  clear hPD
  refine va_putF (D := (dC, dI)) (ci := 9) (v := .ref q_3) (ty := (.array .int)) (C := "RangeCodersModel") (T := T_M) (N := 35) hx hb hg in_M t_M o_M n_M hown hK hP hD hS 0 rfl rfl 5 (by decide) (hg _ k957) (fun _ h9 => h9) rfl (by rw [hnm]; rfl) rfl (o_M 5 (by decide)) rfl rfl (Nat.le_of_ble_eq_true rfl) d_M_init_27 (fun _ _ _ _ _ => ?_)
  clear hP hD hS
  rename_i H locs hP hD hS
  have hPD : my_PD (dC, dI) vwCl A [(o, Sum.inr (9, [Value.int 0, Value.int 0, Value.int 0, Value.ref q_1, Value.ref q_2, Value.ref q_3, Value.null, Value.int 0, Value.null, Value.null, Value.int 0, Value.long 0, Value.long 0, Value.int 0, Value.int 0, Value.null, Value.int 0, Value.null, Value.int 0, Value.null, Value.int 0, Value.int 0, Value.int 0, Value.int 0, Value.int 0, Value.int 0, Value.long 0, Value.long 0, Value.long 0, Value.long 0, Value.null, Value.null, Value.null, Value.int 0, Value.int 0])), (q_1, Sum.inl (cI, 8, Sum.inl (fun _ => 0))), (q_2, Sum.inl (cI, 512, Sum.inl (fun _ => 0))), (q_3, Sum.inl (cI, 512, Sum.inl (fun _ => 0)))] H := ⟨hP, hD⟩
  clear hP hD
  have hP := hPD.1
  have hD := hPD.2
  clear hPD
  refine lv_aload_n hx hb d_M_init_30 rfl (lv_at hl 0 rfl) ?_
  refine lv_sipush (v := 512) hx hb d_M_init_31 (by decide) ?_
  refine my_newi hx hb (hg _ k66) hK 0 rfl hP hD hS hA (N' := 512) (by decide) (rfl) (by decide) (by rw [hR]; exact (show 0 + 1 + 1 + 1 + 1 ≤ 50000 by decide)) (by rw [hR]; exact (show 0 + 8 + 512 + 512 + 512 ≤ 50000 by decide)) d_M_init_34 (fun q_4 _ _ _ _ => ?_)
  clear hP hD hS
  rename_i H hP hD hS
  have hPD : my_PD (dC, dI) vwCl A [(o, Sum.inr (9, [Value.int 0, Value.int 0, Value.int 0, Value.ref q_1, Value.ref q_2, Value.ref q_3, Value.null, Value.int 0, Value.null, Value.null, Value.int 0, Value.long 0, Value.long 0, Value.int 0, Value.int 0, Value.null, Value.int 0, Value.null, Value.int 0, Value.null, Value.int 0, Value.int 0, Value.int 0, Value.int 0, Value.int 0, Value.int 0, Value.long 0, Value.long 0, Value.long 0, Value.long 0, Value.null, Value.null, Value.null, Value.int 0, Value.int 0])), (q_1, Sum.inl (cI, 8, Sum.inl (fun _ => 0))), (q_2, Sum.inl (cI, 512, Sum.inl (fun _ => 0))), (q_3, Sum.inl (cI, 512, Sum.inl (fun _ => 0))), (q_4, Sum.inl (cI, 512, Sum.inl (fun _ => 0)))] H := ⟨hP, hD⟩
  clear hP hD
  have hP := hPD.1
  have hD := hPD.2
  clear hPD
  refine va_putF (D := (dC, dI)) (ci := 9) (v := .ref q_4) (ty := (.array .int)) (C := "RangeCodersModel") (T := T_M) (N := 35) hx hb hg in_M t_M o_M n_M hown hK hP hD hS 0 rfl rfl 6 (by decide) (hg _ k958) (fun _ h9 => h9) rfl (by rw [hnm]; rfl) rfl (o_M 6 (by decide)) rfl rfl (Nat.le_of_ble_eq_true rfl) d_M_init_36 (fun _ _ _ _ _ => ?_)
  clear hP hD hS
  rename_i H locs hP hD hS
  have hPD : my_PD (dC, dI) vwCl A [(o, Sum.inr (9, [Value.int 0, Value.int 0, Value.int 0, Value.ref q_1, Value.ref q_2, Value.ref q_3, Value.ref q_4, Value.int 0, Value.null, Value.null, Value.int 0, Value.long 0, Value.long 0, Value.int 0, Value.int 0, Value.null, Value.int 0, Value.null, Value.int 0, Value.null, Value.int 0, Value.int 0, Value.int 0, Value.int 0, Value.int 0, Value.int 0, Value.long 0, Value.long 0, Value.long 0, Value.long 0, Value.null, Value.null, Value.null, Value.int 0, Value.int 0])), (q_1, Sum.inl (cI, 8, Sum.inl (fun _ => 0))), (q_2, Sum.inl (cI, 512, Sum.inl (fun _ => 0))), (q_3, Sum.inl (cI, 512, Sum.inl (fun _ => 0))), (q_4, Sum.inl (cI, 512, Sum.inl (fun _ => 0)))] H := ⟨hP, hD⟩
  clear hP hD
  have hP := hPD.1
  have hD := hPD.2
  clear hPD
  refine lv_aload_n hx hb d_M_init_39 rfl (lv_at hl 0 rfl) ?_
  refine lv_sipush (v := 600) hx hb d_M_init_40 (by decide) ?_
  refine my_newi hx hb (hg _ k66) hK 0 rfl hP hD hS hA (N' := 600) (by decide) (rfl) (by decide) (by rw [hR]; exact (show 0 + 1 + 1 + 1 + 1 + 1 ≤ 50000 by decide)) (by rw [hR]; exact (show 0 + 8 + 512 + 512 + 512 + 600 ≤ 50000 by decide)) d_M_init_43 (fun q_5 _ _ _ _ => ?_)
  clear hP hD hS
  rename_i H hP hD hS
  have hPD : my_PD (dC, dI) vwCl A [(o, Sum.inr (9, [Value.int 0, Value.int 0, Value.int 0, Value.ref q_1, Value.ref q_2, Value.ref q_3, Value.ref q_4, Value.int 0, Value.null, Value.null, Value.int 0, Value.long 0, Value.long 0, Value.int 0, Value.int 0, Value.null, Value.int 0, Value.null, Value.int 0, Value.null, Value.int 0, Value.int 0, Value.int 0, Value.int 0, Value.int 0, Value.int 0, Value.long 0, Value.long 0, Value.long 0, Value.long 0, Value.null, Value.null, Value.null, Value.int 0, Value.int 0])), (q_1, Sum.inl (cI, 8, Sum.inl (fun _ => 0))), (q_2, Sum.inl (cI, 512, Sum.inl (fun _ => 0))), (q_3, Sum.inl (cI, 512, Sum.inl (fun _ => 0))), (q_4, Sum.inl (cI, 512, Sum.inl (fun _ => 0))), (q_5, Sum.inl (cI, 600, Sum.inl (fun _ => 0)))] H := ⟨hP, hD⟩
  clear hP hD
  have hP := hPD.1
  have hD := hPD.2
  clear hPD
  refine va_putF (D := (dC, dI)) (ci := 9) (v := .ref q_5) (ty := (.array .int)) (C := "RangeCodersModel") (T := T_M) (N := 35) hx hb hg in_M t_M o_M n_M hown hK hP hD hS 0 rfl rfl 8 (by decide) (hg _ k960) (fun _ h9 => h9) rfl (by rw [hnm]; rfl) rfl (o_M 8 (by decide)) rfl rfl (Nat.le_of_ble_eq_true rfl) d_M_init_45 (fun _ _ _ _ _ => ?_)
  clear hP hD hS
  rename_i H locs hP hD hS
  have hPD : my_PD (dC, dI) vwCl A [(o, Sum.inr (9, [Value.int 0, Value.int 0, Value.int 0, Value.ref q_1, Value.ref q_2, Value.ref q_3, Value.ref q_4, Value.int 0, Value.ref q_5, Value.null, Value.int 0, Value.long 0, Value.long 0, Value.int 0, Value.int 0, Value.null, Value.int 0, Value.null, Value.int 0, Value.null, Value.int 0, Value.int 0, Value.int 0, Value.int 0, Value.int 0, Value.int 0, Value.long 0, Value.long 0, Value.long 0, Value.long 0, Value.null, Value.null, Value.null, Value.int 0, Value.int 0])), (q_1, Sum.inl (cI, 8, Sum.inl (fun _ => 0))), (q_2, Sum.inl (cI, 512, Sum.inl (fun _ => 0))), (q_3, Sum.inl (cI, 512, Sum.inl (fun _ => 0))), (q_4, Sum.inl (cI, 512, Sum.inl (fun _ => 0))), (q_5, Sum.inl (cI, 600, Sum.inl (fun _ => 0)))] H := ⟨hP, hD⟩
  clear hP hD
  have hP := hPD.1
  have hD := hPD.2
  clear hPD
  refine lv_aload_n hx hb d_M_init_48 rfl (lv_at hl 0 rfl) ?_
  refine lv_sipush (v := 600) hx hb d_M_init_49 (by decide) ?_
  refine my_newi hx hb (hg _ k66) hK 0 rfl hP hD hS hA (N' := 600) (by decide) (rfl) (by decide) (by rw [hR]; exact (show 0 + 1 + 1 + 1 + 1 + 1 + 1 ≤ 50000 by decide)) (by rw [hR]; exact (show 0 + 8 + 512 + 512 + 512 + 600 + 600 ≤ 50000 by decide)) d_M_init_52 (fun q_6 _ _ _ _ => ?_)
  clear hP hD hS
  rename_i H hP hD hS
  have hPD : my_PD (dC, dI) vwCl A [(o, Sum.inr (9, [Value.int 0, Value.int 0, Value.int 0, Value.ref q_1, Value.ref q_2, Value.ref q_3, Value.ref q_4, Value.int 0, Value.ref q_5, Value.null, Value.int 0, Value.long 0, Value.long 0, Value.int 0, Value.int 0, Value.null, Value.int 0, Value.null, Value.int 0, Value.null, Value.int 0, Value.int 0, Value.int 0, Value.int 0, Value.int 0, Value.int 0, Value.long 0, Value.long 0, Value.long 0, Value.long 0, Value.null, Value.null, Value.null, Value.int 0, Value.int 0])), (q_1, Sum.inl (cI, 8, Sum.inl (fun _ => 0))), (q_2, Sum.inl (cI, 512, Sum.inl (fun _ => 0))), (q_3, Sum.inl (cI, 512, Sum.inl (fun _ => 0))), (q_4, Sum.inl (cI, 512, Sum.inl (fun _ => 0))), (q_5, Sum.inl (cI, 600, Sum.inl (fun _ => 0))), (q_6, Sum.inl (cI, 600, Sum.inl (fun _ => 0)))] H := ⟨hP, hD⟩
  clear hP hD
  have hP := hPD.1
  have hD := hPD.2
  clear hPD
  refine va_putF (D := (dC, dI)) (ci := 9) (v := .ref q_6) (ty := (.array .int)) (C := "RangeCodersModel") (T := T_M) (N := 35) hx hb hg in_M t_M o_M n_M hown hK hP hD hS 0 rfl rfl 9 (by decide) (hg _ k961) (fun _ h9 => h9) rfl (by rw [hnm]; rfl) rfl (o_M 9 (by decide)) rfl rfl (Nat.le_of_ble_eq_true rfl) d_M_init_54 (fun _ _ _ _ _ => ?_)
  clear hP hD hS
  rename_i H locs hP hD hS
  have hPD : my_PD (dC, dI) vwCl A [(o, Sum.inr (9, [Value.int 0, Value.int 0, Value.int 0, Value.ref q_1, Value.ref q_2, Value.ref q_3, Value.ref q_4, Value.int 0, Value.ref q_5, Value.ref q_6, Value.int 0, Value.long 0, Value.long 0, Value.int 0, Value.int 0, Value.null, Value.int 0, Value.null, Value.int 0, Value.null, Value.int 0, Value.int 0, Value.int 0, Value.int 0, Value.int 0, Value.int 0, Value.long 0, Value.long 0, Value.long 0, Value.long 0, Value.null, Value.null, Value.null, Value.int 0, Value.int 0])), (q_1, Sum.inl (cI, 8, Sum.inl (fun _ => 0))), (q_2, Sum.inl (cI, 512, Sum.inl (fun _ => 0))), (q_3, Sum.inl (cI, 512, Sum.inl (fun _ => 0))), (q_4, Sum.inl (cI, 512, Sum.inl (fun _ => 0))), (q_5, Sum.inl (cI, 600, Sum.inl (fun _ => 0))), (q_6, Sum.inl (cI, 600, Sum.inl (fun _ => 0)))] H := ⟨hP, hD⟩
  clear hP hD
  have hP := hPD.1
  have hD := hPD.2
  clear hPD
  refine lv_aload_n hx hb d_M_init_57 rfl (lv_at hl 0 rfl) ?_
  refine lv_sipush (v := 9000) hx hb d_M_init_58 (by decide) ?_
  refine my_newi hx hb (hg _ k66) hK 0 rfl hP hD hS hA (N' := 9000) (by decide) (rfl) (by decide) (by rw [hR]; exact (show 0 + 1 + 1 + 1 + 1 + 1 + 1 + 1 ≤ 50000 by decide)) (by rw [hR]; exact (show 0 + 8 + 512 + 512 + 512 + 600 + 600 + 9000 ≤ 50000 by decide)) d_M_init_61 (fun q_7 _ _ _ _ => ?_)
  clear hP hD hS
  rename_i H hP hD hS
  have hPD : my_PD (dC, dI) vwCl A [(o, Sum.inr (9, [Value.int 0, Value.int 0, Value.int 0, Value.ref q_1, Value.ref q_2, Value.ref q_3, Value.ref q_4, Value.int 0, Value.ref q_5, Value.ref q_6, Value.int 0, Value.long 0, Value.long 0, Value.int 0, Value.int 0, Value.null, Value.int 0, Value.null, Value.int 0, Value.null, Value.int 0, Value.int 0, Value.int 0, Value.int 0, Value.int 0, Value.int 0, Value.long 0, Value.long 0, Value.long 0, Value.long 0, Value.null, Value.null, Value.null, Value.int 0, Value.int 0])), (q_1, Sum.inl (cI, 8, Sum.inl (fun _ => 0))), (q_2, Sum.inl (cI, 512, Sum.inl (fun _ => 0))), (q_3, Sum.inl (cI, 512, Sum.inl (fun _ => 0))), (q_4, Sum.inl (cI, 512, Sum.inl (fun _ => 0))), (q_5, Sum.inl (cI, 600, Sum.inl (fun _ => 0))), (q_6, Sum.inl (cI, 600, Sum.inl (fun _ => 0))), (q_7, Sum.inl (cI, 9000, Sum.inl (fun _ => 0)))] H := ⟨hP, hD⟩
  clear hP hD
  have hP := hPD.1
  have hD := hPD.2
  clear hPD
  refine va_putF (D := (dC, dI)) (ci := 9) (v := .ref q_7) (ty := (.array .int)) (C := "RangeCodersModel") (T := T_M) (N := 35) hx hb hg in_M t_M o_M n_M hown hK hP hD hS 0 rfl rfl 15 (by decide) (hg _ k967) (fun _ h9 => h9) rfl (by rw [hnm]; rfl) rfl (o_M 15 (by decide)) rfl rfl (Nat.le_of_ble_eq_true rfl) d_M_init_63 (fun _ _ _ _ _ => ?_)
  clear hP hD hS
  rename_i H locs hP hD hS
  have hPD : my_PD (dC, dI) vwCl A [(o, Sum.inr (9, [Value.int 0, Value.int 0, Value.int 0, Value.ref q_1, Value.ref q_2, Value.ref q_3, Value.ref q_4, Value.int 0, Value.ref q_5, Value.ref q_6, Value.int 0, Value.long 0, Value.long 0, Value.int 0, Value.int 0, Value.ref q_7, Value.int 0, Value.null, Value.int 0, Value.null, Value.int 0, Value.int 0, Value.int 0, Value.int 0, Value.int 0, Value.int 0, Value.long 0, Value.long 0, Value.long 0, Value.long 0, Value.null, Value.null, Value.null, Value.int 0, Value.int 0])), (q_1, Sum.inl (cI, 8, Sum.inl (fun _ => 0))), (q_2, Sum.inl (cI, 512, Sum.inl (fun _ => 0))), (q_3, Sum.inl (cI, 512, Sum.inl (fun _ => 0))), (q_4, Sum.inl (cI, 512, Sum.inl (fun _ => 0))), (q_5, Sum.inl (cI, 600, Sum.inl (fun _ => 0))), (q_6, Sum.inl (cI, 600, Sum.inl (fun _ => 0))), (q_7, Sum.inl (cI, 9000, Sum.inl (fun _ => 0)))] H := ⟨hP, hD⟩
  clear hP hD
  have hP := hPD.1
  have hD := hPD.2
  clear hPD
  refine lv_aload_n hx hb d_M_init_66 rfl (lv_at hl 0 rfl) ?_
  refine lv_sipush (v := 9000) hx hb d_M_init_67 (by decide) ?_
  refine my_newi hx hb (hg _ k66) hK 0 rfl hP hD hS hA (N' := 9000) (by decide) (rfl) (by decide) (by rw [hR]; exact (show 0 + 1 + 1 + 1 + 1 + 1 + 1 + 1 + 1 ≤ 50000 by decide)) (by rw [hR]; exact (show 0 + 8 + 512 + 512 + 512 + 600 + 600 + 9000 + 9000 ≤ 50000 by decide)) d_M_init_70 (fun q_8 _ _ _ _ => ?_)
  clear hP hD hS
  rename_i H hP hD hS
  have hPD : my_PD (dC, dI) vwCl A [(o, Sum.inr (9, [Value.int 0, Value.int 0, Value.int 0, Value.ref q_1, Value.ref q_2, Value.ref q_3, Value.ref q_4, Value.int 0, Value.ref q_5, Value.ref q_6, Value.int 0, Value.long 0, Value.long 0, Value.int 0, Value.int 0, Value.ref q_7, Value.int 0, Value.null, Value.int 0, Value.null, Value.int 0, Value.int 0, Value.int 0, Value.int 0, Value.int 0, Value.int 0, Value.long 0, Value.long 0, Value.long 0, Value.long 0, Value.null, Value.null, Value.null, Value.int 0, Value.int 0])), (q_1, Sum.inl (cI, 8, Sum.inl (fun _ => 0))), (q_2, Sum.inl (cI, 512, Sum.inl (fun _ => 0))), (q_3, Sum.inl (cI, 512, Sum.inl (fun _ => 0))), (q_4, Sum.inl (cI, 512, Sum.inl (fun _ => 0))), (q_5, Sum.inl (cI, 600, Sum.inl (fun _ => 0))), (q_6, Sum.inl (cI, 600, Sum.inl (fun _ => 0))), (q_7, Sum.inl (cI, 9000, Sum.inl (fun _ => 0))), (q_8, Sum.inl (cI, 9000, Sum.inl (fun _ => 0)))] H := ⟨hP, hD⟩
  clear hP hD
  have hP := hPD.1
  have hD := hPD.2
  clear hPD
  refine va_putF (D := (dC, dI)) (ci := 9) (v := .ref q_8) (ty := (.array .int)) (C := "RangeCodersModel") (T := T_M) (N := 35) hx hb hg in_M t_M o_M n_M hown hK hP hD hS 0 rfl rfl 17 (by decide) (hg _ k969) (fun _ h9 => h9) rfl (by rw [hnm]; rfl) rfl (o_M 17 (by decide)) rfl rfl (Nat.le_of_ble_eq_true rfl) d_M_init_72 (fun _ _ _ _ _ => ?_)
  clear hP hD hS
  rename_i H locs hP hD hS
  have hPD : my_PD (dC, dI) vwCl A [(o, Sum.inr (9, [Value.int 0, Value.int 0, Value.int 0, Value.ref q_1, Value.ref q_2, Value.ref q_3, Value.ref q_4, Value.int 0, Value.ref q_5, Value.ref q_6, Value.int 0, Value.long 0, Value.long 0, Value.int 0, Value.int 0, Value.ref q_7, Value.int 0, Value.ref q_8, Value.int 0, Value.null, Value.int 0, Value.int 0, Value.int 0, Value.int 0, Value.int 0, Value.int 0, Value.long 0, Value.long 0, Value.long 0, Value.long 0, Value.null, Value.null, Value.null, Value.int 0, Value.int 0])), (q_1, Sum.inl (cI, 8, Sum.inl (fun _ => 0))), (q_2, Sum.inl (cI, 512, Sum.inl (fun _ => 0))), (q_3, Sum.inl (cI, 512, Sum.inl (fun _ => 0))), (q_4, Sum.inl (cI, 512, Sum.inl (fun _ => 0))), (q_5, Sum.inl (cI, 600, Sum.inl (fun _ => 0))), (q_6, Sum.inl (cI, 600, Sum.inl (fun _ => 0))), (q_7, Sum.inl (cI, 9000, Sum.inl (fun _ => 0))), (q_8, Sum.inl (cI, 9000, Sum.inl (fun _ => 0)))] H := ⟨hP, hD⟩
  clear hP hD
  have hP := hPD.1
  have hD := hPD.2
  clear hPD
  refine lv_aload_n hx hb d_M_init_75 rfl (lv_at hl 0 rfl) ?_
  refine lv_sipush (v := 6000) hx hb d_M_init_76 (by decide) ?_
  refine my_newi hx hb (hg _ k66) hK 0 rfl hP hD hS hA (N' := 6000) (by decide) (rfl) (by decide) (by rw [hR]; exact (show 0 + 1 + 1 + 1 + 1 + 1 + 1 + 1 + 1 + 1 ≤ 50000 by decide)) (by rw [hR]; exact (show 0 + 8 + 512 + 512 + 512 + 600 + 600 + 9000 + 9000 + 6000 ≤ 50000 by decide)) d_M_init_79 (fun q_9 _ _ _ _ => ?_)
  clear hP hD hS
  rename_i H hP hD hS
  have hPD : my_PD (dC, dI) vwCl A [(o, Sum.inr (9, [Value.int 0, Value.int 0, Value.int 0, Value.ref q_1, Value.ref q_2, Value.ref q_3, Value.ref q_4, Value.int 0, Value.ref q_5, Value.ref q_6, Value.int 0, Value.long 0, Value.long 0, Value.int 0, Value.int 0, Value.ref q_7, Value.int 0, Value.ref q_8, Value.int 0, Value.null, Value.int 0, Value.int 0, Value.int 0, Value.int 0, Value.int 0, Value.int 0, Value.long 0, Value.long 0, Value.long 0, Value.long 0, Value.null, Value.null, Value.null, Value.int 0, Value.int 0])), (q_1, Sum.inl (cI, 8, Sum.inl (fun _ => 0))), (q_2, Sum.inl (cI, 512, Sum.inl (fun _ => 0))), (q_3, Sum.inl (cI, 512, Sum.inl (fun _ => 0))), (q_4, Sum.inl (cI, 512, Sum.inl (fun _ => 0))), (q_5, Sum.inl (cI, 600, Sum.inl (fun _ => 0))), (q_6, Sum.inl (cI, 600, Sum.inl (fun _ => 0))), (q_7, Sum.inl (cI, 9000, Sum.inl (fun _ => 0))), (q_8, Sum.inl (cI, 9000, Sum.inl (fun _ => 0))), (q_9, Sum.inl (cI, 6000, Sum.inl (fun _ => 0)))] H := ⟨hP, hD⟩
  clear hP hD
  have hP := hPD.1
  have hD := hPD.2
  clear hPD
  refine va_putF (D := (dC, dI)) (ci := 9) (v := .ref q_9) (ty := (.array .int)) (C := "RangeCodersModel") (T := T_M) (N := 35) hx hb hg in_M t_M o_M n_M hown hK hP hD hS 0 rfl rfl 19 (by decide) (hg _ k971) (fun _ h9 => h9) rfl (by rw [hnm]; rfl) rfl (o_M 19 (by decide)) rfl rfl (Nat.le_of_ble_eq_true rfl) d_M_init_81 (fun _ _ _ _ _ => ?_)
  clear hP hD hS
  rename_i H locs hP hD hS
  have hPD : my_PD (dC, dI) vwCl A [(o, Sum.inr (9, [Value.int 0, Value.int 0, Value.int 0, Value.ref q_1, Value.ref q_2, Value.ref q_3, Value.ref q_4, Value.int 0, Value.ref q_5, Value.ref q_6, Value.int 0, Value.long 0, Value.long 0, Value.int 0, Value.int 0, Value.ref q_7, Value.int 0, Value.ref q_8, Value.int 0, Value.ref q_9, Value.int 0, Value.int 0, Value.int 0, Value.int 0, Value.int 0, Value.int 0, Value.long 0, Value.long 0, Value.long 0, Value.long 0, Value.null, Value.null, Value.null, Value.int 0, Value.int 0])), (q_1, Sum.inl (cI, 8, Sum.inl (fun _ => 0))), (q_2, Sum.inl (cI, 512, Sum.inl (fun _ => 0))), (q_3, Sum.inl (cI, 512, Sum.inl (fun _ => 0))), (q_4, Sum.inl (cI, 512, Sum.inl (fun _ => 0))), (q_5, Sum.inl (cI, 600, Sum.inl (fun _ => 0))), (q_6, Sum.inl (cI, 600, Sum.inl (fun _ => 0))), (q_7, Sum.inl (cI, 9000, Sum.inl (fun _ => 0))), (q_8, Sum.inl (cI, 9000, Sum.inl (fun _ => 0))), (q_9, Sum.inl (cI, 6000, Sum.inl (fun _ => 0)))] H := ⟨hP, hD⟩
  clear hP hD
  have hP := hPD.1
  have hD := hPD.2
  clear hPD
  refine lv_aload_n hx hb d_M_init_84 rfl (lv_at hl 0 rfl) ?_
  refine lv_sipush (v := 512) hx hb d_M_init_85 (by decide) ?_
  refine my_newi hx hb (hg _ k66) hK 0 rfl hP hD hS hA (N' := 512) (by decide) (rfl) (by decide) (by rw [hR]; exact (show 0 + 1 + 1 + 1 + 1 + 1 + 1 + 1 + 1 + 1 + 1 ≤ 50000 by decide)) (by rw [hR]; exact (show 0 + 8 + 512 + 512 + 512 + 600 + 600 + 9000 + 9000 + 6000 + 512 ≤ 50000 by decide)) d_M_init_88 (fun q_10 _ _ _ _ => ?_)
  clear hP hD hS
  rename_i H hP hD hS
  have hPD : my_PD (dC, dI) vwCl A [(o, Sum.inr (9, [Value.int 0, Value.int 0, Value.int 0, Value.ref q_1, Value.ref q_2, Value.ref q_3, Value.ref q_4, Value.int 0, Value.ref q_5, Value.ref q_6, Value.int 0, Value.long 0, Value.long 0, Value.int 0, Value.int 0, Value.ref q_7, Value.int 0, Value.ref q_8, Value.int 0, Value.ref q_9, Value.int 0, Value.int 0, Value.int 0, Value.int 0, Value.int 0, Value.int 0, Value.long 0, Value.long 0, Value.long 0, Value.long 0, Value.null, Value.null, Value.null, Value.int 0, Value.int 0])), (q_1, Sum.inl (cI, 8, Sum.inl (fun _ => 0))), (q_2, Sum.inl (cI, 512, Sum.inl (fun _ => 0))), (q_3, Sum.inl (cI, 512, Sum.inl (fun _ => 0))), (q_4, Sum.inl (cI, 512, Sum.inl (fun _ => 0))), (q_5, Sum.inl (cI, 600, Sum.inl (fun _ => 0))), (q_6, Sum.inl (cI, 600, Sum.inl (fun _ => 0))), (q_7, Sum.inl (cI, 9000, Sum.inl (fun _ => 0))), (q_8, Sum.inl (cI, 9000, Sum.inl (fun _ => 0))), (q_9, Sum.inl (cI, 6000, Sum.inl (fun _ => 0))), (q_10, Sum.inl (cI, 512, Sum.inl (fun _ => 0)))] H := ⟨hP, hD⟩
  clear hP hD
  have hP := hPD.1
  have hD := hPD.2
  clear hPD
  refine va_putF (D := (dC, dI)) (ci := 9) (v := .ref q_10) (ty := (.array .int)) (C := "RangeCodersModel") (T := T_M) (N := 35) hx hb hg in_M t_M o_M n_M hown hK hP hD hS 0 rfl rfl 30 (by decide) (hg _ k982) (fun _ h9 => h9) rfl (by rw [hnm]; rfl) rfl (o_M 30 (by decide)) rfl rfl (Nat.le_of_ble_eq_true rfl) d_M_init_90 (fun _ _ _ _ _ => ?_)
  clear hP hD hS
  rename_i H locs hP hD hS
  have hPD : my_PD (dC, dI) vwCl A [(o, Sum.inr (9, [Value.int 0, Value.int 0, Value.int 0, Value.ref q_1, Value.ref q_2, Value.ref q_3, Value.ref q_4, Value.int 0, Value.ref q_5, Value.ref q_6, Value.int 0, Value.long 0, Value.long 0, Value.int 0, Value.int 0, Value.ref q_7, Value.int 0, Value.ref q_8, Value.int 0, Value.ref q_9, Value.int 0, Value.int 0, Value.int 0, Value.int 0, Value.int 0, Value.int 0, Value.long 0, Value.long 0, Value.long 0, Value.long 0, Value.ref q_10, Value.null, Value.null, Value.int 0, Value.int 0])), (q_1, Sum.inl (cI, 8, Sum.inl (fun _ => 0))), (q_2, Sum.inl (cI, 512, Sum.inl (fun _ => 0))), (q_3, Sum.inl (cI, 512, Sum.inl (fun _ => 0))), (q_4, Sum.inl (cI, 512, Sum.inl (fun _ => 0))), (q_5, Sum.inl (cI, 600, Sum.inl (fun _ => 0))), (q_6, Sum.inl (cI, 600, Sum.inl (fun _ => 0))), (q_7, Sum.inl (cI, 9000, Sum.inl (fun _ => 0))), (q_8, Sum.inl (cI, 9000, Sum.inl (fun _ => 0))), (q_9, Sum.inl (cI, 6000, Sum.inl (fun _ => 0))), (q_10, Sum.inl (cI, 512, Sum.inl (fun _ => 0)))] H := ⟨hP, hD⟩
  clear hP hD
  have hP := hPD.1
  have hD := hPD.2
  clear hPD
  refine lv_aload_n hx hb d_M_init_93 rfl (lv_at hl 0 rfl) ?_
  refine lv_sipush (v := 512) hx hb d_M_init_94 (by decide) ?_
  refine my_newi hx hb (hg _ k66) hK 0 rfl hP hD hS hA (N' := 512) (by decide) (rfl) (by decide) (by rw [hR]; exact (show 0 + 1 + 1 + 1 + 1 + 1 + 1 + 1 + 1 + 1 + 1 + 1 ≤ 50000 by decide)) (by rw [hR]; exact (show 0 + 8 + 512 + 512 + 512 + 600 + 600 + 9000 + 9000 + 6000 + 512 + 512 ≤ 50000 by decide)) d_M_init_97 (fun q_11 _ _ _ _ => ?_)
  clear hP hD hS
  rename_i H hP hD hS
  have hPD : my_PD (dC, dI) vwCl A [(o, Sum.inr (9, [Value.int 0, Value.int 0, Value.int 0, Value.ref q_1, Value.ref q_2, Value.ref q_3, Value.ref q_4, Value.int 0, Value.ref q_5, Value.ref q_6, Value.int 0, Value.long 0, Value.long 0, Value.int 0, Value.int 0, Value.ref q_7, Value.int 0, Value.ref q_8, Value.int 0, Value.ref q_9, Value.int 0, Value.int 0, Value.int 0, Value.int 0, Value.int 0, Value.int 0, Value.long 0, Value.long 0, Value.long 0, Value.long 0, Value.ref q_10, Value.null, Value.null, Value.int 0, Value.int 0])), (q_1, Sum.inl (cI, 8, Sum.inl (fun _ => 0))), (q_2, Sum.inl (cI, 512, Sum.inl (fun _ => 0))), (q_3, Sum.inl (cI, 512, Sum.inl (fun _ => 0))), (q_4, Sum.inl (cI, 512, Sum.inl (fun _ => 0))), (q_5, Sum.inl (cI, 600, Sum.inl (fun _ => 0))), (q_6, Sum.inl (cI, 600, Sum.inl (fun _ => 0))), (q_7, Sum.inl (cI, 9000, Sum.inl (fun _ => 0))), (q_8, Sum.inl (cI, 9000, Sum.inl (fun _ => 0))), (q_9, Sum.inl (cI, 6000, Sum.inl (fun _ => 0))), (q_10, Sum.inl (cI, 512, Sum.inl (fun _ => 0))), (q_11, Sum.inl (cI, 512, Sum.inl (fun _ => 0)))] H := ⟨hP, hD⟩
  clear hP hD
  have hP := hPD.1
  have hD := hPD.2
  clear hPD
  refine va_putF (D := (dC, dI)) (ci := 9) (v := .ref q_11) (ty := (.array .int)) (C := "RangeCodersModel") (T := T_M) (N := 35) hx hb hg in_M t_M o_M n_M hown hK hP hD hS 0 rfl rfl 31 (by decide) (hg _ k983) (fun _ h9 => h9) rfl (by rw [hnm]; rfl) rfl (o_M 31 (by decide)) rfl rfl (Nat.le_of_ble_eq_true rfl) d_M_init_99 (fun _ _ _ _ _ => ?_)
  clear hP hD hS
  rename_i H locs hP hD hS
  have hPD : my_PD (dC, dI) vwCl A [(o, Sum.inr (9, [Value.int 0, Value.int 0, Value.int 0, Value.ref q_1, Value.ref q_2, Value.ref q_3, Value.ref q_4, Value.int 0, Value.ref q_5, Value.ref q_6, Value.int 0, Value.long 0, Value.long 0, Value.int 0, Value.int 0, Value.ref q_7, Value.int 0, Value.ref q_8, Value.int 0, Value.ref q_9, Value.int 0, Value.int 0, Value.int 0, Value.int 0, Value.int 0, Value.int 0, Value.long 0, Value.long 0, Value.long 0, Value.long 0, Value.ref q_10, Value.ref q_11, Value.null, Value.int 0, Value.int 0])), (q_1, Sum.inl (cI, 8, Sum.inl (fun _ => 0))), (q_2, Sum.inl (cI, 512, Sum.inl (fun _ => 0))), (q_3, Sum.inl (cI, 512, Sum.inl (fun _ => 0))), (q_4, Sum.inl (cI, 512, Sum.inl (fun _ => 0))), (q_5, Sum.inl (cI, 600, Sum.inl (fun _ => 0))), (q_6, Sum.inl (cI, 600, Sum.inl (fun _ => 0))), (q_7, Sum.inl (cI, 9000, Sum.inl (fun _ => 0))), (q_8, Sum.inl (cI, 9000, Sum.inl (fun _ => 0))), (q_9, Sum.inl (cI, 6000, Sum.inl (fun _ => 0))), (q_10, Sum.inl (cI, 512, Sum.inl (fun _ => 0))), (q_11, Sum.inl (cI, 512, Sum.inl (fun _ => 0)))] H := ⟨hP, hD⟩
  clear hP hD
  have hP := hPD.1
  have hD := hPD.2
  clear hPD
  refine lv_aload_n hx hb d_M_init_102 rfl (lv_at hl 0 rfl) ?_
  refine lv_sipush (v := 20000) hx hb d_M_init_103 (by decide) ?_
  refine my_newi hx hb (hg _ k66) hK 0 rfl hP hD hS hA (N' := 20000) (by decide) (rfl) (by decide) (by rw [hR]; exact (show 0 + 1 + 1 + 1 + 1 + 1 + 1 + 1 + 1 + 1 + 1 + 1 + 1 ≤ 50000 by decide)) (by rw [hR]; exact (show 0 + 8 + 512 + 512 + 512 + 600 + 600 + 9000 + 9000 + 6000 + 512 + 512 + 20000 ≤ 50000 by decide)) d_M_init_106 (fun q_12 _ _ _ _ => ?_)
  clear hP hD hS
  rename_i H hP hD hS
  have hPD : my_PD (dC, dI) vwCl A [(o, Sum.inr (9, [Value.int 0, Value.int 0, Value.int 0, Value.ref q_1, Value.ref q_2, Value.ref q_3, Value.ref q_4, Value.int 0, Value.ref q_5, Value.ref q_6, Value.int 0, Value.long 0, Value.long 0, Value.int 0, Value.int 0, Value.ref q_7, Value.int 0, Value.ref q_8, Value.int 0, Value.ref q_9, Value.int 0, Value.int 0, Value.int 0, Value.int 0, Value.int 0, Value.int 0, Value.long 0, Value.long 0, Value.long 0, Value.long 0, Value.ref q_10, Value.ref q_11, Value.null, Value.int 0, Value.int 0])), (q_1, Sum.inl (cI, 8, Sum.inl (fun _ => 0))), (q_2, Sum.inl (cI, 512, Sum.inl (fun _ => 0))), (q_3, Sum.inl (cI, 512, Sum.inl (fun _ => 0))), (q_4, Sum.inl (cI, 512, Sum.inl (fun _ => 0))), (q_5, Sum.inl (cI, 600, Sum.inl (fun _ => 0))), (q_6, Sum.inl (cI, 600, Sum.inl (fun _ => 0))), (q_7, Sum.inl (cI, 9000, Sum.inl (fun _ => 0))), (q_8, Sum.inl (cI, 9000, Sum.inl (fun _ => 0))), (q_9, Sum.inl (cI, 6000, Sum.inl (fun _ => 0))), (q_10, Sum.inl (cI, 512, Sum.inl (fun _ => 0))), (q_11, Sum.inl (cI, 512, Sum.inl (fun _ => 0))), (q_12, Sum.inl (cI, 20000, Sum.inl (fun _ => 0)))] H := ⟨hP, hD⟩
  clear hP hD
  have hP := hPD.1
  have hD := hPD.2
  clear hPD
  refine va_putF (D := (dC, dI)) (ci := 9) (v := .ref q_12) (ty := (.array .int)) (C := "RangeCodersModel") (T := T_M) (N := 35) hx hb hg in_M t_M o_M n_M hown hK hP hD hS 0 rfl rfl 32 (by decide) (hg _ k984) (fun _ h9 => h9) rfl (by rw [hnm]; rfl) rfl (o_M 32 (by decide)) rfl rfl (Nat.le_of_ble_eq_true rfl) d_M_init_108 (fun _ _ _ _ _ => ?_)
  clear hP hD hS
  rename_i H locs hP hD hS
  have hPD : my_PD (dC, dI) vwCl A [(o, Sum.inr (9, [Value.int 0, Value.int 0, Value.int 0, Value.ref q_1, Value.ref q_2, Value.ref q_3, Value.ref q_4, Value.int 0, Value.ref q_5, Value.ref q_6, Value.int 0, Value.long 0, Value.long 0, Value.int 0, Value.int 0, Value.ref q_7, Value.int 0, Value.ref q_8, Value.int 0, Value.ref q_9, Value.int 0, Value.int 0, Value.int 0, Value.int 0, Value.int 0, Value.int 0, Value.long 0, Value.long 0, Value.long 0, Value.long 0, Value.ref q_10, Value.ref q_11, Value.ref q_12, Value.int 0, Value.int 0])), (q_1, Sum.inl (cI, 8, Sum.inl (fun _ => 0))), (q_2, Sum.inl (cI, 512, Sum.inl (fun _ => 0))), (q_3, Sum.inl (cI, 512, Sum.inl (fun _ => 0))), (q_4, Sum.inl (cI, 512, Sum.inl (fun _ => 0))), (q_5, Sum.inl (cI, 600, Sum.inl (fun _ => 0))), (q_6, Sum.inl (cI, 600, Sum.inl (fun _ => 0))), (q_7, Sum.inl (cI, 9000, Sum.inl (fun _ => 0))), (q_8, Sum.inl (cI, 9000, Sum.inl (fun _ => 0))), (q_9, Sum.inl (cI, 6000, Sum.inl (fun _ => 0))), (q_10, Sum.inl (cI, 512, Sum.inl (fun _ => 0))), (q_11, Sum.inl (cI, 512, Sum.inl (fun _ => 0))), (q_12, Sum.inl (cI, 20000, Sum.inl (fun _ => 0)))] H := ⟨hP, hD⟩
  clear hP hD
  have hP := hPD.1
  have hD := hPD.2
  clear hPD
  have J_133 : ∀ (fF : Int32) (hF9 : fF = nearM p1 0 4) (H : Heap) (locs : List Loc) (ls : Array Slot), va_P (dC, dI) vwCl [(o, Sum.inr (9, [Value.int fF, Value.int 0, Value.int 0, Value.ref q_1, Value.ref q_2, Value.ref q_3, Value.ref q_4, Value.int 0, Value.ref q_5, Value.ref q_6, Value.int 0, Value.long 0, Value.long 0, Value.int 0, Value.int 0, Value.ref q_7, Value.int 0, Value.ref q_8, Value.int 0, Value.ref q_9, Value.int 0, Value.int 0, Value.int 0, Value.int 0, Value.int 0, Value.int 0, Value.long 0, Value.long 0, Value.long 0, Value.long 0, Value.ref q_10, Value.ref q_11, Value.ref q_12, Value.int 0, Value.int 0])), (q_1, Sum.inl (cI, 8, Sum.inl (fun _ => 0))), (q_2, Sum.inl (cI, 512, Sum.inl (fun _ => 0))), (q_3, Sum.inl (cI, 512, Sum.inl (fun _ => 0))), (q_4, Sum.inl (cI, 512, Sum.inl (fun _ => 0))), (q_5, Sum.inl (cI, 600, Sum.inl (fun _ => 0))), (q_6, Sum.inl (cI, 600, Sum.inl (fun _ => 0))), (q_7, Sum.inl (cI, 9000, Sum.inl (fun _ => 0))), (q_8, Sum.inl (cI, 9000, Sum.inl (fun _ => 0))), (q_9, Sum.inl (cI, 6000, Sum.inl (fun _ => 0))), (q_10, Sum.inl (cI, 512, Sum.inl (fun _ => 0))), (q_11, Sum.inl (cI, 512, Sum.inl (fun _ => 0))), (q_12, Sum.inl (cI, 20000, Sum.inl (fun _ => 0)))] H → va_D A [(o, Sum.inr (9, [Value.int fF, Value.int 0, Value.int 0, Value.ref q_1, Value.ref q_2, Value.ref q_3, Value.ref q_4, Value.int 0, Value.ref q_5, Value.ref q_6, Value.int 0, Value.long 0, Value.long 0, Value.int 0, Value.int 0, Value.ref q_7, Value.int 0, Value.ref q_8, Value.int 0, Value.ref q_9, Value.int 0, Value.int 0, Value.int 0, Value.int 0, Value.int 0, Value.int 0, Value.long 0, Value.long 0, Value.long 0, Value.long 0, Value.ref q_10, Value.ref q_11, Value.ref q_12, Value.int 0, Value.int 0])), (q_1, Sum.inl (cI, 8, Sum.inl (fun _ => 0))), (q_2, Sum.inl (cI, 512, Sum.inl (fun _ => 0))), (q_3, Sum.inl (cI, 512, Sum.inl (fun _ => 0))), (q_4, Sum.inl (cI, 512, Sum.inl (fun _ => 0))), (q_5, Sum.inl (cI, 600, Sum.inl (fun _ => 0))), (q_6, Sum.inl (cI, 600, Sum.inl (fun _ => 0))), (q_7, Sum.inl (cI, 9000, Sum.inl (fun _ => 0))), (q_8, Sum.inl (cI, 9000, Sum.inl (fun _ => 0))), (q_9, Sum.inl (cI, 6000, Sum.inl (fun _ => 0))), (q_10, Sum.inl (cI, 512, Sum.inl (fun _ => 0))), (q_11, Sum.inl (cI, 512, Sum.inl (fun _ => 0))), (q_12, Sum.inl (cI, 20000, Sum.inl (fun _ => 0)))] → va_S A s.heap H locs → lv_has ls 3 [(0, Value.ref o), (1, Value.int p1), (2, Value.int p2)] → W p l e R s m args below meth c H locs (0 + 1 + 1 + 1 + 1 + 1 + 1 + 1 + 1 + 1 + 1 + 1 + 1) (0 + 8 + 512 + 512 + 512 + 600 + 600 + 9000 + 9000 + 6000 + 512 + 512 + 20000) Q (F0 m 133 ls []) := by
    intro fF hF9 H locs ls hP hD hS hl
    have J_158 : ∀ (fS : Int32) (hS9 : fS = nearM p2 1 10) (H : Heap) (locs : List Loc) (ls : Array Slot), va_P (dC, dI) vwCl [(o, Sum.inr (9, [Value.int fF, Value.int fS, Value.int 0, Value.ref q_1, Value.ref q_2, Value.ref q_3, Value.ref q_4, Value.int 0, Value.ref q_5, Value.ref q_6, Value.int 0, Value.long 0, Value.long 0, Value.int 0, Value.int 0, Value.ref q_7, Value.int 0, Value.ref q_8, Value.int 0, Value.ref q_9, Value.int 0, Value.int 0, Value.int 0, Value.int 0, Value.int 0, Value.int 0, Value.long 0, Value.long 0, Value.long 0, Value.long 0, Value.ref q_10, Value.ref q_11, Value.ref q_12, Value.int 0, Value.int 0])), (q_1, Sum.inl (cI, 8, Sum.inl (fun _ => 0))), (q_2, Sum.inl (cI, 512, Sum.inl (fun _ => 0))), (q_3, Sum.inl (cI, 512, Sum.inl (fun _ => 0))), (q_4, Sum.inl (cI, 512, Sum.inl (fun _ => 0))), (q_5, Sum.inl (cI, 600, Sum.inl (fun _ => 0))), (q_6, Sum.inl (cI, 600, Sum.inl (fun _ => 0))), (q_7, Sum.inl (cI, 9000, Sum.inl (fun _ => 0))), (q_8, Sum.inl (cI, 9000, Sum.inl (fun _ => 0))), (q_9, Sum.inl (cI, 6000, Sum.inl (fun _ => 0))), (q_10, Sum.inl (cI, 512, Sum.inl (fun _ => 0))), (q_11, Sum.inl (cI, 512, Sum.inl (fun _ => 0))), (q_12, Sum.inl (cI, 20000, Sum.inl (fun _ => 0)))] H → va_D A [(o, Sum.inr (9, [Value.int fF, Value.int fS, Value.int 0, Value.ref q_1, Value.ref q_2, Value.ref q_3, Value.ref q_4, Value.int 0, Value.ref q_5, Value.ref q_6, Value.int 0, Value.long 0, Value.long 0, Value.int 0, Value.int 0, Value.ref q_7, Value.int 0, Value.ref q_8, Value.int 0, Value.ref q_9, Value.int 0, Value.int 0, Value.int 0, Value.int 0, Value.int 0, Value.int 0, Value.long 0, Value.long 0, Value.long 0, Value.long 0, Value.ref q_10, Value.ref q_11, Value.ref q_12, Value.int 0, Value.int 0])), (q_1, Sum.inl (cI, 8, Sum.inl (fun _ => 0))), (q_2, Sum.inl (cI, 512, Sum.inl (fun _ => 0))), (q_3, Sum.inl (cI, 512, Sum.inl (fun _ => 0))), (q_4, Sum.inl (cI, 512, Sum.inl (fun _ => 0))), (q_5, Sum.inl (cI, 600, Sum.inl (fun _ => 0))), (q_6, Sum.inl (cI, 600, Sum.inl (fun _ => 0))), (q_7, Sum.inl (cI, 9000, Sum.inl (fun _ => 0))), (q_8, Sum.inl (cI, 9000, Sum.inl (fun _ => 0))), (q_9, Sum.inl (cI, 6000, Sum.inl (fun _ => 0))), (q_10, Sum.inl (cI, 512, Sum.inl (fun _ => 0))), (q_11, Sum.inl (cI, 512, Sum.inl (fun _ => 0))), (q_12, Sum.inl (cI, 20000, Sum.inl (fun _ => 0)))] → va_S A s.heap H locs → lv_has ls 3 [(0, Value.ref o), (1, Value.int p1), (2, Value.int p2)] → W p l e R s m args below meth c H locs (0 + 1 + 1 + 1 + 1 + 1 + 1 + 1 + 1 + 1 + 1 + 1 + 1) (0 + 8 + 512 + 512 + 512 + 600 + 600 + 9000 + 9000 + 6000 + 512 + 512 + 20000) Q (F0 m 158 ls []) := by
      intro fS hS9 H locs ls hP hD hS hl
      obtain ⟨g9, eg0, eg1, eg2, eg3, eg4, eg5, eg6, eg7, eg8, eg9, eg10, eg11⟩ : ∃ g9 : Nat → Nat, g9 0 = q_1 ∧ g9 1 = q_2 ∧ g9 2 = q_3 ∧ g9 3 = q_4 ∧ g9 4 = q_5 ∧ g9 5 = q_6 ∧ g9 6 = q_7 ∧ g9 7 = q_8 ∧ g9 8 = q_9 ∧ g9 9 = q_10 ∧ g9 10 = q_11 ∧ g9 11 = q_12 := ⟨fun k9 => if k9 = 0 then q_1 else if k9 = 1 then q_2 else if k9 = 2 then q_3 else if k9 = 3 then q_4 else if k9 = 4 then q_5 else if k9 = 5 then q_6 else if k9 = 6 then q_7 else if k9 = 7 then q_8 else if k9 = 8 then q_9 else if k9 = 9 then q_10 else if k9 = 10 then q_11 else q_12, rfl, rfl, rfl, rfl, rfl, rfl, rfl, rfl, rfl, rfl, rfl, rfl⟩
      have hP : va_P (dC, dI) vwCl [(o, Sum.inr (9, [Value.int fF, Value.int fS, Value.int 0, Value.ref (g9 0), Value.ref (g9 1), Value.ref (g9 2), Value.ref (g9 3), Value.int 0, Value.ref (g9 4), Value.ref (g9 5), Value.int 0, Value.long 0, Value.long 0, Value.int 0, Value.int 0, Value.ref (g9 6), Value.int 0, Value.ref (g9 7), Value.int 0, Value.ref (g9 8), Value.int 0, Value.int 0, Value.int 0, Value.int 0, Value.int 0, Value.int 0, Value.long 0, Value.long 0, Value.long 0, Value.long 0, Value.ref (g9 9), Value.ref (g9 10), Value.ref (g9 11), Value.int 0, Value.int 0])), ((g9 0), Sum.inl (cI, 8, Sum.inl (fun _ => 0))), ((g9 1), Sum.inl (cI, 512, Sum.inl (fun _ => 0))), ((g9 2), Sum.inl (cI, 512, Sum.inl (fun _ => 0))), ((g9 3), Sum.inl (cI, 512, Sum.inl (fun _ => 0))), ((g9 4), Sum.inl (cI, 600, Sum.inl (fun _ => 0))), ((g9 5), Sum.inl (cI, 600, Sum.inl (fun _ => 0))), ((g9 6), Sum.inl (cI, 9000, Sum.inl (fun _ => 0))), ((g9 7), Sum.inl (cI, 9000, Sum.inl (fun _ => 0))), ((g9 8), Sum.inl (cI, 6000, Sum.inl (fun _ => 0))), ((g9 9), Sum.inl (cI, 512, Sum.inl (fun _ => 0))), ((g9 10), Sum.inl (cI, 512, Sum.inl (fun _ => 0))), ((g9 11), Sum.inl (cI, 20000, Sum.inl (fun _ => 0)))] H := by rw [eg0, eg1, eg2, eg3, eg4, eg5, eg6, eg7, eg8, eg9, eg10, eg11]; exact hP
      have hD : va_D A [(o, Sum.inr (9, [Value.int fF, Value.int fS, Value.int 0, Value.ref (g9 0), Value.ref (g9 1), Value.ref (g9 2), Value.ref (g9 3), Value.int 0, Value.ref (g9 4), Value.ref (g9 5), Value.int 0, Value.long 0, Value.long 0, Value.int 0, Value.int 0, Value.ref (g9 6), Value.int 0, Value.ref (g9 7), Value.int 0, Value.ref (g9 8), Value.int 0, Value.int 0, Value.int 0, Value.int 0, Value.int 0, Value.int 0, Value.long 0, Value.long 0, Value.long 0, Value.long 0, Value.ref (g9 9), Value.ref (g9 10), Value.ref (g9 11), Value.int 0, Value.int 0])), ((g9 0), Sum.inl (cI, 8, Sum.inl (fun _ => 0))), ((g9 1), Sum.inl (cI, 512, Sum.inl (fun _ => 0))), ((g9 2), Sum.inl (cI, 512, Sum.inl (fun _ => 0))), ((g9 3), Sum.inl (cI, 512, Sum.inl (fun _ => 0))), ((g9 4), Sum.inl (cI, 600, Sum.inl (fun _ => 0))), ((g9 5), Sum.inl (cI, 600, Sum.inl (fun _ => 0))), ((g9 6), Sum.inl (cI, 9000, Sum.inl (fun _ => 0))), ((g9 7), Sum.inl (cI, 9000, Sum.inl (fun _ => 0))), ((g9 8), Sum.inl (cI, 6000, Sum.inl (fun _ => 0))), ((g9 9), Sum.inl (cI, 512, Sum.inl (fun _ => 0))), ((g9 10), Sum.inl (cI, 512, Sum.inl (fun _ => 0))), ((g9 11), Sum.inl (cI, 20000, Sum.inl (fun _ => 0)))] := by rw [eg0, eg1, eg2, eg3, eg4, eg5, eg6, eg7, eg8, eg9, eg10, eg11]; exact hD
      obtain ⟨fm9, -, hfm9, ef9⟩ := near_n p1 (a := 0) (b := 4) (by decide) (by decide)
      have hPD : my_PD (dC, dI) vwCl A [(o, Sum.inr (9, mO g9 fF fS 0 0 0 0 0 0 0 0 0 0 0 0 0 0 0 0 0 0 0 0 0)), ((g9 0), Sum.inl (cI, 8, Sum.inl (fun _ => 0))), ((g9 1), Sum.inl (cI, 512, Sum.inl (fun _ => 0))), ((g9 2), Sum.inl (cI, 512, Sum.inl (fun _ => 0))), ((g9 3), Sum.inl (cI, 512, Sum.inl (fun _ => 0))), ((g9 4), Sum.inl (cI, 600, Sum.inl (fun _ => 0))), ((g9 5), Sum.inl (cI, 600, Sum.inl (fun _ => 0))), ((g9 6), Sum.inl (cI, 9000, Sum.inl (fun _ => 0))), ((g9 7), Sum.inl (cI, 9000, Sum.inl (fun _ => 0))), ((g9 8), Sum.inl (cI, 6000, Sum.inl (fun _ => 0))), ((g9 9), Sum.inl (cI, 512, Sum.inl (fun _ => 0))), ((g9 10), Sum.inl (cI, 512, Sum.inl (fun _ => 0))), ((g9 11), Sum.inl (cI, 20000, Sum.inl (fun _ => 0)))] H := ⟨hP, hD⟩
      clear hP hD
      have hP := hPD.1
      have hD := hPD.2
      clear hPD
      refine lv_aload_n hx hb d_M_init_158 rfl (lv_at hl 0 rfl) ?_
      refine my_cv (wr := [((g9 3), Sum.inl (cI, 512, Sum.inl (fun _ => 0))), ((g9 4), Sum.inl (cI, 600, Sum.inl (fun _ => 0))), ((g9 5), Sum.inl (cI, 600, Sum.inl (fun _ => 0))), ((g9 6), Sum.inl (cI, 9000, Sum.inl (fun _ => 0))), ((g9 7), Sum.inl (cI, 9000, Sum.inl (fun _ => 0))), ((g9 8), Sum.inl (cI, 6000, Sum.inl (fun _ => 0))), ((g9 9), Sum.inl (cI, 512, Sum.inl (fun _ => 0))), ((g9 10), Sum.inl (cI, 512, Sum.inl (fun _ => 0))), ((g9 11), Sum.inl (cI, 20000, Sum.inl (fun _ => 0)))]) (va_runV (As := []) (rest := []) ⟨hx, hb, hml, hown, hts⟩ (c_M_start l dC dI cI cM cO H.size o g9 fF fS 0 0 0 0 0 0 0 0 0 0 0 0 0 0 0 0 0 0 0 0 0 (fun _ => 0) (fun _ => 0) (fun _ => 0) fm9 0 (fun _ => 2) (hfm9) (by rw [hF9]; exact ef9) (rfl) (⟨by decide, fun z9 h9 => absurd h9 (Nat.not_lt_zero z9)⟩)) (cwV 0 hts (my_gV k923 k925 ks18 k12 k926) rfl rfl rfl cu_M_start_0 ⟨by rw [hR]; exact Nat.le_of_ble_eq_true rfl, by rw [hR]; exact Nat.le_of_ble_eq_true rfl⟩) (my_preV hK hN (hP.sub [0, 1, 2, 3] rfl) (hD.sub [0, 1, 2, 3] (by decide +kernel) rfl) 0 rfl rfl) rfl rfl hl.1 rfl (lv_room (Nat.le_of_ble_eq_true rfl)) d_M_init_159 ⟨by rw [hR]; exact (show (0 + 1 + 1 + 1 + 1 + 1 + 1 + 1 + 1 + 1 + 1 + 1 + 1) + 0 ≤ 50000 by omega), by rw [hR]; exact (show (0 + 8 + 512 + 512 + 512 + 600 + 600 + 9000 + 9000 + 6000 + 512 + 512 + 20000) + 0 ≤ 50000 by omega)⟩) hP hD hS hA [0, 1, 2, 3] [4, 5, 6, 7, 8, 9, 10, 11, 12] rfl rfl (by decide +kernel) (by decide +kernel) (fun u9 _ _ hw_159 _ _ _ => ?_)
      clear hP hD hS
      rename_i H locs hP hD hS
      obtain ⟨fItemsq_159, fEndedq_159, fLowq_159, fRangeq_159, fCacheq_159, fPendq_159, fGoesq_159, vNowq_159⟩ := u9
      obtain ⟨hT_159, hs1_159, hs2_159, hs3_159, hs4_159, hs5_159, hs6_159, hs7_159⟩ : TB fm9 0 (fun _ => 2) vNowq_159 ∧ fItemsq_159 = 0 ∧ fEndedq_159 = 0 ∧ fLowq_159 = 0 ∧ fRangeq_159 = 4294967295 ∧ fCacheq_159 = -1 ∧ fPendq_159 = 0 ∧ fGoesq_159 = 0 := hw_159
      have hPD : my_PD (dC, dI) vwCl A [((g9 3), Sum.inl (cI, 512, Sum.inl (fun _ => 0))), ((g9 4), Sum.inl (cI, 600, Sum.inl (fun _ => 0))), ((g9 5), Sum.inl (cI, 600, Sum.inl (fun _ => 0))), ((g9 6), Sum.inl (cI, 9000, Sum.inl (fun _ => 0))), ((g9 7), Sum.inl (cI, 9000, Sum.inl (fun _ => 0))), ((g9 8), Sum.inl (cI, 6000, Sum.inl (fun _ => 0))), ((g9 9), Sum.inl (cI, 512, Sum.inl (fun _ => 0))), ((g9 10), Sum.inl (cI, 512, Sum.inl (fun _ => 0))), ((g9 11), Sum.inl (cI, 20000, Sum.inl (fun _ => 0))), (o, Sum.inr (9, mO g9 fF fS 0 fItemsq_159 fEndedq_159 fLowq_159 fRangeq_159 fCacheq_159 fPendq_159 fGoesq_159 0 0 0 0 0 0 0 0 0 0 0 0 0)), ((g9 0), Sum.inl (cI, 8, Sum.inl (fun _ => 0))), ((g9 1), Sum.inl (cI, 512, Sum.inl (fun _ => 0))), ((g9 2), Sum.inl (cI, 512, Sum.inl vNowq_159))] H := ⟨hP, hD⟩
      clear hP hD
      have hP := hPD.1
      have hD := hPD.2
      clear hPD
      subst hs1_159
      subst hs2_159
      subst hs3_159
      subst hs4_159
      subst hs5_159
      subst hs6_159
      subst hs7_159
      have hPD : my_PD (dC, dI) vwCl A [((g9 3), Sum.inl (cI, 512, Sum.inl (fun _ => 0))), ((g9 4), Sum.inl (cI, 600, Sum.inl (fun _ => 0))), ((g9 5), Sum.inl (cI, 600, Sum.inl (fun _ => 0))), ((g9 6), Sum.inl (cI, 9000, Sum.inl (fun _ => 0))), ((g9 7), Sum.inl (cI, 9000, Sum.inl (fun _ => 0))), ((g9 8), Sum.inl (cI, 6000, Sum.inl (fun _ => 0))), ((g9 9), Sum.inl (cI, 512, Sum.inl (fun _ => 0))), ((g9 10), Sum.inl (cI, 512, Sum.inl (fun _ => 0))), ((g9 11), Sum.inl (cI, 20000, Sum.inl (fun _ => 0))), (o, Sum.inr (9, mO g9 fF fS 0 0 0 0 4294967295 (-1) 0 0 0 0 0 0 0 0 0 0 0 0 0 0 0)), ((g9 0), Sum.inl (cI, 8, Sum.inl (fun _ => 0))), ((g9 1), Sum.inl (cI, 512, Sum.inl (fun _ => 0))), ((g9 2), Sum.inl (cI, 512, Sum.inl vNowq_159))] H := ⟨hP, hD⟩
      clear hP hD
      have hP := hPD.1
      have hD := hPD.2
      clear hPD
      exact my_vretg hx hb hr hlocks hQ hK hS (g9, fF, fS, vNowq_159) (show (0 + 1 + 1 + 1 + 1 + 1 + 1 + 1 + 1 + 1 + 1 + 1 + 1) + 0 ≤ 50000 by omega) (show (0 + 8 + 512 + 512 + 512 + 600 + 600 + 9000 + 9000 + 6000 + 512 + 512 + 20000) + 0 ≤ 50000 by omega) (⟨hF9, hS9⟩) (hP.sub [9, 10, 11, 12, 0, 1, 2, 3, 4, 5, 6, 7, 8] rfl) (hD.sub [9, 10, 11, 12, 0, 1, 2, 3, 4, 5, 6, 7, 8] (by decide +kernel) rfl) d_M_init_162
    refine lv_aload_n hx hb d_M_init_133 rfl (lv_at hl 0 rfl) ?_
    refine lv_iload_n hx hb d_M_init_134 rfl (lv_at hl 2 rfl) ?_
    refine lv_iconst (v := 1) hx hb d_M_init_135 (by decide) ?_
    refine lv_icmp_ge (tgt := 143) hx hb d_M_init_136 (by decide) (fun c_13 => ?_) (fun c_13 => ?_)
    · refine lv_iload_n hx hb d_M_init_143 rfl (lv_at hl 2 rfl) ?_
      refine lv_bipush (v := 10) hx hb d_M_init_144 (by decide) ?_
      refine lv_icmp_le (tgt := 154) hx hb d_M_init_146 (by decide) (fun c_14 => ?_) (fun c_14 => ?_)
      · refine lv_iload_n hx hb d_M_init_154 rfl (lv_at hl 2 rfl) ?_
        refine va_putF (D := (dC, dI)) (ci := 9) (v := .int p2) (ty := .int) (C := "RangeCodersModel") (T := T_M) (N := 35) hx hb hg in_M t_M o_M n_M hown hK hP hD hS 0 rfl rfl 1 (by decide) (hg _ k953) (fun _ h9 => h9) rfl (by rw [hnm]; rfl) rfl (o_M 1 (by decide)) rfl rfl (Nat.le_of_ble_eq_true rfl) d_M_init_155 (fun _ _ _ _ _ => ?_)
        clear hP hD hS
        rename_i H locs hP hD hS
        have hPD : my_PD (dC, dI) vwCl A [(o, Sum.inr (9, [Value.int fF, Value.int p2, Value.int 0, Value.ref q_1, Value.ref q_2, Value.ref q_3, Value.ref q_4, Value.int 0, Value.ref q_5, Value.ref q_6, Value.int 0, Value.long 0, Value.long 0, Value.int 0, Value.int 0, Value.ref q_7, Value.int 0, Value.ref q_8, Value.int 0, Value.ref q_9, Value.int 0, Value.int 0, Value.int 0, Value.int 0, Value.int 0, Value.int 0, Value.long 0, Value.long 0, Value.long 0, Value.long 0, Value.ref q_10, Value.ref q_11, Value.ref q_12, Value.int 0, Value.int 0])), (q_1, Sum.inl (cI, 8, Sum.inl (fun _ => 0))), (q_2, Sum.inl (cI, 512, Sum.inl (fun _ => 0))), (q_3, Sum.inl (cI, 512, Sum.inl (fun _ => 0))), (q_4, Sum.inl (cI, 512, Sum.inl (fun _ => 0))), (q_5, Sum.inl (cI, 600, Sum.inl (fun _ => 0))), (q_6, Sum.inl (cI, 600, Sum.inl (fun _ => 0))), (q_7, Sum.inl (cI, 9000, Sum.inl (fun _ => 0))), (q_8, Sum.inl (cI, 9000, Sum.inl (fun _ => 0))), (q_9, Sum.inl (cI, 6000, Sum.inl (fun _ => 0))), (q_10, Sum.inl (cI, 512, Sum.inl (fun _ => 0))), (q_11, Sum.inl (cI, 512, Sum.inl (fun _ => 0))), (q_12, Sum.inl (cI, 20000, Sum.inl (fun _ => 0)))] H := ⟨hP, hD⟩
        clear hP hD
        have hP := hPD.1
        have hD := hPD.2
        clear hPD
        exact J_158 p2 (by rw [near_mid c_13 c_14]) H locs ls (hP.sub [0, 1, 2, 3, 4, 5, 6, 7, 8, 9, 10, 11, 12] rfl) (hD.sub [0, 1, 2, 3, 4, 5, 6, 7, 8, 9, 10, 11, 12] (by decide +kernel) rfl) hS (lv_sub hl [0, 1, 2] rfl)
      · refine lv_bipush (v := 10) hx hb d_M_init_149 (by decide) ?_
        refine lv_goto (tgt := 155) hx hb d_M_init_151 (by decide) ?_
        refine va_putF (D := (dC, dI)) (ci := 9) (v := .int 10) (ty := .int) (C := "RangeCodersModel") (T := T_M) (N := 35) hx hb hg in_M t_M o_M n_M hown hK hP hD hS 0 rfl rfl 1 (by decide) (hg _ k953) (fun _ h9 => h9) rfl (by rw [hnm]; rfl) rfl (o_M 1 (by decide)) rfl rfl (Nat.le_of_ble_eq_true rfl) d_M_init_155 (fun _ _ _ _ _ => ?_)
        clear hP hD hS
        rename_i H locs hP hD hS
        have hPD : my_PD (dC, dI) vwCl A [(o, Sum.inr (9, [Value.int fF, Value.int 10, Value.int 0, Value.ref q_1, Value.ref q_2, Value.ref q_3, Value.ref q_4, Value.int 0, Value.ref q_5, Value.ref q_6, Value.int 0, Value.long 0, Value.long 0, Value.int 0, Value.int 0, Value.ref q_7, Value.int 0, Value.ref q_8, Value.int 0, Value.ref q_9, Value.int 0, Value.int 0, Value.int 0, Value.int 0, Value.int 0, Value.int 0, Value.long 0, Value.long 0, Value.long 0, Value.long 0, Value.ref q_10, Value.ref q_11, Value.ref q_12, Value.int 0, Value.int 0])), (q_1, Sum.inl (cI, 8, Sum.inl (fun _ => 0))), (q_2, Sum.inl (cI, 512, Sum.inl (fun _ => 0))), (q_3, Sum.inl (cI, 512, Sum.inl (fun _ => 0))), (q_4, Sum.inl (cI, 512, Sum.inl (fun _ => 0))), (q_5, Sum.inl (cI, 600, Sum.inl (fun _ => 0))), (q_6, Sum.inl (cI, 600, Sum.inl (fun _ => 0))), (q_7, Sum.inl (cI, 9000, Sum.inl (fun _ => 0))), (q_8, Sum.inl (cI, 9000, Sum.inl (fun _ => 0))), (q_9, Sum.inl (cI, 6000, Sum.inl (fun _ => 0))), (q_10, Sum.inl (cI, 512, Sum.inl (fun _ => 0))), (q_11, Sum.inl (cI, 512, Sum.inl (fun _ => 0))), (q_12, Sum.inl (cI, 20000, Sum.inl (fun _ => 0)))] H := ⟨hP, hD⟩
        clear hP hD
        have hP := hPD.1
        have hD := hPD.2
        clear hPD
        exact J_158 (10 : Int32) (by rw [near_hi c_14 (by decide)]) H locs ls (hP.sub [0, 1, 2, 3, 4, 5, 6, 7, 8, 9, 10, 11, 12] rfl) (hD.sub [0, 1, 2, 3, 4, 5, 6, 7, 8, 9, 10, 11, 12] (by decide +kernel) rfl) hS (lv_sub hl [0, 1, 2] rfl)
    · refine lv_iconst (v := 1) hx hb d_M_init_139 (by decide) ?_
      refine lv_goto (tgt := 155) hx hb d_M_init_140 (by decide) ?_
      refine va_putF (D := (dC, dI)) (ci := 9) (v := .int 1) (ty := .int) (C := "RangeCodersModel") (T := T_M) (N := 35) hx hb hg in_M t_M o_M n_M hown hK hP hD hS 0 rfl rfl 1 (by decide) (hg _ k953) (fun _ h9 => h9) rfl (by rw [hnm]; rfl) rfl (o_M 1 (by decide)) rfl rfl (Nat.le_of_ble_eq_true rfl) d_M_init_155 (fun _ _ _ _ _ => ?_)
      clear hP hD hS
      rename_i H locs hP hD hS
      have hPD : my_PD (dC, dI) vwCl A [(o, Sum.inr (9, [Value.int fF, Value.int 1, Value.int 0, Value.ref q_1, Value.ref q_2, Value.ref q_3, Value.ref q_4, Value.int 0, Value.ref q_5, Value.ref q_6, Value.int 0, Value.long 0, Value.long 0, Value.int 0, Value.int 0, Value.ref q_7, Value.int 0, Value.ref q_8, Value.int 0, Value.ref q_9, Value.int 0, Value.int 0, Value.int 0, Value.int 0, Value.int 0, Value.int 0, Value.long 0, Value.long 0, Value.long 0, Value.long 0, Value.ref q_10, Value.ref q_11, Value.ref q_12, Value.int 0, Value.int 0])), (q_1, Sum.inl (cI, 8, Sum.inl (fun _ => 0))), (q_2, Sum.inl (cI, 512, Sum.inl (fun _ => 0))), (q_3, Sum.inl (cI, 512, Sum.inl (fun _ => 0))), (q_4, Sum.inl (cI, 512, Sum.inl (fun _ => 0))), (q_5, Sum.inl (cI, 600, Sum.inl (fun _ => 0))), (q_6, Sum.inl (cI, 600, Sum.inl (fun _ => 0))), (q_7, Sum.inl (cI, 9000, Sum.inl (fun _ => 0))), (q_8, Sum.inl (cI, 9000, Sum.inl (fun _ => 0))), (q_9, Sum.inl (cI, 6000, Sum.inl (fun _ => 0))), (q_10, Sum.inl (cI, 512, Sum.inl (fun _ => 0))), (q_11, Sum.inl (cI, 512, Sum.inl (fun _ => 0))), (q_12, Sum.inl (cI, 20000, Sum.inl (fun _ => 0)))] H := ⟨hP, hD⟩
      clear hP hD
      have hP := hPD.1
      have hD := hPD.2
      clear hPD
      exact J_158 (1 : Int32) (by rw [near_lo c_13 (by decide)]) H locs ls (hP.sub [0, 1, 2, 3, 4, 5, 6, 7, 8, 9, 10, 11, 12] rfl) (hD.sub [0, 1, 2, 3, 4, 5, 6, 7, 8, 9, 10, 11, 12] (by decide +kernel) rfl) hS (lv_sub hl [0, 1, 2] rfl)
  refine lv_aload_n hx hb d_M_init_111 rfl (lv_at hl 0 rfl) ?_
  refine lv_iload_n hx hb d_M_init_112 rfl (lv_at hl 1 rfl) ?_
  refine lv_if_ge (tgt := 120) hx hb d_M_init_113 (by decide) (fun c_15 => ?_) (fun c_15 => ?_)
  · refine lv_iload_n hx hb d_M_init_120 rfl (lv_at hl 1 rfl) ?_
    refine lv_iconst (v := 4) hx hb d_M_init_121 (by decide) ?_
    refine lv_icmp_le (tgt := 129) hx hb d_M_init_122 (by decide) (fun c_16 => ?_) (fun c_16 => ?_)
    · refine lv_iload_n hx hb d_M_init_129 rfl (lv_at hl 1 rfl) ?_
      refine va_putF (D := (dC, dI)) (ci := 9) (v := .int p1) (ty := .int) (C := "RangeCodersModel") (T := T_M) (N := 35) hx hb hg in_M t_M o_M n_M hown hK hP hD hS 0 rfl rfl 0 (by decide) (hg _ k952) (fun _ h9 => h9) rfl (by rw [hnm]; rfl) rfl (o_M 0 (by decide)) rfl rfl (Nat.le_of_ble_eq_true rfl) d_M_init_130 (fun _ _ _ _ _ => ?_)
      clear hP hD hS
      rename_i H locs hP hD hS
      have hPD : my_PD (dC, dI) vwCl A [(o, Sum.inr (9, [Value.int p1, Value.int 0, Value.int 0, Value.ref q_1, Value.ref q_2, Value.ref q_3, Value.ref q_4, Value.int 0, Value.ref q_5, Value.ref q_6, Value.int 0, Value.long 0, Value.long 0, Value.int 0, Value.int 0, Value.ref q_7, Value.int 0, Value.ref q_8, Value.int 0, Value.ref q_9, Value.int 0, Value.int 0, Value.int 0, Value.int 0, Value.int 0, Value.int 0, Value.long 0, Value.long 0, Value.long 0, Value.long 0, Value.ref q_10, Value.ref q_11, Value.ref q_12, Value.int 0, Value.int 0])), (q_1, Sum.inl (cI, 8, Sum.inl (fun _ => 0))), (q_2, Sum.inl (cI, 512, Sum.inl (fun _ => 0))), (q_3, Sum.inl (cI, 512, Sum.inl (fun _ => 0))), (q_4, Sum.inl (cI, 512, Sum.inl (fun _ => 0))), (q_5, Sum.inl (cI, 600, Sum.inl (fun _ => 0))), (q_6, Sum.inl (cI, 600, Sum.inl (fun _ => 0))), (q_7, Sum.inl (cI, 9000, Sum.inl (fun _ => 0))), (q_8, Sum.inl (cI, 9000, Sum.inl (fun _ => 0))), (q_9, Sum.inl (cI, 6000, Sum.inl (fun _ => 0))), (q_10, Sum.inl (cI, 512, Sum.inl (fun _ => 0))), (q_11, Sum.inl (cI, 512, Sum.inl (fun _ => 0))), (q_12, Sum.inl (cI, 20000, Sum.inl (fun _ => 0)))] H := ⟨hP, hD⟩
      clear hP hD
      have hP := hPD.1
      have hD := hPD.2
      clear hPD
      exact J_133 p1 (by rw [near_mid c_15 c_16]) H locs ls (hP.sub [0, 1, 2, 3, 4, 5, 6, 7, 8, 9, 10, 11, 12] rfl) (hD.sub [0, 1, 2, 3, 4, 5, 6, 7, 8, 9, 10, 11, 12] (by decide +kernel) rfl) hS (lv_sub hl [0, 1, 2] rfl)
    · refine lv_iconst (v := 4) hx hb d_M_init_125 (by decide) ?_
      refine lv_goto (tgt := 130) hx hb d_M_init_126 (by decide) ?_
      refine va_putF (D := (dC, dI)) (ci := 9) (v := .int 4) (ty := .int) (C := "RangeCodersModel") (T := T_M) (N := 35) hx hb hg in_M t_M o_M n_M hown hK hP hD hS 0 rfl rfl 0 (by decide) (hg _ k952) (fun _ h9 => h9) rfl (by rw [hnm]; rfl) rfl (o_M 0 (by decide)) rfl rfl (Nat.le_of_ble_eq_true rfl) d_M_init_130 (fun _ _ _ _ _ => ?_)
      clear hP hD hS
      rename_i H locs hP hD hS
      have hPD : my_PD (dC, dI) vwCl A [(o, Sum.inr (9, [Value.int 4, Value.int 0, Value.int 0, Value.ref q_1, Value.ref q_2, Value.ref q_3, Value.ref q_4, Value.int 0, Value.ref q_5, Value.ref q_6, Value.int 0, Value.long 0, Value.long 0, Value.int 0, Value.int 0, Value.ref q_7, Value.int 0, Value.ref q_8, Value.int 0, Value.ref q_9, Value.int 0, Value.int 0, Value.int 0, Value.int 0, Value.int 0, Value.int 0, Value.long 0, Value.long 0, Value.long 0, Value.long 0, Value.ref q_10, Value.ref q_11, Value.ref q_12, Value.int 0, Value.int 0])), (q_1, Sum.inl (cI, 8, Sum.inl (fun _ => 0))), (q_2, Sum.inl (cI, 512, Sum.inl (fun _ => 0))), (q_3, Sum.inl (cI, 512, Sum.inl (fun _ => 0))), (q_4, Sum.inl (cI, 512, Sum.inl (fun _ => 0))), (q_5, Sum.inl (cI, 600, Sum.inl (fun _ => 0))), (q_6, Sum.inl (cI, 600, Sum.inl (fun _ => 0))), (q_7, Sum.inl (cI, 9000, Sum.inl (fun _ => 0))), (q_8, Sum.inl (cI, 9000, Sum.inl (fun _ => 0))), (q_9, Sum.inl (cI, 6000, Sum.inl (fun _ => 0))), (q_10, Sum.inl (cI, 512, Sum.inl (fun _ => 0))), (q_11, Sum.inl (cI, 512, Sum.inl (fun _ => 0))), (q_12, Sum.inl (cI, 20000, Sum.inl (fun _ => 0)))] H := ⟨hP, hD⟩
      clear hP hD
      have hP := hPD.1
      have hD := hPD.2
      clear hPD
      exact J_133 (4 : Int32) (by rw [near_hi c_16 (by decide)]) H locs ls (hP.sub [0, 1, 2, 3, 4, 5, 6, 7, 8, 9, 10, 11, 12] rfl) (hD.sub [0, 1, 2, 3, 4, 5, 6, 7, 8, 9, 10, 11, 12] (by decide +kernel) rfl) hS (lv_sub hl [0, 1, 2] rfl)
  · refine lv_iconst (v := 0) hx hb d_M_init_116 (by decide) ?_
    refine lv_goto (tgt := 130) hx hb d_M_init_117 (by decide) ?_
    refine va_putF (D := (dC, dI)) (ci := 9) (v := .int 0) (ty := .int) (C := "RangeCodersModel") (T := T_M) (N := 35) hx hb hg in_M t_M o_M n_M hown hK hP hD hS 0 rfl rfl 0 (by decide) (hg _ k952) (fun _ h9 => h9) rfl (by rw [hnm]; rfl) rfl (o_M 0 (by decide)) rfl rfl (Nat.le_of_ble_eq_true rfl) d_M_init_130 (fun _ _ _ _ _ => ?_)
    clear hP hD hS
    rename_i H locs hP hD hS
    have hPD : my_PD (dC, dI) vwCl A [(o, Sum.inr (9, [Value.int 0, Value.int 0, Value.int 0, Value.ref q_1, Value.ref q_2, Value.ref q_3, Value.ref q_4, Value.int 0, Value.ref q_5, Value.ref q_6, Value.int 0, Value.long 0, Value.long 0, Value.int 0, Value.int 0, Value.ref q_7, Value.int 0, Value.ref q_8, Value.int 0, Value.ref q_9, Value.int 0, Value.int 0, Value.int 0, Value.int 0, Value.int 0, Value.int 0, Value.long 0, Value.long 0, Value.long 0, Value.long 0, Value.ref q_10, Value.ref q_11, Value.ref q_12, Value.int 0, Value.int 0])), (q_1, Sum.inl (cI, 8, Sum.inl (fun _ => 0))), (q_2, Sum.inl (cI, 512, Sum.inl (fun _ => 0))), (q_3, Sum.inl (cI, 512, Sum.inl (fun _ => 0))), (q_4, Sum.inl (cI, 512, Sum.inl (fun _ => 0))), (q_5, Sum.inl (cI, 600, Sum.inl (fun _ => 0))), (q_6, Sum.inl (cI, 600, Sum.inl (fun _ => 0))), (q_7, Sum.inl (cI, 9000, Sum.inl (fun _ => 0))), (q_8, Sum.inl (cI, 9000, Sum.inl (fun _ => 0))), (q_9, Sum.inl (cI, 6000, Sum.inl (fun _ => 0))), (q_10, Sum.inl (cI, 512, Sum.inl (fun _ => 0))), (q_11, Sum.inl (cI, 512, Sum.inl (fun _ => 0))), (q_12, Sum.inl (cI, 20000, Sum.inl (fun _ => 0)))] H := ⟨hP, hD⟩
    clear hP hD
    have hP := hPD.1
    have hD := hPD.2
    clear hPD
    exact J_133 (0 : Int32) (by rw [near_lo c_15 (by decide)]) H locs ls (hP.sub [0, 1, 2, 3, 4, 5, 6, 7, 8, 9, 10, 11, 12] rfl) (hD.sub [0, 1, 2, 3, 4, 5, 6, 7, 8, 9, 10, 11, 12] (by decide +kernel) rfl) hS (lv_sub hl [0, 1, 2] rfl)
end
section
/-! PURE WORDS for the class's own tables and rows -/
def tbI (f : Nat → Int32) (n : Nat) (G : Nat → Nat) : Prop := ∀ k, k < n → f k = nI (G k)
def tbL (fL : Nat → Int32) (n j : Nat) (G F : Nat → Nat) : Prop := tbI fL j G ∧ ∀ k, j ≤ k → k < n → fL k = nI (F k)
theorem tbI_0 (f : Nat → Int32) (G : Nat → Nat) : tbI f 0 G := fun k hk => absurd hk (Nat.not_lt_zero k)
theorem tbL_0 {f : Nat → Int32} {n : Nat} {G F : Nat → Nat} (h : tbI f n F) : tbL f n 0 G F := ⟨tbI_0 _ _, fun k _ hk => h k hk⟩
theorem tbL_st {fL : Nat → Int32} {n j i : Nat} {G F : Nat → Nat} {x : Int32} (h : tbL fL n j G F) (hi : i = j) (hx : x = nI (G j)) : tbL (upd fL i x) n (j + 1) G F := by
  subst hi
  refine ⟨fun k hk => ?_, fun k hk hk2 => ?_⟩
  · by_cases e : k = i
    · subst e; rw [pk_us, hx]
    · rw [pk_un e]; exact h.1 k (by omega)
  · rw [pk_un (by omega)]; exact h.2 k (by omega) hk2
theorem tb_up {f : Nat → Int32} {n j i : Nat} {F : Nat → Nat} {x : Int32} {v : Nat} (h : tbI f n F) (hi : i = j) (hx : x = nI v) : tbI (upd f i x) n (upN F j v) := by
  subst hi
  intro k hk
  by_cases e : k = i
  · subst e; rw [pk_us, upN_s, hx]
  · rw [pk_un e, upN_n _ e]; exact h k hk
theorem tb_add {f : Nat → Int32} {j i : Nat} {G : Nat → Nat} {x : Int32} (h : tbI f j G) (hi : i = j) (hx : x = nI (G j)) : tbI (upd f i x) (j + 1) G := by
  subst hi
  intro k hk
  by_cases e : k = i
  · subst e; rw [pk_us, hx]
  · rw [pk_un e]; exact h k (by omega)
theorem tb_rd {f : Nat → Int32} {n j : Nat} {F : Nat → Nat} (h : tbI f n F) (hj : j < n) (hb : j < 2 ^ 31) : f (nI j).toNatClampNeg = nI (F j) := by rw [nI_clamp hb]; exact h j hj
theorem tb_rd2 {f : Nat → Int32} {n j : Nat} {G F : Nat → Nat} (h : tbL f n j G F) (hj : j < n) (hb : j < 2 ^ 31) : f (nI j).toNatClampNeg = nI (F j) := by rw [nI_clamp hb]; exact h.2 j (Nat.le_refl _) hj
theorem nI_lt' {j n : Nat} (hj : j < 2 ^ 31) (h : ¬ nI n ≤ nI j) : j < n := by
  rcases Nat.lt_or_ge j n with q | q
  · exact q
  · exact absurd (nI_le q hj) h
theorem nI_ge' {j n : Nat} (hj : j < 2 ^ 31) (hn : n < 2 ^ 31) (h : nI n ≤ nI j) : n ≤ j := (nI_cmp hn hj).mp h
/-- a row's list and its size -/
theorem rOk_nI {n cap : Nat} (h : rOk (nI n) cap) (hn : n < 2 ^ 31) : n ≤ cap := by
  have := h.2.1
  rw [nI_toInt hn] at this
  omega
theorem rOk_of {n cap : Nat} (hn : n ≤ cap) (h1 : 1 ≤ cap) (h2 : cap ≤ 16384) : rOk (nI n) cap := by
  refine ⟨?_, ?_, h1, h2⟩
  · rw [nI_toInt (by omega)]; omega
  · rw [nI_toInt (by omega)]; omega
theorem gIs_cpy {f g : Nat → Int32} {bs : List Nat} {n : Nat} (h : gIs f bs) (hn : bs.length ≤ n) : gIs (va_cpy f g 0 0 n) bs := by
  intro i hi
  rw [← h i hi]
  unfold va_cpy
  rw [if_pos ⟨Nat.zero_le _, by omega⟩]
  congr 1
  omega
/-- what a row answers at i -/
def rAt (bs : List Nat) (i : Int32) : Int32 := if 0 ≤ i ∧ i < nI bs.length then nI (bs.getD i.toNatClampNeg 0) else -1
theorem has_lt {n k : Nat} {i : Int32} (hn : n ≤ k) (hk : k < 2 ^ 31) (h0 : ¬ i < 0) (h1 : ¬ nI n ≤ i) : ¬ nI k ≤ i := by
  intro h
  apply h1
  rw [Int32.le_iff_toInt_le, nI_toInt (by omega)] at h ⊢
  omega
theorem has_1 {n : Nat} {i : Int32} (h0 : ¬ i < 0) (h1 : ¬ nI n ≤ i) : (1 : Int32) = if 0 ≤ i ∧ i < nI n then 1 else 0 := by rw [if_pos ⟨Int32.not_lt.mp h0, Int32.not_le.mp h1⟩]
theorem has_0a {n : Nat} {i : Int32} (h0 : i < 0) : (0 : Int32) = if 0 ≤ i ∧ i < nI n then 1 else 0 := by rw [if_neg (fun h => absurd h0 (Int32.not_lt.mpr h.1))]
theorem has_0b {n : Nat} {i : Int32} (h1 : nI n ≤ i) : (0 : Int32) = if 0 ≤ i ∧ i < nI n then 1 else 0 := by rw [if_neg (fun h => absurd h.2 (Int32.not_lt.mpr h1))]
theorem has_in {n i : Nat} (h : i < n) (hn : n < 2 ^ 31) : 0 ≤ nI i ∧ nI i < nI n := ⟨Int32.not_lt.mp (nI_pos (by omega)), Int32.not_le.mp (nI_ge h hn)⟩
theorem rAt_0 {bs : List Nat} {i : Int32} (h : ¬ (0 ≤ i ∧ i < nI bs.length)) : (-1 : Int32) = rAt bs i := by unfold rAt; rw [if_neg h]
theorem rAt_1 {bs : List Nat} {i v : Int32} {f : Nat → Int32} (hb : bs.length < 2 ^ 31) (hG : gIs f bs) (h : 0 ≤ i ∧ i < nI bs.length) (e : v = f i.toNatClampNeg) : v = rAt bs i := by
  unfold rAt
  rw [if_pos h, e]
  refine hG _ ?_
  obtain ⟨h0, h1⟩ := h
  obtain ⟨j, hj, rfl⟩ := nI_of (Int32.not_lt.mpr h0)
  rw [nI_clamp hj]
  rw [Int32.lt_iff_toInt_lt, nI_toInt hj, nI_toInt hb] at h1
  omega
theorem gIs_setN {f : Nat → Int32} {bs : List Nat} {i k x : Nat} (h : gIs f bs) (hk : k = i) : gIs (upd f k (nI x)) (bs.set i x) := by
  subst hk
  intro j hj
  rw [List.length_set] at hj
  by_cases e : j = k
  · subst e
    rw [pk_us]
    simp [List.getD_eq_getElem?_getD, hj]
  · rw [pk_un e, h j hj]
    simp [List.getD_eq_getElem?_getD, List.getElem?_set_ne (Ne.symm e)]
theorem sub_toInt {a b : Nat} (ha : a < 2 ^ 30) (hb : b < 2 ^ 30) : (nI a - nI b).toInt = (a : Int) - b := by
  rw [Int32.toInt_sub, nI_toInt (by omega), nI_toInt (by omega)]
  apply Int.bmod_eq_of_le <;> omega
theorem not_le0 {x : Int32} (h : ¬ x ≤ 0) : 0 < x.toInt := by
  rw [Int32.le_iff_toInt_le] at h
  have e0 : (0 : Int32).toInt = 0 := rfl
  omega
theorem le_0 {x : Int32} (h : x ≤ 0) : x.toInt ≤ 0 := by
  rw [Int32.le_iff_toInt_le] at h
  have e0 : (0 : Int32).toInt = 0 := rfl
  omega
theorem nI_pos0 {n : Nat} (h : 0 < n) (hn : n < 2 ^ 31) : (0 : Int32) < nI n := by
  rw [Int32.lt_iff_toInt_lt, nI_toInt hn]
  have e0 : (0 : Int32).toInt = 0 := rfl
  omega
/-- the greater of 1 and n -/
theorem max1 {n : Nat} (hn : n < 2 ^ 31) : (if (1 : Int32) < nI n then nI n else 1) = nI (if n < 1 then 1 else n) := by
  have e1 : (1 : Int32).toInt = 1 := rfl
  by_cases h : n < 1
  · rw [if_pos h, if_neg (by rw [Int32.lt_iff_toInt_lt, nI_toInt hn, e1]; omega)]; rfl
  · rw [if_neg h]
    by_cases h2 : n = 1
    · subst h2; rfl
    · rw [if_pos (by rw [Int32.lt_iff_toInt_lt, nI_toInt hn, e1]; omega)]
theorem nI_m1 {n : Nat} (h : 0 < n) : nI n + (-1) = nI (n - 1) := by
  rw [← nI_pred9 h]
  exact (Int32.sub_eq_add_neg (a := nI n) (b := 1)).symm
/-- so many SHIFTS -/
def shK : Nat → ES → ES
  | 0, e => e
  | k + 1, e => shK k (shS e)
/-- so many bytes of LOW -/
def tpK : Nat → Nat × List Nat → Nat × List Nat
  | 0, e => e
  | k + 1, e => tpK k (mvL e.1, e.2 ++ [e.1 / 16777216 % 256])
/-! shifts that don't keep the sign -/
theorem U_shr24 {n : Nat} (h : n < 2 ^ 64) : ((lN n).toUInt64 >>> ((24 : Int32).toInt64.toUInt64 &&& Int64.toUInt64 63)).toInt64 = lN (n / 16777216) := wb_shr (k := 24) h (by decide)
theorem U_shr32 {n : Nat} (h : n < 2 ^ 64) : ((lN n).toUInt64 >>> ((32 : Int32).toInt64.toUInt64 &&& Int64.toUInt64 63)).toInt64 = lN (n / 4294967296) := wb_shr (k := 32) h (by decide)
theorem U_shr11 {n : Nat} (h : n < 2 ^ 64) : ((lN n).toUInt64 >>> ((11 : Int32).toInt64.toUInt64 &&& Int64.toUInt64 63)).toInt64 = lN (n / 2048) := wb_shr (k := 11) h (by decide)
theorem U_shr8 {n : Nat} (h : n < 2 ^ 64) : ((lN n).toUInt64 >>> ((8 : Int32).toInt64.toUInt64 &&& Int64.toUInt64 63)).toInt64 = lN (n / 256) := wb_shr (k := 8) h (by decide)
theorem U_shr1 {n : Nat} (h : n < 2 ^ 64) : ((lN n).toUInt64 >>> ((1 : Int32).toInt64.toUInt64 &&& Int64.toUInt64 63)).toInt64 = lN (n / 2) := wb_shr (k := 1) h (by decide)
theorem nx_cnt : ∀ j : Fin 32, (UInt32.ofNat j.val &&& Int32.toUInt32 31).toNat % 32 = j.val := by decide +kernel
theorem I_ushr {k j : Nat} (hk : k < 65536) (hj : j < 32) : ((nI k).toUInt32 >>> ((nI j).toUInt32 &&& Int32.toUInt32 31)).toInt32 = nI (k / 2 ^ j) := by
  rw [← Nat.shiftRight_eq_div_pow]
  have hs : k >>> j ≤ k := by
    rw [Nat.shiftRight_eq_div_pow]
    exact Nat.div_le_self _ _
  have e2 : UInt32.ofNat k >>> (UInt32.ofNat j &&& Int32.toUInt32 31) = UInt32.ofNat (k >>> j) := by
    apply UInt32.toNat_inj.1
    have h1 : (UInt32.ofNat k).toNat = k := Nat.mod_eq_of_lt (by omega)
    have h2 : (UInt32.ofNat (k >>> j)).toNat = k >>> j := Nat.mod_eq_of_lt (by omega)
    rw [UInt32.toNat_shiftRight, nx_cnt ⟨j, hj⟩, h1, h2]
  show (UInt32.ofNat k >>> (UInt32.ofNat j &&& Int32.toUInt32 31)).toInt32 = _
  rw [e2]
  rfl
theorem rv_drop {W : List Nat} {j : Nat} (h0 : 1 ≤ j) (h : j ≤ W.length) : (W.drop j).reverse ++ [W.getD (j - 1) 0] = (W.drop (j - 1)).reverse := by
  obtain ⟨q, rfl⟩ : ∃ q, j = q + 1 := ⟨j - 1, by omega⟩
  have hq : q < W.length := by omega
  rw [Nat.add_sub_cancel, List.drop_eq_getElem_cons hq, List.reverse_cons, List.getD_eq_getElem?_getD, List.getElem?_eq_getElem hq]
  rfl
theorem rAt_nI {bs : List Nat} {i : Nat} (h : i < bs.length) (hb : bs.length < 2 ^ 31) : rAt bs (nI i) = nI (bs.getD i 0) := by
  unfold rAt
  rw [if_pos (has_in h hb), nI_clamp (by omega)]
end
section
set_option maxHeartbeats 2000000 in
set_option maxRecDepth 100000 in
theorem f_Arrays_fill (l : Launch) (dC : Nat → ClassId) (dI : Nat → Nat → Nat) (cI cM cO : ClassId) (sz : Nat) (aa : Nat) (al : Nat) (af : Nat → Int32) (vn : Nat) (hal : al ≤ 16384) : MetV l y_Arrays_fill (Cond.code y_Arrays_fill prog_18_method_103_code 4 none :: gw) ({ frames := 0, cells := 0, slots := 0, locals := 0 } : Room) (dC, dI) vwCl (kT cI cM cO) [Value.ref aa, Value.int (nI vn)] [(aa, Sum.inl (cI, al, Sum.inl af))] sz (fun (u : (Nat → Int32)) => tbI u al (fun _ => vn)) (fun (u : (Nat → Int32)) => [(aa, Sum.inl (cI, al, Sum.inl u))]) 0 0 := by
  refine my_ofV (cc := prog_18_method_103_code) (n := 4) (ret := none) (by decide) rfl (Nat.le_of_ble_eq_true rfl) ?_
  intro p e s m args below meth c R Q A ls H locs hx hb hr hts hown hlocks hml hnm hR hQ hA hl hP hK hN hD hS
  have hg : ∀ w ∈ gw, w.before args s = true := fun w h => hts w (List.mem_cons_of_mem _ h)
  have hown : s.vm.findClass "java/util/Arrays" = some m.cls := hown
  have hl : lv_has ls 4 [(0, Value.ref aa), (1, Value.int (nI vn))] := hl
  refine lv_iconst (v := 0) hx hb d_Arrays_fill_0 (by decide) ?_
  refine lv_istore_n (lv' := [(2, Value.int 0), (0, Value.ref aa), (1, Value.int (nI vn))]) hx hb d_Arrays_fill_1 rfl hl (by decide) rfl (fun ls hl => ?_)
  refine lv_aload_n hx hb d_Arrays_fill_2 rfl (lv_at hl 1 rfl) ?_
  refine va_alen hx hb hK hP 0 0 rfl rfl (v := nI al) rfl d_Arrays_fill_3 ?_
  refine lv_istore_n (lv' := [(3, Value.int (nI al)), (2, Value.int 0), (0, Value.ref aa), (1, Value.int (nI vn))]) hx hb d_Arrays_fill_4 rfl hl (by decide) rfl (fun ls hl => ?_)
  have J_5 : ∀ (n9_5 : Nat) (j : Nat) (fL : Nat → Int32) (hn9_5 : al - j = n9_5) (hj : j ≤ al) (hL : tbI fL j (fun _ => vn)) (H : Heap) (locs : List Loc) (ls : Array Slot), va_P (dC, dI) vwCl [(aa, Sum.inl (cI, al, Sum.inl fL))] H → va_D A [(aa, Sum.inl (cI, al, Sum.inl fL))] → va_S A s.heap H locs → lv_has ls 4 [(2, Value.int (nI j)), (3, Value.int (nI al)), (0, Value.ref aa), (1, Value.int (nI vn))] → W p l e R s m args below meth c H locs 0 0 Q (F0 m 5 ls []) := by
    intro n9_5
    induction n9_5 using Nat.strongRecOn with
    | ind n9_5 ih9_5 =>
      intro j fL hn9_5 hj hL H locs ls hP hD hS hl
      refine lv_iload_n hx hb d_Arrays_fill_5 rfl (lv_at hl 0 rfl) ?_
      refine lv_iload_n hx hb d_Arrays_fill_6 rfl (lv_at hl 1 rfl) ?_
      refine lv_icmp_ge (tgt := 20) hx hb d_Arrays_fill_7 (by decide) (fun c_1 => ?_) (fun c_1 => ?_)
      · have hj3 : j = al := by have := nI_ge' (by omega) (by omega) c_1; omega
        exact my_vret hx hb hr hlocks hQ hK hS (Nat.le_refl _) (Nat.le_refl _) (fL) (by rw [← hj3]; exact hL) (hP.sub [0] rfl) (hD.sub [0] (by decide +kernel) rfl) d_Arrays_fill_20
      · have hj2 : j < al := nI_lt' (by omega) c_1
        refine lv_aload_n hx hb d_Arrays_fill_10 rfl (lv_at hl 2 rfl) ?_
        refine lv_iload_n hx hb d_Arrays_fill_11 rfl (lv_at hl 0 rfl) ?_
        refine lv_iload_n hx hb d_Arrays_fill_12 rfl (lv_at hl 3 rfl) ?_
        refine va_iast hx hb hK hP hD hS 0 0 rfl rfl (vp_in_nI hj2 (by omega)) d_Arrays_fill_13 (fun H locs hP hD hS => ?_)
        have hPD : my_PD (dC, dI) vwCl A [(aa, Sum.inl (cI, al, Sum.inl (upd fL (nI j).toNatClampNeg (nI vn))))] H := ⟨hP, hD⟩
        have hP := hPD.1
        have hD := hPD.2
        obtain ⟨v_2, ev_2⟩ : ∃ y : Int32, y = (nI j) + (1) := ⟨_, rfl⟩
        refine lv_iinc (v := v_2) (lv' := [(2, Value.int v_2), (3, Value.int (nI al)), (0, Value.ref aa), (1, Value.int (nI vn))]) hx hb d_Arrays_fill_14 hl (k := 0) rfl (by rw [ev_2]; rfl) (by decide) rfl (fun ls hl => ?_)
        have z9 : v_2 = nI (j + 1) := by rw [ev_2]; exact nI_1 _
        subst z9
        refine lv_goto (tgt := 5) hx hb d_Arrays_fill_17 (by decide) ?_
        exact ih9_5 _ (by first | omega | (omega)) (j + 1) (upd fL (nI j).toNatClampNeg (nI vn)) rfl (by omega) (tb_add hL (nI_clamp (by omega)) rfl) H locs ls (hP.sub [0] rfl) (hD.sub [0] (by decide +kernel) rfl) hS (lv_sub hl [0, 1, 2, 3] rfl)
  exact J_5 _ (0 : Nat) af rfl (Nat.zero_le _) (tbI_0 _ _) H locs ls (hP.sub [0] rfl) (hD.sub [0] (by decide +kernel) rfl) hS (lv_sub hl [1, 0, 2, 3] rfl)
set_option maxHeartbeats 2000000 in
set_option maxRecDepth 100000 in
theorem f_Arrays_copyOf (l : Launch) (dC : Nat → ClassId) (dI : Nat → Nat → Nat) (cI cM cO : ClassId) (sz : Nat) (sl : Nat) (aa : Nat) (al : Nat) (af : Nat → Int32) (nl : Nat) (bs : List Nat) (hal : al < nl) (hnl : nl ≤ 32768) (hG : gIs af bs) (hbl : bs.length ≤ al) : MetQg l y_Arrays_copyOf (Cond.code y_Arrays_copyOf prog_18_method_123_code 3 (some (.array .int)) :: gw) ({ frames := 1, cells := nl, slots := nl, locals := 40 } : Room) (dC, dI) vwCl (kT cI cM cO) [Value.ref aa, Value.int (nI nl)] [(aa, Sum.inl (cI, al, Sum.inl af))] sz sl (fun (r : Option Nat) (u : Nat × (Nat → Int32)) => r = some u.1 ∧ gIs u.2 bs) (fun (u : Nat × (Nat → Int32)) => [(aa, Sum.inl (cI, al, Sum.inl af)), (u.1, Sum.inl (cI, nl, Sum.inl u.2))]) nl (fun (u : Nat × (Nat → Int32)) => 0) := by
  refine my_ofQg (cc := prog_18_method_123_code) (n := 3) (ret := (some (.array .int))) (by decide) rfl (Nat.le_of_ble_eq_true rfl) ?_
  intro p e s m args below meth c R Q A ls H locs hx hb hr hts hown hlocks hml hnm hR hQ hA hl hP hK hN hD hS
  have hg : ∀ w ∈ gw, w.before args s = true := fun w h => hts w (List.mem_cons_of_mem _ h)
  have hown : s.vm.findClass "java/util/Arrays" = some m.cls := hown
  have hl : lv_has ls 3 [(0, Value.ref aa), (1, Value.int (nI nl))] := hl
  refine lv_iload_n hx hb d_Arrays_copyOf_0 rfl (lv_at hl 1 rfl) ?_
  refine lv_aload_n hx hb d_Arrays_copyOf_1 rfl (lv_at hl 0 rfl) ?_
  refine va_alen hx hb hK hP 0 0 rfl rfl (v := nI al) rfl d_Arrays_copyOf_2 ?_
  refine lv_icmp_ne (tgt := 14) hx hb d_Arrays_copyOf_3 (by decide) (fun c_1 => ?_) (fun c_1 => ?_)
  · refine lv_iload_n hx hb d_Arrays_copyOf_14 rfl (lv_at hl 1 rfl) ?_
    refine my_newi hx hb (hg _ k66) hK 0 rfl hP hD hS hA (N' := nl) (nI_pos (by omega)) (nI_clamp (by omega)) (by omega) (by rw [hR]; exact (show 0 + 1 ≤ nl by omega)) (by rw [hR]; exact (show 0 + nl ≤ nl by omega)) d_Arrays_copyOf_15 (fun q_2 H hP hD hS => ?_)
    have hPD : my_PD (dC, dI) vwCl A [(aa, Sum.inl (cI, al, Sum.inl af)), (q_2, Sum.inl (cI, nl, Sum.inl (fun _ => 0)))] H := ⟨hP, hD⟩
    have hP := hPD.1
    have hD := hPD.2
    refine lv_astore_n (lv' := [(2, Value.ref q_2), (0, Value.ref aa), (1, Value.int (nI nl))]) hx hb d_Arrays_copyOf_17 rfl hl (by decide) rfl (fun ls hl => ?_)
    refine lv_aload_n hx hb d_Arrays_copyOf_18 rfl (lv_at hl 1 rfl) ?_
    refine lv_iconst (v := 0) hx hb d_Arrays_copyOf_19 (by decide) ?_
    refine lv_aload_n hx hb d_Arrays_copyOf_20 rfl (lv_at hl 0 rfl) ?_
    refine lv_iconst (v := 0) hx hb d_Arrays_copyOf_21 (by decide) ?_
    refine lv_aload_n hx hb d_Arrays_copyOf_22 rfl (lv_at hl 1 rfl) ?_
    refine va_alen hx hb hK hP 0 0 rfl rfl (v := nI al) rfl d_Arrays_copyOf_23 ?_
    refine lv_iload_n hx hb d_Arrays_copyOf_24 rfl (lv_at hl 2 rfl) ?_
    refine va_mmin hx hb (by rw [hml]; exact hl.1.symm) hown (hg _ k486) (hg _ k31) (hg _ k2) (hg _ k32) (by rw [hR]; exact Nat.le_of_ble_eq_true rfl) (by rw [hR]; exact Nat.le_of_ble_eq_true rfl) (by rw [hR]; exact (show 0 + 1 ≤ nl by omega)) (by rw [hR]; exact (show 0 + nl ≤ nl by omega)) d_Arrays_copyOf_25 ?_
    refine lv_topi (fun v_3 ev_3 => ?_)
    have z9 : v_3 = nI al := by rw [ev_3, if_neg (nI_nlt (by omega) (by omega))]
    subst z9
    refine va_copyi hx hb (by rw [hml]; exact hl.1.symm) hown (hg _ k487) (hg _ k489) (hg _ k488) (hg _ k16) hK hP hD hS 0 1 0 0 rfl rfl rfl rfl rfl (by decide +kernel) (by decide +kernel) (nI_pos (by omega)) (by rw [nI_clamp (by omega)]; exact Nat.le_of_eq (Nat.zero_add _)) (by rw [nI_clamp (by omega)]; exact (show 0 + al ≤ nl by omega)) (fun _ _ => rfl) (by rw [hR]; exact Nat.le_of_ble_eq_true rfl) (by rw [hR]; exact Nat.le_of_ble_eq_true rfl) d_Arrays_copyOf_28 (fun H locs hP hD hS => ?_)
    have hPD : my_PD (dC, dI) vwCl A [(aa, Sum.inl (cI, al, Sum.inl af)), (q_2, Sum.inl (cI, nl, Sum.inl (va_cpy af (fun _ => 0) (0 : Int32).toNatClampNeg (0 : Int32).toNatClampNeg (nI al).toNatClampNeg)))] H := ⟨hP, hD⟩
    have hP := hPD.1
    have hD := hPD.2
    refine lv_aload_n hx hb d_Arrays_copyOf_31 rfl (lv_at hl 0 rfl) ?_
    exact my_qretg (v := some q_2) hx hb hr (Or.inr ⟨_, rfl⟩) hlocks hQ hK hS (q_2, va_cpy af (fun _ => 0) (0 : Int32).toNatClampNeg (0 : Int32).toNatClampNeg (nI al).toNatClampNeg) (show (0 + 1) + 0 ≤ nl by omega) (show (0 + nl) + 0 ≤ nl by omega) (⟨rfl, gIs_cpy (n := (nI al).toNatClampNeg) hG (by rw [nI_clamp (by omega)]; exact hbl)⟩) (hP.sub [0, 1] rfl) (hD.sub [0, 1] (by decide +kernel) rfl) d_Arrays_copyOf_32
  · exact absurd (nI_inj (by omega) (by omega) c_1) (by omega)
set_option maxHeartbeats 2000000 in
set_option maxRecDepth 100000 in
theorem f_Row_has (l : Launch) (dC : Nat → ClassId) (dI : Nat → Nat → Nat) (cI cM cO : ClassId) (sz : Nat) (rr : Nat) (rra : Nat) (rrk : Nat) (rrf : Nat → Int32) (bs : List Nat) (ii : Int32) (hrr : rOk (nI bs.length) rrk) (hGrr : gIs rrf bs) (hLrr : bs.length ≤ 8192) : MetI l y_Row_has (Cond.code y_Row_has prog_9_method_2_code 2 (some .boolean) :: gw) ({ frames := 0, cells := 0, slots := 0, locals := 0 } : Room) (dC, dI) vwCl (kT cI cM cO) [Value.ref rr, Value.int ii] [(rr, Sum.inr (0, [Value.int (nI bs.length), Value.ref rra])), (rra, Sum.inl (cI, rrk, Sum.inl rrf))] sz (fun (r : Int32) (u : Unit) => (r = if 0 ≤ ii ∧ ii < nI bs.length then 1 else 0) ∧ (r ≠ 0 → vp_in ii rrk)) (fun (u : Unit) => [(rr, Sum.inr (0, [Value.int (nI bs.length), Value.ref rra])), (rra, Sum.inl (cI, rrk, Sum.inl rrf))]) 0 0 := by
  refine my_ofI (cc := prog_9_method_2_code) (n := 2) (ret := (some .boolean)) (by decide) rfl (Nat.le_of_ble_eq_true rfl) ?_
  intro p e s m args below meth c R Q A ls H locs hx hb hr hts hown hlocks hml hnm hR hQ hA hl hP hK hN hD hS
  have hg : ∀ w ∈ gw, w.before args s = true := fun w h => hts w (List.mem_cons_of_mem _ h)
  have hown : s.vm.findClass "RangeCoders$Row" = some m.cls := hown
  have hl : lv_has ls 2 [(0, Value.ref rr), (1, Value.int ii)] := hl
  have hlt9 := rOk_lt hrr
  have hle9 := rOk_nI hrr (by omega)
  refine lv_iload_n hx hb d_Row_has_0 rfl (lv_at hl 1 rfl) ?_
  refine lv_if_lt (tgt := 25) hx hb d_Row_has_1 (by decide) (fun c_1 => ?_) (fun c_1 => ?_)
  · refine lv_iconst (v := 0) hx hb d_Row_has_25 (by decide) ?_
    exact my_iret (v := 0) hx hb hr (rfl) hlocks hQ hK hS (Nat.le_refl _) (Nat.le_refl _) () (⟨has_0a c_1, fun h9 => absurd rfl h9⟩) (hP.sub [0, 1] rfl) (hD.sub [0, 1] (by decide +kernel) rfl) d_Row_has_26
  · refine lv_iload_n hx hb d_Row_has_4 rfl (lv_at hl 1 rfl) ?_
    refine lv_aload_n hx hb d_Row_has_5 rfl (lv_at hl 0 rfl) ?_
    refine va_get (D := (dC, dI)) (ci := 0) (v := .int (nI bs.length)) (C := "RangeCoders$Row") (T := T_Row) (N := 2) hx hb hg in_Row hown hK hP 0 rfl rfl 0 (by decide) (hg _ k57) (fun _ h9 => h9) rfl d_Row_has_6 ?_
    refine lv_icmp_ge (tgt := 25) hx hb d_Row_has_9 (by decide) (fun c_2 => ?_) (fun c_2 => ?_)
    · refine lv_iconst (v := 0) hx hb d_Row_has_25 (by decide) ?_
      exact my_iret (v := 0) hx hb hr (rfl) hlocks hQ hK hS (Nat.le_refl _) (Nat.le_refl _) () (⟨has_0b c_2, fun h9 => absurd rfl h9⟩) (hP.sub [0, 1] rfl) (hD.sub [0, 1] (by decide +kernel) rfl) d_Row_has_26
    · refine lv_iload_n hx hb d_Row_has_12 rfl (lv_at hl 1 rfl) ?_
      refine lv_aload_n hx hb d_Row_has_13 rfl (lv_at hl 0 rfl) ?_
      refine va_get (D := (dC, dI)) (ci := 0) (v := .ref rra) (C := "RangeCoders$Row") (T := T_Row) (N := 2) hx hb hg in_Row hown hK hP 0 rfl rfl 1 (by decide) (hg _ k60) (fun _ h9 => h9) rfl d_Row_has_14 ?_
      refine va_alen hx hb hK hP 1 0 rfl rfl (v := nI rrk) rfl d_Row_has_17 ?_
      refine lv_icmp_ge (tgt := 25) hx hb d_Row_has_18 (by decide) (fun c_3 => ?_) (fun c_3 => ?_)
      · exact absurd (has_lt (by omega) (by omega) c_1 c_2) (fun q9 => q9 c_3)
      · refine lv_iconst (v := 1) hx hb d_Row_has_21 (by decide) ?_
        refine lv_goto (tgt := 26) hx hb d_Row_has_22 (by decide) ?_
        exact my_iret (v := 1) hx hb hr (rfl) hlocks hQ hK hS (Nat.le_refl _) (Nat.le_refl _) () (⟨has_1 c_1 c_2, fun _ => I_in' (by omega) (by assumption) (by assumption)⟩) (hP.sub [0, 1] rfl) (hD.sub [0, 1] (by decide +kernel) rfl) d_Row_has_26
set_option maxHeartbeats 2000000 in
set_option maxRecDepth 100000 in
theorem f_Row_at (l : Launch) (dC : Nat → ClassId) (dI : Nat → Nat → Nat) (cI cM cO : ClassId) (sz : Nat) (rr : Nat) (rra : Nat) (rrk : Nat) (rrf : Nat → Int32) (bs : List Nat) (ii : Int32) (hrr : rOk (nI bs.length) rrk) (hGrr : gIs rrf bs) (hLrr : bs.length ≤ 8192) : MetI l y_Row_at (Cond.code y_Row_at prog_9_method_3_code 2 (some .int) :: gw) ({ frames := 1, cells := 0, slots := 0, locals := 21 } : Room) (dC, dI) vwCl (kT cI cM cO) [Value.ref rr, Value.int ii] [(rr, Sum.inr (0, [Value.int (nI bs.length), Value.ref rra])), (rra, Sum.inl (cI, rrk, Sum.inl rrf))] sz (fun (r : Int32) (u : Unit) => r = rAt bs ii) (fun (u : Unit) => [(rr, Sum.inr (0, [Value.int (nI bs.length), Value.ref rra])), (rra, Sum.inl (cI, rrk, Sum.inl rrf))]) 0 0 := by
  refine my_ofI (cc := prog_9_method_3_code) (n := 2) (ret := (some .int)) (by decide) rfl (Nat.le_of_ble_eq_true rfl) ?_
  intro p e s m args below meth c R Q A ls H locs hx hb hr hts hown hlocks hml hnm hR hQ hA hl hP hK hN hD hS
  have hg : ∀ w ∈ gw, w.before args s = true := fun w h => hts w (List.mem_cons_of_mem _ h)
  have hown : s.vm.findClass "RangeCoders$Row" = some m.cls := hown
  have hl : lv_has ls 2 [(0, Value.ref rr), (1, Value.int ii)] := hl
  have hlt9 := rOk_lt hrr
  have hle9 := rOk_nI hrr (by omega)
  refine lv_aload_n hx hb d_Row_at_0 rfl (lv_at hl 0 rfl) ?_
  refine lv_iload_n hx hb d_Row_at_1 rfl (lv_at hl 1 rfl) ?_
  refine my_ci (wr := []) (va_runV (As := [Value.int ii]) (rest := []) ⟨hx, hb, hml, hown, hts⟩ (f_Row_has l dC dI cI cM cO H.size rr rra rrk rrf bs ii (by first | assumption | omega) (by first | assumption | omega) (by first | assumption | omega)) (cwV 1 hts (my_gV k662 k663 k664 k6 k665) rfl rfl rfl cu_Row_has_1 ⟨by rw [hR]; exact Nat.le_of_ble_eq_true rfl, by rw [hR]; exact Nat.le_of_ble_eq_true rfl⟩) (my_preV hK hN (hP.sub [0, 1] rfl) (hD.sub [0, 1] (by decide +kernel) rfl) 0 rfl rfl) rfl rfl hl.1 rfl (lv_room (Nat.le_of_ble_eq_true rfl)) d_Row_at_2 ⟨by rw [hR]; exact Nat.le_of_ble_eq_true rfl, by rw [hR]; exact Nat.le_of_ble_eq_true rfl⟩) hP hD hS hA [0, 1] [] rfl rfl (by decide +kernel) (by decide +kernel) (fun r_2 u9 H locs hw_2 hP hD hS => ?_)
  obtain ⟨hr_2, hv_2⟩ : (r_2 = if 0 ≤ ii ∧ ii < nI bs.length then 1 else 0) ∧ (r_2 ≠ 0 → vp_in ii rrk) := hw_2
  have hPD : my_PD (dC, dI) vwCl A [(rr, Sum.inr (0, [Value.int (nI bs.length), Value.ref rra])), (rra, Sum.inl (cI, rrk, Sum.inl rrf))] H := ⟨hP, hD⟩
  have hP := hPD.1
  have hD := hPD.2
  refine lv_if_eq (tgt := 17) hx hb d_Row_at_5 (by decide) (fun c_1 => ?_) (fun c_1 => ?_)
  · refine lv_iconst (v := (-1)) hx hb d_Row_at_17 (by decide) ?_
    exact my_iret (v := (-1)) hx hb hr (rfl) hlocks hQ hK hS (Nat.le_refl _) (Nat.le_refl _) () (rAt_0 (one_eq hr_2 c_1)) (hP.sub [0, 1] rfl) (hD.sub [0, 1] (by decide +kernel) rfl) d_Row_at_18
  · refine lv_aload_n hx hb d_Row_at_8 rfl (lv_at hl 0 rfl) ?_
    refine va_get (D := (dC, dI)) (ci := 0) (v := .ref rra) (C := "RangeCoders$Row") (T := T_Row) (N := 2) hx hb hg in_Row hown hK hP 0 rfl rfl 1 (by decide) (hg _ k60) (fun _ h9 => h9) rfl d_Row_at_9 ?_
    refine lv_iload_n hx hb d_Row_at_12 rfl (lv_at hl 1 rfl) ?_
    refine va_iald hx hb hK hP 1 0 rfl rfl (hv_2 c_1) d_Row_at_13 ?_
    refine lv_topi (fun v_2 ev_2 => ?_)
    refine lv_goto (tgt := 18) hx hb d_Row_at_14 (by decide) ?_
    exact my_iret (v := v_2) hx hb hr (rfl) hlocks hQ hK hS (Nat.le_refl _) (Nat.le_refl _) () (rAt_1 (by omega) hGrr (one_ne hr_2 c_1) ev_2) (hP.sub [0, 1] rfl) (hD.sub [0, 1] (by decide +kernel) rfl) d_Row_at_18
set_option maxHeartbeats 2000000 in
set_option maxRecDepth 100000 in
theorem f_Row_set (l : Launch) (dC : Nat → ClassId) (dI : Nat → Nat → Nat) (cI cM cO : ClassId) (sz : Nat) (rr : Nat) (rra : Nat) (rrk : Nat) (rrf : Nat → Int32) (bs : List Nat) (ii : Nat) (x : Nat) (hrr : rOk (nI bs.length) rrk) (hGrr : gIs rrf bs) (hLrr : bs.length ≤ 8192) (hii : ii < bs.length) : MetV l y_Row_set (Cond.code y_Row_set prog_9_method_4_code 3 none :: gw) ({ frames := 1, cells := 0, slots := 0, locals := 21 } : Room) (dC, dI) vwCl (kT cI cM cO) [Value.ref rr, Value.int (nI ii), Value.int (nI x)] [(rr, Sum.inr (0, [Value.int (nI bs.length), Value.ref rra])), (rra, Sum.inl (cI, rrk, Sum.inl rrf))] sz (fun (u : (Nat → Int32)) => gIs u (bs.set ii x)) (fun (u : (Nat → Int32)) => [(rr, Sum.inr (0, [Value.int (nI bs.length), Value.ref rra])), (rra, Sum.inl (cI, rrk, Sum.inl u))]) 0 0 := by
  refine my_ofV (cc := prog_9_method_4_code) (n := 3) (ret := none) (by decide) rfl (Nat.le_of_ble_eq_true rfl) ?_
  intro p e s m args below meth c R Q A ls H locs hx hb hr hts hown hlocks hml hnm hR hQ hA hl hP hK hN hD hS
  have hg : ∀ w ∈ gw, w.before args s = true := fun w h => hts w (List.mem_cons_of_mem _ h)
  have hown : s.vm.findClass "RangeCoders$Row" = some m.cls := hown
  have hl : lv_has ls 3 [(0, Value.ref rr), (1, Value.int (nI ii)), (2, Value.int (nI x))] := hl
  have hlt9 := rOk_lt hrr
  have hle9 := rOk_nI hrr (by omega)
  refine lv_aload_n hx hb d_Row_set_0 rfl (lv_at hl 0 rfl) ?_
  refine lv_iload_n hx hb d_Row_set_1 rfl (lv_at hl 1 rfl) ?_
  refine my_ci (wr := []) (va_runV (As := [Value.int (nI ii)]) (rest := []) ⟨hx, hb, hml, hown, hts⟩ (f_Row_has l dC dI cI cM cO H.size rr rra rrk rrf bs (nI ii) (by first | assumption | omega) (by first | assumption | omega) (by first | assumption | omega)) (cwV 1 hts (my_gV k662 k663 k664 k6 k665) rfl rfl rfl cu_Row_has_1 ⟨by rw [hR]; exact Nat.le_of_ble_eq_true rfl, by rw [hR]; exact Nat.le_of_ble_eq_true rfl⟩) (my_preV hK hN (hP.sub [0, 1] rfl) (hD.sub [0, 1] (by decide +kernel) rfl) 0 rfl rfl) rfl rfl hl.1 rfl (lv_room (Nat.le_of_ble_eq_true rfl)) d_Row_set_2 ⟨by rw [hR]; exact Nat.le_of_ble_eq_true rfl, by rw [hR]; exact Nat.le_of_ble_eq_true rfl⟩) hP hD hS hA [0, 1] [] rfl rfl (by decide +kernel) (by decide +kernel) (fun r_2 u9 H locs hw_2 hP hD hS => ?_)
  obtain ⟨hr_2, hv_2⟩ : (r_2 = if 0 ≤ (nI ii) ∧ (nI ii) < nI bs.length then 1 else 0) ∧ (r_2 ≠ 0 → vp_in (nI ii) rrk) := hw_2
  have hPD : my_PD (dC, dI) vwCl A [(rr, Sum.inr (0, [Value.int (nI bs.length), Value.ref rra])), (rra, Sum.inl (cI, rrk, Sum.inl rrf))] H := ⟨hP, hD⟩
  have hP := hPD.1
  have hD := hPD.2
  refine lv_if_eq (tgt := 15) hx hb d_Row_set_5 (by decide) (fun c_1 => ?_) (fun c_1 => ?_)
  · exact absurd (has_in hii (by omega)) (one_eq hr_2 c_1)
  · refine lv_aload_n hx hb d_Row_set_8 rfl (lv_at hl 0 rfl) ?_
    refine va_get (D := (dC, dI)) (ci := 0) (v := .ref rra) (C := "RangeCoders$Row") (T := T_Row) (N := 2) hx hb hg in_Row hown hK hP 0 rfl rfl 1 (by decide) (hg _ k60) (fun _ h9 => h9) rfl d_Row_set_9 ?_
    refine lv_iload_n hx hb d_Row_set_12 rfl (lv_at hl 1 rfl) ?_
    refine lv_iload_n hx hb d_Row_set_13 rfl (lv_at hl 2 rfl) ?_
    refine va_iast hx hb hK hP hD hS 1 0 rfl rfl (hv_2 c_1) d_Row_set_14 (fun H locs hP hD hS => ?_)
    have hPD : my_PD (dC, dI) vwCl A [(rr, Sum.inr (0, [Value.int (nI bs.length), Value.ref rra])), (rra, Sum.inl (cI, rrk, Sum.inl (upd rrf (nI ii).toNatClampNeg (nI x))))] H := ⟨hP, hD⟩
    have hP := hPD.1
    have hD := hPD.2
    exact my_vret hx hb hr hlocks hQ hK hS (Nat.le_refl _) (Nat.le_refl _) (upd rrf (nI ii).toNatClampNeg (nI x)) (gIs_setN hGrr (nI_clamp (by omega))) (hP.sub [0, 1] rfl) (hD.sub [0, 1] (by decide +kernel) rfl) d_Row_set_15
set_option maxHeartbeats 2000000 in
set_option maxRecDepth 100000 in
theorem f_Row_add (l : Launch) (dC : Nat → ClassId) (dI : Nat → Nat → Nat) (cI cM cO : ClassId) (sz : Nat) (sl : Nat) (rr : Nat) (rra : Nat) (rrk : Nat) (rrf : Nat → Int32) (bs : List Nat) (x : Nat) (hrr : rOk (nI bs.length) rrk) (hGrr : gIs rrf bs) (hl : bs.length < 8192) : MetVg l y_Row_add (Cond.code y_Row_add prog_9_method_5_code 2 none :: gw) ({ frames := 2, cells := rPh rrk, slots := rPh rrk, locals := 62 } : Room) (dC, dI) vwCl (kT cI cM cO) [Value.ref rr, Value.int (nI x)] [(rr, Sum.inr (0, [Value.int (nI bs.length), Value.ref rra])), (rra, Sum.inl (cI, rrk, Sum.inl rrf))] sz sl (fun (u : Nat × Nat × (Nat → Int32)) => rOk (nI (bs ++ [x]).length) u.2.1 ∧ gIs u.2.2 (bs ++ [x])) (fun (u : Nat × Nat × (Nat → Int32)) => [(rr, Sum.inr (0, [Value.int (nI (bs ++ [x]).length), Value.ref u.1])), (u.1, Sum.inl (cI, u.2.1, Sum.inl u.2.2))]) (rPh rrk) (fun (u : Nat × Nat × (Nat → Int32)) => rPh u.2.1) := by
  refine my_ofVg (cc := prog_9_method_5_code) (n := 2) (ret := none) (by decide) rfl (Nat.le_of_ble_eq_true rfl) ?_
  intro p e s m args below meth c R Q A ls H locs hx hb hr hts hown hlocks hml hnm hR hQ hA hl hP hK hN hD hS
  have hg : ∀ w ∈ gw, w.before args s = true := fun w h => hts w (List.mem_cons_of_mem _ h)
  have hown : s.vm.findClass "RangeCoders$Row" = some m.cls := hown
  have hl : lv_has ls 2 [(0, Value.ref rr), (1, Value.int (nI x))] := hl
  have hlt9 := rOk_lt hrr
  have hle9 := rOk_nI hrr (by omega)
  refine lv_aload_n hx hb d_Row_add_0 rfl (lv_at hl 0 rfl) ?_
  refine va_get (D := (dC, dI)) (ci := 0) (v := .int (nI bs.length)) (C := "RangeCoders$Row") (T := T_Row) (N := 2) hx hb hg in_Row hown hK hP 0 rfl rfl 0 (by decide) (hg _ k57) (fun _ h9 => h9) rfl d_Row_add_1 ?_
  refine lv_aload_n hx hb d_Row_add_4 rfl (lv_at hl 0 rfl) ?_
  refine va_get (D := (dC, dI)) (ci := 0) (v := .ref rra) (C := "RangeCoders$Row") (T := T_Row) (N := 2) hx hb hg in_Row hown hK hP 0 rfl rfl 1 (by decide) (hg _ k60) (fun _ h9 => h9) rfl d_Row_add_5 ?_
  refine va_alen hx hb hK hP 1 0 rfl rfl (v := nI rrk) rfl d_Row_add_8 ?_
  refine lv_icmp_lt (tgt := 41) hx hb d_Row_add_9 (by decide) (fun c_1 => ?_) (fun c_1 => ?_)
  · refine lv_aload_n hx hb d_Row_add_41 rfl (lv_at hl 0 rfl) ?_
    refine va_get (D := (dC, dI)) (ci := 0) (v := .int (nI bs.length)) (C := "RangeCoders$Row") (T := T_Row) (N := 2) hx hb hg in_Row hown hK hP 0 rfl rfl 0 (by decide) (hg _ k57) (fun _ h9 => h9) rfl d_Row_add_42 ?_
    refine lv_if_lt (tgt := 80) hx hb d_Row_add_45 (by decide) (fun c_2 => ?_) (fun c_2 => ?_)
    · exact absurd c_2 (nI_pos (by omega))
    · refine lv_aload_n hx hb d_Row_add_48 rfl (lv_at hl 0 rfl) ?_
      refine va_get (D := (dC, dI)) (ci := 0) (v := .int (nI bs.length)) (C := "RangeCoders$Row") (T := T_Row) (N := 2) hx hb hg in_Row hown hK hP 0 rfl rfl 0 (by decide) (hg _ k57) (fun _ h9 => h9) rfl d_Row_add_49 ?_
      refine lv_aload_n hx hb d_Row_add_52 rfl (lv_at hl 0 rfl) ?_
      refine va_get (D := (dC, dI)) (ci := 0) (v := .ref rra) (C := "RangeCoders$Row") (T := T_Row) (N := 2) hx hb hg in_Row hown hK hP 0 rfl rfl 1 (by decide) (hg _ k60) (fun _ h9 => h9) rfl d_Row_add_53 ?_
      refine va_alen hx hb hK hP 1 0 rfl rfl (v := nI rrk) rfl d_Row_add_56 ?_
      refine lv_icmp_ge (tgt := 80) hx hb d_Row_add_57 (by decide) (fun c_3 => ?_) (fun c_3 => ?_)
      · exact absurd c_1 (Int32.not_lt.mpr c_3)
      · refine lv_aload_n hx hb d_Row_add_60 rfl (lv_at hl 0 rfl) ?_
        refine va_get (D := (dC, dI)) (ci := 0) (v := .ref rra) (C := "RangeCoders$Row") (T := T_Row) (N := 2) hx hb hg in_Row hown hK hP 0 rfl rfl 1 (by decide) (hg _ k60) (fun _ h9 => h9) rfl d_Row_add_61 ?_
        refine lv_aload_n hx hb d_Row_add_64 rfl (lv_at hl 0 rfl) ?_
        refine va_get (D := (dC, dI)) (ci := 0) (v := .int (nI bs.length)) (C := "RangeCoders$Row") (T := T_Row) (N := 2) hx hb hg in_Row hown hK hP 0 rfl rfl 0 (by decide) (hg _ k57) (fun _ h9 => h9) rfl d_Row_add_65 ?_
        refine lv_iload_n hx hb d_Row_add_68 rfl (lv_at hl 1 rfl) ?_
        have hbl : bs.length < rrk := nI_lt' (by omega) c_3
        refine va_iast hx hb hK hP hD hS 1 0 rfl rfl (vp_in_nI hbl (by omega)) d_Row_add_69 (fun H locs hP hD hS => ?_)
        have hPD : my_PD (dC, dI) vwCl A [(rr, Sum.inr (0, [Value.int (nI bs.length), Value.ref rra])), (rra, Sum.inl (cI, rrk, Sum.inl (upd rrf (nI bs.length).toNatClampNeg (nI x))))] H := ⟨hP, hD⟩
        have hP := hPD.1
        have hD := hPD.2
        refine lv_aload_n hx hb d_Row_add_70 rfl (lv_at hl 0 rfl) ?_
        refine lv_dup hx hb d_Row_add_71 rfl ?_
        refine va_get (D := (dC, dI)) (ci := 0) (v := .int (nI bs.length)) (C := "RangeCoders$Row") (T := T_Row) (N := 2) hx hb hg in_Row hown hK hP 0 rfl rfl 0 (by decide) (hg _ k57) (fun _ h9 => h9) rfl d_Row_add_72 ?_
        refine lv_iconst (v := 1) hx hb d_Row_add_75 (by decide) ?_
        refine lv_iadd hx hb d_Row_add_76 ?_
        refine lv_topi (fun v_4 ev_4 => ?_)
        have z9 : v_4 = nI (bs ++ [x]).length := by rw [ev_4, List.length_append]; exact nI_1 _
        subst z9
        refine va_put (D := (dC, dI)) (ci := 0) (v := .int (nI (bs ++ [x]).length)) (ty := .int) (C := "RangeCoders$Row") (T := T_Row) (N := 2) hx hb hg in_Row t_Row o_Row n_Row hown hK hP hD hS 0 rfl rfl 0 (by decide) (hg _ k57) (fun _ h9 => h9) rfl (o_Row 0 (by decide)) rfl rfl (Nat.le_of_ble_eq_true rfl) d_Row_add_77 (fun H locs hP hD hS => ?_)
        have hPD : my_PD (dC, dI) vwCl A [(rr, Sum.inr (0, [Value.int (nI (bs ++ [x]).length), Value.ref rra])), (rra, Sum.inl (cI, rrk, Sum.inl (upd rrf (nI bs.length).toNatClampNeg (nI x))))] H := ⟨hP, hD⟩
        have hP := hPD.1
        have hD := hPD.2
        have hrr8 : rOk (nI (bs ++ [x]).length) rrk := rOk_of (by rw [List.length_append, List.length_singleton]; omega) (by omega) (by omega)
        exact my_vretg hx hb hr hlocks hQ hK hS (rra, rrk, upd rrf (nI bs.length).toNatClampNeg (nI x)) (show 0 + (rPh rrk) ≤ (rPh rrk) by omega) (show 0 + (rPh rrk) ≤ (rPh rrk) by omega) (⟨hrr8, gIs_up (by assumption) (nI_clamp (by omega)) rfl⟩) (hP.sub [0, 1] rfl) (hD.sub [0, 1] (by decide +kernel) rfl) d_Row_add_80
  · refine lv_aload_n hx hb d_Row_add_12 rfl (lv_at hl 0 rfl) ?_
    refine va_get (D := (dC, dI)) (ci := 0) (v := .ref rra) (C := "RangeCoders$Row") (T := T_Row) (N := 2) hx hb hg in_Row hown hK hP 0 rfl rfl 1 (by decide) (hg _ k60) (fun _ h9 => h9) rfl d_Row_add_13 ?_
    refine va_alen hx hb hK hP 1 0 rfl rfl (v := nI rrk) rfl d_Row_add_16 ?_
    refine lv_sipush (v := 8192) hx hb d_Row_add_17 (by decide) ?_
    refine lv_icmp_ge (tgt := 41) hx hb d_Row_add_20 (by decide) (fun c_5 => ?_) (fun c_5 => ?_)
    · refine lv_aload_n hx hb d_Row_add_41 rfl (lv_at hl 0 rfl) ?_
      refine va_get (D := (dC, dI)) (ci := 0) (v := .int (nI bs.length)) (C := "RangeCoders$Row") (T := T_Row) (N := 2) hx hb hg in_Row hown hK hP 0 rfl rfl 0 (by decide) (hg _ k57) (fun _ h9 => h9) rfl d_Row_add_42 ?_
      refine lv_if_lt (tgt := 80) hx hb d_Row_add_45 (by decide) (fun c_6 => ?_) (fun c_6 => ?_)
      · exact absurd c_6 (nI_pos (by omega))
      · refine lv_aload_n hx hb d_Row_add_48 rfl (lv_at hl 0 rfl) ?_
        refine va_get (D := (dC, dI)) (ci := 0) (v := .int (nI bs.length)) (C := "RangeCoders$Row") (T := T_Row) (N := 2) hx hb hg in_Row hown hK hP 0 rfl rfl 0 (by decide) (hg _ k57) (fun _ h9 => h9) rfl d_Row_add_49 ?_
        refine lv_aload_n hx hb d_Row_add_52 rfl (lv_at hl 0 rfl) ?_
        refine va_get (D := (dC, dI)) (ci := 0) (v := .ref rra) (C := "RangeCoders$Row") (T := T_Row) (N := 2) hx hb hg in_Row hown hK hP 0 rfl rfl 1 (by decide) (hg _ k60) (fun _ h9 => h9) rfl d_Row_add_53 ?_
        refine va_alen hx hb hK hP 1 0 rfl rfl (v := nI rrk) rfl d_Row_add_56 ?_
        refine lv_icmp_ge (tgt := 80) hx hb d_Row_add_57 (by decide) (fun c_7 => ?_) (fun c_7 => ?_)
        · exact absurd (nI_ge' (by omega) (by omega) c_7) (by have := nI_ge' (n := 8192) (by omega) (by decide) c_5; omega)
        · refine lv_aload_n hx hb d_Row_add_60 rfl (lv_at hl 0 rfl) ?_
          refine va_get (D := (dC, dI)) (ci := 0) (v := .ref rra) (C := "RangeCoders$Row") (T := T_Row) (N := 2) hx hb hg in_Row hown hK hP 0 rfl rfl 1 (by decide) (hg _ k60) (fun _ h9 => h9) rfl d_Row_add_61 ?_
          refine lv_aload_n hx hb d_Row_add_64 rfl (lv_at hl 0 rfl) ?_
          refine va_get (D := (dC, dI)) (ci := 0) (v := .int (nI bs.length)) (C := "RangeCoders$Row") (T := T_Row) (N := 2) hx hb hg in_Row hown hK hP 0 rfl rfl 0 (by decide) (hg _ k57) (fun _ h9 => h9) rfl d_Row_add_65 ?_
          refine lv_iload_n hx hb d_Row_add_68 rfl (lv_at hl 1 rfl) ?_
          have hbl : bs.length < rrk := nI_lt' (by omega) c_7
          refine va_iast hx hb hK hP hD hS 1 0 rfl rfl (vp_in_nI hbl (by omega)) d_Row_add_69 (fun H locs hP hD hS => ?_)
          have hPD : my_PD (dC, dI) vwCl A [(rr, Sum.inr (0, [Value.int (nI bs.length), Value.ref rra])), (rra, Sum.inl (cI, rrk, Sum.inl (upd rrf (nI bs.length).toNatClampNeg (nI x))))] H := ⟨hP, hD⟩
          have hP := hPD.1
          have hD := hPD.2
          refine lv_aload_n hx hb d_Row_add_70 rfl (lv_at hl 0 rfl) ?_
          refine lv_dup hx hb d_Row_add_71 rfl ?_
          refine va_get (D := (dC, dI)) (ci := 0) (v := .int (nI bs.length)) (C := "RangeCoders$Row") (T := T_Row) (N := 2) hx hb hg in_Row hown hK hP 0 rfl rfl 0 (by decide) (hg _ k57) (fun _ h9 => h9) rfl d_Row_add_72 ?_
          refine lv_iconst (v := 1) hx hb d_Row_add_75 (by decide) ?_
          refine lv_iadd hx hb d_Row_add_76 ?_
          refine lv_topi (fun v_8 ev_8 => ?_)
          have z9 : v_8 = nI (bs ++ [x]).length := by rw [ev_8, List.length_append]; exact nI_1 _
          subst z9
          refine va_put (D := (dC, dI)) (ci := 0) (v := .int (nI (bs ++ [x]).length)) (ty := .int) (C := "RangeCoders$Row") (T := T_Row) (N := 2) hx hb hg in_Row t_Row o_Row n_Row hown hK hP hD hS 0 rfl rfl 0 (by decide) (hg _ k57) (fun _ h9 => h9) rfl (o_Row 0 (by decide)) rfl rfl (Nat.le_of_ble_eq_true rfl) d_Row_add_77 (fun H locs hP hD hS => ?_)
          have hPD : my_PD (dC, dI) vwCl A [(rr, Sum.inr (0, [Value.int (nI (bs ++ [x]).length), Value.ref rra])), (rra, Sum.inl (cI, rrk, Sum.inl (upd rrf (nI bs.length).toNatClampNeg (nI x))))] H := ⟨hP, hD⟩
          have hP := hPD.1
          have hD := hPD.2
          have hrr8 : rOk (nI (bs ++ [x]).length) rrk := rOk_of (by rw [List.length_append, List.length_singleton]; omega) (by omega) (by omega)
          exact my_vretg hx hb hr hlocks hQ hK hS (rra, rrk, upd rrf (nI bs.length).toNatClampNeg (nI x)) (show 0 + (rPh rrk) ≤ (rPh rrk) by omega) (show 0 + (rPh rrk) ≤ (rPh rrk) by omega) (⟨hrr8, gIs_up (by assumption) (nI_clamp (by omega)) rfl⟩) (hP.sub [0, 1] rfl) (hD.sub [0, 1] (by decide +kernel) rfl) d_Row_add_80
    · refine lv_aload_n hx hb d_Row_add_23 rfl (lv_at hl 0 rfl) ?_
      refine lv_aload_n hx hb d_Row_add_24 rfl (lv_at hl 0 rfl) ?_
      refine va_get (D := (dC, dI)) (ci := 0) (v := .ref rra) (C := "RangeCoders$Row") (T := T_Row) (N := 2) hx hb hg in_Row hown hK hP 0 rfl rfl 1 (by decide) (hg _ k60) (fun _ h9 => h9) rfl d_Row_add_25 ?_
      refine lv_aload_n hx hb d_Row_add_28 rfl (lv_at hl 0 rfl) ?_
      refine va_get (D := (dC, dI)) (ci := 0) (v := .ref rra) (C := "RangeCoders$Row") (T := T_Row) (N := 2) hx hb hg in_Row hown hK hP 0 rfl rfl 1 (by decide) (hg _ k60) (fun _ h9 => h9) rfl d_Row_add_29 ?_
      refine va_alen hx hb hK hP 1 0 rfl rfl (v := nI rrk) rfl d_Row_add_32 ?_
      refine lv_iconst (v := 2) hx hb d_Row_add_33 (by decide) ?_
      refine lv_imul hx hb d_Row_add_34 ?_
      refine lv_topi (fun v_9 ev_9 => ?_)
      have hlt8 : rrk < 8192 := rw_lt (by omega) c_5
      have hph := rPh_2 (by omega) hlt8
      have z9 : v_9 = nI (2 * rrk) := by rw [ev_9]; exact rw_dbl _
      subst z9
      refine my_cqg (wr := [(rr, Sum.inr (0, [Value.int (nI bs.length), Value.ref rra]))]) (va_runS (As := [Value.ref rra, Value.int (nI (2 * rrk))]) (rest := [Value.ref rr]) ⟨hx, hb, hml, hown, hts⟩ (f_Arrays_copyOf l dC dI cI cM cO H.size (hSl H) rra rrk rrf (2 * rrk) bs (by first | assumption | omega) (by first | assumption | omega) (hGrr) (hle9)) (my_cwS2 2 hts (my_gC k478) rfl rfl rfl (hg _ k15) (hg _ k476) (hg _ k477) (by decide +kernel) ⟨by rw [hR]; exact Nat.le_of_ble_eq_true rfl, by rw [hR]; exact Nat.le_of_ble_eq_true rfl⟩) (my_preg hK hN (hP.sub [1] rfl) (hD.sub [1] (by decide +kernel) rfl)) rfl rfl hl.1 rfl (lv_room (Nat.le_of_ble_eq_true rfl)) d_Row_add_35 ⟨by rw [hR]; exact (show 0 + (2 * rrk) ≤ (rPh rrk) by omega), by rw [hR]; exact (show 0 + (2 * rrk) ≤ (rPh rrk) by omega)⟩) hP hD hS hA [1] [0] rfl rfl (by decide +kernel) (by decide +kernel) (fun r_35 u9 d_35 H locs hd_35 hw_35 hP hD hS => ?_)
      obtain ⟨qa_35, qf_35⟩ := u9
      obtain ⟨hr_35, hGq_35⟩ : r_35 = some qa_35 ∧ gIs qf_35 bs := hw_35
      have hd_35 : d_35 + 0 ≤ (2 * rrk) := hd_35
      have hPD : my_PD (dC, dI) vwCl A [(rr, Sum.inr (0, [Value.int (nI bs.length), Value.ref rra])), (rra, Sum.inl (cI, rrk, Sum.inl rrf)), (qa_35, Sum.inl (cI, (2 * rrk), Sum.inl qf_35))] H := ⟨hP, hD⟩
      have hP := hPD.1
      have hD := hPD.2
      subst hr_35
      refine W.eq (g2 := F0 m 38 ls [Value.ref qa_35, Value.ref rr]) rfl ?_
      have hrr2 := rOk_2 hrr hlt8
      have hlt7 := rOk_lt hrr2
      refine va_put (D := (dC, dI)) (ci := 0) (v := .ref qa_35) (ty := (.array .int)) (C := "RangeCoders$Row") (T := T_Row) (N := 2) hx hb hg in_Row t_Row o_Row n_Row hown hK hP hD hS 0 rfl rfl 1 (by decide) (hg _ k60) (fun _ h9 => h9) rfl (o_Row 1 (by decide)) rfl rfl (Nat.le_of_ble_eq_true rfl) d_Row_add_38 (fun H locs hP hD hS => ?_)
      have hPD : my_PD (dC, dI) vwCl A [(rr, Sum.inr (0, [Value.int (nI bs.length), Value.ref qa_35])), (rra, Sum.inl (cI, rrk, Sum.inl rrf)), (qa_35, Sum.inl (cI, (2 * rrk), Sum.inl qf_35))] H := ⟨hP, hD⟩
      have hP := hPD.1
      have hD := hPD.2
      refine lv_aload_n hx hb d_Row_add_41 rfl (lv_at hl 0 rfl) ?_
      refine va_get (D := (dC, dI)) (ci := 0) (v := .int (nI bs.length)) (C := "RangeCoders$Row") (T := T_Row) (N := 2) hx hb hg in_Row hown hK hP 0 rfl rfl 0 (by decide) (hg _ k57) (fun _ h9 => h9) rfl d_Row_add_42 ?_
      refine lv_if_lt (tgt := 80) hx hb d_Row_add_45 (by decide) (fun c_10 => ?_) (fun c_10 => ?_)
      · exact absurd c_10 (nI_pos (by omega))
      · refine lv_aload_n hx hb d_Row_add_48 rfl (lv_at hl 0 rfl) ?_
        refine va_get (D := (dC, dI)) (ci := 0) (v := .int (nI bs.length)) (C := "RangeCoders$Row") (T := T_Row) (N := 2) hx hb hg in_Row hown hK hP 0 rfl rfl 0 (by decide) (hg _ k57) (fun _ h9 => h9) rfl d_Row_add_49 ?_
        refine lv_aload_n hx hb d_Row_add_52 rfl (lv_at hl 0 rfl) ?_
        refine va_get (D := (dC, dI)) (ci := 0) (v := .ref qa_35) (C := "RangeCoders$Row") (T := T_Row) (N := 2) hx hb hg in_Row hown hK hP 0 rfl rfl 1 (by decide) (hg _ k60) (fun _ h9 => h9) rfl d_Row_add_53 ?_
        refine va_alen hx hb hK hP 2 0 rfl rfl (v := nI (2 * rrk)) rfl d_Row_add_56 ?_
        refine lv_icmp_ge (tgt := 80) hx hb d_Row_add_57 (by decide) (fun c_11 => ?_) (fun c_11 => ?_)
        · exact absurd (nI_ge' (by omega) (by omega) c_11) (by omega)
        · refine lv_aload_n hx hb d_Row_add_60 rfl (lv_at hl 0 rfl) ?_
          refine va_get (D := (dC, dI)) (ci := 0) (v := .ref qa_35) (C := "RangeCoders$Row") (T := T_Row) (N := 2) hx hb hg in_Row hown hK hP 0 rfl rfl 1 (by decide) (hg _ k60) (fun _ h9 => h9) rfl d_Row_add_61 ?_
          refine lv_aload_n hx hb d_Row_add_64 rfl (lv_at hl 0 rfl) ?_
          refine va_get (D := (dC, dI)) (ci := 0) (v := .int (nI bs.length)) (C := "RangeCoders$Row") (T := T_Row) (N := 2) hx hb hg in_Row hown hK hP 0 rfl rfl 0 (by decide) (hg _ k57) (fun _ h9 => h9) rfl d_Row_add_65 ?_
          refine lv_iload_n hx hb d_Row_add_68 rfl (lv_at hl 1 rfl) ?_
          have hbl : bs.length < (2 * rrk) := nI_lt' (by omega) c_11
          refine va_iast hx hb hK hP hD hS 2 0 rfl rfl (vp_in_nI hbl (by omega)) d_Row_add_69 (fun H locs hP hD hS => ?_)
          have hPD : my_PD (dC, dI) vwCl A [(rr, Sum.inr (0, [Value.int (nI bs.length), Value.ref qa_35])), (rra, Sum.inl (cI, rrk, Sum.inl rrf)), (qa_35, Sum.inl (cI, (2 * rrk), Sum.inl (upd qf_35 (nI bs.length).toNatClampNeg (nI x))))] H := ⟨hP, hD⟩
          have hP := hPD.1
          have hD := hPD.2
          refine lv_aload_n hx hb d_Row_add_70 rfl (lv_at hl 0 rfl) ?_
          refine lv_dup hx hb d_Row_add_71 rfl ?_
          refine va_get (D := (dC, dI)) (ci := 0) (v := .int (nI bs.length)) (C := "RangeCoders$Row") (T := T_Row) (N := 2) hx hb hg in_Row hown hK hP 0 rfl rfl 0 (by decide) (hg _ k57) (fun _ h9 => h9) rfl d_Row_add_72 ?_
          refine lv_iconst (v := 1) hx hb d_Row_add_75 (by decide) ?_
          refine lv_iadd hx hb d_Row_add_76 ?_
          refine lv_topi (fun v_12 ev_12 => ?_)
          have z9 : v_12 = nI (bs ++ [x]).length := by rw [ev_12, List.length_append]; exact nI_1 _
          subst z9
          refine va_put (D := (dC, dI)) (ci := 0) (v := .int (nI (bs ++ [x]).length)) (ty := .int) (C := "RangeCoders$Row") (T := T_Row) (N := 2) hx hb hg in_Row t_Row o_Row n_Row hown hK hP hD hS 0 rfl rfl 0 (by decide) (hg _ k57) (fun _ h9 => h9) rfl (o_Row 0 (by decide)) rfl rfl (Nat.le_of_ble_eq_true rfl) d_Row_add_77 (fun H locs hP hD hS => ?_)
          have hPD : my_PD (dC, dI) vwCl A [(rr, Sum.inr (0, [Value.int (nI (bs ++ [x]).length), Value.ref qa_35])), (rra, Sum.inl (cI, rrk, Sum.inl rrf)), (qa_35, Sum.inl (cI, (2 * rrk), Sum.inl (upd qf_35 (nI bs.length).toNatClampNeg (nI x))))] H := ⟨hP, hD⟩
          have hP := hPD.1
          have hD := hPD.2
          have hrr8 : rOk (nI (bs ++ [x]).length) (2 * rrk) := rOk_of (by rw [List.length_append, List.length_singleton]; omega) (by omega) (by omega)
          exact my_vretg hx hb hr hlocks hQ hK hS (qa_35, (2 * rrk), upd qf_35 (nI bs.length).toNatClampNeg (nI x)) (show (0 + d_35) + (rPh (2 * rrk)) ≤ (rPh rrk) by omega) (show (0 + d_35) + (rPh (2 * rrk)) ≤ (rPh rrk) by omega) (⟨hrr8, gIs_up (by assumption) (nI_clamp (by omega)) rfl⟩) (hP.sub [0, 2] rfl) (hD.sub [0, 2] (by decide +kernel) rfl) d_Row_add_80
end
section
set_option maxHeartbeats 2000000 in
set_option maxRecDepth 100000 in
theorem f_Row_becomeReverseOf (l : Launch) (dC : Nat → ClassId) (dI : Nat → Nat → Nat) (cI cM cO : ClassId) (sz : Nat) (sl : Nat) (rr : Nat) (rrn : Int32) (rra : Nat) (rrk : Nat) (rrf : Nat → Int32) (rs : Nat) (rsa : Nat) (rsk : Nat) (rsf : Nat → Int32) (ws : List Nat) (hrr : rOk rrn rrk) (hrs : rOk (nI ws.length) rsk) (hGrs : gIs rsf ws) (hw : ws.length ≤ 8000) : MetVg l y_Row_becomeReverseOf (Cond.code y_Row_becomeReverseOf prog_9_method_7_code 3 none :: gw) ({ frames := 3, cells := rPh rrk, slots := rPh rrk, locals := 83 } : Room) (dC, dI) vwCl (kT cI cM cO) [Value.ref rr, Value.ref rs] [(rr, Sum.inr (0, [Value.int rrn, Value.ref rra])), (rra, Sum.inl (cI, rrk, Sum.inl rrf)), (rs, Sum.inr (0, [Value.int (nI ws.length), Value.ref rsa])), (rsa, Sum.inl (cI, rsk, Sum.inl rsf))] sz sl (fun (u : Nat × Nat × (Nat → Int32)) => rOk (nI (ws.reverse).length) u.2.1 ∧ gIs u.2.2 (ws.reverse)) (fun (u : Nat × Nat × (Nat → Int32)) => [(rr, Sum.inr (0, [Value.int (nI (ws.reverse).length), Value.ref u.1])), (u.1, Sum.inl (cI, u.2.1, Sum.inl u.2.2)), (rs, Sum.inr (0, [Value.int (nI ws.length), Value.ref rsa])), (rsa, Sum.inl (cI, rsk, Sum.inl rsf))]) (rPh rrk) (fun (u : Nat × Nat × (Nat → Int32)) => rPh u.2.1) := by
  refine my_ofVg (cc := prog_9_method_7_code) (n := 3) (ret := none) (by decide) rfl (Nat.le_of_ble_eq_true rfl) ?_
  intro p e s m args below meth c R Q A ls H locs hx hb hr hts hown hlocks hml hnm hR hQ hA hl hP hK hN hD hS
  have hg : ∀ w ∈ gw, w.before args s = true := fun w h => hts w (List.mem_cons_of_mem _ h)
  have hown : s.vm.findClass "RangeCoders$Row" = some m.cls := hown
  have hl : lv_has ls 3 [(0, Value.ref rr), (1, Value.ref rs)] := hl
  have hlt9 := rOk_lt hrr
  have hlt8 := rOk_lt hrs
  refine lv_aload_n hx hb d_Row_becomeReverseOf_0 rfl (lv_at hl 0 rfl) ?_
  refine my_cv (wr := [(rs, Sum.inr (0, [Value.int (nI ws.length), Value.ref rsa])), (rsa, Sum.inl (cI, rsk, Sum.inl rsf))]) (va_runV (As := []) (rest := []) ⟨hx, hb, hml, hown, hts⟩ (c_Row_clear l dC dI cI cM cO H.size rr rrn rra rrk rrf (by first | assumption | omega)) (cwV 0 hts (my_gV k657 k594 k595 k6 k596) rfl rfl rfl cu_Row_clear_0 ⟨by rw [hR]; exact Nat.le_of_ble_eq_true rfl, by rw [hR]; exact Nat.le_of_ble_eq_true rfl⟩) (my_preV hK hN (hP.sub [0, 1] rfl) (hD.sub [0, 1] (by decide +kernel) rfl) 0 rfl rfl) rfl rfl hl.1 rfl (lv_room (Nat.le_of_ble_eq_true rfl)) d_Row_becomeReverseOf_1 ⟨by rw [hR]; exact (show 0 + 0 ≤ (rPh rrk) by omega), by rw [hR]; exact (show 0 + 0 ≤ (rPh rrk) by omega)⟩) hP hD hS hA [0, 1] [2, 3] rfl rfl (by decide +kernel) (by decide +kernel) (fun u9 H locs hw_1 hP hD hS => ?_)
  have hr_1 : rOk 0 rrk := hw_1
  have hPD : my_PD (dC, dI) vwCl A [(rs, Sum.inr (0, [Value.int (nI ws.length), Value.ref rsa])), (rsa, Sum.inl (cI, rsk, Sum.inl rsf)), (rr, Sum.inr (0, [Value.int 0, Value.ref rra])), (rra, Sum.inl (cI, rrk, Sum.inl rrf))] H := ⟨hP, hD⟩
  have hP := hPD.1
  have hD := hPD.2
  refine lv_aload_n hx hb d_Row_becomeReverseOf_4 rfl (lv_at hl 1 rfl) ?_
  refine va_get (D := (dC, dI)) (ci := 0) (v := .int (nI ws.length)) (C := "RangeCoders$Row") (T := T_Row) (N := 2) hx hb hg in_Row hown hK hP 0 rfl rfl 0 (by decide) (hg _ k57) (fun _ h9 => h9) rfl d_Row_becomeReverseOf_5 ?_
  refine lv_iconst (v := 1) hx hb d_Row_becomeReverseOf_8 (by decide) ?_
  refine lv_isub hx hb d_Row_becomeReverseOf_9 ?_
  refine lv_topi (fun v_1 ev_1 => ?_)
  refine lv_istore_n (lv' := [(2, Value.int v_1), (0, Value.ref rr), (1, Value.ref rs)]) hx hb d_Row_becomeReverseOf_10 rfl hl (by decide) rfl (fun ls hl => ?_)
  have J_11 : ∀ (n9_11 : Nat) (i9 : Int32) (j : Nat) (b9 : List Nat) (rra9 : Nat) (rrk9 : Nat) (rrf9 : Nat → Int32) (d9 : Nat) (hn9_11 : j = n9_11) (hi : i9 + 1 = nI j) (hj : j ≤ ws.length) (hb9 : b9 = (ws.drop j).reverse) (hr9 : rOk (nI b9.length) rrk9) (hg9 : gIs rrf9 b9) (hd9 : d9 + rPh rrk9 ≤ rPh rrk) (H : Heap) (locs : List Loc) (ls : Array Slot), va_P (dC, dI) vwCl [(rs, Sum.inr (0, [Value.int (nI ws.length), Value.ref rsa])), (rsa, Sum.inl (cI, rsk, Sum.inl rsf)), (rr, Sum.inr (0, [Value.int (nI b9.length), Value.ref rra9])), (rra9, Sum.inl (cI, rrk9, Sum.inl rrf9))] H → va_D A [(rs, Sum.inr (0, [Value.int (nI ws.length), Value.ref rsa])), (rsa, Sum.inl (cI, rsk, Sum.inl rsf)), (rr, Sum.inr (0, [Value.int (nI b9.length), Value.ref rra9])), (rra9, Sum.inl (cI, rrk9, Sum.inl rrf9))] → va_S A s.heap H locs → lv_has ls 3 [(2, Value.int i9), (0, Value.ref rr), (1, Value.ref rs)] → W p l e R s m args below meth c H locs d9 d9 Q (F0 m 11 ls []) := by
    intro n9_11
    induction n9_11 using Nat.strongRecOn with
    | ind n9_11 ih9_11 =>
      intro i9 j b9 rra9 rrk9 rrf9 d9 hn9_11 hi hj hb9 hr9 hg9 hd9 H locs ls hP hD hS hl
      have hbl : b9.length = ws.length - j := by rw [hb9, List.length_reverse, List.length_drop]
      refine lv_iload_n hx hb d_Row_becomeReverseOf_11 rfl (lv_at hl 0 rfl) ?_
      refine lv_if_lt (tgt := 30) hx hb d_Row_becomeReverseOf_12 (by decide) (fun c_2 => ?_) (fun c_2 => ?_)
      · have hj0 : j = 0 := by
          rcases Nat.eq_zero_or_pos j with z | z
          · exact z
          · exact absurd (show i9 < 0 from c_2) (by rw [show i9 = nI (j - 1) from by rw [← Int32.add_sub_cancel (a := i9) (b := 1), hi]; exact pk_sub (b := 1) z]; exact nI_pos (by omega))
        have z9 : b9 = ws.reverse := by rw [hb9, hj0]; rfl
        subst z9
        exact my_vretg hx hb hr hlocks hQ hK hS (rra9, rrk9, rrf9) (show d9 + (rPh rrk9) ≤ (rPh rrk) by omega) (show d9 + (rPh rrk9) ≤ (rPh rrk) by omega) (⟨hr9, hg9⟩) (hP.sub [2, 3, 0, 1] rfl) (hD.sub [2, 3, 0, 1] (by decide +kernel) rfl) d_Row_becomeReverseOf_30
      · have hj0 : 1 ≤ j := by
          rcases Nat.eq_zero_or_pos j with z | z
          · subst z; exact absurd (show i9 < 0 by rw [show i9 = -1 from by rw [← Int32.add_sub_cancel (a := i9) (b := 1), hi]; rfl]; decide) c_2
          · exact z
        have hi9 : i9 = nI (j - 1) := by rw [← Int32.add_sub_cancel (a := i9) (b := 1), hi]; exact pk_sub (b := 1) hj0
        subst hi9
        refine lv_aload_n hx hb d_Row_becomeReverseOf_15 rfl (lv_at hl 1 rfl) ?_
        refine lv_aload_n hx hb d_Row_becomeReverseOf_16 rfl (lv_at hl 2 rfl) ?_
        refine lv_iload_n hx hb d_Row_becomeReverseOf_17 rfl (lv_at hl 0 rfl) ?_
        refine my_ci (wr := [(rr, Sum.inr (0, [Value.int (nI b9.length), Value.ref rra9])), (rra9, Sum.inl (cI, rrk9, Sum.inl rrf9))]) (va_runV (As := [Value.int (nI (j - 1))]) (rest := [Value.ref rr]) ⟨hx, hb, hml, hown, hts⟩ (f_Row_at l dC dI cI cM cO H.size rs rsa rsk rsf ws (nI (j - 1)) (hrs) (hGrs) (by omega)) (cwV 1 hts (my_gV k658 k659 k660 k6 k661) rfl rfl rfl cu_Row_at_1 ⟨by rw [hR]; exact Nat.le_of_ble_eq_true rfl, by rw [hR]; exact Nat.le_of_ble_eq_true rfl⟩) (my_preV hK hN (hP.sub [0, 1] rfl) (hD.sub [0, 1] (by decide +kernel) rfl) 0 rfl rfl) rfl rfl hl.1 rfl (lv_room (Nat.le_of_ble_eq_true rfl)) d_Row_becomeReverseOf_18 ⟨by rw [hR]; exact (show d9 + 0 ≤ (rPh rrk) by omega), by rw [hR]; exact (show d9 + 0 ≤ (rPh rrk) by omega)⟩) hP hD hS hA [0, 1] [2, 3] rfl rfl (by decide +kernel) (by decide +kernel) (fun r_18 u9 H locs hw_18 hP hD hS => ?_)
        have hr_18 : r_18 = rAt ws (nI (j - 1)) := hw_18
        have hPD : my_PD (dC, dI) vwCl A [(rr, Sum.inr (0, [Value.int (nI b9.length), Value.ref rra9])), (rra9, Sum.inl (cI, rrk9, Sum.inl rrf9)), (rs, Sum.inr (0, [Value.int (nI ws.length), Value.ref rsa])), (rsa, Sum.inl (cI, rsk, Sum.inl rsf))] H := ⟨hP, hD⟩
        have hP := hPD.1
        have hD := hPD.2
        have z9 : r_18 = nI (ws.getD (j - 1) 0) := by rw [hr_18]; exact rAt_nI (by omega) (by omega)
        subst z9
        refine my_cvg (wr := [(rs, Sum.inr (0, [Value.int (nI ws.length), Value.ref rsa])), (rsa, Sum.inl (cI, rsk, Sum.inl rsf))]) (va_runV (As := [Value.int (nI (ws.getD (j - 1) 0))]) (rest := []) ⟨hx, hb, hml, hown, hts⟩ (f_Row_add l dC dI cI cM cO H.size (hSl H) rr rra9 rrk9 rrf9 b9 (ws.getD (j - 1) 0) (hr9) (hg9) (by omega)) (cwV 1 hts (my_gV k666 k473 k474 k6 k475) rfl rfl rfl cu_Row_add_1 ⟨by rw [hR]; exact Nat.le_of_ble_eq_true rfl, by rw [hR]; exact Nat.le_of_ble_eq_true rfl⟩) (my_preVg hK hN (hP.sub [0, 1] rfl) (hD.sub [0, 1] (by decide +kernel) rfl) 0 rfl rfl) rfl rfl hl.1 rfl (lv_room (Nat.le_of_ble_eq_true rfl)) d_Row_becomeReverseOf_21 ⟨by rw [hR]; exact (show d9 + (rPh rrk9) ≤ (rPh rrk) by omega), by rw [hR]; exact (show d9 + (rPh rrk9) ≤ (rPh rrk) by omega)⟩) hP hD hS hA [0, 1] [2, 3] rfl rfl (by decide +kernel) (by decide +kernel) (fun u9 d_21 H locs hd_21 hw_21 hP hD hS => ?_)
        obtain ⟨rraq_21, rrkq_21, rrfq_21⟩ := u9
        obtain ⟨hrr_21, hGrr_21⟩ : rOk (nI (b9 ++ [(ws.getD (j - 1) 0)]).length) rrkq_21 ∧ gIs rrfq_21 (b9 ++ [(ws.getD (j - 1) 0)]) := hw_21
        have hd_21 : d_21 + (rPh rrkq_21) ≤ (rPh rrk9) := hd_21
        have hPD : my_PD (dC, dI) vwCl A [(rs, Sum.inr (0, [Value.int (nI ws.length), Value.ref rsa])), (rsa, Sum.inl (cI, rsk, Sum.inl rsf)), (rr, Sum.inr (0, [Value.int (nI (b9 ++ [(ws.getD (j - 1) 0)]).length), Value.ref rraq_21])), (rraq_21, Sum.inl (cI, rrkq_21, Sum.inl rrfq_21))] H := ⟨hP, hD⟩
        have hP := hPD.1
        have hD := hPD.2
        obtain ⟨v_3, ev_3⟩ : ∃ y : Int32, y = (nI (j - 1)) + (-1) := ⟨_, rfl⟩
        refine lv_iinc (v := v_3) (lv' := [(2, Value.int v_3), (0, Value.ref rr), (1, Value.ref rs)]) hx hb d_Row_becomeReverseOf_24 hl (k := 0) rfl (by rw [ev_3]; rfl) (by decide) rfl (fun ls hl => ?_)
        refine lv_goto (tgt := 11) hx hb d_Row_becomeReverseOf_27 (by decide) ?_
        exact ih9_11 _ (by first | omega | (omega)) v_3 (j - 1) (b9 ++ [ws.getD (j - 1) 0]) rraq_21 rrkq_21 rrfq_21 (d9 + d_21) rfl (by rw [ev_3, show nI (j - 1) + (-1) + 1 = nI (j - 1) from by rw [Int32.add_assoc, show (-1 : Int32) + 1 = 0 from by decide, Int32.add_zero]]) (by omega) (by rw [hb9]; exact rv_drop hj0 hj) (hrr_21) (hGrr_21) (by omega) H locs ls (hP.sub [0, 1, 2, 3] rfl) (hD.sub [0, 1, 2, 3] (by decide +kernel) rfl) hS (lv_sub hl [0, 1, 2] rfl)
  exact J_11 _ v_1 ws.length ([]) rra rrk rrf (0 : Nat) rfl (by rw [ev_1, Int32.sub_add_cancel]) (Nat.le_refl _) (by rw [List.drop_length]; rfl) (rOk_0 hrr) (fun i h => absurd h (Nat.not_lt_zero i)) (by omega) H locs ls (hP.sub [0, 1, 2, 3] rfl) (hD.sub [0, 1, 2, 3] (by decide +kernel) rfl) hS (lv_sub hl [0, 1, 2] rfl)
end
section
set_option maxHeartbeats 2000000 in
set_option maxRecDepth 100000 in
theorem f_Odds_hasCell (l : Launch) (dC : Nat → ClassId) (dI : Nat → Nat → Nat) (cI cM cO : ClassId) (sz : Nat) (oo : Nat) (osg : Int32) (ofc : Int32) (oca : Nat) (opa : Nat) (n : Nat) (ocf : Nat → Int32) (opl : Nat) (opf : Nat → Int32) (osm : Int32) (t : Nat) (hn : n ≤ 64) (hpl : opl ≤ 512) (ht : t < n) (hfc : ofc ≤ nI t) : MetI l y_Odds_hasCell (Cond.code y_Odds_hasCell prog_7_method_2_code 2 (some .boolean) :: gw) ({ frames := 0, cells := 0, slots := 0, locals := 0 } : Room) (dC, dI) vwCl (kT cI cM cO) [Value.ref oo, Value.int (nI t)] [(oo, Sum.inr (7, [Value.int osg, Value.int osm, Value.int ofc, Value.ref oca, Value.ref opa])), (oca, Sum.inl (cI, n, Sum.inl ocf)), (opa, Sum.inl (cI, opl, Sum.inl opf))] sz (fun (r : Int32) (u : Unit) => r = 1) (fun (u : Unit) => [(oo, Sum.inr (7, [Value.int osg, Value.int osm, Value.int ofc, Value.ref oca, Value.ref opa])), (oca, Sum.inl (cI, n, Sum.inl ocf)), (opa, Sum.inl (cI, opl, Sum.inl opf))]) 0 0 := by
  refine my_ofI (cc := prog_7_method_2_code) (n := 2) (ret := (some .boolean)) (by decide) rfl (Nat.le_of_ble_eq_true rfl) ?_
  intro p e s m args below meth c R Q A ls H locs hx hb hr hts hown hlocks hml hnm hR hQ hA hl hP hK hN hD hS
  have hg : ∀ w ∈ gw, w.before args s = true := fun w h => hts w (List.mem_cons_of_mem _ h)
  have hown : s.vm.findClass "RangeCoders$Odds" = some m.cls := hown
  have hl : lv_has ls 2 [(0, Value.ref oo), (1, Value.int (nI t))] := hl
  refine lv_iload_n hx hb d_Odds_hasCell_0 rfl (lv_at hl 1 rfl) ?_
  refine lv_aload_n hx hb d_Odds_hasCell_1 rfl (lv_at hl 0 rfl) ?_
  refine va_get (D := (dC, dI)) (ci := 7) (v := .int ofc) (C := "RangeCoders$Odds") (T := T_Odds) (N := 5) hx hb hg in_Odds hown hK hP 0 rfl rfl 2 (by decide) (hg _ k308) (fun _ h9 => h9) rfl d_Odds_hasCell_2 ?_
  refine lv_icmp_lt (tgt := 25) hx hb d_Odds_hasCell_5 (by decide) (fun c_1 => ?_) (fun c_1 => ?_)
  · exact absurd hfc (Int32.not_le.mpr c_1)
  · refine lv_iload_n hx hb d_Odds_hasCell_8 rfl (lv_at hl 1 rfl) ?_
    refine lv_if_lt (tgt := 25) hx hb d_Odds_hasCell_9 (by decide) (fun c_2 => ?_) (fun c_2 => ?_)
    · exact absurd c_2 (nI_pos (by omega))
    · refine lv_iload_n hx hb d_Odds_hasCell_12 rfl (lv_at hl 1 rfl) ?_
      refine lv_aload_n hx hb d_Odds_hasCell_13 rfl (lv_at hl 0 rfl) ?_
      refine va_get (D := (dC, dI)) (ci := 7) (v := .ref oca) (C := "RangeCoders$Odds") (T := T_Odds) (N := 5) hx hb hg in_Odds hown hK hP 0 rfl rfl 3 (by decide) (hg _ k309) (fun _ h9 => h9) rfl d_Odds_hasCell_14 ?_
      refine va_alen hx hb hK hP 1 0 rfl rfl (v := nI n) rfl d_Odds_hasCell_17 ?_
      refine lv_icmp_ge (tgt := 25) hx hb d_Odds_hasCell_18 (by decide) (fun c_3 => ?_) (fun c_3 => ?_)
      · exact absurd c_3 (nI_ge ht (by omega))
      · refine lv_iconst (v := 1) hx hb d_Odds_hasCell_21 (by decide) ?_
        refine lv_goto (tgt := 26) hx hb d_Odds_hasCell_22 (by decide) ?_
        exact my_iret (v := 1) hx hb hr (rfl) hlocks hQ hK hS (Nat.le_refl _) (Nat.le_refl _) () (rfl) (hP.sub [0, 1, 2] rfl) (hD.sub [0, 1, 2] (by decide +kernel) rfl) d_Odds_hasCell_26
set_option maxHeartbeats 2000000 in
set_option maxRecDepth 100000 in
theorem f_Odds_at (l : Launch) (dC : Nat → ClassId) (dI : Nat → Nat → Nat) (cI cM cO : ClassId) (sz : Nat) (oo : Nat) (osg : Int32) (ofc : Int32) (oca : Nat) (opa : Nat) (n : Nat) (ocf : Nat → Int32) (opl : Nat) (opf : Nat → Int32) (osm : Int32) (t : Nat) (hn : n ≤ 64) (hpl : opl ≤ 512) (ht : t < n) (hfc : ofc ≤ nI t) : MetI l y_Odds_at (Cond.code y_Odds_at prog_7_method_3_code 2 (some .int) :: gw) ({ frames := 1, cells := 0, slots := 0, locals := 21 } : Room) (dC, dI) vwCl (kT cI cM cO) [Value.ref oo, Value.int (nI t)] [(oo, Sum.inr (7, [Value.int osg, Value.int osm, Value.int ofc, Value.ref oca, Value.ref opa])), (oca, Sum.inl (cI, n, Sum.inl ocf)), (opa, Sum.inl (cI, opl, Sum.inl opf))] sz (fun (r : Int32) (u : Unit) => r = ocf t) (fun (u : Unit) => [(oo, Sum.inr (7, [Value.int osg, Value.int osm, Value.int ofc, Value.ref oca, Value.ref opa])), (oca, Sum.inl (cI, n, Sum.inl ocf)), (opa, Sum.inl (cI, opl, Sum.inl opf))]) 0 0 := by
  refine my_ofI (cc := prog_7_method_3_code) (n := 2) (ret := (some .int)) (by decide) rfl (Nat.le_of_ble_eq_true rfl) ?_
  intro p e s m args below meth c R Q A ls H locs hx hb hr hts hown hlocks hml hnm hR hQ hA hl hP hK hN hD hS
  have hg : ∀ w ∈ gw, w.before args s = true := fun w h => hts w (List.mem_cons_of_mem _ h)
  have hown : s.vm.findClass "RangeCoders$Odds" = some m.cls := hown
  have hl : lv_has ls 2 [(0, Value.ref oo), (1, Value.int (nI t))] := hl
  refine lv_aload_n hx hb d_Odds_at_0 rfl (lv_at hl 0 rfl) ?_
  refine lv_iload_n hx hb d_Odds_at_1 rfl (lv_at hl 1 rfl) ?_
  refine my_ci (wr := []) (va_runV (As := [Value.int (nI t)]) (rest := []) ⟨hx, hb, hml, hown, hts⟩ (f_Odds_hasCell l dC dI cI cM cO H.size oo osg ofc oca opa n ocf opl opf osm t (by first | assumption | omega) (by first | assumption | omega) (by first | assumption | omega) (by first | assumption | omega)) (cwV 1 hts (my_gV k396 k397 k398 k14 k399) rfl rfl rfl cu_Odds_hasCell_1 ⟨by rw [hR]; exact Nat.le_of_ble_eq_true rfl, by rw [hR]; exact Nat.le_of_ble_eq_true rfl⟩) (my_preV hK hN (hP.sub [0, 1, 2] rfl) (hD.sub [0, 1, 2] (by decide +kernel) rfl) 0 rfl rfl) rfl rfl hl.1 rfl (lv_room (Nat.le_of_ble_eq_true rfl)) d_Odds_at_2 ⟨by rw [hR]; exact Nat.le_of_ble_eq_true rfl, by rw [hR]; exact Nat.le_of_ble_eq_true rfl⟩) hP hD hS hA [0, 1, 2] [] rfl rfl (by decide +kernel) (by decide +kernel) (fun r_2 u9 H locs hw_2 hP hD hS => ?_)
  have hr_2 : r_2 = 1 := hw_2
  have hPD : my_PD (dC, dI) vwCl A [(oo, Sum.inr (7, [Value.int osg, Value.int osm, Value.int ofc, Value.ref oca, Value.ref opa])), (oca, Sum.inl (cI, n, Sum.inl ocf)), (opa, Sum.inl (cI, opl, Sum.inl opf))] H := ⟨hP, hD⟩
  have hP := hPD.1
  have hD := hPD.2
  refine lv_if_eq (tgt := 17) hx hb d_Odds_at_5 (by decide) (fun c_1 => ?_) (fun c_1 => ?_)
  · exact absurd (hr_2.symm.trans c_1) (by decide)
  · refine lv_aload_n hx hb d_Odds_at_8 rfl (lv_at hl 0 rfl) ?_
    refine va_get (D := (dC, dI)) (ci := 7) (v := .ref oca) (C := "RangeCoders$Odds") (T := T_Odds) (N := 5) hx hb hg in_Odds hown hK hP 0 rfl rfl 3 (by decide) (hg _ k309) (fun _ h9 => h9) rfl d_Odds_at_9 ?_
    refine lv_iload_n hx hb d_Odds_at_12 rfl (lv_at hl 1 rfl) ?_
    refine va_iald hx hb hK hP 1 0 rfl rfl (vp_in_nI ht (by omega)) d_Odds_at_13 ?_
    refine lv_topi (fun v_2 ev_2 => ?_)
    refine lv_goto (tgt := 18) hx hb d_Odds_at_14 (by decide) ?_
    exact my_iret (v := v_2) hx hb hr (rfl) hlocks hQ hK hS (Nat.le_refl _) (Nat.le_refl _) () (by rw [ev_2, nI_clamp (by omega)]) (hP.sub [0, 1, 2] rfl) (hD.sub [0, 1, 2] (by decide +kernel) rfl) d_Odds_at_18
set_option maxHeartbeats 2000000 in
set_option maxRecDepth 100000 in
theorem f_Odds_grow (l : Launch) (dC : Nat → ClassId) (dI : Nat → Nat → Nat) (cI cM cO : ClassId) (sz : Nat) (oo : Nat) (osg : Int32) (ofc : Int32) (oca : Nat) (opa : Nat) (n : Nat) (ocf : Nat → Int32) (opl : Nat) (opf : Nat → Int32) (osm : Int32) (t : Nat) (vv : Int32) (hn : n ≤ 64) (hpl : opl ≤ 512) (ht : t < n) (hfc : ofc ≤ nI t) : MetV l y_Odds_grow (Cond.code y_Odds_grow prog_7_method_4_code 3 none :: gw) ({ frames := 1, cells := 0, slots := 0, locals := 21 } : Room) (dC, dI) vwCl (kT cI cM cO) [Value.ref oo, Value.int (nI t), Value.int vv] [(oo, Sum.inr (7, [Value.int osg, Value.int osm, Value.int ofc, Value.ref oca, Value.ref opa])), (oca, Sum.inl (cI, n, Sum.inl ocf)), (opa, Sum.inl (cI, opl, Sum.inl opf))] sz (fun (u : (Nat → Int32)) => u = upd ocf t (ocf t + vv)) (fun (u : (Nat → Int32)) => [(oo, Sum.inr (7, [Value.int osg, Value.int (osm + vv), Value.int ofc, Value.ref oca, Value.ref opa])), (oca, Sum.inl (cI, n, Sum.inl u)), (opa, Sum.inl (cI, opl, Sum.inl opf))]) 0 0 := by
  refine my_ofV (cc := prog_7_method_4_code) (n := 3) (ret := none) (by decide) rfl (Nat.le_of_ble_eq_true rfl) ?_
  intro p e s m args below meth c R Q A ls H locs hx hb hr hts hown hlocks hml hnm hR hQ hA hl hP hK hN hD hS
  have hg : ∀ w ∈ gw, w.before args s = true := fun w h => hts w (List.mem_cons_of_mem _ h)
  have hown : s.vm.findClass "RangeCoders$Odds" = some m.cls := hown
  have hl : lv_has ls 3 [(0, Value.ref oo), (1, Value.int (nI t)), (2, Value.int vv)] := hl
  refine lv_aload_n hx hb d_Odds_grow_0 rfl (lv_at hl 0 rfl) ?_
  refine lv_iload_n hx hb d_Odds_grow_1 rfl (lv_at hl 1 rfl) ?_
  refine my_ci (wr := []) (va_runV (As := [Value.int (nI t)]) (rest := []) ⟨hx, hb, hml, hown, hts⟩ (f_Odds_hasCell l dC dI cI cM cO H.size oo osg ofc oca opa n ocf opl opf osm t (by first | assumption | omega) (by first | assumption | omega) (by first | assumption | omega) (by first | assumption | omega)) (cwV 1 hts (my_gV k396 k397 k398 k14 k399) rfl rfl rfl cu_Odds_hasCell_1 ⟨by rw [hR]; exact Nat.le_of_ble_eq_true rfl, by rw [hR]; exact Nat.le_of_ble_eq_true rfl⟩) (my_preV hK hN (hP.sub [0, 1, 2] rfl) (hD.sub [0, 1, 2] (by decide +kernel) rfl) 0 rfl rfl) rfl rfl hl.1 rfl (lv_room (Nat.le_of_ble_eq_true rfl)) d_Odds_grow_2 ⟨by rw [hR]; exact Nat.le_of_ble_eq_true rfl, by rw [hR]; exact Nat.le_of_ble_eq_true rfl⟩) hP hD hS hA [0, 1, 2] [] rfl rfl (by decide +kernel) (by decide +kernel) (fun r_2 u9 H locs hw_2 hP hD hS => ?_)
  have hr_2 : r_2 = 1 := hw_2
  have hPD : my_PD (dC, dI) vwCl A [(oo, Sum.inr (7, [Value.int osg, Value.int osm, Value.int ofc, Value.ref oca, Value.ref opa])), (oca, Sum.inl (cI, n, Sum.inl ocf)), (opa, Sum.inl (cI, opl, Sum.inl opf))] H := ⟨hP, hD⟩
  have hP := hPD.1
  have hD := hPD.2
  refine lv_if_eq (tgt := 28) hx hb d_Odds_grow_5 (by decide) (fun c_1 => ?_) (fun c_1 => ?_)
  · exact absurd (hr_2.symm.trans c_1) (by decide)
  · refine lv_aload_n hx hb d_Odds_grow_8 rfl (lv_at hl 0 rfl) ?_
    refine va_get (D := (dC, dI)) (ci := 7) (v := .ref oca) (C := "RangeCoders$Odds") (T := T_Odds) (N := 5) hx hb hg in_Odds hown hK hP 0 rfl rfl 3 (by decide) (hg _ k309) (fun _ h9 => h9) rfl d_Odds_grow_9 ?_
    refine lv_iload_n hx hb d_Odds_grow_12 rfl (lv_at hl 1 rfl) ?_
    refine lv_dup2_11 hx hb d_Odds_grow_13 rfl rfl ?_
    refine va_iald hx hb hK hP 1 0 rfl rfl (vp_in_nI ht (by omega)) d_Odds_grow_14 ?_
    refine lv_topi (fun v_2 ev_2 => ?_)
    refine lv_iload_n hx hb d_Odds_grow_15 rfl (lv_at hl 2 rfl) ?_
    refine lv_iadd hx hb d_Odds_grow_16 ?_
    refine lv_topi (fun v_3 ev_3 => ?_)
    have z9 : v_3 = ocf t + vv := by subst_vars; rw [nI_clamp (by omega)]
    subst z9
    refine va_iast hx hb hK hP hD hS 1 0 rfl rfl (vp_in_nI ht (by omega)) d_Odds_grow_17 (fun H locs hP hD hS => ?_)
    have hPD : my_PD (dC, dI) vwCl A [(oo, Sum.inr (7, [Value.int osg, Value.int osm, Value.int ofc, Value.ref oca, Value.ref opa])), (oca, Sum.inl (cI, n, Sum.inl (upd ocf (nI t).toNatClampNeg (ocf t + vv)))), (opa, Sum.inl (cI, opl, Sum.inl opf))] H := ⟨hP, hD⟩
    have hP := hPD.1
    have hD := hPD.2
    refine lv_aload_n hx hb d_Odds_grow_18 rfl (lv_at hl 0 rfl) ?_
    refine lv_dup hx hb d_Odds_grow_19 rfl ?_
    refine va_get (D := (dC, dI)) (ci := 7) (v := .int osm) (C := "RangeCoders$Odds") (T := T_Odds) (N := 5) hx hb hg in_Odds hown hK hP 0 rfl rfl 1 (by decide) (hg _ k305) (fun _ h9 => h9) rfl d_Odds_grow_20 ?_
    refine lv_iload_n hx hb d_Odds_grow_23 rfl (lv_at hl 2 rfl) ?_
    refine lv_iadd hx hb d_Odds_grow_24 ?_
    refine lv_topi (fun v_4 ev_4 => ?_)
    have z9 : v_4 = osm + vv := ev_4
    subst z9
    refine va_put (D := (dC, dI)) (ci := 7) (v := .int (osm + vv)) (ty := .int) (C := "RangeCoders$Odds") (T := T_Odds) (N := 5) hx hb hg in_Odds t_Odds o_Odds n_Odds hown hK hP hD hS 0 rfl rfl 1 (by decide) (hg _ k305) (fun _ h9 => h9) rfl (o_Odds 1 (by decide)) rfl rfl (Nat.le_of_ble_eq_true rfl) d_Odds_grow_25 (fun H locs hP hD hS => ?_)
    have hPD : my_PD (dC, dI) vwCl A [(oo, Sum.inr (7, [Value.int osg, Value.int (osm + vv), Value.int ofc, Value.ref oca, Value.ref opa])), (oca, Sum.inl (cI, n, Sum.inl (upd ocf (nI t).toNatClampNeg (ocf t + vv)))), (opa, Sum.inl (cI, opl, Sum.inl opf))] H := ⟨hP, hD⟩
    have hP := hPD.1
    have hD := hPD.2
    exact my_vret hx hb hr hlocks hQ hK hS (Nat.le_refl _) (Nat.le_refl _) (upd ocf (nI t).toNatClampNeg (ocf t + vv)) (by rw [nI_clamp (by omega)]) (hP.sub [0, 1, 2] rfl) (hD.sub [0, 1, 2] (by decide +kernel) rfl) d_Odds_grow_28
set_option maxHeartbeats 2000000 in
set_option maxRecDepth 100000 in
theorem f_Odds_fill (l : Launch) (dC : Nat → ClassId) (dI : Nat → Nat → Nat) (cI cM cO : ClassId) (sz : Nat) (oo : Nat) (osg : Int32) (ofc : Int32) (oca : Nat) (opa : Nat) (n : Nat) (ocf : Nat → Int32) (opl : Nat) (opf : Nat → Int32) (osm : Int32) (vn : Nat) (hn : n ≤ 64) (hpl : opl ≤ 512) : MetV l y_Odds_fill (Cond.code y_Odds_fill prog_7_method_5_code 2 none :: gw) ({ frames := 1, cells := 0, slots := 0, locals := 23 } : Room) (dC, dI) vwCl (kT cI cM cO) [Value.ref oo, Value.int (nI vn)] [(oo, Sum.inr (7, [Value.int osg, Value.int osm, Value.int ofc, Value.ref oca, Value.ref opa])), (oca, Sum.inl (cI, n, Sum.inl ocf)), (opa, Sum.inl (cI, opl, Sum.inl opf))] sz (fun (u : (Nat → Int32)) => tbI u n (fun _ => vn)) (fun (u : (Nat → Int32)) => [(oo, Sum.inr (7, [Value.int osg, Value.int (nI (vn * n)), Value.int ofc, Value.ref oca, Value.ref opa])), (oca, Sum.inl (cI, n, Sum.inl u)), (opa, Sum.inl (cI, opl, Sum.inl opf))]) 0 0 := by
  refine my_ofV (cc := prog_7_method_5_code) (n := 2) (ret := none) (by decide) rfl (Nat.le_of_ble_eq_true rfl) ?_
  intro p e s m args below meth c R Q A ls H locs hx hb hr hts hown hlocks hml hnm hR hQ hA hl hP hK hN hD hS
  have hg : ∀ w ∈ gw, w.before args s = true := fun w h => hts w (List.mem_cons_of_mem _ h)
  have hown : s.vm.findClass "RangeCoders$Odds" = some m.cls := hown
  have hl : lv_has ls 2 [(0, Value.ref oo), (1, Value.int (nI vn))] := hl
  refine lv_aload_n hx hb d_Odds_fill_0 rfl (lv_at hl 0 rfl) ?_
  refine va_get (D := (dC, dI)) (ci := 7) (v := .ref oca) (C := "RangeCoders$Odds") (T := T_Odds) (N := 5) hx hb hg in_Odds hown hK hP 0 rfl rfl 3 (by decide) (hg _ k309) (fun _ h9 => h9) rfl d_Odds_fill_1 ?_
  refine lv_iload_n hx hb d_Odds_fill_4 rfl (lv_at hl 1 rfl) ?_
  refine my_cv (wr := [(oo, Sum.inr (7, [Value.int osg, Value.int osm, Value.int ofc, Value.ref oca, Value.ref opa])), (opa, Sum.inl (cI, opl, Sum.inl opf))]) (va_runS (As := [Value.ref oca, Value.int (nI vn)]) (rest := []) ⟨hx, hb, hml, hown, hts⟩ (f_Arrays_fill l dC dI cI cM cO H.size oca n ocf vn (by omega)) (my_cwS2 2 hts (my_gC k339) rfl rfl rfl (hg _ k15) (hg _ k363) (hg _ k338) (by decide +kernel) ⟨by rw [hR]; exact Nat.le_of_ble_eq_true rfl, by rw [hR]; exact Nat.le_of_ble_eq_true rfl⟩) (my_pre hK hN (hP.sub [1] rfl) (hD.sub [1] (by decide +kernel) rfl)) rfl rfl hl.1 rfl (lv_room (Nat.le_of_ble_eq_true rfl)) d_Odds_fill_5 ⟨by rw [hR]; exact Nat.le_of_ble_eq_true rfl, by rw [hR]; exact Nat.le_of_ble_eq_true rfl⟩) hP hD hS hA [1] [0, 2] rfl rfl (by decide +kernel) (by decide +kernel) (fun u9 H locs hw_5 hP hD hS => ?_)
  obtain ⟨afq_5, rfl⟩ : ∃ z, z = u9 := ⟨_, rfl⟩
  have hf_5 : tbI afq_5 n (fun _ => vn) := hw_5
  have hPD : my_PD (dC, dI) vwCl A [(oo, Sum.inr (7, [Value.int osg, Value.int osm, Value.int ofc, Value.ref oca, Value.ref opa])), (opa, Sum.inl (cI, opl, Sum.inl opf)), (oca, Sum.inl (cI, n, Sum.inl afq_5))] H := ⟨hP, hD⟩
  have hP := hPD.1
  have hD := hPD.2
  refine lv_aload_n hx hb d_Odds_fill_8 rfl (lv_at hl 0 rfl) ?_
  refine lv_iload_n hx hb d_Odds_fill_9 rfl (lv_at hl 1 rfl) ?_
  refine lv_aload_n hx hb d_Odds_fill_10 rfl (lv_at hl 0 rfl) ?_
  refine va_get (D := (dC, dI)) (ci := 7) (v := .ref oca) (C := "RangeCoders$Odds") (T := T_Odds) (N := 5) hx hb hg in_Odds hown hK hP 0 rfl rfl 3 (by decide) (hg _ k309) (fun _ h9 => h9) rfl d_Odds_fill_11 ?_
  refine va_alen hx hb hK hP 2 0 rfl rfl (v := nI n) rfl d_Odds_fill_14 ?_
  refine lv_imul hx hb d_Odds_fill_15 ?_
  refine lv_topi (fun v_1 ev_1 => ?_)
  have z9 : v_1 = nI (vn * n) := by rw [ev_1]; exact pk_mul _ _
  subst z9
  refine va_put (D := (dC, dI)) (ci := 7) (v := .int (nI (vn * n))) (ty := .int) (C := "RangeCoders$Odds") (T := T_Odds) (N := 5) hx hb hg in_Odds t_Odds o_Odds n_Odds hown hK hP hD hS 0 rfl rfl 1 (by decide) (hg _ k305) (fun _ h9 => h9) rfl (o_Odds 1 (by decide)) rfl rfl (Nat.le_of_ble_eq_true rfl) d_Odds_fill_16 (fun H locs hP hD hS => ?_)
  have hPD : my_PD (dC, dI) vwCl A [(oo, Sum.inr (7, [Value.int osg, Value.int (nI (vn * n)), Value.int ofc, Value.ref oca, Value.ref opa])), (opa, Sum.inl (cI, opl, Sum.inl opf)), (oca, Sum.inl (cI, n, Sum.inl afq_5))] H := ⟨hP, hD⟩
  have hP := hPD.1
  have hD := hPD.2
  exact my_vret hx hb hr hlocks hQ hK hS (Nat.le_refl _) (Nat.le_refl _) (afq_5) (hf_5) (hP.sub [0, 2, 1] rfl) (hD.sub [0, 2, 1] (by decide +kernel) rfl) d_Odds_fill_19
set_option maxHeartbeats 2000000 in
set_option maxRecDepth 100000 in
theorem f_Odds_copyCounts (l : Launch) (dC : Nat → ClassId) (dI : Nat → Nat → Nat) (cI cM cO : ClassId) (sz : Nat) (oo : Nat) (osg : Int32) (ofc : Int32) (oca : Nat) (opa : Nat) (n : Nat) (ocf : Nat → Int32) (opl : Nat) (opf : Nat → Int32) (osm : Int32) (ka : Nat) (kf : Nat → Int32) (C : Nat → Nat) (hn : n ≤ 64) (hpl : opl ≤ 512) (hk : tbI kf n C) (hB : bd C n 4095) : MetV l y_Odds_copyCounts (Cond.code y_Odds_copyCounts prog_7_method_15_code 3 none :: gw) ({ frames := 0, cells := 0, slots := 0, locals := 0 } : Room) (dC, dI) vwCl (kT cI cM cO) [Value.ref oo, Value.ref ka] [(oo, Sum.inr (7, [Value.int osg, Value.int osm, Value.int ofc, Value.ref oca, Value.ref opa])), (oca, Sum.inl (cI, n, Sum.inl ocf)), (opa, Sum.inl (cI, opl, Sum.inl opf)), (ka, Sum.inl (cI, n, Sum.inl kf))] sz (fun (u : (Nat → Int32)) => tbI u n C) (fun (u : (Nat → Int32)) => [(oo, Sum.inr (7, [Value.int osg, Value.int (nI (ns C n)), Value.int ofc, Value.ref oca, Value.ref opa])), (oca, Sum.inl (cI, n, Sum.inl u)), (opa, Sum.inl (cI, opl, Sum.inl opf)), (ka, Sum.inl (cI, n, Sum.inl kf))]) 0 0 := by
  refine my_ofV (cc := prog_7_method_15_code) (n := 3) (ret := none) (by decide) rfl (Nat.le_of_ble_eq_true rfl) ?_
  intro p e s m args below meth c R Q A ls H locs hx hb hr hts hown hlocks hml hnm hR hQ hA hl hP hK hN hD hS
  have hg : ∀ w ∈ gw, w.before args s = true := fun w h => hts w (List.mem_cons_of_mem _ h)
  have hown : s.vm.findClass "RangeCoders$Odds" = some m.cls := hown
  have hl : lv_has ls 3 [(0, Value.ref oo), (1, Value.ref ka)] := hl
  refine lv_aload_n hx hb d_Odds_copyCounts_0 rfl (lv_at hl 0 rfl) ?_
  refine lv_iconst (v := 0) hx hb d_Odds_copyCounts_1 (by decide) ?_
  refine va_put (D := (dC, dI)) (ci := 7) (v := .int 0) (ty := .int) (C := "RangeCoders$Odds") (T := T_Odds) (N := 5) hx hb hg in_Odds t_Odds o_Odds n_Odds hown hK hP hD hS 0 rfl rfl 1 (by decide) (hg _ k305) (fun _ h9 => h9) rfl (o_Odds 1 (by decide)) rfl rfl (Nat.le_of_ble_eq_true rfl) d_Odds_copyCounts_2 (fun H locs hP hD hS => ?_)
  have hPD : my_PD (dC, dI) vwCl A [(oo, Sum.inr (7, [Value.int osg, Value.int 0, Value.int ofc, Value.ref oca, Value.ref opa])), (oca, Sum.inl (cI, n, Sum.inl ocf)), (opa, Sum.inl (cI, opl, Sum.inl opf)), (ka, Sum.inl (cI, n, Sum.inl kf))] H := ⟨hP, hD⟩
  have hP := hPD.1
  have hD := hPD.2
  refine lv_iconst (v := 0) hx hb d_Odds_copyCounts_5 (by decide) ?_
  refine lv_istore_n (lv' := [(2, Value.int 0), (0, Value.ref oo), (1, Value.ref ka)]) hx hb d_Odds_copyCounts_6 rfl hl (by decide) rfl (fun ls hl => ?_)
  have J_7 : ∀ (n9_7 : Nat) (j : Nat) (fL : Nat → Int32) (hn9_7 : n - j = n9_7) (hj : j ≤ n) (hL : tbI fL j C) (H : Heap) (locs : List Loc) (ls : Array Slot), va_P (dC, dI) vwCl [(oo, Sum.inr (7, [Value.int osg, Value.int (nI (ns C j)), Value.int ofc, Value.ref oca, Value.ref opa])), (oca, Sum.inl (cI, n, Sum.inl fL)), (opa, Sum.inl (cI, opl, Sum.inl opf)), (ka, Sum.inl (cI, n, Sum.inl kf))] H → va_D A [(oo, Sum.inr (7, [Value.int osg, Value.int (nI (ns C j)), Value.int ofc, Value.ref oca, Value.ref opa])), (oca, Sum.inl (cI, n, Sum.inl fL)), (opa, Sum.inl (cI, opl, Sum.inl opf)), (ka, Sum.inl (cI, n, Sum.inl kf))] → va_S A s.heap H locs → lv_has ls 3 [(2, Value.int (nI j)), (0, Value.ref oo), (1, Value.ref ka)] → W p l e R s m args below meth c H locs 0 0 Q (F0 m 7 ls []) := by
    intro n9_7
    induction n9_7 using Nat.strongRecOn with
    | ind n9_7 ih9_7 =>
      intro j fL hn9_7 hj hL H locs ls hP hD hS hl
      refine lv_iload_n hx hb d_Odds_copyCounts_7 rfl (lv_at hl 0 rfl) ?_
      refine lv_aload_n hx hb d_Odds_copyCounts_8 rfl (lv_at hl 1 rfl) ?_
      refine va_get (D := (dC, dI)) (ci := 7) (v := .ref oca) (C := "RangeCoders$Odds") (T := T_Odds) (N := 5) hx hb hg in_Odds hown hK hP 0 rfl rfl 3 (by decide) (hg _ k309) (fun _ h9 => h9) rfl d_Odds_copyCounts_9 ?_
      refine va_alen hx hb hK hP 1 0 rfl rfl (v := nI n) rfl d_Odds_copyCounts_12 ?_
      refine lv_icmp_ge (tgt := 49) hx hb d_Odds_copyCounts_13 (by decide) (fun c_1 => ?_) (fun c_1 => ?_)
      · have hj3 : n = j := by have := nI_ge' (by omega) (by omega) c_1; omega
        subst hj3
        have hPD : my_PD (dC, dI) vwCl A [(oo, Sum.inr (7, [Value.int osg, Value.int (nI (ns C n)), Value.int ofc, Value.ref oca, Value.ref opa])), (oca, Sum.inl (cI, n, Sum.inl fL)), (opa, Sum.inl (cI, opl, Sum.inl opf)), (ka, Sum.inl (cI, n, Sum.inl kf))] H := ⟨hP, hD⟩
        have hP := hPD.1
        have hD := hPD.2
        exact my_vret hx hb hr hlocks hQ hK hS (Nat.le_refl _) (Nat.le_refl _) (fL) (hL) (hP.sub [0, 1, 2, 3] rfl) (hD.sub [0, 1, 2, 3] (by decide +kernel) rfl) d_Odds_copyCounts_49
      · have hj2 : j < n := nI_lt' (by omega) c_1
        refine lv_iload_n hx hb d_Odds_copyCounts_16 rfl (lv_at hl 0 rfl) ?_
        refine lv_aload_n hx hb d_Odds_copyCounts_17 rfl (lv_at hl 2 rfl) ?_
        refine va_alen hx hb hK hP 3 0 rfl rfl (v := nI n) rfl d_Odds_copyCounts_18 ?_
        refine lv_icmp_ge (tgt := 49) hx hb d_Odds_copyCounts_19 (by decide) (fun c_2 => ?_) (fun c_2 => ?_)
        · exact absurd c_2 (nI_ge hj2 (by omega))
        · refine lv_aload_n hx hb d_Odds_copyCounts_22 rfl (lv_at hl 1 rfl) ?_
          refine va_get (D := (dC, dI)) (ci := 7) (v := .ref oca) (C := "RangeCoders$Odds") (T := T_Odds) (N := 5) hx hb hg in_Odds hown hK hP 0 rfl rfl 3 (by decide) (hg _ k309) (fun _ h9 => h9) rfl d_Odds_copyCounts_23 ?_
          refine lv_iload_n hx hb d_Odds_copyCounts_26 rfl (lv_at hl 0 rfl) ?_
          refine lv_aload_n hx hb d_Odds_copyCounts_27 rfl (lv_at hl 2 rfl) ?_
          refine lv_iload_n hx hb d_Odds_copyCounts_28 rfl (lv_at hl 0 rfl) ?_
          refine va_iald hx hb hK hP 3 0 rfl rfl (vp_in_nI hj2 (by omega)) d_Odds_copyCounts_29 ?_
          refine lv_topi (fun v_3 ev_3 => ?_)
          refine va_iast hx hb hK hP hD hS 1 0 rfl rfl (vp_in_nI hj2 (by omega)) d_Odds_copyCounts_30 (fun H locs hP hD hS => ?_)
          have hPD : my_PD (dC, dI) vwCl A [(oo, Sum.inr (7, [Value.int osg, Value.int (nI (ns C j)), Value.int ofc, Value.ref oca, Value.ref opa])), (oca, Sum.inl (cI, n, Sum.inl (upd fL (nI j).toNatClampNeg v_3))), (opa, Sum.inl (cI, opl, Sum.inl opf)), (ka, Sum.inl (cI, n, Sum.inl kf))] H := ⟨hP, hD⟩
          have hP := hPD.1
          have hD := hPD.2
          have hL8 : tbI (upd fL (nI j).toNatClampNeg v_3) (j + 1) C := tb_add hL (nI_clamp (by omega)) (by subst_vars; exact tb_rd hk hj2 (by omega))
          refine lv_aload_n hx hb d_Odds_copyCounts_31 rfl (lv_at hl 1 rfl) ?_
          refine lv_dup hx hb d_Odds_copyCounts_32 rfl ?_
          refine va_get (D := (dC, dI)) (ci := 7) (v := .int (nI (ns C j))) (C := "RangeCoders$Odds") (T := T_Odds) (N := 5) hx hb hg in_Odds hown hK hP 0 rfl rfl 1 (by decide) (hg _ k305) (fun _ h9 => h9) rfl d_Odds_copyCounts_33 ?_
          refine lv_aload_n hx hb d_Odds_copyCounts_36 rfl (lv_at hl 2 rfl) ?_
          refine lv_iload_n hx hb d_Odds_copyCounts_37 rfl (lv_at hl 0 rfl) ?_
          refine va_iald hx hb hK hP 3 0 rfl rfl (vp_in_nI hj2 (by omega)) d_Odds_copyCounts_38 ?_
          refine lv_topi (fun v_4 ev_4 => ?_)
          refine lv_iadd hx hb d_Odds_copyCounts_39 ?_
          refine lv_topi (fun v_5 ev_5 => ?_)
          have z9 : v_5 = nI (ns C (j + 1)) := by subst_vars; rw [tb_rd hk hj2 (by omega), nI_add]; rfl
          subst z9
          refine va_put (D := (dC, dI)) (ci := 7) (v := .int (nI (ns C (j + 1)))) (ty := .int) (C := "RangeCoders$Odds") (T := T_Odds) (N := 5) hx hb hg in_Odds t_Odds o_Odds n_Odds hown hK hP hD hS 0 rfl rfl 1 (by decide) (hg _ k305) (fun _ h9 => h9) rfl (o_Odds 1 (by decide)) rfl rfl (Nat.le_of_ble_eq_true rfl) d_Odds_copyCounts_40 (fun H locs hP hD hS => ?_)
          have hPD : my_PD (dC, dI) vwCl A [(oo, Sum.inr (7, [Value.int osg, Value.int (nI (ns C (j + 1))), Value.int ofc, Value.ref oca, Value.ref opa])), (oca, Sum.inl (cI, n, Sum.inl (upd fL (nI j).toNatClampNeg v_3))), (opa, Sum.inl (cI, opl, Sum.inl opf)), (ka, Sum.inl (cI, n, Sum.inl kf))] H := ⟨hP, hD⟩
          have hP := hPD.1
          have hD := hPD.2
          obtain ⟨v_6, ev_6⟩ : ∃ y : Int32, y = (nI j) + (1) := ⟨_, rfl⟩
          refine lv_iinc (v := v_6) (lv' := [(2, Value.int v_6), (0, Value.ref oo), (1, Value.ref ka)]) hx hb d_Odds_copyCounts_43 hl (k := 0) rfl (by rw [ev_6]; rfl) (by decide) rfl (fun ls hl => ?_)
          have z9 : v_6 = nI (j + 1) := by rw [ev_6]; exact nI_1 _
          subst z9
          refine lv_goto (tgt := 7) hx hb d_Odds_copyCounts_46 (by decide) ?_
          exact ih9_7 _ (by first | omega | (omega)) (j + 1) (upd fL (nI j).toNatClampNeg v_3) rfl (by omega) (hL8) H locs ls (hP.sub [0, 1, 2, 3] rfl) (hD.sub [0, 1, 2, 3] (by decide +kernel) rfl) hS (lv_sub hl [0, 1, 2] rfl)
  exact J_7 _ (0 : Nat) ocf rfl (Nat.zero_le _) (tbI_0 _ _) H locs ls (hP.sub [0, 1, 2, 3] rfl) (hD.sub [0, 1, 2, 3] (by decide +kernel) rfl) hS (lv_sub hl [0, 1, 2] rfl)
set_option maxHeartbeats 2000000 in
set_option maxRecDepth 100000 in
theorem f_Odds_halve (l : Launch) (dC : Nat → ClassId) (dI : Nat → Nat → Nat) (cI cM cO : ClassId) (sz : Nat) (oo : Nat) (osg : Int32) (ofc : Int32) (oca : Nat) (opa : Nat) (n : Nat) (ocf : Nat → Int32) (opl : Nat) (opf : Nat → Int32) (F : Nat → Nat) (osm : Int32) (hn : n ≤ 64) (hpl : opl ≤ 512) (hf : tbI ocf n F) (hB : bd F n 1000000) : MetV l y_Odds_halve (Cond.code y_Odds_halve prog_7_method_16_code 2 none :: gw) ({ frames := 0, cells := 0, slots := 0, locals := 0 } : Room) (dC, dI) vwCl (kT cI cM cO) [Value.ref oo] [(oo, Sum.inr (7, [Value.int osg, Value.int osm, Value.int ofc, Value.ref oca, Value.ref opa])), (oca, Sum.inl (cI, n, Sum.inl ocf)), (opa, Sum.inl (cI, opl, Sum.inl opf))] sz (fun (u : (Nat → Int32)) => tbI u n (hv F)) (fun (u : (Nat → Int32)) => [(oo, Sum.inr (7, [Value.int osg, Value.int (nI (ns (hv F) n)), Value.int ofc, Value.ref oca, Value.ref opa])), (oca, Sum.inl (cI, n, Sum.inl u)), (opa, Sum.inl (cI, opl, Sum.inl opf))]) 0 0 := by
  refine my_ofV (cc := prog_7_method_16_code) (n := 2) (ret := none) (by decide) rfl (Nat.le_of_ble_eq_true rfl) ?_
  intro p e s m args below meth c R Q A ls H locs hx hb hr hts hown hlocks hml hnm hR hQ hA hl hP hK hN hD hS
  have hg : ∀ w ∈ gw, w.before args s = true := fun w h => hts w (List.mem_cons_of_mem _ h)
  have hown : s.vm.findClass "RangeCoders$Odds" = some m.cls := hown
  have hl : lv_has ls 2 [(0, Value.ref oo)] := hl
  refine lv_aload_n hx hb d_Odds_halve_0 rfl (lv_at hl 0 rfl) ?_
  refine lv_iconst (v := 0) hx hb d_Odds_halve_1 (by decide) ?_
  refine va_put (D := (dC, dI)) (ci := 7) (v := .int 0) (ty := .int) (C := "RangeCoders$Odds") (T := T_Odds) (N := 5) hx hb hg in_Odds t_Odds o_Odds n_Odds hown hK hP hD hS 0 rfl rfl 1 (by decide) (hg _ k305) (fun _ h9 => h9) rfl (o_Odds 1 (by decide)) rfl rfl (Nat.le_of_ble_eq_true rfl) d_Odds_halve_2 (fun H locs hP hD hS => ?_)
  have hPD : my_PD (dC, dI) vwCl A [(oo, Sum.inr (7, [Value.int osg, Value.int 0, Value.int ofc, Value.ref oca, Value.ref opa])), (oca, Sum.inl (cI, n, Sum.inl ocf)), (opa, Sum.inl (cI, opl, Sum.inl opf))] H := ⟨hP, hD⟩
  have hP := hPD.1
  have hD := hPD.2
  refine lv_iconst (v := 0) hx hb d_Odds_halve_5 (by decide) ?_
  refine lv_istore_n (lv' := [(1, Value.int 0), (0, Value.ref oo)]) hx hb d_Odds_halve_6 rfl hl (by decide) rfl (fun ls hl => ?_)
  have J_7 : ∀ (n9_7 : Nat) (j : Nat) (fL : Nat → Int32) (hn9_7 : n - j = n9_7) (hj : j ≤ n) (hL : tbL fL n j (hv F) F) (H : Heap) (locs : List Loc) (ls : Array Slot), va_P (dC, dI) vwCl [(oo, Sum.inr (7, [Value.int osg, Value.int (nI (ns (hv F) j)), Value.int ofc, Value.ref oca, Value.ref opa])), (oca, Sum.inl (cI, n, Sum.inl fL)), (opa, Sum.inl (cI, opl, Sum.inl opf))] H → va_D A [(oo, Sum.inr (7, [Value.int osg, Value.int (nI (ns (hv F) j)), Value.int ofc, Value.ref oca, Value.ref opa])), (oca, Sum.inl (cI, n, Sum.inl fL)), (opa, Sum.inl (cI, opl, Sum.inl opf))] → va_S A s.heap H locs → lv_has ls 2 [(1, Value.int (nI j)), (0, Value.ref oo)] → W p l e R s m args below meth c H locs 0 0 Q (F0 m 7 ls []) := by
    intro n9_7
    induction n9_7 using Nat.strongRecOn with
    | ind n9_7 ih9_7 =>
      intro j fL hn9_7 hj hL H locs ls hP hD hS hl
      refine lv_iload_n hx hb d_Odds_halve_7 rfl (lv_at hl 0 rfl) ?_
      refine lv_aload_n hx hb d_Odds_halve_8 rfl (lv_at hl 1 rfl) ?_
      refine va_get (D := (dC, dI)) (ci := 7) (v := .ref oca) (C := "RangeCoders$Odds") (T := T_Odds) (N := 5) hx hb hg in_Odds hown hK hP 0 rfl rfl 3 (by decide) (hg _ k309) (fun _ h9 => h9) rfl d_Odds_halve_9 ?_
      refine va_alen hx hb hK hP 1 0 rfl rfl (v := nI n) rfl d_Odds_halve_12 ?_
      refine lv_icmp_ge (tgt := 53) hx hb d_Odds_halve_13 (by decide) (fun c_1 => ?_) (fun c_1 => ?_)
      · have hj3 : n = j := by have := nI_ge' (by omega) (by omega) c_1; omega
        subst hj3
        have hPD : my_PD (dC, dI) vwCl A [(oo, Sum.inr (7, [Value.int osg, Value.int (nI (ns (hv F) n)), Value.int ofc, Value.ref oca, Value.ref opa])), (oca, Sum.inl (cI, n, Sum.inl fL)), (opa, Sum.inl (cI, opl, Sum.inl opf))] H := ⟨hP, hD⟩
        have hP := hPD.1
        have hD := hPD.2
        exact my_vret hx hb hr hlocks hQ hK hS (Nat.le_refl _) (Nat.le_refl _) (fL) (hL.1) (hP.sub [0, 1, 2] rfl) (hD.sub [0, 1, 2] (by decide +kernel) rfl) d_Odds_halve_53
      · have hj2 : j < n := nI_lt' (by omega) c_1
        have hb9 := hB j hj2
        refine lv_aload_n hx hb d_Odds_halve_16 rfl (lv_at hl 1 rfl) ?_
        refine va_get (D := (dC, dI)) (ci := 7) (v := .ref oca) (C := "RangeCoders$Odds") (T := T_Odds) (N := 5) hx hb hg in_Odds hown hK hP 0 rfl rfl 3 (by decide) (hg _ k309) (fun _ h9 => h9) rfl d_Odds_halve_17 ?_
        refine lv_iload_n hx hb d_Odds_halve_20 rfl (lv_at hl 0 rfl) ?_
        refine lv_aload_n hx hb d_Odds_halve_21 rfl (lv_at hl 1 rfl) ?_
        refine va_get (D := (dC, dI)) (ci := 7) (v := .ref oca) (C := "RangeCoders$Odds") (T := T_Odds) (N := 5) hx hb hg in_Odds hown hK hP 0 rfl rfl 3 (by decide) (hg _ k309) (fun _ h9 => h9) rfl d_Odds_halve_22 ?_
        refine lv_iload_n hx hb d_Odds_halve_25 rfl (lv_at hl 0 rfl) ?_
        refine va_iald hx hb hK hP 1 0 rfl rfl (vp_in_nI hj2 (by omega)) d_Odds_halve_26 ?_
        refine lv_topi (fun v_2 ev_2 => ?_)
        refine lv_iconst (v := 1) hx hb d_Odds_halve_27 (by decide) ?_
        refine lv_iadd hx hb d_Odds_halve_28 ?_
        refine lv_topi (fun v_3 ev_3 => ?_)
        refine lv_iconst (v := 2) hx hb d_Odds_halve_29 (by decide) ?_
        refine lv_idiv hx hb d_Odds_halve_30 (by decide) ?_
        refine lv_topi (fun v_4 ev_4 => ?_)
        have hval : v_4 = nI (hv F j) := by
          subst_vars
          rw [tb_rd2 hL hj2 (by omega)]
          exact (congrArg (· / (2 : Int32)) (nI_1 (F j))).trans (pk_div (d := 2) (by omega) (by decide) (by decide))
        refine va_iast hx hb hK hP hD hS 1 0 rfl rfl (vp_in_nI hj2 (by omega)) d_Odds_halve_31 (fun H locs hP hD hS => ?_)
        have hPD : my_PD (dC, dI) vwCl A [(oo, Sum.inr (7, [Value.int osg, Value.int (nI (ns (hv F) j)), Value.int ofc, Value.ref oca, Value.ref opa])), (oca, Sum.inl (cI, n, Sum.inl (upd fL (nI j).toNatClampNeg v_4))), (opa, Sum.inl (cI, opl, Sum.inl opf))] H := ⟨hP, hD⟩
        have hP := hPD.1
        have hD := hPD.2
        have hL8 : tbL (upd fL (nI j).toNatClampNeg v_4) n (j + 1) (hv F) F := tbL_st hL (nI_clamp (by omega)) hval
        refine lv_aload_n hx hb d_Odds_halve_32 rfl (lv_at hl 1 rfl) ?_
        refine lv_dup hx hb d_Odds_halve_33 rfl ?_
        refine va_get (D := (dC, dI)) (ci := 7) (v := .int (nI (ns (hv F) j))) (C := "RangeCoders$Odds") (T := T_Odds) (N := 5) hx hb hg in_Odds hown hK hP 0 rfl rfl 1 (by decide) (hg _ k305) (fun _ h9 => h9) rfl d_Odds_halve_34 ?_
        refine lv_aload_n hx hb d_Odds_halve_37 rfl (lv_at hl 1 rfl) ?_
        refine va_get (D := (dC, dI)) (ci := 7) (v := .ref oca) (C := "RangeCoders$Odds") (T := T_Odds) (N := 5) hx hb hg in_Odds hown hK hP 0 rfl rfl 3 (by decide) (hg _ k309) (fun _ h9 => h9) rfl d_Odds_halve_38 ?_
        refine lv_iload_n hx hb d_Odds_halve_41 rfl (lv_at hl 0 rfl) ?_
        refine va_iald hx hb hK hP 1 0 rfl rfl (vp_in_nI hj2 (by omega)) d_Odds_halve_42 ?_
        refine lv_topi (fun v_5 ev_5 => ?_)
        have z9 : v_5 = nI (hv F j) := by rw [ev_5]; exact tb_rd hL8.1 (Nat.lt_succ_self _) (by omega)
        subst z9
        refine lv_iadd hx hb d_Odds_halve_43 ?_
        refine lv_topi (fun v_6 ev_6 => ?_)
        have z9 : v_6 = nI (ns (hv F) (j + 1)) := by rw [ev_6]; exact nI_add _ _
        subst z9
        refine va_put (D := (dC, dI)) (ci := 7) (v := .int (nI (ns (hv F) (j + 1)))) (ty := .int) (C := "RangeCoders$Odds") (T := T_Odds) (N := 5) hx hb hg in_Odds t_Odds o_Odds n_Odds hown hK hP hD hS 0 rfl rfl 1 (by decide) (hg _ k305) (fun _ h9 => h9) rfl (o_Odds 1 (by decide)) rfl rfl (Nat.le_of_ble_eq_true rfl) d_Odds_halve_44 (fun H locs hP hD hS => ?_)
        have hPD : my_PD (dC, dI) vwCl A [(oo, Sum.inr (7, [Value.int osg, Value.int (nI (ns (hv F) (j + 1))), Value.int ofc, Value.ref oca, Value.ref opa])), (oca, Sum.inl (cI, n, Sum.inl (upd fL (nI j).toNatClampNeg v_4))), (opa, Sum.inl (cI, opl, Sum.inl opf))] H := ⟨hP, hD⟩
        have hP := hPD.1
        have hD := hPD.2
        obtain ⟨v_7, ev_7⟩ : ∃ y : Int32, y = (nI j) + (1) := ⟨_, rfl⟩
        refine lv_iinc (v := v_7) (lv' := [(1, Value.int v_7), (0, Value.ref oo)]) hx hb d_Odds_halve_47 hl (k := 0) rfl (by rw [ev_7]; rfl) (by decide) rfl (fun ls hl => ?_)
        have z9 : v_7 = nI (j + 1) := by rw [ev_7]; exact nI_1 _
        subst z9
        refine lv_goto (tgt := 7) hx hb d_Odds_halve_50 (by decide) ?_
        exact ih9_7 _ (by first | omega | (omega)) (j + 1) (upd fL (nI j).toNatClampNeg v_4) rfl (by omega) (hL8) H locs ls (hP.sub [0, 1, 2] rfl) (hD.sub [0, 1, 2] (by decide +kernel) rfl) hS (lv_sub hl [0, 1] rfl)
  exact J_7 _ (0 : Nat) ocf rfl (Nat.zero_le _) (tbL_0 hf) H locs ls (hP.sub [0, 1, 2] rfl) (hD.sub [0, 1, 2] (by decide +kernel) rfl) hS (lv_sub hl [0, 1] rfl)
set_option maxHeartbeats 2000000 in
set_option maxRecDepth 100000 in
theorem f_Odds_below (l : Launch) (dC : Nat → ClassId) (dI : Nat → Nat → Nat) (cI cM cO : ClassId) (sz : Nat) (oo : Nat) (osg : Int32) (ofc : Int32) (oca : Nat) (opa : Nat) (n : Nat) (ocf : Nat → Int32) (opl : Nat) (opf : Nat → Int32) (F : Nat → Nat) (osm : Int32) (t : Nat) (hn : n ≤ 64) (hpl : opl ≤ 512) (hf : tbI ocf n F) (ht : t ≤ n) : MetI l y_Odds_below (Cond.code y_Odds_below prog_7_method_8_code 4 (some .int) :: gw) ({ frames := 0, cells := 0, slots := 0, locals := 0 } : Room) (dC, dI) vwCl (kT cI cM cO) [Value.ref oo, Value.int (nI t)] [(oo, Sum.inr (7, [Value.int osg, Value.int osm, Value.int ofc, Value.ref oca, Value.ref opa])), (oca, Sum.inl (cI, n, Sum.inl ocf)), (opa, Sum.inl (cI, opl, Sum.inl opf))] sz (fun (r : Int32) (u : Unit) => r = nI (ns F t)) (fun (u : Unit) => [(oo, Sum.inr (7, [Value.int osg, Value.int osm, Value.int ofc, Value.ref oca, Value.ref opa])), (oca, Sum.inl (cI, n, Sum.inl ocf)), (opa, Sum.inl (cI, opl, Sum.inl opf))]) 0 0 := by
  refine my_ofI (cc := prog_7_method_8_code) (n := 4) (ret := (some .int)) (by decide) rfl (Nat.le_of_ble_eq_true rfl) ?_
  intro p e s m args below meth c R Q A ls H locs hx hb hr hts hown hlocks hml hnm hR hQ hA hl hP hK hN hD hS
  have hg : ∀ w ∈ gw, w.before args s = true := fun w h => hts w (List.mem_cons_of_mem _ h)
  have hown : s.vm.findClass "RangeCoders$Odds" = some m.cls := hown
  have hl : lv_has ls 4 [(0, Value.ref oo), (1, Value.int (nI t))] := hl
  refine lv_iconst (v := 0) hx hb d_Odds_below_0 (by decide) ?_
  refine lv_istore_n (lv' := [(2, Value.int 0), (0, Value.ref oo), (1, Value.int (nI t))]) hx hb d_Odds_below_1 rfl hl (by decide) rfl (fun ls hl => ?_)
  refine lv_iconst (v := 0) hx hb d_Odds_below_2 (by decide) ?_
  refine lv_istore_n (lv' := [(3, Value.int 0), (2, Value.int 0), (0, Value.ref oo), (1, Value.int (nI t))]) hx hb d_Odds_below_3 rfl hl (by decide) rfl (fun ls hl => ?_)
  have J_4 : ∀ (n9_4 : Nat) (j : Nat) (hn9_4 : t - j = n9_4) (hj : j ≤ t) (H : Heap) (locs : List Loc) (ls : Array Slot), va_P (dC, dI) vwCl [(oo, Sum.inr (7, [Value.int osg, Value.int osm, Value.int ofc, Value.ref oca, Value.ref opa])), (oca, Sum.inl (cI, n, Sum.inl ocf)), (opa, Sum.inl (cI, opl, Sum.inl opf))] H → va_D A [(oo, Sum.inr (7, [Value.int osg, Value.int osm, Value.int ofc, Value.ref oca, Value.ref opa])), (oca, Sum.inl (cI, n, Sum.inl ocf)), (opa, Sum.inl (cI, opl, Sum.inl opf))] → va_S A s.heap H locs → lv_has ls 4 [(3, Value.int (nI j)), (2, Value.int (nI (ns F j))), (0, Value.ref oo), (1, Value.int (nI t))] → W p l e R s m args below meth c H locs 0 0 Q (F0 m 4 ls []) := by
    intro n9_4
    induction n9_4 using Nat.strongRecOn with
    | ind n9_4 ih9_4 =>
      intro j hn9_4 hj H locs ls hP hD hS hl
      refine lv_iload_n hx hb d_Odds_below_4 rfl (lv_at hl 0 rfl) ?_
      refine lv_iload_n hx hb d_Odds_below_5 rfl (lv_at hl 3 rfl) ?_
      refine lv_icmp_ge (tgt := 33) hx hb d_Odds_below_6 (by decide) (fun c_1 => ?_) (fun c_1 => ?_)
      · have hj3 : j = t := by have := nI_ge' (by omega) (by omega) c_1; omega
        refine lv_iload_n hx hb d_Odds_below_33 rfl (lv_at hl 1 rfl) ?_
        exact my_iret (v := nI (ns F j)) hx hb hr (rfl) hlocks hQ hK hS (Nat.le_refl _) (Nat.le_refl _) () (by rw [hj3]) (hP.sub [0, 1, 2] rfl) (hD.sub [0, 1, 2] (by decide +kernel) rfl) d_Odds_below_34
      · have hj2 : j < t := nI_lt' (by omega) c_1
        refine lv_iload_n hx hb d_Odds_below_9 rfl (lv_at hl 0 rfl) ?_
        refine lv_aload_n hx hb d_Odds_below_10 rfl (lv_at hl 2 rfl) ?_
        refine va_get (D := (dC, dI)) (ci := 7) (v := .ref oca) (C := "RangeCoders$Odds") (T := T_Odds) (N := 5) hx hb hg in_Odds hown hK hP 0 rfl rfl 3 (by decide) (hg _ k309) (fun _ h9 => h9) rfl d_Odds_below_11 ?_
        refine va_alen hx hb hK hP 1 0 rfl rfl (v := nI n) rfl d_Odds_below_14 ?_
        refine lv_icmp_ge (tgt := 33) hx hb d_Odds_below_15 (by decide) (fun c_2 => ?_) (fun c_2 => ?_)
        · exact absurd c_2 (nI_ge (show j < n by omega) (by omega))
        · refine lv_iload_n hx hb d_Odds_below_18 rfl (lv_at hl 1 rfl) ?_
          refine lv_aload_n hx hb d_Odds_below_19 rfl (lv_at hl 2 rfl) ?_
          refine va_get (D := (dC, dI)) (ci := 7) (v := .ref oca) (C := "RangeCoders$Odds") (T := T_Odds) (N := 5) hx hb hg in_Odds hown hK hP 0 rfl rfl 3 (by decide) (hg _ k309) (fun _ h9 => h9) rfl d_Odds_below_20 ?_
          refine lv_iload_n hx hb d_Odds_below_23 rfl (lv_at hl 0 rfl) ?_
          refine va_iald hx hb hK hP 1 0 rfl rfl (vp_in_nI (by omega) (by omega)) d_Odds_below_24 ?_
          refine lv_topi (fun v_3 ev_3 => ?_)
          refine lv_iadd hx hb d_Odds_below_25 ?_
          refine lv_topi (fun v_4 ev_4 => ?_)
          have z9 : v_4 = nI (ns F (j + 1)) := by subst_vars; rw [tb_rd hf (show j < n by omega) (by omega), nI_add]; rfl
          subst z9
          refine lv_istore_n (lv' := [(2, Value.int (nI (ns F (j + 1)))), (3, Value.int (nI j)), (0, Value.ref oo), (1, Value.int (nI t))]) hx hb d_Odds_below_26 rfl hl (by decide) rfl (fun ls hl => ?_)
          obtain ⟨v_5, ev_5⟩ : ∃ y : Int32, y = (nI j) + (1) := ⟨_, rfl⟩
          refine lv_iinc (v := v_5) (lv' := [(3, Value.int v_5), (2, Value.int (nI (ns F (j + 1)))), (0, Value.ref oo), (1, Value.int (nI t))]) hx hb d_Odds_below_27 hl (k := 1) rfl (by rw [ev_5]; rfl) (by decide) rfl (fun ls hl => ?_)
          have z9 : v_5 = nI (j + 1) := by rw [ev_5]; exact nI_1 _
          subst z9
          refine lv_goto (tgt := 4) hx hb d_Odds_below_30 (by decide) ?_
          exact ih9_4 _ (by first | omega | (omega)) (j + 1) rfl (by omega) H locs ls (hP.sub [0, 1, 2] rfl) (hD.sub [0, 1, 2] (by decide +kernel) rfl) hS (lv_sub hl [0, 1, 2, 3] rfl)
  exact J_4 _ (0 : Nat) rfl (Nat.zero_le _) H locs ls (hP.sub [0, 1, 2] rfl) (hD.sub [0, 1, 2] (by decide +kernel) rfl) hS (lv_sub hl [0, 1, 2, 3] rfl)
set_option maxHeartbeats 2000000 in
set_option maxRecDepth 100000 in
theorem f_Odds_greatest (l : Launch) (dC : Nat → ClassId) (dI : Nat → Nat → Nat) (cI cM cO : ClassId) (sz : Nat) (oo : Nat) (osg : Int32) (ofc : Int32) (oca : Nat) (opa : Nat) (n : Nat) (ocf : Nat → Int32) (opl : Nat) (opf : Nat → Int32) (F : Nat → Nat) (osm : Int32) (hn : n ≤ 64) (hpl : opl ≤ 512) (hf : tbI ocf n F) (hn1 : 1 ≤ n) (hB : bd F n 1000000) : MetI l y_Odds_greatest (Cond.code y_Odds_greatest prog_7_method_17_code 3 (some .int) :: gw) ({ frames := 0, cells := 0, slots := 0, locals := 0 } : Room) (dC, dI) vwCl (kT cI cM cO) [Value.ref oo] [(oo, Sum.inr (7, [Value.int osg, Value.int osm, Value.int ofc, Value.ref oca, Value.ref opa])), (oca, Sum.inl (cI, n, Sum.inl ocf)), (opa, Sum.inl (cI, opl, Sum.inl opf))] sz (fun (r : Int32) (u : Unit) => r = nI (gr F n)) (fun (u : Unit) => [(oo, Sum.inr (7, [Value.int osg, Value.int osm, Value.int ofc, Value.ref oca, Value.ref opa])), (oca, Sum.inl (cI, n, Sum.inl ocf)), (opa, Sum.inl (cI, opl, Sum.inl opf))]) 0 0 := by
  refine my_ofI (cc := prog_7_method_17_code) (n := 3) (ret := (some .int)) (by decide) rfl (Nat.le_of_ble_eq_true rfl) ?_
  intro p e s m args below meth c R Q A ls H locs hx hb hr hts hown hlocks hml hnm hR hQ hA hl hP hK hN hD hS
  have hg : ∀ w ∈ gw, w.before args s = true := fun w h => hts w (List.mem_cons_of_mem _ h)
  have hown : s.vm.findClass "RangeCoders$Odds" = some m.cls := hown
  have hl : lv_has ls 3 [(0, Value.ref oo)] := hl
  refine lv_iconst (v := 0) hx hb d_Odds_greatest_0 (by decide) ?_
  refine lv_istore_n (lv' := [(1, Value.int 0), (0, Value.ref oo)]) hx hb d_Odds_greatest_1 rfl hl (by decide) rfl (fun ls hl => ?_)
  refine lv_iconst (v := 1) hx hb d_Odds_greatest_2 (by decide) ?_
  refine lv_istore_n (lv' := [(2, Value.int 1), (1, Value.int 0), (0, Value.ref oo)]) hx hb d_Odds_greatest_3 rfl hl (by decide) rfl (fun ls hl => ?_)
  have J_4 : ∀ (n9_4 : Nat) (j : Nat) (g9 : Nat) (hn9_4 : n - j = n9_4) (hg9 : g9 = gr F j) (hj : j ≤ n) (hj1 : 0 < j) (H : Heap) (locs : List Loc) (ls : Array Slot), va_P (dC, dI) vwCl [(oo, Sum.inr (7, [Value.int osg, Value.int osm, Value.int ofc, Value.ref oca, Value.ref opa])), (oca, Sum.inl (cI, n, Sum.inl ocf)), (opa, Sum.inl (cI, opl, Sum.inl opf))] H → va_D A [(oo, Sum.inr (7, [Value.int osg, Value.int osm, Value.int ofc, Value.ref oca, Value.ref opa])), (oca, Sum.inl (cI, n, Sum.inl ocf)), (opa, Sum.inl (cI, opl, Sum.inl opf))] → va_S A s.heap H locs → lv_has ls 3 [(2, Value.int (nI j)), (1, Value.int (nI g9)), (0, Value.ref oo)] → W p l e R s m args below meth c H locs 0 0 Q (F0 m 4 ls []) := by
    intro n9_4
    induction n9_4 using Nat.strongRecOn with
    | ind n9_4 ih9_4 =>
      intro j g9 hn9_4 hg9 hj hj1 H locs ls hP hD hS hl
      refine lv_iload_n hx hb d_Odds_greatest_4 rfl (lv_at hl 0 rfl) ?_
      refine lv_aload_n hx hb d_Odds_greatest_5 rfl (lv_at hl 2 rfl) ?_
      refine va_get (D := (dC, dI)) (ci := 7) (v := .ref oca) (C := "RangeCoders$Odds") (T := T_Odds) (N := 5) hx hb hg in_Odds hown hK hP 0 rfl rfl 3 (by decide) (hg _ k309) (fun _ h9 => h9) rfl d_Odds_greatest_6 ?_
      refine va_alen hx hb hK hP 1 0 rfl rfl (v := nI n) rfl d_Odds_greatest_9 ?_
      refine lv_icmp_ge (tgt := 36) hx hb d_Odds_greatest_10 (by decide) (fun c_1 => ?_) (fun c_1 => ?_)
      · have hj3 : j = n := by have := nI_ge' (by omega) (by omega) c_1; omega
        refine lv_iload_n hx hb d_Odds_greatest_36 rfl (lv_at hl 1 rfl) ?_
        exact my_iret (v := nI g9) hx hb hr (rfl) hlocks hQ hK hS (Nat.le_refl _) (Nat.le_refl _) () (by rw [hg9, hj3]) (hP.sub [0, 1, 2] rfl) (hD.sub [0, 1, 2] (by decide +kernel) rfl) d_Odds_greatest_37
      · have hj2 : j < n := nI_lt' (by omega) c_1
        have hg1 : g9 < j := by rw [hg9]; exact gr_lt F hj1
        have hb1 := hB j hj2
        have hb2 := hB g9 (by omega)
        refine lv_aload_n hx hb d_Odds_greatest_13 rfl (lv_at hl 2 rfl) ?_
        refine va_get (D := (dC, dI)) (ci := 7) (v := .ref oca) (C := "RangeCoders$Odds") (T := T_Odds) (N := 5) hx hb hg in_Odds hown hK hP 0 rfl rfl 3 (by decide) (hg _ k309) (fun _ h9 => h9) rfl d_Odds_greatest_14 ?_
        refine lv_iload_n hx hb d_Odds_greatest_17 rfl (lv_at hl 0 rfl) ?_
        refine va_iald hx hb hK hP 1 0 rfl rfl (vp_in_nI hj2 (by omega)) d_Odds_greatest_18 ?_
        refine lv_topi (fun v_2 ev_2 => ?_)
        have hld : v_2 = nI (F j) := by rw [ev_2]; exact tb_rd hf hj2 (by omega)
        refine lv_aload_n hx hb d_Odds_greatest_19 rfl (lv_at hl 2 rfl) ?_
        refine va_get (D := (dC, dI)) (ci := 7) (v := .ref oca) (C := "RangeCoders$Odds") (T := T_Odds) (N := 5) hx hb hg in_Odds hown hK hP 0 rfl rfl 3 (by decide) (hg _ k309) (fun _ h9 => h9) rfl d_Odds_greatest_20 ?_
        refine lv_iload_n hx hb d_Odds_greatest_23 rfl (lv_at hl 1 rfl) ?_
        refine va_iald hx hb hK hP 1 0 rfl rfl (vp_in_nI (show g9 < n by omega) (by omega)) d_Odds_greatest_24 ?_
        refine lv_topi (fun v_3 ev_3 => ?_)
        have hlg : v_3 = nI (F g9) := by rw [ev_3]; exact tb_rd hf (show g9 < n by omega) (by omega)
        refine lv_icmp_le (tgt := 30) hx hb d_Odds_greatest_25 (by decide) (fun c_4 => ?_) (fun c_4 => ?_)
        · obtain ⟨v_5, ev_5⟩ : ∃ y : Int32, y = (nI j) + (1) := ⟨_, rfl⟩
          refine lv_iinc (v := v_5) (lv' := [(2, Value.int v_5), (1, Value.int (nI g9)), (0, Value.ref oo)]) hx hb d_Odds_greatest_30 hl (k := 0) rfl (by rw [ev_5]; rfl) (by decide) rfl (fun ls hl => ?_)
          have z9 : v_5 = nI (j + 1) := by rw [ev_5]; exact nI_1 _
          subst z9
          refine lv_goto (tgt := 4) hx hb d_Odds_greatest_33 (by decide) ?_
          exact ih9_4 _ (by first | omega | (omega)) (j + 1) g9 rfl (by rw [gr]; rw [if_neg (by rw [hld, hlg, nI_cmp (by omega) (by omega)] at c_4; rw [← hg9]; omega)]; exact hg9) (by omega) (by omega) H locs ls (hP.sub [0, 1, 2] rfl) (hD.sub [0, 1, 2] (by decide +kernel) rfl) hS (lv_sub hl [0, 1, 2] rfl)
        · refine lv_iload_n hx hb d_Odds_greatest_28 rfl (lv_at hl 0 rfl) ?_
          refine lv_istore_n (lv' := [(1, Value.int (nI j)), (2, Value.int (nI j)), (0, Value.ref oo)]) hx hb d_Odds_greatest_29 rfl hl (by decide) rfl (fun ls hl => ?_)
          obtain ⟨v_6, ev_6⟩ : ∃ y : Int32, y = (nI j) + (1) := ⟨_, rfl⟩
          refine lv_iinc (v := v_6) (lv' := [(2, Value.int v_6), (1, Value.int (nI j)), (0, Value.ref oo)]) hx hb d_Odds_greatest_30 hl (k := 1) rfl (by rw [ev_6]; rfl) (by decide) rfl (fun ls hl => ?_)
          have z9 : v_6 = nI (j + 1) := by rw [ev_6]; exact nI_1 _
          subst z9
          refine lv_goto (tgt := 4) hx hb d_Odds_greatest_33 (by decide) ?_
          exact ih9_4 _ (by first | omega | (omega)) (j + 1) j rfl (by rw [gr]; rw [if_pos (by rw [hld, hlg, nI_cmp (by omega) (by omega)] at c_4; rw [← hg9]; omega)]) (by omega) (by omega) H locs ls (hP.sub [0, 1, 2] rfl) (hD.sub [0, 1, 2] (by decide +kernel) rfl) hS (lv_sub hl [0, 1, 2] rfl)
  exact J_4 _ (1 : Nat) (0 : Nat) rfl (by simp [gr]) (hn1) (by decide) H locs ls (hP.sub [0, 1, 2] rfl) (hD.sub [0, 1, 2] (by decide +kernel) rfl) hS (lv_sub hl [0, 1, 2] rfl)
set_option maxHeartbeats 2000000 in
set_option maxRecDepth 100000 in
theorem f_Odds_fromCounts (l : Launch) (dC : Nat → ClassId) (dI : Nat → Nat → Nat) (cI cM cO : ClassId) (sz : Nat) (oo : Nat) (osg : Int32) (ofc : Int32) (oca : Nat) (opa : Nat) (n : Nat) (ocf : Nat → Int32) (opl : Nat) (opf : Nat → Int32) (osm : Int32) (ka : Nat) (kf : Nat → Int32) (C : Nat → Nat) (hn : n ≤ 64) (hpl : opl ≤ 512) (hk : tbI kf n C) (hB : bd C n 4095) : MetV l y_Odds_fromCounts (Cond.code y_Odds_fromCounts prog_7_method_6_code 3 none :: gw) ({ frames := 1, cells := 0, slots := 0, locals := 22 } : Room) (dC, dI) vwCl (kT cI cM cO) [Value.ref oo, Value.ref ka] [(oo, Sum.inr (7, [Value.int osg, Value.int osm, Value.int ofc, Value.ref oca, Value.ref opa])), (oca, Sum.inl (cI, n, Sum.inl ocf)), (opa, Sum.inl (cI, opl, Sum.inl opf)), (ka, Sum.inl (cI, n, Sum.inl kf))] sz (fun (u : (Nat → Int32)) => tbI u n (les n C)) (fun (u : (Nat → Int32)) => [(oo, Sum.inr (7, [Value.int osg, Value.int (nI (ns (les n C) n)), Value.int ofc, Value.ref oca, Value.ref opa])), (oca, Sum.inl (cI, n, Sum.inl u)), (opa, Sum.inl (cI, opl, Sum.inl opf)), (ka, Sum.inl (cI, n, Sum.inl kf))]) 0 0 := by
  refine my_ofV (cc := prog_7_method_6_code) (n := 3) (ret := none) (by decide) rfl (Nat.le_of_ble_eq_true rfl) ?_
  intro p e s m args below meth c R Q A ls H locs hx hb hr hts hown hlocks hml hnm hR hQ hA hl hP hK hN hD hS
  have hg : ∀ w ∈ gw, w.before args s = true := fun w h => hts w (List.mem_cons_of_mem _ h)
  have hown : s.vm.findClass "RangeCoders$Odds" = some m.cls := hown
  have hl : lv_has ls 3 [(0, Value.ref oo), (1, Value.ref ka)] := hl
  refine lv_aload_n hx hb d_Odds_fromCounts_0 rfl (lv_at hl 0 rfl) ?_
  refine lv_aload_n hx hb d_Odds_fromCounts_1 rfl (lv_at hl 1 rfl) ?_
  refine my_cv (wr := []) (va_runV (As := [Value.ref ka]) (rest := []) ⟨hx, hb, hml, hown, hts⟩ (f_Odds_copyCounts l dC dI cI cM cO H.size oo osg ofc oca opa n ocf opl opf osm ka kf C (by first | assumption | omega) (by first | assumption | omega) (by first | assumption | omega) (by first | assumption | omega)) (cwV 1 hts (my_gV k371 k373 ks0 k14 k374) rfl rfl rfl cu_Odds_copyCounts_1 ⟨by rw [hR]; exact Nat.le_of_ble_eq_true rfl, by rw [hR]; exact Nat.le_of_ble_eq_true rfl⟩) (my_preV hK hN (hP.sub [0, 1, 2, 3] rfl) (hD.sub [0, 1, 2, 3] (by decide +kernel) rfl) 0 rfl rfl) rfl rfl hl.1 rfl (lv_room (Nat.le_of_ble_eq_true rfl)) d_Odds_fromCounts_2 ⟨by rw [hR]; exact Nat.le_of_ble_eq_true rfl, by rw [hR]; exact Nat.le_of_ble_eq_true rfl⟩) hP hD hS hA [0, 1, 2, 3] [] rfl rfl (by decide +kernel) (by decide +kernel) (fun u9 H locs hw_2 hP hD hS => ?_)
  obtain ⟨ocfq_2, rfl⟩ : ∃ z, z = u9 := ⟨_, rfl⟩
  have hf_2 : tbI ocfq_2 n C := hw_2
  have hPD : my_PD (dC, dI) vwCl A [(oo, Sum.inr (7, [Value.int osg, Value.int (nI (ns C n)), Value.int ofc, Value.ref oca, Value.ref opa])), (oca, Sum.inl (cI, n, Sum.inl ocfq_2)), (opa, Sum.inl (cI, opl, Sum.inl opf)), (ka, Sum.inl (cI, n, Sum.inl kf))] H := ⟨hP, hD⟩
  have hP := hPD.1
  have hD := hPD.2
  refine lv_iconst (v := 0) hx hb d_Odds_fromCounts_5 (by decide) ?_
  refine lv_istore_n (lv' := [(2, Value.int 0), (0, Value.ref oo), (1, Value.ref ka)]) hx hb d_Odds_fromCounts_6 rfl hl (by decide) rfl (fun ls hl => ?_)
  have J_7 : ∀ (n9_7 : Nat) (r9 : Nat) (F9 : Nat → Nat) (fL : Nat → Int32) (hn9_7 : r9 = n9_7) (hI : tbI fL n F9) (hE : les n C = lesN n r9 F9) (hbF : bd F9 n (lb r9)) (hr1 : 27 ≤ r9) (hr2 : r9 ≤ 32) (H : Heap) (locs : List Loc) (ls : Array Slot), va_P (dC, dI) vwCl [(oo, Sum.inr (7, [Value.int osg, Value.int (nI (ns F9 n)), Value.int ofc, Value.ref oca, Value.ref opa])), (oca, Sum.inl (cI, n, Sum.inl fL)), (opa, Sum.inl (cI, opl, Sum.inl opf)), (ka, Sum.inl (cI, n, Sum.inl kf))] H → va_D A [(oo, Sum.inr (7, [Value.int osg, Value.int (nI (ns F9 n)), Value.int ofc, Value.ref oca, Value.ref opa])), (oca, Sum.inl (cI, n, Sum.inl fL)), (opa, Sum.inl (cI, opl, Sum.inl opf)), (ka, Sum.inl (cI, n, Sum.inl kf))] → va_S A s.heap H locs → lv_has ls 3 [(2, Value.int (nI (32 - r9))), (0, Value.ref oo), (1, Value.ref ka)] → W p l e R s m args below meth c H locs 0 0 Q (F0 m 7 ls []) := by
    intro n9_7
    induction n9_7 using Nat.strongRecOn with
    | ind n9_7 ih9_7 =>
      intro r9 F9 fL hn9_7 hI hE hbF hr1 hr2 H locs ls hP hD hS hl
      have hb0 : bd F9 n 4095 := fun k hk => Nat.le_trans (hbF k hk) (by unfold lb; repeat (first | omega | split))
      have hs9 := ns_le64 hn hb0
      refine lv_iload_n hx hb d_Odds_fromCounts_7 rfl (lv_at hl 0 rfl) ?_
      refine lv_bipush (v := 32) hx hb d_Odds_fromCounts_8 (by decide) ?_
      refine lv_icmp_ge (tgt := 33) hx hb d_Odds_fromCounts_10 (by decide) (fun c_1 => ?_) (fun c_1 => ?_)
      · exact absurd (nI_ge' (n := 32) (by omega) (by decide) c_1) (by omega)
      · refine lv_aload_n hx hb d_Odds_fromCounts_13 rfl (lv_at hl 1 rfl) ?_
        refine va_get (D := (dC, dI)) (ci := 7) (v := .int (nI (ns F9 n))) (C := "RangeCoders$Odds") (T := T_Odds) (N := 5) hx hb hg in_Odds hown hK hP 0 rfl rfl 1 (by decide) (hg _ k305) (fun _ h9 => h9) rfl d_Odds_fromCounts_14 ?_
        refine lv_sipush (v := 8192) hx hb d_Odds_fromCounts_17 (by decide) ?_
        refine lv_icmp_le (tgt := 33) hx hb d_Odds_fromCounts_20 (by decide) (fun c_2 => ?_) (fun c_2 => ?_)
        · have hle : ns F9 n ≤ 8192 := (nI_cmp (b := 8192) (by omega) (by decide)).mp c_2
          have z9 : F9 = les n C := by rw [hE, lesN_e hle]
          subst z9
          exact my_vret hx hb hr hlocks hQ hK hS (Nat.le_refl _) (Nat.le_refl _) (fL) (hI) (hP.sub [0, 1, 2, 3] rfl) (hD.sub [0, 1, 2, 3] (by decide +kernel) rfl) d_Odds_fromCounts_33
        · have hgt : ¬ ns F9 n ≤ 8192 := fun q => absurd (nI_le (b := 8192) q (by decide)) c_2
          have hr27 : 27 < r9 := by
            rcases Nat.lt_or_ge 27 r9 with q | q
            · exact q
            · have e : r9 = 27 := by omega
              subst e
              exact absurd (ns_le64 hn hbF) (by simp [lb]; omega)
          refine lv_aload_n hx hb d_Odds_fromCounts_23 rfl (lv_at hl 1 rfl) ?_
          refine my_cv (wr := [(ka, Sum.inl (cI, n, Sum.inl kf))]) (va_runV (As := []) (rest := []) ⟨hx, hb, hml, hown, hts⟩ (f_Odds_halve l dC dI cI cM cO H.size oo osg ofc oca opa n fL opl opf F9 (nI (ns F9 n)) (by first | assumption | omega) (by first | assumption | omega) (hI) (fun k hk => Nat.le_trans (hb0 k hk) (by decide))) (cwV 0 hts (my_gV k375 k377 ks1 k14 k378) rfl rfl rfl cu_Odds_halve_0 ⟨by rw [hR]; exact Nat.le_of_ble_eq_true rfl, by rw [hR]; exact Nat.le_of_ble_eq_true rfl⟩) (my_preV hK hN (hP.sub [0, 1, 2] rfl) (hD.sub [0, 1, 2] (by decide +kernel) rfl) 0 rfl rfl) rfl rfl hl.1 rfl (lv_room (Nat.le_of_ble_eq_true rfl)) d_Odds_fromCounts_24 ⟨by rw [hR]; exact Nat.le_of_ble_eq_true rfl, by rw [hR]; exact Nat.le_of_ble_eq_true rfl⟩) hP hD hS hA [0, 1, 2] [3] rfl rfl (by decide +kernel) (by decide +kernel) (fun u9 H locs hw_24 hP hD hS => ?_)
          obtain ⟨ocfq_24, rfl⟩ : ∃ z, z = u9 := ⟨_, rfl⟩
          have hf_24 : tbI ocfq_24 n (hv F9) := hw_24
          have hPD : my_PD (dC, dI) vwCl A [(ka, Sum.inl (cI, n, Sum.inl kf)), (oo, Sum.inr (7, [Value.int osg, Value.int (nI (ns (hv F9) n)), Value.int ofc, Value.ref oca, Value.ref opa])), (oca, Sum.inl (cI, n, Sum.inl ocfq_24)), (opa, Sum.inl (cI, opl, Sum.inl opf))] H := ⟨hP, hD⟩
          have hP := hPD.1
          have hD := hPD.2
          obtain ⟨v_3, ev_3⟩ : ∃ y : Int32, y = (nI (32 - r9)) + (1) := ⟨_, rfl⟩
          refine lv_iinc (v := v_3) (lv' := [(2, Value.int v_3), (0, Value.ref oo), (1, Value.ref ka)]) hx hb d_Odds_fromCounts_27 hl (k := 0) rfl (by rw [ev_3]; rfl) (by decide) rfl (fun ls hl => ?_)
          have z9 : v_3 = nI (32 - (r9 - 1)) := by rw [ev_3]; rw [show 32 - (r9 - 1) = 32 - r9 + 1 by omega]; exact nI_1 _
          subst z9
          refine lv_goto (tgt := 7) hx hb d_Odds_fromCounts_30 (by decide) ?_
          exact ih9_7 _ (by first | omega | (omega)) (r9 - 1) (hv F9) ocfq_24 rfl (hf_24) (by rw [hE, lesN_s (by omega) hgt]) (fun k hk => lb_st hr27 hr2 (hbF k hk)) (by omega) (by omega) H locs ls (hP.sub [1, 2, 3, 0] rfl) (hD.sub [1, 2, 3, 0] (by decide +kernel) rfl) hS (lv_sub hl [0, 1, 2] rfl)
  exact J_7 _ (32 : Nat) C ocfq_2 rfl (hf_2) (rfl) (hB) (by decide) (by decide) H locs ls (hP.sub [0, 1, 2, 3] rfl) (hD.sub [0, 1, 2, 3] (by decide +kernel) rfl) hS (lv_sub hl [0, 1, 2] rfl)
set_option maxHeartbeats 2000000 in
set_option maxRecDepth 100000 in
theorem f_Odds_learn (l : Launch) (dC : Nat → ClassId) (dI : Nat → Nat → Nat) (cI cM cO : ClassId) (sz : Nat) (oo : Nat) (osg : Int32) (ofc : Int32) (oca : Nat) (opa : Nat) (n : Nat) (ocf : Nat → Int32) (opl : Nat) (opf : Nat → Int32) (F : Nat → Nat) (t : Nat) (hn : n ≤ 64) (hpl : opl ≤ 512) (hf : tbI ocf n F) (ht : t < n) (hfc : ofc ≤ nI t) (hB : bd F n 100000) : MetV l y_Odds_learn (Cond.code y_Odds_learn prog_7_method_7_code 2 none :: gw) ({ frames := 2, cells := 0, slots := 0, locals := 43 } : Room) (dC, dI) vwCl (kT cI cM cO) [Value.ref oo, Value.int (nI t)] [(oo, Sum.inr (7, [Value.int osg, Value.int (nI (ns F n)), Value.int ofc, Value.ref oca, Value.ref opa])), (oca, Sum.inl (cI, n, Sum.inl ocf)), (opa, Sum.inl (cI, opl, Sum.inl opf))] sz (fun (u : (Nat → Int32)) => tbI u n (lrn n t F)) (fun (u : (Nat → Int32)) => [(oo, Sum.inr (7, [Value.int osg, Value.int (nI (ns (lrn n t F) n)), Value.int ofc, Value.ref oca, Value.ref opa])), (oca, Sum.inl (cI, n, Sum.inl u)), (opa, Sum.inl (cI, opl, Sum.inl opf))]) 0 0 := by
  refine my_ofV (cc := prog_7_method_7_code) (n := 2) (ret := none) (by decide) rfl (Nat.le_of_ble_eq_true rfl) ?_
  intro p e s m args below meth c R Q A ls H locs hx hb hr hts hown hlocks hml hnm hR hQ hA hl hP hK hN hD hS
  have hg : ∀ w ∈ gw, w.before args s = true := fun w h => hts w (List.mem_cons_of_mem _ h)
  have hown : s.vm.findClass "RangeCoders$Odds" = some m.cls := hown
  have hl : lv_has ls 2 [(0, Value.ref oo), (1, Value.int (nI t))] := hl
  refine lv_aload_n hx hb d_Odds_learn_0 rfl (lv_at hl 0 rfl) ?_
  refine lv_iload_n hx hb d_Odds_learn_1 rfl (lv_at hl 1 rfl) ?_
  refine lv_bipush (v := 32) hx hb d_Odds_learn_2 (by decide) ?_
  refine my_cv (wr := []) (va_runV (As := [Value.int (nI t), Value.int 32]) (rest := []) ⟨hx, hb, hml, hown, hts⟩ (f_Odds_grow l dC dI cI cM cO H.size oo osg ofc oca opa n ocf opl opf (nI (ns F n)) t 32 (by first | assumption | omega) (by first | assumption | omega) (ht) (hfc)) (cwV 2 hts (my_gV k392 k393 k394 k14 k395) rfl rfl rfl cu_Odds_grow_2 ⟨by rw [hR]; exact Nat.le_of_ble_eq_true rfl, by rw [hR]; exact Nat.le_of_ble_eq_true rfl⟩) (my_preV hK hN (hP.sub [0, 1, 2] rfl) (hD.sub [0, 1, 2] (by decide +kernel) rfl) 0 rfl rfl) rfl rfl hl.1 rfl (lv_room (Nat.le_of_ble_eq_true rfl)) d_Odds_learn_4 ⟨by rw [hR]; exact Nat.le_of_ble_eq_true rfl, by rw [hR]; exact Nat.le_of_ble_eq_true rfl⟩) hP hD hS hA [0, 1, 2] [] rfl rfl (by decide +kernel) (by decide +kernel) (fun u9 H locs hw_4 hP hD hS => ?_)
  obtain ⟨ocfq_4, rfl⟩ : ∃ z, z = u9 := ⟨_, rfl⟩
  have hc_4 : ocfq_4 = upd ocf t (ocf t + 32) := hw_4
  have hPD : my_PD (dC, dI) vwCl A [(oo, Sum.inr (7, [Value.int osg, Value.int ((nI (ns F n)) + 32), Value.int ofc, Value.ref oca, Value.ref opa])), (oca, Sum.inl (cI, n, Sum.inl ocfq_4)), (opa, Sum.inl (cI, opl, Sum.inl opf))] H := ⟨hP, hD⟩
  have hP := hPD.1
  have hD := hPD.2
  have hU : tbI ocfq_4 n (upN F t (F t + 32)) := by rw [hc_4]; exact tb_up hf rfl (by rw [hf t ht]; exact nI_add (F t) 32)
  have hS9 := ns_up (F := F) (v := F t + 32) ht
  have hb9 : bd (upN F t (F t + 32)) n 1000000 := fun k hk => by
    have h1 := hB k hk
    by_cases e : k = t
    · subst e; rw [upN_s]; omega
    · rw [upN_n _ e]; omega
  have hs9 := ns_le64 hn hb9
  have hsu : ((nI (ns F n)) + 32 : Int32) = nI (ns (upN F t (F t + 32)) n) := by rw [show ns (upN F t (F t + 32)) n = ns F n + 32 by omega]; exact nI_add (ns F n) 32
  rw [hsu] at hP hD
  have hPD : my_PD (dC, dI) vwCl A [(oo, Sum.inr (7, [Value.int osg, Value.int (nI (ns (upN F t (F t + 32)) n)), Value.int ofc, Value.ref oca, Value.ref opa])), (oca, Sum.inl (cI, n, Sum.inl ocfq_4)), (opa, Sum.inl (cI, opl, Sum.inl opf))] H := ⟨hP, hD⟩
  have hP := hPD.1
  have hD := hPD.2
  refine lv_aload_n hx hb d_Odds_learn_7 rfl (lv_at hl 0 rfl) ?_
  refine va_get (D := (dC, dI)) (ci := 7) (v := .int (nI (ns (upN F t (F t + 32)) n))) (C := "RangeCoders$Odds") (T := T_Odds) (N := 5) hx hb hg in_Odds hown hK hP 0 rfl rfl 1 (by decide) (hg _ k305) (fun _ h9 => h9) rfl d_Odds_learn_8 ?_
  refine lv_sipush (v := 8192) hx hb d_Odds_learn_11 (by decide) ?_
  refine lv_icmp_le (tgt := 21) hx hb d_Odds_learn_14 (by decide) (fun c_1 => ?_) (fun c_1 => ?_)
  · have hE9 : lrn n t F = upN F t (F t + 32) := by unfold lrn; rw [if_pos ((nI_cmp (b := 8192) (by omega) (by decide)).mp c_1)]
    have hsu : (nI (ns (upN F t (F t + 32)) n) : Int32) = nI (ns (lrn n t F) n) := by rw [hE9]
    rw [hsu] at hP hD
    have hPD : my_PD (dC, dI) vwCl A [(oo, Sum.inr (7, [Value.int osg, Value.int (nI (ns (lrn n t F) n)), Value.int ofc, Value.ref oca, Value.ref opa])), (oca, Sum.inl (cI, n, Sum.inl ocfq_4)), (opa, Sum.inl (cI, opl, Sum.inl opf))] H := ⟨hP, hD⟩
    have hP := hPD.1
    have hD := hPD.2
    exact my_vret hx hb hr hlocks hQ hK hS (Nat.le_refl _) (Nat.le_refl _) (ocfq_4) (by rw [hE9]; exact hU) (hP.sub [0, 1, 2] rfl) (hD.sub [0, 1, 2] (by decide +kernel) rfl) d_Odds_learn_21
  · have hgt : ¬ ns (upN F t (F t + 32)) n ≤ 8192 := fun q => absurd (nI_le (b := 8192) q (by decide)) c_1
    refine lv_aload_n hx hb d_Odds_learn_17 rfl (lv_at hl 0 rfl) ?_
    refine my_cv (wr := []) (va_runV (As := []) (rest := []) ⟨hx, hb, hml, hown, hts⟩ (f_Odds_halve l dC dI cI cM cO H.size oo osg ofc oca opa n ocfq_4 opl opf (upN F t (F t + 32)) (nI (ns (upN F t (F t + 32)) n)) (by first | assumption | omega) (by first | assumption | omega) (hU) (hb9)) (cwV 0 hts (my_gV k375 k377 ks1 k14 k378) rfl rfl rfl cu_Odds_halve_0 ⟨by rw [hR]; exact Nat.le_of_ble_eq_true rfl, by rw [hR]; exact Nat.le_of_ble_eq_true rfl⟩) (my_preV hK hN (hP.sub [0, 1, 2] rfl) (hD.sub [0, 1, 2] (by decide +kernel) rfl) 0 rfl rfl) rfl rfl hl.1 rfl (lv_room (Nat.le_of_ble_eq_true rfl)) d_Odds_learn_18 ⟨by rw [hR]; exact Nat.le_of_ble_eq_true rfl, by rw [hR]; exact Nat.le_of_ble_eq_true rfl⟩) hP hD hS hA [0, 1, 2] [] rfl rfl (by decide +kernel) (by decide +kernel) (fun u9 H locs hw_18 hP hD hS => ?_)
    obtain ⟨ocfq_18, rfl⟩ : ∃ z, z = u9 := ⟨_, rfl⟩
    have hf_18 : tbI ocfq_18 n (hv (upN F t (F t + 32))) := hw_18
    have hPD : my_PD (dC, dI) vwCl A [(oo, Sum.inr (7, [Value.int osg, Value.int (nI (ns (hv (upN F t (F t + 32))) n)), Value.int ofc, Value.ref oca, Value.ref opa])), (oca, Sum.inl (cI, n, Sum.inl ocfq_18)), (opa, Sum.inl (cI, opl, Sum.inl opf))] H := ⟨hP, hD⟩
    have hP := hPD.1
    have hD := hPD.2
    have hE9 : lrn n t F = hv (upN F t (F t + 32)) := by unfold lrn; rw [if_neg hgt]
    have hsu : (nI (ns (hv (upN F t (F t + 32))) n) : Int32) = nI (ns (lrn n t F) n) := by rw [hE9]
    rw [hsu] at hP hD
    have hPD : my_PD (dC, dI) vwCl A [(oo, Sum.inr (7, [Value.int osg, Value.int (nI (ns (lrn n t F) n)), Value.int ofc, Value.ref oca, Value.ref opa])), (oca, Sum.inl (cI, n, Sum.inl ocfq_18)), (opa, Sum.inl (cI, opl, Sum.inl opf))] H := ⟨hP, hD⟩
    have hP := hPD.1
    have hD := hPD.2
    exact my_vret hx hb hr hlocks hQ hK hS (Nat.le_refl _) (Nat.le_refl _) (ocfq_18) (by rw [hE9]; exact hf_18) (hP.sub [0, 1, 2] rfl) (hD.sub [0, 1, 2] (by decide +kernel) rfl) d_Odds_learn_21
end
section
set_option maxHeartbeats 2000000 in
set_option maxRecDepth 100000 in
theorem f_Odds_scaleTo (l : Launch) (dC : Nat → ClassId) (dI : Nat → Nat → Nat) (cI cM cO : ClassId) (sz : Nat) (oo : Nat) (osg : Int32) (ofc : Int32) (oca : Nat) (opa : Nat) (n : Nat) (ocf : Nat → Int32) (opl : Nat) (opf : Nat → Int32) (osm : Int32) (ka : Nat) (kf : Nat → Int32) (C : Nat → Nat) (M : Nat) (hn : n ≤ 64) (hpl : opl ≤ 512) (hk : tbI kf n C) (hB : bd C n 4095) (hn1 : 1 ≤ n) (hM : 1 ≤ M) (hM2 : M ≤ 4096) (hfc0 : ofc = 0) : MetV l y_Odds_scaleTo (Cond.code y_Odds_scaleTo prog_7_method_10_code 5 none :: gw) ({ frames := 2, cells := 0, slots := 0, locals := 43 } : Room) (dC, dI) vwCl (kT cI cM cO) [Value.ref oo, Value.int (nI M), Value.ref ka] [(oo, Sum.inr (7, [Value.int osg, Value.int osm, Value.int ofc, Value.ref oca, Value.ref opa])), (oca, Sum.inl (cI, n, Sum.inl ocf)), (opa, Sum.inl (cI, opl, Sum.inl opf)), (ka, Sum.inl (cI, n, Sum.inl kf))] sz (fun (u : (Nat → Int32)) => tbI u n (sc n M C)) (fun (u : (Nat → Int32)) => [(oo, Sum.inr (7, [Value.int osg, Value.int (nI (ns (sc n M C) n)), Value.int ofc, Value.ref oca, Value.ref opa])), (oca, Sum.inl (cI, n, Sum.inl u)), (opa, Sum.inl (cI, opl, Sum.inl opf)), (ka, Sum.inl (cI, n, Sum.inl kf))]) 0 0 := by
  refine my_ofV (cc := prog_7_method_10_code) (n := 5) (ret := none) (by decide) rfl (Nat.le_of_ble_eq_true rfl) ?_
  intro p e s m args below meth c R Q A ls H locs hx hb hr hts hown hlocks hml hnm hR hQ hA hl hP hK hN hD hS
  have hg : ∀ w ∈ gw, w.before args s = true := fun w h => hts w (List.mem_cons_of_mem _ h)
  have hown : s.vm.findClass "RangeCoders$Odds" = some m.cls := hown
  have hl : lv_has ls 5 [(0, Value.ref oo), (1, Value.int (nI M)), (2, Value.ref ka)] := hl
  have hs9 := ns_le64 hn hB
  have hsG9 := ns_le64 (F := scG n M C) hn (B := 4096) (fun k hk => Nat.le_trans (scG_le hM k hk) hM2)
  refine lv_aload_n hx hb d_Odds_scaleTo_0 rfl (lv_at hl 0 rfl) ?_
  refine lv_aload_n hx hb d_Odds_scaleTo_1 rfl (lv_at hl 2 rfl) ?_
  refine my_cv (wr := []) (va_runV (As := [Value.ref ka]) (rest := []) ⟨hx, hb, hml, hown, hts⟩ (f_Odds_copyCounts l dC dI cI cM cO H.size oo osg ofc oca opa n ocf opl opf osm ka kf C (by first | assumption | omega) (by first | assumption | omega) (by first | assumption | omega) (by first | assumption | omega)) (cwV 1 hts (my_gV k371 k373 ks0 k14 k374) rfl rfl rfl cu_Odds_copyCounts_1 ⟨by rw [hR]; exact Nat.le_of_ble_eq_true rfl, by rw [hR]; exact Nat.le_of_ble_eq_true rfl⟩) (my_preV hK hN (hP.sub [0, 1, 2, 3] rfl) (hD.sub [0, 1, 2, 3] (by decide +kernel) rfl) 0 rfl rfl) rfl rfl hl.1 rfl (lv_room (Nat.le_of_ble_eq_true rfl)) d_Odds_scaleTo_2 ⟨by rw [hR]; exact Nat.le_of_ble_eq_true rfl, by rw [hR]; exact Nat.le_of_ble_eq_true rfl⟩) hP hD hS hA [0, 1, 2, 3] [] rfl rfl (by decide +kernel) (by decide +kernel) (fun u9 H locs hw_2 hP hD hS => ?_)
  obtain ⟨ocfq_2, rfl⟩ : ∃ z, z = u9 := ⟨_, rfl⟩
  have hf_2 : tbI ocfq_2 n C := hw_2
  have hPD : my_PD (dC, dI) vwCl A [(oo, Sum.inr (7, [Value.int osg, Value.int (nI (ns C n)), Value.int ofc, Value.ref oca, Value.ref opa])), (oca, Sum.inl (cI, n, Sum.inl ocfq_2)), (opa, Sum.inl (cI, opl, Sum.inl opf)), (ka, Sum.inl (cI, n, Sum.inl kf))] H := ⟨hP, hD⟩
  have hP := hPD.1
  have hD := hPD.2
  refine lv_aload_n hx hb d_Odds_scaleTo_5 rfl (lv_at hl 0 rfl) ?_
  refine va_get (D := (dC, dI)) (ci := 7) (v := .int (nI (ns C n))) (C := "RangeCoders$Odds") (T := T_Odds) (N := 5) hx hb hg in_Odds hown hK hP 0 rfl rfl 1 (by decide) (hg _ k305) (fun _ h9 => h9) rfl d_Odds_scaleTo_6 ?_
  refine lv_istore_n (lv' := [(3, Value.int (nI (ns C n))), (0, Value.ref oo), (1, Value.int (nI M)), (2, Value.ref ka)]) hx hb d_Odds_scaleTo_9 rfl hl (by decide) rfl (fun ls hl => ?_)
  refine lv_iload_n hx hb d_Odds_scaleTo_10 rfl (lv_at hl 0 rfl) ?_
  refine lv_if_gt (tgt := 15) hx hb d_Odds_scaleTo_11 (by decide) (fun c_1 => ?_) (fun c_1 => ?_)
  · have hpos : 0 < ns C n := by
      rcases Nat.eq_zero_or_pos (ns C n) with q | q
      · exact absurd (show 0 < nI (ns C n) from c_1) (by rw [q]; decide)
      · exact q
    refine lv_aload_n hx hb d_Odds_scaleTo_15 rfl (lv_at hl 1 rfl) ?_
    refine lv_iconst (v := 0) hx hb d_Odds_scaleTo_16 (by decide) ?_
    refine va_put (D := (dC, dI)) (ci := 7) (v := .int 0) (ty := .int) (C := "RangeCoders$Odds") (T := T_Odds) (N := 5) hx hb hg in_Odds t_Odds o_Odds n_Odds hown hK hP hD hS 0 rfl rfl 1 (by decide) (hg _ k305) (fun _ h9 => h9) rfl (o_Odds 1 (by decide)) rfl rfl (Nat.le_of_ble_eq_true rfl) d_Odds_scaleTo_17 (fun H locs hP hD hS => ?_)
    have hPD : my_PD (dC, dI) vwCl A [(oo, Sum.inr (7, [Value.int osg, Value.int 0, Value.int ofc, Value.ref oca, Value.ref opa])), (oca, Sum.inl (cI, n, Sum.inl ocfq_2)), (opa, Sum.inl (cI, opl, Sum.inl opf)), (ka, Sum.inl (cI, n, Sum.inl kf))] H := ⟨hP, hD⟩
    have hP := hPD.1
    have hD := hPD.2
    refine lv_iconst (v := 0) hx hb d_Odds_scaleTo_20 (by decide) ?_
    refine lv_istore (lv' := [(4, Value.int 0), (3, Value.int (nI (ns C n))), (0, Value.ref oo), (1, Value.int (nI M)), (2, Value.ref ka)]) hx hb d_Odds_scaleTo_21 hl (by decide) rfl (fun ls hl => ?_)
    have J_23 : ∀ (n9_23 : Nat) (j : Nat) (fL : Nat → Int32) (hn9_23 : n - j = n9_23) (hj : j ≤ n) (hL : tbL fL n j (scG n M C) C) (H : Heap) (locs : List Loc) (ls : Array Slot), va_P (dC, dI) vwCl [(oo, Sum.inr (7, [Value.int osg, Value.int (nI (ns (scG n M C) j)), Value.int ofc, Value.ref oca, Value.ref opa])), (oca, Sum.inl (cI, n, Sum.inl fL)), (opa, Sum.inl (cI, opl, Sum.inl opf)), (ka, Sum.inl (cI, n, Sum.inl kf))] H → va_D A [(oo, Sum.inr (7, [Value.int osg, Value.int (nI (ns (scG n M C) j)), Value.int ofc, Value.ref oca, Value.ref opa])), (oca, Sum.inl (cI, n, Sum.inl fL)), (opa, Sum.inl (cI, opl, Sum.inl opf)), (ka, Sum.inl (cI, n, Sum.inl kf))] → va_S A s.heap H locs → lv_has ls 5 [(4, Value.int (nI j)), (3, Value.int (nI (ns C n))), (0, Value.ref oo), (1, Value.int (nI M)), (2, Value.ref ka)] → W p l e R s m args below meth c H locs 0 0 Q (F0 m 23 ls []) := by
      intro n9_23
      induction n9_23 using Nat.strongRecOn with
      | ind n9_23 ih9_23 =>
        intro j fL hn9_23 hj hL H locs ls hP hD hS hl
        refine lv_iload hx hb d_Odds_scaleTo_23 (lv_at hl 0 rfl) ?_
        refine lv_aload_n hx hb d_Odds_scaleTo_25 rfl (lv_at hl 2 rfl) ?_
        refine va_get (D := (dC, dI)) (ci := 7) (v := .ref oca) (C := "RangeCoders$Odds") (T := T_Odds) (N := 5) hx hb hg in_Odds hown hK hP 0 rfl rfl 3 (by decide) (hg _ k309) (fun _ h9 => h9) rfl d_Odds_scaleTo_26 ?_
        refine va_alen hx hb hK hP 1 0 rfl rfl (v := nI n) rfl d_Odds_scaleTo_29 ?_
        refine lv_icmp_ge (tgt := 91) hx hb d_Odds_scaleTo_30 (by decide) (fun c_2 => ?_) (fun c_2 => ?_)
        · have hj3 : n = j := by have := nI_ge' (by omega) (by omega) c_2; omega
          subst hj3
          have hPD : my_PD (dC, dI) vwCl A [(oo, Sum.inr (7, [Value.int osg, Value.int (nI (ns (scG n M C) n)), Value.int ofc, Value.ref oca, Value.ref opa])), (oca, Sum.inl (cI, n, Sum.inl fL)), (opa, Sum.inl (cI, opl, Sum.inl opf)), (ka, Sum.inl (cI, n, Sum.inl kf))] H := ⟨hP, hD⟩
          have hP := hPD.1
          have hD := hPD.2
          refine lv_aload_n hx hb d_Odds_scaleTo_91 rfl (lv_at hl 2 rfl) ?_
          refine va_get (D := (dC, dI)) (ci := 7) (v := .int (nI (ns (scG n M C) n))) (C := "RangeCoders$Odds") (T := T_Odds) (N := 5) hx hb hg in_Odds hown hK hP 0 rfl rfl 1 (by decide) (hg _ k305) (fun _ h9 => h9) rfl d_Odds_scaleTo_92 ?_
          refine lv_iload_n hx hb d_Odds_scaleTo_95 rfl (lv_at hl 3 rfl) ?_
          refine lv_isub hx hb d_Odds_scaleTo_96 ?_
          refine lv_topi (fun v_3 ev_3 => ?_)
          refine lv_istore (lv' := [(4, Value.int v_3), (3, Value.int (nI (ns C n))), (0, Value.ref oo), (1, Value.int (nI M)), (2, Value.ref ka)]) hx hb d_Odds_scaleTo_97 hl (by decide) rfl (fun ls hl => ?_)
          have J_99 : ∀ (n9_99 : Nat) (x9 : Int32) (G9 : Nat → Nat) (fK : Nat → Int32) (hn9_99 : ns G9 n - M = n9_99) (hx9 : x9.toInt = (ns G9 n : Int) - M) (hI2 : tbI fK n G9) (hE2 : dec n (ns (scG n M C) n - M) (scG n M C) = dec n (ns G9 n - M) G9) (hB2 : bd G9 n 4096) (H : Heap) (locs : List Loc) (ls : Array Slot), va_P (dC, dI) vwCl [(oo, Sum.inr (7, [Value.int osg, Value.int (nI (ns G9 n)), Value.int ofc, Value.ref oca, Value.ref opa])), (oca, Sum.inl (cI, n, Sum.inl fK)), (opa, Sum.inl (cI, opl, Sum.inl opf)), (ka, Sum.inl (cI, n, Sum.inl kf))] H → va_D A [(oo, Sum.inr (7, [Value.int osg, Value.int (nI (ns G9 n)), Value.int ofc, Value.ref oca, Value.ref opa])), (oca, Sum.inl (cI, n, Sum.inl fK)), (opa, Sum.inl (cI, opl, Sum.inl opf)), (ka, Sum.inl (cI, n, Sum.inl kf))] → va_S A s.heap H locs → lv_has ls 5 [(4, Value.int x9), (3, Value.int (nI (ns C n))), (0, Value.ref oo), (1, Value.int (nI M)), (2, Value.ref ka)] → W p l e R s m args below meth c H locs 0 0 Q (F0 m 99 ls []) := by
            intro n9_99
            induction n9_99 using Nat.strongRecOn with
            | ind n9_99 ih9_99 =>
              intro x9 G9 fK hn9_99 hx9 hI2 hE2 hB2 H locs ls hP hD hS hl
              have hs8 := ns_le64 hn hB2
              have hB3 : bd G9 n 1000000 := fun k hk => Nat.le_trans (hB2 k hk) (by decide)
              have hg9 := gr_lt G9 (show 0 < n by omega)
              have hbg := hB2 _ hg9
              refine lv_iload hx hb d_Odds_scaleTo_99 (lv_at hl 0 rfl) ?_
              refine lv_if_le (tgt := 119) hx hb d_Odds_scaleTo_101 (by decide) (fun c_4 => ?_) (fun c_4 => ?_)
              · have hle : ns G9 n ≤ M := by have z9 := le_0 c_4; omega
                refine lv_aload_n hx hb d_Odds_scaleTo_119 rfl (lv_at hl 2 rfl) ?_
                refine lv_aload_n hx hb d_Odds_scaleTo_120 rfl (lv_at hl 2 rfl) ?_
                refine my_ci (wr := [(ka, Sum.inl (cI, n, Sum.inl kf))]) (va_runV (As := []) (rest := [Value.ref oo]) ⟨hx, hb, hml, hown, hts⟩ (f_Odds_greatest l dC dI cI cM cO H.size oo osg ofc oca opa n fK opl opf G9 (nI (ns G9 n)) (by first | assumption | omega) (by first | assumption | omega) (hI2) (hn1) (hB3)) (cwV 0 hts (my_gV k388 k390 ks2 k14 k391) rfl rfl rfl cu_Odds_greatest_0 ⟨by rw [hR]; exact Nat.le_of_ble_eq_true rfl, by rw [hR]; exact Nat.le_of_ble_eq_true rfl⟩) (my_preV hK hN (hP.sub [0, 1, 2] rfl) (hD.sub [0, 1, 2] (by decide +kernel) rfl) 0 rfl rfl) rfl rfl hl.1 rfl (lv_room (Nat.le_of_ble_eq_true rfl)) d_Odds_scaleTo_121 ⟨by rw [hR]; exact Nat.le_of_ble_eq_true rfl, by rw [hR]; exact Nat.le_of_ble_eq_true rfl⟩) hP hD hS hA [0, 1, 2] [3] rfl rfl (by decide +kernel) (by decide +kernel) (fun r_121 u9 H locs hw_121 hP hD hS => ?_)
                have hr_121 : r_121 = nI (gr G9 n) := hw_121
                have hPD : my_PD (dC, dI) vwCl A [(ka, Sum.inl (cI, n, Sum.inl kf)), (oo, Sum.inr (7, [Value.int osg, Value.int (nI (ns G9 n)), Value.int ofc, Value.ref oca, Value.ref opa])), (oca, Sum.inl (cI, n, Sum.inl fK)), (opa, Sum.inl (cI, opl, Sum.inl opf))] H := ⟨hP, hD⟩
                have hP := hPD.1
                have hD := hPD.2
                have z9 : r_121 = nI (gr G9 n) := hr_121
                subst z9
                refine lv_iload_n hx hb d_Odds_scaleTo_124 rfl (lv_at hl 3 rfl) ?_
                refine lv_aload_n hx hb d_Odds_scaleTo_125 rfl (lv_at hl 2 rfl) ?_
                refine va_get (D := (dC, dI)) (ci := 7) (v := .int (nI (ns G9 n))) (C := "RangeCoders$Odds") (T := T_Odds) (N := 5) hx hb hg in_Odds hown hK hP 1 rfl rfl 1 (by decide) (hg _ k305) (fun _ h9 => h9) rfl d_Odds_scaleTo_126 ?_
                refine lv_isub hx hb d_Odds_scaleTo_129 ?_
                refine lv_topi (fun v_5 ev_5 => ?_)
                have z9 : v_5 = nI (M - ns G9 n) := by rw [ev_5]; exact pk_sub hle
                subst z9
                refine my_cv (wr := [(ka, Sum.inl (cI, n, Sum.inl kf))]) (va_runV (As := [Value.int (nI (gr G9 n)), Value.int (nI (M - ns G9 n))]) (rest := []) ⟨hx, hb, hml, hown, hts⟩ (f_Odds_grow l dC dI cI cM cO H.size oo osg ofc oca opa n fK opl opf (nI (ns G9 n)) (gr G9 n) (nI (M - ns G9 n)) (by first | assumption | omega) (by first | assumption | omega) (hg9) (by rw [hfc0]; exact nI_pos' (by omega))) (cwV 2 hts (my_gV k392 k393 k394 k14 k395) rfl rfl rfl cu_Odds_grow_2 ⟨by rw [hR]; exact Nat.le_of_ble_eq_true rfl, by rw [hR]; exact Nat.le_of_ble_eq_true rfl⟩) (my_preV hK hN (hP.sub [1, 2, 3] rfl) (hD.sub [1, 2, 3] (by decide +kernel) rfl) 0 rfl rfl) rfl rfl hl.1 rfl (lv_room (Nat.le_of_ble_eq_true rfl)) d_Odds_scaleTo_130 ⟨by rw [hR]; exact Nat.le_of_ble_eq_true rfl, by rw [hR]; exact Nat.le_of_ble_eq_true rfl⟩) hP hD hS hA [1, 2, 3] [0] rfl rfl (by decide +kernel) (by decide +kernel) (fun u9 H locs hw_130 hP hD hS => ?_)
                obtain ⟨ocfq_130, rfl⟩ : ∃ z, z = u9 := ⟨_, rfl⟩
                have hc_130 : ocfq_130 = upd fK (gr G9 n) (fK (gr G9 n) + (nI (M - ns G9 n))) := hw_130
                have hPD : my_PD (dC, dI) vwCl A [(ka, Sum.inl (cI, n, Sum.inl kf)), (oo, Sum.inr (7, [Value.int osg, Value.int ((nI (ns G9 n)) + (nI (M - ns G9 n))), Value.int ofc, Value.ref oca, Value.ref opa])), (oca, Sum.inl (cI, n, Sum.inl ocfq_130)), (opa, Sum.inl (cI, opl, Sum.inl opf))] H := ⟨hP, hD⟩
                have hP := hPD.1
                have hD := hPD.2
                have hsc : sc n M C = scE n M G9 := by unfold sc; rw [if_neg (by omega), hE2, dec_0 hle]
                have hS9 := ns_up (F := G9) (v := G9 (gr G9 n) + (M - ns G9 n)) hg9
                have hsu : ((nI (ns G9 n)) + (nI (M - ns G9 n)) : Int32) = nI (ns (sc n M C) n) := by rw [hsc, show ns (scE n M G9) n = ns G9 n + (M - ns G9 n) by unfold scE; omega]; exact nI_add _ _
                rw [hsu] at hP hD
                have hPD : my_PD (dC, dI) vwCl A [(ka, Sum.inl (cI, n, Sum.inl kf)), (oo, Sum.inr (7, [Value.int osg, Value.int (nI (ns (sc n M C) n)), Value.int ofc, Value.ref oca, Value.ref opa])), (oca, Sum.inl (cI, n, Sum.inl ocfq_130)), (opa, Sum.inl (cI, opl, Sum.inl opf))] H := ⟨hP, hD⟩
                have hP := hPD.1
                have hD := hPD.2
                exact my_vret hx hb hr hlocks hQ hK hS (Nat.le_refl _) (Nat.le_refl _) (ocfq_130) (by rw [hsc, hc_130]; exact tb_up hI2 rfl (by rw [hI2 _ hg9]; exact nI_add _ _)) (hP.sub [1, 2, 3, 0] rfl) (hD.sub [1, 2, 3, 0] (by decide +kernel) rfl) d_Odds_scaleTo_133
              · have hgt : M < ns G9 n := by have z9 := not_le0 c_4; omega
                have hp9 := gr_pos (F := G9) (n := n) (by omega)
                refine lv_aload_n hx hb d_Odds_scaleTo_104 rfl (lv_at hl 2 rfl) ?_
                refine lv_aload_n hx hb d_Odds_scaleTo_105 rfl (lv_at hl 2 rfl) ?_
                refine my_ci (wr := [(ka, Sum.inl (cI, n, Sum.inl kf))]) (va_runV (As := []) (rest := [Value.ref oo]) ⟨hx, hb, hml, hown, hts⟩ (f_Odds_greatest l dC dI cI cM cO H.size oo osg ofc oca opa n fK opl opf G9 (nI (ns G9 n)) (by first | assumption | omega) (by first | assumption | omega) (hI2) (hn1) (hB3)) (cwV 0 hts (my_gV k388 k390 ks2 k14 k391) rfl rfl rfl cu_Odds_greatest_0 ⟨by rw [hR]; exact Nat.le_of_ble_eq_true rfl, by rw [hR]; exact Nat.le_of_ble_eq_true rfl⟩) (my_preV hK hN (hP.sub [0, 1, 2] rfl) (hD.sub [0, 1, 2] (by decide +kernel) rfl) 0 rfl rfl) rfl rfl hl.1 rfl (lv_room (Nat.le_of_ble_eq_true rfl)) d_Odds_scaleTo_106 ⟨by rw [hR]; exact Nat.le_of_ble_eq_true rfl, by rw [hR]; exact Nat.le_of_ble_eq_true rfl⟩) hP hD hS hA [0, 1, 2] [3] rfl rfl (by decide +kernel) (by decide +kernel) (fun r_106 u9 H locs hw_106 hP hD hS => ?_)
                have hr_106 : r_106 = nI (gr G9 n) := hw_106
                have hPD : my_PD (dC, dI) vwCl A [(ka, Sum.inl (cI, n, Sum.inl kf)), (oo, Sum.inr (7, [Value.int osg, Value.int (nI (ns G9 n)), Value.int ofc, Value.ref oca, Value.ref opa])), (oca, Sum.inl (cI, n, Sum.inl fK)), (opa, Sum.inl (cI, opl, Sum.inl opf))] H := ⟨hP, hD⟩
                have hP := hPD.1
                have hD := hPD.2
                have z9 : r_106 = nI (gr G9 n) := hr_106
                subst z9
                refine lv_iconst (v := (-1)) hx hb d_Odds_scaleTo_109 (by decide) ?_
                refine my_cv (wr := [(ka, Sum.inl (cI, n, Sum.inl kf))]) (va_runV (As := [Value.int (nI (gr G9 n)), Value.int (-1)]) (rest := []) ⟨hx, hb, hml, hown, hts⟩ (f_Odds_grow l dC dI cI cM cO H.size oo osg ofc oca opa n fK opl opf (nI (ns G9 n)) (gr G9 n) (-1) (by first | assumption | omega) (by first | assumption | omega) (hg9) (by rw [hfc0]; exact nI_pos' (by omega))) (cwV 2 hts (my_gV k392 k393 k394 k14 k395) rfl rfl rfl cu_Odds_grow_2 ⟨by rw [hR]; exact Nat.le_of_ble_eq_true rfl, by rw [hR]; exact Nat.le_of_ble_eq_true rfl⟩) (my_preV hK hN (hP.sub [1, 2, 3] rfl) (hD.sub [1, 2, 3] (by decide +kernel) rfl) 0 rfl rfl) rfl rfl hl.1 rfl (lv_room (Nat.le_of_ble_eq_true rfl)) d_Odds_scaleTo_110 ⟨by rw [hR]; exact Nat.le_of_ble_eq_true rfl, by rw [hR]; exact Nat.le_of_ble_eq_true rfl⟩) hP hD hS hA [1, 2, 3] [0] rfl rfl (by decide +kernel) (by decide +kernel) (fun u9 H locs hw_110 hP hD hS => ?_)
                obtain ⟨ocfq_110, rfl⟩ : ∃ z, z = u9 := ⟨_, rfl⟩
                have hc_110 : ocfq_110 = upd fK (gr G9 n) (fK (gr G9 n) + (-1)) := hw_110
                have hPD : my_PD (dC, dI) vwCl A [(ka, Sum.inl (cI, n, Sum.inl kf)), (oo, Sum.inr (7, [Value.int osg, Value.int ((nI (ns G9 n)) + (-1)), Value.int ofc, Value.ref oca, Value.ref opa])), (oca, Sum.inl (cI, n, Sum.inl ocfq_110)), (opa, Sum.inl (cI, opl, Sum.inl opf))] H := ⟨hP, hD⟩
                have hP := hPD.1
                have hD := hPD.2
                have hU : tbI ocfq_110 n (upN G9 (gr G9 n) (G9 (gr G9 n) - 1)) := by rw [hc_110]; exact tb_up hI2 rfl (by rw [hI2 _ hg9]; exact nI_m1 hp9)
                have hsu : ((nI (ns G9 n)) + (-1) : Int32) = nI (ns (upN G9 (gr G9 n) (G9 (gr G9 n) - 1)) n) := by rw [dec_ns (by omega) (by omega)]; exact nI_m1 (by omega)
                rw [hsu] at hP hD
                have hPD : my_PD (dC, dI) vwCl A [(ka, Sum.inl (cI, n, Sum.inl kf)), (oo, Sum.inr (7, [Value.int osg, Value.int (nI (ns (upN G9 (gr G9 n) (G9 (gr G9 n) - 1)) n)), Value.int ofc, Value.ref oca, Value.ref opa])), (oca, Sum.inl (cI, n, Sum.inl ocfq_110)), (opa, Sum.inl (cI, opl, Sum.inl opf))] H := ⟨hP, hD⟩
                have hP := hPD.1
                have hD := hPD.2
                obtain ⟨v_6, ev_6⟩ : ∃ y : Int32, y = x9 + (-1) := ⟨_, rfl⟩
                refine lv_iinc (v := v_6) (lv' := [(4, Value.int v_6), (3, Value.int (nI (ns C n))), (0, Value.ref oo), (1, Value.int (nI M)), (2, Value.ref ka)]) hx hb d_Odds_scaleTo_113 hl (k := 0) rfl (by rw [ev_6]; rfl) (by decide) rfl (fun ls hl => ?_)
                refine lv_goto (tgt := 99) hx hb d_Odds_scaleTo_116 (by decide) ?_
                exact ih9_99 _ (by first | omega | (rw [dec_ns (by omega) (by omega)]; omega)) v_6 (upN G9 (gr G9 n) (G9 (gr G9 n) - 1)) ocfq_110 rfl (by have z9 := I_dnp c_4 ev_6; rw [dec_ns (by omega) (by omega)]; omega) (hU) (by rw [hE2]; exact dec_st (by omega) hgt) (dec_bd hB2) H locs ls (hP.sub [1, 2, 3, 0] rfl) (hD.sub [1, 2, 3, 0] (by decide +kernel) rfl) hS (lv_sub hl [0, 1, 2, 3, 4] rfl)
          exact J_99 _ v_3 (scG n M C) fL rfl (by rw [ev_3]; exact sub_toInt (by omega) (by omega)) (hL.1) (rfl) (fun k hk => Nat.le_trans (scG_le hM k hk) hM2) H locs ls (hP.sub [0, 1, 2, 3] rfl) (hD.sub [0, 1, 2, 3] (by decide +kernel) rfl) hS (lv_sub hl [0, 1, 2, 3, 4] rfl)
        · have hj2 : j < n := nI_lt' (by omega) c_2
          have hb9 := hB j hj2
          have hmul : C j * M ≤ 4095 * 4096 := Nat.mul_le_mul hb9 hM2
          have hdl : C j * M / ns C n ≤ C j * M := Nat.div_le_self _ _
          refine lv_aload_n hx hb d_Odds_scaleTo_33 rfl (lv_at hl 2 rfl) ?_
          refine va_get (D := (dC, dI)) (ci := 7) (v := .ref oca) (C := "RangeCoders$Odds") (T := T_Odds) (N := 5) hx hb hg in_Odds hown hK hP 0 rfl rfl 3 (by decide) (hg _ k309) (fun _ h9 => h9) rfl d_Odds_scaleTo_34 ?_
          refine lv_iload hx hb d_Odds_scaleTo_37 (lv_at hl 0 rfl) ?_
          refine lv_aload_n hx hb d_Odds_scaleTo_39 rfl (lv_at hl 2 rfl) ?_
          refine va_get (D := (dC, dI)) (ci := 7) (v := .ref oca) (C := "RangeCoders$Odds") (T := T_Odds) (N := 5) hx hb hg in_Odds hown hK hP 0 rfl rfl 3 (by decide) (hg _ k309) (fun _ h9 => h9) rfl d_Odds_scaleTo_40 ?_
          refine lv_iload hx hb d_Odds_scaleTo_43 (lv_at hl 0 rfl) ?_
          refine va_iald hx hb hK hP 1 0 rfl rfl (vp_in_nI hj2 (by omega)) d_Odds_scaleTo_45 ?_
          refine lv_topi (fun v_7 ev_7 => ?_)
          have z9 : v_7 = nI (C j) := by rw [ev_7]; exact tb_rd2 hL hj2 (by omega)
          subst z9
          refine lv_if_ne (tgt := 53) hx hb d_Odds_scaleTo_46 (by decide) (fun c_8 => ?_) (fun c_8 => ?_)
          · refine lv_iconst (v := 1) hx hb d_Odds_scaleTo_53 (by decide) ?_
            refine lv_aload_n hx hb d_Odds_scaleTo_54 rfl (lv_at hl 2 rfl) ?_
            refine va_get (D := (dC, dI)) (ci := 7) (v := .ref oca) (C := "RangeCoders$Odds") (T := T_Odds) (N := 5) hx hb hg in_Odds hown hK hP 0 rfl rfl 3 (by decide) (hg _ k309) (fun _ h9 => h9) rfl d_Odds_scaleTo_55 ?_
            refine lv_iload hx hb d_Odds_scaleTo_58 (lv_at hl 0 rfl) ?_
            refine va_iald hx hb hK hP 1 0 rfl rfl (vp_in_nI hj2 (by omega)) d_Odds_scaleTo_60 ?_
            refine lv_topi (fun v_9 ev_9 => ?_)
            refine lv_iload_n hx hb d_Odds_scaleTo_61 rfl (lv_at hl 3 rfl) ?_
            have z9 : v_9 = nI (C j) := by rw [ev_9]; exact tb_rd2 hL hj2 (by omega)
            subst z9
            refine lv_imul hx hb d_Odds_scaleTo_62 ?_
            refine lv_topi (fun v_10 ev_10 => ?_)
            refine lv_iload_n hx hb d_Odds_scaleTo_63 rfl (lv_at hl 1 rfl) ?_
            refine lv_idiv hx hb d_Odds_scaleTo_64 (nI_ne0 hpos (by omega)) ?_
            refine lv_topi (fun v_11 ev_11 => ?_)
            have z9 : v_11 = nI (C j * M / ns C n) := by subst_vars; rw [pk_mul]; exact pk_div (by omega) hpos (by omega)
            subst z9
            refine va_mmax hx hb (by rw [hml]; exact hl.1.symm) hown (hg _ k387) (hg _ k34) (hg _ k2) (hg _ k35) (by rw [hR]; exact Nat.le_of_ble_eq_true rfl) (by rw [hR]; exact Nat.le_of_ble_eq_true rfl) (Nat.zero_le _) (Nat.zero_le _) d_Odds_scaleTo_65 ?_
            refine lv_topi (fun v_12 ev_12 => ?_)
            have hval : v_12 = nI (scG n M C j) := by
              unfold scG
              rw [if_neg (fun q => c_8 (by rw [q]; rfl)), ev_12]
              exact max1 (by omega)
            refine va_iast hx hb hK hP hD hS 1 0 rfl rfl (vp_in_nI hj2 (by omega)) d_Odds_scaleTo_68 (fun H locs hP hD hS => ?_)
            have hPD : my_PD (dC, dI) vwCl A [(oo, Sum.inr (7, [Value.int osg, Value.int (nI (ns (scG n M C) j)), Value.int ofc, Value.ref oca, Value.ref opa])), (oca, Sum.inl (cI, n, Sum.inl (upd fL (nI j).toNatClampNeg v_12))), (opa, Sum.inl (cI, opl, Sum.inl opf)), (ka, Sum.inl (cI, n, Sum.inl kf))] H := ⟨hP, hD⟩
            have hP := hPD.1
            have hD := hPD.2
            have hL8 : tbL (upd fL (nI j).toNatClampNeg v_12) n (j + 1) (scG n M C) C := tbL_st hL (nI_clamp (by omega)) hval
            refine lv_aload_n hx hb d_Odds_scaleTo_69 rfl (lv_at hl 2 rfl) ?_
            refine lv_dup hx hb d_Odds_scaleTo_70 rfl ?_
            refine va_get (D := (dC, dI)) (ci := 7) (v := .int (nI (ns (scG n M C) j))) (C := "RangeCoders$Odds") (T := T_Odds) (N := 5) hx hb hg in_Odds hown hK hP 0 rfl rfl 1 (by decide) (hg _ k305) (fun _ h9 => h9) rfl d_Odds_scaleTo_71 ?_
            refine lv_aload_n hx hb d_Odds_scaleTo_74 rfl (lv_at hl 2 rfl) ?_
            refine va_get (D := (dC, dI)) (ci := 7) (v := .ref oca) (C := "RangeCoders$Odds") (T := T_Odds) (N := 5) hx hb hg in_Odds hown hK hP 0 rfl rfl 3 (by decide) (hg _ k309) (fun _ h9 => h9) rfl d_Odds_scaleTo_75 ?_
            refine lv_iload hx hb d_Odds_scaleTo_78 (lv_at hl 0 rfl) ?_
            refine va_iald hx hb hK hP 1 0 rfl rfl (vp_in_nI hj2 (by omega)) d_Odds_scaleTo_80 ?_
            refine lv_topi (fun v_13 ev_13 => ?_)
            have z9 : v_13 = nI (scG n M C j) := by rw [ev_13]; exact tb_rd hL8.1 (Nat.lt_succ_self _) (by omega)
            subst z9
            refine lv_iadd hx hb d_Odds_scaleTo_81 ?_
            refine lv_topi (fun v_14 ev_14 => ?_)
            have z9 : v_14 = nI (ns (scG n M C) (j + 1)) := by rw [ev_14]; exact nI_add _ _
            subst z9
            refine va_put (D := (dC, dI)) (ci := 7) (v := .int (nI (ns (scG n M C) (j + 1)))) (ty := .int) (C := "RangeCoders$Odds") (T := T_Odds) (N := 5) hx hb hg in_Odds t_Odds o_Odds n_Odds hown hK hP hD hS 0 rfl rfl 1 (by decide) (hg _ k305) (fun _ h9 => h9) rfl (o_Odds 1 (by decide)) rfl rfl (Nat.le_of_ble_eq_true rfl) d_Odds_scaleTo_82 (fun H locs hP hD hS => ?_)
            have hPD : my_PD (dC, dI) vwCl A [(oo, Sum.inr (7, [Value.int osg, Value.int (nI (ns (scG n M C) (j + 1))), Value.int ofc, Value.ref oca, Value.ref opa])), (oca, Sum.inl (cI, n, Sum.inl (upd fL (nI j).toNatClampNeg v_12))), (opa, Sum.inl (cI, opl, Sum.inl opf)), (ka, Sum.inl (cI, n, Sum.inl kf))] H := ⟨hP, hD⟩
            have hP := hPD.1
            have hD := hPD.2
            obtain ⟨v_15, ev_15⟩ : ∃ y : Int32, y = (nI j) + (1) := ⟨_, rfl⟩
            refine lv_iinc (v := v_15) (lv' := [(4, Value.int v_15), (3, Value.int (nI (ns C n))), (0, Value.ref oo), (1, Value.int (nI M)), (2, Value.ref ka)]) hx hb d_Odds_scaleTo_85 hl (k := 0) rfl (by rw [ev_15]; rfl) (by decide) rfl (fun ls hl => ?_)
            have z9 : v_15 = nI (j + 1) := by rw [ev_15]; exact nI_1 _
            subst z9
            refine lv_goto (tgt := 23) hx hb d_Odds_scaleTo_88 (by decide) ?_
            exact ih9_23 _ (by first | omega | (omega)) (j + 1) (upd fL (nI j).toNatClampNeg v_12) rfl (by omega) (hL8) H locs ls (hP.sub [0, 1, 2, 3] rfl) (hD.sub [0, 1, 2, 3] (by decide +kernel) rfl) hS (lv_sub hl [0, 1, 2, 3, 4] rfl)
          · refine lv_iconst (v := 0) hx hb d_Odds_scaleTo_49 (by decide) ?_
            refine lv_goto (tgt := 68) hx hb d_Odds_scaleTo_50 (by decide) ?_
            have hval : (0 : Int32) = nI (scG n M C j) := by
              unfold scG
              rw [if_pos ((nI_eq (b := 0) (by omega) (by decide)).mp c_8)]
              rfl
            refine va_iast hx hb hK hP hD hS 1 0 rfl rfl (vp_in_nI hj2 (by omega)) d_Odds_scaleTo_68 (fun H locs hP hD hS => ?_)
            have hPD : my_PD (dC, dI) vwCl A [(oo, Sum.inr (7, [Value.int osg, Value.int (nI (ns (scG n M C) j)), Value.int ofc, Value.ref oca, Value.ref opa])), (oca, Sum.inl (cI, n, Sum.inl (upd fL (nI j).toNatClampNeg 0))), (opa, Sum.inl (cI, opl, Sum.inl opf)), (ka, Sum.inl (cI, n, Sum.inl kf))] H := ⟨hP, hD⟩
            have hP := hPD.1
            have hD := hPD.2
            have hL8 : tbL (upd fL (nI j).toNatClampNeg 0) n (j + 1) (scG n M C) C := tbL_st hL (nI_clamp (by omega)) hval
            refine lv_aload_n hx hb d_Odds_scaleTo_69 rfl (lv_at hl 2 rfl) ?_
            refine lv_dup hx hb d_Odds_scaleTo_70 rfl ?_
            refine va_get (D := (dC, dI)) (ci := 7) (v := .int (nI (ns (scG n M C) j))) (C := "RangeCoders$Odds") (T := T_Odds) (N := 5) hx hb hg in_Odds hown hK hP 0 rfl rfl 1 (by decide) (hg _ k305) (fun _ h9 => h9) rfl d_Odds_scaleTo_71 ?_
            refine lv_aload_n hx hb d_Odds_scaleTo_74 rfl (lv_at hl 2 rfl) ?_
            refine va_get (D := (dC, dI)) (ci := 7) (v := .ref oca) (C := "RangeCoders$Odds") (T := T_Odds) (N := 5) hx hb hg in_Odds hown hK hP 0 rfl rfl 3 (by decide) (hg _ k309) (fun _ h9 => h9) rfl d_Odds_scaleTo_75 ?_
            refine lv_iload hx hb d_Odds_scaleTo_78 (lv_at hl 0 rfl) ?_
            refine va_iald hx hb hK hP 1 0 rfl rfl (vp_in_nI hj2 (by omega)) d_Odds_scaleTo_80 ?_
            refine lv_topi (fun v_16 ev_16 => ?_)
            have z9 : v_16 = nI (scG n M C j) := by rw [ev_16]; exact tb_rd hL8.1 (Nat.lt_succ_self _) (by omega)
            subst z9
            refine lv_iadd hx hb d_Odds_scaleTo_81 ?_
            refine lv_topi (fun v_17 ev_17 => ?_)
            have z9 : v_17 = nI (ns (scG n M C) (j + 1)) := by rw [ev_17]; exact nI_add _ _
            subst z9
            refine va_put (D := (dC, dI)) (ci := 7) (v := .int (nI (ns (scG n M C) (j + 1)))) (ty := .int) (C := "RangeCoders$Odds") (T := T_Odds) (N := 5) hx hb hg in_Odds t_Odds o_Odds n_Odds hown hK hP hD hS 0 rfl rfl 1 (by decide) (hg _ k305) (fun _ h9 => h9) rfl (o_Odds 1 (by decide)) rfl rfl (Nat.le_of_ble_eq_true rfl) d_Odds_scaleTo_82 (fun H locs hP hD hS => ?_)
            have hPD : my_PD (dC, dI) vwCl A [(oo, Sum.inr (7, [Value.int osg, Value.int (nI (ns (scG n M C) (j + 1))), Value.int ofc, Value.ref oca, Value.ref opa])), (oca, Sum.inl (cI, n, Sum.inl (upd fL (nI j).toNatClampNeg 0))), (opa, Sum.inl (cI, opl, Sum.inl opf)), (ka, Sum.inl (cI, n, Sum.inl kf))] H := ⟨hP, hD⟩
            have hP := hPD.1
            have hD := hPD.2
            obtain ⟨v_18, ev_18⟩ : ∃ y : Int32, y = (nI j) + (1) := ⟨_, rfl⟩
            refine lv_iinc (v := v_18) (lv' := [(4, Value.int v_18), (3, Value.int (nI (ns C n))), (0, Value.ref oo), (1, Value.int (nI M)), (2, Value.ref ka)]) hx hb d_Odds_scaleTo_85 hl (k := 0) rfl (by rw [ev_18]; rfl) (by decide) rfl (fun ls hl => ?_)
            have z9 : v_18 = nI (j + 1) := by rw [ev_18]; exact nI_1 _
            subst z9
            refine lv_goto (tgt := 23) hx hb d_Odds_scaleTo_88 (by decide) ?_
            exact ih9_23 _ (by first | omega | (omega)) (j + 1) (upd fL (nI j).toNatClampNeg 0) rfl (by omega) (hL8) H locs ls (hP.sub [0, 1, 2, 3] rfl) (hD.sub [0, 1, 2, 3] (by decide +kernel) rfl) hS (lv_sub hl [0, 1, 2, 3, 4] rfl)
    exact J_23 _ (0 : Nat) ocfq_2 rfl (Nat.zero_le _) (tbL_0 hf_2) H locs ls (hP.sub [0, 1, 2, 3] rfl) (hD.sub [0, 1, 2, 3] (by decide +kernel) rfl) hS (lv_sub hl [0, 1, 2, 3, 4] rfl)
  · have hz : ns C n = 0 := by
      rcases Nat.eq_zero_or_pos (ns C n) with q | q
      · exact q
      · exact absurd (show 0 < nI (ns C n) from nI_pos0 q (by omega)) c_1
    have hsc : sc n M C = C := by unfold sc; rw [if_pos hz]
    have hsu : (nI (ns C n) : Int32) = nI (ns (sc n M C) n) := by rw [hsc]
    rw [hsu] at hP hD
    have hPD : my_PD (dC, dI) vwCl A [(oo, Sum.inr (7, [Value.int osg, Value.int (nI (ns (sc n M C) n)), Value.int ofc, Value.ref oca, Value.ref opa])), (oca, Sum.inl (cI, n, Sum.inl ocfq_2)), (opa, Sum.inl (cI, opl, Sum.inl opf)), (ka, Sum.inl (cI, n, Sum.inl kf))] H := ⟨hP, hD⟩
    have hP := hPD.1
    have hD := hPD.2
    exact my_vret hx hb hr hlocks hQ hK hS (Nat.le_refl _) (Nat.le_refl _) (ocfq_2) (by rw [hsc]; exact hf_2) (hP.sub [0, 1, 2, 3] rfl) (hD.sub [0, 1, 2, 3] (by decide +kernel) rfl) d_Odds_scaleTo_14
set_option maxHeartbeats 2000000 in
set_option maxRecDepth 100000 in
theorem f_Odds_spread (l : Launch) (dC : Nat → ClassId) (dI : Nat → Nat → Nat) (cI cM cO : ClassId) (sz : Nat) (oo : Nat) (osg : Int32) (ofc : Int32) (oca : Nat) (opa : Nat) (n : Nat) (ocf : Nat → Int32) (opl : Nat) (opf : Nat → Int32) (F : Nat → Nat) (osm : Int32) (hn : n ≤ 64) (hpl : opl ≤ 512) (hf : tbI ocf n F) (hsum : ns F n ≤ 512) : MetV l y_Odds_spread (Cond.code y_Odds_spread prog_7_method_11_code 4 none :: gw) ({ frames := 0, cells := 0, slots := 0, locals := 0 } : Room) (dC, dI) vwCl (kT cI cM cO) [Value.ref oo] [(oo, Sum.inr (7, [Value.int osg, Value.int osm, Value.int ofc, Value.ref oca, Value.ref opa])), (oca, Sum.inl (cI, n, Sum.inl ocf)), (opa, Sum.inl (cI, 512, Sum.inl opf))] sz (fun (u : (Nat → Int32)) => layt u F n (ns F n)) (fun (u : (Nat → Int32)) => [(oo, Sum.inr (7, [Value.int osg, Value.int osm, Value.int ofc, Value.ref oca, Value.ref opa])), (oca, Sum.inl (cI, n, Sum.inl ocf)), (opa, Sum.inl (cI, 512, Sum.inl u))]) 0 0 := by
  refine my_ofV (cc := prog_7_method_11_code) (n := 4) (ret := none) (by decide) rfl (Nat.le_of_ble_eq_true rfl) ?_
  intro p e s m args below meth c R Q A ls H locs hx hb hr hts hown hlocks hml hnm hR hQ hA hl hP hK hN hD hS
  have hg : ∀ w ∈ gw, w.before args s = true := fun w h => hts w (List.mem_cons_of_mem _ h)
  have hown : s.vm.findClass "RangeCoders$Odds" = some m.cls := hown
  have hl : lv_has ls 4 [(0, Value.ref oo)] := hl
  refine lv_iconst (v := 0) hx hb d_Odds_spread_0 (by decide) ?_
  refine lv_istore_n (lv' := [(1, Value.int 0), (0, Value.ref oo)]) hx hb d_Odds_spread_1 rfl hl (by decide) rfl (fun ls hl => ?_)
  refine lv_iconst (v := 0) hx hb d_Odds_spread_2 (by decide) ?_
  refine lv_istore_n (lv' := [(2, Value.int 0), (1, Value.int 0), (0, Value.ref oo)]) hx hb d_Odds_spread_3 rfl hl (by decide) rfl (fun ls hl => ?_)
  have J_4 : ∀ (n9_4 : Nat) (j : Nat) (soK : Nat → Int32) (hn9_4 : n - j = n9_4) (hj : j ≤ n) (hlt : layt soK F n (ns F j)) (H : Heap) (locs : List Loc) (ls : Array Slot), va_P (dC, dI) vwCl [(oo, Sum.inr (7, [Value.int osg, Value.int osm, Value.int ofc, Value.ref oca, Value.ref opa])), (oca, Sum.inl (cI, n, Sum.inl ocf)), (opa, Sum.inl (cI, 512, Sum.inl soK))] H → va_D A [(oo, Sum.inr (7, [Value.int osg, Value.int osm, Value.int ofc, Value.ref oca, Value.ref opa])), (oca, Sum.inl (cI, n, Sum.inl ocf)), (opa, Sum.inl (cI, 512, Sum.inl soK))] → va_S A s.heap H locs → lv_has ls 4 [(2, Value.int (nI j)), (1, Value.int (nI (323 * ns F j % 512))), (0, Value.ref oo)] → W p l e R s m args below meth c H locs 0 0 Q (F0 m 4 ls []) := by
    intro n9_4
    induction n9_4 using Nat.strongRecOn with
    | ind n9_4 ih9_4 =>
      intro j soK hn9_4 hj hlt H locs ls hP hD hS hl
      refine lv_iload_n hx hb d_Odds_spread_4 rfl (lv_at hl 0 rfl) ?_
      refine lv_aload_n hx hb d_Odds_spread_5 rfl (lv_at hl 2 rfl) ?_
      refine va_get (D := (dC, dI)) (ci := 7) (v := .ref oca) (C := "RangeCoders$Odds") (T := T_Odds) (N := 5) hx hb hg in_Odds hown hK hP 0 rfl rfl 3 (by decide) (hg _ k309) (fun _ h9 => h9) rfl d_Odds_spread_6 ?_
      refine va_alen hx hb hK hP 1 0 rfl rfl (v := nI n) rfl d_Odds_spread_9 ?_
      refine lv_icmp_ge (tgt := 69) hx hb d_Odds_spread_10 (by decide) (fun c_1 => ?_) (fun c_1 => ?_)
      · have hj3 : n = j := by have := nI_ge' (by omega) (by omega) c_1; omega
        subst hj3
        have hPD : my_PD (dC, dI) vwCl A [(oo, Sum.inr (7, [Value.int osg, Value.int osm, Value.int ofc, Value.ref oca, Value.ref opa])), (oca, Sum.inl (cI, n, Sum.inl ocf)), (opa, Sum.inl (cI, 512, Sum.inl soK))] H := ⟨hP, hD⟩
        have hP := hPD.1
        have hD := hPD.2
        exact my_vret hx hb hr hlocks hQ hK hS (Nat.le_refl _) (Nat.le_refl _) (soK) (hlt) (hP.sub [0, 1, 2] rfl) (hD.sub [0, 1, 2] (by decide +kernel) rfl) d_Odds_spread_69
      · have hj2 : j < n := nI_lt' (by omega) c_1
        have hm1 := ns_m1 F hj2
        have hm2 := ns_m F (show j + 1 ≤ n from hj2)
        refine lv_iconst (v := 0) hx hb d_Odds_spread_13 (by decide) ?_
        refine lv_istore_n (lv' := [(3, Value.int 0), (2, Value.int (nI j)), (1, Value.int (nI (323 * ns F j % 512))), (0, Value.ref oo)]) hx hb d_Odds_spread_14 rfl hl (by decide) rfl (fun ls hl => ?_)
        have J_15 : ∀ (n9_15 : Nat) (k : Nat) (soJ : Nat → Int32) (hn9_15 : F j - k = n9_15) (hk1 : k ≤ F j) (hl2 : layt soJ F n (ns F j + k)) (H : Heap) (locs : List Loc) (ls : Array Slot), va_P (dC, dI) vwCl [(oo, Sum.inr (7, [Value.int osg, Value.int osm, Value.int ofc, Value.ref oca, Value.ref opa])), (oca, Sum.inl (cI, n, Sum.inl ocf)), (opa, Sum.inl (cI, 512, Sum.inl soJ))] H → va_D A [(oo, Sum.inr (7, [Value.int osg, Value.int osm, Value.int ofc, Value.ref oca, Value.ref opa])), (oca, Sum.inl (cI, n, Sum.inl ocf)), (opa, Sum.inl (cI, 512, Sum.inl soJ))] → va_S A s.heap H locs → lv_has ls 4 [(3, Value.int (nI k)), (1, Value.int (nI (323 * (ns F j + k) % 512))), (2, Value.int (nI j)), (0, Value.ref oo)] → W p l e R s m args below meth c H locs 0 0 Q (F0 m 15 ls []) := by
          intro n9_15
          induction n9_15 using Nat.strongRecOn with
          | ind n9_15 ih9_15 =>
            intro k soJ hn9_15 hk1 hl2 H locs ls hP hD hS hl
            refine lv_iload_n hx hb d_Odds_spread_15 rfl (lv_at hl 0 rfl) ?_
            refine lv_aload_n hx hb d_Odds_spread_16 rfl (lv_at hl 3 rfl) ?_
            refine va_get (D := (dC, dI)) (ci := 7) (v := .ref oca) (C := "RangeCoders$Odds") (T := T_Odds) (N := 5) hx hb hg in_Odds hown hK hP 0 rfl rfl 3 (by decide) (hg _ k309) (fun _ h9 => h9) rfl d_Odds_spread_17 ?_
            refine lv_iload_n hx hb d_Odds_spread_20 rfl (lv_at hl 2 rfl) ?_
            refine va_iald hx hb hK hP 1 0 rfl rfl (vp_in_nI hj2 (by omega)) d_Odds_spread_21 ?_
            refine lv_topi (fun v_2 ev_2 => ?_)
            have z9 : v_2 = nI (F j) := by rw [ev_2]; exact tb_rd hf hj2 (by omega)
            subst z9
            refine lv_icmp_ge (tgt := 63) hx hb d_Odds_spread_22 (by decide) (fun c_3 => ?_) (fun c_3 => ?_)
            · have hk3 : F j = k := by have := nI_ge' (by omega) (by omega) c_3; omega
              subst hk3
              have hPD : my_PD (dC, dI) vwCl A [(oo, Sum.inr (7, [Value.int osg, Value.int osm, Value.int ofc, Value.ref oca, Value.ref opa])), (oca, Sum.inl (cI, n, Sum.inl ocf)), (opa, Sum.inl (cI, 512, Sum.inl soJ))] H := ⟨hP, hD⟩
              have hP := hPD.1
              have hD := hPD.2
              obtain ⟨v_4, ev_4⟩ : ∃ y : Int32, y = (nI j) + (1) := ⟨_, rfl⟩
              refine lv_iinc (v := v_4) (lv' := [(2, Value.int v_4), (3, Value.int (nI (F j))), (1, Value.int (nI (323 * (ns F j + (F j)) % 512))), (0, Value.ref oo)]) hx hb d_Odds_spread_63 hl (k := 2) rfl (by rw [ev_4]; rfl) (by decide) rfl (fun ls hl => ?_)
              have z9 : v_4 = nI (j + 1) := by rw [ev_4]; exact nI_1 _
              subst z9
              refine lv_goto (tgt := 4) hx hb d_Odds_spread_66 (by decide) ?_
              exact ih9_4 _ (by first | omega | (omega)) (j + 1) soJ rfl (by omega) (hl2) H locs ls (hP.sub [0, 1, 2] rfl) (hD.sub [0, 1, 2] (by decide +kernel) rfl) hS (lv_sub hl [0, 2, 3] rfl)
            · have hk2 : k < F j := nI_lt' (by omega) c_3
              have hm5 := Nat.mod_lt (323 * (ns F j + k)) (show 0 < 512 by decide)
              refine lv_iload_n hx hb d_Odds_spread_25 rfl (lv_at hl 1 rfl) ?_
              refine lv_if_lt (tgt := 57) hx hb d_Odds_spread_26 (by decide) (fun c_5 => ?_) (fun c_5 => ?_)
              · exact absurd c_5 (nI_pos (by omega))
              · refine lv_iload_n hx hb d_Odds_spread_29 rfl (lv_at hl 1 rfl) ?_
                refine lv_aload_n hx hb d_Odds_spread_30 rfl (lv_at hl 3 rfl) ?_
                refine va_get (D := (dC, dI)) (ci := 7) (v := .ref opa) (C := "RangeCoders$Odds") (T := T_Odds) (N := 5) hx hb hg in_Odds hown hK hP 0 rfl rfl 4 (by decide) (hg _ k310) (fun _ h9 => h9) rfl d_Odds_spread_31 ?_
                refine va_alen hx hb hK hP 2 0 rfl rfl (v := nI 512) rfl d_Odds_spread_34 ?_
                refine lv_icmp_ge (tgt := 57) hx hb d_Odds_spread_35 (by decide) (fun c_6 => ?_) (fun c_6 => ?_)
                · exact absurd (nI_ge' (n := 512) (by omega) (by decide) c_6) (by omega)
                · refine lv_aload_n hx hb d_Odds_spread_38 rfl (lv_at hl 3 rfl) ?_
                  refine va_get (D := (dC, dI)) (ci := 7) (v := .ref opa) (C := "RangeCoders$Odds") (T := T_Odds) (N := 5) hx hb hg in_Odds hown hK hP 0 rfl rfl 4 (by decide) (hg _ k310) (fun _ h9 => h9) rfl d_Odds_spread_39 ?_
                  refine lv_iload_n hx hb d_Odds_spread_42 rfl (lv_at hl 1 rfl) ?_
                  refine lv_iload_n hx hb d_Odds_spread_43 rfl (lv_at hl 2 rfl) ?_
                  refine va_iast hx hb hK hP hD hS 2 0 rfl rfl (vp_in_nI hm5 (by decide)) d_Odds_spread_44 (fun H locs hP hD hS => ?_)
                  have hPD : my_PD (dC, dI) vwCl A [(oo, Sum.inr (7, [Value.int osg, Value.int osm, Value.int ofc, Value.ref oca, Value.ref opa])), (oca, Sum.inl (cI, n, Sum.inl ocf)), (opa, Sum.inl (cI, 512, Sum.inl (upd soJ (nI (323 * (ns F j + k) % 512)).toNatClampNeg (nI j))))] H := ⟨hP, hD⟩
                  have hP := hPD.1
                  have hD := hPD.2
                  have hl8 : layt (upd soJ (nI (323 * (ns F j + k) % 512)).toNatClampNeg (nI j)) F n (ns F j + (k + 1)) := layt_st (t := ns F j + k) hl2 (by omega) (nI_clamp (by omega)) (by rw [sgA_eq (s := j) hj2 (Nat.le_add_right _ _) (by omega)])
                  refine lv_iload_n hx hb d_Odds_spread_45 rfl (lv_at hl 1 rfl) ?_
                  refine lv_sipush (v := 323) hx hb d_Odds_spread_46 (by decide) ?_
                  refine lv_iadd hx hb d_Odds_spread_49 ?_
                  refine lv_topi (fun v_7 ev_7 => ?_)
                  refine lv_aload_n hx hb d_Odds_spread_50 rfl (lv_at hl 3 rfl) ?_
                  refine va_get (D := (dC, dI)) (ci := 7) (v := .ref opa) (C := "RangeCoders$Odds") (T := T_Odds) (N := 5) hx hb hg in_Odds hown hK hP 0 rfl rfl 4 (by decide) (hg _ k310) (fun _ h9 => h9) rfl d_Odds_spread_51 ?_
                  refine va_alen hx hb hK hP 2 0 rfl rfl (v := nI 512) rfl d_Odds_spread_54 ?_
                  refine lv_irem hx hb d_Odds_spread_55 (by decide) ?_
                  refine lv_topi (fun v_8 ev_8 => ?_)
                  have hpn : v_8 = nI (323 * (ns F j + (k + 1)) % 512) := by
                    subst_vars
                    rw [show nI (323 * (ns F j + k) % 512) + 323 = nI (323 * (ns F j + k) % 512 + 323) from nI_add _ 323]
                    refine (pk_rem (d := 512) (by omega) (by decide) (by decide)).trans ?_
                    congr 1
                    omega
                  have z9 : v_8 = nI (323 * (ns F j + (k + 1)) % 512) := hpn
                  subst z9
                  refine lv_istore_n (lv' := [(1, Value.int (nI (323 * (ns F j + (k + 1)) % 512))), (3, Value.int (nI k)), (2, Value.int (nI j)), (0, Value.ref oo)]) hx hb d_Odds_spread_56 rfl hl (by decide) rfl (fun ls hl => ?_)
                  obtain ⟨v_9, ev_9⟩ : ∃ y : Int32, y = (nI k) + (1) := ⟨_, rfl⟩
                  refine lv_iinc (v := v_9) (lv' := [(3, Value.int v_9), (1, Value.int (nI (323 * (ns F j + (k + 1)) % 512))), (2, Value.int (nI j)), (0, Value.ref oo)]) hx hb d_Odds_spread_57 hl (k := 1) rfl (by rw [ev_9]; rfl) (by decide) rfl (fun ls hl => ?_)
                  have z9 : v_9 = nI (k + 1) := by rw [ev_9]; exact nI_1 _
                  subst z9
                  refine lv_goto (tgt := 15) hx hb d_Odds_spread_60 (by decide) ?_
                  exact ih9_15 _ (by first | omega | (omega)) (k + 1) (upd soJ (nI (323 * (ns F j + k) % 512)).toNatClampNeg (nI j)) rfl (by omega) (hl8) H locs ls (hP.sub [0, 1, 2] rfl) (hD.sub [0, 1, 2] (by decide +kernel) rfl) hS (lv_sub hl [0, 1, 2, 3] rfl)
        exact J_15 _ (0 : Nat) soK rfl (Nat.zero_le _) (hlt) H locs ls (hP.sub [0, 1, 2] rfl) (hD.sub [0, 1, 2] (by decide +kernel) rfl) hS (lv_sub hl [0, 2, 1, 3] rfl)
  exact J_4 _ (0 : Nat) opf rfl (Nat.zero_le _) (fun _ z => absurd z (Nat.not_lt_zero _)) H locs ls (hP.sub [0, 1, 2] rfl) (hD.sub [0, 1, 2] (by decide +kernel) rfl) hS (lv_sub hl [0, 1, 2] rfl)
set_option maxHeartbeats 2000000 in
set_option maxRecDepth 100000 in
theorem f_Odds_placeOf (l : Launch) (dC : Nat → ClassId) (dI : Nat → Nat → Nat) (cI cM cO : ClassId) (sz : Nat) (oo : Nat) (osg : Int32) (ofc : Int32) (oca : Nat) (opa : Nat) (n : Nat) (ocf : Nat → Int32) (opl : Nat) (opf : Nat → Int32) (osm : Int32) (P : Nat → Nat) (x : Nat) (d : Nat) (p9 : Nat) (hn : n ≤ 64) (hpl : opl ≤ 512) (hop : tbI opf 512 P) (hPb : ∀ p, p < 512 → P p < 64) (hxs : x < 64) (hp9 : p9 < 512) (hPx : P p9 = x) (hcd : cn P x p9 = d) : MetI l y_Odds_placeOf (Cond.code y_Odds_placeOf prog_7_method_14_code 5 (some .int) :: gw) ({ frames := 0, cells := 0, slots := 0, locals := 0 } : Room) (dC, dI) vwCl (kT cI cM cO) [Value.ref oo, Value.int (nI x), Value.int (nI d)] [(oo, Sum.inr (7, [Value.int osg, Value.int osm, Value.int ofc, Value.ref oca, Value.ref opa])), (oca, Sum.inl (cI, n, Sum.inl ocf)), (opa, Sum.inl (cI, 512, Sum.inl opf))] sz (fun (r : Int32) (u : Unit) => r = nI p9) (fun (u : Unit) => [(oo, Sum.inr (7, [Value.int osg, Value.int osm, Value.int ofc, Value.ref oca, Value.ref opa])), (oca, Sum.inl (cI, n, Sum.inl ocf)), (opa, Sum.inl (cI, 512, Sum.inl opf))]) 0 0 := by
  refine my_ofI (cc := prog_7_method_14_code) (n := 5) (ret := (some .int)) (by decide) rfl (Nat.le_of_ble_eq_true rfl) ?_
  intro p e s m args below meth c R Q A ls H locs hx hb hr hts hown hlocks hml hnm hR hQ hA hl hP hK hN hD hS
  have hg : ∀ w ∈ gw, w.before args s = true := fun w h => hts w (List.mem_cons_of_mem _ h)
  have hown : s.vm.findClass "RangeCoders$Odds" = some m.cls := hown
  have hl : lv_has ls 5 [(0, Value.ref oo), (1, Value.int (nI x)), (2, Value.int (nI d))] := hl
  refine lv_iload_n hx hb d_Odds_placeOf_0 rfl (lv_at hl 2 rfl) ?_
  refine lv_istore_n (lv' := [(3, Value.int (nI d)), (0, Value.ref oo), (1, Value.int (nI x)), (2, Value.int (nI d))]) hx hb d_Odds_placeOf_1 rfl hl (by decide) rfl (fun ls hl => ?_)
  refine lv_iconst (v := 0) hx hb d_Odds_placeOf_2 (by decide) ?_
  refine lv_istore (lv' := [(4, Value.int 0), (3, Value.int (nI d)), (0, Value.ref oo), (1, Value.int (nI x)), (2, Value.int (nI d))]) hx hb d_Odds_placeOf_3 hl (by decide) rfl (fun ls hl => ?_)
  have J_5 : ∀ (n9_5 : Nat) (j : Nat) (hn9_5 : p9 - j = n9_5) (hj : j ≤ p9) (hcj : cn P x j ≤ d) (H : Heap) (locs : List Loc) (ls : Array Slot), va_P (dC, dI) vwCl [(oo, Sum.inr (7, [Value.int osg, Value.int osm, Value.int ofc, Value.ref oca, Value.ref opa])), (oca, Sum.inl (cI, n, Sum.inl ocf)), (opa, Sum.inl (cI, 512, Sum.inl opf))] H → va_D A [(oo, Sum.inr (7, [Value.int osg, Value.int osm, Value.int ofc, Value.ref oca, Value.ref opa])), (oca, Sum.inl (cI, n, Sum.inl ocf)), (opa, Sum.inl (cI, 512, Sum.inl opf))] → va_S A s.heap H locs → lv_has ls 5 [(4, Value.int (nI j)), (3, Value.int (nI (d - cn P x j))), (0, Value.ref oo), (1, Value.int (nI x)), (2, Value.int (nI d))] → W p l e R s m args below meth c H locs 0 0 Q (F0 m 5 ls []) := by
    intro n9_5
    induction n9_5 using Nat.strongRecOn with
    | ind n9_5 ih9_5 =>
      intro j hn9_5 hj hcj H locs ls hP hD hS hl
      have hcl := cn_le P x p9
      have hPj := hPb j (by omega)
      refine lv_iload hx hb d_Odds_placeOf_5 (lv_at hl 0 rfl) ?_
      refine lv_aload_n hx hb d_Odds_placeOf_7 rfl (lv_at hl 2 rfl) ?_
      refine va_get (D := (dC, dI)) (ci := 7) (v := .ref opa) (C := "RangeCoders$Odds") (T := T_Odds) (N := 5) hx hb hg in_Odds hown hK hP 0 rfl rfl 4 (by decide) (hg _ k310) (fun _ h9 => h9) rfl d_Odds_placeOf_8 ?_
      refine va_alen hx hb hK hP 2 0 rfl rfl (v := nI 512) rfl d_Odds_placeOf_11 ?_
      refine lv_icmp_ge (tgt := 42) hx hb d_Odds_placeOf_12 (by decide) (fun c_1 => ?_) (fun c_1 => ?_)
      · exact absurd (nI_ge' (n := 512) (by omega) (by decide) c_1) (by omega)
      · refine lv_aload_n hx hb d_Odds_placeOf_15 rfl (lv_at hl 2 rfl) ?_
        refine va_get (D := (dC, dI)) (ci := 7) (v := .ref opa) (C := "RangeCoders$Odds") (T := T_Odds) (N := 5) hx hb hg in_Odds hown hK hP 0 rfl rfl 4 (by decide) (hg _ k310) (fun _ h9 => h9) rfl d_Odds_placeOf_16 ?_
        refine lv_iload hx hb d_Odds_placeOf_19 (lv_at hl 0 rfl) ?_
        refine va_iald hx hb hK hP 2 0 rfl rfl (vp_in_nI (show j < 512 by omega) (by decide)) d_Odds_placeOf_21 ?_
        refine lv_topi (fun v_2 ev_2 => ?_)
        have z9 : v_2 = nI (P j) := by rw [ev_2]; exact tb_rd hop (show j < 512 by omega) (by omega)
        subst z9
        refine lv_iload_n hx hb d_Odds_placeOf_22 rfl (lv_at hl 3 rfl) ?_
        refine lv_icmp_ne (tgt := 36) hx hb d_Odds_placeOf_23 (by decide) (fun c_3 => ?_) (fun c_3 => ?_)
        · have hc8 : cn P x (j + 1) = cn P x j := by rw [cn, if_neg (fun q => c_3 (by rw [q]))]
          have hj8 : j + 1 ≤ p9 := by
            rcases Nat.lt_or_ge j p9 with z | z
            · exact z
            · have e : j = p9 := by omega
              subst e
              exact absurd (by rw [hPx]) c_3
          have hl : lv_has ls 5 [(4, Value.int (nI j)), (3, Value.int (nI (d - cn P x (j + 1)))), (0, Value.ref oo), (1, Value.int (nI x)), (2, Value.int (nI d))] := by rw [← hc8] at hl; exact hl
          obtain ⟨v_4, ev_4⟩ : ∃ y : Int32, y = (nI j) + (1) := ⟨_, rfl⟩
          refine lv_iinc (v := v_4) (lv' := [(4, Value.int v_4), (3, Value.int (nI (d - cn P x (j + 1)))), (0, Value.ref oo), (1, Value.int (nI x)), (2, Value.int (nI d))]) hx hb d_Odds_placeOf_36 hl (k := 0) rfl (by rw [ev_4]; rfl) (by decide) rfl (fun ls hl => ?_)
          have z9 : v_4 = nI (j + 1) := by rw [ev_4]; exact nI_1 _
          subst z9
          refine lv_goto (tgt := 5) hx hb d_Odds_placeOf_39 (by decide) ?_
          exact ih9_5 _ (by first | omega | (omega)) (j + 1) rfl (hj8) (by rw [hc8]; omega) H locs ls (hP.sub [0, 1, 2] rfl) (hD.sub [0, 1, 2] (by decide +kernel) rfl) hS (lv_sub hl [0, 1, 2, 3, 4] rfl)
        · have hPe : P j = x := (nI_eq (by omega) (by omega)).mp c_3
          refine lv_iload_n hx hb d_Odds_placeOf_26 rfl (lv_at hl 1 rfl) ?_
          refine lv_if_ne (tgt := 33) hx hb d_Odds_placeOf_27 (by decide) (fun c_5 => ?_) (fun c_5 => ?_)
          · have hc1 : ¬ d - cn P x j = 0 := fun q => c_5 (by rw [q]; rfl)
            obtain ⟨v_6, ev_6⟩ : ∃ y : Int32, y = (nI (d - cn P x j)) + (-1) := ⟨_, rfl⟩
            refine lv_iinc (v := v_6) (lv' := [(3, Value.int v_6), (4, Value.int (nI j)), (0, Value.ref oo), (1, Value.int (nI x)), (2, Value.int (nI d))]) hx hb d_Odds_placeOf_33 hl (k := 1) rfl (by rw [ev_6]; rfl) (by decide) rfl (fun ls hl => ?_)
            have hc8 : cn P x (j + 1) = cn P x j + 1 := by rw [cn, if_pos hPe]
            have hj8 : j + 1 ≤ p9 := by
              rcases Nat.lt_or_ge j p9 with z | z
              · exact z
              · have e : j = p9 := by omega
                subst e
                exact absurd (by omega : d - cn P x j = 0) hc1
            have z9 : v_6 = nI (d - cn P x (j + 1)) := by rw [ev_6, hc8, show d - (cn P x j + 1) = d - cn P x j - 1 by omega]; exact nI_m1 (by omega)
            subst z9
            obtain ⟨v_7, ev_7⟩ : ∃ y : Int32, y = (nI j) + (1) := ⟨_, rfl⟩
            refine lv_iinc (v := v_7) (lv' := [(4, Value.int v_7), (3, Value.int (nI (d - cn P x (j + 1)))), (0, Value.ref oo), (1, Value.int (nI x)), (2, Value.int (nI d))]) hx hb d_Odds_placeOf_36 hl (k := 1) rfl (by rw [ev_7]; rfl) (by decide) rfl (fun ls hl => ?_)
            have z9 : v_7 = nI (j + 1) := by rw [ev_7]; exact nI_1 _
            subst z9
            refine lv_goto (tgt := 5) hx hb d_Odds_placeOf_39 (by decide) ?_
            exact ih9_5 _ (by first | omega | (omega)) (j + 1) rfl (hj8) (by rw [hc8]; omega) H locs ls (hP.sub [0, 1, 2] rfl) (hD.sub [0, 1, 2] (by decide +kernel) rfl) hS (lv_sub hl [0, 1, 2, 3, 4] rfl)
          · have hc0 : d - cn P x j = 0 := (nI_eq (b := 0) (by omega) (by decide)).mp c_5
            have hjp : j = p9 := by
              rcases Nat.lt_or_ge j p9 with z | z
              · have h1 := cn_mono P x (show j + 1 ≤ p9 from z)
                rw [cn, if_pos hPe] at h1
                omega
              · omega
            refine lv_iload hx hb d_Odds_placeOf_30 (lv_at hl 0 rfl) ?_
            exact my_iret (v := nI j) hx hb hr (rfl) hlocks hQ hK hS (Nat.le_refl _) (Nat.le_refl _) () (by rw [hjp]) (hP.sub [0, 1, 2] rfl) (hD.sub [0, 1, 2] (by decide +kernel) rfl) d_Odds_placeOf_32
  exact J_5 _ (0 : Nat) rfl (Nat.zero_le _) (Nat.zero_le _) H locs ls (hP.sub [0, 1, 2] rfl) (hD.sub [0, 1, 2] (by decide +kernel) rfl) hS (lv_sub hl [0, 1, 2, 3, 4] rfl)
end
section
set_option maxHeartbeats 2000000 in
set_option maxRecDepth 100000 in
theorem f_Bits_writeWaiting (l : Launch) (dC : Nat → ClassId) (dI : Nat → Nat → Nat) (cI cM cO : ClassId) (sz : Nat) (sl : Nat) (co : Nat) (xshift : Int32) (xkeptCode : Int64) (xkeptRange : Int64) (xkeptAsked : Int32) (xlow : Int64) (xrange : Int64) (xcode : Int64) (xreadLow : Int64) (xreadRange : Int64) (ri : Nat) (ro : Nat) (rw : Nat) (xasked : Int32) (ca : Option Nat) (Pn : Nat) (kc : Nat) (rwa : Nat) (rwk : Nat) (rwf : Nat → Int32) (bs : List Nat) (hc : ∀ x, ca = some x → x < 256) (hkc : kc ≤ 1) (hrw : rOk (nI bs.length) rwk) (hGrw : gIs rwf bs) (hN9 : bs.length + Pn + 1 ≤ 8000) : MetVg l y_Carries_writeWaiting (Cond.code y_Carries_writeWaiting prog_3_method_9_code 3 none :: gw) ({ frames := 3, cells := rPh rwk, slots := rPh rwk, locals := 83 } : Room) (dC, dI) vwCl (kT cI cM cO) [Value.ref co, Value.int (nI kc)] [(co, Sum.inr (3, [Value.int xshift, Value.long xkeptCode, Value.long xkeptRange, Value.int xkeptAsked, Value.int (caI ca), Value.int (nI Pn), Value.long xlow, Value.long xrange, Value.long xcode, Value.long xreadLow, Value.long xreadRange, Value.ref ri, Value.ref ro, Value.ref rw, Value.int xasked])), (rw, Sum.inr (0, [Value.int (nI bs.length), Value.ref rwa])), (rwa, Sum.inl (cI, rwk, Sum.inl rwf))] sz sl (fun (u : Nat × Nat × (Nat → Int32)) => rOk (nI (bs ++ caB ca kc ++ List.replicate Pn ((255 + kc) % 256)).length) u.2.1 ∧ gIs u.2.2 (bs ++ caB ca kc ++ List.replicate Pn ((255 + kc) % 256))) (fun (u : Nat × Nat × (Nat → Int32)) => [(co, Sum.inr (3, [Value.int xshift, Value.long xkeptCode, Value.long xkeptRange, Value.int xkeptAsked, Value.int (caI ca), Value.int 0, Value.long xlow, Value.long xrange, Value.long xcode, Value.long xreadLow, Value.long xreadRange, Value.ref ri, Value.ref ro, Value.ref rw, Value.int xasked])), (rw, Sum.inr (0, [Value.int (nI (bs ++ caB ca kc ++ List.replicate Pn ((255 + kc) % 256)).length), Value.ref u.1])), (u.1, Sum.inl (cI, u.2.1, Sum.inl u.2.2))]) (rPh rwk) (fun (u : Nat × Nat × (Nat → Int32)) => rPh u.2.1) := by
  refine my_ofVg (cc := prog_3_method_9_code) (n := 3) (ret := none) (by decide) rfl (Nat.le_of_ble_eq_true rfl) ?_
  intro p e s m args below meth c R Q A ls H locs hx hb hr hts hown hlocks hml hnm hR hQ hA hl hP hK hN hD hS
  have hg : ∀ w ∈ gw, w.before args s = true := fun w h => hts w (List.mem_cons_of_mem _ h)
  have hown : s.vm.findClass "RangeCoders$Carries" = some m.cls := hown
  have hl : lv_has ls 3 [(0, Value.ref co), (1, Value.int (nI kc))] := hl
  have hltw := rOk_lt hrw
  refine lv_aload_n hx hb d_Carries_writeWaiting_0 rfl (lv_at hl 0 rfl) ?_
  refine va_get (D := (dC, dI)) (ci := 3) (v := .int (caI ca)) (C := "RangeCoders$Bits") (T := T_Bits) (N := 15) hx hb hg in_Bits hown hK hP 0 rfl rfl 4 (by decide) (hg _ k68) (fun _ h9 => h9) rfl d_Carries_writeWaiting_1 ?_
  refine lv_iconst (v := (-1)) hx hb d_Carries_writeWaiting_4 (by decide) ?_
  refine lv_icmp_eq (tgt := 25) hx hb d_Carries_writeWaiting_5 (by decide) (fun c_1 => ?_) (fun c_1 => ?_)
  · have hcn : ca = none := (caI_ne hc).mp c_1
    refine lv_iconst (v := 0) hx hb d_Carries_writeWaiting_25 (by decide) ?_
    refine lv_istore_n (lv' := [(2, Value.int 0), (0, Value.ref co), (1, Value.int (nI kc))]) hx hb d_Carries_writeWaiting_26 rfl hl (by decide) rfl (fun ls hl => ?_)
    have J_27 : ∀ (n9_27 : Nat) (j : Nat) (b9 : List Nat) (rwa9 : Nat) (rwk9 : Nat) (rwf9 : Nat → Int32) (d9 : Nat) (hn9_27 : Pn - j = n9_27) (hj : j ≤ Pn) (hb9 : b9 = bs ++ caB ca kc ++ List.replicate j ((255 + kc) % 256)) (hr9 : rOk (nI b9.length) rwk9) (hg9 : gIs rwf9 b9) (hd9 : d9 + rPh rwk9 ≤ rPh rwk) (H : Heap) (locs : List Loc) (ls : Array Slot), va_P (dC, dI) vwCl [(co, Sum.inr (3, [Value.int xshift, Value.long xkeptCode, Value.long xkeptRange, Value.int xkeptAsked, Value.int (caI ca), Value.int (nI Pn), Value.long xlow, Value.long xrange, Value.long xcode, Value.long xreadLow, Value.long xreadRange, Value.ref ri, Value.ref ro, Value.ref rw, Value.int xasked])), (rw, Sum.inr (0, [Value.int (nI b9.length), Value.ref rwa9])), (rwa9, Sum.inl (cI, rwk9, Sum.inl rwf9))] H → va_D A [(co, Sum.inr (3, [Value.int xshift, Value.long xkeptCode, Value.long xkeptRange, Value.int xkeptAsked, Value.int (caI ca), Value.int (nI Pn), Value.long xlow, Value.long xrange, Value.long xcode, Value.long xreadLow, Value.long xreadRange, Value.ref ri, Value.ref ro, Value.ref rw, Value.int xasked])), (rw, Sum.inr (0, [Value.int (nI b9.length), Value.ref rwa9])), (rwa9, Sum.inl (cI, rwk9, Sum.inl rwf9))] → va_S A s.heap H locs → lv_has ls 3 [(2, Value.int (nI j)), (0, Value.ref co), (1, Value.int (nI kc))] → W p l e R s m args below meth c H locs d9 d9 Q (F0 m 27 ls []) := by
      intro n9_27
      induction n9_27 using Nat.strongRecOn with
      | ind n9_27 ih9_27 =>
        intro j b9 rwa9 rwk9 rwf9 d9 hn9_27 hj hb9 hr9 hg9 hd9 H locs ls hP hD hS hl
        have hbl : b9.length ≤ bs.length + 1 + j := by
          rw [hb9]
          simp only [List.length_append, List.length_replicate]
          have := caB_le ca kc
          omega
        refine lv_iload_n hx hb d_Carries_writeWaiting_27 rfl (lv_at hl 0 rfl) ?_
        refine lv_aload_n hx hb d_Carries_writeWaiting_28 rfl (lv_at hl 1 rfl) ?_
        refine va_get (D := (dC, dI)) (ci := 3) (v := .int (nI Pn)) (C := "RangeCoders$Bits") (T := T_Bits) (N := 15) hx hb hg in_Bits hown hK hP 0 rfl rfl 5 (by decide) (hg _ k69) (fun _ h9 => h9) rfl d_Carries_writeWaiting_29 ?_
        refine lv_icmp_ge (tgt := 57) hx hb d_Carries_writeWaiting_32 (by decide) (fun c_2 => ?_) (fun c_2 => ?_)
        · have hj3 : Pn = j := by have := nI_ge' (by omega) (by omega) c_2; omega
          subst hj3
          have hPD : my_PD (dC, dI) vwCl A [(co, Sum.inr (3, [Value.int xshift, Value.long xkeptCode, Value.long xkeptRange, Value.int xkeptAsked, Value.int (caI ca), Value.int (nI Pn), Value.long xlow, Value.long xrange, Value.long xcode, Value.long xreadLow, Value.long xreadRange, Value.ref ri, Value.ref ro, Value.ref rw, Value.int xasked])), (rw, Sum.inr (0, [Value.int (nI b9.length), Value.ref rwa9])), (rwa9, Sum.inl (cI, rwk9, Sum.inl rwf9))] H := ⟨hP, hD⟩
          have hP := hPD.1
          have hD := hPD.2
          have z9 : b9 = bs ++ caB ca kc ++ List.replicate Pn ((255 + kc) % 256) := hb9
          subst z9
          refine lv_aload_n hx hb d_Carries_writeWaiting_57 rfl (lv_at hl 1 rfl) ?_
          refine lv_iconst (v := 0) hx hb d_Carries_writeWaiting_58 (by decide) ?_
          refine va_put (D := (dC, dI)) (ci := 3) (v := .int 0) (ty := .int) (C := "RangeCoders$Bits") (T := T_Bits) (N := 15) hx hb hg in_Bits t_Bits o_Bits n_Bits hown hK hP hD hS 0 rfl rfl 5 (by decide) (hg _ k69) (fun _ h9 => h9) rfl (o_Bits 5 (by decide)) rfl rfl (Nat.le_of_ble_eq_true rfl) d_Carries_writeWaiting_59 (fun H locs hP hD hS => ?_)
          have hPD : my_PD (dC, dI) vwCl A [(co, Sum.inr (3, [Value.int xshift, Value.long xkeptCode, Value.long xkeptRange, Value.int xkeptAsked, Value.int (caI ca), Value.int 0, Value.long xlow, Value.long xrange, Value.long xcode, Value.long xreadLow, Value.long xreadRange, Value.ref ri, Value.ref ro, Value.ref rw, Value.int xasked])), (rw, Sum.inr (0, [Value.int (nI (bs ++ caB ca kc ++ List.replicate Pn ((255 + kc) % 256)).length), Value.ref rwa9])), (rwa9, Sum.inl (cI, rwk9, Sum.inl rwf9))] H := ⟨hP, hD⟩
          have hP := hPD.1
          have hD := hPD.2
          exact my_vretg hx hb hr hlocks hQ hK hS (rwa9, rwk9, rwf9) (show d9 + (rPh rwk9) ≤ (rPh rwk) by omega) (show d9 + (rPh rwk9) ≤ (rPh rwk) by omega) (⟨hr9, hg9⟩) (hP.sub [0, 1, 2] rfl) (hD.sub [0, 1, 2] (by decide +kernel) rfl) d_Carries_writeWaiting_62
        · have hj2 : j < Pn := nI_lt' (by omega) c_2
          refine lv_aload_n hx hb d_Carries_writeWaiting_35 rfl (lv_at hl 1 rfl) ?_
          refine va_get (D := (dC, dI)) (ci := 3) (v := .ref rw) (C := "RangeCoders$Bits") (T := T_Bits) (N := 15) hx hb hg in_Bits hown hK hP 0 rfl rfl 13 (by decide) (hg _ k124) (fun x9 h9 => u_same (hg _ k125) x9 h9) rfl d_Carries_writeWaiting_36 ?_
          refine lv_sipush (v := 255) hx hb d_Carries_writeWaiting_39 (by decide) ?_
          refine lv_iload_n hx hb d_Carries_writeWaiting_42 rfl (lv_at hl 2 rfl) ?_
          refine lv_iadd hx hb d_Carries_writeWaiting_43 ?_
          refine lv_topi (fun v_3 ev_3 => ?_)
          refine lv_sipush (v := 255) hx hb d_Carries_writeWaiting_44 (by decide) ?_
          refine lv_iand hx hb d_Carries_writeWaiting_47 ?_
          refine lv_topi (fun v_4 ev_4 => ?_)
          have z9 : v_4 = nI ((255 + kc) % 256) := by subst_vars; rw [show (255 : Int32) + nI kc = nI (255 + kc) from nI_add 255 kc]; exact pk_andN (by omega) 8 (by decide +kernel)
          subst z9
          refine my_cvg (wr := [(co, Sum.inr (3, [Value.int xshift, Value.long xkeptCode, Value.long xkeptRange, Value.int xkeptAsked, Value.int (caI ca), Value.int (nI Pn), Value.long xlow, Value.long xrange, Value.long xcode, Value.long xreadLow, Value.long xreadRange, Value.ref ri, Value.ref ro, Value.ref rw, Value.int xasked]))]) (va_runV (As := [Value.int (nI ((255 + kc) % 256))]) (rest := []) ⟨hx, hb, hml, hown, hts⟩ (f_Row_add l dC dI cI cM cO H.size (hSl H) rw rwa9 rwk9 rwf9 b9 ((255 + kc) % 256) (hr9) (hg9) (by omega)) (cwV 1 hts (my_gV k472 k473 k474 k6 k475) rfl rfl rfl cu_Row_add_1 ⟨by rw [hR]; exact Nat.le_of_ble_eq_true rfl, by rw [hR]; exact Nat.le_of_ble_eq_true rfl⟩) (my_preVg hK hN (hP.sub [1, 2] rfl) (hD.sub [1, 2] (by decide +kernel) rfl) 0 rfl rfl) rfl rfl hl.1 rfl (lv_room (Nat.le_of_ble_eq_true rfl)) d_Carries_writeWaiting_48 ⟨by rw [hR]; exact (show d9 + (rPh rwk9) ≤ (rPh rwk) by omega), by rw [hR]; exact (show d9 + (rPh rwk9) ≤ (rPh rwk) by omega)⟩) hP hD hS hA [1, 2] [0] rfl rfl (by decide +kernel) (by decide +kernel) (fun u9 d_48 H locs hd_48 hw_48 hP hD hS => ?_)
          obtain ⟨rraq_48, rrkq_48, rrfq_48⟩ := u9
          obtain ⟨hrr_48, hGrr_48⟩ : rOk (nI (b9 ++ [((255 + kc) % 256)]).length) rrkq_48 ∧ gIs rrfq_48 (b9 ++ [((255 + kc) % 256)]) := hw_48
          have hd_48 : d_48 + (rPh rrkq_48) ≤ (rPh rwk9) := hd_48
          have hPD : my_PD (dC, dI) vwCl A [(co, Sum.inr (3, [Value.int xshift, Value.long xkeptCode, Value.long xkeptRange, Value.int xkeptAsked, Value.int (caI ca), Value.int (nI Pn), Value.long xlow, Value.long xrange, Value.long xcode, Value.long xreadLow, Value.long xreadRange, Value.ref ri, Value.ref ro, Value.ref rw, Value.int xasked])), (rw, Sum.inr (0, [Value.int (nI (b9 ++ [((255 + kc) % 256)]).length), Value.ref rraq_48])), (rraq_48, Sum.inl (cI, rrkq_48, Sum.inl rrfq_48))] H := ⟨hP, hD⟩
          have hP := hPD.1
          have hD := hPD.2
          obtain ⟨v_5, ev_5⟩ : ∃ y : Int32, y = (nI j) + (1) := ⟨_, rfl⟩
          refine lv_iinc (v := v_5) (lv' := [(2, Value.int v_5), (0, Value.ref co), (1, Value.int (nI kc))]) hx hb d_Carries_writeWaiting_51 hl (k := 0) rfl (by rw [ev_5]; rfl) (by decide) rfl (fun ls hl => ?_)
          have z9 : v_5 = nI (j + 1) := by rw [ev_5]; exact nI_1 _
          subst z9
          refine lv_goto (tgt := 27) hx hb d_Carries_writeWaiting_54 (by decide) ?_
          exact ih9_27 _ (by first | omega | (omega)) (j + 1) (b9 ++ [(255 + kc) % 256]) rraq_48 rrkq_48 rrfq_48 (d9 + d_48) rfl (by omega) (by rw [hb9, List.replicate_succ', ← List.append_assoc]) (hrr_48) (hGrr_48) (by omega) H locs ls (hP.sub [0, 1, 2] rfl) (hD.sub [0, 1, 2] (by decide +kernel) rfl) hS (lv_sub hl [0, 1, 2] rfl)
    exact J_27 _ (0 : Nat) bs rwa rwk rwf (0 : Nat) rfl (Nat.zero_le _) (by rw [hcn]; simp [caB]) (hrw) (hGrw) (by omega) H locs ls (hP.sub [0, 1, 2] rfl) (hD.sub [0, 1, 2] (by decide +kernel) rfl) hS (lv_sub hl [0, 1, 2] rfl)
  · obtain ⟨c0, hc0⟩ : ∃ x, ca = some x := by
      cases hca : ca with
      | none => exact absurd ((caI_ne hc).mpr hca) c_1
      | some x => exact ⟨x, rfl⟩
    have hc256 := hc c0 hc0
    have hcI : caI ca = nI c0 := by rw [hc0]; rfl
    refine lv_aload_n hx hb d_Carries_writeWaiting_8 rfl (lv_at hl 0 rfl) ?_
    refine va_get (D := (dC, dI)) (ci := 3) (v := .ref rw) (C := "RangeCoders$Bits") (T := T_Bits) (N := 15) hx hb hg in_Bits hown hK hP 0 rfl rfl 13 (by decide) (hg _ k124) (fun x9 h9 => u_same (hg _ k125) x9 h9) rfl d_Carries_writeWaiting_9 ?_
    refine lv_aload_n hx hb d_Carries_writeWaiting_12 rfl (lv_at hl 0 rfl) ?_
    refine va_get (D := (dC, dI)) (ci := 3) (v := .int (caI ca)) (C := "RangeCoders$Bits") (T := T_Bits) (N := 15) hx hb hg in_Bits hown hK hP 0 rfl rfl 4 (by decide) (hg _ k68) (fun _ h9 => h9) rfl d_Carries_writeWaiting_13 ?_
    refine lv_iload_n hx hb d_Carries_writeWaiting_16 rfl (lv_at hl 1 rfl) ?_
    refine lv_iadd hx hb d_Carries_writeWaiting_17 ?_
    refine lv_topi (fun v_6 ev_6 => ?_)
    refine lv_sipush (v := 255) hx hb d_Carries_writeWaiting_18 (by decide) ?_
    refine lv_iand hx hb d_Carries_writeWaiting_21 ?_
    refine lv_topi (fun v_7 ev_7 => ?_)
    have z9 : v_7 = nI ((c0 + kc) % 256) := by subst_vars; rw [hcI, nI_add]; exact pk_andN (by omega) 8 (by decide +kernel)
    subst z9
    refine my_cvg (wr := [(co, Sum.inr (3, [Value.int xshift, Value.long xkeptCode, Value.long xkeptRange, Value.int xkeptAsked, Value.int (caI ca), Value.int (nI Pn), Value.long xlow, Value.long xrange, Value.long xcode, Value.long xreadLow, Value.long xreadRange, Value.ref ri, Value.ref ro, Value.ref rw, Value.int xasked]))]) (va_runV (As := [Value.int (nI ((c0 + kc) % 256))]) (rest := []) ⟨hx, hb, hml, hown, hts⟩ (f_Row_add l dC dI cI cM cO H.size (hSl H) rw rwa rwk rwf bs ((c0 + kc) % 256) (hrw) (hGrw) (by omega)) (cwV 1 hts (my_gV k472 k473 k474 k6 k475) rfl rfl rfl cu_Row_add_1 ⟨by rw [hR]; exact Nat.le_of_ble_eq_true rfl, by rw [hR]; exact Nat.le_of_ble_eq_true rfl⟩) (my_preVg hK hN (hP.sub [1, 2] rfl) (hD.sub [1, 2] (by decide +kernel) rfl) 0 rfl rfl) rfl rfl hl.1 rfl (lv_room (Nat.le_of_ble_eq_true rfl)) d_Carries_writeWaiting_22 ⟨by rw [hR]; exact (show 0 + (rPh rwk) ≤ (rPh rwk) by omega), by rw [hR]; exact (show 0 + (rPh rwk) ≤ (rPh rwk) by omega)⟩) hP hD hS hA [1, 2] [0] rfl rfl (by decide +kernel) (by decide +kernel) (fun u9 d_22 H locs hd_22 hw_22 hP hD hS => ?_)
    obtain ⟨rraq_22, rrkq_22, rrfq_22⟩ := u9
    obtain ⟨hrr_22, hGrr_22⟩ : rOk (nI (bs ++ [((c0 + kc) % 256)]).length) rrkq_22 ∧ gIs rrfq_22 (bs ++ [((c0 + kc) % 256)]) := hw_22
    have hd_22 : d_22 + (rPh rrkq_22) ≤ (rPh rwk) := hd_22
    have hPD : my_PD (dC, dI) vwCl A [(co, Sum.inr (3, [Value.int xshift, Value.long xkeptCode, Value.long xkeptRange, Value.int xkeptAsked, Value.int (caI ca), Value.int (nI Pn), Value.long xlow, Value.long xrange, Value.long xcode, Value.long xreadLow, Value.long xreadRange, Value.ref ri, Value.ref ro, Value.ref rw, Value.int xasked])), (rw, Sum.inr (0, [Value.int (nI (bs ++ [((c0 + kc) % 256)]).length), Value.ref rraq_22])), (rraq_22, Sum.inl (cI, rrkq_22, Sum.inl rrfq_22))] H := ⟨hP, hD⟩
    have hP := hPD.1
    have hD := hPD.2
    refine lv_iconst (v := 0) hx hb d_Carries_writeWaiting_25 (by decide) ?_
    refine lv_istore_n (lv' := [(2, Value.int 0), (0, Value.ref co), (1, Value.int (nI kc))]) hx hb d_Carries_writeWaiting_26 rfl hl (by decide) rfl (fun ls hl => ?_)
    have J_27 : ∀ (n9_27 : Nat) (j : Nat) (b9 : List Nat) (rwa9 : Nat) (rwk9 : Nat) (rwf9 : Nat → Int32) (d9 : Nat) (hn9_27 : Pn - j = n9_27) (hj : j ≤ Pn) (hb9 : b9 = bs ++ caB ca kc ++ List.replicate j ((255 + kc) % 256)) (hr9 : rOk (nI b9.length) rwk9) (hg9 : gIs rwf9 b9) (hd9 : d9 + rPh rwk9 ≤ rPh rwk) (H : Heap) (locs : List Loc) (ls : Array Slot), va_P (dC, dI) vwCl [(co, Sum.inr (3, [Value.int xshift, Value.long xkeptCode, Value.long xkeptRange, Value.int xkeptAsked, Value.int (caI ca), Value.int (nI Pn), Value.long xlow, Value.long xrange, Value.long xcode, Value.long xreadLow, Value.long xreadRange, Value.ref ri, Value.ref ro, Value.ref rw, Value.int xasked])), (rw, Sum.inr (0, [Value.int (nI b9.length), Value.ref rwa9])), (rwa9, Sum.inl (cI, rwk9, Sum.inl rwf9))] H → va_D A [(co, Sum.inr (3, [Value.int xshift, Value.long xkeptCode, Value.long xkeptRange, Value.int xkeptAsked, Value.int (caI ca), Value.int (nI Pn), Value.long xlow, Value.long xrange, Value.long xcode, Value.long xreadLow, Value.long xreadRange, Value.ref ri, Value.ref ro, Value.ref rw, Value.int xasked])), (rw, Sum.inr (0, [Value.int (nI b9.length), Value.ref rwa9])), (rwa9, Sum.inl (cI, rwk9, Sum.inl rwf9))] → va_S A s.heap H locs → lv_has ls 3 [(2, Value.int (nI j)), (0, Value.ref co), (1, Value.int (nI kc))] → W p l e R s m args below meth c H locs d9 d9 Q (F0 m 27 ls []) := by
      intro n9_27
      induction n9_27 using Nat.strongRecOn with
      | ind n9_27 ih9_27 =>
        intro j b9 rwa9 rwk9 rwf9 d9 hn9_27 hj hb9 hr9 hg9 hd9 H locs ls hP hD hS hl
        have hbl : b9.length ≤ bs.length + 1 + j := by
          rw [hb9]
          simp only [List.length_append, List.length_replicate]
          have := caB_le ca kc
          omega
        refine lv_iload_n hx hb d_Carries_writeWaiting_27 rfl (lv_at hl 0 rfl) ?_
        refine lv_aload_n hx hb d_Carries_writeWaiting_28 rfl (lv_at hl 1 rfl) ?_
        refine va_get (D := (dC, dI)) (ci := 3) (v := .int (nI Pn)) (C := "RangeCoders$Bits") (T := T_Bits) (N := 15) hx hb hg in_Bits hown hK hP 0 rfl rfl 5 (by decide) (hg _ k69) (fun _ h9 => h9) rfl d_Carries_writeWaiting_29 ?_
        refine lv_icmp_ge (tgt := 57) hx hb d_Carries_writeWaiting_32 (by decide) (fun c_8 => ?_) (fun c_8 => ?_)
        · have hj3 : Pn = j := by have := nI_ge' (by omega) (by omega) c_8; omega
          subst hj3
          have hPD : my_PD (dC, dI) vwCl A [(co, Sum.inr (3, [Value.int xshift, Value.long xkeptCode, Value.long xkeptRange, Value.int xkeptAsked, Value.int (caI ca), Value.int (nI Pn), Value.long xlow, Value.long xrange, Value.long xcode, Value.long xreadLow, Value.long xreadRange, Value.ref ri, Value.ref ro, Value.ref rw, Value.int xasked])), (rw, Sum.inr (0, [Value.int (nI b9.length), Value.ref rwa9])), (rwa9, Sum.inl (cI, rwk9, Sum.inl rwf9))] H := ⟨hP, hD⟩
          have hP := hPD.1
          have hD := hPD.2
          have z9 : b9 = bs ++ caB ca kc ++ List.replicate Pn ((255 + kc) % 256) := hb9
          subst z9
          refine lv_aload_n hx hb d_Carries_writeWaiting_57 rfl (lv_at hl 1 rfl) ?_
          refine lv_iconst (v := 0) hx hb d_Carries_writeWaiting_58 (by decide) ?_
          refine va_put (D := (dC, dI)) (ci := 3) (v := .int 0) (ty := .int) (C := "RangeCoders$Bits") (T := T_Bits) (N := 15) hx hb hg in_Bits t_Bits o_Bits n_Bits hown hK hP hD hS 0 rfl rfl 5 (by decide) (hg _ k69) (fun _ h9 => h9) rfl (o_Bits 5 (by decide)) rfl rfl (Nat.le_of_ble_eq_true rfl) d_Carries_writeWaiting_59 (fun H locs hP hD hS => ?_)
          have hPD : my_PD (dC, dI) vwCl A [(co, Sum.inr (3, [Value.int xshift, Value.long xkeptCode, Value.long xkeptRange, Value.int xkeptAsked, Value.int (caI ca), Value.int 0, Value.long xlow, Value.long xrange, Value.long xcode, Value.long xreadLow, Value.long xreadRange, Value.ref ri, Value.ref ro, Value.ref rw, Value.int xasked])), (rw, Sum.inr (0, [Value.int (nI (bs ++ caB ca kc ++ List.replicate Pn ((255 + kc) % 256)).length), Value.ref rwa9])), (rwa9, Sum.inl (cI, rwk9, Sum.inl rwf9))] H := ⟨hP, hD⟩
          have hP := hPD.1
          have hD := hPD.2
          exact my_vretg hx hb hr hlocks hQ hK hS (rwa9, rwk9, rwf9) (show d9 + (rPh rwk9) ≤ (rPh rwk) by omega) (show d9 + (rPh rwk9) ≤ (rPh rwk) by omega) (⟨hr9, hg9⟩) (hP.sub [0, 1, 2] rfl) (hD.sub [0, 1, 2] (by decide +kernel) rfl) d_Carries_writeWaiting_62
        · have hj2 : j < Pn := nI_lt' (by omega) c_8
          refine lv_aload_n hx hb d_Carries_writeWaiting_35 rfl (lv_at hl 1 rfl) ?_
          refine va_get (D := (dC, dI)) (ci := 3) (v := .ref rw) (C := "RangeCoders$Bits") (T := T_Bits) (N := 15) hx hb hg in_Bits hown hK hP 0 rfl rfl 13 (by decide) (hg _ k124) (fun x9 h9 => u_same (hg _ k125) x9 h9) rfl d_Carries_writeWaiting_36 ?_
          refine lv_sipush (v := 255) hx hb d_Carries_writeWaiting_39 (by decide) ?_
          refine lv_iload_n hx hb d_Carries_writeWaiting_42 rfl (lv_at hl 2 rfl) ?_
          refine lv_iadd hx hb d_Carries_writeWaiting_43 ?_
          refine lv_topi (fun v_9 ev_9 => ?_)
          refine lv_sipush (v := 255) hx hb d_Carries_writeWaiting_44 (by decide) ?_
          refine lv_iand hx hb d_Carries_writeWaiting_47 ?_
          refine lv_topi (fun v_10 ev_10 => ?_)
          have z9 : v_10 = nI ((255 + kc) % 256) := by subst_vars; rw [show (255 : Int32) + nI kc = nI (255 + kc) from nI_add 255 kc]; exact pk_andN (by omega) 8 (by decide +kernel)
          subst z9
          refine my_cvg (wr := [(co, Sum.inr (3, [Value.int xshift, Value.long xkeptCode, Value.long xkeptRange, Value.int xkeptAsked, Value.int (caI ca), Value.int (nI Pn), Value.long xlow, Value.long xrange, Value.long xcode, Value.long xreadLow, Value.long xreadRange, Value.ref ri, Value.ref ro, Value.ref rw, Value.int xasked]))]) (va_runV (As := [Value.int (nI ((255 + kc) % 256))]) (rest := []) ⟨hx, hb, hml, hown, hts⟩ (f_Row_add l dC dI cI cM cO H.size (hSl H) rw rwa9 rwk9 rwf9 b9 ((255 + kc) % 256) (hr9) (hg9) (by omega)) (cwV 1 hts (my_gV k472 k473 k474 k6 k475) rfl rfl rfl cu_Row_add_1 ⟨by rw [hR]; exact Nat.le_of_ble_eq_true rfl, by rw [hR]; exact Nat.le_of_ble_eq_true rfl⟩) (my_preVg hK hN (hP.sub [1, 2] rfl) (hD.sub [1, 2] (by decide +kernel) rfl) 0 rfl rfl) rfl rfl hl.1 rfl (lv_room (Nat.le_of_ble_eq_true rfl)) d_Carries_writeWaiting_48 ⟨by rw [hR]; exact (show d9 + (rPh rwk9) ≤ (rPh rwk) by omega), by rw [hR]; exact (show d9 + (rPh rwk9) ≤ (rPh rwk) by omega)⟩) hP hD hS hA [1, 2] [0] rfl rfl (by decide +kernel) (by decide +kernel) (fun u9 d_48 H locs hd_48 hw_48 hP hD hS => ?_)
          obtain ⟨rraq_48, rrkq_48, rrfq_48⟩ := u9
          obtain ⟨hrr_48, hGrr_48⟩ : rOk (nI (b9 ++ [((255 + kc) % 256)]).length) rrkq_48 ∧ gIs rrfq_48 (b9 ++ [((255 + kc) % 256)]) := hw_48
          have hd_48 : d_48 + (rPh rrkq_48) ≤ (rPh rwk9) := hd_48
          have hPD : my_PD (dC, dI) vwCl A [(co, Sum.inr (3, [Value.int xshift, Value.long xkeptCode, Value.long xkeptRange, Value.int xkeptAsked, Value.int (caI ca), Value.int (nI Pn), Value.long xlow, Value.long xrange, Value.long xcode, Value.long xreadLow, Value.long xreadRange, Value.ref ri, Value.ref ro, Value.ref rw, Value.int xasked])), (rw, Sum.inr (0, [Value.int (nI (b9 ++ [((255 + kc) % 256)]).length), Value.ref rraq_48])), (rraq_48, Sum.inl (cI, rrkq_48, Sum.inl rrfq_48))] H := ⟨hP, hD⟩
          have hP := hPD.1
          have hD := hPD.2
          obtain ⟨v_11, ev_11⟩ : ∃ y : Int32, y = (nI j) + (1) := ⟨_, rfl⟩
          refine lv_iinc (v := v_11) (lv' := [(2, Value.int v_11), (0, Value.ref co), (1, Value.int (nI kc))]) hx hb d_Carries_writeWaiting_51 hl (k := 0) rfl (by rw [ev_11]; rfl) (by decide) rfl (fun ls hl => ?_)
          have z9 : v_11 = nI (j + 1) := by rw [ev_11]; exact nI_1 _
          subst z9
          refine lv_goto (tgt := 27) hx hb d_Carries_writeWaiting_54 (by decide) ?_
          exact ih9_27 _ (by first | omega | (omega)) (j + 1) (b9 ++ [(255 + kc) % 256]) rraq_48 rrkq_48 rrfq_48 (d9 + d_48) rfl (by omega) (by rw [hb9, List.replicate_succ', ← List.append_assoc]) (hrr_48) (hGrr_48) (by omega) H locs ls (hP.sub [0, 1, 2] rfl) (hD.sub [0, 1, 2] (by decide +kernel) rfl) hS (lv_sub hl [0, 1, 2] rfl)
    exact J_27 _ (0 : Nat) (bs ++ [(c0 + kc) % 256]) rraq_22 rrkq_22 rrfq_22 (0 + d_22) rfl (Nat.zero_le _) (by rw [hc0]; simp [caB]) (hrr_22) (hGrr_22) (by omega) H locs ls (hP.sub [0, 1, 2] rfl) (hD.sub [0, 1, 2] (by decide +kernel) rfl) hS (lv_sub hl [0, 1, 2] rfl)
set_option maxHeartbeats 2000000 in
set_option maxRecDepth 100000 in
theorem f_Bits_shiftLow (l : Launch) (dC : Nat → ClassId) (dI : Nat → Nat → Nat) (cI cM cO : ClassId) (sz : Nat) (sl : Nat) (co : Nat) (xshift : Int32) (xkeptCode : Int64) (xkeptRange : Int64) (xkeptAsked : Int32) (xrange : Int64) (xcode : Int64) (xreadLow : Int64) (xreadRange : Int64) (ri : Nat) (ro : Nat) (rw : Nat) (xasked : Int32) (L : Nat) (ca : Option Nat) (Pn : Nat) (rwa : Nat) (rwk : Nat) (rwf : Nat → Int32) (bs : List Nat) (hL : L < 8589934592) (hc : ∀ x, ca = some x → x < 256) (hrw : rOk (nI bs.length) rwk) (hGrw : gIs rwf bs) (hN9 : bs.length + Pn + 1 ≤ 8000) : MetVg l y_Carries_shiftLow (Cond.code y_Carries_shiftLow prog_3_method_8_code 1 none :: gw) ({ frames := 4, cells := rPh rwk, slots := rPh rwk, locals := 105 } : Room) (dC, dI) vwCl (kT cI cM cO) [Value.ref co] [(co, Sum.inr (3, [Value.int xshift, Value.long xkeptCode, Value.long xkeptRange, Value.int xkeptAsked, Value.int (caI ca), Value.int (nI Pn), Value.long (lN L), Value.long xrange, Value.long xcode, Value.long xreadLow, Value.long xreadRange, Value.ref ri, Value.ref ro, Value.ref rw, Value.int xasked])), (rw, Sum.inr (0, [Value.int (nI bs.length), Value.ref rwa])), (rwa, Sum.inl (cI, rwk, Sum.inl rwf))] sz sl (fun (u : Nat × Nat × (Nat → Int32)) => rOk (nI (shB L ca Pn bs).length) u.2.1 ∧ gIs u.2.2 (shB L ca Pn bs)) (fun (u : Nat × Nat × (Nat → Int32)) => [(co, Sum.inr (3, [Value.int xshift, Value.long xkeptCode, Value.long xkeptRange, Value.int xkeptAsked, Value.int (caI (shC L ca)), Value.int (nI (shP L Pn)), Value.long (lN (shL L)), Value.long xrange, Value.long xcode, Value.long xreadLow, Value.long xreadRange, Value.ref ri, Value.ref ro, Value.ref rw, Value.int xasked])), (rw, Sum.inr (0, [Value.int (nI (shB L ca Pn bs).length), Value.ref u.1])), (u.1, Sum.inl (cI, u.2.1, Sum.inl u.2.2))]) (rPh rwk) (fun (u : Nat × Nat × (Nat → Int32)) => rPh u.2.1) := by
  refine my_ofVg (cc := prog_3_method_8_code) (n := 1) (ret := none) (by decide) rfl (Nat.le_of_ble_eq_true rfl) ?_
  intro p e s m args below meth c R Q A ls H locs hx hb hr hts hown hlocks hml hnm hR hQ hA hl hP hK hN hD hS
  have hg : ∀ w ∈ gw, w.before args s = true := fun w h => hts w (List.mem_cons_of_mem _ h)
  have hown : s.vm.findClass "RangeCoders$Carries" = some m.cls := hown
  have hl : lv_has ls 1 [(0, Value.ref co)] := hl
  have hltw := rOk_lt hrw
  refine lv_aload_n hx hb d_Carries_shiftLow_0 rfl (lv_at hl 0 rfl) ?_
  refine va_get (D := (dC, dI)) (ci := 3) (v := .long (lN L)) (C := "RangeCoders$Bits") (T := T_Bits) (N := 15) hx hb hg in_Bits hown hK hP 0 rfl rfl 6 (by decide) (hg _ k72) (fun x9 h9 => u_same (hg _ k73) x9 h9) rfl d_Carries_shiftLow_1 ?_
  refine lv_ldc2 (v := 4278190080) hx hb hown (hg _ k467) d_Carries_shiftLow_4 ?_
  refine W.lcmp hx hb d_Carries_shiftLow_7 ?_
  refine lv_if_lt (tgt := 22) hx hb d_Carries_shiftLow_8 (by decide) (fun c_1 => ?_) (fun c_1 => ?_)
  · rw [lg_cmp_lt] at c_1
    have hO : shO L := Or.inl ((L_lt (b := 4278190080) (by omega) (by decide)).mp c_1)
    refine lv_aload_n hx hb d_Carries_shiftLow_22 rfl (lv_at hl 0 rfl) ?_
    refine lv_aload_n hx hb d_Carries_shiftLow_23 rfl (lv_at hl 0 rfl) ?_
    refine va_get (D := (dC, dI)) (ci := 3) (v := .long (lN L)) (C := "RangeCoders$Bits") (T := T_Bits) (N := 15) hx hb hg in_Bits hown hK hP 0 rfl rfl 6 (by decide) (hg _ k72) (fun x9 h9 => u_same (hg _ k73) x9 h9) rfl d_Carries_shiftLow_24 ?_
    refine lv_bipush (v := 32) hx hb d_Carries_shiftLow_27 (by decide) ?_
    refine lv_lushr hx hb d_Carries_shiftLow_29 rfl ?_
    refine lv_topl (fun v_2 ev_2 => ?_)
    refine lv_l2i hx hb d_Carries_shiftLow_30 rfl ?_
    refine lv_topi (fun v_3 ev_3 => ?_)
    have z9 : v_3 = nI (L / 4294967296) := by subst_vars; rw [U_shr32 (by omega)]; exact lN_i _
    subst z9
    refine my_cvg (wr := []) (va_runU (As := [Value.int (nI (L / 4294967296))]) (rest := []) ⟨hx, hb, hml, hown, hts⟩ (f_Bits_writeWaiting l dC dI cI cM cO H.size (hSl H) co xshift xkeptCode xkeptRange xkeptAsked (lN L) xrange xcode xreadLow xreadRange ri ro rw xasked ca Pn (L / 4294967296) rwa rwk rwf bs (by first | assumption | omega) (by omega) (by first | assumption | omega) (by first | assumption | omega) (by first | assumption | omega)) (va_cwU 1 hts (my_gU k468 k1282 kx1 k470 k5 k471) rfl rfl rfl rfl (by decide +kernel) ⟨by rw [hR]; exact Nat.le_of_ble_eq_true rfl, by rw [hR]; exact Nat.le_of_ble_eq_true rfl⟩) (my_preVg hK hN (hP.sub [0, 1, 2] rfl) (hD.sub [0, 1, 2] (by decide +kernel) rfl) 0 rfl rfl) rfl rfl hl.1 rfl (lv_room (Nat.le_of_ble_eq_true rfl)) d_Carries_shiftLow_31 ⟨by rw [hR]; exact (show 0 + (rPh rwk) ≤ (rPh rwk) by omega), by rw [hR]; exact (show 0 + (rPh rwk) ≤ (rPh rwk) by omega)⟩) hP hD hS hA [0, 1, 2] [] rfl rfl (by decide +kernel) (by decide +kernel) (fun u9 d_31 H locs hd_31 hw_31 hP hD hS => ?_)
    obtain ⟨rwaq_31, rwkq_31, rwfq_31⟩ := u9
    obtain ⟨hrw_31, hGrw_31⟩ : rOk (nI (bs ++ caB ca (L / 4294967296) ++ List.replicate Pn ((255 + (L / 4294967296)) % 256)).length) rwkq_31 ∧ gIs rwfq_31 (bs ++ caB ca (L / 4294967296) ++ List.replicate Pn ((255 + (L / 4294967296)) % 256)) := hw_31
    have hd_31 : d_31 + (rPh rwkq_31) ≤ (rPh rwk) := hd_31
    have hPD : my_PD (dC, dI) vwCl A [(co, Sum.inr (3, [Value.int xshift, Value.long xkeptCode, Value.long xkeptRange, Value.int xkeptAsked, Value.int (caI ca), Value.int 0, Value.long (lN L), Value.long xrange, Value.long xcode, Value.long xreadLow, Value.long xreadRange, Value.ref ri, Value.ref ro, Value.ref rw, Value.int xasked])), (rw, Sum.inr (0, [Value.int (nI (bs ++ caB ca (L / 4294967296) ++ List.replicate Pn ((255 + (L / 4294967296)) % 256)).length), Value.ref rwaq_31])), (rwaq_31, Sum.inl (cI, rwkq_31, Sum.inl rwfq_31))] H := ⟨hP, hD⟩
    have hP := hPD.1
    have hD := hPD.2
    refine lv_aload_n hx hb d_Carries_shiftLow_34 rfl (lv_at hl 0 rfl) ?_
    refine lv_aload_n hx hb d_Carries_shiftLow_35 rfl (lv_at hl 0 rfl) ?_
    refine va_get (D := (dC, dI)) (ci := 3) (v := .long (lN L)) (C := "RangeCoders$Bits") (T := T_Bits) (N := 15) hx hb hg in_Bits hown hK hP 0 rfl rfl 6 (by decide) (hg _ k72) (fun x9 h9 => u_same (hg _ k73) x9 h9) rfl d_Carries_shiftLow_36 ?_
    refine lv_bipush (v := 24) hx hb d_Carries_shiftLow_39 (by decide) ?_
    refine lv_lushr hx hb d_Carries_shiftLow_41 rfl ?_
    refine lv_topl (fun v_4 ev_4 => ?_)
    refine lv_l2i hx hb d_Carries_shiftLow_42 rfl ?_
    refine lv_topi (fun v_5 ev_5 => ?_)
    refine lv_sipush (v := 255) hx hb d_Carries_shiftLow_43 (by decide) ?_
    refine lv_iand hx hb d_Carries_shiftLow_46 ?_
    refine lv_topi (fun v_6 ev_6 => ?_)
    have z9 : v_6 = caI (shC L ca) := by subst_vars; rw [U_shr24 (by omega), lN_i]; unfold shC; rw [if_pos hO]; exact pk_andN (by omega) 8 (by decide +kernel)
    subst z9
    refine va_put (D := (dC, dI)) (ci := 3) (v := .int (caI (shC L ca))) (ty := .int) (C := "RangeCoders$Bits") (T := T_Bits) (N := 15) hx hb hg in_Bits t_Bits o_Bits n_Bits hown hK hP hD hS 0 rfl rfl 4 (by decide) (hg _ k68) (fun _ h9 => h9) rfl (o_Bits 4 (by decide)) rfl rfl (Nat.le_of_ble_eq_true rfl) d_Carries_shiftLow_47 (fun H locs hP hD hS => ?_)
    have hPD : my_PD (dC, dI) vwCl A [(co, Sum.inr (3, [Value.int xshift, Value.long xkeptCode, Value.long xkeptRange, Value.int xkeptAsked, Value.int (caI (shC L ca)), Value.int 0, Value.long (lN L), Value.long xrange, Value.long xcode, Value.long xreadLow, Value.long xreadRange, Value.ref ri, Value.ref ro, Value.ref rw, Value.int xasked])), (rw, Sum.inr (0, [Value.int (nI (bs ++ caB ca (L / 4294967296) ++ List.replicate Pn ((255 + (L / 4294967296)) % 256)).length), Value.ref rwaq_31])), (rwaq_31, Sum.inl (cI, rwkq_31, Sum.inl rwfq_31))] H := ⟨hP, hD⟩
    have hP := hPD.1
    have hD := hPD.2
    refine lv_goto (tgt := 63) hx hb d_Carries_shiftLow_50 (by decide) ?_
    have hsu : (nI (bs ++ caB ca (L / 4294967296) ++ List.replicate Pn ((255 + (L / 4294967296)) % 256)).length : Int32) = nI (shB L ca Pn bs).length := by unfold shB; rw [if_pos hO]
    rw [hsu] at hP hD
    have hPD : my_PD (dC, dI) vwCl A [(co, Sum.inr (3, [Value.int xshift, Value.long xkeptCode, Value.long xkeptRange, Value.int xkeptAsked, Value.int (caI (shC L ca)), Value.int 0, Value.long (lN L), Value.long xrange, Value.long xcode, Value.long xreadLow, Value.long xreadRange, Value.ref ri, Value.ref ro, Value.ref rw, Value.int xasked])), (rw, Sum.inr (0, [Value.int (nI (shB L ca Pn bs).length), Value.ref rwaq_31])), (rwaq_31, Sum.inl (cI, rwkq_31, Sum.inl rwfq_31))] H := ⟨hP, hD⟩
    have hP := hPD.1
    have hD := hPD.2
    have hsu : (0 : Int32) = nI (shP L Pn) := by unfold shP; rw [if_pos hO]; rfl
    rw [hsu] at hP hD
    have hPD : my_PD (dC, dI) vwCl A [(co, Sum.inr (3, [Value.int xshift, Value.long xkeptCode, Value.long xkeptRange, Value.int xkeptAsked, Value.int (caI (shC L ca)), Value.int (nI (shP L Pn)), Value.long (lN L), Value.long xrange, Value.long xcode, Value.long xreadLow, Value.long xreadRange, Value.ref ri, Value.ref ro, Value.ref rw, Value.int xasked])), (rw, Sum.inr (0, [Value.int (nI (shB L ca Pn bs).length), Value.ref rwaq_31])), (rwaq_31, Sum.inl (cI, rwkq_31, Sum.inl rwfq_31))] H := ⟨hP, hD⟩
    have hP := hPD.1
    have hD := hPD.2
    refine lv_aload_n hx hb d_Carries_shiftLow_63 rfl (lv_at hl 0 rfl) ?_
    refine lv_aload_n hx hb d_Carries_shiftLow_64 rfl (lv_at hl 0 rfl) ?_
    refine va_get (D := (dC, dI)) (ci := 3) (v := .long (lN L)) (C := "RangeCoders$Bits") (T := T_Bits) (N := 15) hx hb hg in_Bits hown hK hP 0 rfl rfl 6 (by decide) (hg _ k72) (fun x9 h9 => u_same (hg _ k73) x9 h9) rfl d_Carries_shiftLow_65 ?_
    refine lv_bipush (v := 8) hx hb d_Carries_shiftLow_68 (by decide) ?_
    refine lv_lshl hx hb d_Carries_shiftLow_70 rfl ?_
    refine lv_topl (fun v_7 ev_7 => ?_)
    refine lv_ldc2 (v := 4294967295) hx hb hown (hg _ k462) d_Carries_shiftLow_71 ?_
    refine lv_land hx hb d_Carries_shiftLow_74 ?_
    refine lv_topl (fun v_8 ev_8 => ?_)
    have z9 : v_8 = lN (shL L) := by subst_vars; rw [L_shl8, L_and32 (by omega)]; unfold shL; congr 1; omega
    subst z9
    refine va_put (D := (dC, dI)) (ci := 3) (v := .long (lN (shL L))) (ty := .long) (C := "RangeCoders$Bits") (T := T_Bits) (N := 15) hx hb hg in_Bits t_Bits o_Bits n_Bits hown hK hP hD hS 0 rfl rfl 6 (by decide) (hg _ k72) (fun x9 h9 => u_same (hg _ k73) x9 h9) rfl (o_Bits 6 (by decide)) rfl rfl (Nat.le_of_ble_eq_true rfl) d_Carries_shiftLow_75 (fun H locs hP hD hS => ?_)
    have hPD : my_PD (dC, dI) vwCl A [(co, Sum.inr (3, [Value.int xshift, Value.long xkeptCode, Value.long xkeptRange, Value.int xkeptAsked, Value.int (caI (shC L ca)), Value.int (nI (shP L Pn)), Value.long (lN (shL L)), Value.long xrange, Value.long xcode, Value.long xreadLow, Value.long xreadRange, Value.ref ri, Value.ref ro, Value.ref rw, Value.int xasked])), (rw, Sum.inr (0, [Value.int (nI (shB L ca Pn bs).length), Value.ref rwaq_31])), (rwaq_31, Sum.inl (cI, rwkq_31, Sum.inl rwfq_31))] H := ⟨hP, hD⟩
    have hP := hPD.1
    have hD := hPD.2
    exact my_vretg hx hb hr hlocks hQ hK hS (rwaq_31, rwkq_31, rwfq_31) (show (0 + d_31) + (rPh rwkq_31) ≤ (rPh rwk) by omega) (show (0 + d_31) + (rPh rwkq_31) ≤ (rPh rwk) by omega) (⟨by unfold shB; rw [if_pos hO]; exact hrw_31, by unfold shB; rw [if_pos hO]; exact hGrw_31⟩) (hP.sub [0, 1, 2] rfl) (hD.sub [0, 1, 2] (by decide +kernel) rfl) d_Carries_shiftLow_78
  · rw [lg_cmp_lt] at c_1
    refine lv_aload_n hx hb d_Carries_shiftLow_11 rfl (lv_at hl 0 rfl) ?_
    refine va_get (D := (dC, dI)) (ci := 3) (v := .long (lN L)) (C := "RangeCoders$Bits") (T := T_Bits) (N := 15) hx hb hg in_Bits hown hK hP 0 rfl rfl 6 (by decide) (hg _ k72) (fun x9 h9 => u_same (hg _ k73) x9 h9) rfl d_Carries_shiftLow_12 ?_
    refine lv_ldc2 (v := 4294967295) hx hb hown (hg _ k462) d_Carries_shiftLow_15 ?_
    refine W.lcmp hx hb d_Carries_shiftLow_18 ?_
    refine lv_if_le (tgt := 53) hx hb d_Carries_shiftLow_19 (by decide) (fun c_9 => ?_) (fun c_9 => ?_)
    · rw [lg_cmp_le] at c_9
      have hO : ¬ shO L := fun q => q.elim (fun q => absurd ((L_lt (b := 4278190080) (by omega) (by decide)).mpr q) c_1) (fun q => absurd ((L_le (b := 4294967295) (by omega) (by decide)).mp c_9) (by omega))
      refine lv_aload_n hx hb d_Carries_shiftLow_53 rfl (lv_at hl 0 rfl) ?_
      refine lv_dup hx hb d_Carries_shiftLow_54 rfl ?_
      refine va_get (D := (dC, dI)) (ci := 3) (v := .int (nI Pn)) (C := "RangeCoders$Bits") (T := T_Bits) (N := 15) hx hb hg in_Bits hown hK hP 0 rfl rfl 5 (by decide) (hg _ k69) (fun _ h9 => h9) rfl d_Carries_shiftLow_55 ?_
      refine lv_iconst (v := 1) hx hb d_Carries_shiftLow_58 (by decide) ?_
      refine lv_iadd hx hb d_Carries_shiftLow_59 ?_
      refine lv_topi (fun v_10 ev_10 => ?_)
      have z9 : v_10 = nI (shP L Pn) := by subst_vars; unfold shP; rw [if_neg hO]; exact nI_1 _
      subst z9
      refine va_put (D := (dC, dI)) (ci := 3) (v := .int (nI (shP L Pn))) (ty := .int) (C := "RangeCoders$Bits") (T := T_Bits) (N := 15) hx hb hg in_Bits t_Bits o_Bits n_Bits hown hK hP hD hS 0 rfl rfl 5 (by decide) (hg _ k69) (fun _ h9 => h9) rfl (o_Bits 5 (by decide)) rfl rfl (Nat.le_of_ble_eq_true rfl) d_Carries_shiftLow_60 (fun H locs hP hD hS => ?_)
      have hPD : my_PD (dC, dI) vwCl A [(co, Sum.inr (3, [Value.int xshift, Value.long xkeptCode, Value.long xkeptRange, Value.int xkeptAsked, Value.int (caI ca), Value.int (nI (shP L Pn)), Value.long (lN L), Value.long xrange, Value.long xcode, Value.long xreadLow, Value.long xreadRange, Value.ref ri, Value.ref ro, Value.ref rw, Value.int xasked])), (rw, Sum.inr (0, [Value.int (nI bs.length), Value.ref rwa])), (rwa, Sum.inl (cI, rwk, Sum.inl rwf))] H := ⟨hP, hD⟩
      have hP := hPD.1
      have hD := hPD.2
      have hsu : (nI bs.length : Int32) = nI (shB L ca Pn bs).length := by unfold shB; rw [if_neg hO]
      rw [hsu] at hP hD
      have hPD : my_PD (dC, dI) vwCl A [(co, Sum.inr (3, [Value.int xshift, Value.long xkeptCode, Value.long xkeptRange, Value.int xkeptAsked, Value.int (caI ca), Value.int (nI (shP L Pn)), Value.long (lN L), Value.long xrange, Value.long xcode, Value.long xreadLow, Value.long xreadRange, Value.ref ri, Value.ref ro, Value.ref rw, Value.int xasked])), (rw, Sum.inr (0, [Value.int (nI (shB L ca Pn bs).length), Value.ref rwa])), (rwa, Sum.inl (cI, rwk, Sum.inl rwf))] H := ⟨hP, hD⟩
      have hP := hPD.1
      have hD := hPD.2
      have hsu : (caI ca : Int32) = caI (shC L ca) := by unfold shC; rw [if_neg hO]
      rw [hsu] at hP hD
      have hPD : my_PD (dC, dI) vwCl A [(co, Sum.inr (3, [Value.int xshift, Value.long xkeptCode, Value.long xkeptRange, Value.int xkeptAsked, Value.int (caI (shC L ca)), Value.int (nI (shP L Pn)), Value.long (lN L), Value.long xrange, Value.long xcode, Value.long xreadLow, Value.long xreadRange, Value.ref ri, Value.ref ro, Value.ref rw, Value.int xasked])), (rw, Sum.inr (0, [Value.int (nI (shB L ca Pn bs).length), Value.ref rwa])), (rwa, Sum.inl (cI, rwk, Sum.inl rwf))] H := ⟨hP, hD⟩
      have hP := hPD.1
      have hD := hPD.2
      refine lv_aload_n hx hb d_Carries_shiftLow_63 rfl (lv_at hl 0 rfl) ?_
      refine lv_aload_n hx hb d_Carries_shiftLow_64 rfl (lv_at hl 0 rfl) ?_
      refine va_get (D := (dC, dI)) (ci := 3) (v := .long (lN L)) (C := "RangeCoders$Bits") (T := T_Bits) (N := 15) hx hb hg in_Bits hown hK hP 0 rfl rfl 6 (by decide) (hg _ k72) (fun x9 h9 => u_same (hg _ k73) x9 h9) rfl d_Carries_shiftLow_65 ?_
      refine lv_bipush (v := 8) hx hb d_Carries_shiftLow_68 (by decide) ?_
      refine lv_lshl hx hb d_Carries_shiftLow_70 rfl ?_
      refine lv_topl (fun v_11 ev_11 => ?_)
      refine lv_ldc2 (v := 4294967295) hx hb hown (hg _ k462) d_Carries_shiftLow_71 ?_
      refine lv_land hx hb d_Carries_shiftLow_74 ?_
      refine lv_topl (fun v_12 ev_12 => ?_)
      have z9 : v_12 = lN (shL L) := by subst_vars; rw [L_shl8, L_and32 (by omega)]; unfold shL; congr 1; omega
      subst z9
      refine va_put (D := (dC, dI)) (ci := 3) (v := .long (lN (shL L))) (ty := .long) (C := "RangeCoders$Bits") (T := T_Bits) (N := 15) hx hb hg in_Bits t_Bits o_Bits n_Bits hown hK hP hD hS 0 rfl rfl 6 (by decide) (hg _ k72) (fun x9 h9 => u_same (hg _ k73) x9 h9) rfl (o_Bits 6 (by decide)) rfl rfl (Nat.le_of_ble_eq_true rfl) d_Carries_shiftLow_75 (fun H locs hP hD hS => ?_)
      have hPD : my_PD (dC, dI) vwCl A [(co, Sum.inr (3, [Value.int xshift, Value.long xkeptCode, Value.long xkeptRange, Value.int xkeptAsked, Value.int (caI (shC L ca)), Value.int (nI (shP L Pn)), Value.long (lN (shL L)), Value.long xrange, Value.long xcode, Value.long xreadLow, Value.long xreadRange, Value.ref ri, Value.ref ro, Value.ref rw, Value.int xasked])), (rw, Sum.inr (0, [Value.int (nI (shB L ca Pn bs).length), Value.ref rwa])), (rwa, Sum.inl (cI, rwk, Sum.inl rwf))] H := ⟨hP, hD⟩
      have hP := hPD.1
      have hD := hPD.2
      exact my_vretg hx hb hr hlocks hQ hK hS (rwa, rwk, rwf) (show 0 + (rPh rwk) ≤ (rPh rwk) by omega) (show 0 + (rPh rwk) ≤ (rPh rwk) by omega) (⟨by unfold shB; rw [if_neg hO]; exact hrw, by unfold shB; rw [if_neg hO]; exact hGrw⟩) (hP.sub [0, 1, 2] rfl) (hD.sub [0, 1, 2] (by decide +kernel) rfl) d_Carries_shiftLow_78
    · rw [lg_cmp_le] at c_9
      have hO : shO L := Or.inr ((Nat.lt_or_ge L 4294967296).elim (fun q => absurd ((L_le (b := 4294967295) (by omega) (by decide)).mpr (by omega)) c_9) id)
      refine lv_aload_n hx hb d_Carries_shiftLow_22 rfl (lv_at hl 0 rfl) ?_
      refine lv_aload_n hx hb d_Carries_shiftLow_23 rfl (lv_at hl 0 rfl) ?_
      refine va_get (D := (dC, dI)) (ci := 3) (v := .long (lN L)) (C := "RangeCoders$Bits") (T := T_Bits) (N := 15) hx hb hg in_Bits hown hK hP 0 rfl rfl 6 (by decide) (hg _ k72) (fun x9 h9 => u_same (hg _ k73) x9 h9) rfl d_Carries_shiftLow_24 ?_
      refine lv_bipush (v := 32) hx hb d_Carries_shiftLow_27 (by decide) ?_
      refine lv_lushr hx hb d_Carries_shiftLow_29 rfl ?_
      refine lv_topl (fun v_13 ev_13 => ?_)
      refine lv_l2i hx hb d_Carries_shiftLow_30 rfl ?_
      refine lv_topi (fun v_14 ev_14 => ?_)
      have z9 : v_14 = nI (L / 4294967296) := by subst_vars; rw [U_shr32 (by omega)]; exact lN_i _
      subst z9
      refine my_cvg (wr := []) (va_runU (As := [Value.int (nI (L / 4294967296))]) (rest := []) ⟨hx, hb, hml, hown, hts⟩ (f_Bits_writeWaiting l dC dI cI cM cO H.size (hSl H) co xshift xkeptCode xkeptRange xkeptAsked (lN L) xrange xcode xreadLow xreadRange ri ro rw xasked ca Pn (L / 4294967296) rwa rwk rwf bs (by first | assumption | omega) (by omega) (by first | assumption | omega) (by first | assumption | omega) (by first | assumption | omega)) (va_cwU 1 hts (my_gU k468 k1282 kx1 k470 k5 k471) rfl rfl rfl rfl (by decide +kernel) ⟨by rw [hR]; exact Nat.le_of_ble_eq_true rfl, by rw [hR]; exact Nat.le_of_ble_eq_true rfl⟩) (my_preVg hK hN (hP.sub [0, 1, 2] rfl) (hD.sub [0, 1, 2] (by decide +kernel) rfl) 0 rfl rfl) rfl rfl hl.1 rfl (lv_room (Nat.le_of_ble_eq_true rfl)) d_Carries_shiftLow_31 ⟨by rw [hR]; exact (show 0 + (rPh rwk) ≤ (rPh rwk) by omega), by rw [hR]; exact (show 0 + (rPh rwk) ≤ (rPh rwk) by omega)⟩) hP hD hS hA [0, 1, 2] [] rfl rfl (by decide +kernel) (by decide +kernel) (fun u9 d_31 H locs hd_31 hw_31 hP hD hS => ?_)
      obtain ⟨rwaq_31, rwkq_31, rwfq_31⟩ := u9
      obtain ⟨hrw_31, hGrw_31⟩ : rOk (nI (bs ++ caB ca (L / 4294967296) ++ List.replicate Pn ((255 + (L / 4294967296)) % 256)).length) rwkq_31 ∧ gIs rwfq_31 (bs ++ caB ca (L / 4294967296) ++ List.replicate Pn ((255 + (L / 4294967296)) % 256)) := hw_31
      have hd_31 : d_31 + (rPh rwkq_31) ≤ (rPh rwk) := hd_31
      have hPD : my_PD (dC, dI) vwCl A [(co, Sum.inr (3, [Value.int xshift, Value.long xkeptCode, Value.long xkeptRange, Value.int xkeptAsked, Value.int (caI ca), Value.int 0, Value.long (lN L), Value.long xrange, Value.long xcode, Value.long xreadLow, Value.long xreadRange, Value.ref ri, Value.ref ro, Value.ref rw, Value.int xasked])), (rw, Sum.inr (0, [Value.int (nI (bs ++ caB ca (L / 4294967296) ++ List.replicate Pn ((255 + (L / 4294967296)) % 256)).length), Value.ref rwaq_31])), (rwaq_31, Sum.inl (cI, rwkq_31, Sum.inl rwfq_31))] H := ⟨hP, hD⟩
      have hP := hPD.1
      have hD := hPD.2
      refine lv_aload_n hx hb d_Carries_shiftLow_34 rfl (lv_at hl 0 rfl) ?_
      refine lv_aload_n hx hb d_Carries_shiftLow_35 rfl (lv_at hl 0 rfl) ?_
      refine va_get (D := (dC, dI)) (ci := 3) (v := .long (lN L)) (C := "RangeCoders$Bits") (T := T_Bits) (N := 15) hx hb hg in_Bits hown hK hP 0 rfl rfl 6 (by decide) (hg _ k72) (fun x9 h9 => u_same (hg _ k73) x9 h9) rfl d_Carries_shiftLow_36 ?_
      refine lv_bipush (v := 24) hx hb d_Carries_shiftLow_39 (by decide) ?_
      refine lv_lushr hx hb d_Carries_shiftLow_41 rfl ?_
      refine lv_topl (fun v_15 ev_15 => ?_)
      refine lv_l2i hx hb d_Carries_shiftLow_42 rfl ?_
      refine lv_topi (fun v_16 ev_16 => ?_)
      refine lv_sipush (v := 255) hx hb d_Carries_shiftLow_43 (by decide) ?_
      refine lv_iand hx hb d_Carries_shiftLow_46 ?_
      refine lv_topi (fun v_17 ev_17 => ?_)
      have z9 : v_17 = caI (shC L ca) := by subst_vars; rw [U_shr24 (by omega), lN_i]; unfold shC; rw [if_pos hO]; exact pk_andN (by omega) 8 (by decide +kernel)
      subst z9
      refine va_put (D := (dC, dI)) (ci := 3) (v := .int (caI (shC L ca))) (ty := .int) (C := "RangeCoders$Bits") (T := T_Bits) (N := 15) hx hb hg in_Bits t_Bits o_Bits n_Bits hown hK hP hD hS 0 rfl rfl 4 (by decide) (hg _ k68) (fun _ h9 => h9) rfl (o_Bits 4 (by decide)) rfl rfl (Nat.le_of_ble_eq_true rfl) d_Carries_shiftLow_47 (fun H locs hP hD hS => ?_)
      have hPD : my_PD (dC, dI) vwCl A [(co, Sum.inr (3, [Value.int xshift, Value.long xkeptCode, Value.long xkeptRange, Value.int xkeptAsked, Value.int (caI (shC L ca)), Value.int 0, Value.long (lN L), Value.long xrange, Value.long xcode, Value.long xreadLow, Value.long xreadRange, Value.ref ri, Value.ref ro, Value.ref rw, Value.int xasked])), (rw, Sum.inr (0, [Value.int (nI (bs ++ caB ca (L / 4294967296) ++ List.replicate Pn ((255 + (L / 4294967296)) % 256)).length), Value.ref rwaq_31])), (rwaq_31, Sum.inl (cI, rwkq_31, Sum.inl rwfq_31))] H := ⟨hP, hD⟩
      have hP := hPD.1
      have hD := hPD.2
      refine lv_goto (tgt := 63) hx hb d_Carries_shiftLow_50 (by decide) ?_
      have hsu : (nI (bs ++ caB ca (L / 4294967296) ++ List.replicate Pn ((255 + (L / 4294967296)) % 256)).length : Int32) = nI (shB L ca Pn bs).length := by unfold shB; rw [if_pos hO]
      rw [hsu] at hP hD
      have hPD : my_PD (dC, dI) vwCl A [(co, Sum.inr (3, [Value.int xshift, Value.long xkeptCode, Value.long xkeptRange, Value.int xkeptAsked, Value.int (caI (shC L ca)), Value.int 0, Value.long (lN L), Value.long xrange, Value.long xcode, Value.long xreadLow, Value.long xreadRange, Value.ref ri, Value.ref ro, Value.ref rw, Value.int xasked])), (rw, Sum.inr (0, [Value.int (nI (shB L ca Pn bs).length), Value.ref rwaq_31])), (rwaq_31, Sum.inl (cI, rwkq_31, Sum.inl rwfq_31))] H := ⟨hP, hD⟩
      have hP := hPD.1
      have hD := hPD.2
      have hsu : (0 : Int32) = nI (shP L Pn) := by unfold shP; rw [if_pos hO]; rfl
      rw [hsu] at hP hD
      have hPD : my_PD (dC, dI) vwCl A [(co, Sum.inr (3, [Value.int xshift, Value.long xkeptCode, Value.long xkeptRange, Value.int xkeptAsked, Value.int (caI (shC L ca)), Value.int (nI (shP L Pn)), Value.long (lN L), Value.long xrange, Value.long xcode, Value.long xreadLow, Value.long xreadRange, Value.ref ri, Value.ref ro, Value.ref rw, Value.int xasked])), (rw, Sum.inr (0, [Value.int (nI (shB L ca Pn bs).length), Value.ref rwaq_31])), (rwaq_31, Sum.inl (cI, rwkq_31, Sum.inl rwfq_31))] H := ⟨hP, hD⟩
      have hP := hPD.1
      have hD := hPD.2
      refine lv_aload_n hx hb d_Carries_shiftLow_63 rfl (lv_at hl 0 rfl) ?_
      refine lv_aload_n hx hb d_Carries_shiftLow_64 rfl (lv_at hl 0 rfl) ?_
      refine va_get (D := (dC, dI)) (ci := 3) (v := .long (lN L)) (C := "RangeCoders$Bits") (T := T_Bits) (N := 15) hx hb hg in_Bits hown hK hP 0 rfl rfl 6 (by decide) (hg _ k72) (fun x9 h9 => u_same (hg _ k73) x9 h9) rfl d_Carries_shiftLow_65 ?_
      refine lv_bipush (v := 8) hx hb d_Carries_shiftLow_68 (by decide) ?_
      refine lv_lshl hx hb d_Carries_shiftLow_70 rfl ?_
      refine lv_topl (fun v_18 ev_18 => ?_)
      refine lv_ldc2 (v := 4294967295) hx hb hown (hg _ k462) d_Carries_shiftLow_71 ?_
      refine lv_land hx hb d_Carries_shiftLow_74 ?_
      refine lv_topl (fun v_19 ev_19 => ?_)
      have z9 : v_19 = lN (shL L) := by subst_vars; rw [L_shl8, L_and32 (by omega)]; unfold shL; congr 1; omega
      subst z9
      refine va_put (D := (dC, dI)) (ci := 3) (v := .long (lN (shL L))) (ty := .long) (C := "RangeCoders$Bits") (T := T_Bits) (N := 15) hx hb hg in_Bits t_Bits o_Bits n_Bits hown hK hP hD hS 0 rfl rfl 6 (by decide) (hg _ k72) (fun x9 h9 => u_same (hg _ k73) x9 h9) rfl (o_Bits 6 (by decide)) rfl rfl (Nat.le_of_ble_eq_true rfl) d_Carries_shiftLow_75 (fun H locs hP hD hS => ?_)
      have hPD : my_PD (dC, dI) vwCl A [(co, Sum.inr (3, [Value.int xshift, Value.long xkeptCode, Value.long xkeptRange, Value.int xkeptAsked, Value.int (caI (shC L ca)), Value.int (nI (shP L Pn)), Value.long (lN (shL L)), Value.long xrange, Value.long xcode, Value.long xreadLow, Value.long xreadRange, Value.ref ri, Value.ref ro, Value.ref rw, Value.int xasked])), (rw, Sum.inr (0, [Value.int (nI (shB L ca Pn bs).length), Value.ref rwaq_31])), (rwaq_31, Sum.inl (cI, rwkq_31, Sum.inl rwfq_31))] H := ⟨hP, hD⟩
      have hP := hPD.1
      have hD := hPD.2
      exact my_vretg hx hb hr hlocks hQ hK hS (rwaq_31, rwkq_31, rwfq_31) (show (0 + d_31) + (rPh rwkq_31) ≤ (rPh rwk) by omega) (show (0 + d_31) + (rPh rwkq_31) ≤ (rPh rwk) by omega) (⟨by unfold shB; rw [if_pos hO]; exact hrw_31, by unfold shB; rw [if_pos hO]; exact hGrw_31⟩) (hP.sub [0, 1, 2] rfl) (hD.sub [0, 1, 2] (by decide +kernel) rfl) d_Carries_shiftLow_78
set_option maxHeartbeats 2000000 in
set_option maxRecDepth 100000 in
theorem f_Bits_widen (l : Launch) (dC : Nat → ClassId) (dI : Nat → Nat → Nat) (cI cM cO : ClassId) (sz : Nat) (sl : Nat) (co : Nat) (xshift : Int32) (xkeptCode : Int64) (xkeptRange : Int64) (xkeptAsked : Int32) (xcode : Int64) (xreadLow : Int64) (xreadRange : Int64) (ri : Nat) (ro : Nat) (rw : Nat) (xasked : Int32) (Rg : Nat) (L : Nat) (ca : Option Nat) (Pn : Nat) (rwa : Nat) (rwk : Nat) (rwf : Nat → Int32) (bs : List Nat) (hR0 : 0 < Rg) (hR1 : Rg < 4294967296) (hL : L < 8589934592) (hc : ∀ x, ca = some x → x < 256) (hrw : rOk (nI bs.length) rwk) (hGrw : gIs rwf bs) (hN9 : bs.length + Pn + 4 ≤ 7900) : MetVg l y_Carries_widen (Cond.code y_Carries_widen prog_3_method_6_code 2 none :: gw) ({ frames := 5, cells := rPh rwk, slots := rPh rwk, locals := 125 } : Room) (dC, dI) vwCl (kT cI cM cO) [Value.ref co] [(co, Sum.inr (3, [Value.int xshift, Value.long xkeptCode, Value.long xkeptRange, Value.int xkeptAsked, Value.int (caI ca), Value.int (nI Pn), Value.long (lN L), Value.long (lN Rg), Value.long xcode, Value.long xreadLow, Value.long xreadRange, Value.ref ri, Value.ref ro, Value.ref rw, Value.int xasked])), (rw, Sum.inr (0, [Value.int (nI bs.length), Value.ref rwa])), (rwa, Sum.inl (cI, rwk, Sum.inl rwf))] sz sl (fun (u : Nat × Nat × (Nat → Int32)) => rOk (nI (eB (wdS (Rg, L, ca, Pn, bs))).length) u.2.1 ∧ gIs u.2.2 (eB (wdS (Rg, L, ca, Pn, bs)))) (fun (u : Nat × Nat × (Nat → Int32)) => [(co, Sum.inr (3, [Value.int xshift, Value.long xkeptCode, Value.long xkeptRange, Value.int xkeptAsked, Value.int (caI (eC (wdS (Rg, L, ca, Pn, bs)))), Value.int (nI (eP (wdS (Rg, L, ca, Pn, bs)))), Value.long (lN (eL (wdS (Rg, L, ca, Pn, bs)))), Value.long (lN (eR (wdS (Rg, L, ca, Pn, bs)))), Value.long xcode, Value.long xreadLow, Value.long xreadRange, Value.ref ri, Value.ref ro, Value.ref rw, Value.int xasked])), (rw, Sum.inr (0, [Value.int (nI (eB (wdS (Rg, L, ca, Pn, bs))).length), Value.ref u.1])), (u.1, Sum.inl (cI, u.2.1, Sum.inl u.2.2))]) (rPh rwk) (fun (u : Nat × Nat × (Nat → Int32)) => rPh u.2.1) := by
  refine my_ofVg (cc := prog_3_method_6_code) (n := 2) (ret := none) (by decide) rfl (Nat.le_of_ble_eq_true rfl) ?_
  intro p e s m args below meth c R Q A ls H locs hx hb hr hts hown hlocks hml hnm hR hQ hA hl hP hK hN hD hS
  have hg : ∀ w ∈ gw, w.before args s = true := fun w h => hts w (List.mem_cons_of_mem _ h)
  have hown : s.vm.findClass "RangeCoders$Carries" = some m.cls := hown
  have hl : lv_has ls 2 [(0, Value.ref co)] := hl
  have hltw := rOk_lt hrw
  refine lv_iconst (v := 0) hx hb d_Carries_widen_0 (by decide) ?_
  refine lv_istore_n (lv' := [(1, Value.int 0), (0, Value.ref co)]) hx hb d_Carries_widen_1 rfl hl (by decide) rfl (fun ls hl => ?_)
  have J_2 : ∀ (n9_2 : Nat) (e9 : ES) (k9 : Nat) (rwa9 : Nat) (rwk9 : Nat) (rwf9 : Nat → Int32) (d9 : Nat) (hn9_2 : k9 = n9_2) (hE9 : wdS (Rg, L, ca, Pn, bs) = wdN k9 e9) (hk5 : 5 ≤ k9) (hk8 : k9 ≤ 8) (hR9 : wb8 k9 ≤ eR e9) (hR32 : eR e9 < 4294967296) (hO9 : eOk e9) (hM9 : (eB e9).length + eP e9 + k9 ≤ 7904) (hr9 : rOk (nI (eB e9).length) rwk9) (hg9 : gIs rwf9 (eB e9)) (hd9 : d9 + rPh rwk9 ≤ rPh rwk) (H : Heap) (locs : List Loc) (ls : Array Slot), va_P (dC, dI) vwCl [(co, Sum.inr (3, [Value.int xshift, Value.long xkeptCode, Value.long xkeptRange, Value.int xkeptAsked, Value.int (caI (eC e9)), Value.int (nI (eP e9)), Value.long (lN (eL e9)), Value.long (lN (eR e9)), Value.long xcode, Value.long xreadLow, Value.long xreadRange, Value.ref ri, Value.ref ro, Value.ref rw, Value.int xasked])), (rw, Sum.inr (0, [Value.int (nI (eB e9).length), Value.ref rwa9])), (rwa9, Sum.inl (cI, rwk9, Sum.inl rwf9))] H → va_D A [(co, Sum.inr (3, [Value.int xshift, Value.long xkeptCode, Value.long xkeptRange, Value.int xkeptAsked, Value.int (caI (eC e9)), Value.int (nI (eP e9)), Value.long (lN (eL e9)), Value.long (lN (eR e9)), Value.long xcode, Value.long xreadLow, Value.long xreadRange, Value.ref ri, Value.ref ro, Value.ref rw, Value.int xasked])), (rw, Sum.inr (0, [Value.int (nI (eB e9).length), Value.ref rwa9])), (rwa9, Sum.inl (cI, rwk9, Sum.inl rwf9))] → va_S A s.heap H locs → lv_has ls 2 [(1, Value.int (nI (8 - k9))), (0, Value.ref co)] → W p l e R s m args below meth c H locs d9 d9 Q (F0 m 2 ls []) := by
    intro n9_2
    induction n9_2 using Nat.strongRecOn with
    | ind n9_2 ih9_2 =>
      intro e9 k9 rwa9 rwk9 rwf9 d9 hn9_2 hE9 hk5 hk8 hR9 hR32 hO9 hM9 hr9 hg9 hd9 H locs ls hP hD hS hl
      refine lv_iload_n hx hb d_Carries_widen_2 rfl (lv_at hl 0 rfl) ?_
      refine lv_bipush (v := 8) hx hb d_Carries_widen_3 (by decide) ?_
      refine lv_icmp_ge (tgt := 44) hx hb d_Carries_widen_5 (by decide) (fun c_1 => ?_) (fun c_1 => ?_)
      · exact absurd (nI_ge' (n := 8) (by omega) (by decide) c_1) (by omega)
      · refine lv_aload_n hx hb d_Carries_widen_8 rfl (lv_at hl 1 rfl) ?_
        refine va_get (D := (dC, dI)) (ci := 3) (v := .long (lN (eR e9))) (C := "RangeCoders$Bits") (T := T_Bits) (N := 15) hx hb hg in_Bits hown hK hP 0 rfl rfl 7 (by decide) (hg _ k80) (fun x9 h9 => u_same (hg _ k81) x9 h9) rfl d_Carries_widen_9 ?_
        refine lv_ldc2 (v := 16777216) hx hb hown (hg _ k461) d_Carries_widen_12 ?_
        refine W.lcmp hx hb d_Carries_widen_15 ?_
        refine lv_if_ge (tgt := 44) hx hb d_Carries_widen_16 (by decide) (fun c_2 => ?_) (fun c_2 => ?_)
        · rw [lg_cmp_ge] at c_2
          have hge : ¬ eR e9 < 16777216 := by have q := (L_le (a := 16777216) (by decide) (by omega)).mp c_2; omega
          have z9 : e9 = wdS (Rg, L, ca, Pn, bs) := by rw [hE9, wdN_e hge]
          subst z9
          exact my_vretg hx hb hr hlocks hQ hK hS (rwa9, rwk9, rwf9) (show d9 + (rPh rwk9) ≤ (rPh rwk) by omega) (show d9 + (rPh rwk9) ≤ (rPh rwk) by omega) (⟨hr9, hg9⟩) (hP.sub [0, 1, 2] rfl) (hD.sub [0, 1, 2] (by decide +kernel) rfl) d_Carries_widen_44
        · rw [lg_cmp_ge] at c_2
          have hlt : eR e9 < 16777216 := by
            rcases Nat.lt_or_ge (eR e9) 16777216 with q | q
            · exact q
            · exact absurd ((L_le (a := 16777216) (by decide) (by omega)).mpr q) c_2
          have hk6 := wb8_k hk5 hR9 hlt
          refine lv_aload_n hx hb d_Carries_widen_19 rfl (lv_at hl 1 rfl) ?_
          refine lv_aload_n hx hb d_Carries_widen_20 rfl (lv_at hl 1 rfl) ?_
          refine va_get (D := (dC, dI)) (ci := 3) (v := .long (lN (eR e9))) (C := "RangeCoders$Bits") (T := T_Bits) (N := 15) hx hb hg in_Bits hown hK hP 0 rfl rfl 7 (by decide) (hg _ k80) (fun x9 h9 => u_same (hg _ k81) x9 h9) rfl d_Carries_widen_21 ?_
          refine lv_bipush (v := 8) hx hb d_Carries_widen_24 (by decide) ?_
          refine lv_lshl hx hb d_Carries_widen_26 rfl ?_
          refine lv_topl (fun v_3 ev_3 => ?_)
          refine lv_ldc2 (v := 4294967295) hx hb hown (hg _ k462) d_Carries_widen_27 ?_
          refine lv_land hx hb d_Carries_widen_30 ?_
          refine lv_topl (fun v_4 ev_4 => ?_)
          have z9 : v_4 = lN (eR e9 * 256) := by subst_vars; rw [L_shl8, L_and32 (by omega), Nat.mod_eq_of_lt (by omega)]
          subst z9
          refine va_put (D := (dC, dI)) (ci := 3) (v := .long (lN (eR e9 * 256))) (ty := .long) (C := "RangeCoders$Bits") (T := T_Bits) (N := 15) hx hb hg in_Bits t_Bits o_Bits n_Bits hown hK hP hD hS 0 rfl rfl 7 (by decide) (hg _ k80) (fun x9 h9 => u_same (hg _ k81) x9 h9) rfl (o_Bits 7 (by decide)) rfl rfl (Nat.le_of_ble_eq_true rfl) d_Carries_widen_31 (fun H locs hP hD hS => ?_)
          have hPD : my_PD (dC, dI) vwCl A [(co, Sum.inr (3, [Value.int xshift, Value.long xkeptCode, Value.long xkeptRange, Value.int xkeptAsked, Value.int (caI (eC e9)), Value.int (nI (eP e9)), Value.long (lN (eL e9)), Value.long (lN (eR e9 * 256)), Value.long xcode, Value.long xreadLow, Value.long xreadRange, Value.ref ri, Value.ref ro, Value.ref rw, Value.int xasked])), (rw, Sum.inr (0, [Value.int (nI (eB e9).length), Value.ref rwa9])), (rwa9, Sum.inl (cI, rwk9, Sum.inl rwf9))] H := ⟨hP, hD⟩
          have hP := hPD.1
          have hD := hPD.2
          refine lv_aload_n hx hb d_Carries_widen_34 rfl (lv_at hl 1 rfl) ?_
          refine my_cvg (wr := []) (va_runU (As := []) (rest := []) ⟨hx, hb, hml, hown, hts⟩ (f_Bits_shiftLow l dC dI cI cM cO H.size (hSl H) co xshift xkeptCode xkeptRange xkeptAsked (lN (eR e9 * 256)) xcode xreadLow xreadRange ri ro rw xasked (eL e9) (eC e9) (eP e9) rwa9 rwk9 rwf9 (eB e9) (hO9.1) (hO9.2) (hr9) (hg9) (by omega)) (va_cwU 0 hts (my_gU k463 k1281 kx0 k465 k5 k466) rfl rfl rfl rfl (by decide +kernel) ⟨by rw [hR]; exact Nat.le_of_ble_eq_true rfl, by rw [hR]; exact Nat.le_of_ble_eq_true rfl⟩) (my_preVg hK hN (hP.sub [0, 1, 2] rfl) (hD.sub [0, 1, 2] (by decide +kernel) rfl) 0 rfl rfl) rfl rfl hl.1 rfl (lv_room (Nat.le_of_ble_eq_true rfl)) d_Carries_widen_35 ⟨by rw [hR]; exact (show d9 + (rPh rwk9) ≤ (rPh rwk) by omega), by rw [hR]; exact (show d9 + (rPh rwk9) ≤ (rPh rwk) by omega)⟩) hP hD hS hA [0, 1, 2] [] rfl rfl (by decide +kernel) (by decide +kernel) (fun u9 d_35 H locs hd_35 hw_35 hP hD hS => ?_)
          obtain ⟨rwaq_35, rwkq_35, rwfq_35⟩ := u9
          obtain ⟨hrw_35, hGrw_35⟩ : rOk (nI (shB (eL e9) (eC e9) (eP e9) (eB e9)).length) rwkq_35 ∧ gIs rwfq_35 (shB (eL e9) (eC e9) (eP e9) (eB e9)) := hw_35
          have hd_35 : d_35 + (rPh rwkq_35) ≤ (rPh rwk9) := hd_35
          have hPD : my_PD (dC, dI) vwCl A [(co, Sum.inr (3, [Value.int xshift, Value.long xkeptCode, Value.long xkeptRange, Value.int xkeptAsked, Value.int (caI (shC (eL e9) (eC e9))), Value.int (nI (shP (eL e9) (eP e9))), Value.long (lN (shL (eL e9))), Value.long (lN (eR e9 * 256)), Value.long xcode, Value.long xreadLow, Value.long xreadRange, Value.ref ri, Value.ref ro, Value.ref rw, Value.int xasked])), (rw, Sum.inr (0, [Value.int (nI (shB (eL e9) (eC e9) (eP e9) (eB e9)).length), Value.ref rwaq_35])), (rwaq_35, Sum.inl (cI, rwkq_35, Sum.inl rwfq_35))] H := ⟨hP, hD⟩
          have hP := hPD.1
          have hD := hPD.2
          obtain ⟨v_5, ev_5⟩ : ∃ y : Int32, y = (nI (8 - k9)) + (1) := ⟨_, rfl⟩
          refine lv_iinc (v := v_5) (lv' := [(1, Value.int v_5), (0, Value.ref co)]) hx hb d_Carries_widen_38 hl (k := 0) rfl (by rw [ev_5]; rfl) (by decide) rfl (fun ls hl => ?_)
          have z9 : v_5 = nI (8 - (k9 - 1)) := by rw [ev_5, show 8 - (k9 - 1) = 8 - k9 + 1 by omega]; exact nI_1 _
          subst z9
          refine lv_goto (tgt := 2) hx hb d_Carries_widen_41 (by decide) ?_
          exact ih9_2 _ (by first | omega | (omega)) (shS (eR e9 * 256, e9.2)) (k9 - 1) rwaq_35 rwkq_35 rwfq_35 (d9 + d_35) rfl (by rw [hE9, wdN_s (by omega) hlt]) (by omega) (by omega) (wb8_s hk6 hk8 hR9) (by show eR e9 * 256 < _; omega) (eOk_sh (e := (eR e9 * 256, e9.2)) hO9) (by have q := eN_sh (eR e9 * 256, e9.2); simp only [eN, eB, eP] at q hM9 ⊢; omega) (hrw_35) (hGrw_35) (by omega) H locs ls (hP.sub [0, 1, 2] rfl) (hD.sub [0, 1, 2] (by decide +kernel) rfl) hS (lv_sub hl [0, 1] rfl)
  exact J_2 _ (Rg, L, ca, Pn, bs) (8 : Nat) rwa rwk rwf (0 : Nat) rfl (rfl) (by decide) (by decide) (hR0) (hR1) (⟨hL, hc⟩) (by show bs.length + Pn + 8 ≤ _; omega) (hrw) (hGrw) (by omega) H locs ls (hP.sub [0, 1, 2] rfl) (hD.sub [0, 1, 2] (by decide +kernel) rfl) hS (lv_sub hl [0, 1] rfl)
set_option maxHeartbeats 2000000 in
set_option maxRecDepth 100000 in
theorem f_Bits_flush (l : Launch) (dC : Nat → ClassId) (dI : Nat → Nat → Nat) (cI cM cO : ClassId) (sz : Nat) (sl : Nat) (co : Nat) (xshift : Int32) (xkeptCode : Int64) (xkeptRange : Int64) (xkeptAsked : Int32) (xcode : Int64) (xreadLow : Int64) (xreadRange : Int64) (ri : Nat) (ro : Nat) (rw : Nat) (xasked : Int32) (Rg : Nat) (L : Nat) (ca : Option Nat) (Pn : Nat) (rwa : Nat) (rwk : Nat) (rwf : Nat → Int32) (bs : List Nat) (hE : eOk (Rg, L, ca, Pn, bs)) (hrw : rOk (nI bs.length) rwk) (hGrw : gIs rwf bs) (hN9 : bs.length + Pn + 20 ≤ 7900) : MetVg l y_Carries_flush (Cond.code y_Carries_flush prog_3_method_5_code 2 none :: gw) ({ frames := 5, cells := rPh rwk, slots := rPh rwk, locals := 125 } : Room) (dC, dI) vwCl (kT cI cM cO) [Value.ref co] [(co, Sum.inr (3, [Value.int xshift, Value.long xkeptCode, Value.long xkeptRange, Value.int xkeptAsked, Value.int (caI ca), Value.int (nI Pn), Value.long (lN L), Value.long (lN Rg), Value.long xcode, Value.long xreadLow, Value.long xreadRange, Value.ref ri, Value.ref ro, Value.ref rw, Value.int xasked])), (rw, Sum.inr (0, [Value.int (nI bs.length), Value.ref rwa])), (rwa, Sum.inl (cI, rwk, Sum.inl rwf))] sz sl (fun (u : Nat × Nat × (Nat → Int32)) => rOk (nI (eB (shK 5 (Rg, L, ca, Pn, bs))).length) u.2.1 ∧ gIs u.2.2 (eB (shK 5 (Rg, L, ca, Pn, bs)))) (fun (u : Nat × Nat × (Nat → Int32)) => [(co, Sum.inr (3, [Value.int xshift, Value.long xkeptCode, Value.long xkeptRange, Value.int xkeptAsked, Value.int (caI (eC (shK 5 (Rg, L, ca, Pn, bs)))), Value.int (nI (eP (shK 5 (Rg, L, ca, Pn, bs)))), Value.long (lN (eL (shK 5 (Rg, L, ca, Pn, bs)))), Value.long (lN (eR (shK 5 (Rg, L, ca, Pn, bs)))), Value.long xcode, Value.long xreadLow, Value.long xreadRange, Value.ref ri, Value.ref ro, Value.ref rw, Value.int xasked])), (rw, Sum.inr (0, [Value.int (nI (eB (shK 5 (Rg, L, ca, Pn, bs))).length), Value.ref u.1])), (u.1, Sum.inl (cI, u.2.1, Sum.inl u.2.2))]) (rPh rwk) (fun (u : Nat × Nat × (Nat → Int32)) => rPh u.2.1) := by
  refine my_ofVg (cc := prog_3_method_5_code) (n := 2) (ret := none) (by decide) rfl (Nat.le_of_ble_eq_true rfl) ?_
  intro p e s m args below meth c R Q A ls H locs hx hb hr hts hown hlocks hml hnm hR hQ hA hl hP hK hN hD hS
  have hg : ∀ w ∈ gw, w.before args s = true := fun w h => hts w (List.mem_cons_of_mem _ h)
  have hown : s.vm.findClass "RangeCoders$Carries" = some m.cls := hown
  have hl : lv_has ls 2 [(0, Value.ref co)] := hl
  have hltw := rOk_lt hrw
  refine lv_iconst (v := 0) hx hb d_Carries_flush_0 (by decide) ?_
  refine lv_istore_n (lv' := [(1, Value.int 0), (0, Value.ref co)]) hx hb d_Carries_flush_1 rfl hl (by decide) rfl (fun ls hl => ?_)
  have J_2 : ∀ (n9_2 : Nat) (j : Nat) (e9 : ES) (rwa9 : Nat) (rwk9 : Nat) (rwf9 : Nat → Int32) (d9 : Nat) (hn9_2 : 5 - j = n9_2) (hj : j ≤ 5) (hE9 : shK 5 (Rg, L, ca, Pn, bs) = shK (5 - j) e9) (hO9 : eOk e9) (hM9 : eN e9 ≤ 7900 + j) (hr9 : rOk (nI (eB e9).length) rwk9) (hg9 : gIs rwf9 (eB e9)) (hd9 : d9 + rPh rwk9 ≤ rPh rwk) (H : Heap) (locs : List Loc) (ls : Array Slot), va_P (dC, dI) vwCl [(co, Sum.inr (3, [Value.int xshift, Value.long xkeptCode, Value.long xkeptRange, Value.int xkeptAsked, Value.int (caI (eC e9)), Value.int (nI (eP e9)), Value.long (lN (eL e9)), Value.long (lN (eR e9)), Value.long xcode, Value.long xreadLow, Value.long xreadRange, Value.ref ri, Value.ref ro, Value.ref rw, Value.int xasked])), (rw, Sum.inr (0, [Value.int (nI (eB e9).length), Value.ref rwa9])), (rwa9, Sum.inl (cI, rwk9, Sum.inl rwf9))] H → va_D A [(co, Sum.inr (3, [Value.int xshift, Value.long xkeptCode, Value.long xkeptRange, Value.int xkeptAsked, Value.int (caI (eC e9)), Value.int (nI (eP e9)), Value.long (lN (eL e9)), Value.long (lN (eR e9)), Value.long xcode, Value.long xreadLow, Value.long xreadRange, Value.ref ri, Value.ref ro, Value.ref rw, Value.int xasked])), (rw, Sum.inr (0, [Value.int (nI (eB e9).length), Value.ref rwa9])), (rwa9, Sum.inl (cI, rwk9, Sum.inl rwf9))] → va_S A s.heap H locs → lv_has ls 2 [(1, Value.int (nI j)), (0, Value.ref co)] → W p l e R s m args below meth c H locs d9 d9 Q (F0 m 2 ls []) := by
    intro n9_2
    induction n9_2 using Nat.strongRecOn with
    | ind n9_2 ih9_2 =>
      intro j e9 rwa9 rwk9 rwf9 d9 hn9_2 hj hE9 hO9 hM9 hr9 hg9 hd9 H locs ls hP hD hS hl
      refine lv_iload_n hx hb d_Carries_flush_2 rfl (lv_at hl 0 rfl) ?_
      refine lv_iconst (v := 5) hx hb d_Carries_flush_3 (by decide) ?_
      refine lv_icmp_ge (tgt := 17) hx hb d_Carries_flush_4 (by decide) (fun c_1 => ?_) (fun c_1 => ?_)
      · have hj3 : j = 5 := by have := nI_ge' (n := 5) (by omega) (by decide) c_1; omega
        have z9 : e9 = shK 5 (Rg, L, ca, Pn, bs) := by rw [hE9, hj3]; rfl
        subst z9
        exact my_vretg hx hb hr hlocks hQ hK hS (rwa9, rwk9, rwf9) (show d9 + (rPh rwk9) ≤ (rPh rwk) by omega) (show d9 + (rPh rwk9) ≤ (rPh rwk) by omega) (⟨hr9, hg9⟩) (hP.sub [0, 1, 2] rfl) (hD.sub [0, 1, 2] (by decide +kernel) rfl) d_Carries_flush_17
      · have hj2 : j < 5 := nI_lt' (by omega) c_1
        refine lv_aload_n hx hb d_Carries_flush_7 rfl (lv_at hl 1 rfl) ?_
        refine my_cvg (wr := []) (va_runU (As := []) (rest := []) ⟨hx, hb, hml, hown, hts⟩ (f_Bits_shiftLow l dC dI cI cM cO H.size (hSl H) co xshift xkeptCode xkeptRange xkeptAsked (lN (eR e9)) xcode xreadLow xreadRange ri ro rw xasked (eL e9) (eC e9) (eP e9) rwa9 rwk9 rwf9 (eB e9) (hO9.1) (hO9.2) (hr9) (hg9) (by have z : eN e9 = (eB e9).length + eP e9 + 1 := rfl; omega)) (va_cwU 0 hts (my_gU k463 k1281 kx0 k465 k5 k466) rfl rfl rfl rfl (by decide +kernel) ⟨by rw [hR]; exact Nat.le_of_ble_eq_true rfl, by rw [hR]; exact Nat.le_of_ble_eq_true rfl⟩) (my_preVg hK hN (hP.sub [0, 1, 2] rfl) (hD.sub [0, 1, 2] (by decide +kernel) rfl) 0 rfl rfl) rfl rfl hl.1 rfl (lv_room (Nat.le_of_ble_eq_true rfl)) d_Carries_flush_8 ⟨by rw [hR]; exact (show d9 + (rPh rwk9) ≤ (rPh rwk) by omega), by rw [hR]; exact (show d9 + (rPh rwk9) ≤ (rPh rwk) by omega)⟩) hP hD hS hA [0, 1, 2] [] rfl rfl (by decide +kernel) (by decide +kernel) (fun u9 d_8 H locs hd_8 hw_8 hP hD hS => ?_)
        obtain ⟨rwaq_8, rwkq_8, rwfq_8⟩ := u9
        obtain ⟨hrw_8, hGrw_8⟩ : rOk (nI (shB (eL e9) (eC e9) (eP e9) (eB e9)).length) rwkq_8 ∧ gIs rwfq_8 (shB (eL e9) (eC e9) (eP e9) (eB e9)) := hw_8
        have hd_8 : d_8 + (rPh rwkq_8) ≤ (rPh rwk9) := hd_8
        have hPD : my_PD (dC, dI) vwCl A [(co, Sum.inr (3, [Value.int xshift, Value.long xkeptCode, Value.long xkeptRange, Value.int xkeptAsked, Value.int (caI (shC (eL e9) (eC e9))), Value.int (nI (shP (eL e9) (eP e9))), Value.long (lN (shL (eL e9))), Value.long (lN (eR e9)), Value.long xcode, Value.long xreadLow, Value.long xreadRange, Value.ref ri, Value.ref ro, Value.ref rw, Value.int xasked])), (rw, Sum.inr (0, [Value.int (nI (shB (eL e9) (eC e9) (eP e9) (eB e9)).length), Value.ref rwaq_8])), (rwaq_8, Sum.inl (cI, rwkq_8, Sum.inl rwfq_8))] H := ⟨hP, hD⟩
        have hP := hPD.1
        have hD := hPD.2
        obtain ⟨v_2, ev_2⟩ : ∃ y : Int32, y = (nI j) + (1) := ⟨_, rfl⟩
        refine lv_iinc (v := v_2) (lv' := [(1, Value.int v_2), (0, Value.ref co)]) hx hb d_Carries_flush_11 hl (k := 0) rfl (by rw [ev_2]; rfl) (by decide) rfl (fun ls hl => ?_)
        have z9 : v_2 = nI (j + 1) := by rw [ev_2]; exact nI_1 _
        subst z9
        refine lv_goto (tgt := 2) hx hb d_Carries_flush_14 (by decide) ?_
        exact ih9_2 _ (by first | omega | (omega)) (j + 1) (shS e9) rwaq_8 rwkq_8 rwfq_8 (d9 + d_8) rfl (by omega) (by rw [hE9, show 5 - j = (5 - (j + 1)) + 1 by omega]; rfl) (eOk_sh hO9) (by have q := eN_sh e9; omega) (hrw_8) (hGrw_8) (by omega) H locs ls (hP.sub [0, 1, 2] rfl) (hD.sub [0, 1, 2] (by decide +kernel) rfl) hS (lv_sub hl [0, 1] rfl)
  exact J_2 _ (0 : Nat) (Rg, L, ca, Pn, bs) rwa rwk rwf (0 : Nat) rfl (by decide) (rfl) (hE) (by show bs.length + Pn + 1 ≤ _; omega) (hrw) (hGrw) (by omega) H locs ls (hP.sub [0, 1, 2] rfl) (hD.sub [0, 1, 2] (by decide +kernel) rfl) hS (lv_sub hl [0, 1] rfl)
end
section
set_option maxHeartbeats 2000000 in
set_option maxRecDepth 100000 in
theorem f_Carries_writeWaiting (l : Launch) (dC : Nat → ClassId) (dI : Nat → Nat → Nat) (cI cM cO : ClassId) (sz : Nat) (sl : Nat) (co : Nat) (xlow : Int64) (xrange : Int64) (xcode : Int64) (xreadLow : Int64) (xreadRange : Int64) (ri : Nat) (ro : Nat) (rw : Nat) (xasked : Int32) (ca : Option Nat) (Pn : Nat) (kc : Nat) (rwa : Nat) (rwk : Nat) (rwf : Nat → Int32) (bs : List Nat) (hc : ∀ x, ca = some x → x < 256) (hkc : kc ≤ 1) (hrw : rOk (nI bs.length) rwk) (hGrw : gIs rwf bs) (hN9 : bs.length + Pn + 1 ≤ 8000) : MetVg l y_Carries_writeWaiting (Cond.code y_Carries_writeWaiting prog_3_method_9_code 3 none :: gw) ({ frames := 3, cells := rPh rwk, slots := rPh rwk, locals := 83 } : Room) (dC, dI) vwCl (kT cI cM cO) [Value.ref co, Value.int (nI kc)] [(co, Sum.inr (1, [Value.int (caI ca), Value.int (nI Pn), Value.long xlow, Value.long xrange, Value.long xcode, Value.long xreadLow, Value.long xreadRange, Value.ref ri, Value.ref ro, Value.ref rw, Value.int xasked])), (rw, Sum.inr (0, [Value.int (nI bs.length), Value.ref rwa])), (rwa, Sum.inl (cI, rwk, Sum.inl rwf))] sz sl (fun (u : Nat × Nat × (Nat → Int32)) => rOk (nI (bs ++ caB ca kc ++ List.replicate Pn ((255 + kc) % 256)).length) u.2.1 ∧ gIs u.2.2 (bs ++ caB ca kc ++ List.replicate Pn ((255 + kc) % 256))) (fun (u : Nat × Nat × (Nat → Int32)) => [(co, Sum.inr (1, [Value.int (caI ca), Value.int 0, Value.long xlow, Value.long xrange, Value.long xcode, Value.long xreadLow, Value.long xreadRange, Value.ref ri, Value.ref ro, Value.ref rw, Value.int xasked])), (rw, Sum.inr (0, [Value.int (nI (bs ++ caB ca kc ++ List.replicate Pn ((255 + kc) % 256)).length), Value.ref u.1])), (u.1, Sum.inl (cI, u.2.1, Sum.inl u.2.2))]) (rPh rwk) (fun (u : Nat × Nat × (Nat → Int32)) => rPh u.2.1) := by
  refine my_ofVg (cc := prog_3_method_9_code) (n := 3) (ret := none) (by decide) rfl (Nat.le_of_ble_eq_true rfl) ?_
  intro p e s m args below meth c R Q A ls H locs hx hb hr hts hown hlocks hml hnm hR hQ hA hl hP hK hN hD hS
  have hg : ∀ w ∈ gw, w.before args s = true := fun w h => hts w (List.mem_cons_of_mem _ h)
  have hown : s.vm.findClass "RangeCoders$Carries" = some m.cls := hown
  have hl : lv_has ls 3 [(0, Value.ref co), (1, Value.int (nI kc))] := hl
  have hltw := rOk_lt hrw
  refine lv_aload_n hx hb d_Carries_writeWaiting_0 rfl (lv_at hl 0 rfl) ?_
  refine va_get (D := (dC, dI)) (ci := 1) (v := .int (caI ca)) (C := "RangeCoders$Carries") (T := T_Carries) (N := 11) hx hb hg in_Carries hown hK hP 0 rfl rfl 0 (by decide) (hg _ k68) (fun _ h9 => h9) rfl d_Carries_writeWaiting_1 ?_
  refine lv_iconst (v := (-1)) hx hb d_Carries_writeWaiting_4 (by decide) ?_
  refine lv_icmp_eq (tgt := 25) hx hb d_Carries_writeWaiting_5 (by decide) (fun c_1 => ?_) (fun c_1 => ?_)
  · have hcn : ca = none := (caI_ne hc).mp c_1
    refine lv_iconst (v := 0) hx hb d_Carries_writeWaiting_25 (by decide) ?_
    refine lv_istore_n (lv' := [(2, Value.int 0), (0, Value.ref co), (1, Value.int (nI kc))]) hx hb d_Carries_writeWaiting_26 rfl hl (by decide) rfl (fun ls hl => ?_)
    have J_27 : ∀ (n9_27 : Nat) (j : Nat) (b9 : List Nat) (rwa9 : Nat) (rwk9 : Nat) (rwf9 : Nat → Int32) (d9 : Nat) (hn9_27 : Pn - j = n9_27) (hj : j ≤ Pn) (hb9 : b9 = bs ++ caB ca kc ++ List.replicate j ((255 + kc) % 256)) (hr9 : rOk (nI b9.length) rwk9) (hg9 : gIs rwf9 b9) (hd9 : d9 + rPh rwk9 ≤ rPh rwk) (H : Heap) (locs : List Loc) (ls : Array Slot), va_P (dC, dI) vwCl [(co, Sum.inr (1, [Value.int (caI ca), Value.int (nI Pn), Value.long xlow, Value.long xrange, Value.long xcode, Value.long xreadLow, Value.long xreadRange, Value.ref ri, Value.ref ro, Value.ref rw, Value.int xasked])), (rw, Sum.inr (0, [Value.int (nI b9.length), Value.ref rwa9])), (rwa9, Sum.inl (cI, rwk9, Sum.inl rwf9))] H → va_D A [(co, Sum.inr (1, [Value.int (caI ca), Value.int (nI Pn), Value.long xlow, Value.long xrange, Value.long xcode, Value.long xreadLow, Value.long xreadRange, Value.ref ri, Value.ref ro, Value.ref rw, Value.int xasked])), (rw, Sum.inr (0, [Value.int (nI b9.length), Value.ref rwa9])), (rwa9, Sum.inl (cI, rwk9, Sum.inl rwf9))] → va_S A s.heap H locs → lv_has ls 3 [(2, Value.int (nI j)), (0, Value.ref co), (1, Value.int (nI kc))] → W p l e R s m args below meth c H locs d9 d9 Q (F0 m 27 ls []) := by
      intro n9_27
      induction n9_27 using Nat.strongRecOn with
      | ind n9_27 ih9_27 =>
        intro j b9 rwa9 rwk9 rwf9 d9 hn9_27 hj hb9 hr9 hg9 hd9 H locs ls hP hD hS hl
        have hbl : b9.length ≤ bs.length + 1 + j := by
          rw [hb9]
          simp only [List.length_append, List.length_replicate]
          have := caB_le ca kc
          omega
        refine lv_iload_n hx hb d_Carries_writeWaiting_27 rfl (lv_at hl 0 rfl) ?_
        refine lv_aload_n hx hb d_Carries_writeWaiting_28 rfl (lv_at hl 1 rfl) ?_
        refine va_get (D := (dC, dI)) (ci := 1) (v := .int (nI Pn)) (C := "RangeCoders$Carries") (T := T_Carries) (N := 11) hx hb hg in_Carries hown hK hP 0 rfl rfl 1 (by decide) (hg _ k69) (fun _ h9 => h9) rfl d_Carries_writeWaiting_29 ?_
        refine lv_icmp_ge (tgt := 57) hx hb d_Carries_writeWaiting_32 (by decide) (fun c_2 => ?_) (fun c_2 => ?_)
        · have hj3 : Pn = j := by have := nI_ge' (by omega) (by omega) c_2; omega
          subst hj3
          have hPD : my_PD (dC, dI) vwCl A [(co, Sum.inr (1, [Value.int (caI ca), Value.int (nI Pn), Value.long xlow, Value.long xrange, Value.long xcode, Value.long xreadLow, Value.long xreadRange, Value.ref ri, Value.ref ro, Value.ref rw, Value.int xasked])), (rw, Sum.inr (0, [Value.int (nI b9.length), Value.ref rwa9])), (rwa9, Sum.inl (cI, rwk9, Sum.inl rwf9))] H := ⟨hP, hD⟩
          have hP := hPD.1
          have hD := hPD.2
          have z9 : b9 = bs ++ caB ca kc ++ List.replicate Pn ((255 + kc) % 256) := hb9
          subst z9
          refine lv_aload_n hx hb d_Carries_writeWaiting_57 rfl (lv_at hl 1 rfl) ?_
          refine lv_iconst (v := 0) hx hb d_Carries_writeWaiting_58 (by decide) ?_
          refine va_put (D := (dC, dI)) (ci := 1) (v := .int 0) (ty := .int) (C := "RangeCoders$Carries") (T := T_Carries) (N := 11) hx hb hg in_Carries t_Carries o_Carries n_Carries hown hK hP hD hS 0 rfl rfl 1 (by decide) (hg _ k69) (fun _ h9 => h9) rfl (o_Carries 1 (by decide)) rfl rfl (Nat.le_of_ble_eq_true rfl) d_Carries_writeWaiting_59 (fun H locs hP hD hS => ?_)
          have hPD : my_PD (dC, dI) vwCl A [(co, Sum.inr (1, [Value.int (caI ca), Value.int 0, Value.long xlow, Value.long xrange, Value.long xcode, Value.long xreadLow, Value.long xreadRange, Value.ref ri, Value.ref ro, Value.ref rw, Value.int xasked])), (rw, Sum.inr (0, [Value.int (nI (bs ++ caB ca kc ++ List.replicate Pn ((255 + kc) % 256)).length), Value.ref rwa9])), (rwa9, Sum.inl (cI, rwk9, Sum.inl rwf9))] H := ⟨hP, hD⟩
          have hP := hPD.1
          have hD := hPD.2
          exact my_vretg hx hb hr hlocks hQ hK hS (rwa9, rwk9, rwf9) (show d9 + (rPh rwk9) ≤ (rPh rwk) by omega) (show d9 + (rPh rwk9) ≤ (rPh rwk) by omega) (⟨hr9, hg9⟩) (hP.sub [0, 1, 2] rfl) (hD.sub [0, 1, 2] (by decide +kernel) rfl) d_Carries_writeWaiting_62
        · have hj2 : j < Pn := nI_lt' (by omega) c_2
          refine lv_aload_n hx hb d_Carries_writeWaiting_35 rfl (lv_at hl 1 rfl) ?_
          refine va_get (D := (dC, dI)) (ci := 1) (v := .ref rw) (C := "RangeCoders$Carries") (T := T_Carries) (N := 11) hx hb hg in_Carries hown hK hP 0 rfl rfl 9 (by decide) (hg _ k124) (fun x9 h9 => u_same (hg _ k125) x9 h9) rfl d_Carries_writeWaiting_36 ?_
          refine lv_sipush (v := 255) hx hb d_Carries_writeWaiting_39 (by decide) ?_
          refine lv_iload_n hx hb d_Carries_writeWaiting_42 rfl (lv_at hl 2 rfl) ?_
          refine lv_iadd hx hb d_Carries_writeWaiting_43 ?_
          refine lv_topi (fun v_3 ev_3 => ?_)
          refine lv_sipush (v := 255) hx hb d_Carries_writeWaiting_44 (by decide) ?_
          refine lv_iand hx hb d_Carries_writeWaiting_47 ?_
          refine lv_topi (fun v_4 ev_4 => ?_)
          have z9 : v_4 = nI ((255 + kc) % 256) := by subst_vars; rw [show (255 : Int32) + nI kc = nI (255 + kc) from nI_add 255 kc]; exact pk_andN (by omega) 8 (by decide +kernel)
          subst z9
          refine my_cvg (wr := [(co, Sum.inr (1, [Value.int (caI ca), Value.int (nI Pn), Value.long xlow, Value.long xrange, Value.long xcode, Value.long xreadLow, Value.long xreadRange, Value.ref ri, Value.ref ro, Value.ref rw, Value.int xasked]))]) (va_runV (As := [Value.int (nI ((255 + kc) % 256))]) (rest := []) ⟨hx, hb, hml, hown, hts⟩ (f_Row_add l dC dI cI cM cO H.size (hSl H) rw rwa9 rwk9 rwf9 b9 ((255 + kc) % 256) (hr9) (hg9) (by omega)) (cwV 1 hts (my_gV k472 k473 k474 k6 k475) rfl rfl rfl cu_Row_add_1 ⟨by rw [hR]; exact Nat.le_of_ble_eq_true rfl, by rw [hR]; exact Nat.le_of_ble_eq_true rfl⟩) (my_preVg hK hN (hP.sub [1, 2] rfl) (hD.sub [1, 2] (by decide +kernel) rfl) 0 rfl rfl) rfl rfl hl.1 rfl (lv_room (Nat.le_of_ble_eq_true rfl)) d_Carries_writeWaiting_48 ⟨by rw [hR]; exact (show d9 + (rPh rwk9) ≤ (rPh rwk) by omega), by rw [hR]; exact (show d9 + (rPh rwk9) ≤ (rPh rwk) by omega)⟩) hP hD hS hA [1, 2] [0] rfl rfl (by decide +kernel) (by decide +kernel) (fun u9 d_48 H locs hd_48 hw_48 hP hD hS => ?_)
          obtain ⟨rraq_48, rrkq_48, rrfq_48⟩ := u9
          obtain ⟨hrr_48, hGrr_48⟩ : rOk (nI (b9 ++ [((255 + kc) % 256)]).length) rrkq_48 ∧ gIs rrfq_48 (b9 ++ [((255 + kc) % 256)]) := hw_48
          have hd_48 : d_48 + (rPh rrkq_48) ≤ (rPh rwk9) := hd_48
          have hPD : my_PD (dC, dI) vwCl A [(co, Sum.inr (1, [Value.int (caI ca), Value.int (nI Pn), Value.long xlow, Value.long xrange, Value.long xcode, Value.long xreadLow, Value.long xreadRange, Value.ref ri, Value.ref ro, Value.ref rw, Value.int xasked])), (rw, Sum.inr (0, [Value.int (nI (b9 ++ [((255 + kc) % 256)]).length), Value.ref rraq_48])), (rraq_48, Sum.inl (cI, rrkq_48, Sum.inl rrfq_48))] H := ⟨hP, hD⟩
          have hP := hPD.1
          have hD := hPD.2
          obtain ⟨v_5, ev_5⟩ : ∃ y : Int32, y = (nI j) + (1) := ⟨_, rfl⟩
          refine lv_iinc (v := v_5) (lv' := [(2, Value.int v_5), (0, Value.ref co), (1, Value.int (nI kc))]) hx hb d_Carries_writeWaiting_51 hl (k := 0) rfl (by rw [ev_5]; rfl) (by decide) rfl (fun ls hl => ?_)
          have z9 : v_5 = nI (j + 1) := by rw [ev_5]; exact nI_1 _
          subst z9
          refine lv_goto (tgt := 27) hx hb d_Carries_writeWaiting_54 (by decide) ?_
          exact ih9_27 _ (by first | omega | (omega)) (j + 1) (b9 ++ [(255 + kc) % 256]) rraq_48 rrkq_48 rrfq_48 (d9 + d_48) rfl (by omega) (by rw [hb9, List.replicate_succ', ← List.append_assoc]) (hrr_48) (hGrr_48) (by omega) H locs ls (hP.sub [0, 1, 2] rfl) (hD.sub [0, 1, 2] (by decide +kernel) rfl) hS (lv_sub hl [0, 1, 2] rfl)
    exact J_27 _ (0 : Nat) bs rwa rwk rwf (0 : Nat) rfl (Nat.zero_le _) (by rw [hcn]; simp [caB]) (hrw) (hGrw) (by omega) H locs ls (hP.sub [0, 1, 2] rfl) (hD.sub [0, 1, 2] (by decide +kernel) rfl) hS (lv_sub hl [0, 1, 2] rfl)
  · obtain ⟨c0, hc0⟩ : ∃ x, ca = some x := by
      cases hca : ca with
      | none => exact absurd ((caI_ne hc).mpr hca) c_1
      | some x => exact ⟨x, rfl⟩
    have hc256 := hc c0 hc0
    have hcI : caI ca = nI c0 := by rw [hc0]; rfl
    refine lv_aload_n hx hb d_Carries_writeWaiting_8 rfl (lv_at hl 0 rfl) ?_
    refine va_get (D := (dC, dI)) (ci := 1) (v := .ref rw) (C := "RangeCoders$Carries") (T := T_Carries) (N := 11) hx hb hg in_Carries hown hK hP 0 rfl rfl 9 (by decide) (hg _ k124) (fun x9 h9 => u_same (hg _ k125) x9 h9) rfl d_Carries_writeWaiting_9 ?_
    refine lv_aload_n hx hb d_Carries_writeWaiting_12 rfl (lv_at hl 0 rfl) ?_
    refine va_get (D := (dC, dI)) (ci := 1) (v := .int (caI ca)) (C := "RangeCoders$Carries") (T := T_Carries) (N := 11) hx hb hg in_Carries hown hK hP 0 rfl rfl 0 (by decide) (hg _ k68) (fun _ h9 => h9) rfl d_Carries_writeWaiting_13 ?_
    refine lv_iload_n hx hb d_Carries_writeWaiting_16 rfl (lv_at hl 1 rfl) ?_
    refine lv_iadd hx hb d_Carries_writeWaiting_17 ?_
    refine lv_topi (fun v_6 ev_6 => ?_)
    refine lv_sipush (v := 255) hx hb d_Carries_writeWaiting_18 (by decide) ?_
    refine lv_iand hx hb d_Carries_writeWaiting_21 ?_
    refine lv_topi (fun v_7 ev_7 => ?_)
    have z9 : v_7 = nI ((c0 + kc) % 256) := by subst_vars; rw [hcI, nI_add]; exact pk_andN (by omega) 8 (by decide +kernel)
    subst z9
    refine my_cvg (wr := [(co, Sum.inr (1, [Value.int (caI ca), Value.int (nI Pn), Value.long xlow, Value.long xrange, Value.long xcode, Value.long xreadLow, Value.long xreadRange, Value.ref ri, Value.ref ro, Value.ref rw, Value.int xasked]))]) (va_runV (As := [Value.int (nI ((c0 + kc) % 256))]) (rest := []) ⟨hx, hb, hml, hown, hts⟩ (f_Row_add l dC dI cI cM cO H.size (hSl H) rw rwa rwk rwf bs ((c0 + kc) % 256) (hrw) (hGrw) (by omega)) (cwV 1 hts (my_gV k472 k473 k474 k6 k475) rfl rfl rfl cu_Row_add_1 ⟨by rw [hR]; exact Nat.le_of_ble_eq_true rfl, by rw [hR]; exact Nat.le_of_ble_eq_true rfl⟩) (my_preVg hK hN (hP.sub [1, 2] rfl) (hD.sub [1, 2] (by decide +kernel) rfl) 0 rfl rfl) rfl rfl hl.1 rfl (lv_room (Nat.le_of_ble_eq_true rfl)) d_Carries_writeWaiting_22 ⟨by rw [hR]; exact (show 0 + (rPh rwk) ≤ (rPh rwk) by omega), by rw [hR]; exact (show 0 + (rPh rwk) ≤ (rPh rwk) by omega)⟩) hP hD hS hA [1, 2] [0] rfl rfl (by decide +kernel) (by decide +kernel) (fun u9 d_22 H locs hd_22 hw_22 hP hD hS => ?_)
    obtain ⟨rraq_22, rrkq_22, rrfq_22⟩ := u9
    obtain ⟨hrr_22, hGrr_22⟩ : rOk (nI (bs ++ [((c0 + kc) % 256)]).length) rrkq_22 ∧ gIs rrfq_22 (bs ++ [((c0 + kc) % 256)]) := hw_22
    have hd_22 : d_22 + (rPh rrkq_22) ≤ (rPh rwk) := hd_22
    have hPD : my_PD (dC, dI) vwCl A [(co, Sum.inr (1, [Value.int (caI ca), Value.int (nI Pn), Value.long xlow, Value.long xrange, Value.long xcode, Value.long xreadLow, Value.long xreadRange, Value.ref ri, Value.ref ro, Value.ref rw, Value.int xasked])), (rw, Sum.inr (0, [Value.int (nI (bs ++ [((c0 + kc) % 256)]).length), Value.ref rraq_22])), (rraq_22, Sum.inl (cI, rrkq_22, Sum.inl rrfq_22))] H := ⟨hP, hD⟩
    have hP := hPD.1
    have hD := hPD.2
    refine lv_iconst (v := 0) hx hb d_Carries_writeWaiting_25 (by decide) ?_
    refine lv_istore_n (lv' := [(2, Value.int 0), (0, Value.ref co), (1, Value.int (nI kc))]) hx hb d_Carries_writeWaiting_26 rfl hl (by decide) rfl (fun ls hl => ?_)
    have J_27 : ∀ (n9_27 : Nat) (j : Nat) (b9 : List Nat) (rwa9 : Nat) (rwk9 : Nat) (rwf9 : Nat → Int32) (d9 : Nat) (hn9_27 : Pn - j = n9_27) (hj : j ≤ Pn) (hb9 : b9 = bs ++ caB ca kc ++ List.replicate j ((255 + kc) % 256)) (hr9 : rOk (nI b9.length) rwk9) (hg9 : gIs rwf9 b9) (hd9 : d9 + rPh rwk9 ≤ rPh rwk) (H : Heap) (locs : List Loc) (ls : Array Slot), va_P (dC, dI) vwCl [(co, Sum.inr (1, [Value.int (caI ca), Value.int (nI Pn), Value.long xlow, Value.long xrange, Value.long xcode, Value.long xreadLow, Value.long xreadRange, Value.ref ri, Value.ref ro, Value.ref rw, Value.int xasked])), (rw, Sum.inr (0, [Value.int (nI b9.length), Value.ref rwa9])), (rwa9, Sum.inl (cI, rwk9, Sum.inl rwf9))] H → va_D A [(co, Sum.inr (1, [Value.int (caI ca), Value.int (nI Pn), Value.long xlow, Value.long xrange, Value.long xcode, Value.long xreadLow, Value.long xreadRange, Value.ref ri, Value.ref ro, Value.ref rw, Value.int xasked])), (rw, Sum.inr (0, [Value.int (nI b9.length), Value.ref rwa9])), (rwa9, Sum.inl (cI, rwk9, Sum.inl rwf9))] → va_S A s.heap H locs → lv_has ls 3 [(2, Value.int (nI j)), (0, Value.ref co), (1, Value.int (nI kc))] → W p l e R s m args below meth c H locs d9 d9 Q (F0 m 27 ls []) := by
      intro n9_27
      induction n9_27 using Nat.strongRecOn with
      | ind n9_27 ih9_27 =>
        intro j b9 rwa9 rwk9 rwf9 d9 hn9_27 hj hb9 hr9 hg9 hd9 H locs ls hP hD hS hl
        have hbl : b9.length ≤ bs.length + 1 + j := by
          rw [hb9]
          simp only [List.length_append, List.length_replicate]
          have := caB_le ca kc
          omega
        refine lv_iload_n hx hb d_Carries_writeWaiting_27 rfl (lv_at hl 0 rfl) ?_
        refine lv_aload_n hx hb d_Carries_writeWaiting_28 rfl (lv_at hl 1 rfl) ?_
        refine va_get (D := (dC, dI)) (ci := 1) (v := .int (nI Pn)) (C := "RangeCoders$Carries") (T := T_Carries) (N := 11) hx hb hg in_Carries hown hK hP 0 rfl rfl 1 (by decide) (hg _ k69) (fun _ h9 => h9) rfl d_Carries_writeWaiting_29 ?_
        refine lv_icmp_ge (tgt := 57) hx hb d_Carries_writeWaiting_32 (by decide) (fun c_8 => ?_) (fun c_8 => ?_)
        · have hj3 : Pn = j := by have := nI_ge' (by omega) (by omega) c_8; omega
          subst hj3
          have hPD : my_PD (dC, dI) vwCl A [(co, Sum.inr (1, [Value.int (caI ca), Value.int (nI Pn), Value.long xlow, Value.long xrange, Value.long xcode, Value.long xreadLow, Value.long xreadRange, Value.ref ri, Value.ref ro, Value.ref rw, Value.int xasked])), (rw, Sum.inr (0, [Value.int (nI b9.length), Value.ref rwa9])), (rwa9, Sum.inl (cI, rwk9, Sum.inl rwf9))] H := ⟨hP, hD⟩
          have hP := hPD.1
          have hD := hPD.2
          have z9 : b9 = bs ++ caB ca kc ++ List.replicate Pn ((255 + kc) % 256) := hb9
          subst z9
          refine lv_aload_n hx hb d_Carries_writeWaiting_57 rfl (lv_at hl 1 rfl) ?_
          refine lv_iconst (v := 0) hx hb d_Carries_writeWaiting_58 (by decide) ?_
          refine va_put (D := (dC, dI)) (ci := 1) (v := .int 0) (ty := .int) (C := "RangeCoders$Carries") (T := T_Carries) (N := 11) hx hb hg in_Carries t_Carries o_Carries n_Carries hown hK hP hD hS 0 rfl rfl 1 (by decide) (hg _ k69) (fun _ h9 => h9) rfl (o_Carries 1 (by decide)) rfl rfl (Nat.le_of_ble_eq_true rfl) d_Carries_writeWaiting_59 (fun H locs hP hD hS => ?_)
          have hPD : my_PD (dC, dI) vwCl A [(co, Sum.inr (1, [Value.int (caI ca), Value.int 0, Value.long xlow, Value.long xrange, Value.long xcode, Value.long xreadLow, Value.long xreadRange, Value.ref ri, Value.ref ro, Value.ref rw, Value.int xasked])), (rw, Sum.inr (0, [Value.int (nI (bs ++ caB ca kc ++ List.replicate Pn ((255 + kc) % 256)).length), Value.ref rwa9])), (rwa9, Sum.inl (cI, rwk9, Sum.inl rwf9))] H := ⟨hP, hD⟩
          have hP := hPD.1
          have hD := hPD.2
          exact my_vretg hx hb hr hlocks hQ hK hS (rwa9, rwk9, rwf9) (show d9 + (rPh rwk9) ≤ (rPh rwk) by omega) (show d9 + (rPh rwk9) ≤ (rPh rwk) by omega) (⟨hr9, hg9⟩) (hP.sub [0, 1, 2] rfl) (hD.sub [0, 1, 2] (by decide +kernel) rfl) d_Carries_writeWaiting_62
        · have hj2 : j < Pn := nI_lt' (by omega) c_8
          refine lv_aload_n hx hb d_Carries_writeWaiting_35 rfl (lv_at hl 1 rfl) ?_
          refine va_get (D := (dC, dI)) (ci := 1) (v := .ref rw) (C := "RangeCoders$Carries") (T := T_Carries) (N := 11) hx hb hg in_Carries hown hK hP 0 rfl rfl 9 (by decide) (hg _ k124) (fun x9 h9 => u_same (hg _ k125) x9 h9) rfl d_Carries_writeWaiting_36 ?_
          refine lv_sipush (v := 255) hx hb d_Carries_writeWaiting_39 (by decide) ?_
          refine lv_iload_n hx hb d_Carries_writeWaiting_42 rfl (lv_at hl 2 rfl) ?_
          refine lv_iadd hx hb d_Carries_writeWaiting_43 ?_
          refine lv_topi (fun v_9 ev_9 => ?_)
          refine lv_sipush (v := 255) hx hb d_Carries_writeWaiting_44 (by decide) ?_
          refine lv_iand hx hb d_Carries_writeWaiting_47 ?_
          refine lv_topi (fun v_10 ev_10 => ?_)
          have z9 : v_10 = nI ((255 + kc) % 256) := by subst_vars; rw [show (255 : Int32) + nI kc = nI (255 + kc) from nI_add 255 kc]; exact pk_andN (by omega) 8 (by decide +kernel)
          subst z9
          refine my_cvg (wr := [(co, Sum.inr (1, [Value.int (caI ca), Value.int (nI Pn), Value.long xlow, Value.long xrange, Value.long xcode, Value.long xreadLow, Value.long xreadRange, Value.ref ri, Value.ref ro, Value.ref rw, Value.int xasked]))]) (va_runV (As := [Value.int (nI ((255 + kc) % 256))]) (rest := []) ⟨hx, hb, hml, hown, hts⟩ (f_Row_add l dC dI cI cM cO H.size (hSl H) rw rwa9 rwk9 rwf9 b9 ((255 + kc) % 256) (hr9) (hg9) (by omega)) (cwV 1 hts (my_gV k472 k473 k474 k6 k475) rfl rfl rfl cu_Row_add_1 ⟨by rw [hR]; exact Nat.le_of_ble_eq_true rfl, by rw [hR]; exact Nat.le_of_ble_eq_true rfl⟩) (my_preVg hK hN (hP.sub [1, 2] rfl) (hD.sub [1, 2] (by decide +kernel) rfl) 0 rfl rfl) rfl rfl hl.1 rfl (lv_room (Nat.le_of_ble_eq_true rfl)) d_Carries_writeWaiting_48 ⟨by rw [hR]; exact (show d9 + (rPh rwk9) ≤ (rPh rwk) by omega), by rw [hR]; exact (show d9 + (rPh rwk9) ≤ (rPh rwk) by omega)⟩) hP hD hS hA [1, 2] [0] rfl rfl (by decide +kernel) (by decide +kernel) (fun u9 d_48 H locs hd_48 hw_48 hP hD hS => ?_)
          obtain ⟨rraq_48, rrkq_48, rrfq_48⟩ := u9
          obtain ⟨hrr_48, hGrr_48⟩ : rOk (nI (b9 ++ [((255 + kc) % 256)]).length) rrkq_48 ∧ gIs rrfq_48 (b9 ++ [((255 + kc) % 256)]) := hw_48
          have hd_48 : d_48 + (rPh rrkq_48) ≤ (rPh rwk9) := hd_48
          have hPD : my_PD (dC, dI) vwCl A [(co, Sum.inr (1, [Value.int (caI ca), Value.int (nI Pn), Value.long xlow, Value.long xrange, Value.long xcode, Value.long xreadLow, Value.long xreadRange, Value.ref ri, Value.ref ro, Value.ref rw, Value.int xasked])), (rw, Sum.inr (0, [Value.int (nI (b9 ++ [((255 + kc) % 256)]).length), Value.ref rraq_48])), (rraq_48, Sum.inl (cI, rrkq_48, Sum.inl rrfq_48))] H := ⟨hP, hD⟩
          have hP := hPD.1
          have hD := hPD.2
          obtain ⟨v_11, ev_11⟩ : ∃ y : Int32, y = (nI j) + (1) := ⟨_, rfl⟩
          refine lv_iinc (v := v_11) (lv' := [(2, Value.int v_11), (0, Value.ref co), (1, Value.int (nI kc))]) hx hb d_Carries_writeWaiting_51 hl (k := 0) rfl (by rw [ev_11]; rfl) (by decide) rfl (fun ls hl => ?_)
          have z9 : v_11 = nI (j + 1) := by rw [ev_11]; exact nI_1 _
          subst z9
          refine lv_goto (tgt := 27) hx hb d_Carries_writeWaiting_54 (by decide) ?_
          exact ih9_27 _ (by first | omega | (omega)) (j + 1) (b9 ++ [(255 + kc) % 256]) rraq_48 rrkq_48 rrfq_48 (d9 + d_48) rfl (by omega) (by rw [hb9, List.replicate_succ', ← List.append_assoc]) (hrr_48) (hGrr_48) (by omega) H locs ls (hP.sub [0, 1, 2] rfl) (hD.sub [0, 1, 2] (by decide +kernel) rfl) hS (lv_sub hl [0, 1, 2] rfl)
    exact J_27 _ (0 : Nat) (bs ++ [(c0 + kc) % 256]) rraq_22 rrkq_22 rrfq_22 (0 + d_22) rfl (Nat.zero_le _) (by rw [hc0]; simp [caB]) (hrr_22) (hGrr_22) (by omega) H locs ls (hP.sub [0, 1, 2] rfl) (hD.sub [0, 1, 2] (by decide +kernel) rfl) hS (lv_sub hl [0, 1, 2] rfl)
set_option maxHeartbeats 2000000 in
set_option maxRecDepth 100000 in
theorem f_Carries_shiftLow (l : Launch) (dC : Nat → ClassId) (dI : Nat → Nat → Nat) (cI cM cO : ClassId) (sz : Nat) (sl : Nat) (co : Nat) (xrange : Int64) (xcode : Int64) (xreadLow : Int64) (xreadRange : Int64) (ri : Nat) (ro : Nat) (rw : Nat) (xasked : Int32) (L : Nat) (ca : Option Nat) (Pn : Nat) (rwa : Nat) (rwk : Nat) (rwf : Nat → Int32) (bs : List Nat) (hL : L < 8589934592) (hc : ∀ x, ca = some x → x < 256) (hrw : rOk (nI bs.length) rwk) (hGrw : gIs rwf bs) (hN9 : bs.length + Pn + 1 ≤ 8000) : MetVg l y_Carries_shiftLow (Cond.code y_Carries_shiftLow prog_3_method_8_code 1 none :: gw) ({ frames := 4, cells := rPh rwk, slots := rPh rwk, locals := 105 } : Room) (dC, dI) vwCl (kT cI cM cO) [Value.ref co] [(co, Sum.inr (1, [Value.int (caI ca), Value.int (nI Pn), Value.long (lN L), Value.long xrange, Value.long xcode, Value.long xreadLow, Value.long xreadRange, Value.ref ri, Value.ref ro, Value.ref rw, Value.int xasked])), (rw, Sum.inr (0, [Value.int (nI bs.length), Value.ref rwa])), (rwa, Sum.inl (cI, rwk, Sum.inl rwf))] sz sl (fun (u : Nat × Nat × (Nat → Int32)) => rOk (nI (shB L ca Pn bs).length) u.2.1 ∧ gIs u.2.2 (shB L ca Pn bs)) (fun (u : Nat × Nat × (Nat → Int32)) => [(co, Sum.inr (1, [Value.int (caI (shC L ca)), Value.int (nI (shP L Pn)), Value.long (lN (shL L)), Value.long xrange, Value.long xcode, Value.long xreadLow, Value.long xreadRange, Value.ref ri, Value.ref ro, Value.ref rw, Value.int xasked])), (rw, Sum.inr (0, [Value.int (nI (shB L ca Pn bs).length), Value.ref u.1])), (u.1, Sum.inl (cI, u.2.1, Sum.inl u.2.2))]) (rPh rwk) (fun (u : Nat × Nat × (Nat → Int32)) => rPh u.2.1) := by
  refine my_ofVg (cc := prog_3_method_8_code) (n := 1) (ret := none) (by decide) rfl (Nat.le_of_ble_eq_true rfl) ?_
  intro p e s m args below meth c R Q A ls H locs hx hb hr hts hown hlocks hml hnm hR hQ hA hl hP hK hN hD hS
  have hg : ∀ w ∈ gw, w.before args s = true := fun w h => hts w (List.mem_cons_of_mem _ h)
  have hown : s.vm.findClass "RangeCoders$Carries" = some m.cls := hown
  have hl : lv_has ls 1 [(0, Value.ref co)] := hl
  have hltw := rOk_lt hrw
  refine lv_aload_n hx hb d_Carries_shiftLow_0 rfl (lv_at hl 0 rfl) ?_
  refine va_get (D := (dC, dI)) (ci := 1) (v := .long (lN L)) (C := "RangeCoders$Carries") (T := T_Carries) (N := 11) hx hb hg in_Carries hown hK hP 0 rfl rfl 2 (by decide) (hg _ k72) (fun x9 h9 => u_same (hg _ k73) x9 h9) rfl d_Carries_shiftLow_1 ?_
  refine lv_ldc2 (v := 4278190080) hx hb hown (hg _ k467) d_Carries_shiftLow_4 ?_
  refine W.lcmp hx hb d_Carries_shiftLow_7 ?_
  refine lv_if_lt (tgt := 22) hx hb d_Carries_shiftLow_8 (by decide) (fun c_1 => ?_) (fun c_1 => ?_)
  · rw [lg_cmp_lt] at c_1
    have hO : shO L := Or.inl ((L_lt (b := 4278190080) (by omega) (by decide)).mp c_1)
    refine lv_aload_n hx hb d_Carries_shiftLow_22 rfl (lv_at hl 0 rfl) ?_
    refine lv_aload_n hx hb d_Carries_shiftLow_23 rfl (lv_at hl 0 rfl) ?_
    refine va_get (D := (dC, dI)) (ci := 1) (v := .long (lN L)) (C := "RangeCoders$Carries") (T := T_Carries) (N := 11) hx hb hg in_Carries hown hK hP 0 rfl rfl 2 (by decide) (hg _ k72) (fun x9 h9 => u_same (hg _ k73) x9 h9) rfl d_Carries_shiftLow_24 ?_
    refine lv_bipush (v := 32) hx hb d_Carries_shiftLow_27 (by decide) ?_
    refine lv_lushr hx hb d_Carries_shiftLow_29 rfl ?_
    refine lv_topl (fun v_2 ev_2 => ?_)
    refine lv_l2i hx hb d_Carries_shiftLow_30 rfl ?_
    refine lv_topi (fun v_3 ev_3 => ?_)
    have z9 : v_3 = nI (L / 4294967296) := by subst_vars; rw [U_shr32 (by omega)]; exact lN_i _
    subst z9
    refine my_cvg (wr := []) (va_runV (As := [Value.int (nI (L / 4294967296))]) (rest := []) ⟨hx, hb, hml, hown, hts⟩ (f_Carries_writeWaiting l dC dI cI cM cO H.size (hSl H) co (lN L) xrange xcode xreadLow xreadRange ri ro rw xasked ca Pn (L / 4294967296) rwa rwk rwf bs (by first | assumption | omega) (by omega) (by first | assumption | omega) (by first | assumption | omega) (by first | assumption | omega)) (cwV 1 hts (my_gV k468 k470 ks7 k5 k471) rfl rfl rfl cu_Carries_writeWaiting_1 ⟨by rw [hR]; exact Nat.le_of_ble_eq_true rfl, by rw [hR]; exact Nat.le_of_ble_eq_true rfl⟩) (my_preVg hK hN (hP.sub [0, 1, 2] rfl) (hD.sub [0, 1, 2] (by decide +kernel) rfl) 0 rfl rfl) rfl rfl hl.1 rfl (lv_room (Nat.le_of_ble_eq_true rfl)) d_Carries_shiftLow_31 ⟨by rw [hR]; exact (show 0 + (rPh rwk) ≤ (rPh rwk) by omega), by rw [hR]; exact (show 0 + (rPh rwk) ≤ (rPh rwk) by omega)⟩) hP hD hS hA [0, 1, 2] [] rfl rfl (by decide +kernel) (by decide +kernel) (fun u9 d_31 H locs hd_31 hw_31 hP hD hS => ?_)
    obtain ⟨rwaq_31, rwkq_31, rwfq_31⟩ := u9
    obtain ⟨hrw_31, hGrw_31⟩ : rOk (nI (bs ++ caB ca (L / 4294967296) ++ List.replicate Pn ((255 + (L / 4294967296)) % 256)).length) rwkq_31 ∧ gIs rwfq_31 (bs ++ caB ca (L / 4294967296) ++ List.replicate Pn ((255 + (L / 4294967296)) % 256)) := hw_31
    have hd_31 : d_31 + (rPh rwkq_31) ≤ (rPh rwk) := hd_31
    have hPD : my_PD (dC, dI) vwCl A [(co, Sum.inr (1, [Value.int (caI ca), Value.int 0, Value.long (lN L), Value.long xrange, Value.long xcode, Value.long xreadLow, Value.long xreadRange, Value.ref ri, Value.ref ro, Value.ref rw, Value.int xasked])), (rw, Sum.inr (0, [Value.int (nI (bs ++ caB ca (L / 4294967296) ++ List.replicate Pn ((255 + (L / 4294967296)) % 256)).length), Value.ref rwaq_31])), (rwaq_31, Sum.inl (cI, rwkq_31, Sum.inl rwfq_31))] H := ⟨hP, hD⟩
    have hP := hPD.1
    have hD := hPD.2
    refine lv_aload_n hx hb d_Carries_shiftLow_34 rfl (lv_at hl 0 rfl) ?_
    refine lv_aload_n hx hb d_Carries_shiftLow_35 rfl (lv_at hl 0 rfl) ?_
    refine va_get (D := (dC, dI)) (ci := 1) (v := .long (lN L)) (C := "RangeCoders$Carries") (T := T_Carries) (N := 11) hx hb hg in_Carries hown hK hP 0 rfl rfl 2 (by decide) (hg _ k72) (fun x9 h9 => u_same (hg _ k73) x9 h9) rfl d_Carries_shiftLow_36 ?_
    refine lv_bipush (v := 24) hx hb d_Carries_shiftLow_39 (by decide) ?_
    refine lv_lushr hx hb d_Carries_shiftLow_41 rfl ?_
    refine lv_topl (fun v_4 ev_4 => ?_)
    refine lv_l2i hx hb d_Carries_shiftLow_42 rfl ?_
    refine lv_topi (fun v_5 ev_5 => ?_)
    refine lv_sipush (v := 255) hx hb d_Carries_shiftLow_43 (by decide) ?_
    refine lv_iand hx hb d_Carries_shiftLow_46 ?_
    refine lv_topi (fun v_6 ev_6 => ?_)
    have z9 : v_6 = caI (shC L ca) := by subst_vars; rw [U_shr24 (by omega), lN_i]; unfold shC; rw [if_pos hO]; exact pk_andN (by omega) 8 (by decide +kernel)
    subst z9
    refine va_put (D := (dC, dI)) (ci := 1) (v := .int (caI (shC L ca))) (ty := .int) (C := "RangeCoders$Carries") (T := T_Carries) (N := 11) hx hb hg in_Carries t_Carries o_Carries n_Carries hown hK hP hD hS 0 rfl rfl 0 (by decide) (hg _ k68) (fun _ h9 => h9) rfl (o_Carries 0 (by decide)) rfl rfl (Nat.le_of_ble_eq_true rfl) d_Carries_shiftLow_47 (fun H locs hP hD hS => ?_)
    have hPD : my_PD (dC, dI) vwCl A [(co, Sum.inr (1, [Value.int (caI (shC L ca)), Value.int 0, Value.long (lN L), Value.long xrange, Value.long xcode, Value.long xreadLow, Value.long xreadRange, Value.ref ri, Value.ref ro, Value.ref rw, Value.int xasked])), (rw, Sum.inr (0, [Value.int (nI (bs ++ caB ca (L / 4294967296) ++ List.replicate Pn ((255 + (L / 4294967296)) % 256)).length), Value.ref rwaq_31])), (rwaq_31, Sum.inl (cI, rwkq_31, Sum.inl rwfq_31))] H := ⟨hP, hD⟩
    have hP := hPD.1
    have hD := hPD.2
    refine lv_goto (tgt := 63) hx hb d_Carries_shiftLow_50 (by decide) ?_
    have hsu : (nI (bs ++ caB ca (L / 4294967296) ++ List.replicate Pn ((255 + (L / 4294967296)) % 256)).length : Int32) = nI (shB L ca Pn bs).length := by unfold shB; rw [if_pos hO]
    rw [hsu] at hP hD
    have hPD : my_PD (dC, dI) vwCl A [(co, Sum.inr (1, [Value.int (caI (shC L ca)), Value.int 0, Value.long (lN L), Value.long xrange, Value.long xcode, Value.long xreadLow, Value.long xreadRange, Value.ref ri, Value.ref ro, Value.ref rw, Value.int xasked])), (rw, Sum.inr (0, [Value.int (nI (shB L ca Pn bs).length), Value.ref rwaq_31])), (rwaq_31, Sum.inl (cI, rwkq_31, Sum.inl rwfq_31))] H := ⟨hP, hD⟩
    have hP := hPD.1
    have hD := hPD.2
    have hsu : (0 : Int32) = nI (shP L Pn) := by unfold shP; rw [if_pos hO]; rfl
    rw [hsu] at hP hD
    have hPD : my_PD (dC, dI) vwCl A [(co, Sum.inr (1, [Value.int (caI (shC L ca)), Value.int (nI (shP L Pn)), Value.long (lN L), Value.long xrange, Value.long xcode, Value.long xreadLow, Value.long xreadRange, Value.ref ri, Value.ref ro, Value.ref rw, Value.int xasked])), (rw, Sum.inr (0, [Value.int (nI (shB L ca Pn bs).length), Value.ref rwaq_31])), (rwaq_31, Sum.inl (cI, rwkq_31, Sum.inl rwfq_31))] H := ⟨hP, hD⟩
    have hP := hPD.1
    have hD := hPD.2
    refine lv_aload_n hx hb d_Carries_shiftLow_63 rfl (lv_at hl 0 rfl) ?_
    refine lv_aload_n hx hb d_Carries_shiftLow_64 rfl (lv_at hl 0 rfl) ?_
    refine va_get (D := (dC, dI)) (ci := 1) (v := .long (lN L)) (C := "RangeCoders$Carries") (T := T_Carries) (N := 11) hx hb hg in_Carries hown hK hP 0 rfl rfl 2 (by decide) (hg _ k72) (fun x9 h9 => u_same (hg _ k73) x9 h9) rfl d_Carries_shiftLow_65 ?_
    refine lv_bipush (v := 8) hx hb d_Carries_shiftLow_68 (by decide) ?_
    refine lv_lshl hx hb d_Carries_shiftLow_70 rfl ?_
    refine lv_topl (fun v_7 ev_7 => ?_)
    refine lv_ldc2 (v := 4294967295) hx hb hown (hg _ k462) d_Carries_shiftLow_71 ?_
    refine lv_land hx hb d_Carries_shiftLow_74 ?_
    refine lv_topl (fun v_8 ev_8 => ?_)
    have z9 : v_8 = lN (shL L) := by subst_vars; rw [L_shl8, L_and32 (by omega)]; unfold shL; congr 1; omega
    subst z9
    refine va_put (D := (dC, dI)) (ci := 1) (v := .long (lN (shL L))) (ty := .long) (C := "RangeCoders$Carries") (T := T_Carries) (N := 11) hx hb hg in_Carries t_Carries o_Carries n_Carries hown hK hP hD hS 0 rfl rfl 2 (by decide) (hg _ k72) (fun x9 h9 => u_same (hg _ k73) x9 h9) rfl (o_Carries 2 (by decide)) rfl rfl (Nat.le_of_ble_eq_true rfl) d_Carries_shiftLow_75 (fun H locs hP hD hS => ?_)
    have hPD : my_PD (dC, dI) vwCl A [(co, Sum.inr (1, [Value.int (caI (shC L ca)), Value.int (nI (shP L Pn)), Value.long (lN (shL L)), Value.long xrange, Value.long xcode, Value.long xreadLow, Value.long xreadRange, Value.ref ri, Value.ref ro, Value.ref rw, Value.int xasked])), (rw, Sum.inr (0, [Value.int (nI (shB L ca Pn bs).length), Value.ref rwaq_31])), (rwaq_31, Sum.inl (cI, rwkq_31, Sum.inl rwfq_31))] H := ⟨hP, hD⟩
    have hP := hPD.1
    have hD := hPD.2
    exact my_vretg hx hb hr hlocks hQ hK hS (rwaq_31, rwkq_31, rwfq_31) (show (0 + d_31) + (rPh rwkq_31) ≤ (rPh rwk) by omega) (show (0 + d_31) + (rPh rwkq_31) ≤ (rPh rwk) by omega) (⟨by unfold shB; rw [if_pos hO]; exact hrw_31, by unfold shB; rw [if_pos hO]; exact hGrw_31⟩) (hP.sub [0, 1, 2] rfl) (hD.sub [0, 1, 2] (by decide +kernel) rfl) d_Carries_shiftLow_78
  · rw [lg_cmp_lt] at c_1
    refine lv_aload_n hx hb d_Carries_shiftLow_11 rfl (lv_at hl 0 rfl) ?_
    refine va_get (D := (dC, dI)) (ci := 1) (v := .long (lN L)) (C := "RangeCoders$Carries") (T := T_Carries) (N := 11) hx hb hg in_Carries hown hK hP 0 rfl rfl 2 (by decide) (hg _ k72) (fun x9 h9 => u_same (hg _ k73) x9 h9) rfl d_Carries_shiftLow_12 ?_
    refine lv_ldc2 (v := 4294967295) hx hb hown (hg _ k462) d_Carries_shiftLow_15 ?_
    refine W.lcmp hx hb d_Carries_shiftLow_18 ?_
    refine lv_if_le (tgt := 53) hx hb d_Carries_shiftLow_19 (by decide) (fun c_9 => ?_) (fun c_9 => ?_)
    · rw [lg_cmp_le] at c_9
      have hO : ¬ shO L := fun q => q.elim (fun q => absurd ((L_lt (b := 4278190080) (by omega) (by decide)).mpr q) c_1) (fun q => absurd ((L_le (b := 4294967295) (by omega) (by decide)).mp c_9) (by omega))
      refine lv_aload_n hx hb d_Carries_shiftLow_53 rfl (lv_at hl 0 rfl) ?_
      refine lv_dup hx hb d_Carries_shiftLow_54 rfl ?_
      refine va_get (D := (dC, dI)) (ci := 1) (v := .int (nI Pn)) (C := "RangeCoders$Carries") (T := T_Carries) (N := 11) hx hb hg in_Carries hown hK hP 0 rfl rfl 1 (by decide) (hg _ k69) (fun _ h9 => h9) rfl d_Carries_shiftLow_55 ?_
      refine lv_iconst (v := 1) hx hb d_Carries_shiftLow_58 (by decide) ?_
      refine lv_iadd hx hb d_Carries_shiftLow_59 ?_
      refine lv_topi (fun v_10 ev_10 => ?_)
      have z9 : v_10 = nI (shP L Pn) := by subst_vars; unfold shP; rw [if_neg hO]; exact nI_1 _
      subst z9
      refine va_put (D := (dC, dI)) (ci := 1) (v := .int (nI (shP L Pn))) (ty := .int) (C := "RangeCoders$Carries") (T := T_Carries) (N := 11) hx hb hg in_Carries t_Carries o_Carries n_Carries hown hK hP hD hS 0 rfl rfl 1 (by decide) (hg _ k69) (fun _ h9 => h9) rfl (o_Carries 1 (by decide)) rfl rfl (Nat.le_of_ble_eq_true rfl) d_Carries_shiftLow_60 (fun H locs hP hD hS => ?_)
      have hPD : my_PD (dC, dI) vwCl A [(co, Sum.inr (1, [Value.int (caI ca), Value.int (nI (shP L Pn)), Value.long (lN L), Value.long xrange, Value.long xcode, Value.long xreadLow, Value.long xreadRange, Value.ref ri, Value.ref ro, Value.ref rw, Value.int xasked])), (rw, Sum.inr (0, [Value.int (nI bs.length), Value.ref rwa])), (rwa, Sum.inl (cI, rwk, Sum.inl rwf))] H := ⟨hP, hD⟩
      have hP := hPD.1
      have hD := hPD.2
      have hsu : (nI bs.length : Int32) = nI (shB L ca Pn bs).length := by unfold shB; rw [if_neg hO]
      rw [hsu] at hP hD
      have hPD : my_PD (dC, dI) vwCl A [(co, Sum.inr (1, [Value.int (caI ca), Value.int (nI (shP L Pn)), Value.long (lN L), Value.long xrange, Value.long xcode, Value.long xreadLow, Value.long xreadRange, Value.ref ri, Value.ref ro, Value.ref rw, Value.int xasked])), (rw, Sum.inr (0, [Value.int (nI (shB L ca Pn bs).length), Value.ref rwa])), (rwa, Sum.inl (cI, rwk, Sum.inl rwf))] H := ⟨hP, hD⟩
      have hP := hPD.1
      have hD := hPD.2
      have hsu : (caI ca : Int32) = caI (shC L ca) := by unfold shC; rw [if_neg hO]
      rw [hsu] at hP hD
      have hPD : my_PD (dC, dI) vwCl A [(co, Sum.inr (1, [Value.int (caI (shC L ca)), Value.int (nI (shP L Pn)), Value.long (lN L), Value.long xrange, Value.long xcode, Value.long xreadLow, Value.long xreadRange, Value.ref ri, Value.ref ro, Value.ref rw, Value.int xasked])), (rw, Sum.inr (0, [Value.int (nI (shB L ca Pn bs).length), Value.ref rwa])), (rwa, Sum.inl (cI, rwk, Sum.inl rwf))] H := ⟨hP, hD⟩
      have hP := hPD.1
      have hD := hPD.2
      refine lv_aload_n hx hb d_Carries_shiftLow_63 rfl (lv_at hl 0 rfl) ?_
      refine lv_aload_n hx hb d_Carries_shiftLow_64 rfl (lv_at hl 0 rfl) ?_
      refine va_get (D := (dC, dI)) (ci := 1) (v := .long (lN L)) (C := "RangeCoders$Carries") (T := T_Carries) (N := 11) hx hb hg in_Carries hown hK hP 0 rfl rfl 2 (by decide) (hg _ k72) (fun x9 h9 => u_same (hg _ k73) x9 h9) rfl d_Carries_shiftLow_65 ?_
      refine lv_bipush (v := 8) hx hb d_Carries_shiftLow_68 (by decide) ?_
      refine lv_lshl hx hb d_Carries_shiftLow_70 rfl ?_
      refine lv_topl (fun v_11 ev_11 => ?_)
      refine lv_ldc2 (v := 4294967295) hx hb hown (hg _ k462) d_Carries_shiftLow_71 ?_
      refine lv_land hx hb d_Carries_shiftLow_74 ?_
      refine lv_topl (fun v_12 ev_12 => ?_)
      have z9 : v_12 = lN (shL L) := by subst_vars; rw [L_shl8, L_and32 (by omega)]; unfold shL; congr 1; omega
      subst z9
      refine va_put (D := (dC, dI)) (ci := 1) (v := .long (lN (shL L))) (ty := .long) (C := "RangeCoders$Carries") (T := T_Carries) (N := 11) hx hb hg in_Carries t_Carries o_Carries n_Carries hown hK hP hD hS 0 rfl rfl 2 (by decide) (hg _ k72) (fun x9 h9 => u_same (hg _ k73) x9 h9) rfl (o_Carries 2 (by decide)) rfl rfl (Nat.le_of_ble_eq_true rfl) d_Carries_shiftLow_75 (fun H locs hP hD hS => ?_)
      have hPD : my_PD (dC, dI) vwCl A [(co, Sum.inr (1, [Value.int (caI (shC L ca)), Value.int (nI (shP L Pn)), Value.long (lN (shL L)), Value.long xrange, Value.long xcode, Value.long xreadLow, Value.long xreadRange, Value.ref ri, Value.ref ro, Value.ref rw, Value.int xasked])), (rw, Sum.inr (0, [Value.int (nI (shB L ca Pn bs).length), Value.ref rwa])), (rwa, Sum.inl (cI, rwk, Sum.inl rwf))] H := ⟨hP, hD⟩
      have hP := hPD.1
      have hD := hPD.2
      exact my_vretg hx hb hr hlocks hQ hK hS (rwa, rwk, rwf) (show 0 + (rPh rwk) ≤ (rPh rwk) by omega) (show 0 + (rPh rwk) ≤ (rPh rwk) by omega) (⟨by unfold shB; rw [if_neg hO]; exact hrw, by unfold shB; rw [if_neg hO]; exact hGrw⟩) (hP.sub [0, 1, 2] rfl) (hD.sub [0, 1, 2] (by decide +kernel) rfl) d_Carries_shiftLow_78
    · rw [lg_cmp_le] at c_9
      have hO : shO L := Or.inr ((Nat.lt_or_ge L 4294967296).elim (fun q => absurd ((L_le (b := 4294967295) (by omega) (by decide)).mpr (by omega)) c_9) id)
      refine lv_aload_n hx hb d_Carries_shiftLow_22 rfl (lv_at hl 0 rfl) ?_
      refine lv_aload_n hx hb d_Carries_shiftLow_23 rfl (lv_at hl 0 rfl) ?_
      refine va_get (D := (dC, dI)) (ci := 1) (v := .long (lN L)) (C := "RangeCoders$Carries") (T := T_Carries) (N := 11) hx hb hg in_Carries hown hK hP 0 rfl rfl 2 (by decide) (hg _ k72) (fun x9 h9 => u_same (hg _ k73) x9 h9) rfl d_Carries_shiftLow_24 ?_
      refine lv_bipush (v := 32) hx hb d_Carries_shiftLow_27 (by decide) ?_
      refine lv_lushr hx hb d_Carries_shiftLow_29 rfl ?_
      refine lv_topl (fun v_13 ev_13 => ?_)
      refine lv_l2i hx hb d_Carries_shiftLow_30 rfl ?_
      refine lv_topi (fun v_14 ev_14 => ?_)
      have z9 : v_14 = nI (L / 4294967296) := by subst_vars; rw [U_shr32 (by omega)]; exact lN_i _
      subst z9
      refine my_cvg (wr := []) (va_runV (As := [Value.int (nI (L / 4294967296))]) (rest := []) ⟨hx, hb, hml, hown, hts⟩ (f_Carries_writeWaiting l dC dI cI cM cO H.size (hSl H) co (lN L) xrange xcode xreadLow xreadRange ri ro rw xasked ca Pn (L / 4294967296) rwa rwk rwf bs (by first | assumption | omega) (by omega) (by first | assumption | omega) (by first | assumption | omega) (by first | assumption | omega)) (cwV 1 hts (my_gV k468 k470 ks7 k5 k471) rfl rfl rfl cu_Carries_writeWaiting_1 ⟨by rw [hR]; exact Nat.le_of_ble_eq_true rfl, by rw [hR]; exact Nat.le_of_ble_eq_true rfl⟩) (my_preVg hK hN (hP.sub [0, 1, 2] rfl) (hD.sub [0, 1, 2] (by decide +kernel) rfl) 0 rfl rfl) rfl rfl hl.1 rfl (lv_room (Nat.le_of_ble_eq_true rfl)) d_Carries_shiftLow_31 ⟨by rw [hR]; exact (show 0 + (rPh rwk) ≤ (rPh rwk) by omega), by rw [hR]; exact (show 0 + (rPh rwk) ≤ (rPh rwk) by omega)⟩) hP hD hS hA [0, 1, 2] [] rfl rfl (by decide +kernel) (by decide +kernel) (fun u9 d_31 H locs hd_31 hw_31 hP hD hS => ?_)
      obtain ⟨rwaq_31, rwkq_31, rwfq_31⟩ := u9
      obtain ⟨hrw_31, hGrw_31⟩ : rOk (nI (bs ++ caB ca (L / 4294967296) ++ List.replicate Pn ((255 + (L / 4294967296)) % 256)).length) rwkq_31 ∧ gIs rwfq_31 (bs ++ caB ca (L / 4294967296) ++ List.replicate Pn ((255 + (L / 4294967296)) % 256)) := hw_31
      have hd_31 : d_31 + (rPh rwkq_31) ≤ (rPh rwk) := hd_31
      have hPD : my_PD (dC, dI) vwCl A [(co, Sum.inr (1, [Value.int (caI ca), Value.int 0, Value.long (lN L), Value.long xrange, Value.long xcode, Value.long xreadLow, Value.long xreadRange, Value.ref ri, Value.ref ro, Value.ref rw, Value.int xasked])), (rw, Sum.inr (0, [Value.int (nI (bs ++ caB ca (L / 4294967296) ++ List.replicate Pn ((255 + (L / 4294967296)) % 256)).length), Value.ref rwaq_31])), (rwaq_31, Sum.inl (cI, rwkq_31, Sum.inl rwfq_31))] H := ⟨hP, hD⟩
      have hP := hPD.1
      have hD := hPD.2
      refine lv_aload_n hx hb d_Carries_shiftLow_34 rfl (lv_at hl 0 rfl) ?_
      refine lv_aload_n hx hb d_Carries_shiftLow_35 rfl (lv_at hl 0 rfl) ?_
      refine va_get (D := (dC, dI)) (ci := 1) (v := .long (lN L)) (C := "RangeCoders$Carries") (T := T_Carries) (N := 11) hx hb hg in_Carries hown hK hP 0 rfl rfl 2 (by decide) (hg _ k72) (fun x9 h9 => u_same (hg _ k73) x9 h9) rfl d_Carries_shiftLow_36 ?_
      refine lv_bipush (v := 24) hx hb d_Carries_shiftLow_39 (by decide) ?_
      refine lv_lushr hx hb d_Carries_shiftLow_41 rfl ?_
      refine lv_topl (fun v_15 ev_15 => ?_)
      refine lv_l2i hx hb d_Carries_shiftLow_42 rfl ?_
      refine lv_topi (fun v_16 ev_16 => ?_)
      refine lv_sipush (v := 255) hx hb d_Carries_shiftLow_43 (by decide) ?_
      refine lv_iand hx hb d_Carries_shiftLow_46 ?_
      refine lv_topi (fun v_17 ev_17 => ?_)
      have z9 : v_17 = caI (shC L ca) := by subst_vars; rw [U_shr24 (by omega), lN_i]; unfold shC; rw [if_pos hO]; exact pk_andN (by omega) 8 (by decide +kernel)
      subst z9
      refine va_put (D := (dC, dI)) (ci := 1) (v := .int (caI (shC L ca))) (ty := .int) (C := "RangeCoders$Carries") (T := T_Carries) (N := 11) hx hb hg in_Carries t_Carries o_Carries n_Carries hown hK hP hD hS 0 rfl rfl 0 (by decide) (hg _ k68) (fun _ h9 => h9) rfl (o_Carries 0 (by decide)) rfl rfl (Nat.le_of_ble_eq_true rfl) d_Carries_shiftLow_47 (fun H locs hP hD hS => ?_)
      have hPD : my_PD (dC, dI) vwCl A [(co, Sum.inr (1, [Value.int (caI (shC L ca)), Value.int 0, Value.long (lN L), Value.long xrange, Value.long xcode, Value.long xreadLow, Value.long xreadRange, Value.ref ri, Value.ref ro, Value.ref rw, Value.int xasked])), (rw, Sum.inr (0, [Value.int (nI (bs ++ caB ca (L / 4294967296) ++ List.replicate Pn ((255 + (L / 4294967296)) % 256)).length), Value.ref rwaq_31])), (rwaq_31, Sum.inl (cI, rwkq_31, Sum.inl rwfq_31))] H := ⟨hP, hD⟩
      have hP := hPD.1
      have hD := hPD.2
      refine lv_goto (tgt := 63) hx hb d_Carries_shiftLow_50 (by decide) ?_
      have hsu : (nI (bs ++ caB ca (L / 4294967296) ++ List.replicate Pn ((255 + (L / 4294967296)) % 256)).length : Int32) = nI (shB L ca Pn bs).length := by unfold shB; rw [if_pos hO]
      rw [hsu] at hP hD
      have hPD : my_PD (dC, dI) vwCl A [(co, Sum.inr (1, [Value.int (caI (shC L ca)), Value.int 0, Value.long (lN L), Value.long xrange, Value.long xcode, Value.long xreadLow, Value.long xreadRange, Value.ref ri, Value.ref ro, Value.ref rw, Value.int xasked])), (rw, Sum.inr (0, [Value.int (nI (shB L ca Pn bs).length), Value.ref rwaq_31])), (rwaq_31, Sum.inl (cI, rwkq_31, Sum.inl rwfq_31))] H := ⟨hP, hD⟩
      have hP := hPD.1
      have hD := hPD.2
      have hsu : (0 : Int32) = nI (shP L Pn) := by unfold shP; rw [if_pos hO]; rfl
      rw [hsu] at hP hD
      have hPD : my_PD (dC, dI) vwCl A [(co, Sum.inr (1, [Value.int (caI (shC L ca)), Value.int (nI (shP L Pn)), Value.long (lN L), Value.long xrange, Value.long xcode, Value.long xreadLow, Value.long xreadRange, Value.ref ri, Value.ref ro, Value.ref rw, Value.int xasked])), (rw, Sum.inr (0, [Value.int (nI (shB L ca Pn bs).length), Value.ref rwaq_31])), (rwaq_31, Sum.inl (cI, rwkq_31, Sum.inl rwfq_31))] H := ⟨hP, hD⟩
      have hP := hPD.1
      have hD := hPD.2
      refine lv_aload_n hx hb d_Carries_shiftLow_63 rfl (lv_at hl 0 rfl) ?_
      refine lv_aload_n hx hb d_Carries_shiftLow_64 rfl (lv_at hl 0 rfl) ?_
      refine va_get (D := (dC, dI)) (ci := 1) (v := .long (lN L)) (C := "RangeCoders$Carries") (T := T_Carries) (N := 11) hx hb hg in_Carries hown hK hP 0 rfl rfl 2 (by decide) (hg _ k72) (fun x9 h9 => u_same (hg _ k73) x9 h9) rfl d_Carries_shiftLow_65 ?_
      refine lv_bipush (v := 8) hx hb d_Carries_shiftLow_68 (by decide) ?_
      refine lv_lshl hx hb d_Carries_shiftLow_70 rfl ?_
      refine lv_topl (fun v_18 ev_18 => ?_)
      refine lv_ldc2 (v := 4294967295) hx hb hown (hg _ k462) d_Carries_shiftLow_71 ?_
      refine lv_land hx hb d_Carries_shiftLow_74 ?_
      refine lv_topl (fun v_19 ev_19 => ?_)
      have z9 : v_19 = lN (shL L) := by subst_vars; rw [L_shl8, L_and32 (by omega)]; unfold shL; congr 1; omega
      subst z9
      refine va_put (D := (dC, dI)) (ci := 1) (v := .long (lN (shL L))) (ty := .long) (C := "RangeCoders$Carries") (T := T_Carries) (N := 11) hx hb hg in_Carries t_Carries o_Carries n_Carries hown hK hP hD hS 0 rfl rfl 2 (by decide) (hg _ k72) (fun x9 h9 => u_same (hg _ k73) x9 h9) rfl (o_Carries 2 (by decide)) rfl rfl (Nat.le_of_ble_eq_true rfl) d_Carries_shiftLow_75 (fun H locs hP hD hS => ?_)
      have hPD : my_PD (dC, dI) vwCl A [(co, Sum.inr (1, [Value.int (caI (shC L ca)), Value.int (nI (shP L Pn)), Value.long (lN (shL L)), Value.long xrange, Value.long xcode, Value.long xreadLow, Value.long xreadRange, Value.ref ri, Value.ref ro, Value.ref rw, Value.int xasked])), (rw, Sum.inr (0, [Value.int (nI (shB L ca Pn bs).length), Value.ref rwaq_31])), (rwaq_31, Sum.inl (cI, rwkq_31, Sum.inl rwfq_31))] H := ⟨hP, hD⟩
      have hP := hPD.1
      have hD := hPD.2
      exact my_vretg hx hb hr hlocks hQ hK hS (rwaq_31, rwkq_31, rwfq_31) (show (0 + d_31) + (rPh rwkq_31) ≤ (rPh rwk) by omega) (show (0 + d_31) + (rPh rwkq_31) ≤ (rPh rwk) by omega) (⟨by unfold shB; rw [if_pos hO]; exact hrw_31, by unfold shB; rw [if_pos hO]; exact hGrw_31⟩) (hP.sub [0, 1, 2] rfl) (hD.sub [0, 1, 2] (by decide +kernel) rfl) d_Carries_shiftLow_78
set_option maxHeartbeats 2000000 in
set_option maxRecDepth 100000 in
theorem f_Carries_widen (l : Launch) (dC : Nat → ClassId) (dI : Nat → Nat → Nat) (cI cM cO : ClassId) (sz : Nat) (sl : Nat) (co : Nat) (xcode : Int64) (xreadLow : Int64) (xreadRange : Int64) (ri : Nat) (ro : Nat) (rw : Nat) (xasked : Int32) (Rg : Nat) (L : Nat) (ca : Option Nat) (Pn : Nat) (rwa : Nat) (rwk : Nat) (rwf : Nat → Int32) (bs : List Nat) (hR0 : 0 < Rg) (hR1 : Rg < 4294967296) (hL : L < 8589934592) (hc : ∀ x, ca = some x → x < 256) (hrw : rOk (nI bs.length) rwk) (hGrw : gIs rwf bs) (hN9 : bs.length + Pn + 4 ≤ 7900) : MetVg l y_Carries_widen (Cond.code y_Carries_widen prog_3_method_6_code 2 none :: gw) ({ frames := 5, cells := rPh rwk, slots := rPh rwk, locals := 125 } : Room) (dC, dI) vwCl (kT cI cM cO) [Value.ref co] [(co, Sum.inr (1, [Value.int (caI ca), Value.int (nI Pn), Value.long (lN L), Value.long (lN Rg), Value.long xcode, Value.long xreadLow, Value.long xreadRange, Value.ref ri, Value.ref ro, Value.ref rw, Value.int xasked])), (rw, Sum.inr (0, [Value.int (nI bs.length), Value.ref rwa])), (rwa, Sum.inl (cI, rwk, Sum.inl rwf))] sz sl (fun (u : Nat × Nat × (Nat → Int32)) => rOk (nI (eB (wdS (Rg, L, ca, Pn, bs))).length) u.2.1 ∧ gIs u.2.2 (eB (wdS (Rg, L, ca, Pn, bs)))) (fun (u : Nat × Nat × (Nat → Int32)) => [(co, Sum.inr (1, [Value.int (caI (eC (wdS (Rg, L, ca, Pn, bs)))), Value.int (nI (eP (wdS (Rg, L, ca, Pn, bs)))), Value.long (lN (eL (wdS (Rg, L, ca, Pn, bs)))), Value.long (lN (eR (wdS (Rg, L, ca, Pn, bs)))), Value.long xcode, Value.long xreadLow, Value.long xreadRange, Value.ref ri, Value.ref ro, Value.ref rw, Value.int xasked])), (rw, Sum.inr (0, [Value.int (nI (eB (wdS (Rg, L, ca, Pn, bs))).length), Value.ref u.1])), (u.1, Sum.inl (cI, u.2.1, Sum.inl u.2.2))]) (rPh rwk) (fun (u : Nat × Nat × (Nat → Int32)) => rPh u.2.1) := by
  refine my_ofVg (cc := prog_3_method_6_code) (n := 2) (ret := none) (by decide) rfl (Nat.le_of_ble_eq_true rfl) ?_
  intro p e s m args below meth c R Q A ls H locs hx hb hr hts hown hlocks hml hnm hR hQ hA hl hP hK hN hD hS
  have hg : ∀ w ∈ gw, w.before args s = true := fun w h => hts w (List.mem_cons_of_mem _ h)
  have hown : s.vm.findClass "RangeCoders$Carries" = some m.cls := hown
  have hl : lv_has ls 2 [(0, Value.ref co)] := hl
  have hltw := rOk_lt hrw
  refine lv_iconst (v := 0) hx hb d_Carries_widen_0 (by decide) ?_
  refine lv_istore_n (lv' := [(1, Value.int 0), (0, Value.ref co)]) hx hb d_Carries_widen_1 rfl hl (by decide) rfl (fun ls hl => ?_)
  have J_2 : ∀ (n9_2 : Nat) (e9 : ES) (k9 : Nat) (rwa9 : Nat) (rwk9 : Nat) (rwf9 : Nat → Int32) (d9 : Nat) (hn9_2 : k9 = n9_2) (hE9 : wdS (Rg, L, ca, Pn, bs) = wdN k9 e9) (hk5 : 5 ≤ k9) (hk8 : k9 ≤ 8) (hR9 : wb8 k9 ≤ eR e9) (hR32 : eR e9 < 4294967296) (hO9 : eOk e9) (hM9 : (eB e9).length + eP e9 + k9 ≤ 7904) (hr9 : rOk (nI (eB e9).length) rwk9) (hg9 : gIs rwf9 (eB e9)) (hd9 : d9 + rPh rwk9 ≤ rPh rwk) (H : Heap) (locs : List Loc) (ls : Array Slot), va_P (dC, dI) vwCl [(co, Sum.inr (1, [Value.int (caI (eC e9)), Value.int (nI (eP e9)), Value.long (lN (eL e9)), Value.long (lN (eR e9)), Value.long xcode, Value.long xreadLow, Value.long xreadRange, Value.ref ri, Value.ref ro, Value.ref rw, Value.int xasked])), (rw, Sum.inr (0, [Value.int (nI (eB e9).length), Value.ref rwa9])), (rwa9, Sum.inl (cI, rwk9, Sum.inl rwf9))] H → va_D A [(co, Sum.inr (1, [Value.int (caI (eC e9)), Value.int (nI (eP e9)), Value.long (lN (eL e9)), Value.long (lN (eR e9)), Value.long xcode, Value.long xreadLow, Value.long xreadRange, Value.ref ri, Value.ref ro, Value.ref rw, Value.int xasked])), (rw, Sum.inr (0, [Value.int (nI (eB e9).length), Value.ref rwa9])), (rwa9, Sum.inl (cI, rwk9, Sum.inl rwf9))] → va_S A s.heap H locs → lv_has ls 2 [(1, Value.int (nI (8 - k9))), (0, Value.ref co)] → W p l e R s m args below meth c H locs d9 d9 Q (F0 m 2 ls []) := by
    intro n9_2
    induction n9_2 using Nat.strongRecOn with
    | ind n9_2 ih9_2 =>
      intro e9 k9 rwa9 rwk9 rwf9 d9 hn9_2 hE9 hk5 hk8 hR9 hR32 hO9 hM9 hr9 hg9 hd9 H locs ls hP hD hS hl
      refine lv_iload_n hx hb d_Carries_widen_2 rfl (lv_at hl 0 rfl) ?_
      refine lv_bipush (v := 8) hx hb d_Carries_widen_3 (by decide) ?_
      refine lv_icmp_ge (tgt := 44) hx hb d_Carries_widen_5 (by decide) (fun c_1 => ?_) (fun c_1 => ?_)
      · exact absurd (nI_ge' (n := 8) (by omega) (by decide) c_1) (by omega)
      · refine lv_aload_n hx hb d_Carries_widen_8 rfl (lv_at hl 1 rfl) ?_
        refine va_get (D := (dC, dI)) (ci := 1) (v := .long (lN (eR e9))) (C := "RangeCoders$Carries") (T := T_Carries) (N := 11) hx hb hg in_Carries hown hK hP 0 rfl rfl 3 (by decide) (hg _ k80) (fun x9 h9 => u_same (hg _ k81) x9 h9) rfl d_Carries_widen_9 ?_
        refine lv_ldc2 (v := 16777216) hx hb hown (hg _ k461) d_Carries_widen_12 ?_
        refine W.lcmp hx hb d_Carries_widen_15 ?_
        refine lv_if_ge (tgt := 44) hx hb d_Carries_widen_16 (by decide) (fun c_2 => ?_) (fun c_2 => ?_)
        · rw [lg_cmp_ge] at c_2
          have hge : ¬ eR e9 < 16777216 := by have q := (L_le (a := 16777216) (by decide) (by omega)).mp c_2; omega
          have z9 : e9 = wdS (Rg, L, ca, Pn, bs) := by rw [hE9, wdN_e hge]
          subst z9
          exact my_vretg hx hb hr hlocks hQ hK hS (rwa9, rwk9, rwf9) (show d9 + (rPh rwk9) ≤ (rPh rwk) by omega) (show d9 + (rPh rwk9) ≤ (rPh rwk) by omega) (⟨hr9, hg9⟩) (hP.sub [0, 1, 2] rfl) (hD.sub [0, 1, 2] (by decide +kernel) rfl) d_Carries_widen_44
        · rw [lg_cmp_ge] at c_2
          have hlt : eR e9 < 16777216 := by
            rcases Nat.lt_or_ge (eR e9) 16777216 with q | q
            · exact q
            · exact absurd ((L_le (a := 16777216) (by decide) (by omega)).mpr q) c_2
          have hk6 := wb8_k hk5 hR9 hlt
          refine lv_aload_n hx hb d_Carries_widen_19 rfl (lv_at hl 1 rfl) ?_
          refine lv_aload_n hx hb d_Carries_widen_20 rfl (lv_at hl 1 rfl) ?_
          refine va_get (D := (dC, dI)) (ci := 1) (v := .long (lN (eR e9))) (C := "RangeCoders$Carries") (T := T_Carries) (N := 11) hx hb hg in_Carries hown hK hP 0 rfl rfl 3 (by decide) (hg _ k80) (fun x9 h9 => u_same (hg _ k81) x9 h9) rfl d_Carries_widen_21 ?_
          refine lv_bipush (v := 8) hx hb d_Carries_widen_24 (by decide) ?_
          refine lv_lshl hx hb d_Carries_widen_26 rfl ?_
          refine lv_topl (fun v_3 ev_3 => ?_)
          refine lv_ldc2 (v := 4294967295) hx hb hown (hg _ k462) d_Carries_widen_27 ?_
          refine lv_land hx hb d_Carries_widen_30 ?_
          refine lv_topl (fun v_4 ev_4 => ?_)
          have z9 : v_4 = lN (eR e9 * 256) := by subst_vars; rw [L_shl8, L_and32 (by omega), Nat.mod_eq_of_lt (by omega)]
          subst z9
          refine va_put (D := (dC, dI)) (ci := 1) (v := .long (lN (eR e9 * 256))) (ty := .long) (C := "RangeCoders$Carries") (T := T_Carries) (N := 11) hx hb hg in_Carries t_Carries o_Carries n_Carries hown hK hP hD hS 0 rfl rfl 3 (by decide) (hg _ k80) (fun x9 h9 => u_same (hg _ k81) x9 h9) rfl (o_Carries 3 (by decide)) rfl rfl (Nat.le_of_ble_eq_true rfl) d_Carries_widen_31 (fun H locs hP hD hS => ?_)
          have hPD : my_PD (dC, dI) vwCl A [(co, Sum.inr (1, [Value.int (caI (eC e9)), Value.int (nI (eP e9)), Value.long (lN (eL e9)), Value.long (lN (eR e9 * 256)), Value.long xcode, Value.long xreadLow, Value.long xreadRange, Value.ref ri, Value.ref ro, Value.ref rw, Value.int xasked])), (rw, Sum.inr (0, [Value.int (nI (eB e9).length), Value.ref rwa9])), (rwa9, Sum.inl (cI, rwk9, Sum.inl rwf9))] H := ⟨hP, hD⟩
          have hP := hPD.1
          have hD := hPD.2
          refine lv_aload_n hx hb d_Carries_widen_34 rfl (lv_at hl 1 rfl) ?_
          refine my_cvg (wr := []) (va_runV (As := []) (rest := []) ⟨hx, hb, hml, hown, hts⟩ (f_Carries_shiftLow l dC dI cI cM cO H.size (hSl H) co (lN (eR e9 * 256)) xcode xreadLow xreadRange ri ro rw xasked (eL e9) (eC e9) (eP e9) rwa9 rwk9 rwf9 (eB e9) (hO9.1) (hO9.2) (hr9) (hg9) (by omega)) (cwV 0 hts (my_gV k463 k465 ks6 k5 k466) rfl rfl rfl cu_Carries_shiftLow_0 ⟨by rw [hR]; exact Nat.le_of_ble_eq_true rfl, by rw [hR]; exact Nat.le_of_ble_eq_true rfl⟩) (my_preVg hK hN (hP.sub [0, 1, 2] rfl) (hD.sub [0, 1, 2] (by decide +kernel) rfl) 0 rfl rfl) rfl rfl hl.1 rfl (lv_room (Nat.le_of_ble_eq_true rfl)) d_Carries_widen_35 ⟨by rw [hR]; exact (show d9 + (rPh rwk9) ≤ (rPh rwk) by omega), by rw [hR]; exact (show d9 + (rPh rwk9) ≤ (rPh rwk) by omega)⟩) hP hD hS hA [0, 1, 2] [] rfl rfl (by decide +kernel) (by decide +kernel) (fun u9 d_35 H locs hd_35 hw_35 hP hD hS => ?_)
          obtain ⟨rwaq_35, rwkq_35, rwfq_35⟩ := u9
          obtain ⟨hrw_35, hGrw_35⟩ : rOk (nI (shB (eL e9) (eC e9) (eP e9) (eB e9)).length) rwkq_35 ∧ gIs rwfq_35 (shB (eL e9) (eC e9) (eP e9) (eB e9)) := hw_35
          have hd_35 : d_35 + (rPh rwkq_35) ≤ (rPh rwk9) := hd_35
          have hPD : my_PD (dC, dI) vwCl A [(co, Sum.inr (1, [Value.int (caI (shC (eL e9) (eC e9))), Value.int (nI (shP (eL e9) (eP e9))), Value.long (lN (shL (eL e9))), Value.long (lN (eR e9 * 256)), Value.long xcode, Value.long xreadLow, Value.long xreadRange, Value.ref ri, Value.ref ro, Value.ref rw, Value.int xasked])), (rw, Sum.inr (0, [Value.int (nI (shB (eL e9) (eC e9) (eP e9) (eB e9)).length), Value.ref rwaq_35])), (rwaq_35, Sum.inl (cI, rwkq_35, Sum.inl rwfq_35))] H := ⟨hP, hD⟩
          have hP := hPD.1
          have hD := hPD.2
          obtain ⟨v_5, ev_5⟩ : ∃ y : Int32, y = (nI (8 - k9)) + (1) := ⟨_, rfl⟩
          refine lv_iinc (v := v_5) (lv' := [(1, Value.int v_5), (0, Value.ref co)]) hx hb d_Carries_widen_38 hl (k := 0) rfl (by rw [ev_5]; rfl) (by decide) rfl (fun ls hl => ?_)
          have z9 : v_5 = nI (8 - (k9 - 1)) := by rw [ev_5, show 8 - (k9 - 1) = 8 - k9 + 1 by omega]; exact nI_1 _
          subst z9
          refine lv_goto (tgt := 2) hx hb d_Carries_widen_41 (by decide) ?_
          exact ih9_2 _ (by first | omega | (omega)) (shS (eR e9 * 256, e9.2)) (k9 - 1) rwaq_35 rwkq_35 rwfq_35 (d9 + d_35) rfl (by rw [hE9, wdN_s (by omega) hlt]) (by omega) (by omega) (wb8_s hk6 hk8 hR9) (by show eR e9 * 256 < _; omega) (eOk_sh (e := (eR e9 * 256, e9.2)) hO9) (by have q := eN_sh (eR e9 * 256, e9.2); simp only [eN, eB, eP] at q hM9 ⊢; omega) (hrw_35) (hGrw_35) (by omega) H locs ls (hP.sub [0, 1, 2] rfl) (hD.sub [0, 1, 2] (by decide +kernel) rfl) hS (lv_sub hl [0, 1] rfl)
  exact J_2 _ (Rg, L, ca, Pn, bs) (8 : Nat) rwa rwk rwf (0 : Nat) rfl (rfl) (by decide) (by decide) (hR0) (hR1) (⟨hL, hc⟩) (by show bs.length + Pn + 8 ≤ _; omega) (hrw) (hGrw) (by omega) H locs ls (hP.sub [0, 1, 2] rfl) (hD.sub [0, 1, 2] (by decide +kernel) rfl) hS (lv_sub hl [0, 1] rfl)
set_option maxHeartbeats 2000000 in
set_option maxRecDepth 100000 in
theorem f_Carries_writePart (l : Launch) (dC : Nat → ClassId) (dI : Nat → Nat → Nat) (cI cM cO : ClassId) (sz : Nat) (sl : Nat) (co : Nat) (xcode : Int64) (xreadLow : Int64) (xreadRange : Int64) (ri : Nat) (ro : Nat) (rw : Nat) (xasked : Int32) (Rg : Nat) (L : Nat) (ca : Option Nat) (Pn : Nat) (rwa : Nat) (rwk : Nat) (rwf : Nat → Int32) (bs : List Nat) (cc : Nat) (ff : Nat) (tt : Nat) (ht0 : 0 < tt) (ht1 : tt < 2 ^ 31) (hcf : cc + ff ≤ tt) (hff : 0 < ff) (hRt : tt ≤ Rg) (hR1 : Rg < 4294967296) (hL : L + Rg ≤ 8589934592) (hc : ∀ x, ca = some x → x < 256) (hrw : rOk (nI bs.length) rwk) (hGrw : gIs rwf bs) (hN9 : bs.length + Pn + 4 ≤ 7900) : MetVg l y_Carries_writePart (Cond.code y_Carries_writePart prog_3_method_3_code 6 none :: gw) ({ frames := 6, cells := rPh rwk, slots := rPh rwk, locals := 146 } : Room) (dC, dI) vwCl (kT cI cM cO) [Value.ref co, Value.int (nI ff), Value.int (nI cc), Value.int (nI tt)] [(co, Sum.inr (1, [Value.int (caI ca), Value.int (nI Pn), Value.long (lN L), Value.long (lN Rg), Value.long xcode, Value.long xreadLow, Value.long xreadRange, Value.ref ri, Value.ref ro, Value.ref rw, Value.int xasked])), (rw, Sum.inr (0, [Value.int (nI bs.length), Value.ref rwa])), (rwa, Sum.inl (cI, rwk, Sum.inl rwf))] sz sl (fun (u : Nat × Nat × (Nat → Int32)) => rOk (nI (eB (wdS (Rg / tt * ff, L + Rg / tt * cc, ca, Pn, bs))).length) u.2.1 ∧ gIs u.2.2 (eB (wdS (Rg / tt * ff, L + Rg / tt * cc, ca, Pn, bs)))) (fun (u : Nat × Nat × (Nat → Int32)) => [(co, Sum.inr (1, [Value.int (caI (eC (wdS (Rg / tt * ff, L + Rg / tt * cc, ca, Pn, bs)))), Value.int (nI (eP (wdS (Rg / tt * ff, L + Rg / tt * cc, ca, Pn, bs)))), Value.long (lN (eL (wdS (Rg / tt * ff, L + Rg / tt * cc, ca, Pn, bs)))), Value.long (lN (eR (wdS (Rg / tt * ff, L + Rg / tt * cc, ca, Pn, bs)))), Value.long xcode, Value.long xreadLow, Value.long xreadRange, Value.ref ri, Value.ref ro, Value.ref rw, Value.int xasked])), (rw, Sum.inr (0, [Value.int (nI (eB (wdS (Rg / tt * ff, L + Rg / tt * cc, ca, Pn, bs))).length), Value.ref u.1])), (u.1, Sum.inl (cI, u.2.1, Sum.inl u.2.2))]) (rPh rwk) (fun (u : Nat × Nat × (Nat → Int32)) => rPh u.2.1) := by
  refine my_ofVg (cc := prog_3_method_3_code) (n := 6) (ret := none) (by decide) rfl (Nat.le_of_ble_eq_true rfl) ?_
  intro p e s m args below meth c R Q A ls H locs hx hb hr hts hown hlocks hml hnm hR hQ hA hl hP hK hN hD hS
  have hg : ∀ w ∈ gw, w.before args s = true := fun w h => hts w (List.mem_cons_of_mem _ h)
  have hown : s.vm.findClass "RangeCoders$Carries" = some m.cls := hown
  have hl : lv_has ls 6 [(0, Value.ref co), (1, Value.int (nI ff)), (2, Value.int (nI cc)), (3, Value.int (nI tt))] := hl
  have hltw := rOk_lt hrw
  have hd1 : Rg / tt * tt ≤ Rg := Nat.div_mul_le_self _ _
  have hd2 : Rg / tt * cc + Rg / tt * ff ≤ Rg / tt * tt := by rw [← Nat.mul_add]; exact Nat.mul_le_mul_left _ hcf
  have hd3 : 0 < Rg / tt := Nat.div_pos hRt ht0
  have hd4 : 0 < Rg / tt * ff := Nat.mul_pos hd3 hff
  have hd5 : Rg / tt ≤ Rg := Nat.div_le_self _ _
  generalize hrc : Rg / tt * cc = rc at hd2
  generalize hrf : Rg / tt * ff = rf at hd2 hd4
  refine lv_iload_n hx hb d_Carries_writePart_0 rfl (lv_at hl 3 rfl) ?_
  refine lv_if_le (tgt := 14) hx hb d_Carries_writePart_1 (by decide) (fun c_1 => ?_) (fun c_1 => ?_)
  · exact absurd c_1 (nI_nle ht0 (by omega))
  · refine lv_aload_n hx hb d_Carries_writePart_4 rfl (lv_at hl 0 rfl) ?_
    refine va_get (D := (dC, dI)) (ci := 1) (v := .long (lN Rg)) (C := "RangeCoders$Carries") (T := T_Carries) (N := 11) hx hb hg in_Carries hown hK hP 0 rfl rfl 3 (by decide) (hg _ k80) (fun x9 h9 => u_same (hg _ k81) x9 h9) rfl d_Carries_writePart_5 ?_
    refine lv_iload_n hx hb d_Carries_writePart_8 rfl (lv_at hl 3 rfl) ?_
    refine lv_i2l hx hb d_Carries_writePart_9 rfl ?_
    refine lv_topl (fun v_2 ev_2 => ?_)
    refine lv_ldiv hx hb d_Carries_writePart_10 (by rw [ev_2]; rw [nI_l (by omega)]; intro z; have := (pk_lEQ (b := 0) (by omega) (by decide)).mp z; omega) ?_
    refine lv_topl (fun v_3 ev_3 => ?_)
    refine lv_goto (tgt := 15) hx hb d_Carries_writePart_11 (by decide) ?_
    have z9 : v_3 = lN (Rg / tt) := by subst_vars; rw [nI_l (by omega)]; exact pk_lDiv (by omega) ht0 (by omega)
    subst z9
    refine lv_lstore (lv' := [(4, Value.long (lN (Rg / tt))), (0, Value.ref co), (1, Value.int (nI ff)), (2, Value.int (nI cc)), (3, Value.int (nI tt))]) hx hb d_Carries_writePart_15 hl (by decide) rfl (fun ls hl => ?_)
    refine lv_aload_n hx hb d_Carries_writePart_17 rfl (lv_at hl 1 rfl) ?_
    refine lv_dup hx hb d_Carries_writePart_18 rfl ?_
    refine va_get (D := (dC, dI)) (ci := 1) (v := .long (lN L)) (C := "RangeCoders$Carries") (T := T_Carries) (N := 11) hx hb hg in_Carries hown hK hP 0 rfl rfl 2 (by decide) (hg _ k72) (fun x9 h9 => u_same (hg _ k73) x9 h9) rfl d_Carries_writePart_19 ?_
    refine lv_lload hx hb d_Carries_writePart_22 (lv_at hl 0 rfl) ?_
    refine lv_iload_n hx hb d_Carries_writePart_24 rfl (lv_at hl 3 rfl) ?_
    refine lv_i2l hx hb d_Carries_writePart_25 rfl ?_
    refine lv_topl (fun v_4 ev_4 => ?_)
    refine lv_lmul hx hb d_Carries_writePart_26 ?_
    refine lv_topl (fun v_5 ev_5 => ?_)
    refine lv_ladd hx hb d_Carries_writePart_27 ?_
    refine lv_topl (fun v_6 ev_6 => ?_)
    have z9 : v_6 = lN (L + rc) := by subst_vars; rw [nI_l (by omega), lN_mul, lN_add]
    subst z9
    refine va_put (D := (dC, dI)) (ci := 1) (v := .long (lN (L + rc))) (ty := .long) (C := "RangeCoders$Carries") (T := T_Carries) (N := 11) hx hb hg in_Carries t_Carries o_Carries n_Carries hown hK hP hD hS 0 rfl rfl 2 (by decide) (hg _ k72) (fun x9 h9 => u_same (hg _ k73) x9 h9) rfl (o_Carries 2 (by decide)) rfl rfl (Nat.le_of_ble_eq_true rfl) d_Carries_writePart_28 (fun H locs hP hD hS => ?_)
    have hPD : my_PD (dC, dI) vwCl A [(co, Sum.inr (1, [Value.int (caI ca), Value.int (nI Pn), Value.long (lN (L + rc)), Value.long (lN Rg), Value.long xcode, Value.long xreadLow, Value.long xreadRange, Value.ref ri, Value.ref ro, Value.ref rw, Value.int xasked])), (rw, Sum.inr (0, [Value.int (nI bs.length), Value.ref rwa])), (rwa, Sum.inl (cI, rwk, Sum.inl rwf))] H := ⟨hP, hD⟩
    have hP := hPD.1
    have hD := hPD.2
    refine lv_aload_n hx hb d_Carries_writePart_31 rfl (lv_at hl 1 rfl) ?_
    refine lv_lload hx hb d_Carries_writePart_32 (lv_at hl 0 rfl) ?_
    refine lv_iload_n hx hb d_Carries_writePart_34 rfl (lv_at hl 2 rfl) ?_
    refine lv_i2l hx hb d_Carries_writePart_35 rfl ?_
    refine lv_topl (fun v_7 ev_7 => ?_)
    refine lv_lmul hx hb d_Carries_writePart_36 ?_
    refine lv_topl (fun v_8 ev_8 => ?_)
    have z9 : v_8 = lN rf := by subst_vars; rw [nI_l (by omega), lN_mul]
    subst z9
    refine va_put (D := (dC, dI)) (ci := 1) (v := .long (lN rf)) (ty := .long) (C := "RangeCoders$Carries") (T := T_Carries) (N := 11) hx hb hg in_Carries t_Carries o_Carries n_Carries hown hK hP hD hS 0 rfl rfl 3 (by decide) (hg _ k80) (fun x9 h9 => u_same (hg _ k81) x9 h9) rfl (o_Carries 3 (by decide)) rfl rfl (Nat.le_of_ble_eq_true rfl) d_Carries_writePart_37 (fun H locs hP hD hS => ?_)
    have hPD : my_PD (dC, dI) vwCl A [(co, Sum.inr (1, [Value.int (caI ca), Value.int (nI Pn), Value.long (lN (L + rc)), Value.long (lN rf), Value.long xcode, Value.long xreadLow, Value.long xreadRange, Value.ref ri, Value.ref ro, Value.ref rw, Value.int xasked])), (rw, Sum.inr (0, [Value.int (nI bs.length), Value.ref rwa])), (rwa, Sum.inl (cI, rwk, Sum.inl rwf))] H := ⟨hP, hD⟩
    have hP := hPD.1
    have hD := hPD.2
    refine lv_aload_n hx hb d_Carries_writePart_40 rfl (lv_at hl 1 rfl) ?_
    refine my_cvg (wr := []) (va_runV (As := []) (rest := []) ⟨hx, hb, hml, hown, hts⟩ (f_Carries_widen l dC dI cI cM cO H.size (hSl H) co xcode xreadLow xreadRange ri ro rw xasked rf (L + rc) ca Pn rwa rwk rwf bs (hd4) (by omega) (by omega) (by first | assumption | omega) (by first | assumption | omega) (by first | assumption | omega) (hN9)) (cwV 0 hts (my_gV k504 k459 k1285 k5 k460) rfl rfl rfl cu_Carries_widen_0 ⟨by rw [hR]; exact Nat.le_of_ble_eq_true rfl, by rw [hR]; exact Nat.le_of_ble_eq_true rfl⟩) (my_preVg hK hN (hP.sub [0, 1, 2] rfl) (hD.sub [0, 1, 2] (by decide +kernel) rfl) 0 rfl rfl) rfl rfl hl.1 rfl (lv_room (Nat.le_of_ble_eq_true rfl)) d_Carries_writePart_41 ⟨by rw [hR]; exact (show 0 + (rPh rwk) ≤ (rPh rwk) by omega), by rw [hR]; exact (show 0 + (rPh rwk) ≤ (rPh rwk) by omega)⟩) hP hD hS hA [0, 1, 2] [] rfl rfl (by decide +kernel) (by decide +kernel) (fun u9 d_41 H locs hd_41 hw_41 hP hD hS => ?_)
    obtain ⟨rwaq_41, rwkq_41, rwfq_41⟩ := u9
    obtain ⟨hrw_41, hGrw_41⟩ : rOk (nI (eB (wdS (rf, (L + rc), ca, Pn, bs))).length) rwkq_41 ∧ gIs rwfq_41 (eB (wdS (rf, (L + rc), ca, Pn, bs))) := hw_41
    have hd_41 : d_41 + (rPh rwkq_41) ≤ (rPh rwk) := hd_41
    have hPD : my_PD (dC, dI) vwCl A [(co, Sum.inr (1, [Value.int (caI (eC (wdS (rf, (L + rc), ca, Pn, bs)))), Value.int (nI (eP (wdS (rf, (L + rc), ca, Pn, bs)))), Value.long (lN (eL (wdS (rf, (L + rc), ca, Pn, bs)))), Value.long (lN (eR (wdS (rf, (L + rc), ca, Pn, bs)))), Value.long xcode, Value.long xreadLow, Value.long xreadRange, Value.ref ri, Value.ref ro, Value.ref rw, Value.int xasked])), (rw, Sum.inr (0, [Value.int (nI (eB (wdS (rf, (L + rc), ca, Pn, bs))).length), Value.ref rwaq_41])), (rwaq_41, Sum.inl (cI, rwkq_41, Sum.inl rwfq_41))] H := ⟨hP, hD⟩
    have hP := hPD.1
    have hD := hPD.2
    subst hrc
    subst hrf
    have hPD : my_PD (dC, dI) vwCl A [(co, Sum.inr (1, [Value.int (caI (eC (wdS ((Rg / tt * ff), (L + (Rg / tt * cc)), ca, Pn, bs)))), Value.int (nI (eP (wdS ((Rg / tt * ff), (L + (Rg / tt * cc)), ca, Pn, bs)))), Value.long (lN (eL (wdS ((Rg / tt * ff), (L + (Rg / tt * cc)), ca, Pn, bs)))), Value.long (lN (eR (wdS ((Rg / tt * ff), (L + (Rg / tt * cc)), ca, Pn, bs)))), Value.long xcode, Value.long xreadLow, Value.long xreadRange, Value.ref ri, Value.ref ro, Value.ref rw, Value.int xasked])), (rw, Sum.inr (0, [Value.int (nI (eB (wdS ((Rg / tt * ff), (L + (Rg / tt * cc)), ca, Pn, bs))).length), Value.ref rwaq_41])), (rwaq_41, Sum.inl (cI, rwkq_41, Sum.inl rwfq_41))] H := ⟨hP, hD⟩
    have hP := hPD.1
    have hD := hPD.2
    exact my_vretg hx hb hr hlocks hQ hK hS (rwaq_41, rwkq_41, rwfq_41) (show (0 + d_41) + (rPh rwkq_41) ≤ (rPh rwk) by omega) (show (0 + d_41) + (rPh rwkq_41) ≤ (rPh rwk) by omega) (⟨by subst_vars; exact hrw_41, by subst_vars; exact hGrw_41⟩) (hP.sub [0, 1, 2] rfl) (hD.sub [0, 1, 2] (by decide +kernel) rfl) d_Carries_writePart_44
set_option maxHeartbeats 2000000 in
set_option maxRecDepth 100000 in
theorem f_Carries_writeValue (l : Launch) (dC : Nat → ClassId) (dI : Nat → Nat → Nat) (cI cM cO : ClassId) (sz : Nat) (sl : Nat) (co : Nat) (xcode : Int64) (xreadLow : Int64) (xreadRange : Int64) (ri : Nat) (ro : Nat) (rw : Nat) (xasked : Int32) (Rg : Nat) (L : Nat) (ca : Option Nat) (Pn : Nat) (rwa : Nat) (rwk : Nat) (rwf : Nat → Int32) (bs : List Nat) (v : Nat) (b : Nat) (hb1 : 1 ≤ b) (hb2 : b ≤ 12) (hv : v < 2 ^ b) (hE : eInv (Rg, L, ca, Pn, bs)) (hrw : rOk (nI bs.length) rwk) (hGrw : gIs rwf bs) (hN9 : bs.length + Pn + 20 ≤ 7900) : MetVg l y_Ranged_writeValue (Cond.code y_Ranged_writeValue prog_8_method_8_code 3 none :: gw) ({ frames := 7, cells := rPh rwk, slots := rPh rwk, locals := 171 } : Room) (dC, dI) vwCl (kT cI cM cO) [Value.ref co, Value.int (nI v), Value.int (nI b)] [(co, Sum.inr (1, [Value.int (caI ca), Value.int (nI Pn), Value.long (lN L), Value.long (lN Rg), Value.long xcode, Value.long xreadLow, Value.long xreadRange, Value.ref ri, Value.ref ro, Value.ref rw, Value.int xasked])), (rw, Sum.inr (0, [Value.int (nI bs.length), Value.ref rwa])), (rwa, Sum.inl (cI, rwk, Sum.inl rwf))] sz sl (fun (u : Nat × Nat × (Nat → Int32)) => rOk (nI (eB (wdS (Rg / 2 ^ b * 1, L + Rg / 2 ^ b * v, ca, Pn, bs))).length) u.2.1 ∧ gIs u.2.2 (eB (wdS (Rg / 2 ^ b * 1, L + Rg / 2 ^ b * v, ca, Pn, bs)))) (fun (u : Nat × Nat × (Nat → Int32)) => [(co, Sum.inr (1, [Value.int (caI (eC (wdS (Rg / 2 ^ b * 1, L + Rg / 2 ^ b * v, ca, Pn, bs)))), Value.int (nI (eP (wdS (Rg / 2 ^ b * 1, L + Rg / 2 ^ b * v, ca, Pn, bs)))), Value.long (lN (eL (wdS (Rg / 2 ^ b * 1, L + Rg / 2 ^ b * v, ca, Pn, bs)))), Value.long (lN (eR (wdS (Rg / 2 ^ b * 1, L + Rg / 2 ^ b * v, ca, Pn, bs)))), Value.long xcode, Value.long xreadLow, Value.long xreadRange, Value.ref ri, Value.ref ro, Value.ref rw, Value.int xasked])), (rw, Sum.inr (0, [Value.int (nI (eB (wdS (Rg / 2 ^ b * 1, L + Rg / 2 ^ b * v, ca, Pn, bs))).length), Value.ref u.1])), (u.1, Sum.inl (cI, u.2.1, Sum.inl u.2.2))]) (rPh rwk) (fun (u : Nat × Nat × (Nat → Int32)) => rPh u.2.1) := by
  refine my_ofVg (cc := prog_8_method_8_code) (n := 3) (ret := none) (by decide) rfl (Nat.le_of_ble_eq_true rfl) ?_
  intro p e s m args below meth c R Q A ls H locs hx hb hr hts hown hlocks hml hnm hR hQ hA hl hP hK hN hD hS
  have hg : ∀ w ∈ gw, w.before args s = true := fun w h => hts w (List.mem_cons_of_mem _ h)
  have hown : s.vm.findClass "RangeCoders$Ranged" = some m.cls := hown
  have hl : lv_has ls 3 [(0, Value.ref co), (1, Value.int (nI v)), (2, Value.int (nI b))] := hl
  have hltw := rOk_lt hrw
  obtain ⟨hI1, hI2, hI3, hI4⟩ := id hE
  simp only [eR, eL, eC] at hI1 hI2 hI3 hI4
  have hpw : 2 ^ b ≤ 2 ^ 12 := Nat.pow_le_pow_right (by decide) hb2
  have hpw0 : 0 < 2 ^ b := Nat.pow_pos (by decide)
  refine lv_aload_n hx hb d_Ranged_writeValue_0 rfl (lv_at hl 0 rfl) ?_
  refine lv_iconst (v := 1) hx hb d_Ranged_writeValue_1 (by decide) ?_
  refine lv_iload_n hx hb d_Ranged_writeValue_2 rfl (lv_at hl 1 rfl) ?_
  refine lv_iconst (v := 1) hx hb d_Ranged_writeValue_3 (by decide) ?_
  refine lv_iload_n hx hb d_Ranged_writeValue_4 rfl (lv_at hl 2 rfl) ?_
  refine lv_ishl hx hb d_Ranged_writeValue_5 ?_
  refine lv_topi (fun v_1 ev_1 => ?_)
  have z9 : v_1 = nI (2 ^ b) := by rw [ev_1]; exact shl1 b (by omega)
  subst z9
  refine W.eq (g2 := F0 m 6 ls [Value.int (nI (2 ^ b)), Value.int (nI v), Value.int (nI 1), Value.ref co]) rfl ?_
  refine my_cvg (wr := []) (va_runU (As := [Value.int (nI 1), Value.int (nI v), Value.int (nI (2 ^ b))]) (rest := []) ⟨hx, hb, hml, hown, hts⟩ (f_Carries_writePart l dC dI cI cM cO H.size (hSl H) co xcode xreadLow xreadRange ri ro rw xasked Rg L ca Pn rwa rwk rwf bs v 1 (2 ^ b) (hpw0) (by omega) (hv) (by decide) (by omega) (hI2) (hI3) (hI4) (by first | assumption | omega) (by first | assumption | omega) (by omega)) (va_cwA 3 hts (my_gU k498 k500 k505 k502 k5 k503) rfl rfl rfl (hN.1 _ j499 rfl) (by decide +kernel) ⟨by rw [hR]; exact Nat.le_of_ble_eq_true rfl, by rw [hR]; exact Nat.le_of_ble_eq_true rfl⟩) (my_preVg hK hN (hP.sub [0, 1, 2] rfl) (hD.sub [0, 1, 2] (by decide +kernel) rfl) 0 rfl rfl) rfl rfl hl.1 rfl (lv_room (Nat.le_of_ble_eq_true rfl)) d_Ranged_writeValue_6 ⟨by rw [hR]; exact (show 0 + (rPh rwk) ≤ (rPh rwk) by omega), by rw [hR]; exact (show 0 + (rPh rwk) ≤ (rPh rwk) by omega)⟩) hP hD hS hA [0, 1, 2] [] rfl rfl (by decide +kernel) (by decide +kernel) (fun u9 d_6 H locs hd_6 hw_6 hP hD hS => ?_)
  obtain ⟨rwaq_6, rwkq_6, rwfq_6⟩ := u9
  obtain ⟨hrw_6, hGrw_6⟩ : rOk (nI (eB (wdS (Rg / (2 ^ b) * 1, L + Rg / (2 ^ b) * v, ca, Pn, bs))).length) rwkq_6 ∧ gIs rwfq_6 (eB (wdS (Rg / (2 ^ b) * 1, L + Rg / (2 ^ b) * v, ca, Pn, bs))) := hw_6
  have hd_6 : d_6 + (rPh rwkq_6) ≤ (rPh rwk) := hd_6
  have hPD : my_PD (dC, dI) vwCl A [(co, Sum.inr (1, [Value.int (caI (eC (wdS (Rg / (2 ^ b) * 1, L + Rg / (2 ^ b) * v, ca, Pn, bs)))), Value.int (nI (eP (wdS (Rg / (2 ^ b) * 1, L + Rg / (2 ^ b) * v, ca, Pn, bs)))), Value.long (lN (eL (wdS (Rg / (2 ^ b) * 1, L + Rg / (2 ^ b) * v, ca, Pn, bs)))), Value.long (lN (eR (wdS (Rg / (2 ^ b) * 1, L + Rg / (2 ^ b) * v, ca, Pn, bs)))), Value.long xcode, Value.long xreadLow, Value.long xreadRange, Value.ref ri, Value.ref ro, Value.ref rw, Value.int xasked])), (rw, Sum.inr (0, [Value.int (nI (eB (wdS (Rg / (2 ^ b) * 1, L + Rg / (2 ^ b) * v, ca, Pn, bs))).length), Value.ref rwaq_6])), (rwaq_6, Sum.inl (cI, rwkq_6, Sum.inl rwfq_6))] H := ⟨hP, hD⟩
  have hP := hPD.1
  have hD := hPD.2
  exact my_vretg hx hb hr hlocks hQ hK hS (rwaq_6, rwkq_6, rwfq_6) (show (0 + d_6) + (rPh rwkq_6) ≤ (rPh rwk) by omega) (show (0 + d_6) + (rPh rwkq_6) ≤ (rPh rwk) by omega) (⟨hrw_6, hGrw_6⟩) (hP.sub [0, 1, 2] rfl) (hD.sub [0, 1, 2] (by decide +kernel) rfl) d_Ranged_writeValue_9
set_option maxHeartbeats 2000000 in
set_option maxRecDepth 100000 in
theorem f_Carries_writeSign (l : Launch) (dC : Nat → ClassId) (dI : Nat → Nat → Nat) (cI cM cO : ClassId) (sz : Nat) (sl : Nat) (co : Nat) (xcode : Int64) (xreadLow : Int64) (xreadRange : Int64) (ri : Nat) (ro : Nat) (rw : Nat) (xasked : Int32) (Rg : Nat) (L : Nat) (ca : Option Nat) (Pn : Nat) (rwa : Nat) (rwk : Nat) (rwf : Nat → Int32) (bs : List Nat) (oo : Nat) (osg : Int32) (ofc : Int32) (oca : Nat) (opa : Nat) (n : Nat) (ocf : Nat → Int32) (opl : Nat) (opf : Nat → Int32) (F : Nat → Nat) (t : Nat) (hn : n ≤ 64) (hpl : opl ≤ 512) (hf : tbI ocf n F) (ht : t < n) (hfc : ofc ≤ nI t) (hFt : 0 < F t) (hsum : ns F n ≤ 8192) (hE : eInv (Rg, L, ca, Pn, bs)) (hrw : rOk (nI bs.length) rwk) (hGrw : gIs rwf bs) (hN9 : bs.length + Pn + 20 ≤ 7900) : MetVg l y_Ranged_writeSign (Cond.code y_Ranged_writeSign prog_8_method_7_code 3 none :: gw) ({ frames := 7, cells := rPh rwk, slots := rPh rwk, locals := 171 } : Room) (dC, dI) vwCl (kT cI cM cO) [Value.ref co, Value.ref oo, Value.int (nI t)] [(co, Sum.inr (1, [Value.int (caI ca), Value.int (nI Pn), Value.long (lN L), Value.long (lN Rg), Value.long xcode, Value.long xreadLow, Value.long xreadRange, Value.ref ri, Value.ref ro, Value.ref rw, Value.int xasked])), (rw, Sum.inr (0, [Value.int (nI bs.length), Value.ref rwa])), (rwa, Sum.inl (cI, rwk, Sum.inl rwf)), (oo, Sum.inr (7, [Value.int osg, Value.int (nI (ns F n)), Value.int ofc, Value.ref oca, Value.ref opa])), (oca, Sum.inl (cI, n, Sum.inl ocf)), (opa, Sum.inl (cI, opl, Sum.inl opf))] sz sl (fun (u : Nat × Nat × (Nat → Int32) × (Nat → Int32)) => rOk (nI (eB (wdS (Rg / ns F n * F t, L + Rg / ns F n * ns F t, ca, Pn, bs))).length) u.2.1 ∧ gIs u.2.2.1 (eB (wdS (Rg / ns F n * F t, L + Rg / ns F n * ns F t, ca, Pn, bs))) ∧ tbI u.2.2.2 n (lrn n t F)) (fun (u : Nat × Nat × (Nat → Int32) × (Nat → Int32)) => [(co, Sum.inr (1, [Value.int (caI (eC (wdS (Rg / ns F n * F t, L + Rg / ns F n * ns F t, ca, Pn, bs)))), Value.int (nI (eP (wdS (Rg / ns F n * F t, L + Rg / ns F n * ns F t, ca, Pn, bs)))), Value.long (lN (eL (wdS (Rg / ns F n * F t, L + Rg / ns F n * ns F t, ca, Pn, bs)))), Value.long (lN (eR (wdS (Rg / ns F n * F t, L + Rg / ns F n * ns F t, ca, Pn, bs)))), Value.long xcode, Value.long xreadLow, Value.long xreadRange, Value.ref ri, Value.ref ro, Value.ref rw, Value.int xasked])), (rw, Sum.inr (0, [Value.int (nI (eB (wdS (Rg / ns F n * F t, L + Rg / ns F n * ns F t, ca, Pn, bs))).length), Value.ref u.1])), (u.1, Sum.inl (cI, u.2.1, Sum.inl u.2.2.1)), (oo, Sum.inr (7, [Value.int osg, Value.int (nI (ns (lrn n t F) n)), Value.int ofc, Value.ref oca, Value.ref opa])), (oca, Sum.inl (cI, n, Sum.inl u.2.2.2)), (opa, Sum.inl (cI, opl, Sum.inl opf))]) (rPh rwk) (fun (u : Nat × Nat × (Nat → Int32) × (Nat → Int32)) => rPh u.2.1) := by
  refine my_ofVg (cc := prog_8_method_7_code) (n := 3) (ret := none) (by decide) rfl (Nat.le_of_ble_eq_true rfl) ?_
  intro p e s m args below meth c R Q A ls H locs hx hb hr hts hown hlocks hml hnm hR hQ hA hl hP hK hN hD hS
  have hg : ∀ w ∈ gw, w.before args s = true := fun w h => hts w (List.mem_cons_of_mem _ h)
  have hown : s.vm.findClass "RangeCoders$Ranged" = some m.cls := hown
  have hl : lv_has ls 3 [(0, Value.ref co), (1, Value.ref oo), (2, Value.int (nI t))] := hl
  have hltw := rOk_lt hrw
  obtain ⟨hI1, hI2, hI3, hI4⟩ := id hE
  simp only [eR, eL, eC] at hI1 hI2 hI3 hI4
  have hm1 := ns_m1 F ht
  have hbd : bd F n 100000 := fun k hk => by have := ns_ge (F := F) hk; omega
  refine lv_aload_n hx hb d_Ranged_writeSign_0 rfl (lv_at hl 0 rfl) ?_
  refine lv_aload_n hx hb d_Ranged_writeSign_1 rfl (lv_at hl 1 rfl) ?_
  refine lv_iload_n hx hb d_Ranged_writeSign_2 rfl (lv_at hl 2 rfl) ?_
  refine my_ci (wr := [(co, Sum.inr (1, [Value.int (caI ca), Value.int (nI Pn), Value.long (lN L), Value.long (lN Rg), Value.long xcode, Value.long xreadLow, Value.long xreadRange, Value.ref ri, Value.ref ro, Value.ref rw, Value.int xasked])), (rw, Sum.inr (0, [Value.int (nI bs.length), Value.ref rwa])), (rwa, Sum.inl (cI, rwk, Sum.inl rwf))]) (va_runV (As := [Value.int (nI t)]) (rest := [Value.ref co]) ⟨hx, hb, hml, hown, hts⟩ (f_Odds_at l dC dI cI cM cO H.size oo osg ofc oca opa n ocf opl opf (nI (ns F n)) t (by first | assumption | omega) (by first | assumption | omega) (by first | assumption | omega) (by first | assumption | omega)) (cwV 1 hts (my_gV k493 k436 k437 k14 k438) rfl rfl rfl cu_Odds_at_1 ⟨by rw [hR]; exact Nat.le_of_ble_eq_true rfl, by rw [hR]; exact Nat.le_of_ble_eq_true rfl⟩) (my_preV hK hN (hP.sub [3, 4, 5] rfl) (hD.sub [3, 4, 5] (by decide +kernel) rfl) 0 rfl rfl) rfl rfl hl.1 rfl (lv_room (Nat.le_of_ble_eq_true rfl)) d_Ranged_writeSign_3 ⟨by rw [hR]; exact (show 0 + 0 ≤ (rPh rwk) by omega), by rw [hR]; exact (show 0 + 0 ≤ (rPh rwk) by omega)⟩) hP hD hS hA [3, 4, 5] [0, 1, 2] rfl rfl (by decide +kernel) (by decide +kernel) (fun r_3 u9 H locs hw_3 hP hD hS => ?_)
  have hr_3 : r_3 = ocf t := hw_3
  have hPD : my_PD (dC, dI) vwCl A [(co, Sum.inr (1, [Value.int (caI ca), Value.int (nI Pn), Value.long (lN L), Value.long (lN Rg), Value.long xcode, Value.long xreadLow, Value.long xreadRange, Value.ref ri, Value.ref ro, Value.ref rw, Value.int xasked])), (rw, Sum.inr (0, [Value.int (nI bs.length), Value.ref rwa])), (rwa, Sum.inl (cI, rwk, Sum.inl rwf)), (oo, Sum.inr (7, [Value.int osg, Value.int (nI (ns F n)), Value.int ofc, Value.ref oca, Value.ref opa])), (oca, Sum.inl (cI, n, Sum.inl ocf)), (opa, Sum.inl (cI, opl, Sum.inl opf))] H := ⟨hP, hD⟩
  have hP := hPD.1
  have hD := hPD.2
  rw [hf t ht] at hr_3
  have z9 : r_3 = nI (F t) := hr_3
  subst z9
  refine lv_aload_n hx hb d_Ranged_writeSign_6 rfl (lv_at hl 1 rfl) ?_
  refine lv_iload_n hx hb d_Ranged_writeSign_7 rfl (lv_at hl 2 rfl) ?_
  refine my_ci (wr := [(co, Sum.inr (1, [Value.int (caI ca), Value.int (nI Pn), Value.long (lN L), Value.long (lN Rg), Value.long xcode, Value.long xreadLow, Value.long xreadRange, Value.ref ri, Value.ref ro, Value.ref rw, Value.int xasked])), (rw, Sum.inr (0, [Value.int (nI bs.length), Value.ref rwa])), (rwa, Sum.inl (cI, rwk, Sum.inl rwf))]) (va_runV (As := [Value.int (nI t)]) (rest := [Value.int (nI (F t)), Value.ref co]) ⟨hx, hb, hml, hown, hts⟩ (f_Odds_below l dC dI cI cM cO H.size oo osg ofc oca opa n ocf opl opf F (nI (ns F n)) t (by first | assumption | omega) (by first | assumption | omega) (by first | assumption | omega) (by omega)) (cwV 1 hts (my_gV k494 k495 k496 k14 k497) rfl rfl rfl cu_Odds_below_1 ⟨by rw [hR]; exact Nat.le_of_ble_eq_true rfl, by rw [hR]; exact Nat.le_of_ble_eq_true rfl⟩) (my_preV hK hN (hP.sub [3, 4, 5] rfl) (hD.sub [3, 4, 5] (by decide +kernel) rfl) 0 rfl rfl) rfl rfl hl.1 rfl (lv_room (Nat.le_of_ble_eq_true rfl)) d_Ranged_writeSign_8 ⟨by rw [hR]; exact (show 0 + 0 ≤ (rPh rwk) by omega), by rw [hR]; exact (show 0 + 0 ≤ (rPh rwk) by omega)⟩) hP hD hS hA [3, 4, 5] [0, 1, 2] rfl rfl (by decide +kernel) (by decide +kernel) (fun r_8 u9 H locs hw_8 hP hD hS => ?_)
  have hr_8 : r_8 = nI (ns F t) := hw_8
  have hPD : my_PD (dC, dI) vwCl A [(co, Sum.inr (1, [Value.int (caI ca), Value.int (nI Pn), Value.long (lN L), Value.long (lN Rg), Value.long xcode, Value.long xreadLow, Value.long xreadRange, Value.ref ri, Value.ref ro, Value.ref rw, Value.int xasked])), (rw, Sum.inr (0, [Value.int (nI bs.length), Value.ref rwa])), (rwa, Sum.inl (cI, rwk, Sum.inl rwf)), (oo, Sum.inr (7, [Value.int osg, Value.int (nI (ns F n)), Value.int ofc, Value.ref oca, Value.ref opa])), (oca, Sum.inl (cI, n, Sum.inl ocf)), (opa, Sum.inl (cI, opl, Sum.inl opf))] H := ⟨hP, hD⟩
  have hP := hPD.1
  have hD := hPD.2
  have z9 : r_8 = nI (ns F t) := hr_8
  subst z9
  refine lv_aload_n hx hb d_Ranged_writeSign_11 rfl (lv_at hl 1 rfl) ?_
  refine va_get (D := (dC, dI)) (ci := 7) (v := .int (nI (ns F n))) (C := "RangeCoders$Odds") (T := T_Odds) (N := 5) hx hb hg in_Odds hown hK hP 3 rfl rfl 1 (by decide) (hg _ k306) (fun _ h9 => h9) rfl d_Ranged_writeSign_12 ?_
  refine my_cvg (wr := [(oo, Sum.inr (7, [Value.int osg, Value.int (nI (ns F n)), Value.int ofc, Value.ref oca, Value.ref opa])), (oca, Sum.inl (cI, n, Sum.inl ocf)), (opa, Sum.inl (cI, opl, Sum.inl opf))]) (va_runU (As := [Value.int (nI (F t)), Value.int (nI (ns F t)), Value.int (nI (ns F n))]) (rest := []) ⟨hx, hb, hml, hown, hts⟩ (f_Carries_writePart l dC dI cI cM cO H.size (hSl H) co xcode xreadLow xreadRange ri ro rw xasked Rg L ca Pn rwa rwk rwf bs (ns F t) (F t) (ns F n) (by omega) (by omega) (hm1) (hFt) (by omega) (hI2) (hI3) (hI4) (by first | assumption | omega) (by first | assumption | omega) (by omega)) (va_cwA 3 hts (my_gU k498 k500 k505 k502 k5 k503) rfl rfl rfl (hN.1 _ j499 rfl) (by decide +kernel) ⟨by rw [hR]; exact Nat.le_of_ble_eq_true rfl, by rw [hR]; exact Nat.le_of_ble_eq_true rfl⟩) (my_preVg hK hN (hP.sub [0, 1, 2] rfl) (hD.sub [0, 1, 2] (by decide +kernel) rfl) 0 rfl rfl) rfl rfl hl.1 rfl (lv_room (Nat.le_of_ble_eq_true rfl)) d_Ranged_writeSign_15 ⟨by rw [hR]; exact (show 0 + (rPh rwk) ≤ (rPh rwk) by omega), by rw [hR]; exact (show 0 + (rPh rwk) ≤ (rPh rwk) by omega)⟩) hP hD hS hA [0, 1, 2] [3, 4, 5] rfl rfl (by decide +kernel) (by decide +kernel) (fun u9 d_15 H locs hd_15 hw_15 hP hD hS => ?_)
  obtain ⟨rwaq_15, rwkq_15, rwfq_15⟩ := u9
  obtain ⟨hrw_15, hGrw_15⟩ : rOk (nI (eB (wdS (Rg / (ns F n) * (F t), L + Rg / (ns F n) * (ns F t), ca, Pn, bs))).length) rwkq_15 ∧ gIs rwfq_15 (eB (wdS (Rg / (ns F n) * (F t), L + Rg / (ns F n) * (ns F t), ca, Pn, bs))) := hw_15
  have hd_15 : d_15 + (rPh rwkq_15) ≤ (rPh rwk) := hd_15
  have hPD : my_PD (dC, dI) vwCl A [(oo, Sum.inr (7, [Value.int osg, Value.int (nI (ns F n)), Value.int ofc, Value.ref oca, Value.ref opa])), (oca, Sum.inl (cI, n, Sum.inl ocf)), (opa, Sum.inl (cI, opl, Sum.inl opf)), (co, Sum.inr (1, [Value.int (caI (eC (wdS (Rg / (ns F n) * (F t), L + Rg / (ns F n) * (ns F t), ca, Pn, bs)))), Value.int (nI (eP (wdS (Rg / (ns F n) * (F t), L + Rg / (ns F n) * (ns F t), ca, Pn, bs)))), Value.long (lN (eL (wdS (Rg / (ns F n) * (F t), L + Rg / (ns F n) * (ns F t), ca, Pn, bs)))), Value.long (lN (eR (wdS (Rg / (ns F n) * (F t), L + Rg / (ns F n) * (ns F t), ca, Pn, bs)))), Value.long xcode, Value.long xreadLow, Value.long xreadRange, Value.ref ri, Value.ref ro, Value.ref rw, Value.int xasked])), (rw, Sum.inr (0, [Value.int (nI (eB (wdS (Rg / (ns F n) * (F t), L + Rg / (ns F n) * (ns F t), ca, Pn, bs))).length), Value.ref rwaq_15])), (rwaq_15, Sum.inl (cI, rwkq_15, Sum.inl rwfq_15))] H := ⟨hP, hD⟩
  have hP := hPD.1
  have hD := hPD.2
  refine lv_aload_n hx hb d_Ranged_writeSign_18 rfl (lv_at hl 1 rfl) ?_
  refine lv_iload_n hx hb d_Ranged_writeSign_19 rfl (lv_at hl 2 rfl) ?_
  refine my_cv (wr := [(co, Sum.inr (1, [Value.int (caI (eC (wdS (Rg / (ns F n) * (F t), L + Rg / (ns F n) * (ns F t), ca, Pn, bs)))), Value.int (nI (eP (wdS (Rg / (ns F n) * (F t), L + Rg / (ns F n) * (ns F t), ca, Pn, bs)))), Value.long (lN (eL (wdS (Rg / (ns F n) * (F t), L + Rg / (ns F n) * (ns F t), ca, Pn, bs)))), Value.long (lN (eR (wdS (Rg / (ns F n) * (F t), L + Rg / (ns F n) * (ns F t), ca, Pn, bs)))), Value.long xcode, Value.long xreadLow, Value.long xreadRange, Value.ref ri, Value.ref ro, Value.ref rw, Value.int xasked])), (rw, Sum.inr (0, [Value.int (nI (eB (wdS (Rg / (ns F n) * (F t), L + Rg / (ns F n) * (ns F t), ca, Pn, bs))).length), Value.ref rwaq_15])), (rwaq_15, Sum.inl (cI, rwkq_15, Sum.inl rwfq_15))]) (va_runV (As := [Value.int (nI t)]) (rest := []) ⟨hx, hb, hml, hown, hts⟩ (f_Odds_learn l dC dI cI cM cO H.size oo osg ofc oca opa n ocf opl opf F t (by first | assumption | omega) (by first | assumption | omega) (by first | assumption | omega) (by first | assumption | omega) (by first | assumption | omega) (hbd)) (cwV 1 hts (my_gV k526 k527 k528 k14 k529) rfl rfl rfl cu_Odds_learn_1 ⟨by rw [hR]; exact Nat.le_of_ble_eq_true rfl, by rw [hR]; exact Nat.le_of_ble_eq_true rfl⟩) (my_preV hK hN (hP.sub [0, 1, 2] rfl) (hD.sub [0, 1, 2] (by decide +kernel) rfl) 0 rfl rfl) rfl rfl hl.1 rfl (lv_room (Nat.le_of_ble_eq_true rfl)) d_Ranged_writeSign_20 ⟨by rw [hR]; exact (show (0 + d_15) + 0 ≤ (rPh rwk) by omega), by rw [hR]; exact (show (0 + d_15) + 0 ≤ (rPh rwk) by omega)⟩) hP hD hS hA [0, 1, 2] [3, 4, 5] rfl rfl (by decide +kernel) (by decide +kernel) (fun u9 H locs hw_20 hP hD hS => ?_)
  obtain ⟨ocfq_20, rfl⟩ : ∃ z, z = u9 := ⟨_, rfl⟩
  have hf_20 : tbI ocfq_20 n (lrn n t F) := hw_20
  have hPD : my_PD (dC, dI) vwCl A [(co, Sum.inr (1, [Value.int (caI (eC (wdS (Rg / (ns F n) * (F t), L + Rg / (ns F n) * (ns F t), ca, Pn, bs)))), Value.int (nI (eP (wdS (Rg / (ns F n) * (F t), L + Rg / (ns F n) * (ns F t), ca, Pn, bs)))), Value.long (lN (eL (wdS (Rg / (ns F n) * (F t), L + Rg / (ns F n) * (ns F t), ca, Pn, bs)))), Value.long (lN (eR (wdS (Rg / (ns F n) * (F t), L + Rg / (ns F n) * (ns F t), ca, Pn, bs)))), Value.long xcode, Value.long xreadLow, Value.long xreadRange, Value.ref ri, Value.ref ro, Value.ref rw, Value.int xasked])), (rw, Sum.inr (0, [Value.int (nI (eB (wdS (Rg / (ns F n) * (F t), L + Rg / (ns F n) * (ns F t), ca, Pn, bs))).length), Value.ref rwaq_15])), (rwaq_15, Sum.inl (cI, rwkq_15, Sum.inl rwfq_15)), (oo, Sum.inr (7, [Value.int osg, Value.int (nI (ns (lrn n t F) n)), Value.int ofc, Value.ref oca, Value.ref opa])), (oca, Sum.inl (cI, n, Sum.inl ocfq_20)), (opa, Sum.inl (cI, opl, Sum.inl opf))] H := ⟨hP, hD⟩
  have hP := hPD.1
  have hD := hPD.2
  exact my_vretg hx hb hr hlocks hQ hK hS (rwaq_15, rwkq_15, rwfq_15, ocfq_20) (show (0 + d_15) + (rPh rwkq_15) ≤ (rPh rwk) by omega) (show (0 + d_15) + (rPh rwkq_15) ≤ (rPh rwk) by omega) (⟨hrw_15, hGrw_15, hf_20⟩) (hP.sub [0, 1, 2, 3, 4, 5] rfl) (hD.sub [0, 1, 2, 3, 4, 5] (by decide +kernel) rfl) d_Ranged_writeSign_23
set_option maxHeartbeats 2000000 in
set_option maxRecDepth 100000 in
theorem f_Carries_flush (l : Launch) (dC : Nat → ClassId) (dI : Nat → Nat → Nat) (cI cM cO : ClassId) (sz : Nat) (sl : Nat) (co : Nat) (xcode : Int64) (xreadLow : Int64) (xreadRange : Int64) (ri : Nat) (ro : Nat) (rw : Nat) (xasked : Int32) (Rg : Nat) (L : Nat) (ca : Option Nat) (Pn : Nat) (rwa : Nat) (rwk : Nat) (rwf : Nat → Int32) (bs : List Nat) (hE : eOk (Rg, L, ca, Pn, bs)) (hrw : rOk (nI bs.length) rwk) (hGrw : gIs rwf bs) (hN9 : bs.length + Pn + 20 ≤ 7900) : MetVg l y_Carries_flush (Cond.code y_Carries_flush prog_3_method_5_code 2 none :: gw) ({ frames := 5, cells := rPh rwk, slots := rPh rwk, locals := 125 } : Room) (dC, dI) vwCl (kT cI cM cO) [Value.ref co] [(co, Sum.inr (1, [Value.int (caI ca), Value.int (nI Pn), Value.long (lN L), Value.long (lN Rg), Value.long xcode, Value.long xreadLow, Value.long xreadRange, Value.ref ri, Value.ref ro, Value.ref rw, Value.int xasked])), (rw, Sum.inr (0, [Value.int (nI bs.length), Value.ref rwa])), (rwa, Sum.inl (cI, rwk, Sum.inl rwf))] sz sl (fun (u : Nat × Nat × (Nat → Int32)) => rOk (nI (eB (shK 5 (Rg, L, ca, Pn, bs))).length) u.2.1 ∧ gIs u.2.2 (eB (shK 5 (Rg, L, ca, Pn, bs)))) (fun (u : Nat × Nat × (Nat → Int32)) => [(co, Sum.inr (1, [Value.int (caI (eC (shK 5 (Rg, L, ca, Pn, bs)))), Value.int (nI (eP (shK 5 (Rg, L, ca, Pn, bs)))), Value.long (lN (eL (shK 5 (Rg, L, ca, Pn, bs)))), Value.long (lN (eR (shK 5 (Rg, L, ca, Pn, bs)))), Value.long xcode, Value.long xreadLow, Value.long xreadRange, Value.ref ri, Value.ref ro, Value.ref rw, Value.int xasked])), (rw, Sum.inr (0, [Value.int (nI (eB (shK 5 (Rg, L, ca, Pn, bs))).length), Value.ref u.1])), (u.1, Sum.inl (cI, u.2.1, Sum.inl u.2.2))]) (rPh rwk) (fun (u : Nat × Nat × (Nat → Int32)) => rPh u.2.1) := by
  refine my_ofVg (cc := prog_3_method_5_code) (n := 2) (ret := none) (by decide) rfl (Nat.le_of_ble_eq_true rfl) ?_
  intro p e s m args below meth c R Q A ls H locs hx hb hr hts hown hlocks hml hnm hR hQ hA hl hP hK hN hD hS
  have hg : ∀ w ∈ gw, w.before args s = true := fun w h => hts w (List.mem_cons_of_mem _ h)
  have hown : s.vm.findClass "RangeCoders$Carries" = some m.cls := hown
  have hl : lv_has ls 2 [(0, Value.ref co)] := hl
  have hltw := rOk_lt hrw
  refine lv_iconst (v := 0) hx hb d_Carries_flush_0 (by decide) ?_
  refine lv_istore_n (lv' := [(1, Value.int 0), (0, Value.ref co)]) hx hb d_Carries_flush_1 rfl hl (by decide) rfl (fun ls hl => ?_)
  have J_2 : ∀ (n9_2 : Nat) (j : Nat) (e9 : ES) (rwa9 : Nat) (rwk9 : Nat) (rwf9 : Nat → Int32) (d9 : Nat) (hn9_2 : 5 - j = n9_2) (hj : j ≤ 5) (hE9 : shK 5 (Rg, L, ca, Pn, bs) = shK (5 - j) e9) (hO9 : eOk e9) (hM9 : eN e9 ≤ 7900 + j) (hr9 : rOk (nI (eB e9).length) rwk9) (hg9 : gIs rwf9 (eB e9)) (hd9 : d9 + rPh rwk9 ≤ rPh rwk) (H : Heap) (locs : List Loc) (ls : Array Slot), va_P (dC, dI) vwCl [(co, Sum.inr (1, [Value.int (caI (eC e9)), Value.int (nI (eP e9)), Value.long (lN (eL e9)), Value.long (lN (eR e9)), Value.long xcode, Value.long xreadLow, Value.long xreadRange, Value.ref ri, Value.ref ro, Value.ref rw, Value.int xasked])), (rw, Sum.inr (0, [Value.int (nI (eB e9).length), Value.ref rwa9])), (rwa9, Sum.inl (cI, rwk9, Sum.inl rwf9))] H → va_D A [(co, Sum.inr (1, [Value.int (caI (eC e9)), Value.int (nI (eP e9)), Value.long (lN (eL e9)), Value.long (lN (eR e9)), Value.long xcode, Value.long xreadLow, Value.long xreadRange, Value.ref ri, Value.ref ro, Value.ref rw, Value.int xasked])), (rw, Sum.inr (0, [Value.int (nI (eB e9).length), Value.ref rwa9])), (rwa9, Sum.inl (cI, rwk9, Sum.inl rwf9))] → va_S A s.heap H locs → lv_has ls 2 [(1, Value.int (nI j)), (0, Value.ref co)] → W p l e R s m args below meth c H locs d9 d9 Q (F0 m 2 ls []) := by
    intro n9_2
    induction n9_2 using Nat.strongRecOn with
    | ind n9_2 ih9_2 =>
      intro j e9 rwa9 rwk9 rwf9 d9 hn9_2 hj hE9 hO9 hM9 hr9 hg9 hd9 H locs ls hP hD hS hl
      refine lv_iload_n hx hb d_Carries_flush_2 rfl (lv_at hl 0 rfl) ?_
      refine lv_iconst (v := 5) hx hb d_Carries_flush_3 (by decide) ?_
      refine lv_icmp_ge (tgt := 17) hx hb d_Carries_flush_4 (by decide) (fun c_1 => ?_) (fun c_1 => ?_)
      · have hj3 : j = 5 := by have := nI_ge' (n := 5) (by omega) (by decide) c_1; omega
        have z9 : e9 = shK 5 (Rg, L, ca, Pn, bs) := by rw [hE9, hj3]; rfl
        subst z9
        exact my_vretg hx hb hr hlocks hQ hK hS (rwa9, rwk9, rwf9) (show d9 + (rPh rwk9) ≤ (rPh rwk) by omega) (show d9 + (rPh rwk9) ≤ (rPh rwk) by omega) (⟨hr9, hg9⟩) (hP.sub [0, 1, 2] rfl) (hD.sub [0, 1, 2] (by decide +kernel) rfl) d_Carries_flush_17
      · have hj2 : j < 5 := nI_lt' (by omega) c_1
        refine lv_aload_n hx hb d_Carries_flush_7 rfl (lv_at hl 1 rfl) ?_
        refine my_cvg (wr := []) (va_runV (As := []) (rest := []) ⟨hx, hb, hml, hown, hts⟩ (f_Carries_shiftLow l dC dI cI cM cO H.size (hSl H) co (lN (eR e9)) xcode xreadLow xreadRange ri ro rw xasked (eL e9) (eC e9) (eP e9) rwa9 rwk9 rwf9 (eB e9) (hO9.1) (hO9.2) (hr9) (hg9) (by have z : eN e9 = (eB e9).length + eP e9 + 1 := rfl; omega)) (cwV 0 hts (my_gV k463 k465 ks6 k5 k466) rfl rfl rfl cu_Carries_shiftLow_0 ⟨by rw [hR]; exact Nat.le_of_ble_eq_true rfl, by rw [hR]; exact Nat.le_of_ble_eq_true rfl⟩) (my_preVg hK hN (hP.sub [0, 1, 2] rfl) (hD.sub [0, 1, 2] (by decide +kernel) rfl) 0 rfl rfl) rfl rfl hl.1 rfl (lv_room (Nat.le_of_ble_eq_true rfl)) d_Carries_flush_8 ⟨by rw [hR]; exact (show d9 + (rPh rwk9) ≤ (rPh rwk) by omega), by rw [hR]; exact (show d9 + (rPh rwk9) ≤ (rPh rwk) by omega)⟩) hP hD hS hA [0, 1, 2] [] rfl rfl (by decide +kernel) (by decide +kernel) (fun u9 d_8 H locs hd_8 hw_8 hP hD hS => ?_)
        obtain ⟨rwaq_8, rwkq_8, rwfq_8⟩ := u9
        obtain ⟨hrw_8, hGrw_8⟩ : rOk (nI (shB (eL e9) (eC e9) (eP e9) (eB e9)).length) rwkq_8 ∧ gIs rwfq_8 (shB (eL e9) (eC e9) (eP e9) (eB e9)) := hw_8
        have hd_8 : d_8 + (rPh rwkq_8) ≤ (rPh rwk9) := hd_8
        have hPD : my_PD (dC, dI) vwCl A [(co, Sum.inr (1, [Value.int (caI (shC (eL e9) (eC e9))), Value.int (nI (shP (eL e9) (eP e9))), Value.long (lN (shL (eL e9))), Value.long (lN (eR e9)), Value.long xcode, Value.long xreadLow, Value.long xreadRange, Value.ref ri, Value.ref ro, Value.ref rw, Value.int xasked])), (rw, Sum.inr (0, [Value.int (nI (shB (eL e9) (eC e9) (eP e9) (eB e9)).length), Value.ref rwaq_8])), (rwaq_8, Sum.inl (cI, rwkq_8, Sum.inl rwfq_8))] H := ⟨hP, hD⟩
        have hP := hPD.1
        have hD := hPD.2
        obtain ⟨v_2, ev_2⟩ : ∃ y : Int32, y = (nI j) + (1) := ⟨_, rfl⟩
        refine lv_iinc (v := v_2) (lv' := [(1, Value.int v_2), (0, Value.ref co)]) hx hb d_Carries_flush_11 hl (k := 0) rfl (by rw [ev_2]; rfl) (by decide) rfl (fun ls hl => ?_)
        have z9 : v_2 = nI (j + 1) := by rw [ev_2]; exact nI_1 _
        subst z9
        refine lv_goto (tgt := 2) hx hb d_Carries_flush_14 (by decide) ?_
        exact ih9_2 _ (by first | omega | (omega)) (j + 1) (shS e9) rwaq_8 rwkq_8 rwfq_8 (d9 + d_8) rfl (by omega) (by rw [hE9, show 5 - j = (5 - (j + 1)) + 1 by omega]; rfl) (eOk_sh hO9) (by have q := eN_sh e9; omega) (hrw_8) (hGrw_8) (by omega) H locs ls (hP.sub [0, 1, 2] rfl) (hD.sub [0, 1, 2] (by decide +kernel) rfl) hS (lv_sub hl [0, 1] rfl)
  exact J_2 _ (0 : Nat) (Rg, L, ca, Pn, bs) rwa rwk rwf (0 : Nat) rfl (by decide) (rfl) (hE) (by show bs.length + Pn + 1 ≤ _; omega) (hrw) (hGrw) (by omega) H locs ls (hP.sub [0, 1, 2] rfl) (hD.sub [0, 1, 2] (by decide +kernel) rfl) hS (lv_sub hl [0, 1] rfl)
end
section
set_option maxHeartbeats 2000000 in
set_option maxRecDepth 100000 in
theorem f_NoCarries_sameTop (l : Launch) (dC : Nat → ClassId) (dI : Nat → Nat → Nat) (cI cM cO : ClassId) (sz : Nat) (L : Nat) (Rg : Nat) (hL : L < 4294967296) (hRg : Rg ≤ 4294967296) : MetI l y_NoCarries_sameTop (Cond.code y_NoCarries_sameTop prog_6_method_6_code 4 (some .boolean) :: gw) ({ frames := 0, cells := 0, slots := 0, locals := 0 } : Room) (dC, dI) vwCl (kT cI cM cO) [Value.long (lN L), Value.long (lN Rg)] [] sz (fun (r : Int32) (u : Unit) => r = if smT L Rg then 1 else 0) (fun (u : Unit) => []) 0 0 := by
  refine my_ofI (cc := prog_6_method_6_code) (n := 4) (ret := (some .boolean)) (by decide) rfl (Nat.le_of_ble_eq_true rfl) ?_
  intro p e s m args below meth c R Q A ls H locs hx hb hr hts hown hlocks hml hnm hR hQ hA hl hP hK hN hD hS
  have hg : ∀ w ∈ gw, w.before args s = true := fun w h => hts w (List.mem_cons_of_mem _ h)
  have hown : s.vm.findClass "RangeCoders$NoCarries" = some m.cls := hown
  have hl : lv_has ls 4 [(0, Value.long (lN L)), (2, Value.long (lN Rg))] := hl
  refine lv_lload_n hx hb d_NoCarries_sameTop_0 rfl (lv_at hl 0 rfl) ?_
  refine lv_bipush (v := 24) hx hb d_NoCarries_sameTop_1 (by decide) ?_
  refine lv_lushr hx hb d_NoCarries_sameTop_3 rfl ?_
  refine lv_topl (fun v_1 ev_1 => ?_)
  have z9 : v_1 = lN (L / 16777216) := by rw [ev_1]; exact U_shr24 (by omega)
  subst z9
  refine lv_lload_n hx hb d_NoCarries_sameTop_4 rfl (lv_at hl 0 rfl) ?_
  refine lv_lload_n hx hb d_NoCarries_sameTop_5 rfl (lv_at hl 1 rfl) ?_
  refine lv_ladd hx hb d_NoCarries_sameTop_6 ?_
  refine lv_topl (fun v_2 ev_2 => ?_)
  refine lv_ldc2 (v := 4294967295) hx hb hown (hg _ k509) d_NoCarries_sameTop_7 ?_
  refine lv_land hx hb d_NoCarries_sameTop_10 ?_
  refine lv_topl (fun v_3 ev_3 => ?_)
  have z9 : v_3 = lN ((L + Rg) % 4294967296) := by subst_vars; rw [lN_add, L_and32 (by omega)]
  subst z9
  refine lv_bipush (v := 24) hx hb d_NoCarries_sameTop_11 (by decide) ?_
  refine lv_lushr hx hb d_NoCarries_sameTop_13 rfl ?_
  refine lv_topl (fun v_4 ev_4 => ?_)
  have z9 : v_4 = lN ((L + Rg) % 4294967296 / 16777216) := by rw [ev_4]; exact U_shr24 (by omega)
  subst z9
  refine W.lcmp hx hb d_NoCarries_sameTop_14 ?_
  refine lv_if_ne (tgt := 22) hx hb d_NoCarries_sameTop_15 (by decide) (fun c_5 => ?_) (fun c_5 => ?_)
  · rw [lg_cmp_eq] at c_5
    refine lv_iconst (v := 0) hx hb d_NoCarries_sameTop_22 (by decide) ?_
    exact my_iret (v := 0) hx hb hr (rfl) hlocks hQ hK hS (Nat.le_refl _) (Nat.le_refl _) () (by rw [if_neg (fun q => c_5 (by rw [show L / 16777216 = (L + Rg) % 4294967296 / 16777216 from q]))]) (hP.sub [] rfl) (hD.sub [] (by decide +kernel) rfl) d_NoCarries_sameTop_23
  · rw [lg_cmp_eq] at c_5
    refine lv_iconst (v := 1) hx hb d_NoCarries_sameTop_18 (by decide) ?_
    refine lv_goto (tgt := 23) hx hb d_NoCarries_sameTop_19 (by decide) ?_
    exact my_iret (v := 1) hx hb hr (rfl) hlocks hQ hK hS (Nat.le_refl _) (Nat.le_refl _) () (by rw [if_pos (show L / 16777216 = (L + Rg) % 4294967296 / 16777216 from (pk_lEQ (by omega) (by omega)).mp c_5)]) (hP.sub [] rfl) (hD.sub [] (by decide +kernel) rfl) d_NoCarries_sameTop_23
set_option maxHeartbeats 2000000 in
set_option maxRecDepth 100000 in
theorem f_NoCarries_mustMove (l : Launch) (dC : Nat → ClassId) (dI : Nat → Nat → Nat) (cI cM cO : ClassId) (sz : Nat) (L : Nat) (Rg : Nat) (hL : L < 4294967296) (hRg : Rg ≤ 4294967296) : MetI l y_NoCarries_mustMove (Cond.code y_NoCarries_mustMove prog_6_method_7_code 4 (some .boolean) :: gw) ({ frames := 1, cells := 0, slots := 0, locals := 23 } : Room) (dC, dI) vwCl (kT cI cM cO) [Value.long (lN L), Value.long (lN Rg)] [] sz (fun (r : Int32) (u : Unit) => r = if mvP L Rg then 1 else 0) (fun (u : Unit) => []) 0 0 := by
  refine my_ofI (cc := prog_6_method_7_code) (n := 4) (ret := (some .boolean)) (by decide) rfl (Nat.le_of_ble_eq_true rfl) ?_
  intro p e s m args below meth c R Q A ls H locs hx hb hr hts hown hlocks hml hnm hR hQ hA hl hP hK hN hD hS
  have hg : ∀ w ∈ gw, w.before args s = true := fun w h => hts w (List.mem_cons_of_mem _ h)
  have hown : s.vm.findClass "RangeCoders$NoCarries" = some m.cls := hown
  have hl : lv_has ls 4 [(0, Value.long (lN L)), (2, Value.long (lN Rg))] := hl
  refine lv_lload_n hx hb d_NoCarries_mustMove_0 rfl (lv_at hl 0 rfl) ?_
  refine lv_lload_n hx hb d_NoCarries_mustMove_1 rfl (lv_at hl 1 rfl) ?_
  refine my_ci (wr := []) (va_runS (As := [Value.long (lN L), Value.long (lN Rg)]) (rest := []) ⟨hx, hb, hml, hown, hts⟩ (f_NoCarries_sameTop l dC dI cI cM cO H.size L Rg (by first | assumption | omega) (by first | assumption | omega)) (cwS 2 hts (my_gS k513 k514 k7 k515) rfl rfl rfl (by decide +kernel) ⟨by rw [hR]; exact Nat.le_of_ble_eq_true rfl, by rw [hR]; exact Nat.le_of_ble_eq_true rfl⟩) (my_pre hK hN (hP.sub [] rfl) (hD.sub [] (by decide +kernel) rfl)) rfl rfl hl.1 rfl (lv_room (Nat.le_of_ble_eq_true rfl)) d_NoCarries_mustMove_2 ⟨by rw [hR]; exact Nat.le_of_ble_eq_true rfl, by rw [hR]; exact Nat.le_of_ble_eq_true rfl⟩) hP hD hS hA [] [] rfl rfl (by decide +kernel) (by decide +kernel) (fun r_2 u9 H locs hw_2 hP hD hS => ?_)
  have hr_2 : r_2 = if smT L Rg then 1 else 0 := hw_2
  have hPD : my_PD (dC, dI) vwCl A [] H := ⟨hP, hD⟩
  have hP := hPD.1
  have hD := hPD.2
  refine lv_if_ne (tgt := 16) hx hb d_NoCarries_mustMove_5 (by decide) (fun c_1 => ?_) (fun c_1 => ?_)
  · refine lv_iconst (v := 1) hx hb d_NoCarries_mustMove_16 (by decide) ?_
    refine lv_goto (tgt := 21) hx hb d_NoCarries_mustMove_17 (by decide) ?_
    exact my_iret (v := 1) hx hb hr (rfl) hlocks hQ hK hS (Nat.le_refl _) (Nat.le_refl _) () (by rw [if_pos (Or.inl (one_ne hr_2 c_1))]) (hP.sub [] rfl) (hD.sub [] (by decide +kernel) rfl) d_NoCarries_mustMove_21
  · refine lv_lload_n hx hb d_NoCarries_mustMove_8 rfl (lv_at hl 1 rfl) ?_
    refine lv_ldc2 (v := 65536) hx hb hown (hg _ k516) d_NoCarries_mustMove_9 ?_
    refine W.lcmp hx hb d_NoCarries_mustMove_12 ?_
    refine lv_if_ge (tgt := 20) hx hb d_NoCarries_mustMove_13 (by decide) (fun c_2 => ?_) (fun c_2 => ?_)
    · rw [lg_cmp_ge] at c_2
      refine lv_iconst (v := 0) hx hb d_NoCarries_mustMove_20 (by decide) ?_
      exact my_iret (v := 0) hx hb hr (rfl) hlocks hQ hK hS (Nat.le_refl _) (Nat.le_refl _) () (by rw [if_neg (fun q => q.elim (one_eq hr_2 c_1) (fun q => absurd ((L_le (a := 65536) (by decide) (by omega)).mp c_2) (by omega)))]) (hP.sub [] rfl) (hD.sub [] (by decide +kernel) rfl) d_NoCarries_mustMove_21
    · rw [lg_cmp_ge] at c_2
      refine lv_iconst (v := 1) hx hb d_NoCarries_mustMove_16 (by decide) ?_
      refine lv_goto (tgt := 21) hx hb d_NoCarries_mustMove_17 (by decide) ?_
      exact my_iret (v := 1) hx hb hr (rfl) hlocks hQ hK hS (Nat.le_refl _) (Nat.le_refl _) () (by rw [if_pos (Or.inr (by rcases Nat.lt_or_ge Rg 65536 with q | q; exact q; exact absurd ((L_le (a := 65536) (by decide) (by omega)).mpr q) c_2))]) (hP.sub [] rfl) (hD.sub [] (by decide +kernel) rfl) d_NoCarries_mustMove_21
set_option maxHeartbeats 2000000 in
set_option maxRecDepth 100000 in
theorem f_NoCarries_moved (l : Launch) (dC : Nat → ClassId) (dI : Nat → Nat → Nat) (cI cM cO : ClassId) (sz : Nat) (L : Nat) (Rg : Nat) (hL : L < 4294967296) (hRg : Rg ≤ 4294967296) : MetL l y_NoCarries_moved (Cond.code y_NoCarries_moved prog_6_method_8_code 6 (some .long) :: gw) ({ frames := 1, cells := 0, slots := 0, locals := 23 } : Room) (dC, dI) vwCl (kT cI cM cO) [Value.long (lN L), Value.long (lN Rg)] [] sz (fun (r : Int64) (u : Unit) => r = lN (mvR L Rg)) (fun (u : Unit) => []) 0 0 := by
  refine my_ofL (cc := prog_6_method_8_code) (n := 6) (ret := (some .long)) (by decide) rfl (Nat.le_of_ble_eq_true rfl) ?_
  intro p e s m args below meth c R Q A ls H locs hx hb hr hts hown hlocks hml hnm hR hQ hA hl hP hK hN hD hS
  have hg : ∀ w ∈ gw, w.before args s = true := fun w h => hts w (List.mem_cons_of_mem _ h)
  have hown : s.vm.findClass "RangeCoders$NoCarries" = some m.cls := hown
  have hl : lv_has ls 6 [(0, Value.long (lN L)), (2, Value.long (lN Rg))] := hl
  refine lv_lload_n hx hb d_NoCarries_moved_0 rfl (lv_at hl 0 rfl) ?_
  refine lv_lload_n hx hb d_NoCarries_moved_1 rfl (lv_at hl 1 rfl) ?_
  refine my_ci (wr := []) (va_runS (As := [Value.long (lN L), Value.long (lN Rg)]) (rest := []) ⟨hx, hb, hml, hown, hts⟩ (f_NoCarries_sameTop l dC dI cI cM cO H.size L Rg (by first | assumption | omega) (by first | assumption | omega)) (cwS 2 hts (my_gS k513 k514 k7 k515) rfl rfl rfl (by decide +kernel) ⟨by rw [hR]; exact Nat.le_of_ble_eq_true rfl, by rw [hR]; exact Nat.le_of_ble_eq_true rfl⟩) (my_pre hK hN (hP.sub [] rfl) (hD.sub [] (by decide +kernel) rfl)) rfl rfl hl.1 rfl (lv_room (Nat.le_of_ble_eq_true rfl)) d_NoCarries_moved_2 ⟨by rw [hR]; exact Nat.le_of_ble_eq_true rfl, by rw [hR]; exact Nat.le_of_ble_eq_true rfl⟩) hP hD hS hA [] [] rfl rfl (by decide +kernel) (by decide +kernel) (fun r_2 u9 H locs hw_2 hP hD hS => ?_)
  have hr_2 : r_2 = if smT L Rg then 1 else 0 := hw_2
  have hPD : my_PD (dC, dI) vwCl A [] H := ⟨hP, hD⟩
  have hP := hPD.1
  have hD := hPD.2
  refine lv_if_eq (tgt := 12) hx hb d_NoCarries_moved_5 (by decide) (fun c_1 => ?_) (fun c_1 => ?_)
  · refine lv_lload_n hx hb d_NoCarries_moved_12 rfl (lv_at hl 0 rfl) ?_
    refine lv_lneg hx hb d_NoCarries_moved_13 ?_
    refine lv_topl (fun v_2 ev_2 => ?_)
    refine lv_ldc2 (v := 65535) hx hb hown (hg _ k520) d_NoCarries_moved_14 ?_
    refine lv_land hx hb d_NoCarries_moved_17 ?_
    refine lv_topl (fun v_3 ev_3 => ?_)
    have hk9 : v_3 = lN (if smT L Rg then Rg else ngL L) := by rw [if_neg (one_eq hr_2 c_1)]; subst_vars; exact L_ngA (by omega)
    refine lv_lstore (lv' := [(4, Value.long v_3), (0, Value.long (lN L)), (2, Value.long (lN Rg))]) hx hb d_NoCarries_moved_18 hl (by decide) rfl (fun ls hl => ?_)
    refine lv_lload hx hb d_NoCarries_moved_20 (lv_at hl 0 rfl) ?_
    refine lv_bipush (v := 8) hx hb d_NoCarries_moved_22 (by decide) ?_
    refine lv_lshl hx hb d_NoCarries_moved_24 rfl ?_
    refine lv_topl (fun v_4 ev_4 => ?_)
    refine lv_ldc2 (v := 4294967295) hx hb hown (hg _ k509) d_NoCarries_moved_25 ?_
    refine lv_land hx hb d_NoCarries_moved_28 ?_
    refine lv_topl (fun v_5 ev_5 => ?_)
    exact my_lret (v := v_5) hx hb hr hlocks hQ hK hS (Nat.le_refl _) (Nat.le_refl _) () (by have hng : ngL L < 65536 := Nat.mod_lt _ (by decide); have hif : (if smT L Rg then Rg else ngL L) ≤ 4294967296 := (by split <;> omega); unfold mvR; generalize (if smT L Rg then Rg else ngL L) = y9 at hk9 hif ⊢; subst_vars; first | rw [hk9, L_shl8, L_and32 (by omega)] | rw [L_shl8, L_and32 (by omega)]) (hP.sub [] rfl) (hD.sub [] (by decide +kernel) rfl) d_NoCarries_moved_29
  · refine lv_lload_n hx hb d_NoCarries_moved_8 rfl (lv_at hl 1 rfl) ?_
    refine lv_goto (tgt := 18) hx hb d_NoCarries_moved_9 (by decide) ?_
    have hk9 : (lN Rg) = lN (if smT L Rg then Rg else ngL L) := by rw [if_pos (one_ne hr_2 c_1)]
    refine lv_lstore (lv' := [(4, Value.long (lN Rg)), (0, Value.long (lN L)), (2, Value.long (lN Rg))]) hx hb d_NoCarries_moved_18 hl (by decide) rfl (fun ls hl => ?_)
    refine lv_lload hx hb d_NoCarries_moved_20 (lv_at hl 0 rfl) ?_
    refine lv_bipush (v := 8) hx hb d_NoCarries_moved_22 (by decide) ?_
    refine lv_lshl hx hb d_NoCarries_moved_24 rfl ?_
    refine lv_topl (fun v_6 ev_6 => ?_)
    refine lv_ldc2 (v := 4294967295) hx hb hown (hg _ k509) d_NoCarries_moved_25 ?_
    refine lv_land hx hb d_NoCarries_moved_28 ?_
    refine lv_topl (fun v_7 ev_7 => ?_)
    exact my_lret (v := v_7) hx hb hr hlocks hQ hK hS (Nat.le_refl _) (Nat.le_refl _) () (by have hng : ngL L < 65536 := Nat.mod_lt _ (by decide); have hif : (if smT L Rg then Rg else ngL L) ≤ 4294967296 := (by split <;> omega); unfold mvR; generalize (if smT L Rg then Rg else ngL L) = y9 at hk9 hif ⊢; subst_vars; first | rw [hk9, L_shl8, L_and32 (by omega)] | rw [L_shl8, L_and32 (by omega)]) (hP.sub [] rfl) (hD.sub [] (by decide +kernel) rfl) d_NoCarries_moved_29
set_option maxHeartbeats 2000000 in
set_option maxRecDepth 100000 in
theorem f_NoCarries_writeTop (l : Launch) (dC : Nat → ClassId) (dI : Nat → Nat → Nat) (cI cM cO : ClassId) (sz : Nat) (sl : Nat) (co : Nat) (xrange : Int64) (xcode : Int64) (xreadLow : Int64) (xreadRange : Int64) (ri : Nat) (ro : Nat) (rw : Nat) (xasked : Int32) (L : Nat) (rwa : Nat) (rwk : Nat) (rwf : Nat → Int32) (bs : List Nat) (hL : L < 4294967296) (hrw : rOk (nI bs.length) rwk) (hGrw : gIs rwf bs) (hN9 : bs.length ≤ 8000) : MetVg l y_NoCarries_writeTop (Cond.code y_NoCarries_writeTop prog_6_method_5_code 1 none :: gw) ({ frames := 3, cells := rPh rwk, slots := rPh rwk, locals := 83 } : Room) (dC, dI) vwCl (kT cI cM cO) [Value.ref co] [(co, Sum.inr (2, [Value.long (lN L), Value.long xrange, Value.long xcode, Value.long xreadLow, Value.long xreadRange, Value.ref ri, Value.ref ro, Value.ref rw, Value.int xasked])), (rw, Sum.inr (0, [Value.int (nI bs.length), Value.ref rwa])), (rwa, Sum.inl (cI, rwk, Sum.inl rwf))] sz sl (fun (u : Nat × Nat × (Nat → Int32)) => rOk (nI (bs ++ [L / 16777216 % 256]).length) u.2.1 ∧ gIs u.2.2 (bs ++ [L / 16777216 % 256])) (fun (u : Nat × Nat × (Nat → Int32)) => [(co, Sum.inr (2, [Value.long (lN (mvL L)), Value.long xrange, Value.long xcode, Value.long xreadLow, Value.long xreadRange, Value.ref ri, Value.ref ro, Value.ref rw, Value.int xasked])), (rw, Sum.inr (0, [Value.int (nI (bs ++ [L / 16777216 % 256]).length), Value.ref u.1])), (u.1, Sum.inl (cI, u.2.1, Sum.inl u.2.2))]) (rPh rwk) (fun (u : Nat × Nat × (Nat → Int32)) => rPh u.2.1) := by
  refine my_ofVg (cc := prog_6_method_5_code) (n := 1) (ret := none) (by decide) rfl (Nat.le_of_ble_eq_true rfl) ?_
  intro p e s m args below meth c R Q A ls H locs hx hb hr hts hown hlocks hml hnm hR hQ hA hl hP hK hN hD hS
  have hg : ∀ w ∈ gw, w.before args s = true := fun w h => hts w (List.mem_cons_of_mem _ h)
  have hown : s.vm.findClass "RangeCoders$NoCarries" = some m.cls := hown
  have hl : lv_has ls 1 [(0, Value.ref co)] := hl
  have hltw := rOk_lt hrw
  refine lv_aload_n hx hb d_NoCarries_writeTop_0 rfl (lv_at hl 0 rfl) ?_
  refine va_get (D := (dC, dI)) (ci := 2) (v := .ref rw) (C := "RangeCoders$NoCarries") (T := T_NoCarries) (N := 9) hx hb hg in_NoCarries hown hK hP 0 rfl rfl 7 (by decide) (hg _ k114) (fun x9 h9 => u_same (hg _ k115) x9 h9) rfl d_NoCarries_writeTop_1 ?_
  refine lv_aload_n hx hb d_NoCarries_writeTop_4 rfl (lv_at hl 0 rfl) ?_
  refine va_get (D := (dC, dI)) (ci := 2) (v := .long (lN L)) (C := "RangeCoders$NoCarries") (T := T_NoCarries) (N := 9) hx hb hg in_NoCarries hown hK hP 0 rfl rfl 0 (by decide) (hg _ k70) (fun x9 h9 => u_same (hg _ k71) x9 h9) rfl d_NoCarries_writeTop_5 ?_
  refine lv_bipush (v := 24) hx hb d_NoCarries_writeTop_8 (by decide) ?_
  refine lv_lushr hx hb d_NoCarries_writeTop_10 rfl ?_
  refine lv_topl (fun v_1 ev_1 => ?_)
  refine lv_l2i hx hb d_NoCarries_writeTop_11 rfl ?_
  refine lv_topi (fun v_2 ev_2 => ?_)
  have z9 : v_2 = nI (L / 16777216 % 256) := by subst_vars; rw [U_shr24 (by omega), lN_i, Nat.mod_eq_of_lt (by omega)]
  subst z9
  refine my_cvg (wr := [(co, Sum.inr (2, [Value.long (lN L), Value.long xrange, Value.long xcode, Value.long xreadLow, Value.long xreadRange, Value.ref ri, Value.ref ro, Value.ref rw, Value.int xasked]))]) (va_runV (As := [Value.int (nI (L / 16777216 % 256))]) (rest := []) ⟨hx, hb, hml, hown, hts⟩ (f_Row_add l dC dI cI cM cO H.size (hSl H) rw rwa rwk rwf bs (L / 16777216 % 256) (hrw) (hGrw) (by omega)) (cwV 1 hts (my_gV k525 k473 k474 k6 k475) rfl rfl rfl cu_Row_add_1 ⟨by rw [hR]; exact Nat.le_of_ble_eq_true rfl, by rw [hR]; exact Nat.le_of_ble_eq_true rfl⟩) (my_preVg hK hN (hP.sub [1, 2] rfl) (hD.sub [1, 2] (by decide +kernel) rfl) 0 rfl rfl) rfl rfl hl.1 rfl (lv_room (Nat.le_of_ble_eq_true rfl)) d_NoCarries_writeTop_12 ⟨by rw [hR]; exact (show 0 + (rPh rwk) ≤ (rPh rwk) by omega), by rw [hR]; exact (show 0 + (rPh rwk) ≤ (rPh rwk) by omega)⟩) hP hD hS hA [1, 2] [0] rfl rfl (by decide +kernel) (by decide +kernel) (fun u9 d_12 H locs hd_12 hw_12 hP hD hS => ?_)
  obtain ⟨rraq_12, rrkq_12, rrfq_12⟩ := u9
  obtain ⟨hrr_12, hGrr_12⟩ : rOk (nI (bs ++ [(L / 16777216 % 256)]).length) rrkq_12 ∧ gIs rrfq_12 (bs ++ [(L / 16777216 % 256)]) := hw_12
  have hd_12 : d_12 + (rPh rrkq_12) ≤ (rPh rwk) := hd_12
  have hPD : my_PD (dC, dI) vwCl A [(co, Sum.inr (2, [Value.long (lN L), Value.long xrange, Value.long xcode, Value.long xreadLow, Value.long xreadRange, Value.ref ri, Value.ref ro, Value.ref rw, Value.int xasked])), (rw, Sum.inr (0, [Value.int (nI (bs ++ [(L / 16777216 % 256)]).length), Value.ref rraq_12])), (rraq_12, Sum.inl (cI, rrkq_12, Sum.inl rrfq_12))] H := ⟨hP, hD⟩
  have hP := hPD.1
  have hD := hPD.2
  refine lv_aload_n hx hb d_NoCarries_writeTop_15 rfl (lv_at hl 0 rfl) ?_
  refine lv_aload_n hx hb d_NoCarries_writeTop_16 rfl (lv_at hl 0 rfl) ?_
  refine va_get (D := (dC, dI)) (ci := 2) (v := .long (lN L)) (C := "RangeCoders$NoCarries") (T := T_NoCarries) (N := 9) hx hb hg in_NoCarries hown hK hP 0 rfl rfl 0 (by decide) (hg _ k70) (fun x9 h9 => u_same (hg _ k71) x9 h9) rfl d_NoCarries_writeTop_17 ?_
  refine lv_bipush (v := 8) hx hb d_NoCarries_writeTop_20 (by decide) ?_
  refine lv_lshl hx hb d_NoCarries_writeTop_22 rfl ?_
  refine lv_topl (fun v_3 ev_3 => ?_)
  refine lv_ldc2 (v := 4294967295) hx hb hown (hg _ k509) d_NoCarries_writeTop_23 ?_
  refine lv_land hx hb d_NoCarries_writeTop_26 ?_
  refine lv_topl (fun v_4 ev_4 => ?_)
  have z9 : v_4 = lN (mvL L) := by subst_vars; rw [L_shl8, L_and32 (by omega)]; rfl
  subst z9
  refine va_put (D := (dC, dI)) (ci := 2) (v := .long (lN (mvL L))) (ty := .long) (C := "RangeCoders$NoCarries") (T := T_NoCarries) (N := 9) hx hb hg in_NoCarries t_NoCarries o_NoCarries n_NoCarries hown hK hP hD hS 0 rfl rfl 0 (by decide) (hg _ k70) (fun x9 h9 => u_same (hg _ k71) x9 h9) rfl (o_NoCarries 0 (by decide)) rfl rfl (Nat.le_of_ble_eq_true rfl) d_NoCarries_writeTop_27 (fun H locs hP hD hS => ?_)
  have hPD : my_PD (dC, dI) vwCl A [(co, Sum.inr (2, [Value.long (lN (mvL L)), Value.long xrange, Value.long xcode, Value.long xreadLow, Value.long xreadRange, Value.ref ri, Value.ref ro, Value.ref rw, Value.int xasked])), (rw, Sum.inr (0, [Value.int (nI (bs ++ [(L / 16777216 % 256)]).length), Value.ref rraq_12])), (rraq_12, Sum.inl (cI, rrkq_12, Sum.inl rrfq_12))] H := ⟨hP, hD⟩
  have hP := hPD.1
  have hD := hPD.2
  exact my_vretg hx hb hr hlocks hQ hK hS (rraq_12, rrkq_12, rrfq_12) (show (0 + d_12) + (rPh rrkq_12) ≤ (rPh rwk) by omega) (show (0 + d_12) + (rPh rrkq_12) ≤ (rPh rwk) by omega) (⟨hrr_12, hGrr_12⟩) (hP.sub [0, 1, 2] rfl) (hD.sub [0, 1, 2] (by decide +kernel) rfl) d_NoCarries_writeTop_30
set_option maxHeartbeats 2000000 in
set_option maxRecDepth 100000 in
theorem f_NoCarries_writePart (l : Launch) (dC : Nat → ClassId) (dI : Nat → Nat → Nat) (cI cM cO : ClassId) (sz : Nat) (sl : Nat) (co : Nat) (xcode : Int64) (xreadLow : Int64) (xreadRange : Int64) (ri : Nat) (ro : Nat) (rw : Nat) (xasked : Int32) (Rg : Nat) (L : Nat) (rwa : Nat) (rwk : Nat) (rwf : Nat → Int32) (bs : List Nat) (cc : Nat) (ff : Nat) (tt : Nat) (ht0 : 0 < tt) (ht1 : tt < 2 ^ 31) (hcf : cc + ff ≤ tt) (hff : 0 < ff) (hRt : tt ≤ Rg) (hp : pOk Rg L) (hrw : rOk (nI bs.length) rwk) (hGrw : gIs rwf bs) (hN9 : bs.length + 5 ≤ 7900) : MetVg l y_NoCarries_writePart (Cond.code y_NoCarries_writePart prog_6_method_2_code 7 none :: gw) ({ frames := 4, cells := rPh rwk, slots := rPh rwk, locals := 103 } : Room) (dC, dI) vwCl (kT cI cM cO) [Value.ref co, Value.int (nI ff), Value.int (nI cc), Value.int (nI tt)] [(co, Sum.inr (2, [Value.long (lN L), Value.long (lN Rg), Value.long xcode, Value.long xreadLow, Value.long xreadRange, Value.ref ri, Value.ref ro, Value.ref rw, Value.int xasked])), (rw, Sum.inr (0, [Value.int (nI bs.length), Value.ref rwa])), (rwa, Sum.inl (cI, rwk, Sum.inl rwf))] sz sl (fun (u : Nat × Nat × (Nat → Int32)) => rOk (nI ((plS (Rg / tt * ff, L + Rg / tt * cc, bs)).2.2).length) u.2.1 ∧ gIs u.2.2 ((plS (Rg / tt * ff, L + Rg / tt * cc, bs)).2.2)) (fun (u : Nat × Nat × (Nat → Int32)) => [(co, Sum.inr (2, [Value.long (lN (plS (Rg / tt * ff, L + Rg / tt * cc, bs)).2.1), Value.long (lN (plS (Rg / tt * ff, L + Rg / tt * cc, bs)).1), Value.long xcode, Value.long xreadLow, Value.long xreadRange, Value.ref ri, Value.ref ro, Value.ref rw, Value.int xasked])), (rw, Sum.inr (0, [Value.int (nI (plS (Rg / tt * ff, L + Rg / tt * cc, bs)).2.2.length), Value.ref u.1])), (u.1, Sum.inl (cI, u.2.1, Sum.inl u.2.2))]) (rPh rwk) (fun (u : Nat × Nat × (Nat → Int32)) => rPh u.2.1) := by
  refine my_ofVg (cc := prog_6_method_2_code) (n := 7) (ret := none) (by decide) rfl (Nat.le_of_ble_eq_true rfl) ?_
  intro p e s m args below meth c R Q A ls H locs hx hb hr hts hown hlocks hml hnm hR hQ hA hl hP hK hN hD hS
  have hg : ∀ w ∈ gw, w.before args s = true := fun w h => hts w (List.mem_cons_of_mem _ h)
  have hown : s.vm.findClass "RangeCoders$NoCarries" = some m.cls := hown
  have hl : lv_has ls 7 [(0, Value.ref co), (1, Value.int (nI ff)), (2, Value.int (nI cc)), (3, Value.int (nI tt))] := hl
  have hltw := rOk_lt hrw
  obtain ⟨hp1, hp2, hp3, hp4⟩ := id hp
  have hd1 : Rg / tt * tt ≤ Rg := Nat.div_mul_le_self _ _
  have hd2 : Rg / tt * cc + Rg / tt * ff ≤ Rg / tt * tt := by rw [← Nat.mul_add]; exact Nat.mul_le_mul_left _ hcf
  have hd3 : 0 < Rg / tt := Nat.div_pos hRt ht0
  have hd4 : 0 < Rg / tt * ff := Nat.mul_pos hd3 hff
  have hd5 : Rg / tt ≤ Rg := Nat.div_le_self _ _
  generalize hrc : Rg / tt * cc = rc at hd2
  generalize hrf : Rg / tt * ff = rf at hd2 hd4
  refine lv_iload_n hx hb d_NoCarries_writePart_0 rfl (lv_at hl 3 rfl) ?_
  refine lv_if_le (tgt := 14) hx hb d_NoCarries_writePart_1 (by decide) (fun c_1 => ?_) (fun c_1 => ?_)
  · exact absurd c_1 (nI_nle ht0 (by omega))
  · refine lv_aload_n hx hb d_NoCarries_writePart_4 rfl (lv_at hl 0 rfl) ?_
    refine va_get (D := (dC, dI)) (ci := 2) (v := .long (lN Rg)) (C := "RangeCoders$NoCarries") (T := T_NoCarries) (N := 9) hx hb hg in_NoCarries hown hK hP 0 rfl rfl 1 (by decide) (hg _ k78) (fun x9 h9 => u_same (hg _ k79) x9 h9) rfl d_NoCarries_writePart_5 ?_
    refine lv_iload_n hx hb d_NoCarries_writePart_8 rfl (lv_at hl 3 rfl) ?_
    refine lv_i2l hx hb d_NoCarries_writePart_9 rfl ?_
    refine lv_topl (fun v_2 ev_2 => ?_)
    refine lv_ldiv hx hb d_NoCarries_writePart_10 (by rw [ev_2]; rw [nI_l (by omega)]; intro z; have := (pk_lEQ (b := 0) (by omega) (by decide)).mp z; omega) ?_
    refine lv_topl (fun v_3 ev_3 => ?_)
    refine lv_goto (tgt := 15) hx hb d_NoCarries_writePart_11 (by decide) ?_
    have z9 : v_3 = lN (Rg / tt) := by subst_vars; rw [nI_l (by omega)]; exact pk_lDiv (by omega) ht0 (by omega)
    subst z9
    refine lv_lstore (lv' := [(4, Value.long (lN (Rg / tt))), (0, Value.ref co), (1, Value.int (nI ff)), (2, Value.int (nI cc)), (3, Value.int (nI tt))]) hx hb d_NoCarries_writePart_15 hl (by decide) rfl (fun ls hl => ?_)
    refine lv_aload_n hx hb d_NoCarries_writePart_17 rfl (lv_at hl 1 rfl) ?_
    refine lv_aload_n hx hb d_NoCarries_writePart_18 rfl (lv_at hl 1 rfl) ?_
    refine va_get (D := (dC, dI)) (ci := 2) (v := .long (lN L)) (C := "RangeCoders$NoCarries") (T := T_NoCarries) (N := 9) hx hb hg in_NoCarries hown hK hP 0 rfl rfl 0 (by decide) (hg _ k70) (fun x9 h9 => u_same (hg _ k71) x9 h9) rfl d_NoCarries_writePart_19 ?_
    refine lv_lload hx hb d_NoCarries_writePart_22 (lv_at hl 0 rfl) ?_
    refine lv_iload_n hx hb d_NoCarries_writePart_24 rfl (lv_at hl 3 rfl) ?_
    refine lv_i2l hx hb d_NoCarries_writePart_25 rfl ?_
    refine lv_topl (fun v_4 ev_4 => ?_)
    refine lv_lmul hx hb d_NoCarries_writePart_26 ?_
    refine lv_topl (fun v_5 ev_5 => ?_)
    refine lv_ladd hx hb d_NoCarries_writePart_27 ?_
    refine lv_topl (fun v_6 ev_6 => ?_)
    refine lv_ldc2 (v := 4294967295) hx hb hown (hg _ k509) d_NoCarries_writePart_28 ?_
    refine lv_land hx hb d_NoCarries_writePart_31 ?_
    refine lv_topl (fun v_7 ev_7 => ?_)
    have z9 : v_7 = lN (L + rc) := by subst_vars; rw [nI_l (by omega), lN_mul, lN_add, L_and32 (by omega), Nat.mod_eq_of_lt (by omega)]
    subst z9
    refine va_put (D := (dC, dI)) (ci := 2) (v := .long (lN (L + rc))) (ty := .long) (C := "RangeCoders$NoCarries") (T := T_NoCarries) (N := 9) hx hb hg in_NoCarries t_NoCarries o_NoCarries n_NoCarries hown hK hP hD hS 0 rfl rfl 0 (by decide) (hg _ k70) (fun x9 h9 => u_same (hg _ k71) x9 h9) rfl (o_NoCarries 0 (by decide)) rfl rfl (Nat.le_of_ble_eq_true rfl) d_NoCarries_writePart_32 (fun H locs hP hD hS => ?_)
    have hPD : my_PD (dC, dI) vwCl A [(co, Sum.inr (2, [Value.long (lN (L + rc)), Value.long (lN Rg), Value.long xcode, Value.long xreadLow, Value.long xreadRange, Value.ref ri, Value.ref ro, Value.ref rw, Value.int xasked])), (rw, Sum.inr (0, [Value.int (nI bs.length), Value.ref rwa])), (rwa, Sum.inl (cI, rwk, Sum.inl rwf))] H := ⟨hP, hD⟩
    have hP := hPD.1
    have hD := hPD.2
    refine lv_aload_n hx hb d_NoCarries_writePart_35 rfl (lv_at hl 1 rfl) ?_
    refine lv_lload hx hb d_NoCarries_writePart_36 (lv_at hl 0 rfl) ?_
    refine lv_iload_n hx hb d_NoCarries_writePart_38 rfl (lv_at hl 2 rfl) ?_
    refine lv_i2l hx hb d_NoCarries_writePart_39 rfl ?_
    refine lv_topl (fun v_8 ev_8 => ?_)
    refine lv_lmul hx hb d_NoCarries_writePart_40 ?_
    refine lv_topl (fun v_9 ev_9 => ?_)
    refine lv_ldc2 (v := 4294967295) hx hb hown (hg _ k509) d_NoCarries_writePart_41 ?_
    refine lv_land hx hb d_NoCarries_writePart_44 ?_
    refine lv_topl (fun v_10 ev_10 => ?_)
    have z9 : v_10 = lN rf := by subst_vars; rw [nI_l (by omega), lN_mul, L_and32 (by omega), Nat.mod_eq_of_lt (by omega)]
    subst z9
    refine va_put (D := (dC, dI)) (ci := 2) (v := .long (lN rf)) (ty := .long) (C := "RangeCoders$NoCarries") (T := T_NoCarries) (N := 9) hx hb hg in_NoCarries t_NoCarries o_NoCarries n_NoCarries hown hK hP hD hS 0 rfl rfl 1 (by decide) (hg _ k78) (fun x9 h9 => u_same (hg _ k79) x9 h9) rfl (o_NoCarries 1 (by decide)) rfl rfl (Nat.le_of_ble_eq_true rfl) d_NoCarries_writePart_45 (fun H locs hP hD hS => ?_)
    have hPD : my_PD (dC, dI) vwCl A [(co, Sum.inr (2, [Value.long (lN (L + rc)), Value.long (lN rf), Value.long xcode, Value.long xreadLow, Value.long xreadRange, Value.ref ri, Value.ref ro, Value.ref rw, Value.int xasked])), (rw, Sum.inr (0, [Value.int (nI bs.length), Value.ref rwa])), (rwa, Sum.inl (cI, rwk, Sum.inl rwf))] H := ⟨hP, hD⟩
    have hP := hPD.1
    have hD := hPD.2
    refine lv_iconst (v := 0) hx hb d_NoCarries_writePart_48 (by decide) ?_
    refine lv_istore (lv' := [(6, Value.int 0), (4, Value.long (lN (Rg / tt))), (0, Value.ref co), (1, Value.int (nI ff)), (2, Value.int (nI cc)), (3, Value.int (nI tt))]) hx hb d_NoCarries_writePart_49 hl (by decide) rfl (fun ls hl => ?_)
    have J_51 : ∀ (n9_51 : Nat) (e9 : PS) (k9 : Nat) (rwa9 : Nat) (rwk9 : Nat) (rwf9 : Nat → Int32) (d9 : Nat) (hn9_51 : k9 = n9_51) (hE9 : plS (rf, L + rc, bs) = plN k9 e9) (hI9 : plI k9 e9.1 e9.2.1) (hM9 : e9.2.2.length + k9 ≤ 7904) (hr9 : rOk (nI e9.2.2.length) rwk9) (hg9 : gIs rwf9 e9.2.2) (hd9 : d9 + rPh rwk9 ≤ rPh rwk) (H : Heap) (locs : List Loc) (ls : Array Slot), va_P (dC, dI) vwCl [(co, Sum.inr (2, [Value.long (lN e9.2.1), Value.long (lN e9.1), Value.long xcode, Value.long xreadLow, Value.long xreadRange, Value.ref ri, Value.ref ro, Value.ref rw, Value.int xasked])), (rw, Sum.inr (0, [Value.int (nI e9.2.2.length), Value.ref rwa9])), (rwa9, Sum.inl (cI, rwk9, Sum.inl rwf9))] H → va_D A [(co, Sum.inr (2, [Value.long (lN e9.2.1), Value.long (lN e9.1), Value.long xcode, Value.long xreadLow, Value.long xreadRange, Value.ref ri, Value.ref ro, Value.ref rw, Value.int xasked])), (rw, Sum.inr (0, [Value.int (nI e9.2.2.length), Value.ref rwa9])), (rwa9, Sum.inl (cI, rwk9, Sum.inl rwf9))] → va_S A s.heap H locs → lv_has ls 7 [(6, Value.int (nI (8 - k9))), (4, Value.long (lN (Rg / tt))), (0, Value.ref co), (1, Value.int (nI ff)), (2, Value.int (nI cc)), (3, Value.int (nI tt))] → W p l e R s m args below meth c H locs d9 d9 Q (F0 m 51 ls []) := by
      intro n9_51
      induction n9_51 using Nat.strongRecOn with
      | ind n9_51 ih9_51 =>
        intro e9 k9 rwa9 rwk9 rwf9 d9 hn9_51 hE9 hI9 hM9 hr9 hg9 hd9 H locs ls hP hD hS hl
        have hk48 := hI9.2.1
        have hk88 := hI9.2.2.1
        obtain ⟨hq1, hq2, hq3, hq4⟩ := hI9.1
        refine lv_iload hx hb d_NoCarries_writePart_51 (lv_at hl 0 rfl) ?_
        refine lv_bipush (v := 8) hx hb d_NoCarries_writePart_53 (by decide) ?_
        refine lv_icmp_ge (tgt := 97) hx hb d_NoCarries_writePart_55 (by decide) (fun c_11 => ?_) (fun c_11 => ?_)
        · exact absurd (nI_ge' (n := 8) (by omega) (by decide) c_11) (by omega)
        · refine lv_aload_n hx hb d_NoCarries_writePart_58 rfl (lv_at hl 2 rfl) ?_
          refine va_get (D := (dC, dI)) (ci := 2) (v := .long (lN e9.2.1)) (C := "RangeCoders$NoCarries") (T := T_NoCarries) (N := 9) hx hb hg in_NoCarries hown hK hP 0 rfl rfl 0 (by decide) (hg _ k70) (fun x9 h9 => u_same (hg _ k71) x9 h9) rfl d_NoCarries_writePart_59 ?_
          refine lv_aload_n hx hb d_NoCarries_writePart_62 rfl (lv_at hl 2 rfl) ?_
          refine va_get (D := (dC, dI)) (ci := 2) (v := .long (lN e9.1)) (C := "RangeCoders$NoCarries") (T := T_NoCarries) (N := 9) hx hb hg in_NoCarries hown hK hP 0 rfl rfl 1 (by decide) (hg _ k78) (fun x9 h9 => u_same (hg _ k79) x9 h9) rfl d_NoCarries_writePart_63 ?_
          refine my_ci (wr := [(co, Sum.inr (2, [Value.long (lN e9.2.1), Value.long (lN e9.1), Value.long xcode, Value.long xreadLow, Value.long xreadRange, Value.ref ri, Value.ref ro, Value.ref rw, Value.int xasked])), (rw, Sum.inr (0, [Value.int (nI e9.2.2.length), Value.ref rwa9])), (rwa9, Sum.inl (cI, rwk9, Sum.inl rwf9))]) (va_runS (As := [Value.long (lN e9.2.1), Value.long (lN e9.1)]) (rest := []) ⟨hx, hb, hml, hown, hts⟩ (f_NoCarries_mustMove l dC dI cI cM cO H.size e9.2.1 e9.1 (hq1) (by omega)) (cwS 2 hts (my_gS k510 k511 k7 k512) rfl rfl rfl (by decide +kernel) ⟨by rw [hR]; exact Nat.le_of_ble_eq_true rfl, by rw [hR]; exact Nat.le_of_ble_eq_true rfl⟩) (my_pre hK hN (hP.sub [] rfl) (hD.sub [] (by decide +kernel) rfl)) rfl rfl hl.1 rfl (lv_room (Nat.le_of_ble_eq_true rfl)) d_NoCarries_writePart_66 ⟨by rw [hR]; exact (show d9 + 0 ≤ (rPh rwk) by omega), by rw [hR]; exact (show d9 + 0 ≤ (rPh rwk) by omega)⟩) hP hD hS hA [] [0, 1, 2] rfl rfl (by decide +kernel) (by decide +kernel) (fun r_66 u9 H locs hw_66 hP hD hS => ?_)
          have hr_66 : r_66 = if mvP e9.2.1 e9.1 then 1 else 0 := hw_66
          have hPD : my_PD (dC, dI) vwCl A [(co, Sum.inr (2, [Value.long (lN e9.2.1), Value.long (lN e9.1), Value.long xcode, Value.long xreadLow, Value.long xreadRange, Value.ref ri, Value.ref ro, Value.ref rw, Value.int xasked])), (rw, Sum.inr (0, [Value.int (nI e9.2.2.length), Value.ref rwa9])), (rwa9, Sum.inl (cI, rwk9, Sum.inl rwf9))] H := ⟨hP, hD⟩
          have hP := hPD.1
          have hD := hPD.2
          refine lv_if_eq (tgt := 97) hx hb d_NoCarries_writePart_69 (by decide) (fun c_12 => ?_) (fun c_12 => ?_)
          · have z9 : e9 = plS (rf, L + rc, bs) := by rw [hE9, plN_e (one_eq hr_66 c_12)]
            subst z9
            subst hrc
            subst hrf
            have hPD : my_PD (dC, dI) vwCl A [(co, Sum.inr (2, [Value.long (lN (plS ((Rg / tt * ff), L + (Rg / tt * cc), bs)).2.1), Value.long (lN (plS ((Rg / tt * ff), L + (Rg / tt * cc), bs)).1), Value.long xcode, Value.long xreadLow, Value.long xreadRange, Value.ref ri, Value.ref ro, Value.ref rw, Value.int xasked])), (rw, Sum.inr (0, [Value.int (nI (plS ((Rg / tt * ff), L + (Rg / tt * cc), bs)).2.2.length), Value.ref rwa9])), (rwa9, Sum.inl (cI, rwk9, Sum.inl rwf9))] H := ⟨hP, hD⟩
            have hP := hPD.1
            have hD := hPD.2
            exact my_vretg hx hb hr hlocks hQ hK hS (rwa9, rwk9, rwf9) (show d9 + (rPh rwk9) ≤ (rPh rwk) by omega) (show d9 + (rPh rwk9) ≤ (rPh rwk) by omega) (⟨hr9, hg9⟩) (hP.sub [0, 1, 2] rfl) (hD.sub [0, 1, 2] (by decide +kernel) rfl) d_NoCarries_writePart_97
          · have hmv : mvP e9.2.1 e9.1 := one_ne hr_66 c_12
            refine lv_aload_n hx hb d_NoCarries_writePart_72 rfl (lv_at hl 2 rfl) ?_
            refine lv_aload_n hx hb d_NoCarries_writePart_73 rfl (lv_at hl 2 rfl) ?_
            refine va_get (D := (dC, dI)) (ci := 2) (v := .long (lN e9.2.1)) (C := "RangeCoders$NoCarries") (T := T_NoCarries) (N := 9) hx hb hg in_NoCarries hown hK hP 0 rfl rfl 0 (by decide) (hg _ k70) (fun x9 h9 => u_same (hg _ k71) x9 h9) rfl d_NoCarries_writePart_74 ?_
            refine lv_aload_n hx hb d_NoCarries_writePart_77 rfl (lv_at hl 2 rfl) ?_
            refine va_get (D := (dC, dI)) (ci := 2) (v := .long (lN e9.1)) (C := "RangeCoders$NoCarries") (T := T_NoCarries) (N := 9) hx hb hg in_NoCarries hown hK hP 0 rfl rfl 1 (by decide) (hg _ k78) (fun x9 h9 => u_same (hg _ k79) x9 h9) rfl d_NoCarries_writePart_78 ?_
            refine my_cl (wr := [(co, Sum.inr (2, [Value.long (lN e9.2.1), Value.long (lN e9.1), Value.long xcode, Value.long xreadLow, Value.long xreadRange, Value.ref ri, Value.ref ro, Value.ref rw, Value.int xasked])), (rw, Sum.inr (0, [Value.int (nI e9.2.2.length), Value.ref rwa9])), (rwa9, Sum.inl (cI, rwk9, Sum.inl rwf9))]) (va_runS (As := [Value.long (lN e9.2.1), Value.long (lN e9.1)]) (rest := [Value.ref co]) ⟨hx, hb, hml, hown, hts⟩ (f_NoCarries_moved l dC dI cI cM cO H.size e9.2.1 e9.1 (hq1) (by omega)) (cwS 2 hts (my_gS k517 k518 k7 k519) rfl rfl rfl (by decide +kernel) ⟨by rw [hR]; exact Nat.le_of_ble_eq_true rfl, by rw [hR]; exact Nat.le_of_ble_eq_true rfl⟩) (my_pre hK hN (hP.sub [] rfl) (hD.sub [] (by decide +kernel) rfl)) rfl rfl hl.1 rfl (lv_room (Nat.le_of_ble_eq_true rfl)) d_NoCarries_writePart_81 ⟨by rw [hR]; exact (show d9 + 0 ≤ (rPh rwk) by omega), by rw [hR]; exact (show d9 + 0 ≤ (rPh rwk) by omega)⟩) hP hD hS hA [] [0, 1, 2] rfl rfl (by decide +kernel) (by decide +kernel) (fun r_81 u9 H locs hw_81 hP hD hS => ?_)
            have hr_81 : r_81 = lN (mvR e9.2.1 e9.1) := hw_81
            have hPD : my_PD (dC, dI) vwCl A [(co, Sum.inr (2, [Value.long (lN e9.2.1), Value.long (lN e9.1), Value.long xcode, Value.long xreadLow, Value.long xreadRange, Value.ref ri, Value.ref ro, Value.ref rw, Value.int xasked])), (rw, Sum.inr (0, [Value.int (nI e9.2.2.length), Value.ref rwa9])), (rwa9, Sum.inl (cI, rwk9, Sum.inl rwf9))] H := ⟨hP, hD⟩
            have hP := hPD.1
            have hD := hPD.2
            have z9 : r_81 = lN (mvR e9.2.1 e9.1) := hr_81
            subst z9
            refine va_put (D := (dC, dI)) (ci := 2) (v := .long (lN (mvR e9.2.1 e9.1))) (ty := .long) (C := "RangeCoders$NoCarries") (T := T_NoCarries) (N := 9) hx hb hg in_NoCarries t_NoCarries o_NoCarries n_NoCarries hown hK hP hD hS 0 rfl rfl 1 (by decide) (hg _ k78) (fun x9 h9 => u_same (hg _ k79) x9 h9) rfl (o_NoCarries 1 (by decide)) rfl rfl (Nat.le_of_ble_eq_true rfl) d_NoCarries_writePart_84 (fun H locs hP hD hS => ?_)
            have hPD : my_PD (dC, dI) vwCl A [(co, Sum.inr (2, [Value.long (lN e9.2.1), Value.long (lN (mvR e9.2.1 e9.1)), Value.long xcode, Value.long xreadLow, Value.long xreadRange, Value.ref ri, Value.ref ro, Value.ref rw, Value.int xasked])), (rw, Sum.inr (0, [Value.int (nI e9.2.2.length), Value.ref rwa9])), (rwa9, Sum.inl (cI, rwk9, Sum.inl rwf9))] H := ⟨hP, hD⟩
            have hP := hPD.1
            have hD := hPD.2
            refine lv_aload_n hx hb d_NoCarries_writePart_87 rfl (lv_at hl 2 rfl) ?_
            refine my_cvg (wr := []) (va_runV (As := []) (rest := []) ⟨hx, hb, hml, hown, hts⟩ (f_NoCarries_writeTop l dC dI cI cM cO H.size (hSl H) co (lN (mvR e9.2.1 e9.1)) xcode xreadLow xreadRange ri ro rw xasked e9.2.1 rwa9 rwk9 rwf9 e9.2.2 (hq1) (hr9) (hg9) (by omega)) (cwV 0 hts (my_gV k521 k523 ks8 k7 k524) rfl rfl rfl cu_NoCarries_writeTop_0 ⟨by rw [hR]; exact Nat.le_of_ble_eq_true rfl, by rw [hR]; exact Nat.le_of_ble_eq_true rfl⟩) (my_preVg hK hN (hP.sub [0, 1, 2] rfl) (hD.sub [0, 1, 2] (by decide +kernel) rfl) 0 rfl rfl) rfl rfl hl.1 rfl (lv_room (Nat.le_of_ble_eq_true rfl)) d_NoCarries_writePart_88 ⟨by rw [hR]; exact (show d9 + (rPh rwk9) ≤ (rPh rwk) by omega), by rw [hR]; exact (show d9 + (rPh rwk9) ≤ (rPh rwk) by omega)⟩) hP hD hS hA [0, 1, 2] [] rfl rfl (by decide +kernel) (by decide +kernel) (fun u9 d_88 H locs hd_88 hw_88 hP hD hS => ?_)
            obtain ⟨rwaq_88, rwkq_88, rwfq_88⟩ := u9
            obtain ⟨hrw_88, hGrw_88⟩ : rOk (nI (e9.2.2 ++ [e9.2.1 / 16777216 % 256]).length) rwkq_88 ∧ gIs rwfq_88 (e9.2.2 ++ [e9.2.1 / 16777216 % 256]) := hw_88
            have hd_88 : d_88 + (rPh rwkq_88) ≤ (rPh rwk9) := hd_88
            have hPD : my_PD (dC, dI) vwCl A [(co, Sum.inr (2, [Value.long (lN (mvL e9.2.1)), Value.long (lN (mvR e9.2.1 e9.1)), Value.long xcode, Value.long xreadLow, Value.long xreadRange, Value.ref ri, Value.ref ro, Value.ref rw, Value.int xasked])), (rw, Sum.inr (0, [Value.int (nI (e9.2.2 ++ [e9.2.1 / 16777216 % 256]).length), Value.ref rwaq_88])), (rwaq_88, Sum.inl (cI, rwkq_88, Sum.inl rwfq_88))] H := ⟨hP, hD⟩
            have hP := hPD.1
            have hD := hPD.2
            obtain ⟨v_13, ev_13⟩ : ∃ y : Int32, y = (nI (8 - k9)) + (1) := ⟨_, rfl⟩
            refine lv_iinc (v := v_13) (lv' := [(6, Value.int v_13), (4, Value.long (lN (Rg / tt))), (0, Value.ref co), (1, Value.int (nI ff)), (2, Value.int (nI cc)), (3, Value.int (nI tt))]) hx hb d_NoCarries_writePart_91 hl (k := 0) rfl (by rw [ev_13]; rfl) (by decide) rfl (fun ls hl => ?_)
            have z9 : v_13 = nI (8 - (k9 - 1)) := by rw [ev_13, show 8 - (k9 - 1) = 8 - k9 + 1 by omega]; exact nI_1 _
            subst z9
            refine lv_goto (tgt := 51) hx hb d_NoCarries_writePart_94 (by decide) ?_
            exact ih9_51 _ (by first | omega | (omega)) (mvR e9.2.1 e9.1, mvL e9.2.1, e9.2.2 ++ [e9.2.1 / 16777216 % 256]) (k9 - 1) rwaq_88 rwkq_88 rwfq_88 (d9 + d_88) rfl (by rw [hE9, plN_s (by omega) hmv]) ((plI_st hI9 hmv).2) (by have z9 := (plI_st hI9 hmv).1; show (e9.2.2 ++ [_]).length + (k9 - 1) ≤ _; rw [List.length_append, List.length_singleton]; omega) (hrw_88) (hGrw_88) (by omega) H locs ls (hP.sub [0, 1, 2] rfl) (hD.sub [0, 1, 2] (by decide +kernel) rfl) hS (lv_sub hl [0, 1, 2, 3, 4, 5] rfl)
    exact J_51 _ (rf, L + rc, bs) (8 : Nat) rwa rwk rwf (0 : Nat) rfl (rfl) (plI_0 (R := rf) (L := L + rc) ⟨by omega, by omega, by omega, fun z => by have := hp4 (by omega); omega⟩) (by show bs.length + 8 ≤ _; omega) (hrw) (hGrw) (by omega) H locs ls (hP.sub [0, 1, 2] rfl) (hD.sub [0, 1, 2] (by decide +kernel) rfl) hS (lv_sub hl [0, 1, 2, 3, 4, 5] rfl)
set_option maxHeartbeats 2000000 in
set_option maxRecDepth 100000 in
theorem f_NoCarries_writeValue (l : Launch) (dC : Nat → ClassId) (dI : Nat → Nat → Nat) (cI cM cO : ClassId) (sz : Nat) (sl : Nat) (co : Nat) (xcode : Int64) (xreadLow : Int64) (xreadRange : Int64) (ri : Nat) (ro : Nat) (rw : Nat) (xasked : Int32) (Rg : Nat) (L : Nat) (rwa : Nat) (rwk : Nat) (rwf : Nat → Int32) (bs : List Nat) (v : Nat) (b : Nat) (hb1 : 1 ≤ b) (hb2 : b ≤ 12) (hv : v < 2 ^ b) (hp : pOk Rg L) (hR6 : 65536 ≤ Rg) (hrw : rOk (nI bs.length) rwk) (hGrw : gIs rwf bs) (hN9 : bs.length + 5 ≤ 7900) : MetVg l y_Ranged_writeValue (Cond.code y_Ranged_writeValue prog_8_method_8_code 3 none :: gw) ({ frames := 5, cells := rPh rwk, slots := rPh rwk, locals := 129 } : Room) (dC, dI) vwCl (kT cI cM cO) [Value.ref co, Value.int (nI v), Value.int (nI b)] [(co, Sum.inr (2, [Value.long (lN L), Value.long (lN Rg), Value.long xcode, Value.long xreadLow, Value.long xreadRange, Value.ref ri, Value.ref ro, Value.ref rw, Value.int xasked])), (rw, Sum.inr (0, [Value.int (nI bs.length), Value.ref rwa])), (rwa, Sum.inl (cI, rwk, Sum.inl rwf))] sz sl (fun (u : Nat × Nat × (Nat → Int32)) => rOk (nI ((plS (Rg / 2 ^ b * 1, L + Rg / 2 ^ b * v, bs)).2.2).length) u.2.1 ∧ gIs u.2.2 ((plS (Rg / 2 ^ b * 1, L + Rg / 2 ^ b * v, bs)).2.2)) (fun (u : Nat × Nat × (Nat → Int32)) => [(co, Sum.inr (2, [Value.long (lN (plS (Rg / 2 ^ b * 1, L + Rg / 2 ^ b * v, bs)).2.1), Value.long (lN (plS (Rg / 2 ^ b * 1, L + Rg / 2 ^ b * v, bs)).1), Value.long xcode, Value.long xreadLow, Value.long xreadRange, Value.ref ri, Value.ref ro, Value.ref rw, Value.int xasked])), (rw, Sum.inr (0, [Value.int (nI (plS (Rg / 2 ^ b * 1, L + Rg / 2 ^ b * v, bs)).2.2.length), Value.ref u.1])), (u.1, Sum.inl (cI, u.2.1, Sum.inl u.2.2))]) (rPh rwk) (fun (u : Nat × Nat × (Nat → Int32)) => rPh u.2.1) := by
  refine my_ofVg (cc := prog_8_method_8_code) (n := 3) (ret := none) (by decide) rfl (Nat.le_of_ble_eq_true rfl) ?_
  intro p e s m args below meth c R Q A ls H locs hx hb hr hts hown hlocks hml hnm hR hQ hA hl hP hK hN hD hS
  have hg : ∀ w ∈ gw, w.before args s = true := fun w h => hts w (List.mem_cons_of_mem _ h)
  have hown : s.vm.findClass "RangeCoders$Ranged" = some m.cls := hown
  have hl : lv_has ls 3 [(0, Value.ref co), (1, Value.int (nI v)), (2, Value.int (nI b))] := hl
  have hltw := rOk_lt hrw
  have hpw : 2 ^ b ≤ 2 ^ 12 := Nat.pow_le_pow_right (by decide) hb2
  have hpw0 : 0 < 2 ^ b := Nat.pow_pos (by decide)
  refine lv_aload_n hx hb d_Ranged_writeValue_0 rfl (lv_at hl 0 rfl) ?_
  refine lv_iconst (v := 1) hx hb d_Ranged_writeValue_1 (by decide) ?_
  refine lv_iload_n hx hb d_Ranged_writeValue_2 rfl (lv_at hl 1 rfl) ?_
  refine lv_iconst (v := 1) hx hb d_Ranged_writeValue_3 (by decide) ?_
  refine lv_iload_n hx hb d_Ranged_writeValue_4 rfl (lv_at hl 2 rfl) ?_
  refine lv_ishl hx hb d_Ranged_writeValue_5 ?_
  refine lv_topi (fun v_1 ev_1 => ?_)
  have z9 : v_1 = nI (2 ^ b) := by rw [ev_1]; exact shl1 b (by omega)
  subst z9
  refine W.eq (g2 := F0 m 6 ls [Value.int (nI (2 ^ b)), Value.int (nI v), Value.int (nI 1), Value.ref co]) rfl ?_
  refine my_cvg (wr := []) (va_runU (As := [Value.int (nI 1), Value.int (nI v), Value.int (nI (2 ^ b))]) (rest := []) ⟨hx, hb, hml, hown, hts⟩ (f_NoCarries_writePart l dC dI cI cM cO H.size (hSl H) co xcode xreadLow xreadRange ri ro rw xasked Rg L rwa rwk rwf bs v 1 (2 ^ b) (hpw0) (by omega) (hv) (by decide) (by omega) (by first | assumption | omega) (by first | assumption | omega) (by first | assumption | omega) (by omega)) (va_cwA 3 hts (my_gU k498 k500 k506 k507 k7 k508) rfl rfl rfl (hN.1 _ j499 rfl) (by decide +kernel) ⟨by rw [hR]; exact Nat.le_of_ble_eq_true rfl, by rw [hR]; exact Nat.le_of_ble_eq_true rfl⟩) (my_preVg hK hN (hP.sub [0, 1, 2] rfl) (hD.sub [0, 1, 2] (by decide +kernel) rfl) 0 rfl rfl) rfl rfl hl.1 rfl (lv_room (Nat.le_of_ble_eq_true rfl)) d_Ranged_writeValue_6 ⟨by rw [hR]; exact (show 0 + (rPh rwk) ≤ (rPh rwk) by omega), by rw [hR]; exact (show 0 + (rPh rwk) ≤ (rPh rwk) by omega)⟩) hP hD hS hA [0, 1, 2] [] rfl rfl (by decide +kernel) (by decide +kernel) (fun u9 d_6 H locs hd_6 hw_6 hP hD hS => ?_)
  obtain ⟨rwaq_6, rwkq_6, rwfq_6⟩ := u9
  obtain ⟨hrw_6, hGrw_6⟩ : rOk (nI ((plS (Rg / (2 ^ b) * 1, L + Rg / (2 ^ b) * v, bs)).2.2).length) rwkq_6 ∧ gIs rwfq_6 ((plS (Rg / (2 ^ b) * 1, L + Rg / (2 ^ b) * v, bs)).2.2) := hw_6
  have hd_6 : d_6 + (rPh rwkq_6) ≤ (rPh rwk) := hd_6
  have hPD : my_PD (dC, dI) vwCl A [(co, Sum.inr (2, [Value.long (lN (plS (Rg / (2 ^ b) * 1, L + Rg / (2 ^ b) * v, bs)).2.1), Value.long (lN (plS (Rg / (2 ^ b) * 1, L + Rg / (2 ^ b) * v, bs)).1), Value.long xcode, Value.long xreadLow, Value.long xreadRange, Value.ref ri, Value.ref ro, Value.ref rw, Value.int xasked])), (rw, Sum.inr (0, [Value.int (nI (plS (Rg / (2 ^ b) * 1, L + Rg / (2 ^ b) * v, bs)).2.2.length), Value.ref rwaq_6])), (rwaq_6, Sum.inl (cI, rwkq_6, Sum.inl rwfq_6))] H := ⟨hP, hD⟩
  have hP := hPD.1
  have hD := hPD.2
  exact my_vretg hx hb hr hlocks hQ hK hS (rwaq_6, rwkq_6, rwfq_6) (show (0 + d_6) + (rPh rwkq_6) ≤ (rPh rwk) by omega) (show (0 + d_6) + (rPh rwkq_6) ≤ (rPh rwk) by omega) (⟨hrw_6, hGrw_6⟩) (hP.sub [0, 1, 2] rfl) (hD.sub [0, 1, 2] (by decide +kernel) rfl) d_Ranged_writeValue_9
set_option maxHeartbeats 2000000 in
set_option maxRecDepth 100000 in
theorem f_NoCarries_writeSign (l : Launch) (dC : Nat → ClassId) (dI : Nat → Nat → Nat) (cI cM cO : ClassId) (sz : Nat) (sl : Nat) (co : Nat) (xcode : Int64) (xreadLow : Int64) (xreadRange : Int64) (ri : Nat) (ro : Nat) (rw : Nat) (xasked : Int32) (Rg : Nat) (L : Nat) (rwa : Nat) (rwk : Nat) (rwf : Nat → Int32) (bs : List Nat) (oo : Nat) (osg : Int32) (ofc : Int32) (oca : Nat) (opa : Nat) (n : Nat) (ocf : Nat → Int32) (opl : Nat) (opf : Nat → Int32) (F : Nat → Nat) (t : Nat) (hn : n ≤ 64) (hpl : opl ≤ 512) (hf : tbI ocf n F) (ht : t < n) (hfc : ofc ≤ nI t) (hFt : 0 < F t) (hsum : ns F n ≤ 8192) (hp : pOk Rg L) (hR6 : 65536 ≤ Rg) (hrw : rOk (nI bs.length) rwk) (hGrw : gIs rwf bs) (hN9 : bs.length + 5 ≤ 7900) : MetVg l y_Ranged_writeSign (Cond.code y_Ranged_writeSign prog_8_method_7_code 3 none :: gw) ({ frames := 5, cells := rPh rwk, slots := rPh rwk, locals := 129 } : Room) (dC, dI) vwCl (kT cI cM cO) [Value.ref co, Value.ref oo, Value.int (nI t)] [(co, Sum.inr (2, [Value.long (lN L), Value.long (lN Rg), Value.long xcode, Value.long xreadLow, Value.long xreadRange, Value.ref ri, Value.ref ro, Value.ref rw, Value.int xasked])), (rw, Sum.inr (0, [Value.int (nI bs.length), Value.ref rwa])), (rwa, Sum.inl (cI, rwk, Sum.inl rwf)), (oo, Sum.inr (7, [Value.int osg, Value.int (nI (ns F n)), Value.int ofc, Value.ref oca, Value.ref opa])), (oca, Sum.inl (cI, n, Sum.inl ocf)), (opa, Sum.inl (cI, opl, Sum.inl opf))] sz sl (fun (u : Nat × Nat × (Nat → Int32) × (Nat → Int32)) => rOk (nI ((plS (Rg / ns F n * F t, L + Rg / ns F n * ns F t, bs)).2.2).length) u.2.1 ∧ gIs u.2.2.1 ((plS (Rg / ns F n * F t, L + Rg / ns F n * ns F t, bs)).2.2) ∧ tbI u.2.2.2 n (lrn n t F)) (fun (u : Nat × Nat × (Nat → Int32) × (Nat → Int32)) => [(co, Sum.inr (2, [Value.long (lN (plS (Rg / ns F n * F t, L + Rg / ns F n * ns F t, bs)).2.1), Value.long (lN (plS (Rg / ns F n * F t, L + Rg / ns F n * ns F t, bs)).1), Value.long xcode, Value.long xreadLow, Value.long xreadRange, Value.ref ri, Value.ref ro, Value.ref rw, Value.int xasked])), (rw, Sum.inr (0, [Value.int (nI (plS (Rg / ns F n * F t, L + Rg / ns F n * ns F t, bs)).2.2.length), Value.ref u.1])), (u.1, Sum.inl (cI, u.2.1, Sum.inl u.2.2.1)), (oo, Sum.inr (7, [Value.int osg, Value.int (nI (ns (lrn n t F) n)), Value.int ofc, Value.ref oca, Value.ref opa])), (oca, Sum.inl (cI, n, Sum.inl u.2.2.2)), (opa, Sum.inl (cI, opl, Sum.inl opf))]) (rPh rwk) (fun (u : Nat × Nat × (Nat → Int32) × (Nat → Int32)) => rPh u.2.1) := by
  refine my_ofVg (cc := prog_8_method_7_code) (n := 3) (ret := none) (by decide) rfl (Nat.le_of_ble_eq_true rfl) ?_
  intro p e s m args below meth c R Q A ls H locs hx hb hr hts hown hlocks hml hnm hR hQ hA hl hP hK hN hD hS
  have hg : ∀ w ∈ gw, w.before args s = true := fun w h => hts w (List.mem_cons_of_mem _ h)
  have hown : s.vm.findClass "RangeCoders$Ranged" = some m.cls := hown
  have hl : lv_has ls 3 [(0, Value.ref co), (1, Value.ref oo), (2, Value.int (nI t))] := hl
  have hltw := rOk_lt hrw
  have hm1 := ns_m1 F ht
  have hbd : bd F n 100000 := fun k hk => by have := ns_ge (F := F) hk; omega
  refine lv_aload_n hx hb d_Ranged_writeSign_0 rfl (lv_at hl 0 rfl) ?_
  refine lv_aload_n hx hb d_Ranged_writeSign_1 rfl (lv_at hl 1 rfl) ?_
  refine lv_iload_n hx hb d_Ranged_writeSign_2 rfl (lv_at hl 2 rfl) ?_
  refine my_ci (wr := [(co, Sum.inr (2, [Value.long (lN L), Value.long (lN Rg), Value.long xcode, Value.long xreadLow, Value.long xreadRange, Value.ref ri, Value.ref ro, Value.ref rw, Value.int xasked])), (rw, Sum.inr (0, [Value.int (nI bs.length), Value.ref rwa])), (rwa, Sum.inl (cI, rwk, Sum.inl rwf))]) (va_runV (As := [Value.int (nI t)]) (rest := [Value.ref co]) ⟨hx, hb, hml, hown, hts⟩ (f_Odds_at l dC dI cI cM cO H.size oo osg ofc oca opa n ocf opl opf (nI (ns F n)) t (by first | assumption | omega) (by first | assumption | omega) (by first | assumption | omega) (by first | assumption | omega)) (cwV 1 hts (my_gV k493 k436 k437 k14 k438) rfl rfl rfl cu_Odds_at_1 ⟨by rw [hR]; exact Nat.le_of_ble_eq_true rfl, by rw [hR]; exact Nat.le_of_ble_eq_true rfl⟩) (my_preV hK hN (hP.sub [3, 4, 5] rfl) (hD.sub [3, 4, 5] (by decide +kernel) rfl) 0 rfl rfl) rfl rfl hl.1 rfl (lv_room (Nat.le_of_ble_eq_true rfl)) d_Ranged_writeSign_3 ⟨by rw [hR]; exact (show 0 + 0 ≤ (rPh rwk) by omega), by rw [hR]; exact (show 0 + 0 ≤ (rPh rwk) by omega)⟩) hP hD hS hA [3, 4, 5] [0, 1, 2] rfl rfl (by decide +kernel) (by decide +kernel) (fun r_3 u9 H locs hw_3 hP hD hS => ?_)
  have hr_3 : r_3 = ocf t := hw_3
  have hPD : my_PD (dC, dI) vwCl A [(co, Sum.inr (2, [Value.long (lN L), Value.long (lN Rg), Value.long xcode, Value.long xreadLow, Value.long xreadRange, Value.ref ri, Value.ref ro, Value.ref rw, Value.int xasked])), (rw, Sum.inr (0, [Value.int (nI bs.length), Value.ref rwa])), (rwa, Sum.inl (cI, rwk, Sum.inl rwf)), (oo, Sum.inr (7, [Value.int osg, Value.int (nI (ns F n)), Value.int ofc, Value.ref oca, Value.ref opa])), (oca, Sum.inl (cI, n, Sum.inl ocf)), (opa, Sum.inl (cI, opl, Sum.inl opf))] H := ⟨hP, hD⟩
  have hP := hPD.1
  have hD := hPD.2
  rw [hf t ht] at hr_3
  have z9 : r_3 = nI (F t) := hr_3
  subst z9
  refine lv_aload_n hx hb d_Ranged_writeSign_6 rfl (lv_at hl 1 rfl) ?_
  refine lv_iload_n hx hb d_Ranged_writeSign_7 rfl (lv_at hl 2 rfl) ?_
  refine my_ci (wr := [(co, Sum.inr (2, [Value.long (lN L), Value.long (lN Rg), Value.long xcode, Value.long xreadLow, Value.long xreadRange, Value.ref ri, Value.ref ro, Value.ref rw, Value.int xasked])), (rw, Sum.inr (0, [Value.int (nI bs.length), Value.ref rwa])), (rwa, Sum.inl (cI, rwk, Sum.inl rwf))]) (va_runV (As := [Value.int (nI t)]) (rest := [Value.int (nI (F t)), Value.ref co]) ⟨hx, hb, hml, hown, hts⟩ (f_Odds_below l dC dI cI cM cO H.size oo osg ofc oca opa n ocf opl opf F (nI (ns F n)) t (by first | assumption | omega) (by first | assumption | omega) (by first | assumption | omega) (by omega)) (cwV 1 hts (my_gV k494 k495 k496 k14 k497) rfl rfl rfl cu_Odds_below_1 ⟨by rw [hR]; exact Nat.le_of_ble_eq_true rfl, by rw [hR]; exact Nat.le_of_ble_eq_true rfl⟩) (my_preV hK hN (hP.sub [3, 4, 5] rfl) (hD.sub [3, 4, 5] (by decide +kernel) rfl) 0 rfl rfl) rfl rfl hl.1 rfl (lv_room (Nat.le_of_ble_eq_true rfl)) d_Ranged_writeSign_8 ⟨by rw [hR]; exact (show 0 + 0 ≤ (rPh rwk) by omega), by rw [hR]; exact (show 0 + 0 ≤ (rPh rwk) by omega)⟩) hP hD hS hA [3, 4, 5] [0, 1, 2] rfl rfl (by decide +kernel) (by decide +kernel) (fun r_8 u9 H locs hw_8 hP hD hS => ?_)
  have hr_8 : r_8 = nI (ns F t) := hw_8
  have hPD : my_PD (dC, dI) vwCl A [(co, Sum.inr (2, [Value.long (lN L), Value.long (lN Rg), Value.long xcode, Value.long xreadLow, Value.long xreadRange, Value.ref ri, Value.ref ro, Value.ref rw, Value.int xasked])), (rw, Sum.inr (0, [Value.int (nI bs.length), Value.ref rwa])), (rwa, Sum.inl (cI, rwk, Sum.inl rwf)), (oo, Sum.inr (7, [Value.int osg, Value.int (nI (ns F n)), Value.int ofc, Value.ref oca, Value.ref opa])), (oca, Sum.inl (cI, n, Sum.inl ocf)), (opa, Sum.inl (cI, opl, Sum.inl opf))] H := ⟨hP, hD⟩
  have hP := hPD.1
  have hD := hPD.2
  have z9 : r_8 = nI (ns F t) := hr_8
  subst z9
  refine lv_aload_n hx hb d_Ranged_writeSign_11 rfl (lv_at hl 1 rfl) ?_
  refine va_get (D := (dC, dI)) (ci := 7) (v := .int (nI (ns F n))) (C := "RangeCoders$Odds") (T := T_Odds) (N := 5) hx hb hg in_Odds hown hK hP 3 rfl rfl 1 (by decide) (hg _ k306) (fun _ h9 => h9) rfl d_Ranged_writeSign_12 ?_
  refine my_cvg (wr := [(oo, Sum.inr (7, [Value.int osg, Value.int (nI (ns F n)), Value.int ofc, Value.ref oca, Value.ref opa])), (oca, Sum.inl (cI, n, Sum.inl ocf)), (opa, Sum.inl (cI, opl, Sum.inl opf))]) (va_runU (As := [Value.int (nI (F t)), Value.int (nI (ns F t)), Value.int (nI (ns F n))]) (rest := []) ⟨hx, hb, hml, hown, hts⟩ (f_NoCarries_writePart l dC dI cI cM cO H.size (hSl H) co xcode xreadLow xreadRange ri ro rw xasked Rg L rwa rwk rwf bs (ns F t) (F t) (ns F n) (by omega) (by omega) (hm1) (hFt) (by omega) (by first | assumption | omega) (by first | assumption | omega) (by first | assumption | omega) (by first | assumption | omega)) (va_cwA 3 hts (my_gU k498 k500 k506 k507 k7 k508) rfl rfl rfl (hN.1 _ j499 rfl) (by decide +kernel) ⟨by rw [hR]; exact Nat.le_of_ble_eq_true rfl, by rw [hR]; exact Nat.le_of_ble_eq_true rfl⟩) (my_preVg hK hN (hP.sub [0, 1, 2] rfl) (hD.sub [0, 1, 2] (by decide +kernel) rfl) 0 rfl rfl) rfl rfl hl.1 rfl (lv_room (Nat.le_of_ble_eq_true rfl)) d_Ranged_writeSign_15 ⟨by rw [hR]; exact (show 0 + (rPh rwk) ≤ (rPh rwk) by omega), by rw [hR]; exact (show 0 + (rPh rwk) ≤ (rPh rwk) by omega)⟩) hP hD hS hA [0, 1, 2] [3, 4, 5] rfl rfl (by decide +kernel) (by decide +kernel) (fun u9 d_15 H locs hd_15 hw_15 hP hD hS => ?_)
  obtain ⟨rwaq_15, rwkq_15, rwfq_15⟩ := u9
  obtain ⟨hrw_15, hGrw_15⟩ : rOk (nI ((plS (Rg / (ns F n) * (F t), L + Rg / (ns F n) * (ns F t), bs)).2.2).length) rwkq_15 ∧ gIs rwfq_15 ((plS (Rg / (ns F n) * (F t), L + Rg / (ns F n) * (ns F t), bs)).2.2) := hw_15
  have hd_15 : d_15 + (rPh rwkq_15) ≤ (rPh rwk) := hd_15
  have hPD : my_PD (dC, dI) vwCl A [(oo, Sum.inr (7, [Value.int osg, Value.int (nI (ns F n)), Value.int ofc, Value.ref oca, Value.ref opa])), (oca, Sum.inl (cI, n, Sum.inl ocf)), (opa, Sum.inl (cI, opl, Sum.inl opf)), (co, Sum.inr (2, [Value.long (lN (plS (Rg / (ns F n) * (F t), L + Rg / (ns F n) * (ns F t), bs)).2.1), Value.long (lN (plS (Rg / (ns F n) * (F t), L + Rg / (ns F n) * (ns F t), bs)).1), Value.long xcode, Value.long xreadLow, Value.long xreadRange, Value.ref ri, Value.ref ro, Value.ref rw, Value.int xasked])), (rw, Sum.inr (0, [Value.int (nI (plS (Rg / (ns F n) * (F t), L + Rg / (ns F n) * (ns F t), bs)).2.2.length), Value.ref rwaq_15])), (rwaq_15, Sum.inl (cI, rwkq_15, Sum.inl rwfq_15))] H := ⟨hP, hD⟩
  have hP := hPD.1
  have hD := hPD.2
  refine lv_aload_n hx hb d_Ranged_writeSign_18 rfl (lv_at hl 1 rfl) ?_
  refine lv_iload_n hx hb d_Ranged_writeSign_19 rfl (lv_at hl 2 rfl) ?_
  refine my_cv (wr := [(co, Sum.inr (2, [Value.long (lN (plS (Rg / (ns F n) * (F t), L + Rg / (ns F n) * (ns F t), bs)).2.1), Value.long (lN (plS (Rg / (ns F n) * (F t), L + Rg / (ns F n) * (ns F t), bs)).1), Value.long xcode, Value.long xreadLow, Value.long xreadRange, Value.ref ri, Value.ref ro, Value.ref rw, Value.int xasked])), (rw, Sum.inr (0, [Value.int (nI (plS (Rg / (ns F n) * (F t), L + Rg / (ns F n) * (ns F t), bs)).2.2.length), Value.ref rwaq_15])), (rwaq_15, Sum.inl (cI, rwkq_15, Sum.inl rwfq_15))]) (va_runV (As := [Value.int (nI t)]) (rest := []) ⟨hx, hb, hml, hown, hts⟩ (f_Odds_learn l dC dI cI cM cO H.size oo osg ofc oca opa n ocf opl opf F t (by first | assumption | omega) (by first | assumption | omega) (by first | assumption | omega) (by first | assumption | omega) (by first | assumption | omega) (hbd)) (cwV 1 hts (my_gV k526 k527 k528 k14 k529) rfl rfl rfl cu_Odds_learn_1 ⟨by rw [hR]; exact Nat.le_of_ble_eq_true rfl, by rw [hR]; exact Nat.le_of_ble_eq_true rfl⟩) (my_preV hK hN (hP.sub [0, 1, 2] rfl) (hD.sub [0, 1, 2] (by decide +kernel) rfl) 0 rfl rfl) rfl rfl hl.1 rfl (lv_room (Nat.le_of_ble_eq_true rfl)) d_Ranged_writeSign_20 ⟨by rw [hR]; exact (show (0 + d_15) + 0 ≤ (rPh rwk) by omega), by rw [hR]; exact (show (0 + d_15) + 0 ≤ (rPh rwk) by omega)⟩) hP hD hS hA [0, 1, 2] [3, 4, 5] rfl rfl (by decide +kernel) (by decide +kernel) (fun u9 H locs hw_20 hP hD hS => ?_)
  obtain ⟨ocfq_20, rfl⟩ : ∃ z, z = u9 := ⟨_, rfl⟩
  have hf_20 : tbI ocfq_20 n (lrn n t F) := hw_20
  have hPD : my_PD (dC, dI) vwCl A [(co, Sum.inr (2, [Value.long (lN (plS (Rg / (ns F n) * (F t), L + Rg / (ns F n) * (ns F t), bs)).2.1), Value.long (lN (plS (Rg / (ns F n) * (F t), L + Rg / (ns F n) * (ns F t), bs)).1), Value.long xcode, Value.long xreadLow, Value.long xreadRange, Value.ref ri, Value.ref ro, Value.ref rw, Value.int xasked])), (rw, Sum.inr (0, [Value.int (nI (plS (Rg / (ns F n) * (F t), L + Rg / (ns F n) * (ns F t), bs)).2.2.length), Value.ref rwaq_15])), (rwaq_15, Sum.inl (cI, rwkq_15, Sum.inl rwfq_15)), (oo, Sum.inr (7, [Value.int osg, Value.int (nI (ns (lrn n t F) n)), Value.int ofc, Value.ref oca, Value.ref opa])), (oca, Sum.inl (cI, n, Sum.inl ocfq_20)), (opa, Sum.inl (cI, opl, Sum.inl opf))] H := ⟨hP, hD⟩
  have hP := hPD.1
  have hD := hPD.2
  exact my_vretg hx hb hr hlocks hQ hK hS (rwaq_15, rwkq_15, rwfq_15, ocfq_20) (show (0 + d_15) + (rPh rwkq_15) ≤ (rPh rwk) by omega) (show (0 + d_15) + (rPh rwkq_15) ≤ (rPh rwk) by omega) (⟨hrw_15, hGrw_15, hf_20⟩) (hP.sub [0, 1, 2, 3, 4, 5] rfl) (hD.sub [0, 1, 2, 3, 4, 5] (by decide +kernel) rfl) d_Ranged_writeSign_23
set_option maxHeartbeats 2000000 in
set_option maxRecDepth 100000 in
theorem f_NoCarries_flush (l : Launch) (dC : Nat → ClassId) (dI : Nat → Nat → Nat) (cI cM cO : ClassId) (sz : Nat) (sl : Nat) (co : Nat) (xrange : Int64) (xcode : Int64) (xreadLow : Int64) (xreadRange : Int64) (ri : Nat) (ro : Nat) (rw : Nat) (xasked : Int32) (L : Nat) (rwa : Nat) (rwk : Nat) (rwf : Nat → Int32) (bs : List Nat) (hL : L < 4294967296) (hrw : rOk (nI bs.length) rwk) (hGrw : gIs rwf bs) (hN9 : bs.length + 5 ≤ 7900) : MetVg l y_NoCarries_flush (Cond.code y_NoCarries_flush prog_6_method_4_code 2 none :: gw) ({ frames := 4, cells := rPh rwk, slots := rPh rwk, locals := 103 } : Room) (dC, dI) vwCl (kT cI cM cO) [Value.ref co] [(co, Sum.inr (2, [Value.long (lN L), Value.long xrange, Value.long xcode, Value.long xreadLow, Value.long xreadRange, Value.ref ri, Value.ref ro, Value.ref rw, Value.int xasked])), (rw, Sum.inr (0, [Value.int (nI bs.length), Value.ref rwa])), (rwa, Sum.inl (cI, rwk, Sum.inl rwf))] sz sl (fun (u : Nat × Nat × (Nat → Int32)) => rOk (nI ((tpK 4 (L, bs)).2).length) u.2.1 ∧ gIs u.2.2 ((tpK 4 (L, bs)).2)) (fun (u : Nat × Nat × (Nat → Int32)) => [(co, Sum.inr (2, [Value.long (lN (tpK 4 (L, bs)).1), Value.long xrange, Value.long xcode, Value.long xreadLow, Value.long xreadRange, Value.ref ri, Value.ref ro, Value.ref rw, Value.int xasked])), (rw, Sum.inr (0, [Value.int (nI (tpK 4 (L, bs)).2.length), Value.ref u.1])), (u.1, Sum.inl (cI, u.2.1, Sum.inl u.2.2))]) (rPh rwk) (fun (u : Nat × Nat × (Nat → Int32)) => rPh u.2.1) := by
  refine my_ofVg (cc := prog_6_method_4_code) (n := 2) (ret := none) (by decide) rfl (Nat.le_of_ble_eq_true rfl) ?_
  intro p e s m args below meth c R Q A ls H locs hx hb hr hts hown hlocks hml hnm hR hQ hA hl hP hK hN hD hS
  have hg : ∀ w ∈ gw, w.before args s = true := fun w h => hts w (List.mem_cons_of_mem _ h)
  have hown : s.vm.findClass "RangeCoders$NoCarries" = some m.cls := hown
  have hl : lv_has ls 2 [(0, Value.ref co)] := hl
  have hltw := rOk_lt hrw
  refine lv_iconst (v := 0) hx hb d_NoCarries_flush_0 (by decide) ?_
  refine lv_istore_n (lv' := [(1, Value.int 0), (0, Value.ref co)]) hx hb d_NoCarries_flush_1 rfl hl (by decide) rfl (fun ls hl => ?_)
  have J_2 : ∀ (n9_2 : Nat) (j : Nat) (e9 : Nat × List Nat) (rwa9 : Nat) (rwk9 : Nat) (rwf9 : Nat → Int32) (d9 : Nat) (hn9_2 : 4 - j = n9_2) (hj : j ≤ 4) (hE9 : tpK 4 (L, bs) = tpK (4 - j) e9) (hL9 : e9.1 < 4294967296) (hM9 : e9.2.length ≤ 7895 + j) (hr9 : rOk (nI e9.2.length) rwk9) (hg9 : gIs rwf9 e9.2) (hd9 : d9 + rPh rwk9 ≤ rPh rwk) (H : Heap) (locs : List Loc) (ls : Array Slot), va_P (dC, dI) vwCl [(co, Sum.inr (2, [Value.long (lN e9.1), Value.long xrange, Value.long xcode, Value.long xreadLow, Value.long xreadRange, Value.ref ri, Value.ref ro, Value.ref rw, Value.int xasked])), (rw, Sum.inr (0, [Value.int (nI e9.2.length), Value.ref rwa9])), (rwa9, Sum.inl (cI, rwk9, Sum.inl rwf9))] H → va_D A [(co, Sum.inr (2, [Value.long (lN e9.1), Value.long xrange, Value.long xcode, Value.long xreadLow, Value.long xreadRange, Value.ref ri, Value.ref ro, Value.ref rw, Value.int xasked])), (rw, Sum.inr (0, [Value.int (nI e9.2.length), Value.ref rwa9])), (rwa9, Sum.inl (cI, rwk9, Sum.inl rwf9))] → va_S A s.heap H locs → lv_has ls 2 [(1, Value.int (nI j)), (0, Value.ref co)] → W p l e R s m args below meth c H locs d9 d9 Q (F0 m 2 ls []) := by
    intro n9_2
    induction n9_2 using Nat.strongRecOn with
    | ind n9_2 ih9_2 =>
      intro j e9 rwa9 rwk9 rwf9 d9 hn9_2 hj hE9 hL9 hM9 hr9 hg9 hd9 H locs ls hP hD hS hl
      refine lv_iload_n hx hb d_NoCarries_flush_2 rfl (lv_at hl 0 rfl) ?_
      refine lv_iconst (v := 4) hx hb d_NoCarries_flush_3 (by decide) ?_
      refine lv_icmp_ge (tgt := 17) hx hb d_NoCarries_flush_4 (by decide) (fun c_1 => ?_) (fun c_1 => ?_)
      · have hj3 : j = 4 := by have := nI_ge' (n := 4) (by omega) (by decide) c_1; omega
        have z9 : e9 = tpK 4 (L, bs) := by rw [hE9, hj3]; rfl
        subst z9
        exact my_vretg hx hb hr hlocks hQ hK hS (rwa9, rwk9, rwf9) (show d9 + (rPh rwk9) ≤ (rPh rwk) by omega) (show d9 + (rPh rwk9) ≤ (rPh rwk) by omega) (⟨hr9, hg9⟩) (hP.sub [0, 1, 2] rfl) (hD.sub [0, 1, 2] (by decide +kernel) rfl) d_NoCarries_flush_17
      · have hj2 : j < 4 := nI_lt' (by omega) c_1
        refine lv_aload_n hx hb d_NoCarries_flush_7 rfl (lv_at hl 1 rfl) ?_
        refine my_cvg (wr := []) (va_runV (As := []) (rest := []) ⟨hx, hb, hml, hown, hts⟩ (f_NoCarries_writeTop l dC dI cI cM cO H.size (hSl H) co xrange xcode xreadLow xreadRange ri ro rw xasked e9.1 rwa9 rwk9 rwf9 e9.2 (hL9) (hr9) (hg9) (by omega)) (cwV 0 hts (my_gV k521 k523 ks8 k7 k524) rfl rfl rfl cu_NoCarries_writeTop_0 ⟨by rw [hR]; exact Nat.le_of_ble_eq_true rfl, by rw [hR]; exact Nat.le_of_ble_eq_true rfl⟩) (my_preVg hK hN (hP.sub [0, 1, 2] rfl) (hD.sub [0, 1, 2] (by decide +kernel) rfl) 0 rfl rfl) rfl rfl hl.1 rfl (lv_room (Nat.le_of_ble_eq_true rfl)) d_NoCarries_flush_8 ⟨by rw [hR]; exact (show d9 + (rPh rwk9) ≤ (rPh rwk) by omega), by rw [hR]; exact (show d9 + (rPh rwk9) ≤ (rPh rwk) by omega)⟩) hP hD hS hA [0, 1, 2] [] rfl rfl (by decide +kernel) (by decide +kernel) (fun u9 d_8 H locs hd_8 hw_8 hP hD hS => ?_)
        obtain ⟨rwaq_8, rwkq_8, rwfq_8⟩ := u9
        obtain ⟨hrw_8, hGrw_8⟩ : rOk (nI (e9.2 ++ [e9.1 / 16777216 % 256]).length) rwkq_8 ∧ gIs rwfq_8 (e9.2 ++ [e9.1 / 16777216 % 256]) := hw_8
        have hd_8 : d_8 + (rPh rwkq_8) ≤ (rPh rwk9) := hd_8
        have hPD : my_PD (dC, dI) vwCl A [(co, Sum.inr (2, [Value.long (lN (mvL e9.1)), Value.long xrange, Value.long xcode, Value.long xreadLow, Value.long xreadRange, Value.ref ri, Value.ref ro, Value.ref rw, Value.int xasked])), (rw, Sum.inr (0, [Value.int (nI (e9.2 ++ [e9.1 / 16777216 % 256]).length), Value.ref rwaq_8])), (rwaq_8, Sum.inl (cI, rwkq_8, Sum.inl rwfq_8))] H := ⟨hP, hD⟩
        have hP := hPD.1
        have hD := hPD.2
        obtain ⟨v_2, ev_2⟩ : ∃ y : Int32, y = (nI j) + (1) := ⟨_, rfl⟩
        refine lv_iinc (v := v_2) (lv' := [(1, Value.int v_2), (0, Value.ref co)]) hx hb d_NoCarries_flush_11 hl (k := 0) rfl (by rw [ev_2]; rfl) (by decide) rfl (fun ls hl => ?_)
        have z9 : v_2 = nI (j + 1) := by rw [ev_2]; exact nI_1 _
        subst z9
        refine lv_goto (tgt := 2) hx hb d_NoCarries_flush_14 (by decide) ?_
        exact ih9_2 _ (by first | omega | (omega)) (j + 1) (mvL e9.1, e9.2 ++ [e9.1 / 16777216 % 256]) rwaq_8 rwkq_8 rwfq_8 (d9 + d_8) rfl (by omega) (by rw [hE9, show 4 - j = (4 - (j + 1)) + 1 by omega]; rfl) (Nat.mod_lt _ (by decide)) (by show (e9.2 ++ [_]).length ≤ _; rw [List.length_append, List.length_singleton]; omega) (hrw_8) (hGrw_8) (by omega) H locs ls (hP.sub [0, 1, 2] rfl) (hD.sub [0, 1, 2] (by decide +kernel) rfl) hS (lv_sub hl [0, 1] rfl)
  exact J_2 _ (0 : Nat) (L, bs) rwa rwk rwf (0 : Nat) rfl (by decide) (rfl) (hL) (by show bs.length ≤ _; omega) (hrw) (hGrw) (by omega) H locs ls (hP.sub [0, 1, 2] rfl) (hD.sub [0, 1, 2] (by decide +kernel) rfl) hS (lv_sub hl [0, 1] rfl)
end
