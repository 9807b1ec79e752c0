section
def nearM (v lo hi : Int32) : Int32 := if lo < (if v < hi then v else hi) then (if v < hi then v else hi) else lo
theorem near_lo {v lo hi : Int32} (h : ¬ lo ≤ v) (hh : lo < hi) : nearM v lo hi = lo := by
  unfold nearM
  rw [Int32.le_iff_toInt_le] at h
  rw [Int32.lt_iff_toInt_lt] at hh
  rw [if_pos (show v < hi by rw [Int32.lt_iff_toInt_lt]; omega), if_neg (by rw [Int32.lt_iff_toInt_lt]; omega)]
theorem near_hi {v lo hi : Int32} (h : ¬ v ≤ hi) (hh : lo < hi) : nearM v lo hi = hi := by
  unfold nearM
  rw [Int32.le_iff_toInt_le] at h
  rw [if_neg (show ¬ v < hi by rw [Int32.lt_iff_toInt_lt]; omega), if_pos hh]
theorem near_mid {v lo hi : Int32} (h : lo ≤ v) (h2 : v ≤ hi) : nearM v lo hi = v := by
  unfold nearM
  rw [Int32.le_iff_toInt_le] at h h2
  have e : (if v < hi then v else hi) = v := by
    split
    · rfl
    · rename_i z
      rw [Int32.lt_iff_toInt_lt] at z
      exact Int32.toInt_inj.mp (by omega)
  rw [e]
  split
  · rfl
  · rename_i z
    rw [Int32.lt_iff_toInt_lt] at z
    exact Int32.toInt_inj.mp (by omega)
theorem near_n (v : Int32) {a b : Nat} (hab : a < b) (hb : b < 2 ^ 31) : ∃ n, a ≤ n ∧ n ≤ b ∧ nearM v (nI a) (nI b) = nI n := by
  by_cases h1 : nI a ≤ v
  · by_cases h2 : v ≤ nI b
    · rw [near_mid h1 h2]; exact in_of2 (by omega) hb ⟨h1, h2⟩
    · exact ⟨b, by omega, Nat.le_refl _, near_hi h2 (nI_lt hab hb)⟩
  · exact ⟨a, Nat.le_refl _, by omega, near_lo h1 (nI_lt hab hb)⟩
set_option maxHeartbeats 2000000 in
set_option maxRecDepth 100000 in
theorem c_M_init (l : Launch) (dC : Nat → ClassId) (dI : Nat → Nat → Nat) (cI cM cO : ClassId) (sz : Nat) (sl : Nat) (o : Nat) (p1 : Int32) (p2 : Int32) : MetVg l y_M_init (Cond.code y_M_init prog_14_method_1_code 3 none :: gw) ({ frames := 4, cells := 50000, slots := 50000, locals := 96 } : Room) (dC, dI) vwCl (kT cI cM cO) [Value.ref o, Value.int p1, Value.int p2] [(o, Sum.inr (9, [Value.int 0, Value.int 0, Value.int 0, Value.null, Value.null, Value.null, Value.null, Value.int 0, Value.null, Value.null, Value.int 0, Value.long 0, Value.long 0, Value.int 0, Value.int 0, Value.null, Value.int 0, Value.null, Value.int 0, Value.null, Value.int 0, Value.int 0, Value.int 0, Value.int 0, Value.int 0, Value.int 0, Value.long 0, Value.long 0, Value.long 0, Value.long 0, Value.null, Value.null, Value.null, Value.int 0, Value.int 0]))] sz sl (fun (u : (Nat → Nat) × Int32 × Int32 × (Nat → Int32)) => u.2.1 = nearM p1 0 4 ∧ u.2.2.1 = nearM p2 1 10) (fun (u : (Nat → Nat) × Int32 × Int32 × (Nat → Int32)) => [(o, Sum.inr (9, mO u.1 u.2.1 u.2.2.1 0 0 0 0 4294967295 (-1) 0 0 0 0 0 0 0 0 0 0 0 0 0 0 0)), ((u.1 0), Sum.inl (cI, 8, Sum.inl (fun _ => 0))), ((u.1 1), Sum.inl (cI, 512, Sum.inl (fun _ => 0))), ((u.1 2), Sum.inl (cI, 512, Sum.inl u.2.2.2)), ((u.1 3), Sum.inl (cI, 512, Sum.inl (fun _ => 0))), ((u.1 4), Sum.inl (cI, 600, Sum.inl (fun _ => 0))), ((u.1 5), Sum.inl (cI, 600, Sum.inl (fun _ => 0))), ((u.1 6), Sum.inl (cI, 9000, Sum.inl (fun _ => 0))), ((u.1 7), Sum.inl (cI, 9000, Sum.inl (fun _ => 0))), ((u.1 8), Sum.inl (cI, 6000, Sum.inl (fun _ => 0))), ((u.1 9), Sum.inl (cI, 512, Sum.inl (fun _ => 0))), ((u.1 10), Sum.inl (cI, 512, Sum.inl (fun _ => 0))), ((u.1 11), Sum.inl (cI, 20000, Sum.inl (fun _ => 0)))]) 50000 (fun (u : (Nat → Nat) × Int32 × Int32 × (Nat → Int32)) => 0) := by
  refine my_ofVg (cc := prog_14_method_1_code) (n := 3) (ret := none) (by decide) rfl (Nat.le_of_ble_eq_true rfl) ?_
  intro p e s m args below meth c R Q A ls H locs hx hb hr hts hown hlocks hml hnm hR hQ hA hl hP hK hN hD hS
  have hg : ∀ w ∈ gw, w.before args s = true := fun w h => hts w (List.mem_cons_of_mem _ h)
  have hown : s.vm.findClass "RangeCodersModel" = some m.cls := hown
  replace hl : lv_has ls 3 [(0, Value.ref o), (1, Value.int p1), (2, Value.int p2)] := hl
  refine lv_aload_n hx hb d_M_init_0 rfl (lv_at hl 0 rfl) ?_
  refine W.objInit hx hb hown (hg _ k922) (hg _ k23) (hg _ k24) rfl (by rw [hml]; exact hl.1) rfl d_M_init_1 (by rw [hR]; exact Nat.le_of_ble_eq_true rfl) (by rw [hR]; exact Nat.le_of_ble_eq_true rfl) ?_
  refine W.eq (g2 := F0 m 4 ls []) rfl ?_
  refine lv_aload_n hx hb d_M_init_4 rfl (lv_at hl 0 rfl) ?_
  refine lv_bipush (v := 8) hx hb d_M_init_5 (by decide) ?_
  refine my_newi hx hb (hg _ k66) hK 0 rfl hP hD hS hA (N' := 8) (by decide) (rfl) (by decide) (by rw [hR]; exact (show 0 + 1 ≤ 50000 by decide)) (by rw [hR]; exact (show 0 + 8 ≤ 50000 by decide)) d_M_init_7 (fun q_1 _ _ _ _ => ?_)
  clear hP hD hS
  rename_i H hP hD hS
  replace hP : va_P (dC, dI) vwCl [(o, Sum.inr (9, [Value.int 0, Value.int 0, Value.int 0, Value.null, Value.null, Value.null, Value.null, Value.int 0, Value.null, Value.null, Value.int 0, Value.long 0, Value.long 0, Value.int 0, Value.int 0, Value.null, Value.int 0, Value.null, Value.int 0, Value.null, Value.int 0, Value.int 0, Value.int 0, Value.int 0, Value.int 0, Value.int 0, Value.long 0, Value.long 0, Value.long 0, Value.long 0, Value.null, Value.null, Value.null, Value.int 0, Value.int 0])), (q_1, Sum.inl (cI, 8, Sum.inl (fun _ => 0)))] H := hP
  replace hD : va_D A [(o, Sum.inr (9, [Value.int 0, Value.int 0, Value.int 0, Value.null, Value.null, Value.null, Value.null, Value.int 0, Value.null, Value.null, Value.int 0, Value.long 0, Value.long 0, Value.int 0, Value.int 0, Value.null, Value.int 0, Value.null, Value.int 0, Value.null, Value.int 0, Value.int 0, Value.int 0, Value.int 0, Value.int 0, Value.int 0, Value.long 0, Value.long 0, Value.long 0, Value.long 0, Value.null, Value.null, Value.null, Value.int 0, Value.int 0])), (q_1, Sum.inl (cI, 8, Sum.inl (fun _ => 0)))] := hD
  refine va_putF (D := (dC, dI)) (ci := 9) (v := .ref q_1) (ty := (.array .int)) (C := "RangeCodersModel") (T := T_M) (N := 35) hx hb hg in_M t_M o_M n_M hown hK hP hD hS 0 rfl rfl 3 (by decide) (hg _ k955) (fun _ h9 => h9) rfl (by rw [hnm]; rfl) rfl (by decide +kernel) rfl rfl (Nat.le_of_ble_eq_true rfl) d_M_init_9 (fun _ _ _ _ _ => ?_)
  clear hP hD hS
  rename_i H locs hP hD hS
  replace hP : va_P (dC, dI) vwCl [(o, Sum.inr (9, [Value.int 0, Value.int 0, Value.int 0, Value.ref q_1, Value.null, Value.null, Value.null, Value.int 0, Value.null, Value.null, Value.int 0, Value.long 0, Value.long 0, Value.int 0, Value.int 0, Value.null, Value.int 0, Value.null, Value.int 0, Value.null, Value.int 0, Value.int 0, Value.int 0, Value.int 0, Value.int 0, Value.int 0, Value.long 0, Value.long 0, Value.long 0, Value.long 0, Value.null, Value.null, Value.null, Value.int 0, Value.int 0])), (q_1, Sum.inl (cI, 8, Sum.inl (fun _ => 0)))] H := hP
  replace hD : va_D A [(o, Sum.inr (9, [Value.int 0, Value.int 0, Value.int 0, Value.ref q_1, Value.null, Value.null, Value.null, Value.int 0, Value.null, Value.null, Value.int 0, Value.long 0, Value.long 0, Value.int 0, Value.int 0, Value.null, Value.int 0, Value.null, Value.int 0, Value.null, Value.int 0, Value.int 0, Value.int 0, Value.int 0, Value.int 0, Value.int 0, Value.long 0, Value.long 0, Value.long 0, Value.long 0, Value.null, Value.null, Value.null, Value.int 0, Value.int 0])), (q_1, Sum.inl (cI, 8, Sum.inl (fun _ => 0)))] := hD
  refine lv_aload_n hx hb d_M_init_12 rfl (lv_at hl 0 rfl) ?_
  refine lv_sipush (v := 512) hx hb d_M_init_13 (by decide) ?_
  refine my_newi hx hb (hg _ k66) hK 0 rfl hP hD hS hA (N' := 512) (by decide) (rfl) (by decide) (by rw [hR]; exact (show 0 + 1 + 1 ≤ 50000 by decide)) (by rw [hR]; exact (show 0 + 8 + 512 ≤ 50000 by decide)) d_M_init_16 (fun q_2 _ _ _ _ => ?_)
  clear hP hD hS
  rename_i H hP hD hS
  replace hP : va_P (dC, dI) vwCl [(o, Sum.inr (9, [Value.int 0, Value.int 0, Value.int 0, Value.ref q_1, Value.null, Value.null, Value.null, Value.int 0, Value.null, Value.null, Value.int 0, Value.long 0, Value.long 0, Value.int 0, Value.int 0, Value.null, Value.int 0, Value.null, Value.int 0, Value.null, Value.int 0, Value.int 0, Value.int 0, Value.int 0, Value.int 0, Value.int 0, Value.long 0, Value.long 0, Value.long 0, Value.long 0, Value.null, Value.null, Value.null, Value.int 0, Value.int 0])), (q_1, Sum.inl (cI, 8, Sum.inl (fun _ => 0))), (q_2, Sum.inl (cI, 512, Sum.inl (fun _ => 0)))] H := hP
  replace hD : va_D A [(o, Sum.inr (9, [Value.int 0, Value.int 0, Value.int 0, Value.ref q_1, Value.null, Value.null, Value.null, Value.int 0, Value.null, Value.null, Value.int 0, Value.long 0, Value.long 0, Value.int 0, Value.int 0, Value.null, Value.int 0, Value.null, Value.int 0, Value.null, Value.int 0, Value.int 0, Value.int 0, Value.int 0, Value.int 0, Value.int 0, Value.long 0, Value.long 0, Value.long 0, Value.long 0, Value.null, Value.null, Value.null, Value.int 0, Value.int 0])), (q_1, Sum.inl (cI, 8, Sum.inl (fun _ => 0))), (q_2, Sum.inl (cI, 512, Sum.inl (fun _ => 0)))] := hD
  refine va_putF (D := (dC, dI)) (ci := 9) (v := .ref q_2) (ty := (.array .int)) (C := "RangeCodersModel") (T := T_M) (N := 35) hx hb hg in_M t_M o_M n_M hown hK hP hD hS 0 rfl rfl 4 (by decide) (hg _ k956) (fun _ h9 => h9) rfl (by rw [hnm]; rfl) rfl (by decide +kernel) rfl rfl (Nat.le_of_ble_eq_true rfl) d_M_init_18 (fun _ _ _ _ _ => ?_)
  clear hP hD hS
  rename_i H locs hP hD hS
  replace hP : va_P (dC, dI) vwCl [(o, Sum.inr (9, [Value.int 0, Value.int 0, Value.int 0, Value.ref q_1, Value.ref q_2, Value.null, Value.null, Value.int 0, Value.null, Value.null, Value.int 0, Value.long 0, Value.long 0, Value.int 0, Value.int 0, Value.null, Value.int 0, Value.null, Value.int 0, Value.null, Value.int 0, Value.int 0, Value.int 0, Value.int 0, Value.int 0, Value.int 0, Value.long 0, Value.long 0, Value.long 0, Value.long 0, Value.null, Value.null, Value.null, Value.int 0, Value.int 0])), (q_1, Sum.inl (cI, 8, Sum.inl (fun _ => 0))), (q_2, Sum.inl (cI, 512, Sum.inl (fun _ => 0)))] H := hP
  replace hD : va_D A [(o, Sum.inr (9, [Value.int 0, Value.int 0, Value.int 0, Value.ref q_1, Value.ref q_2, Value.null, Value.null, Value.int 0, Value.null, Value.null, Value.int 0, Value.long 0, Value.long 0, Value.int 0, Value.int 0, Value.null, Value.int 0, Value.null, Value.int 0, Value.null, Value.int 0, Value.int 0, Value.int 0, Value.int 0, Value.int 0, Value.int 0, Value.long 0, Value.long 0, Value.long 0, Value.long 0, Value.null, Value.null, Value.null, Value.int 0, Value.int 0])), (q_1, Sum.inl (cI, 8, Sum.inl (fun _ => 0))), (q_2, Sum.inl (cI, 512, Sum.inl (fun _ => 0)))] := hD
  refine lv_aload_n hx hb d_M_init_21 rfl (lv_at hl 0 rfl) ?_
  refine lv_sipush (v := 512) hx hb d_M_init_22 (by decide) ?_
  refine my_newi hx hb (hg _ k66) hK 0 rfl hP hD hS hA (N' := 512) (by decide) (rfl) (by decide) (by rw [hR]; exact (show 0 + 1 + 1 + 1 ≤ 50000 by decide)) (by rw [hR]; exact (show 0 + 8 + 512 + 512 ≤ 50000 by decide)) d_M_init_25 (fun q_3 _ _ _ _ => ?_)
  clear hP hD hS
  rename_i H hP hD hS
  replace hP : va_P (dC, dI) vwCl [(o, Sum.inr (9, [Value.int 0, Value.int 0, Value.int 0, Value.ref q_1, Value.ref q_2, Value.null, Value.null, Value.int 0, Value.null, Value.null, Value.int 0, Value.long 0, Value.long 0, Value.int 0, Value.int 0, Value.null, Value.int 0, Value.null, Value.int 0, Value.null, Value.int 0, Value.int 0, Value.int 0, Value.int 0, Value.int 0, Value.int 0, Value.long 0, Value.long 0, Value.long 0, Value.long 0, Value.null, Value.null, Value.null, Value.int 0, Value.int 0])), (q_1, Sum.inl (cI, 8, Sum.inl (fun _ => 0))), (q_2, Sum.inl (cI, 512, Sum.inl (fun _ => 0))), (q_3, Sum.inl (cI, 512, Sum.inl (fun _ => 0)))] H := hP
  replace hD : va_D A [(o, Sum.inr (9, [Value.int 0, Value.int 0, Value.int 0, Value.ref q_1, Value.ref q_2, Value.null, Value.null, Value.int 0, Value.null, Value.null, Value.int 0, Value.long 0, Value.long 0, Value.int 0, Value.int 0, Value.null, Value.int 0, Value.null, Value.int 0, Value.null, Value.int 0, Value.int 0, Value.int 0, Value.int 0, Value.int 0, Value.int 0, Value.long 0, Value.long 0, Value.long 0, Value.long 0, Value.null, Value.null, Value.null, Value.int 0, Value.int 0])), (q_1, Sum.inl (cI, 8, Sum.inl (fun _ => 0))), (q_2, Sum.inl (cI, 512, Sum.inl (fun _ => 0))), (q_3, Sum.inl (cI, 512, Sum.inl (fun _ => 0)))] := hD
  refine va_putF (D := (dC, dI)) (ci := 9) (v := .ref q_3) (ty := (.array .int)) (C := "RangeCodersModel") (T := T_M) (N := 35) hx hb hg in_M t_M o_M n_M hown hK hP hD hS 0 rfl rfl 5 (by decide) (hg _ k957) (fun _ h9 => h9) rfl (by rw [hnm]; rfl) rfl (by decide +kernel) rfl rfl (Nat.le_of_ble_eq_true rfl) d_M_init_27 (fun _ _ _ _ _ => ?_)
  clear hP hD hS
  rename_i H locs hP hD hS
  replace hP : va_P (dC, dI) vwCl [(o, Sum.inr (9, [Value.int 0, Value.int 0, Value.int 0, Value.ref q_1, Value.ref q_2, Value.ref q_3, Value.null, Value.int 0, Value.null, Value.null, Value.int 0, Value.long 0, Value.long 0, Value.int 0, Value.int 0, Value.null, Value.int 0, Value.null, Value.int 0, Value.null, Value.int 0, Value.int 0, Value.int 0, Value.int 0, Value.int 0, Value.int 0, Value.long 0, Value.long 0, Value.long 0, Value.long 0, Value.null, Value.null, Value.null, Value.int 0, Value.int 0])), (q_1, Sum.inl (cI, 8, Sum.inl (fun _ => 0))), (q_2, Sum.inl (cI, 512, Sum.inl (fun _ => 0))), (q_3, Sum.inl (cI, 512, Sum.inl (fun _ => 0)))] H := hP
  replace hD : va_D A [(o, Sum.inr (9, [Value.int 0, Value.int 0, Value.int 0, Value.ref q_1, Value.ref q_2, Value.ref q_3, Value.null, Value.int 0, Value.null, Value.null, Value.int 0, Value.long 0, Value.long 0, Value.int 0, Value.int 0, Value.null, Value.int 0, Value.null, Value.int 0, Value.null, Value.int 0, Value.int 0, Value.int 0, Value.int 0, Value.int 0, Value.int 0, Value.long 0, Value.long 0, Value.long 0, Value.long 0, Value.null, Value.null, Value.null, Value.int 0, Value.int 0])), (q_1, Sum.inl (cI, 8, Sum.inl (fun _ => 0))), (q_2, Sum.inl (cI, 512, Sum.inl (fun _ => 0))), (q_3, Sum.inl (cI, 512, Sum.inl (fun _ => 0)))] := hD
  refine lv_aload_n hx hb d_M_init_30 rfl (lv_at hl 0 rfl) ?_
  refine lv_sipush (v := 512) hx hb d_M_init_31 (by decide) ?_
  refine my_newi hx hb (hg _ k66) hK 0 rfl hP hD hS hA (N' := 512) (by decide) (rfl) (by decide) (by rw [hR]; exact (show 0 + 1 + 1 + 1 + 1 ≤ 50000 by decide)) (by rw [hR]; exact (show 0 + 8 + 512 + 512 + 512 ≤ 50000 by decide)) d_M_init_34 (fun q_4 _ _ _ _ => ?_)
  clear hP hD hS
  rename_i H hP hD hS
  replace hP : va_P (dC, dI) vwCl [(o, Sum.inr (9, [Value.int 0, Value.int 0, Value.int 0, Value.ref q_1, Value.ref q_2, Value.ref q_3, Value.null, Value.int 0, Value.null, Value.null, Value.int 0, Value.long 0, Value.long 0, Value.int 0, Value.int 0, Value.null, Value.int 0, Value.null, Value.int 0, Value.null, Value.int 0, Value.int 0, Value.int 0, Value.int 0, Value.int 0, Value.int 0, Value.long 0, Value.long 0, Value.long 0, Value.long 0, Value.null, Value.null, Value.null, Value.int 0, Value.int 0])), (q_1, Sum.inl (cI, 8, Sum.inl (fun _ => 0))), (q_2, Sum.inl (cI, 512, Sum.inl (fun _ => 0))), (q_3, Sum.inl (cI, 512, Sum.inl (fun _ => 0))), (q_4, Sum.inl (cI, 512, Sum.inl (fun _ => 0)))] H := hP
  replace hD : va_D A [(o, Sum.inr (9, [Value.int 0, Value.int 0, Value.int 0, Value.ref q_1, Value.ref q_2, Value.ref q_3, Value.null, Value.int 0, Value.null, Value.null, Value.int 0, Value.long 0, Value.long 0, Value.int 0, Value.int 0, Value.null, Value.int 0, Value.null, Value.int 0, Value.null, Value.int 0, Value.int 0, Value.int 0, Value.int 0, Value.int 0, Value.int 0, Value.long 0, Value.long 0, Value.long 0, Value.long 0, Value.null, Value.null, Value.null, Value.int 0, Value.int 0])), (q_1, Sum.inl (cI, 8, Sum.inl (fun _ => 0))), (q_2, Sum.inl (cI, 512, Sum.inl (fun _ => 0))), (q_3, Sum.inl (cI, 512, Sum.inl (fun _ => 0))), (q_4, Sum.inl (cI, 512, Sum.inl (fun _ => 0)))] := hD
  refine va_putF (D := (dC, dI)) (ci := 9) (v := .ref q_4) (ty := (.array .int)) (C := "RangeCodersModel") (T := T_M) (N := 35) hx hb hg in_M t_M o_M n_M hown hK hP hD hS 0 rfl rfl 6 (by decide) (hg _ k958) (fun _ h9 => h9) rfl (by rw [hnm]; rfl) rfl (by decide +kernel) rfl rfl (Nat.le_of_ble_eq_true rfl) d_M_init_36 (fun _ _ _ _ _ => ?_)
  clear hP hD hS
  rename_i H locs hP hD hS
  replace hP : va_P (dC, dI) vwCl [(o, Sum.inr (9, [Value.int 0, Value.int 0, Value.int 0, Value.ref q_1, Value.ref q_2, Value.ref q_3, Value.ref q_4, Value.int 0, Value.null, Value.null, Value.int 0, Value.long 0, Value.long 0, Value.int 0, Value.int 0, Value.null, Value.int 0, Value.null, Value.int 0, Value.null, Value.int 0, Value.int 0, Value.int 0, Value.int 0, Value.int 0, Value.int 0, Value.long 0, Value.long 0, Value.long 0, Value.long 0, Value.null, Value.null, Value.null, Value.int 0, Value.int 0])), (q_1, Sum.inl (cI, 8, Sum.inl (fun _ => 0))), (q_2, Sum.inl (cI, 512, Sum.inl (fun _ => 0))), (q_3, Sum.inl (cI, 512, Sum.inl (fun _ => 0))), (q_4, Sum.inl (cI, 512, Sum.inl (fun _ => 0)))] H := hP
  replace hD : va_D A [(o, Sum.inr (9, [Value.int 0, Value.int 0, Value.int 0, Value.ref q_1, Value.ref q_2, Value.ref q_3, Value.ref q_4, Value.int 0, Value.null, Value.null, Value.int 0, Value.long 0, Value.long 0, Value.int 0, Value.int 0, Value.null, Value.int 0, Value.null, Value.int 0, Value.null, Value.int 0, Value.int 0, Value.int 0, Value.int 0, Value.int 0, Value.int 0, Value.long 0, Value.long 0, Value.long 0, Value.long 0, Value.null, Value.null, Value.null, Value.int 0, Value.int 0])), (q_1, Sum.inl (cI, 8, Sum.inl (fun _ => 0))), (q_2, Sum.inl (cI, 512, Sum.inl (fun _ => 0))), (q_3, Sum.inl (cI, 512, Sum.inl (fun _ => 0))), (q_4, Sum.inl (cI, 512, Sum.inl (fun _ => 0)))] := hD
  refine lv_aload_n hx hb d_M_init_39 rfl (lv_at hl 0 rfl) ?_
  refine lv_sipush (v := 600) hx hb d_M_init_40 (by decide) ?_
  refine my_newi hx hb (hg _ k66) hK 0 rfl hP hD hS hA (N' := 600) (by decide) (rfl) (by decide) (by rw [hR]; exact (show 0 + 1 + 1 + 1 + 1 + 1 ≤ 50000 by decide)) (by rw [hR]; exact (show 0 + 8 + 512 + 512 + 512 + 600 ≤ 50000 by decide)) d_M_init_43 (fun q_5 _ _ _ _ => ?_)
  clear hP hD hS
  rename_i H hP hD hS
  replace hP : va_P (dC, dI) vwCl [(o, Sum.inr (9, [Value.int 0, Value.int 0, Value.int 0, Value.ref q_1, Value.ref q_2, Value.ref q_3, Value.ref q_4, Value.int 0, Value.null, Value.null, Value.int 0, Value.long 0, Value.long 0, Value.int 0, Value.int 0, Value.null, Value.int 0, Value.null, Value.int 0, Value.null, Value.int 0, Value.int 0, Value.int 0, Value.int 0, Value.int 0, Value.int 0, Value.long 0, Value.long 0, Value.long 0, Value.long 0, Value.null, Value.null, Value.null, Value.int 0, Value.int 0])), (q_1, Sum.inl (cI, 8, Sum.inl (fun _ => 0))), (q_2, Sum.inl (cI, 512, Sum.inl (fun _ => 0))), (q_3, Sum.inl (cI, 512, Sum.inl (fun _ => 0))), (q_4, Sum.inl (cI, 512, Sum.inl (fun _ => 0))), (q_5, Sum.inl (cI, 600, Sum.inl (fun _ => 0)))] H := hP
  replace hD : va_D A [(o, Sum.inr (9, [Value.int 0, Value.int 0, Value.int 0, Value.ref q_1, Value.ref q_2, Value.ref q_3, Value.ref q_4, Value.int 0, Value.null, Value.null, Value.int 0, Value.long 0, Value.long 0, Value.int 0, Value.int 0, Value.null, Value.int 0, Value.null, Value.int 0, Value.null, Value.int 0, Value.int 0, Value.int 0, Value.int 0, Value.int 0, Value.int 0, Value.long 0, Value.long 0, Value.long 0, Value.long 0, Value.null, Value.null, Value.null, Value.int 0, Value.int 0])), (q_1, Sum.inl (cI, 8, Sum.inl (fun _ => 0))), (q_2, Sum.inl (cI, 512, Sum.inl (fun _ => 0))), (q_3, Sum.inl (cI, 512, Sum.inl (fun _ => 0))), (q_4, Sum.inl (cI, 512, Sum.inl (fun _ => 0))), (q_5, Sum.inl (cI, 600, Sum.inl (fun _ => 0)))] := hD
  refine va_putF (D := (dC, dI)) (ci := 9) (v := .ref q_5) (ty := (.array .int)) (C := "RangeCodersModel") (T := T_M) (N := 35) hx hb hg in_M t_M o_M n_M hown hK hP hD hS 0 rfl rfl 8 (by decide) (hg _ k960) (fun _ h9 => h9) rfl (by rw [hnm]; rfl) rfl (by decide +kernel) rfl rfl (Nat.le_of_ble_eq_true rfl) d_M_init_45 (fun _ _ _ _ _ => ?_)
  clear hP hD hS
  rename_i H locs hP hD hS
  replace hP : va_P (dC, dI) vwCl [(o, Sum.inr (9, [Value.int 0, Value.int 0, Value.int 0, Value.ref q_1, Value.ref q_2, Value.ref q_3, Value.ref q_4, Value.int 0, Value.ref q_5, Value.null, Value.int 0, Value.long 0, Value.long 0, Value.int 0, Value.int 0, Value.null, Value.int 0, Value.null, Value.int 0, Value.null, Value.int 0, Value.int 0, Value.int 0, Value.int 0, Value.int 0, Value.int 0, Value.long 0, Value.long 0, Value.long 0, Value.long 0, Value.null, Value.null, Value.null, Value.int 0, Value.int 0])), (q_1, Sum.inl (cI, 8, Sum.inl (fun _ => 0))), (q_2, Sum.inl (cI, 512, Sum.inl (fun _ => 0))), (q_3, Sum.inl (cI, 512, Sum.inl (fun _ => 0))), (q_4, Sum.inl (cI, 512, Sum.inl (fun _ => 0))), (q_5, Sum.inl (cI, 600, Sum.inl (fun _ => 0)))] H := hP
  replace hD : va_D A [(o, Sum.inr (9, [Value.int 0, Value.int 0, Value.int 0, Value.ref q_1, Value.ref q_2, Value.ref q_3, Value.ref q_4, Value.int 0, Value.ref q_5, Value.null, Value.int 0, Value.long 0, Value.long 0, Value.int 0, Value.int 0, Value.null, Value.int 0, Value.null, Value.int 0, Value.null, Value.int 0, Value.int 0, Value.int 0, Value.int 0, Value.int 0, Value.int 0, Value.long 0, Value.long 0, Value.long 0, Value.long 0, Value.null, Value.null, Value.null, Value.int 0, Value.int 0])), (q_1, Sum.inl (cI, 8, Sum.inl (fun _ => 0))), (q_2, Sum.inl (cI, 512, Sum.inl (fun _ => 0))), (q_3, Sum.inl (cI, 512, Sum.inl (fun _ => 0))), (q_4, Sum.inl (cI, 512, Sum.inl (fun _ => 0))), (q_5, Sum.inl (cI, 600, Sum.inl (fun _ => 0)))] := hD
  refine lv_aload_n hx hb d_M_init_48 rfl (lv_at hl 0 rfl) ?_
  refine lv_sipush (v := 600) hx hb d_M_init_49 (by decide) ?_
  refine my_newi hx hb (hg _ k66) hK 0 rfl hP hD hS hA (N' := 600) (by decide) (rfl) (by decide) (by rw [hR]; exact (show 0 + 1 + 1 + 1 + 1 + 1 + 1 ≤ 50000 by decide)) (by rw [hR]; exact (show 0 + 8 + 512 + 512 + 512 + 600 + 600 ≤ 50000 by decide)) d_M_init_52 (fun q_6 _ _ _ _ => ?_)
  clear hP hD hS
  rename_i H hP hD hS
  replace hP : va_P (dC, dI) vwCl [(o, Sum.inr (9, [Value.int 0, Value.int 0, Value.int 0, Value.ref q_1, Value.ref q_2, Value.ref q_3, Value.ref q_4, Value.int 0, Value.ref q_5, Value.null, Value.int 0, Value.long 0, Value.long 0, Value.int 0, Value.int 0, Value.null, Value.int 0, Value.null, Value.int 0, Value.null, Value.int 0, Value.int 0, Value.int 0, Value.int 0, Value.int 0, Value.int 0, Value.long 0, Value.long 0, Value.long 0, Value.long 0, Value.null, Value.null, Value.null, Value.int 0, Value.int 0])), (q_1, Sum.inl (cI, 8, Sum.inl (fun _ => 0))), (q_2, Sum.inl (cI, 512, Sum.inl (fun _ => 0))), (q_3, Sum.inl (cI, 512, Sum.inl (fun _ => 0))), (q_4, Sum.inl (cI, 512, Sum.inl (fun _ => 0))), (q_5, Sum.inl (cI, 600, Sum.inl (fun _ => 0))), (q_6, Sum.inl (cI, 600, Sum.inl (fun _ => 0)))] H := hP
  replace hD : va_D A [(o, Sum.inr (9, [Value.int 0, Value.int 0, Value.int 0, Value.ref q_1, Value.ref q_2, Value.ref q_3, Value.ref q_4, Value.int 0, Value.ref q_5, Value.null, Value.int 0, Value.long 0, Value.long 0, Value.int 0, Value.int 0, Value.null, Value.int 0, Value.null, Value.int 0, Value.null, Value.int 0, Value.int 0, Value.int 0, Value.int 0, Value.int 0, Value.int 0, Value.long 0, Value.long 0, Value.long 0, Value.long 0, Value.null, Value.null, Value.null, Value.int 0, Value.int 0])), (q_1, Sum.inl (cI, 8, Sum.inl (fun _ => 0))), (q_2, Sum.inl (cI, 512, Sum.inl (fun _ => 0))), (q_3, Sum.inl (cI, 512, Sum.inl (fun _ => 0))), (q_4, Sum.inl (cI, 512, Sum.inl (fun _ => 0))), (q_5, Sum.inl (cI, 600, Sum.inl (fun _ => 0))), (q_6, Sum.inl (cI, 600, Sum.inl (fun _ => 0)))] := hD
  refine va_putF (D := (dC, dI)) (ci := 9) (v := .ref q_6) (ty := (.array .int)) (C := "RangeCodersModel") (T := T_M) (N := 35) hx hb hg in_M t_M o_M n_M hown hK hP hD hS 0 rfl rfl 9 (by decide) (hg _ k961) (fun _ h9 => h9) rfl (by rw [hnm]; rfl) rfl (by decide +kernel) rfl rfl (Nat.le_of_ble_eq_true rfl) d_M_init_54 (fun _ _ _ _ _ => ?_)
  clear hP hD hS
  rename_i H locs hP hD hS
  replace hP : va_P (dC, dI) vwCl [(o, Sum.inr (9, [Value.int 0, Value.int 0, Value.int 0, Value.ref q_1, Value.ref q_2, Value.ref q_3, Value.ref q_4, Value.int 0, Value.ref q_5, Value.ref q_6, Value.int 0, Value.long 0, Value.long 0, Value.int 0, Value.int 0, Value.null, Value.int 0, Value.null, Value.int 0, Value.null, Value.int 0, Value.int 0, Value.int 0, Value.int 0, Value.int 0, Value.int 0, Value.long 0, Value.long 0, Value.long 0, Value.long 0, Value.null, Value.null, Value.null, Value.int 0, Value.int 0])), (q_1, Sum.inl (cI, 8, Sum.inl (fun _ => 0))), (q_2, Sum.inl (cI, 512, Sum.inl (fun _ => 0))), (q_3, Sum.inl (cI, 512, Sum.inl (fun _ => 0))), (q_4, Sum.inl (cI, 512, Sum.inl (fun _ => 0))), (q_5, Sum.inl (cI, 600, Sum.inl (fun _ => 0))), (q_6, Sum.inl (cI, 600, Sum.inl (fun _ => 0)))] H := hP
  replace hD : va_D A [(o, Sum.inr (9, [Value.int 0, Value.int 0, Value.int 0, Value.ref q_1, Value.ref q_2, Value.ref q_3, Value.ref q_4, Value.int 0, Value.ref q_5, Value.ref q_6, Value.int 0, Value.long 0, Value.long 0, Value.int 0, Value.int 0, Value.null, Value.int 0, Value.null, Value.int 0, Value.null, Value.int 0, Value.int 0, Value.int 0, Value.int 0, Value.int 0, Value.int 0, Value.long 0, Value.long 0, Value.long 0, Value.long 0, Value.null, Value.null, Value.null, Value.int 0, Value.int 0])), (q_1, Sum.inl (cI, 8, Sum.inl (fun _ => 0))), (q_2, Sum.inl (cI, 512, Sum.inl (fun _ => 0))), (q_3, Sum.inl (cI, 512, Sum.inl (fun _ => 0))), (q_4, Sum.inl (cI, 512, Sum.inl (fun _ => 0))), (q_5, Sum.inl (cI, 600, Sum.inl (fun _ => 0))), (q_6, Sum.inl (cI, 600, Sum.inl (fun _ => 0)))] := hD
  refine lv_aload_n hx hb d_M_init_57 rfl (lv_at hl 0 rfl) ?_
  refine lv_sipush (v := 9000) hx hb d_M_init_58 (by decide) ?_
  refine my_newi hx hb (hg _ k66) hK 0 rfl hP hD hS hA (N' := 9000) (by decide) (rfl) (by decide) (by rw [hR]; exact (show 0 + 1 + 1 + 1 + 1 + 1 + 1 + 1 ≤ 50000 by decide)) (by rw [hR]; exact (show 0 + 8 + 512 + 512 + 512 + 600 + 600 + 9000 ≤ 50000 by decide)) d_M_init_61 (fun q_7 _ _ _ _ => ?_)
  clear hP hD hS
  rename_i H hP hD hS
  replace hP : va_P (dC, dI) vwCl [(o, Sum.inr (9, [Value.int 0, Value.int 0, Value.int 0, Value.ref q_1, Value.ref q_2, Value.ref q_3, Value.ref q_4, Value.int 0, Value.ref q_5, Value.ref q_6, Value.int 0, Value.long 0, Value.long 0, Value.int 0, Value.int 0, Value.null, Value.int 0, Value.null, Value.int 0, Value.null, Value.int 0, Value.int 0, Value.int 0, Value.int 0, Value.int 0, Value.int 0, Value.long 0, Value.long 0, Value.long 0, Value.long 0, Value.null, Value.null, Value.null, Value.int 0, Value.int 0])), (q_1, Sum.inl (cI, 8, Sum.inl (fun _ => 0))), (q_2, Sum.inl (cI, 512, Sum.inl (fun _ => 0))), (q_3, Sum.inl (cI, 512, Sum.inl (fun _ => 0))), (q_4, Sum.inl (cI, 512, Sum.inl (fun _ => 0))), (q_5, Sum.inl (cI, 600, Sum.inl (fun _ => 0))), (q_6, Sum.inl (cI, 600, Sum.inl (fun _ => 0))), (q_7, Sum.inl (cI, 9000, Sum.inl (fun _ => 0)))] H := hP
  replace hD : va_D A [(o, Sum.inr (9, [Value.int 0, Value.int 0, Value.int 0, Value.ref q_1, Value.ref q_2, Value.ref q_3, Value.ref q_4, Value.int 0, Value.ref q_5, Value.ref q_6, Value.int 0, Value.long 0, Value.long 0, Value.int 0, Value.int 0, Value.null, Value.int 0, Value.null, Value.int 0, Value.null, Value.int 0, Value.int 0, Value.int 0, Value.int 0, Value.int 0, Value.int 0, Value.long 0, Value.long 0, Value.long 0, Value.long 0, Value.null, Value.null, Value.null, Value.int 0, Value.int 0])), (q_1, Sum.inl (cI, 8, Sum.inl (fun _ => 0))), (q_2, Sum.inl (cI, 512, Sum.inl (fun _ => 0))), (q_3, Sum.inl (cI, 512, Sum.inl (fun _ => 0))), (q_4, Sum.inl (cI, 512, Sum.inl (fun _ => 0))), (q_5, Sum.inl (cI, 600, Sum.inl (fun _ => 0))), (q_6, Sum.inl (cI, 600, Sum.inl (fun _ => 0))), (q_7, Sum.inl (cI, 9000, Sum.inl (fun _ => 0)))] := hD
  refine va_putF (D := (dC, dI)) (ci := 9) (v := .ref q_7) (ty := (.array .int)) (C := "RangeCodersModel") (T := T_M) (N := 35) hx hb hg in_M t_M o_M n_M hown hK hP hD hS 0 rfl rfl 15 (by decide) (hg _ k967) (fun _ h9 => h9) rfl (by rw [hnm]; rfl) rfl (by decide +kernel) rfl rfl (Nat.le_of_ble_eq_true rfl) d_M_init_63 (fun _ _ _ _ _ => ?_)
  clear hP hD hS
  rename_i H locs hP hD hS
  replace hP : va_P (dC, dI) vwCl [(o, Sum.inr (9, [Value.int 0, Value.int 0, Value.int 0, Value.ref q_1, Value.ref q_2, Value.ref q_3, Value.ref q_4, Value.int 0, Value.ref q_5, Value.ref q_6, Value.int 0, Value.long 0, Value.long 0, Value.int 0, Value.int 0, Value.ref q_7, Value.int 0, Value.null, Value.int 0, Value.null, Value.int 0, Value.int 0, Value.int 0, Value.int 0, Value.int 0, Value.int 0, Value.long 0, Value.long 0, Value.long 0, Value.long 0, Value.null, Value.null, Value.null, Value.int 0, Value.int 0])), (q_1, Sum.inl (cI, 8, Sum.inl (fun _ => 0))), (q_2, Sum.inl (cI, 512, Sum.inl (fun _ => 0))), (q_3, Sum.inl (cI, 512, Sum.inl (fun _ => 0))), (q_4, Sum.inl (cI, 512, Sum.inl (fun _ => 0))), (q_5, Sum.inl (cI, 600, Sum.inl (fun _ => 0))), (q_6, Sum.inl (cI, 600, Sum.inl (fun _ => 0))), (q_7, Sum.inl (cI, 9000, Sum.inl (fun _ => 0)))] H := hP
  replace hD : va_D A [(o, Sum.inr (9, [Value.int 0, Value.int 0, Value.int 0, Value.ref q_1, Value.ref q_2, Value.ref q_3, Value.ref q_4, Value.int 0, Value.ref q_5, Value.ref q_6, Value.int 0, Value.long 0, Value.long 0, Value.int 0, Value.int 0, Value.ref q_7, Value.int 0, Value.null, Value.int 0, Value.null, Value.int 0, Value.int 0, Value.int 0, Value.int 0, Value.int 0, Value.int 0, Value.long 0, Value.long 0, Value.long 0, Value.long 0, Value.null, Value.null, Value.null, Value.int 0, Value.int 0])), (q_1, Sum.inl (cI, 8, Sum.inl (fun _ => 0))), (q_2, Sum.inl (cI, 512, Sum.inl (fun _ => 0))), (q_3, Sum.inl (cI, 512, Sum.inl (fun _ => 0))), (q_4, Sum.inl (cI, 512, Sum.inl (fun _ => 0))), (q_5, Sum.inl (cI, 600, Sum.inl (fun _ => 0))), (q_6, Sum.inl (cI, 600, Sum.inl (fun _ => 0))), (q_7, Sum.inl (cI, 9000, Sum.inl (fun _ => 0)))] := hD
  refine lv_aload_n hx hb d_M_init_66 rfl (lv_at hl 0 rfl) ?_
  refine lv_sipush (v := 9000) hx hb d_M_init_67 (by decide) ?_
  refine my_newi hx hb (hg _ k66) hK 0 rfl hP hD hS hA (N' := 9000) (by decide) (rfl) (by decide) (by rw [hR]; exact (show 0 + 1 + 1 + 1 + 1 + 1 + 1 + 1 + 1 ≤ 50000 by decide)) (by rw [hR]; exact (show 0 + 8 + 512 + 512 + 512 + 600 + 600 + 9000 + 9000 ≤ 50000 by decide)) d_M_init_70 (fun q_8 _ _ _ _ => ?_)
  clear hP hD hS
  rename_i H hP hD hS
  replace hP : va_P (dC, dI) vwCl [(o, Sum.inr (9, [Value.int 0, Value.int 0, Value.int 0, Value.ref q_1, Value.ref q_2, Value.ref q_3, Value.ref q_4, Value.int 0, Value.ref q_5, Value.ref q_6, Value.int 0, Value.long 0, Value.long 0, Value.int 0, Value.int 0, Value.ref q_7, Value.int 0, Value.null, Value.int 0, Value.null, Value.int 0, Value.int 0, Value.int 0, Value.int 0, Value.int 0, Value.int 0, Value.long 0, Value.long 0, Value.long 0, Value.long 0, Value.null, Value.null, Value.null, Value.int 0, Value.int 0])), (q_1, Sum.inl (cI, 8, Sum.inl (fun _ => 0))), (q_2, Sum.inl (cI, 512, Sum.inl (fun _ => 0))), (q_3, Sum.inl (cI, 512, Sum.inl (fun _ => 0))), (q_4, Sum.inl (cI, 512, Sum.inl (fun _ => 0))), (q_5, Sum.inl (cI, 600, Sum.inl (fun _ => 0))), (q_6, Sum.inl (cI, 600, Sum.inl (fun _ => 0))), (q_7, Sum.inl (cI, 9000, Sum.inl (fun _ => 0))), (q_8, Sum.inl (cI, 9000, Sum.inl (fun _ => 0)))] H := hP
  replace hD : va_D A [(o, Sum.inr (9, [Value.int 0, Value.int 0, Value.int 0, Value.ref q_1, Value.ref q_2, Value.ref q_3, Value.ref q_4, Value.int 0, Value.ref q_5, Value.ref q_6, Value.int 0, Value.long 0, Value.long 0, Value.int 0, Value.int 0, Value.ref q_7, Value.int 0, Value.null, Value.int 0, Value.null, Value.int 0, Value.int 0, Value.int 0, Value.int 0, Value.int 0, Value.int 0, Value.long 0, Value.long 0, Value.long 0, Value.long 0, Value.null, Value.null, Value.null, Value.int 0, Value.int 0])), (q_1, Sum.inl (cI, 8, Sum.inl (fun _ => 0))), (q_2, Sum.inl (cI, 512, Sum.inl (fun _ => 0))), (q_3, Sum.inl (cI, 512, Sum.inl (fun _ => 0))), (q_4, Sum.inl (cI, 512, Sum.inl (fun _ => 0))), (q_5, Sum.inl (cI, 600, Sum.inl (fun _ => 0))), (q_6, Sum.inl (cI, 600, Sum.inl (fun _ => 0))), (q_7, Sum.inl (cI, 9000, Sum.inl (fun _ => 0))), (q_8, Sum.inl (cI, 9000, Sum.inl (fun _ => 0)))] := hD
  refine va_putF (D := (dC, dI)) (ci := 9) (v := .ref q_8) (ty := (.array .int)) (C := "RangeCodersModel") (T := T_M) (N := 35) hx hb hg in_M t_M o_M n_M hown hK hP hD hS 0 rfl rfl 17 (by decide) (hg _ k969) (fun _ h9 => h9) rfl (by rw [hnm]; rfl) rfl (by decide +kernel) rfl rfl (Nat.le_of_ble_eq_true rfl) d_M_init_72 (fun _ _ _ _ _ => ?_)
  clear hP hD hS
  rename_i H locs hP hD hS
  replace hP : va_P (dC, dI) vwCl [(o, Sum.inr (9, [Value.int 0, Value.int 0, Value.int 0, Value.ref q_1, Value.ref q_2, Value.ref q_3, Value.ref q_4, Value.int 0, Value.ref q_5, Value.ref q_6, Value.int 0, Value.long 0, Value.long 0, Value.int 0, Value.int 0, Value.ref q_7, Value.int 0, Value.ref q_8, Value.int 0, Value.null, Value.int 0, Value.int 0, Value.int 0, Value.int 0, Value.int 0, Value.int 0, Value.long 0, Value.long 0, Value.long 0, Value.long 0, Value.null, Value.null, Value.null, Value.int 0, Value.int 0])), (q_1, Sum.inl (cI, 8, Sum.inl (fun _ => 0))), (q_2, Sum.inl (cI, 512, Sum.inl (fun _ => 0))), (q_3, Sum.inl (cI, 512, Sum.inl (fun _ => 0))), (q_4, Sum.inl (cI, 512, Sum.inl (fun _ => 0))), (q_5, Sum.inl (cI, 600, Sum.inl (fun _ => 0))), (q_6, Sum.inl (cI, 600, Sum.inl (fun _ => 0))), (q_7, Sum.inl (cI, 9000, Sum.inl (fun _ => 0))), (q_8, Sum.inl (cI, 9000, Sum.inl (fun _ => 0)))] H := hP
  replace hD : va_D A [(o, Sum.inr (9, [Value.int 0, Value.int 0, Value.int 0, Value.ref q_1, Value.ref q_2, Value.ref q_3, Value.ref q_4, Value.int 0, Value.ref q_5, Value.ref q_6, Value.int 0, Value.long 0, Value.long 0, Value.int 0, Value.int 0, Value.ref q_7, Value.int 0, Value.ref q_8, Value.int 0, Value.null, Value.int 0, Value.int 0, Value.int 0, Value.int 0, Value.int 0, Value.int 0, Value.long 0, Value.long 0, Value.long 0, Value.long 0, Value.null, Value.null, Value.null, Value.int 0, Value.int 0])), (q_1, Sum.inl (cI, 8, Sum.inl (fun _ => 0))), (q_2, Sum.inl (cI, 512, Sum.inl (fun _ => 0))), (q_3, Sum.inl (cI, 512, Sum.inl (fun _ => 0))), (q_4, Sum.inl (cI, 512, Sum.inl (fun _ => 0))), (q_5, Sum.inl (cI, 600, Sum.inl (fun _ => 0))), (q_6, Sum.inl (cI, 600, Sum.inl (fun _ => 0))), (q_7, Sum.inl (cI, 9000, Sum.inl (fun _ => 0))), (q_8, Sum.inl (cI, 9000, Sum.inl (fun _ => 0)))] := hD
  refine lv_aload_n hx hb d_M_init_75 rfl (lv_at hl 0 rfl) ?_
  refine lv_sipush (v := 6000) hx hb d_M_init_76 (by decide) ?_
  refine my_newi hx hb (hg _ k66) hK 0 rfl hP hD hS hA (N' := 6000) (by decide) (rfl) (by decide) (by rw [hR]; exact (show 0 + 1 + 1 + 1 + 1 + 1 + 1 + 1 + 1 + 1 ≤ 50000 by decide)) (by rw [hR]; exact (show 0 + 8 + 512 + 512 + 512 + 600 + 600 + 9000 + 9000 + 6000 ≤ 50000 by decide)) d_M_init_79 (fun q_9 _ _ _ _ => ?_)
  clear hP hD hS
  rename_i H hP hD hS
  replace hP : va_P (dC, dI) vwCl [(o, Sum.inr (9, [Value.int 0, Value.int 0, Value.int 0, Value.ref q_1, Value.ref q_2, Value.ref q_3, Value.ref q_4, Value.int 0, Value.ref q_5, Value.ref q_6, Value.int 0, Value.long 0, Value.long 0, Value.int 0, Value.int 0, Value.ref q_7, Value.int 0, Value.ref q_8, Value.int 0, Value.null, Value.int 0, Value.int 0, Value.int 0, Value.int 0, Value.int 0, Value.int 0, Value.long 0, Value.long 0, Value.long 0, Value.long 0, Value.null, Value.null, Value.null, Value.int 0, Value.int 0])), (q_1, Sum.inl (cI, 8, Sum.inl (fun _ => 0))), (q_2, Sum.inl (cI, 512, Sum.inl (fun _ => 0))), (q_3, Sum.inl (cI, 512, Sum.inl (fun _ => 0))), (q_4, Sum.inl (cI, 512, Sum.inl (fun _ => 0))), (q_5, Sum.inl (cI, 600, Sum.inl (fun _ => 0))), (q_6, Sum.inl (cI, 600, Sum.inl (fun _ => 0))), (q_7, Sum.inl (cI, 9000, Sum.inl (fun _ => 0))), (q_8, Sum.inl (cI, 9000, Sum.inl (fun _ => 0))), (q_9, Sum.inl (cI, 6000, Sum.inl (fun _ => 0)))] H := hP
  replace hD : va_D A [(o, Sum.inr (9, [Value.int 0, Value.int 0, Value.int 0, Value.ref q_1, Value.ref q_2, Value.ref q_3, Value.ref q_4, Value.int 0, Value.ref q_5, Value.ref q_6, Value.int 0, Value.long 0, Value.long 0, Value.int 0, Value.int 0, Value.ref q_7, Value.int 0, Value.ref q_8, Value.int 0, Value.null, Value.int 0, Value.int 0, Value.int 0, Value.int 0, Value.int 0, Value.int 0, Value.long 0, Value.long 0, Value.long 0, Value.long 0, Value.null, Value.null, Value.null, Value.int 0, Value.int 0])), (q_1, Sum.inl (cI, 8, Sum.inl (fun _ => 0))), (q_2, Sum.inl (cI, 512, Sum.inl (fun _ => 0))), (q_3, Sum.inl (cI, 512, Sum.inl (fun _ => 0))), (q_4, Sum.inl (cI, 512, Sum.inl (fun _ => 0))), (q_5, Sum.inl (cI, 600, Sum.inl (fun _ => 0))), (q_6, Sum.inl (cI, 600, Sum.inl (fun _ => 0))), (q_7, Sum.inl (cI, 9000, Sum.inl (fun _ => 0))), (q_8, Sum.inl (cI, 9000, Sum.inl (fun _ => 0))), (q_9, Sum.inl (cI, 6000, Sum.inl (fun _ => 0)))] := hD
  refine va_putF (D := (dC, dI)) (ci := 9) (v := .ref q_9) (ty := (.array .int)) (C := "RangeCodersModel") (T := T_M) (N := 35) hx hb hg in_M t_M o_M n_M hown hK hP hD hS 0 rfl rfl 19 (by decide) (hg _ k971) (fun _ h9 => h9) rfl (by rw [hnm]; rfl) rfl (by decide +kernel) rfl rfl (Nat.le_of_ble_eq_true rfl) d_M_init_81 (fun _ _ _ _ _ => ?_)
  clear hP hD hS
  rename_i H locs hP hD hS
  replace hP : va_P (dC, dI) vwCl [(o, Sum.inr (9, [Value.int 0, Value.int 0, Value.int 0, Value.ref q_1, Value.ref q_2, Value.ref q_3, Value.ref q_4, Value.int 0, Value.ref q_5, Value.ref q_6, Value.int 0, Value.long 0, Value.long 0, Value.int 0, Value.int 0, Value.ref q_7, Value.int 0, Value.ref q_8, Value.int 0, Value.ref q_9, Value.int 0, Value.int 0, Value.int 0, Value.int 0, Value.int 0, Value.int 0, Value.long 0, Value.long 0, Value.long 0, Value.long 0, Value.null, Value.null, Value.null, Value.int 0, Value.int 0])), (q_1, Sum.inl (cI, 8, Sum.inl (fun _ => 0))), (q_2, Sum.inl (cI, 512, Sum.inl (fun _ => 0))), (q_3, Sum.inl (cI, 512, Sum.inl (fun _ => 0))), (q_4, Sum.inl (cI, 512, Sum.inl (fun _ => 0))), (q_5, Sum.inl (cI, 600, Sum.inl (fun _ => 0))), (q_6, Sum.inl (cI, 600, Sum.inl (fun _ => 0))), (q_7, Sum.inl (cI, 9000, Sum.inl (fun _ => 0))), (q_8, Sum.inl (cI, 9000, Sum.inl (fun _ => 0))), (q_9, Sum.inl (cI, 6000, Sum.inl (fun _ => 0)))] H := hP
  replace hD : va_D A [(o, Sum.inr (9, [Value.int 0, Value.int 0, Value.int 0, Value.ref q_1, Value.ref q_2, Value.ref q_3, Value.ref q_4, Value.int 0, Value.ref q_5, Value.ref q_6, Value.int 0, Value.long 0, Value.long 0, Value.int 0, Value.int 0, Value.ref q_7, Value.int 0, Value.ref q_8, Value.int 0, Value.ref q_9, Value.int 0, Value.int 0, Value.int 0, Value.int 0, Value.int 0, Value.int 0, Value.long 0, Value.long 0, Value.long 0, Value.long 0, Value.null, Value.null, Value.null, Value.int 0, Value.int 0])), (q_1, Sum.inl (cI, 8, Sum.inl (fun _ => 0))), (q_2, Sum.inl (cI, 512, Sum.inl (fun _ => 0))), (q_3, Sum.inl (cI, 512, Sum.inl (fun _ => 0))), (q_4, Sum.inl (cI, 512, Sum.inl (fun _ => 0))), (q_5, Sum.inl (cI, 600, Sum.inl (fun _ => 0))), (q_6, Sum.inl (cI, 600, Sum.inl (fun _ => 0))), (q_7, Sum.inl (cI, 9000, Sum.inl (fun _ => 0))), (q_8, Sum.inl (cI, 9000, Sum.inl (fun _ => 0))), (q_9, Sum.inl (cI, 6000, Sum.inl (fun _ => 0)))] := hD
  refine lv_aload_n hx hb d_M_init_84 rfl (lv_at hl 0 rfl) ?_
  refine lv_sipush (v := 512) hx hb d_M_init_85 (by decide) ?_
  refine my_newi hx hb (hg _ k66) hK 0 rfl hP hD hS hA (N' := 512) (by decide) (rfl) (by decide) (by rw [hR]; exact (show 0 + 1 + 1 + 1 + 1 + 1 + 1 + 1 + 1 + 1 + 1 ≤ 50000 by decide)) (by rw [hR]; exact (show 0 + 8 + 512 + 512 + 512 + 600 + 600 + 9000 + 9000 + 6000 + 512 ≤ 50000 by decide)) d_M_init_88 (fun q_10 _ _ _ _ => ?_)
  clear hP hD hS
  rename_i H hP hD hS
  replace hP : va_P (dC, dI) vwCl [(o, Sum.inr (9, [Value.int 0, Value.int 0, Value.int 0, Value.ref q_1, Value.ref q_2, Value.ref q_3, Value.ref q_4, Value.int 0, Value.ref q_5, Value.ref q_6, Value.int 0, Value.long 0, Value.long 0, Value.int 0, Value.int 0, Value.ref q_7, Value.int 0, Value.ref q_8, Value.int 0, Value.ref q_9, Value.int 0, Value.int 0, Value.int 0, Value.int 0, Value.int 0, Value.int 0, Value.long 0, Value.long 0, Value.long 0, Value.long 0, Value.null, Value.null, Value.null, Value.int 0, Value.int 0])), (q_1, Sum.inl (cI, 8, Sum.inl (fun _ => 0))), (q_2, Sum.inl (cI, 512, Sum.inl (fun _ => 0))), (q_3, Sum.inl (cI, 512, Sum.inl (fun _ => 0))), (q_4, Sum.inl (cI, 512, Sum.inl (fun _ => 0))), (q_5, Sum.inl (cI, 600, Sum.inl (fun _ => 0))), (q_6, Sum.inl (cI, 600, Sum.inl (fun _ => 0))), (q_7, Sum.inl (cI, 9000, Sum.inl (fun _ => 0))), (q_8, Sum.inl (cI, 9000, Sum.inl (fun _ => 0))), (q_9, Sum.inl (cI, 6000, Sum.inl (fun _ => 0))), (q_10, Sum.inl (cI, 512, Sum.inl (fun _ => 0)))] H := hP
  replace hD : va_D A [(o, Sum.inr (9, [Value.int 0, Value.int 0, Value.int 0, Value.ref q_1, Value.ref q_2, Value.ref q_3, Value.ref q_4, Value.int 0, Value.ref q_5, Value.ref q_6, Value.int 0, Value.long 0, Value.long 0, Value.int 0, Value.int 0, Value.ref q_7, Value.int 0, Value.ref q_8, Value.int 0, Value.ref q_9, Value.int 0, Value.int 0, Value.int 0, Value.int 0, Value.int 0, Value.int 0, Value.long 0, Value.long 0, Value.long 0, Value.long 0, Value.null, Value.null, Value.null, Value.int 0, Value.int 0])), (q_1, Sum.inl (cI, 8, Sum.inl (fun _ => 0))), (q_2, Sum.inl (cI, 512, Sum.inl (fun _ => 0))), (q_3, Sum.inl (cI, 512, Sum.inl (fun _ => 0))), (q_4, Sum.inl (cI, 512, Sum.inl (fun _ => 0))), (q_5, Sum.inl (cI, 600, Sum.inl (fun _ => 0))), (q_6, Sum.inl (cI, 600, Sum.inl (fun _ => 0))), (q_7, Sum.inl (cI, 9000, Sum.inl (fun _ => 0))), (q_8, Sum.inl (cI, 9000, Sum.inl (fun _ => 0))), (q_9, Sum.inl (cI, 6000, Sum.inl (fun _ => 0))), (q_10, Sum.inl (cI, 512, Sum.inl (fun _ => 0)))] := hD
  refine va_putF (D := (dC, dI)) (ci := 9) (v := .ref q_10) (ty := (.array .int)) (C := "RangeCodersModel") (T := T_M) (N := 35) hx hb hg in_M t_M o_M n_M hown hK hP hD hS 0 rfl rfl 30 (by decide) (hg _ k982) (fun _ h9 => h9) rfl (by rw [hnm]; rfl) rfl (by decide +kernel) rfl rfl (Nat.le_of_ble_eq_true rfl) d_M_init_90 (fun _ _ _ _ _ => ?_)
  clear hP hD hS
  rename_i H locs hP hD hS
  replace hP : va_P (dC, dI) vwCl [(o, Sum.inr (9, [Value.int 0, Value.int 0, Value.int 0, Value.ref q_1, Value.ref q_2, Value.ref q_3, Value.ref q_4, Value.int 0, Value.ref q_5, Value.ref q_6, Value.int 0, Value.long 0, Value.long 0, Value.int 0, Value.int 0, Value.ref q_7, Value.int 0, Value.ref q_8, Value.int 0, Value.ref q_9, Value.int 0, Value.int 0, Value.int 0, Value.int 0, Value.int 0, Value.int 0, Value.long 0, Value.long 0, Value.long 0, Value.long 0, Value.ref q_10, Value.null, Value.null, Value.int 0, Value.int 0])), (q_1, Sum.inl (cI, 8, Sum.inl (fun _ => 0))), (q_2, Sum.inl (cI, 512, Sum.inl (fun _ => 0))), (q_3, Sum.inl (cI, 512, Sum.inl (fun _ => 0))), (q_4, Sum.inl (cI, 512, Sum.inl (fun _ => 0))), (q_5, Sum.inl (cI, 600, Sum.inl (fun _ => 0))), (q_6, Sum.inl (cI, 600, Sum.inl (fun _ => 0))), (q_7, Sum.inl (cI, 9000, Sum.inl (fun _ => 0))), (q_8, Sum.inl (cI, 9000, Sum.inl (fun _ => 0))), (q_9, Sum.inl (cI, 6000, Sum.inl (fun _ => 0))), (q_10, Sum.inl (cI, 512, Sum.inl (fun _ => 0)))] H := hP
  replace hD : va_D A [(o, Sum.inr (9, [Value.int 0, Value.int 0, Value.int 0, Value.ref q_1, Value.ref q_2, Value.ref q_3, Value.ref q_4, Value.int 0, Value.ref q_5, Value.ref q_6, Value.int 0, Value.long 0, Value.long 0, Value.int 0, Value.int 0, Value.ref q_7, Value.int 0, Value.ref q_8, Value.int 0, Value.ref q_9, Value.int 0, Value.int 0, Value.int 0, Value.int 0, Value.int 0, Value.int 0, Value.long 0, Value.long 0, Value.long 0, Value.long 0, Value.ref q_10, Value.null, Value.null, Value.int 0, Value.int 0])), (q_1, Sum.inl (cI, 8, Sum.inl (fun _ => 0))), (q_2, Sum.inl (cI, 512, Sum.inl (fun _ => 0))), (q_3, Sum.inl (cI, 512, Sum.inl (fun _ => 0))), (q_4, Sum.inl (cI, 512, Sum.inl (fun _ => 0))), (q_5, Sum.inl (cI, 600, Sum.inl (fun _ => 0))), (q_6, Sum.inl (cI, 600, Sum.inl (fun _ => 0))), (q_7, Sum.inl (cI, 9000, Sum.inl (fun _ => 0))), (q_8, Sum.inl (cI, 9000, Sum.inl (fun _ => 0))), (q_9, Sum.inl (cI, 6000, Sum.inl (fun _ => 0))), (q_10, Sum.inl (cI, 512, Sum.inl (fun _ => 0)))] := hD
  refine lv_aload_n hx hb d_M_init_93 rfl (lv_at hl 0 rfl) ?_
  refine lv_sipush (v := 512) hx hb d_M_init_94 (by decide) ?_
  refine my_newi hx hb (hg _ k66) hK 0 rfl hP hD hS hA (N' := 512) (by decide) (rfl) (by decide) (by rw [hR]; exact (show 0 + 1 + 1 + 1 + 1 + 1 + 1 + 1 + 1 + 1 + 1 + 1 ≤ 50000 by decide)) (by rw [hR]; exact (show 0 + 8 + 512 + 512 + 512 + 600 + 600 + 9000 + 9000 + 6000 + 512 + 512 ≤ 50000 by decide)) d_M_init_97 (fun q_11 _ _ _ _ => ?_)
  clear hP hD hS
  rename_i H hP hD hS
  replace hP : va_P (dC, dI) vwCl [(o, Sum.inr (9, [Value.int 0, Value.int 0, Value.int 0, Value.ref q_1, Value.ref q_2, Value.ref q_3, Value.ref q_4, Value.int 0, Value.ref q_5, Value.ref q_6, Value.int 0, Value.long 0, Value.long 0, Value.int 0, Value.int 0, Value.ref q_7, Value.int 0, Value.ref q_8, Value.int 0, Value.ref q_9, Value.int 0, Value.int 0, Value.int 0, Value.int 0, Value.int 0, Value.int 0, Value.long 0, Value.long 0, Value.long 0, Value.long 0, Value.ref q_10, Value.null, Value.null, Value.int 0, Value.int 0])), (q_1, Sum.inl (cI, 8, Sum.inl (fun _ => 0))), (q_2, Sum.inl (cI, 512, Sum.inl (fun _ => 0))), (q_3, Sum.inl (cI, 512, Sum.inl (fun _ => 0))), (q_4, Sum.inl (cI, 512, Sum.inl (fun _ => 0))), (q_5, Sum.inl (cI, 600, Sum.inl (fun _ => 0))), (q_6, Sum.inl (cI, 600, Sum.inl (fun _ => 0))), (q_7, Sum.inl (cI, 9000, Sum.inl (fun _ => 0))), (q_8, Sum.inl (cI, 9000, Sum.inl (fun _ => 0))), (q_9, Sum.inl (cI, 6000, Sum.inl (fun _ => 0))), (q_10, Sum.inl (cI, 512, Sum.inl (fun _ => 0))), (q_11, Sum.inl (cI, 512, Sum.inl (fun _ => 0)))] H := hP
  replace hD : va_D A [(o, Sum.inr (9, [Value.int 0, Value.int 0, Value.int 0, Value.ref q_1, Value.ref q_2, Value.ref q_3, Value.ref q_4, Value.int 0, Value.ref q_5, Value.ref q_6, Value.int 0, Value.long 0, Value.long 0, Value.int 0, Value.int 0, Value.ref q_7, Value.int 0, Value.ref q_8, Value.int 0, Value.ref q_9, Value.int 0, Value.int 0, Value.int 0, Value.int 0, Value.int 0, Value.int 0, Value.long 0, Value.long 0, Value.long 0, Value.long 0, Value.ref q_10, Value.null, Value.null, Value.int 0, Value.int 0])), (q_1, Sum.inl (cI, 8, Sum.inl (fun _ => 0))), (q_2, Sum.inl (cI, 512, Sum.inl (fun _ => 0))), (q_3, Sum.inl (cI, 512, Sum.inl (fun _ => 0))), (q_4, Sum.inl (cI, 512, Sum.inl (fun _ => 0))), (q_5, Sum.inl (cI, 600, Sum.inl (fun _ => 0))), (q_6, Sum.inl (cI, 600, Sum.inl (fun _ => 0))), (q_7, Sum.inl (cI, 9000, Sum.inl (fun _ => 0))), (q_8, Sum.inl (cI, 9000, Sum.inl (fun _ => 0))), (q_9, Sum.inl (cI, 6000, Sum.inl (fun _ => 0))), (q_10, Sum.inl (cI, 512, Sum.inl (fun _ => 0))), (q_11, Sum.inl (cI, 512, Sum.inl (fun _ => 0)))] := hD
  refine va_putF (D := (dC, dI)) (ci := 9) (v := .ref q_11) (ty := (.array .int)) (C := "RangeCodersModel") (T := T_M) (N := 35) hx hb hg in_M t_M o_M n_M hown hK hP hD hS 0 rfl rfl 31 (by decide) (hg _ k983) (fun _ h9 => h9) rfl (by rw [hnm]; rfl) rfl (by decide +kernel) rfl rfl (Nat.le_of_ble_eq_true rfl) d_M_init_99 (fun _ _ _ _ _ => ?_)
  clear hP hD hS
  rename_i H locs hP hD hS
  replace hP : va_P (dC, dI) vwCl [(o, Sum.inr (9, [Value.int 0, Value.int 0, Value.int 0, Value.ref q_1, Value.ref q_2, Value.ref q_3, Value.ref q_4, Value.int 0, Value.ref q_5, Value.ref q_6, Value.int 0, Value.long 0, Value.long 0, Value.int 0, Value.int 0, Value.ref q_7, Value.int 0, Value.ref q_8, Value.int 0, Value.ref q_9, Value.int 0, Value.int 0, Value.int 0, Value.int 0, Value.int 0, Value.int 0, Value.long 0, Value.long 0, Value.long 0, Value.long 0, Value.ref q_10, Value.ref q_11, Value.null, Value.int 0, Value.int 0])), (q_1, Sum.inl (cI, 8, Sum.inl (fun _ => 0))), (q_2, Sum.inl (cI, 512, Sum.inl (fun _ => 0))), (q_3, Sum.inl (cI, 512, Sum.inl (fun _ => 0))), (q_4, Sum.inl (cI, 512, Sum.inl (fun _ => 0))), (q_5, Sum.inl (cI, 600, Sum.inl (fun _ => 0))), (q_6, Sum.inl (cI, 600, Sum.inl (fun _ => 0))), (q_7, Sum.inl (cI, 9000, Sum.inl (fun _ => 0))), (q_8, Sum.inl (cI, 9000, Sum.inl (fun _ => 0))), (q_9, Sum.inl (cI, 6000, Sum.inl (fun _ => 0))), (q_10, Sum.inl (cI, 512, Sum.inl (fun _ => 0))), (q_11, Sum.inl (cI, 512, Sum.inl (fun _ => 0)))] H := hP
  replace hD : va_D A [(o, Sum.inr (9, [Value.int 0, Value.int 0, Value.int 0, Value.ref q_1, Value.ref q_2, Value.ref q_3, Value.ref q_4, Value.int 0, Value.ref q_5, Value.ref q_6, Value.int 0, Value.long 0, Value.long 0, Value.int 0, Value.int 0, Value.ref q_7, Value.int 0, Value.ref q_8, Value.int 0, Value.ref q_9, Value.int 0, Value.int 0, Value.int 0, Value.int 0, Value.int 0, Value.int 0, Value.long 0, Value.long 0, Value.long 0, Value.long 0, Value.ref q_10, Value.ref q_11, Value.null, Value.int 0, Value.int 0])), (q_1, Sum.inl (cI, 8, Sum.inl (fun _ => 0))), (q_2, Sum.inl (cI, 512, Sum.inl (fun _ => 0))), (q_3, Sum.inl (cI, 512, Sum.inl (fun _ => 0))), (q_4, Sum.inl (cI, 512, Sum.inl (fun _ => 0))), (q_5, Sum.inl (cI, 600, Sum.inl (fun _ => 0))), (q_6, Sum.inl (cI, 600, Sum.inl (fun _ => 0))), (q_7, Sum.inl (cI, 9000, Sum.inl (fun _ => 0))), (q_8, Sum.inl (cI, 9000, Sum.inl (fun _ => 0))), (q_9, Sum.inl (cI, 6000, Sum.inl (fun _ => 0))), (q_10, Sum.inl (cI, 512, Sum.inl (fun _ => 0))), (q_11, Sum.inl (cI, 512, Sum.inl (fun _ => 0)))] := hD
  refine lv_aload_n hx hb d_M_init_102 rfl (lv_at hl 0 rfl) ?_
  refine lv_sipush (v := 20000) hx hb d_M_init_103 (by decide) ?_
  refine my_newi hx hb (hg _ k66) hK 0 rfl hP hD hS hA (N' := 20000) (by decide) (rfl) (by decide) (by rw [hR]; exact (show 0 + 1 + 1 + 1 + 1 + 1 + 1 + 1 + 1 + 1 + 1 + 1 + 1 ≤ 50000 by decide)) (by rw [hR]; exact (show 0 + 8 + 512 + 512 + 512 + 600 + 600 + 9000 + 9000 + 6000 + 512 + 512 + 20000 ≤ 50000 by decide)) d_M_init_106 (fun q_12 _ _ _ _ => ?_)
  clear hP hD hS
  rename_i H hP hD hS
  replace hP : va_P (dC, dI) vwCl [(o, Sum.inr (9, [Value.int 0, Value.int 0, Value.int 0, Value.ref q_1, Value.ref q_2, Value.ref q_3, Value.ref q_4, Value.int 0, Value.ref q_5, Value.ref q_6, Value.int 0, Value.long 0, Value.long 0, Value.int 0, Value.int 0, Value.ref q_7, Value.int 0, Value.ref q_8, Value.int 0, Value.ref q_9, Value.int 0, Value.int 0, Value.int 0, Value.int 0, Value.int 0, Value.int 0, Value.long 0, Value.long 0, Value.long 0, Value.long 0, Value.ref q_10, Value.ref q_11, Value.null, Value.int 0, Value.int 0])), (q_1, Sum.inl (cI, 8, Sum.inl (fun _ => 0))), (q_2, Sum.inl (cI, 512, Sum.inl (fun _ => 0))), (q_3, Sum.inl (cI, 512, Sum.inl (fun _ => 0))), (q_4, Sum.inl (cI, 512, Sum.inl (fun _ => 0))), (q_5, Sum.inl (cI, 600, Sum.inl (fun _ => 0))), (q_6, Sum.inl (cI, 600, Sum.inl (fun _ => 0))), (q_7, Sum.inl (cI, 9000, Sum.inl (fun _ => 0))), (q_8, Sum.inl (cI, 9000, Sum.inl (fun _ => 0))), (q_9, Sum.inl (cI, 6000, Sum.inl (fun _ => 0))), (q_10, Sum.inl (cI, 512, Sum.inl (fun _ => 0))), (q_11, Sum.inl (cI, 512, Sum.inl (fun _ => 0))), (q_12, Sum.inl (cI, 20000, Sum.inl (fun _ => 0)))] H := hP
  replace hD : va_D A [(o, Sum.inr (9, [Value.int 0, Value.int 0, Value.int 0, Value.ref q_1, Value.ref q_2, Value.ref q_3, Value.ref q_4, Value.int 0, Value.ref q_5, Value.ref q_6, Value.int 0, Value.long 0, Value.long 0, Value.int 0, Value.int 0, Value.ref q_7, Value.int 0, Value.ref q_8, Value.int 0, Value.ref q_9, Value.int 0, Value.int 0, Value.int 0, Value.int 0, Value.int 0, Value.int 0, Value.long 0, Value.long 0, Value.long 0, Value.long 0, Value.ref q_10, Value.ref q_11, Value.null, Value.int 0, Value.int 0])), (q_1, Sum.inl (cI, 8, Sum.inl (fun _ => 0))), (q_2, Sum.inl (cI, 512, Sum.inl (fun _ => 0))), (q_3, Sum.inl (cI, 512, Sum.inl (fun _ => 0))), (q_4, Sum.inl (cI, 512, Sum.inl (fun _ => 0))), (q_5, Sum.inl (cI, 600, Sum.inl (fun _ => 0))), (q_6, Sum.inl (cI, 600, Sum.inl (fun _ => 0))), (q_7, Sum.inl (cI, 9000, Sum.inl (fun _ => 0))), (q_8, Sum.inl (cI, 9000, Sum.inl (fun _ => 0))), (q_9, Sum.inl (cI, 6000, Sum.inl (fun _ => 0))), (q_10, Sum.inl (cI, 512, Sum.inl (fun _ => 0))), (q_11, Sum.inl (cI, 512, Sum.inl (fun _ => 0))), (q_12, Sum.inl (cI, 20000, Sum.inl (fun _ => 0)))] := hD
  refine va_putF (D := (dC, dI)) (ci := 9) (v := .ref q_12) (ty := (.array .int)) (C := "RangeCodersModel") (T := T_M) (N := 35) hx hb hg in_M t_M o_M n_M hown hK hP hD hS 0 rfl rfl 32 (by decide) (hg _ k984) (fun _ h9 => h9) rfl (by rw [hnm]; rfl) rfl (by decide +kernel) rfl rfl (Nat.le_of_ble_eq_true rfl) d_M_init_108 (fun _ _ _ _ _ => ?_)
  clear hP hD hS
  rename_i H locs hP hD hS
  replace hP : va_P (dC, dI) vwCl [(o, Sum.inr (9, [Value.int 0, Value.int 0, Value.int 0, Value.ref q_1, Value.ref q_2, Value.ref q_3, Value.ref q_4, Value.int 0, Value.ref q_5, Value.ref q_6, Value.int 0, Value.long 0, Value.long 0, Value.int 0, Value.int 0, Value.ref q_7, Value.int 0, Value.ref q_8, Value.int 0, Value.ref q_9, Value.int 0, Value.int 0, Value.int 0, Value.int 0, Value.int 0, Value.int 0, Value.long 0, Value.long 0, Value.long 0, Value.long 0, Value.ref q_10, Value.ref q_11, Value.ref q_12, Value.int 0, Value.int 0])), (q_1, Sum.inl (cI, 8, Sum.inl (fun _ => 0))), (q_2, Sum.inl (cI, 512, Sum.inl (fun _ => 0))), (q_3, Sum.inl (cI, 512, Sum.inl (fun _ => 0))), (q_4, Sum.inl (cI, 512, Sum.inl (fun _ => 0))), (q_5, Sum.inl (cI, 600, Sum.inl (fun _ => 0))), (q_6, Sum.inl (cI, 600, Sum.inl (fun _ => 0))), (q_7, Sum.inl (cI, 9000, Sum.inl (fun _ => 0))), (q_8, Sum.inl (cI, 9000, Sum.inl (fun _ => 0))), (q_9, Sum.inl (cI, 6000, Sum.inl (fun _ => 0))), (q_10, Sum.inl (cI, 512, Sum.inl (fun _ => 0))), (q_11, Sum.inl (cI, 512, Sum.inl (fun _ => 0))), (q_12, Sum.inl (cI, 20000, Sum.inl (fun _ => 0)))] H := hP
  replace hD : va_D A [(o, Sum.inr (9, [Value.int 0, Value.int 0, Value.int 0, Value.ref q_1, Value.ref q_2, Value.ref q_3, Value.ref q_4, Value.int 0, Value.ref q_5, Value.ref q_6, Value.int 0, Value.long 0, Value.long 0, Value.int 0, Value.int 0, Value.ref q_7, Value.int 0, Value.ref q_8, Value.int 0, Value.ref q_9, Value.int 0, Value.int 0, Value.int 0, Value.int 0, Value.int 0, Value.int 0, Value.long 0, Value.long 0, Value.long 0, Value.long 0, Value.ref q_10, Value.ref q_11, Value.ref q_12, Value.int 0, Value.int 0])), (q_1, Sum.inl (cI, 8, Sum.inl (fun _ => 0))), (q_2, Sum.inl (cI, 512, Sum.inl (fun _ => 0))), (q_3, Sum.inl (cI, 512, Sum.inl (fun _ => 0))), (q_4, Sum.inl (cI, 512, Sum.inl (fun _ => 0))), (q_5, Sum.inl (cI, 600, Sum.inl (fun _ => 0))), (q_6, Sum.inl (cI, 600, Sum.inl (fun _ => 0))), (q_7, Sum.inl (cI, 9000, Sum.inl (fun _ => 0))), (q_8, Sum.inl (cI, 9000, Sum.inl (fun _ => 0))), (q_9, Sum.inl (cI, 6000, Sum.inl (fun _ => 0))), (q_10, Sum.inl (cI, 512, Sum.inl (fun _ => 0))), (q_11, Sum.inl (cI, 512, Sum.inl (fun _ => 0))), (q_12, Sum.inl (cI, 20000, Sum.inl (fun _ => 0)))] := hD
  have J_133 : ∀ (fF : Int32) (hF9 : fF = nearM p1 0 4) (H : Heap) (locs : List Loc) (ls : Array Slot), va_P (dC, dI) vwCl [(o, Sum.inr (9, [Value.int fF, Value.int 0, Value.int 0, Value.ref q_1, Value.ref q_2, Value.ref q_3, Value.ref q_4, Value.int 0, Value.ref q_5, Value.ref q_6, Value.int 0, Value.long 0, Value.long 0, Value.int 0, Value.int 0, Value.ref q_7, Value.int 0, Value.ref q_8, Value.int 0, Value.ref q_9, Value.int 0, Value.int 0, Value.int 0, Value.int 0, Value.int 0, Value.int 0, Value.long 0, Value.long 0, Value.long 0, Value.long 0, Value.ref q_10, Value.ref q_11, Value.ref q_12, Value.int 0, Value.int 0])), (q_1, Sum.inl (cI, 8, Sum.inl (fun _ => 0))), (q_2, Sum.inl (cI, 512, Sum.inl (fun _ => 0))), (q_3, Sum.inl (cI, 512, Sum.inl (fun _ => 0))), (q_4, Sum.inl (cI, 512, Sum.inl (fun _ => 0))), (q_5, Sum.inl (cI, 600, Sum.inl (fun _ => 0))), (q_6, Sum.inl (cI, 600, Sum.inl (fun _ => 0))), (q_7, Sum.inl (cI, 9000, Sum.inl (fun _ => 0))), (q_8, Sum.inl (cI, 9000, Sum.inl (fun _ => 0))), (q_9, Sum.inl (cI, 6000, Sum.inl (fun _ => 0))), (q_10, Sum.inl (cI, 512, Sum.inl (fun _ => 0))), (q_11, Sum.inl (cI, 512, Sum.inl (fun _ => 0))), (q_12, Sum.inl (cI, 20000, Sum.inl (fun _ => 0)))] H → va_D A [(o, Sum.inr (9, [Value.int fF, Value.int 0, Value.int 0, Value.ref q_1, Value.ref q_2, Value.ref q_3, Value.ref q_4, Value.int 0, Value.ref q_5, Value.ref q_6, Value.int 0, Value.long 0, Value.long 0, Value.int 0, Value.int 0, Value.ref q_7, Value.int 0, Value.ref q_8, Value.int 0, Value.ref q_9, Value.int 0, Value.int 0, Value.int 0, Value.int 0, Value.int 0, Value.int 0, Value.long 0, Value.long 0, Value.long 0, Value.long 0, Value.ref q_10, Value.ref q_11, Value.ref q_12, Value.int 0, Value.int 0])), (q_1, Sum.inl (cI, 8, Sum.inl (fun _ => 0))), (q_2, Sum.inl (cI, 512, Sum.inl (fun _ => 0))), (q_3, Sum.inl (cI, 512, Sum.inl (fun _ => 0))), (q_4, Sum.inl (cI, 512, Sum.inl (fun _ => 0))), (q_5, Sum.inl (cI, 600, Sum.inl (fun _ => 0))), (q_6, Sum.inl (cI, 600, Sum.inl (fun _ => 0))), (q_7, Sum.inl (cI, 9000, Sum.inl (fun _ => 0))), (q_8, Sum.inl (cI, 9000, Sum.inl (fun _ => 0))), (q_9, Sum.inl (cI, 6000, Sum.inl (fun _ => 0))), (q_10, Sum.inl (cI, 512, Sum.inl (fun _ => 0))), (q_11, Sum.inl (cI, 512, Sum.inl (fun _ => 0))), (q_12, Sum.inl (cI, 20000, Sum.inl (fun _ => 0)))] → va_S A s.heap H locs → lv_has ls 3 [(0, Value.ref o), (1, Value.int p1), (2, Value.int p2)] → W p l e R s m args below meth c H locs (0 + 1 + 1 + 1 + 1 + 1 + 1 + 1 + 1 + 1 + 1 + 1 + 1) (0 + 8 + 512 + 512 + 512 + 600 + 600 + 9000 + 9000 + 6000 + 512 + 512 + 20000) Q (F0 m 133 ls []) := by
    intro fF hF9 H locs ls hP hD hS hl
    have J_158 : ∀ (fS : Int32) (hS9 : fS = nearM p2 1 10) (H : Heap) (locs : List Loc) (ls : Array Slot), va_P (dC, dI) vwCl [(o, Sum.inr (9, [Value.int fF, Value.int fS, Value.int 0, Value.ref q_1, Value.ref q_2, Value.ref q_3, Value.ref q_4, Value.int 0, Value.ref q_5, Value.ref q_6, Value.int 0, Value.long 0, Value.long 0, Value.int 0, Value.int 0, Value.ref q_7, Value.int 0, Value.ref q_8, Value.int 0, Value.ref q_9, Value.int 0, Value.int 0, Value.int 0, Value.int 0, Value.int 0, Value.int 0, Value.long 0, Value.long 0, Value.long 0, Value.long 0, Value.ref q_10, Value.ref q_11, Value.ref q_12, Value.int 0, Value.int 0])), (q_1, Sum.inl (cI, 8, Sum.inl (fun _ => 0))), (q_2, Sum.inl (cI, 512, Sum.inl (fun _ => 0))), (q_3, Sum.inl (cI, 512, Sum.inl (fun _ => 0))), (q_4, Sum.inl (cI, 512, Sum.inl (fun _ => 0))), (q_5, Sum.inl (cI, 600, Sum.inl (fun _ => 0))), (q_6, Sum.inl (cI, 600, Sum.inl (fun _ => 0))), (q_7, Sum.inl (cI, 9000, Sum.inl (fun _ => 0))), (q_8, Sum.inl (cI, 9000, Sum.inl (fun _ => 0))), (q_9, Sum.inl (cI, 6000, Sum.inl (fun _ => 0))), (q_10, Sum.inl (cI, 512, Sum.inl (fun _ => 0))), (q_11, Sum.inl (cI, 512, Sum.inl (fun _ => 0))), (q_12, Sum.inl (cI, 20000, Sum.inl (fun _ => 0)))] H → va_D A [(o, Sum.inr (9, [Value.int fF, Value.int fS, Value.int 0, Value.ref q_1, Value.ref q_2, Value.ref q_3, Value.ref q_4, Value.int 0, Value.ref q_5, Value.ref q_6, Value.int 0, Value.long 0, Value.long 0, Value.int 0, Value.int 0, Value.ref q_7, Value.int 0, Value.ref q_8, Value.int 0, Value.ref q_9, Value.int 0, Value.int 0, Value.int 0, Value.int 0, Value.int 0, Value.int 0, Value.long 0, Value.long 0, Value.long 0, Value.long 0, Value.ref q_10, Value.ref q_11, Value.ref q_12, Value.int 0, Value.int 0])), (q_1, Sum.inl (cI, 8, Sum.inl (fun _ => 0))), (q_2, Sum.inl (cI, 512, Sum.inl (fun _ => 0))), (q_3, Sum.inl (cI, 512, Sum.inl (fun _ => 0))), (q_4, Sum.inl (cI, 512, Sum.inl (fun _ => 0))), (q_5, Sum.inl (cI, 600, Sum.inl (fun _ => 0))), (q_6, Sum.inl (cI, 600, Sum.inl (fun _ => 0))), (q_7, Sum.inl (cI, 9000, Sum.inl (fun _ => 0))), (q_8, Sum.inl (cI, 9000, Sum.inl (fun _ => 0))), (q_9, Sum.inl (cI, 6000, Sum.inl (fun _ => 0))), (q_10, Sum.inl (cI, 512, Sum.inl (fun _ => 0))), (q_11, Sum.inl (cI, 512, Sum.inl (fun _ => 0))), (q_12, Sum.inl (cI, 20000, Sum.inl (fun _ => 0)))] → va_S A s.heap H locs → lv_has ls 3 [(0, Value.ref o), (1, Value.int p1), (2, Value.int p2)] → W p l e R s m args below meth c H locs (0 + 1 + 1 + 1 + 1 + 1 + 1 + 1 + 1 + 1 + 1 + 1 + 1) (0 + 8 + 512 + 512 + 512 + 600 + 600 + 9000 + 9000 + 6000 + 512 + 512 + 20000) Q (F0 m 158 ls []) := by
      intro fS hS9 H locs ls hP hD hS hl
      obtain ⟨g9, eg0, eg1, eg2, eg3, eg4, eg5, eg6, eg7, eg8, eg9, eg10, eg11⟩ : ∃ g9 : Nat → Nat, g9 0 = q_1 ∧ g9 1 = q_2 ∧ g9 2 = q_3 ∧ g9 3 = q_4 ∧ g9 4 = q_5 ∧ g9 5 = q_6 ∧ g9 6 = q_7 ∧ g9 7 = q_8 ∧ g9 8 = q_9 ∧ g9 9 = q_10 ∧ g9 10 = q_11 ∧ g9 11 = q_12 := ⟨fun k9 => if k9 = 0 then q_1 else if k9 = 1 then q_2 else if k9 = 2 then q_3 else if k9 = 3 then q_4 else if k9 = 4 then q_5 else if k9 = 5 then q_6 else if k9 = 6 then q_7 else if k9 = 7 then q_8 else if k9 = 8 then q_9 else if k9 = 9 then q_10 else if k9 = 10 then q_11 else q_12, rfl, rfl, rfl, rfl, rfl, rfl, rfl, rfl, rfl, rfl, rfl, rfl⟩
      have hP : va_P (dC, dI) vwCl [(o, Sum.inr (9, [Value.int fF, Value.int fS, Value.int 0, Value.ref (g9 0), Value.ref (g9 1), Value.ref (g9 2), Value.ref (g9 3), Value.int 0, Value.ref (g9 4), Value.ref (g9 5), Value.int 0, Value.long 0, Value.long 0, Value.int 0, Value.int 0, Value.ref (g9 6), Value.int 0, Value.ref (g9 7), Value.int 0, Value.ref (g9 8), Value.int 0, Value.int 0, Value.int 0, Value.int 0, Value.int 0, Value.int 0, Value.long 0, Value.long 0, Value.long 0, Value.long 0, Value.ref (g9 9), Value.ref (g9 10), Value.ref (g9 11), Value.int 0, Value.int 0])), ((g9 0), Sum.inl (cI, 8, Sum.inl (fun _ => 0))), ((g9 1), Sum.inl (cI, 512, Sum.inl (fun _ => 0))), ((g9 2), Sum.inl (cI, 512, Sum.inl (fun _ => 0))), ((g9 3), Sum.inl (cI, 512, Sum.inl (fun _ => 0))), ((g9 4), Sum.inl (cI, 600, Sum.inl (fun _ => 0))), ((g9 5), Sum.inl (cI, 600, Sum.inl (fun _ => 0))), ((g9 6), Sum.inl (cI, 9000, Sum.inl (fun _ => 0))), ((g9 7), Sum.inl (cI, 9000, Sum.inl (fun _ => 0))), ((g9 8), Sum.inl (cI, 6000, Sum.inl (fun _ => 0))), ((g9 9), Sum.inl (cI, 512, Sum.inl (fun _ => 0))), ((g9 10), Sum.inl (cI, 512, Sum.inl (fun _ => 0))), ((g9 11), Sum.inl (cI, 20000, Sum.inl (fun _ => 0)))] H := by rw [eg0, eg1, eg2, eg3, eg4, eg5, eg6, eg7, eg8, eg9, eg10, eg11]; exact hP
      have hD : va_D A [(o, Sum.inr (9, [Value.int fF, Value.int fS, Value.int 0, Value.ref (g9 0), Value.ref (g9 1), Value.ref (g9 2), Value.ref (g9 3), Value.int 0, Value.ref (g9 4), Value.ref (g9 5), Value.int 0, Value.long 0, Value.long 0, Value.int 0, Value.int 0, Value.ref (g9 6), Value.int 0, Value.ref (g9 7), Value.int 0, Value.ref (g9 8), Value.int 0, Value.int 0, Value.int 0, Value.int 0, Value.int 0, Value.int 0, Value.long 0, Value.long 0, Value.long 0, Value.long 0, Value.ref (g9 9), Value.ref (g9 10), Value.ref (g9 11), Value.int 0, Value.int 0])), ((g9 0), Sum.inl (cI, 8, Sum.inl (fun _ => 0))), ((g9 1), Sum.inl (cI, 512, Sum.inl (fun _ => 0))), ((g9 2), Sum.inl (cI, 512, Sum.inl (fun _ => 0))), ((g9 3), Sum.inl (cI, 512, Sum.inl (fun _ => 0))), ((g9 4), Sum.inl (cI, 600, Sum.inl (fun _ => 0))), ((g9 5), Sum.inl (cI, 600, Sum.inl (fun _ => 0))), ((g9 6), Sum.inl (cI, 9000, Sum.inl (fun _ => 0))), ((g9 7), Sum.inl (cI, 9000, Sum.inl (fun _ => 0))), ((g9 8), Sum.inl (cI, 6000, Sum.inl (fun _ => 0))), ((g9 9), Sum.inl (cI, 512, Sum.inl (fun _ => 0))), ((g9 10), Sum.inl (cI, 512, Sum.inl (fun _ => 0))), ((g9 11), Sum.inl (cI, 20000, Sum.inl (fun _ => 0)))] := by rw [eg0, eg1, eg2, eg3, eg4, eg5, eg6, eg7, eg8, eg9, eg10, eg11]; exact hD
      obtain ⟨fm9, -, hfm9, ef9⟩ := near_n p1 (a := 0) (b := 4) (by decide) (by decide)
      replace hP : va_P (dC, dI) vwCl [(o, Sum.inr (9, mO g9 fF fS 0 0 0 0 0 0 0 0 0 0 0 0 0 0 0 0 0 0 0 0 0)), ((g9 0), Sum.inl (cI, 8, Sum.inl (fun _ => 0))), ((g9 1), Sum.inl (cI, 512, Sum.inl (fun _ => 0))), ((g9 2), Sum.inl (cI, 512, Sum.inl (fun _ => 0))), ((g9 3), Sum.inl (cI, 512, Sum.inl (fun _ => 0))), ((g9 4), Sum.inl (cI, 600, Sum.inl (fun _ => 0))), ((g9 5), Sum.inl (cI, 600, Sum.inl (fun _ => 0))), ((g9 6), Sum.inl (cI, 9000, Sum.inl (fun _ => 0))), ((g9 7), Sum.inl (cI, 9000, Sum.inl (fun _ => 0))), ((g9 8), Sum.inl (cI, 6000, Sum.inl (fun _ => 0))), ((g9 9), Sum.inl (cI, 512, Sum.inl (fun _ => 0))), ((g9 10), Sum.inl (cI, 512, Sum.inl (fun _ => 0))), ((g9 11), Sum.inl (cI, 20000, Sum.inl (fun _ => 0)))] H := hP
      replace hD : va_D A [(o, Sum.inr (9, mO g9 fF fS 0 0 0 0 0 0 0 0 0 0 0 0 0 0 0 0 0 0 0 0 0)), ((g9 0), Sum.inl (cI, 8, Sum.inl (fun _ => 0))), ((g9 1), Sum.inl (cI, 512, Sum.inl (fun _ => 0))), ((g9 2), Sum.inl (cI, 512, Sum.inl (fun _ => 0))), ((g9 3), Sum.inl (cI, 512, Sum.inl (fun _ => 0))), ((g9 4), Sum.inl (cI, 600, Sum.inl (fun _ => 0))), ((g9 5), Sum.inl (cI, 600, Sum.inl (fun _ => 0))), ((g9 6), Sum.inl (cI, 9000, Sum.inl (fun _ => 0))), ((g9 7), Sum.inl (cI, 9000, Sum.inl (fun _ => 0))), ((g9 8), Sum.inl (cI, 6000, Sum.inl (fun _ => 0))), ((g9 9), Sum.inl (cI, 512, Sum.inl (fun _ => 0))), ((g9 10), Sum.inl (cI, 512, Sum.inl (fun _ => 0))), ((g9 11), Sum.inl (cI, 20000, Sum.inl (fun _ => 0)))] := hD
      refine lv_aload_n hx hb d_M_init_158 rfl (lv_at hl 0 rfl) ?_
      refine my_cv (wr := [((g9 3), Sum.inl (cI, 512, Sum.inl (fun _ => 0))), ((g9 4), Sum.inl (cI, 600, Sum.inl (fun _ => 0))), ((g9 5), Sum.inl (cI, 600, Sum.inl (fun _ => 0))), ((g9 6), Sum.inl (cI, 9000, Sum.inl (fun _ => 0))), ((g9 7), Sum.inl (cI, 9000, Sum.inl (fun _ => 0))), ((g9 8), Sum.inl (cI, 6000, Sum.inl (fun _ => 0))), ((g9 9), Sum.inl (cI, 512, Sum.inl (fun _ => 0))), ((g9 10), Sum.inl (cI, 512, Sum.inl (fun _ => 0))), ((g9 11), Sum.inl (cI, 20000, Sum.inl (fun _ => 0)))]) (va_runV (As := []) (rest := []) ⟨hx, hb, hml, hown, hts⟩ (c_M_start l dC dI cI cM cO H.size o g9 fF fS 0 0 0 0 0 0 0 0 0 0 0 0 0 0 0 0 0 0 0 0 0 (fun _ => 0) (fun _ => 0) (fun _ => 0) fm9 0 (fun _ => 2) (hfm9) (by rw [hF9]; exact ef9) (rfl) (⟨by decide, fun z9 h9 => absurd h9 (Nat.not_lt_zero z9)⟩)) (cwV 0 hts (my_gV k923 k925 ks18 k12 k926) rfl rfl rfl (by decide +kernel) ⟨by rw [hR]; exact Nat.le_of_ble_eq_true rfl, by rw [hR]; exact Nat.le_of_ble_eq_true rfl⟩) (my_preV hK hN (hP.sub [0, 1, 2, 3] rfl) (hD.sub [0, 1, 2, 3] (by decide +kernel) rfl) 0 rfl rfl) rfl rfl hl.1 rfl (lv_room (Nat.le_of_ble_eq_true rfl)) d_M_init_159 ⟨by rw [hR]; exact (show (0 + 1 + 1 + 1 + 1 + 1 + 1 + 1 + 1 + 1 + 1 + 1 + 1) + 0 ≤ 50000 by omega), by rw [hR]; exact (show (0 + 8 + 512 + 512 + 512 + 600 + 600 + 9000 + 9000 + 6000 + 512 + 512 + 20000) + 0 ≤ 50000 by omega)⟩) hP hD hS hA [0, 1, 2, 3] [4, 5, 6, 7, 8, 9, 10, 11, 12] rfl rfl (by decide +kernel) (by decide +kernel) (fun u9 _ _ hw_159 _ _ _ => ?_)
      clear hP hD hS
      rename_i H locs hP hD hS
      obtain ⟨fItemsq_159, fEndedq_159, fLowq_159, fRangeq_159, fCacheq_159, fPendq_159, fGoesq_159, vNowq_159⟩ := u9
      obtain ⟨hT_159, hs1_159, hs2_159, hs3_159, hs4_159, hs5_159, hs6_159, hs7_159⟩ : TB fm9 0 (fun _ => 2) vNowq_159 ∧ fItemsq_159 = 0 ∧ fEndedq_159 = 0 ∧ fLowq_159 = 0 ∧ fRangeq_159 = 4294967295 ∧ fCacheq_159 = -1 ∧ fPendq_159 = 0 ∧ fGoesq_159 = 0 := hw_159
      replace hP : va_P (dC, dI) vwCl [((g9 3), Sum.inl (cI, 512, Sum.inl (fun _ => 0))), ((g9 4), Sum.inl (cI, 600, Sum.inl (fun _ => 0))), ((g9 5), Sum.inl (cI, 600, Sum.inl (fun _ => 0))), ((g9 6), Sum.inl (cI, 9000, Sum.inl (fun _ => 0))), ((g9 7), Sum.inl (cI, 9000, Sum.inl (fun _ => 0))), ((g9 8), Sum.inl (cI, 6000, Sum.inl (fun _ => 0))), ((g9 9), Sum.inl (cI, 512, Sum.inl (fun _ => 0))), ((g9 10), Sum.inl (cI, 512, Sum.inl (fun _ => 0))), ((g9 11), Sum.inl (cI, 20000, Sum.inl (fun _ => 0))), (o, Sum.inr (9, mO g9 fF fS 0 fItemsq_159 fEndedq_159 fLowq_159 fRangeq_159 fCacheq_159 fPendq_159 fGoesq_159 0 0 0 0 0 0 0 0 0 0 0 0 0)), ((g9 0), Sum.inl (cI, 8, Sum.inl (fun _ => 0))), ((g9 1), Sum.inl (cI, 512, Sum.inl (fun _ => 0))), ((g9 2), Sum.inl (cI, 512, Sum.inl vNowq_159))] H := hP
      replace hD : va_D A [((g9 3), Sum.inl (cI, 512, Sum.inl (fun _ => 0))), ((g9 4), Sum.inl (cI, 600, Sum.inl (fun _ => 0))), ((g9 5), Sum.inl (cI, 600, Sum.inl (fun _ => 0))), ((g9 6), Sum.inl (cI, 9000, Sum.inl (fun _ => 0))), ((g9 7), Sum.inl (cI, 9000, Sum.inl (fun _ => 0))), ((g9 8), Sum.inl (cI, 6000, Sum.inl (fun _ => 0))), ((g9 9), Sum.inl (cI, 512, Sum.inl (fun _ => 0))), ((g9 10), Sum.inl (cI, 512, Sum.inl (fun _ => 0))), ((g9 11), Sum.inl (cI, 20000, Sum.inl (fun _ => 0))), (o, Sum.inr (9, mO g9 fF fS 0 fItemsq_159 fEndedq_159 fLowq_159 fRangeq_159 fCacheq_159 fPendq_159 fGoesq_159 0 0 0 0 0 0 0 0 0 0 0 0 0)), ((g9 0), Sum.inl (cI, 8, Sum.inl (fun _ => 0))), ((g9 1), Sum.inl (cI, 512, Sum.inl (fun _ => 0))), ((g9 2), Sum.inl (cI, 512, Sum.inl vNowq_159))] := hD
      subst hs1_159
      subst hs2_159
      subst hs3_159
      subst hs4_159
      subst hs5_159
      subst hs6_159
      subst hs7_159
      replace hP : va_P (dC, dI) vwCl [((g9 3), Sum.inl (cI, 512, Sum.inl (fun _ => 0))), ((g9 4), Sum.inl (cI, 600, Sum.inl (fun _ => 0))), ((g9 5), Sum.inl (cI, 600, Sum.inl (fun _ => 0))), ((g9 6), Sum.inl (cI, 9000, Sum.inl (fun _ => 0))), ((g9 7), Sum.inl (cI, 9000, Sum.inl (fun _ => 0))), ((g9 8), Sum.inl (cI, 6000, Sum.inl (fun _ => 0))), ((g9 9), Sum.inl (cI, 512, Sum.inl (fun _ => 0))), ((g9 10), Sum.inl (cI, 512, Sum.inl (fun _ => 0))), ((g9 11), Sum.inl (cI, 20000, Sum.inl (fun _ => 0))), (o, Sum.inr (9, mO g9 fF fS 0 0 0 0 4294967295 (-1) 0 0 0 0 0 0 0 0 0 0 0 0 0 0 0)), ((g9 0), Sum.inl (cI, 8, Sum.inl (fun _ => 0))), ((g9 1), Sum.inl (cI, 512, Sum.inl (fun _ => 0))), ((g9 2), Sum.inl (cI, 512, Sum.inl vNowq_159))] H := hP
      replace hD : va_D A [((g9 3), Sum.inl (cI, 512, Sum.inl (fun _ => 0))), ((g9 4), Sum.inl (cI, 600, Sum.inl (fun _ => 0))), ((g9 5), Sum.inl (cI, 600, Sum.inl (fun _ => 0))), ((g9 6), Sum.inl (cI, 9000, Sum.inl (fun _ => 0))), ((g9 7), Sum.inl (cI, 9000, Sum.inl (fun _ => 0))), ((g9 8), Sum.inl (cI, 6000, Sum.inl (fun _ => 0))), ((g9 9), Sum.inl (cI, 512, Sum.inl (fun _ => 0))), ((g9 10), Sum.inl (cI, 512, Sum.inl (fun _ => 0))), ((g9 11), Sum.inl (cI, 20000, Sum.inl (fun _ => 0))), (o, Sum.inr (9, mO g9 fF fS 0 0 0 0 4294967295 (-1) 0 0 0 0 0 0 0 0 0 0 0 0 0 0 0)), ((g9 0), Sum.inl (cI, 8, Sum.inl (fun _ => 0))), ((g9 1), Sum.inl (cI, 512, Sum.inl (fun _ => 0))), ((g9 2), Sum.inl (cI, 512, Sum.inl vNowq_159))] := hD
      exact my_vretg hx hb hr hlocks hQ hK hS (g9, fF, fS, vNowq_159) (show (0 + 1 + 1 + 1 + 1 + 1 + 1 + 1 + 1 + 1 + 1 + 1 + 1) + 0 ≤ 50000 by omega) (show (0 + 8 + 512 + 512 + 512 + 600 + 600 + 9000 + 9000 + 6000 + 512 + 512 + 20000) + 0 ≤ 50000 by omega) (⟨hF9, hS9⟩) (hP.sub [9, 10, 11, 12, 0, 1, 2, 3, 4, 5, 6, 7, 8] rfl) (hD.sub [9, 10, 11, 12, 0, 1, 2, 3, 4, 5, 6, 7, 8] (by decide +kernel) rfl) d_M_init_162
    refine lv_aload_n hx hb d_M_init_133 rfl (lv_at hl 0 rfl) ?_
    refine lv_iload_n hx hb d_M_init_134 rfl (lv_at hl 2 rfl) ?_
    refine lv_iconst (v := 1) hx hb d_M_init_135 (by decide) ?_
    refine lv_icmp_ge (tgt := 143) hx hb d_M_init_136 (by decide) (fun c_13 => ?_) (fun c_13 => ?_)
    · refine lv_iload_n hx hb d_M_init_143 rfl (lv_at hl 2 rfl) ?_
      refine lv_bipush (v := 10) hx hb d_M_init_144 (by decide) ?_
      refine lv_icmp_le (tgt := 154) hx hb d_M_init_146 (by decide) (fun c_14 => ?_) (fun c_14 => ?_)
      · refine lv_iload_n hx hb d_M_init_154 rfl (lv_at hl 2 rfl) ?_
        refine va_putF (D := (dC, dI)) (ci := 9) (v := .int p2) (ty := .int) (C := "RangeCodersModel") (T := T_M) (N := 35) hx hb hg in_M t_M o_M n_M hown hK hP hD hS 0 rfl rfl 1 (by decide) (hg _ k953) (fun _ h9 => h9) rfl (by rw [hnm]; rfl) rfl (by decide +kernel) rfl rfl (Nat.le_of_ble_eq_true rfl) d_M_init_155 (fun _ _ _ _ _ => ?_)
        clear hP hD hS
        rename_i H locs hP hD hS
        replace hP : va_P (dC, dI) vwCl [(o, Sum.inr (9, [Value.int fF, Value.int p2, Value.int 0, Value.ref q_1, Value.ref q_2, Value.ref q_3, Value.ref q_4, Value.int 0, Value.ref q_5, Value.ref q_6, Value.int 0, Value.long 0, Value.long 0, Value.int 0, Value.int 0, Value.ref q_7, Value.int 0, Value.ref q_8, Value.int 0, Value.ref q_9, Value.int 0, Value.int 0, Value.int 0, Value.int 0, Value.int 0, Value.int 0, Value.long 0, Value.long 0, Value.long 0, Value.long 0, Value.ref q_10, Value.ref q_11, Value.ref q_12, Value.int 0, Value.int 0])), (q_1, Sum.inl (cI, 8, Sum.inl (fun _ => 0))), (q_2, Sum.inl (cI, 512, Sum.inl (fun _ => 0))), (q_3, Sum.inl (cI, 512, Sum.inl (fun _ => 0))), (q_4, Sum.inl (cI, 512, Sum.inl (fun _ => 0))), (q_5, Sum.inl (cI, 600, Sum.inl (fun _ => 0))), (q_6, Sum.inl (cI, 600, Sum.inl (fun _ => 0))), (q_7, Sum.inl (cI, 9000, Sum.inl (fun _ => 0))), (q_8, Sum.inl (cI, 9000, Sum.inl (fun _ => 0))), (q_9, Sum.inl (cI, 6000, Sum.inl (fun _ => 0))), (q_10, Sum.inl (cI, 512, Sum.inl (fun _ => 0))), (q_11, Sum.inl (cI, 512, Sum.inl (fun _ => 0))), (q_12, Sum.inl (cI, 20000, Sum.inl (fun _ => 0)))] H := hP
        replace hD : va_D A [(o, Sum.inr (9, [Value.int fF, Value.int p2, Value.int 0, Value.ref q_1, Value.ref q_2, Value.ref q_3, Value.ref q_4, Value.int 0, Value.ref q_5, Value.ref q_6, Value.int 0, Value.long 0, Value.long 0, Value.int 0, Value.int 0, Value.ref q_7, Value.int 0, Value.ref q_8, Value.int 0, Value.ref q_9, Value.int 0, Value.int 0, Value.int 0, Value.int 0, Value.int 0, Value.int 0, Value.long 0, Value.long 0, Value.long 0, Value.long 0, Value.ref q_10, Value.ref q_11, Value.ref q_12, Value.int 0, Value.int 0])), (q_1, Sum.inl (cI, 8, Sum.inl (fun _ => 0))), (q_2, Sum.inl (cI, 512, Sum.inl (fun _ => 0))), (q_3, Sum.inl (cI, 512, Sum.inl (fun _ => 0))), (q_4, Sum.inl (cI, 512, Sum.inl (fun _ => 0))), (q_5, Sum.inl (cI, 600, Sum.inl (fun _ => 0))), (q_6, Sum.inl (cI, 600, Sum.inl (fun _ => 0))), (q_7, Sum.inl (cI, 9000, Sum.inl (fun _ => 0))), (q_8, Sum.inl (cI, 9000, Sum.inl (fun _ => 0))), (q_9, Sum.inl (cI, 6000, Sum.inl (fun _ => 0))), (q_10, Sum.inl (cI, 512, Sum.inl (fun _ => 0))), (q_11, Sum.inl (cI, 512, Sum.inl (fun _ => 0))), (q_12, Sum.inl (cI, 20000, Sum.inl (fun _ => 0)))] := hD
        exact J_158 p2 (by rw [near_mid c_13 c_14]) H locs ls (hP.sub [0, 1, 2, 3, 4, 5, 6, 7, 8, 9, 10, 11, 12] rfl) (hD.sub [0, 1, 2, 3, 4, 5, 6, 7, 8, 9, 10, 11, 12] (by decide +kernel) rfl) hS (lv_sub hl [0, 1, 2] rfl)
      · refine lv_bipush (v := 10) hx hb d_M_init_149 (by decide) ?_
        refine lv_goto (tgt := 155) hx hb d_M_init_151 (by decide) ?_
        refine va_putF (D := (dC, dI)) (ci := 9) (v := .int 10) (ty := .int) (C := "RangeCodersModel") (T := T_M) (N := 35) hx hb hg in_M t_M o_M n_M hown hK hP hD hS 0 rfl rfl 1 (by decide) (hg _ k953) (fun _ h9 => h9) rfl (by rw [hnm]; rfl) rfl (by decide +kernel) rfl rfl (Nat.le_of_ble_eq_true rfl) d_M_init_155 (fun _ _ _ _ _ => ?_)
        clear hP hD hS
        rename_i H locs hP hD hS
        replace hP : va_P (dC, dI) vwCl [(o, Sum.inr (9, [Value.int fF, Value.int 10, Value.int 0, Value.ref q_1, Value.ref q_2, Value.ref q_3, Value.ref q_4, Value.int 0, Value.ref q_5, Value.ref q_6, Value.int 0, Value.long 0, Value.long 0, Value.int 0, Value.int 0, Value.ref q_7, Value.int 0, Value.ref q_8, Value.int 0, Value.ref q_9, Value.int 0, Value.int 0, Value.int 0, Value.int 0, Value.int 0, Value.int 0, Value.long 0, Value.long 0, Value.long 0, Value.long 0, Value.ref q_10, Value.ref q_11, Value.ref q_12, Value.int 0, Value.int 0])), (q_1, Sum.inl (cI, 8, Sum.inl (fun _ => 0))), (q_2, Sum.inl (cI, 512, Sum.inl (fun _ => 0))), (q_3, Sum.inl (cI, 512, Sum.inl (fun _ => 0))), (q_4, Sum.inl (cI, 512, Sum.inl (fun _ => 0))), (q_5, Sum.inl (cI, 600, Sum.inl (fun _ => 0))), (q_6, Sum.inl (cI, 600, Sum.inl (fun _ => 0))), (q_7, Sum.inl (cI, 9000, Sum.inl (fun _ => 0))), (q_8, Sum.inl (cI, 9000, Sum.inl (fun _ => 0))), (q_9, Sum.inl (cI, 6000, Sum.inl (fun _ => 0))), (q_10, Sum.inl (cI, 512, Sum.inl (fun _ => 0))), (q_11, Sum.inl (cI, 512, Sum.inl (fun _ => 0))), (q_12, Sum.inl (cI, 20000, Sum.inl (fun _ => 0)))] H := hP
        replace hD : va_D A [(o, Sum.inr (9, [Value.int fF, Value.int 10, Value.int 0, Value.ref q_1, Value.ref q_2, Value.ref q_3, Value.ref q_4, Value.int 0, Value.ref q_5, Value.ref q_6, Value.int 0, Value.long 0, Value.long 0, Value.int 0, Value.int 0, Value.ref q_7, Value.int 0, Value.ref q_8, Value.int 0, Value.ref q_9, Value.int 0, Value.int 0, Value.int 0, Value.int 0, Value.int 0, Value.int 0, Value.long 0, Value.long 0, Value.long 0, Value.long 0, Value.ref q_10, Value.ref q_11, Value.ref q_12, Value.int 0, Value.int 0])), (q_1, Sum.inl (cI, 8, Sum.inl (fun _ => 0))), (q_2, Sum.inl (cI, 512, Sum.inl (fun _ => 0))), (q_3, Sum.inl (cI, 512, Sum.inl (fun _ => 0))), (q_4, Sum.inl (cI, 512, Sum.inl (fun _ => 0))), (q_5, Sum.inl (cI, 600, Sum.inl (fun _ => 0))), (q_6, Sum.inl (cI, 600, Sum.inl (fun _ => 0))), (q_7, Sum.inl (cI, 9000, Sum.inl (fun _ => 0))), (q_8, Sum.inl (cI, 9000, Sum.inl (fun _ => 0))), (q_9, Sum.inl (cI, 6000, Sum.inl (fun _ => 0))), (q_10, Sum.inl (cI, 512, Sum.inl (fun _ => 0))), (q_11, Sum.inl (cI, 512, Sum.inl (fun _ => 0))), (q_12, Sum.inl (cI, 20000, Sum.inl (fun _ => 0)))] := hD
        exact J_158 (10 : Int32) (by rw [near_hi c_14 (by decide)]) H locs ls (hP.sub [0, 1, 2, 3, 4, 5, 6, 7, 8, 9, 10, 11, 12] rfl) (hD.sub [0, 1, 2, 3, 4, 5, 6, 7, 8, 9, 10, 11, 12] (by decide +kernel) rfl) hS (lv_sub hl [0, 1, 2] rfl)
    · refine lv_iconst (v := 1) hx hb d_M_init_139 (by decide) ?_
      refine lv_goto (tgt := 155) hx hb d_M_init_140 (by decide) ?_
      refine va_putF (D := (dC, dI)) (ci := 9) (v := .int 1) (ty := .int) (C := "RangeCodersModel") (T := T_M) (N := 35) hx hb hg in_M t_M o_M n_M hown hK hP hD hS 0 rfl rfl 1 (by decide) (hg _ k953) (fun _ h9 => h9) rfl (by rw [hnm]; rfl) rfl (by decide +kernel) rfl rfl (Nat.le_of_ble_eq_true rfl) d_M_init_155 (fun _ _ _ _ _ => ?_)
      clear hP hD hS
      rename_i H locs hP hD hS
      replace hP : va_P (dC, dI) vwCl [(o, Sum.inr (9, [Value.int fF, Value.int 1, Value.int 0, Value.ref q_1, Value.ref q_2, Value.ref q_3, Value.ref q_4, Value.int 0, Value.ref q_5, Value.ref q_6, Value.int 0, Value.long 0, Value.long 0, Value.int 0, Value.int 0, Value.ref q_7, Value.int 0, Value.ref q_8, Value.int 0, Value.ref q_9, Value.int 0, Value.int 0, Value.int 0, Value.int 0, Value.int 0, Value.int 0, Value.long 0, Value.long 0, Value.long 0, Value.long 0, Value.ref q_10, Value.ref q_11, Value.ref q_12, Value.int 0, Value.int 0])), (q_1, Sum.inl (cI, 8, Sum.inl (fun _ => 0))), (q_2, Sum.inl (cI, 512, Sum.inl (fun _ => 0))), (q_3, Sum.inl (cI, 512, Sum.inl (fun _ => 0))), (q_4, Sum.inl (cI, 512, Sum.inl (fun _ => 0))), (q_5, Sum.inl (cI, 600, Sum.inl (fun _ => 0))), (q_6, Sum.inl (cI, 600, Sum.inl (fun _ => 0))), (q_7, Sum.inl (cI, 9000, Sum.inl (fun _ => 0))), (q_8, Sum.inl (cI, 9000, Sum.inl (fun _ => 0))), (q_9, Sum.inl (cI, 6000, Sum.inl (fun _ => 0))), (q_10, Sum.inl (cI, 512, Sum.inl (fun _ => 0))), (q_11, Sum.inl (cI, 512, Sum.inl (fun _ => 0))), (q_12, Sum.inl (cI, 20000, Sum.inl (fun _ => 0)))] H := hP
      replace hD : va_D A [(o, Sum.inr (9, [Value.int fF, Value.int 1, Value.int 0, Value.ref q_1, Value.ref q_2, Value.ref q_3, Value.ref q_4, Value.int 0, Value.ref q_5, Value.ref q_6, Value.int 0, Value.long 0, Value.long 0, Value.int 0, Value.int 0, Value.ref q_7, Value.int 0, Value.ref q_8, Value.int 0, Value.ref q_9, Value.int 0, Value.int 0, Value.int 0, Value.int 0, Value.int 0, Value.int 0, Value.long 0, Value.long 0, Value.long 0, Value.long 0, Value.ref q_10, Value.ref q_11, Value.ref q_12, Value.int 0, Value.int 0])), (q_1, Sum.inl (cI, 8, Sum.inl (fun _ => 0))), (q_2, Sum.inl (cI, 512, Sum.inl (fun _ => 0))), (q_3, Sum.inl (cI, 512, Sum.inl (fun _ => 0))), (q_4, Sum.inl (cI, 512, Sum.inl (fun _ => 0))), (q_5, Sum.inl (cI, 600, Sum.inl (fun _ => 0))), (q_6, Sum.inl (cI, 600, Sum.inl (fun _ => 0))), (q_7, Sum.inl (cI, 9000, Sum.inl (fun _ => 0))), (q_8, Sum.inl (cI, 9000, Sum.inl (fun _ => 0))), (q_9, Sum.inl (cI, 6000, Sum.inl (fun _ => 0))), (q_10, Sum.inl (cI, 512, Sum.inl (fun _ => 0))), (q_11, Sum.inl (cI, 512, Sum.inl (fun _ => 0))), (q_12, Sum.inl (cI, 20000, Sum.inl (fun _ => 0)))] := hD
      exact J_158 (1 : Int32) (by rw [near_lo c_13 (by decide)]) H locs ls (hP.sub [0, 1, 2, 3, 4, 5, 6, 7, 8, 9, 10, 11, 12] rfl) (hD.sub [0, 1, 2, 3, 4, 5, 6, 7, 8, 9, 10, 11, 12] (by decide +kernel) rfl) hS (lv_sub hl [0, 1, 2] rfl)
  refine lv_aload_n hx hb d_M_init_111 rfl (lv_at hl 0 rfl) ?_
  refine lv_iload_n hx hb d_M_init_112 rfl (lv_at hl 1 rfl) ?_
  refine lv_if_ge (tgt := 120) hx hb d_M_init_113 (by decide) (fun c_15 => ?_) (fun c_15 => ?_)
  · refine lv_iload_n hx hb d_M_init_120 rfl (lv_at hl 1 rfl) ?_
    refine lv_iconst (v := 4) hx hb d_M_init_121 (by decide) ?_
    refine lv_icmp_le (tgt := 129) hx hb d_M_init_122 (by decide) (fun c_16 => ?_) (fun c_16 => ?_)
    · refine lv_iload_n hx hb d_M_init_129 rfl (lv_at hl 1 rfl) ?_
      refine va_putF (D := (dC, dI)) (ci := 9) (v := .int p1) (ty := .int) (C := "RangeCodersModel") (T := T_M) (N := 35) hx hb hg in_M t_M o_M n_M hown hK hP hD hS 0 rfl rfl 0 (by decide) (hg _ k952) (fun _ h9 => h9) rfl (by rw [hnm]; rfl) rfl (by decide +kernel) rfl rfl (Nat.le_of_ble_eq_true rfl) d_M_init_130 (fun _ _ _ _ _ => ?_)
      clear hP hD hS
      rename_i H locs hP hD hS
      replace hP : va_P (dC, dI) vwCl [(o, Sum.inr (9, [Value.int p1, Value.int 0, Value.int 0, Value.ref q_1, Value.ref q_2, Value.ref q_3, Value.ref q_4, Value.int 0, Value.ref q_5, Value.ref q_6, Value.int 0, Value.long 0, Value.long 0, Value.int 0, Value.int 0, Value.ref q_7, Value.int 0, Value.ref q_8, Value.int 0, Value.ref q_9, Value.int 0, Value.int 0, Value.int 0, Value.int 0, Value.int 0, Value.int 0, Value.long 0, Value.long 0, Value.long 0, Value.long 0, Value.ref q_10, Value.ref q_11, Value.ref q_12, Value.int 0, Value.int 0])), (q_1, Sum.inl (cI, 8, Sum.inl (fun _ => 0))), (q_2, Sum.inl (cI, 512, Sum.inl (fun _ => 0))), (q_3, Sum.inl (cI, 512, Sum.inl (fun _ => 0))), (q_4, Sum.inl (cI, 512, Sum.inl (fun _ => 0))), (q_5, Sum.inl (cI, 600, Sum.inl (fun _ => 0))), (q_6, Sum.inl (cI, 600, Sum.inl (fun _ => 0))), (q_7, Sum.inl (cI, 9000, Sum.inl (fun _ => 0))), (q_8, Sum.inl (cI, 9000, Sum.inl (fun _ => 0))), (q_9, Sum.inl (cI, 6000, Sum.inl (fun _ => 0))), (q_10, Sum.inl (cI, 512, Sum.inl (fun _ => 0))), (q_11, Sum.inl (cI, 512, Sum.inl (fun _ => 0))), (q_12, Sum.inl (cI, 20000, Sum.inl (fun _ => 0)))] H := hP
      replace hD : va_D A [(o, Sum.inr (9, [Value.int p1, Value.int 0, Value.int 0, Value.ref q_1, Value.ref q_2, Value.ref q_3, Value.ref q_4, Value.int 0, Value.ref q_5, Value.ref q_6, Value.int 0, Value.long 0, Value.long 0, Value.int 0, Value.int 0, Value.ref q_7, Value.int 0, Value.ref q_8, Value.int 0, Value.ref q_9, Value.int 0, Value.int 0, Value.int 0, Value.int 0, Value.int 0, Value.int 0, Value.long 0, Value.long 0, Value.long 0, Value.long 0, Value.ref q_10, Value.ref q_11, Value.ref q_12, Value.int 0, Value.int 0])), (q_1, Sum.inl (cI, 8, Sum.inl (fun _ => 0))), (q_2, Sum.inl (cI, 512, Sum.inl (fun _ => 0))), (q_3, Sum.inl (cI, 512, Sum.inl (fun _ => 0))), (q_4, Sum.inl (cI, 512, Sum.inl (fun _ => 0))), (q_5, Sum.inl (cI, 600, Sum.inl (fun _ => 0))), (q_6, Sum.inl (cI, 600, Sum.inl (fun _ => 0))), (q_7, Sum.inl (cI, 9000, Sum.inl (fun _ => 0))), (q_8, Sum.inl (cI, 9000, Sum.inl (fun _ => 0))), (q_9, Sum.inl (cI, 6000, Sum.inl (fun _ => 0))), (q_10, Sum.inl (cI, 512, Sum.inl (fun _ => 0))), (q_11, Sum.inl (cI, 512, Sum.inl (fun _ => 0))), (q_12, Sum.inl (cI, 20000, Sum.inl (fun _ => 0)))] := hD
      exact J_133 p1 (by rw [near_mid c_15 c_16]) H locs ls (hP.sub [0, 1, 2, 3, 4, 5, 6, 7, 8, 9, 10, 11, 12] rfl) (hD.sub [0, 1, 2, 3, 4, 5, 6, 7, 8, 9, 10, 11, 12] (by decide +kernel) rfl) hS (lv_sub hl [0, 1, 2] rfl)
    · refine lv_iconst (v := 4) hx hb d_M_init_125 (by decide) ?_
      refine lv_goto (tgt := 130) hx hb d_M_init_126 (by decide) ?_
      refine va_putF (D := (dC, dI)) (ci := 9) (v := .int 4) (ty := .int) (C := "RangeCodersModel") (T := T_M) (N := 35) hx hb hg in_M t_M o_M n_M hown hK hP hD hS 0 rfl rfl 0 (by decide) (hg _ k952) (fun _ h9 => h9) rfl (by rw [hnm]; rfl) rfl (by decide +kernel) rfl rfl (Nat.le_of_ble_eq_true rfl) d_M_init_130 (fun _ _ _ _ _ => ?_)
      clear hP hD hS
      rename_i H locs hP hD hS
      replace hP : va_P (dC, dI) vwCl [(o, Sum.inr (9, [Value.int 4, Value.int 0, Value.int 0, Value.ref q_1, Value.ref q_2, Value.ref q_3, Value.ref q_4, Value.int 0, Value.ref q_5, Value.ref q_6, Value.int 0, Value.long 0, Value.long 0, Value.int 0, Value.int 0, Value.ref q_7, Value.int 0, Value.ref q_8, Value.int 0, Value.ref q_9, Value.int 0, Value.int 0, Value.int 0, Value.int 0, Value.int 0, Value.int 0, Value.long 0, Value.long 0, Value.long 0, Value.long 0, Value.ref q_10, Value.ref q_11, Value.ref q_12, Value.int 0, Value.int 0])), (q_1, Sum.inl (cI, 8, Sum.inl (fun _ => 0))), (q_2, Sum.inl (cI, 512, Sum.inl (fun _ => 0))), (q_3, Sum.inl (cI, 512, Sum.inl (fun _ => 0))), (q_4, Sum.inl (cI, 512, Sum.inl (fun _ => 0))), (q_5, Sum.inl (cI, 600, Sum.inl (fun _ => 0))), (q_6, Sum.inl (cI, 600, Sum.inl (fun _ => 0))), (q_7, Sum.inl (cI, 9000, Sum.inl (fun _ => 0))), (q_8, Sum.inl (cI, 9000, Sum.inl (fun _ => 0))), (q_9, Sum.inl (cI, 6000, Sum.inl (fun _ => 0))), (q_10, Sum.inl (cI, 512, Sum.inl (fun _ => 0))), (q_11, Sum.inl (cI, 512, Sum.inl (fun _ => 0))), (q_12, Sum.inl (cI, 20000, Sum.inl (fun _ => 0)))] H := hP
      replace hD : va_D A [(o, Sum.inr (9, [Value.int 4, Value.int 0, Value.int 0, Value.ref q_1, Value.ref q_2, Value.ref q_3, Value.ref q_4, Value.int 0, Value.ref q_5, Value.ref q_6, Value.int 0, Value.long 0, Value.long 0, Value.int 0, Value.int 0, Value.ref q_7, Value.int 0, Value.ref q_8, Value.int 0, Value.ref q_9, Value.int 0, Value.int 0, Value.int 0, Value.int 0, Value.int 0, Value.int 0, Value.long 0, Value.long 0, Value.long 0, Value.long 0, Value.ref q_10, Value.ref q_11, Value.ref q_12, Value.int 0, Value.int 0])), (q_1, Sum.inl (cI, 8, Sum.inl (fun _ => 0))), (q_2, Sum.inl (cI, 512, Sum.inl (fun _ => 0))), (q_3, Sum.inl (cI, 512, Sum.inl (fun _ => 0))), (q_4, Sum.inl (cI, 512, Sum.inl (fun _ => 0))), (q_5, Sum.inl (cI, 600, Sum.inl (fun _ => 0))), (q_6, Sum.inl (cI, 600, Sum.inl (fun _ => 0))), (q_7, Sum.inl (cI, 9000, Sum.inl (fun _ => 0))), (q_8, Sum.inl (cI, 9000, Sum.inl (fun _ => 0))), (q_9, Sum.inl (cI, 6000, Sum.inl (fun _ => 0))), (q_10, Sum.inl (cI, 512, Sum.inl (fun _ => 0))), (q_11, Sum.inl (cI, 512, Sum.inl (fun _ => 0))), (q_12, Sum.inl (cI, 20000, Sum.inl (fun _ => 0)))] := hD
      exact J_133 (4 : Int32) (by rw [near_hi c_16 (by decide)]) H locs ls (hP.sub [0, 1, 2, 3, 4, 5, 6, 7, 8, 9, 10, 11, 12] rfl) (hD.sub [0, 1, 2, 3, 4, 5, 6, 7, 8, 9, 10, 11, 12] (by decide +kernel) rfl) hS (lv_sub hl [0, 1, 2] rfl)
  · refine lv_iconst (v := 0) hx hb d_M_init_116 (by decide) ?_
    refine lv_goto (tgt := 130) hx hb d_M_init_117 (by decide) ?_
    refine va_putF (D := (dC, dI)) (ci := 9) (v := .int 0) (ty := .int) (C := "RangeCodersModel") (T := T_M) (N := 35) hx hb hg in_M t_M o_M n_M hown hK hP hD hS 0 rfl rfl 0 (by decide) (hg _ k952) (fun _ h9 => h9) rfl (by rw [hnm]; rfl) rfl (by decide +kernel) rfl rfl (Nat.le_of_ble_eq_true rfl) d_M_init_130 (fun _ _ _ _ _ => ?_)
    clear hP hD hS
    rename_i H locs hP hD hS
    replace hP : va_P (dC, dI) vwCl [(o, Sum.inr (9, [Value.int 0, Value.int 0, Value.int 0, Value.ref q_1, Value.ref q_2, Value.ref q_3, Value.ref q_4, Value.int 0, Value.ref q_5, Value.ref q_6, Value.int 0, Value.long 0, Value.long 0, Value.int 0, Value.int 0, Value.ref q_7, Value.int 0, Value.ref q_8, Value.int 0, Value.ref q_9, Value.int 0, Value.int 0, Value.int 0, Value.int 0, Value.int 0, Value.int 0, Value.long 0, Value.long 0, Value.long 0, Value.long 0, Value.ref q_10, Value.ref q_11, Value.ref q_12, Value.int 0, Value.int 0])), (q_1, Sum.inl (cI, 8, Sum.inl (fun _ => 0))), (q_2, Sum.inl (cI, 512, Sum.inl (fun _ => 0))), (q_3, Sum.inl (cI, 512, Sum.inl (fun _ => 0))), (q_4, Sum.inl (cI, 512, Sum.inl (fun _ => 0))), (q_5, Sum.inl (cI, 600, Sum.inl (fun _ => 0))), (q_6, Sum.inl (cI, 600, Sum.inl (fun _ => 0))), (q_7, Sum.inl (cI, 9000, Sum.inl (fun _ => 0))), (q_8, Sum.inl (cI, 9000, Sum.inl (fun _ => 0))), (q_9, Sum.inl (cI, 6000, Sum.inl (fun _ => 0))), (q_10, Sum.inl (cI, 512, Sum.inl (fun _ => 0))), (q_11, Sum.inl (cI, 512, Sum.inl (fun _ => 0))), (q_12, Sum.inl (cI, 20000, Sum.inl (fun _ => 0)))] H := hP
    replace hD : va_D A [(o, Sum.inr (9, [Value.int 0, Value.int 0, Value.int 0, Value.ref q_1, Value.ref q_2, Value.ref q_3, Value.ref q_4, Value.int 0, Value.ref q_5, Value.ref q_6, Value.int 0, Value.long 0, Value.long 0, Value.int 0, Value.int 0, Value.ref q_7, Value.int 0, Value.ref q_8, Value.int 0, Value.ref q_9, Value.int 0, Value.int 0, Value.int 0, Value.int 0, Value.int 0, Value.int 0, Value.long 0, Value.long 0, Value.long 0, Value.long 0, Value.ref q_10, Value.ref q_11, Value.ref q_12, Value.int 0, Value.int 0])), (q_1, Sum.inl (cI, 8, Sum.inl (fun _ => 0))), (q_2, Sum.inl (cI, 512, Sum.inl (fun _ => 0))), (q_3, Sum.inl (cI, 512, Sum.inl (fun _ => 0))), (q_4, Sum.inl (cI, 512, Sum.inl (fun _ => 0))), (q_5, Sum.inl (cI, 600, Sum.inl (fun _ => 0))), (q_6, Sum.inl (cI, 600, Sum.inl (fun _ => 0))), (q_7, Sum.inl (cI, 9000, Sum.inl (fun _ => 0))), (q_8, Sum.inl (cI, 9000, Sum.inl (fun _ => 0))), (q_9, Sum.inl (cI, 6000, Sum.inl (fun _ => 0))), (q_10, Sum.inl (cI, 512, Sum.inl (fun _ => 0))), (q_11, Sum.inl (cI, 512, Sum.inl (fun _ => 0))), (q_12, Sum.inl (cI, 20000, Sum.inl (fun _ => 0)))] := hD
    exact J_133 (0 : Int32) (by rw [near_lo c_15 (by decide)]) H locs ls (hP.sub [0, 1, 2, 3, 4, 5, 6, 7, 8, 9, 10, 11, 12] rfl) (hD.sub [0, 1, 2, 3, 4, 5, 6, 7, 8, 9, 10, 11, 12] (by decide +kernel) rfl) hS (lv_sub hl [0, 1, 2] rfl)
end
section
/-! PURE WORDS for the class's own tables and rows -/
def tbI (f : Nat → Int32) (n : Nat) (G : Nat → Nat) : Prop := ∀ k, k < n → f k = nI (G k)
def tbL (fL : Nat → Int32) (n j : Nat) (G F : Nat → Nat) : Prop := tbI fL j G ∧ ∀ k, j ≤ k → k < n → fL k = nI (F k)
theorem tbI_0 (f : Nat → Int32) (G : Nat → Nat) : tbI f 0 G := fun k hk => absurd hk (Nat.not_lt_zero k)
theorem tbL_0 {f : Nat → Int32} {n : Nat} {G F : Nat → Nat} (h : tbI f n F) : tbL f n 0 G F := ⟨tbI_0 _ _, fun k _ hk => h k hk⟩
theorem tbL_st {fL : Nat → Int32} {n j i : Nat} {G F : Nat → Nat} {x : Int32} (h : tbL fL n j G F) (hi : i = j) (hx : x = nI (G j)) : tbL (upd fL i x) n (j + 1) G F := by
  subst hi
  refine ⟨fun k hk => ?_, fun k hk hk2 => ?_⟩
  · by_cases e : k = i
    · subst e; rw [pk_us, hx]
    · rw [pk_un e]; exact h.1 k (by omega)
  · rw [pk_un (by omega)]; exact h.2 k (by omega) hk2
theorem tb_up {f : Nat → Int32} {n j i : Nat} {F : Nat → Nat} {x : Int32} {v : Nat} (h : tbI f n F) (hi : i = j) (hx : x = nI v) : tbI (upd f i x) n (upN F j v) := by
  subst hi
  intro k hk
  by_cases e : k = i
  · subst e; rw [pk_us, upN_s, hx]
  · rw [pk_un e, upN_n _ e]; exact h k hk
theorem tb_add {f : Nat → Int32} {j i : Nat} {G : Nat → Nat} {x : Int32} (h : tbI f j G) (hi : i = j) (hx : x = nI (G j)) : tbI (upd f i x) (j + 1) G := by
  subst hi
  intro k hk
  by_cases e : k = i
  · subst e; rw [pk_us, hx]
  · rw [pk_un e]; exact h k (by omega)
theorem tb_rd {f : Nat → Int32} {n j : Nat} {F : Nat → Nat} (h : tbI f n F) (hj : j < n) (hb : j < 2 ^ 31) : f (nI j).toNatClampNeg = nI (F j) := by rw [nI_clamp hb]; exact h j hj
theorem tb_rd2 {f : Nat → Int32} {n j : Nat} {G F : Nat → Nat} (h : tbL f n j G F) (hj : j < n) (hb : j < 2 ^ 31) : f (nI j).toNatClampNeg = nI (F j) := by rw [nI_clamp hb]; exact h.2 j (Nat.le_refl _) hj
theorem nI_lt' {j n : Nat} (hj : j < 2 ^ 31) (h : ¬ nI n ≤ nI j) : j < n := by
  rcases Nat.lt_or_ge j n with q | q
  · exact q
  · exact absurd (nI_le q hj) h
theorem nI_ge' {j n : Nat} (hj : j < 2 ^ 31) (hn : n < 2 ^ 31) (h : nI n ≤ nI j) : n ≤ j := (nI_cmp hn hj).mp h
/-- a row's list and its size -/
theorem rOk_nI {n cap : Nat} (h : rOk (nI n) cap) (hn : n < 2 ^ 31) : n ≤ cap := by
  have := h.2.1
  rw [nI_toInt hn] at this
  omega
theorem rOk_of {n cap : Nat} (hn : n ≤ cap) (h1 : 1 ≤ cap) (h2 : cap ≤ 16384) : rOk (nI n) cap := by
  refine ⟨?_, ?_, h1, h2⟩
  · rw [nI_toInt (by omega)]; omega
  · rw [nI_toInt (by omega)]; omega
theorem gIs_cpy {f g : Nat → Int32} {bs : List Nat} {n : Nat} (h : gIs f bs) (hn : bs.length ≤ n) : gIs (va_cpy f g 0 0 n) bs := by
  intro i hi
  rw [← h i hi]
  unfold va_cpy
  rw [if_pos ⟨Nat.zero_le _, by omega⟩]
  congr 1
  omega
/-- what a row answers at i -/
def rAt (bs : List Nat) (i : Int32) : Int32 := if 0 ≤ i ∧ i < nI bs.length then nI (bs.getD i.toNatClampNeg 0) else -1
theorem has_lt {n k : Nat} {i : Int32} (hn : n ≤ k) (hk : k < 2 ^ 31) (h0 : ¬ i < 0) (h1 : ¬ nI n ≤ i) : ¬ nI k ≤ i := by
  intro h
  apply h1
  rw [Int32.le_iff_toInt_le, nI_toInt (by omega)] at h ⊢
  omega
theorem has_1 {n : Nat} {i : Int32} (h0 : ¬ i < 0) (h1 : ¬ nI n ≤ i) : (1 : Int32) = if 0 ≤ i ∧ i < nI n then 1 else 0 := by rw [if_pos ⟨Int32.not_lt.mp h0, Int32.not_le.mp h1⟩]
theorem has_0a {n : Nat} {i : Int32} (h0 : i < 0) : (0 : Int32) = if 0 ≤ i ∧ i < nI n then 1 else 0 := by rw [if_neg (fun h => absurd h0 (Int32.not_lt.mpr h.1))]
theorem has_0b {n : Nat} {i : Int32} (h1 : nI n ≤ i) : (0 : Int32) = if 0 ≤ i ∧ i < nI n then 1 else 0 := by rw [if_neg (fun h => absurd h.2 (Int32.not_lt.mpr h1))]
theorem has_in {n i : Nat} (h : i < n) (hn : n < 2 ^ 31) : 0 ≤ nI i ∧ nI i < nI n := ⟨Int32.not_lt.mp (nI_pos (by omega)), Int32.not_le.mp (nI_ge h hn)⟩
theorem rAt_0 {bs : List Nat} {i : Int32} (h : ¬ (0 ≤ i ∧ i < nI bs.length)) : (-1 : Int32) = rAt bs i := by unfold rAt; rw [if_neg h]
theorem rAt_1 {bs : List Nat} {i v : Int32} {f : Nat → Int32} (hb : bs.length < 2 ^ 31) (hG : gIs f bs) (h : 0 ≤ i ∧ i < nI bs.length) (e : v = f i.toNatClampNeg) : v = rAt bs i := by
  unfold rAt
  rw [if_pos h, e]
  refine hG _ ?_
  obtain ⟨h0, h1⟩ := h
  obtain ⟨j, hj, rfl⟩ := nI_of (Int32.not_lt.mpr h0)
  rw [nI_clamp hj]
  rw [Int32.lt_iff_toInt_lt, nI_toInt hj, nI_toInt hb] at h1
  omega
theorem gIs_setN {f : Nat → Int32} {bs : List Nat} {i k x : Nat} (h : gIs f bs) (hk : k = i) : gIs (upd f k (nI x)) (bs.set i x) := by
  subst hk
  intro j hj
  rw [List.length_set] at hj
  by_cases e : j = k
  · subst e
    rw [pk_us]
    simp [List.getD_eq_getElem?_getD, hj]
  · rw [pk_un e, h j hj]
    simp [List.getD_eq_getElem?_getD, List.getElem?_set_ne (Ne.symm e)]
theorem sub_toInt {a b : Nat} (ha : a < 2 ^ 30) (hb : b < 2 ^ 30) : (nI a - nI b).toInt = (a : Int) - b := by
  rw [Int32.toInt_sub, nI_toInt (by omega), nI_toInt (by omega)]
  apply Int.bmod_eq_of_le <;> omega
theorem not_le0 {x : Int32} (h : ¬ x ≤ 0) : 0 < x.toInt := by
  rw [Int32.le_iff_toInt_le] at h
  have e0 : (0 : Int32).toInt = 0 := rfl
  omega
theorem le_0 {x : Int32} (h : x ≤ 0) : x.toInt ≤ 0 := by
  rw [Int32.le_iff_toInt_le] at h
  have e0 : (0 : Int32).toInt = 0 := rfl
  omega
theorem nI_pos0 {n : Nat} (h : 0 < n) (hn : n < 2 ^ 31) : (0 : Int32) < nI n := by
  rw [Int32.lt_iff_toInt_lt, nI_toInt hn]
  have e0 : (0 : Int32).toInt = 0 := rfl
  omega
/-- the greater of 1 and n -/
theorem max1 {n : Nat} (hn : n < 2 ^ 31) : (if (1 : Int32) < nI n then nI n else 1) = nI (if n < 1 then 1 else n) := by
  have e1 : (1 : Int32).toInt = 1 := rfl
  by_cases h : n < 1
  · rw [if_pos h, if_neg (by rw [Int32.lt_iff_toInt_lt, nI_toInt hn, e1]; omega)]; rfl
  · rw [if_neg h]
    by_cases h2 : n = 1
    · subst h2; rfl
    · rw [if_pos (by rw [Int32.lt_iff_toInt_lt, nI_toInt hn, e1]; omega)]
theorem nI_m1 {n : Nat} (h : 0 < n) : nI n + (-1) = nI (n - 1) := by
  rw [← nI_pred9 h]
  exact (Int32.sub_eq_add_neg (a := nI n) (b := 1)).symm
/-- so many SHIFTS -/
def shK : Nat → ES → ES
  | 0, e => e
  | k + 1, e => shK k (shS e)
/-- so many bytes of LOW -/
def tpK : Nat → Nat × List Nat → Nat × List Nat
  | 0, e => e
  | k + 1, e => tpK k (mvL e.1, e.2 ++ [e.1 / 16777216 % 256])
/-! shifts that don't keep the sign -/
theorem U_shr24 {n : Nat} (h : n < 2 ^ 64) : ((lN n).toUInt64 >>> ((24 : Int32).toInt64.toUInt64 &&& Int64.toUInt64 63)).toInt64 = lN (n / 16777216) := wb_shr (k := 24) h (by decide)
theorem U_shr32 {n : Nat} (h : n < 2 ^ 64) : ((lN n).toUInt64 >>> ((32 : Int32).toInt64.toUInt64 &&& Int64.toUInt64 63)).toInt64 = lN (n / 4294967296) := wb_shr (k := 32) h (by decide)
theorem U_shr11 {n : Nat} (h : n < 2 ^ 64) : ((lN n).toUInt64 >>> ((11 : Int32).toInt64.toUInt64 &&& Int64.toUInt64 63)).toInt64 = lN (n / 2048) := wb_shr (k := 11) h (by decide)
theorem U_shr8 {n : Nat} (h : n < 2 ^ 64) : ((lN n).toUInt64 >>> ((8 : Int32).toInt64.toUInt64 &&& Int64.toUInt64 63)).toInt64 = lN (n / 256) := wb_shr (k := 8) h (by decide)
theorem U_shr1 {n : Nat} (h : n < 2 ^ 64) : ((lN n).toUInt64 >>> ((1 : Int32).toInt64.toUInt64 &&& Int64.toUInt64 63)).toInt64 = lN (n / 2) := wb_shr (k := 1) h (by decide)
theorem nx_cnt : ∀ j : Fin 32, (UInt32.ofNat j.val &&& Int32.toUInt32 31).toNat % 32 = j.val := by decide +kernel
theorem I_ushr {k j : Nat} (hk : k < 65536) (hj : j < 32) : ((nI k).toUInt32 >>> ((nI j).toUInt32 &&& Int32.toUInt32 31)).toInt32 = nI (k / 2 ^ j) := by
  rw [← Nat.shiftRight_eq_div_pow]
  have hs : k >>> j ≤ k := by
    rw [Nat.shiftRight_eq_div_pow]
    exact Nat.div_le_self _ _
  have e2 : UInt32.ofNat k >>> (UInt32.ofNat j &&& Int32.toUInt32 31) = UInt32.ofNat (k >>> j) := by
    apply UInt32.toNat_inj.1
    have h1 : (UInt32.ofNat k).toNat = k := Nat.mod_eq_of_lt (by omega)
    have h2 : (UInt32.ofNat (k >>> j)).toNat = k >>> j := Nat.mod_eq_of_lt (by omega)
    rw [UInt32.toNat_shiftRight, nx_cnt ⟨j, hj⟩, h1, h2]
  show (UInt32.ofNat k >>> (UInt32.ofNat j &&& Int32.toUInt32 31)).toInt32 = _
  rw [e2]
  rfl
theorem rv_drop {W : List Nat} {j : Nat} (h0 : 1 ≤ j) (h : j ≤ W.length) : (W.drop j).reverse ++ [W.getD (j - 1) 0] = (W.drop (j - 1)).reverse := by
  obtain ⟨q, rfl⟩ : ∃ q, j = q + 1 := ⟨j - 1, by omega⟩
  have hq : q < W.length := by omega
  rw [Nat.add_sub_cancel, List.drop_eq_getElem_cons hq, List.reverse_cons, List.getD_eq_getElem?_getD, List.getElem?_eq_getElem hq]
  rfl
theorem rAt_nI {bs : List Nat} {i : Nat} (h : i < bs.length) (hb : bs.length < 2 ^ 31) : rAt bs (nI i) = nI (bs.getD i 0) := by
  unfold rAt
  rw [if_pos (has_in h hb), nI_clamp (by omega)]
end
section
set_option maxHeartbeats 2000000 in
set_option maxRecDepth 100000 in
theorem f_Arrays_fill (l : Launch) (dC : Nat → ClassId) (dI : Nat → Nat → Nat) (cI cM cO : ClassId) (sz : Nat) (aa : Nat) (al : Nat) (af : Nat → Int32) (vn : Nat) (hal : al ≤ 16384) : MetV l y_Arrays_fill (Cond.code y_Arrays_fill prog_18_method_103_code 4 none :: gw) ({ frames := 0, cells := 0, slots := 0, locals := 0 } : Room) (dC, dI) vwCl (kT cI cM cO) [Value.ref aa, Value.int (nI vn)] [(aa, Sum.inl (cI, al, Sum.inl af))] sz (fun (u : (Nat → Int32)) => tbI u al (fun _ => vn)) (fun (u : (Nat → Int32)) => [(aa, Sum.inl (cI, al, Sum.inl u))]) 0 0 := by
  refine my_ofV (cc := prog_18_method_103_code) (n := 4) (ret := none) (by decide) rfl (Nat.le_of_ble_eq_true rfl) ?_
  intro p e s m args below meth c R Q A ls H locs hx hb hr hts hown hlocks hml hnm hR hQ hA hl hP hK hN hD hS
  have hg : ∀ w ∈ gw, w.before args s = true := fun w h => hts w (List.mem_cons_of_mem _ h)
  have hown : s.vm.findClass "java/util/Arrays" = some m.cls := hown
  have hl : lv_has ls 4 [(0, Value.ref aa), (1, Value.int (nI vn))] := hl
  refine lv_iconst (v := 0) hx hb d_Arrays_fill_0 (by decide) ?_
  refine lv_istore_n (lv' := [(2, Value.int 0), (0, Value.ref aa), (1, Value.int (nI vn))]) hx hb d_Arrays_fill_1 rfl hl (by decide) rfl (fun ls hl => ?_)
  refine lv_aload_n hx hb d_Arrays_fill_2 rfl (lv_at hl 1 rfl) ?_
  refine va_alen hx hb hK hP 0 0 rfl rfl (v := nI al) rfl d_Arrays_fill_3 ?_
  refine lv_istore_n (lv' := [(3, Value.int (nI al)), (2, Value.int 0), (0, Value.ref aa), (1, Value.int (nI vn))]) hx hb d_Arrays_fill_4 rfl hl (by decide) rfl (fun ls hl => ?_)
  have J_5 : ∀ (n9_5 : Nat) (j : Nat) (fL : Nat → Int32) (hn9_5 : al - j = n9_5) (hj : j ≤ al) (hL : tbI fL j (fun _ => vn)) (H : Heap) (locs : List Loc) (ls : Array Slot), va_P (dC, dI) vwCl [(aa, Sum.inl (cI, al, Sum.inl fL))] H → va_D A [(aa, Sum.inl (cI, al, Sum.inl fL))] → va_S A s.heap H locs → lv_has ls 4 [(2, Value.int (nI j)), (3, Value.int (nI al)), (0, Value.ref aa), (1, Value.int (nI vn))] → W p l e R s m args below meth c H locs 0 0 Q (F0 m 5 ls []) := by
    intro n9_5
    induction n9_5 using Nat.strongRecOn with
    | ind n9_5 ih9_5 =>
      intro j fL hn9_5 hj hL H locs ls hP hD hS hl
      refine lv_iload_n hx hb d_Arrays_fill_5 rfl (lv_at hl 0 rfl) ?_
      refine lv_iload_n hx hb d_Arrays_fill_6 rfl (lv_at hl 1 rfl) ?_
      refine lv_icmp_ge (tgt := 20) hx hb d_Arrays_fill_7 (by decide) (fun c_1 => ?_) (fun c_1 => ?_)
      · have hj3 : j = al := by have := nI_ge' (by omega) (by omega) c_1; omega
        exact my_vret hx hb hr hlocks hQ hK hS (Nat.le_refl _) (Nat.le_refl _) (fL) (by rw [← hj3]; exact hL) (hP.sub [0] rfl) (hD.sub [0] (by decide +kernel) rfl) d_Arrays_fill_20
      · have hj2 : j < al := nI_lt' (by omega) c_1
        refine lv_aload_n hx hb d_Arrays_fill_10 rfl (lv_at hl 2 rfl) ?_
        refine lv_iload_n hx hb d_Arrays_fill_11 rfl (lv_at hl 0 rfl) ?_
        refine lv_iload_n hx hb d_Arrays_fill_12 rfl (lv_at hl 3 rfl) ?_
        refine va_iast hx hb hK hP hD hS 0 0 rfl rfl (vp_in_nI hj2 (by omega)) d_Arrays_fill_13 (fun H locs hP hD hS => ?_)
        have hP : va_P (dC, dI) vwCl [(aa, Sum.inl (cI, al, Sum.inl (upd fL (nI j).toNatClampNeg (nI vn))))] H := hP
        have hD : va_D A [(aa, Sum.inl (cI, al, Sum.inl (upd fL (nI j).toNatClampNeg (nI vn))))] := hD
        obtain ⟨v_2, ev_2⟩ : ∃ y : Int32, y = (nI j) + (1) := ⟨_, rfl⟩
        refine lv_iinc (v := v_2) (lv' := [(2, Value.int v_2), (3, Value.int (nI al)), (0, Value.ref aa), (1, Value.int (nI vn))]) hx hb d_Arrays_fill_14 hl (k := 0) rfl (by rw [ev_2]; rfl) (by decide) rfl (fun ls hl => ?_)
        have z9 : v_2 = nI (j + 1) := by rw [ev_2]; exact nI_1 _
        subst z9
        refine lv_goto (tgt := 5) hx hb d_Arrays_fill_17 (by decide) ?_
        exact ih9_5 _ (by first | omega | (omega)) (j + 1) (upd fL (nI j).toNatClampNeg (nI vn)) rfl (by omega) (tb_add hL (nI_clamp (by omega)) rfl) H locs ls (hP.sub [0] rfl) (hD.sub [0] (by decide +kernel) rfl) hS (lv_sub hl [0, 1, 2, 3] rfl)
  exact J_5 _ (0 : Nat) af rfl (Nat.zero_le _) (tbI_0 _ _) H locs ls (hP.sub [0] rfl) (hD.sub [0] (by decide +kernel) rfl) hS (lv_sub hl [1, 0, 2, 3] rfl)
set_option maxHeartbeats 2000000 in
set_option maxRecDepth 100000 in
theorem f_Arrays_copyOf (l : Launch) (dC : Nat → ClassId) (dI : Nat → Nat → Nat) (cI cM cO : ClassId) (sz : Nat) (sl : Nat) (aa : Nat) (al : Nat) (af : Nat → Int32) (nl : Nat) (bs : List Nat) (hal : al < nl) (hnl : nl ≤ 32768) (hG : gIs af bs) (hbl : bs.length ≤ al) : MetQg l y_Arrays_copyOf (Cond.code y_Arrays_copyOf prog_18_method_123_code 3 (some (.array .int)) :: gw) ({ frames := 1, cells := nl, slots := nl, locals := 40 } : Room) (dC, dI) vwCl (kT cI cM cO) [Value.ref aa, Value.int (nI nl)] [(aa, Sum.inl (cI, al, Sum.inl af))] sz sl (fun (r : Option Nat) (u : Nat × (Nat → Int32)) => r = some u.1 ∧ gIs u.2 bs) (fun (u : Nat × (Nat → Int32)) => [(aa, Sum.inl (cI, al, Sum.inl af)), (u.1, Sum.inl (cI, nl, Sum.inl u.2))]) nl (fun (u : Nat × (Nat → Int32)) => 0) := by
  refine my_ofQg (cc := prog_18_method_123_code) (n := 3) (ret := (some (.array .int))) (by decide) rfl (Nat.le_of_ble_eq_true rfl) ?_
  intro p e s m args below meth c R Q A ls H locs hx hb hr hts hown hlocks hml hnm hR hQ hA hl hP hK hN hD hS
  have hg : ∀ w ∈ gw, w.before args s = true := fun w h => hts w (List.mem_cons_of_mem _ h)
  have hown : s.vm.findClass "java/util/Arrays" = some m.cls := hown
  have hl : lv_has ls 3 [(0, Value.ref aa), (1, Value.int (nI nl))] := hl
  refine lv_iload_n hx hb d_Arrays_copyOf_0 rfl (lv_at hl 1 rfl) ?_
  refine lv_aload_n hx hb d_Arrays_copyOf_1 rfl (lv_at hl 0 rfl) ?_
  refine va_alen hx hb hK hP 0 0 rfl rfl (v := nI al) rfl d_Arrays_copyOf_2 ?_
  refine lv_icmp_ne (tgt := 14) hx hb d_Arrays_copyOf_3 (by decide) (fun c_1 => ?_) (fun c_1 => ?_)
  · refine lv_iload_n hx hb d_Arrays_copyOf_14 rfl (lv_at hl 1 rfl) ?_
    refine my_newi hx hb (hg _ k66) hK 0 rfl hP hD hS hA (N' := nl) (nI_pos (by omega)) (nI_clamp (by omega)) (by omega) (by rw [hR]; exact (show 0 + 1 ≤ nl by omega)) (by rw [hR]; exact (show 0 + nl ≤ nl by omega)) d_Arrays_copyOf_15 (fun q_2 H hP hD hS => ?_)
    have hP : va_P (dC, dI) vwCl [(aa, Sum.inl (cI, al, Sum.inl af)), (q_2, Sum.inl (cI, nl, Sum.inl (fun _ => 0)))] H := hP
    have hD : va_D A [(aa, Sum.inl (cI, al, Sum.inl af)), (q_2, Sum.inl (cI, nl, Sum.inl (fun _ => 0)))] := hD
    refine lv_astore_n (lv' := [(2, Value.ref q_2), (0, Value.ref aa), (1, Value.int (nI nl))]) hx hb d_Arrays_copyOf_17 rfl hl (by decide) rfl (fun ls hl => ?_)
    refine lv_aload_n hx hb d_Arrays_copyOf_18 rfl (lv_at hl 1 rfl) ?_
    refine lv_iconst (v := 0) hx hb d_Arrays_copyOf_19 (by decide) ?_
    refine lv_aload_n hx hb d_Arrays_copyOf_20 rfl (lv_at hl 0 rfl) ?_
    refine lv_iconst (v := 0) hx hb d_Arrays_copyOf_21 (by decide) ?_
    refine lv_aload_n hx hb d_Arrays_copyOf_22 rfl (lv_at hl 1 rfl) ?_
    refine va_alen hx hb hK hP 0 0 rfl rfl (v := nI al) rfl d_Arrays_copyOf_23 ?_
    refine lv_iload_n hx hb d_Arrays_copyOf_24 rfl (lv_at hl 2 rfl) ?_
    refine va_mmin hx hb (by rw [hml]; exact hl.1.symm) hown (hg _ k486) (hg _ k31) (hg _ k2) (hg _ k32) (by rw [hR]; exact Nat.le_of_ble_eq_true rfl) (by rw [hR]; exact Nat.le_of_ble_eq_true rfl) (by rw [hR]; exact (show 0 + 1 ≤ nl by omega)) (by rw [hR]; exact (show 0 + nl ≤ nl by omega)) d_Arrays_copyOf_25 ?_
    refine lv_topi (fun v_3 ev_3 => ?_)
    have z9 : v_3 = nI al := by rw [ev_3, if_neg (nI_nlt (by omega) (by omega))]
    subst z9
    refine va_copyi hx hb (by rw [hml]; exact hl.1.symm) hown (hg _ k487) (hg _ k489) (hg _ k488) (hg _ k16) hK hP hD hS 0 1 0 0 rfl rfl rfl rfl rfl (by decide +kernel) (by decide +kernel) (nI_pos (by omega)) (by rw [nI_clamp (by omega)]; exact Nat.le_of_eq (Nat.zero_add _)) (by rw [nI_clamp (by omega)]; exact (show 0 + al ≤ nl by omega)) (fun _ _ => rfl) (by rw [hR]; exact Nat.le_of_ble_eq_true rfl) (by rw [hR]; exact Nat.le_of_ble_eq_true rfl) d_Arrays_copyOf_28 (fun H locs hP hD hS => ?_)
    have hP : va_P (dC, dI) vwCl [(aa, Sum.inl (cI, al, Sum.inl af)), (q_2, Sum.inl (cI, nl, Sum.inl (va_cpy af (fun _ => 0) (0 : Int32).toNatClampNeg (0 : Int32).toNatClampNeg (nI al).toNatClampNeg)))] H := hP
    have hD : va_D A [(aa, Sum.inl (cI, al, Sum.inl af)), (q_2, Sum.inl (cI, nl, Sum.inl (va_cpy af (fun _ => 0) (0 : Int32).toNatClampNeg (0 : Int32).toNatClampNeg (nI al).toNatClampNeg)))] := hD
    refine lv_aload_n hx hb d_Arrays_copyOf_31 rfl (lv_at hl 0 rfl) ?_
    exact my_qretg (v := some q_2) hx hb hr (Or.inr ⟨_, rfl⟩) hlocks hQ hK hS (q_2, va_cpy af (fun _ => 0) (0 : Int32).toNatClampNeg (0 : Int32).toNatClampNeg (nI al).toNatClampNeg) (show (0 + 1) + 0 ≤ nl by omega) (show (0 + nl) + 0 ≤ nl by omega) (⟨rfl, gIs_cpy (n := (nI al).toNatClampNeg) hG (by rw [nI_clamp (by omega)]; exact hbl)⟩) (hP.sub [0, 1] rfl) (hD.sub [0, 1] (by decide +kernel) rfl) d_Arrays_copyOf_32
  · exact absurd (nI_inj (by omega) (by omega) c_1) (by omega)
set_option maxHeartbeats 2000000 in
set_option maxRecDepth 100000 in
theorem f_Row_has (l : Launch) (dC : Nat → ClassId) (dI : Nat → Nat → Nat) (cI cM cO : ClassId) (sz : Nat) (rr : Nat) (rra : Nat) (rrk : Nat) (rrf : Nat → Int32) (bs : List Nat) (ii : Int32) (hrr : rOk (nI bs.length) rrk) (hGrr : gIs rrf bs) (hLrr : bs.length ≤ 8192) : MetI l y_Row_has (Cond.code y_Row_has prog_9_method_2_code 2 (some .boolean) :: gw) ({ frames := 0, cells := 0, slots := 0, locals := 0 } : Room) (dC, dI) vwCl (kT cI cM cO) [Value.ref rr, Value.int ii] [(rr, Sum.inr (0, [Value.int (nI bs.length), Value.ref rra])), (rra, Sum.inl (cI, rrk, Sum.inl rrf))] sz (fun (r : Int32) (u : Unit) => (r = if 0 ≤ ii ∧ ii < nI bs.length then 1 else 0) ∧ (r ≠ 0 → vp_in ii rrk)) (fun (u : Unit) => [(rr, Sum.inr (0, [Value.int (nI bs.length), Value.ref rra])), (rra, Sum.inl (cI, rrk, Sum.inl rrf))]) 0 0 := by
  refine my_ofI (cc := prog_9_method_2_code) (n := 2) (ret := (some .boolean)) (by decide) rfl (Nat.le_of_ble_eq_true rfl) ?_
  intro p e s m args below meth c R Q A ls H locs hx hb hr hts hown hlocks hml hnm hR hQ hA hl hP hK hN hD hS
  have hg : ∀ w ∈ gw, w.before args s = true := fun w h => hts w (List.mem_cons_of_mem _ h)
  have hown : s.vm.findClass "RangeCoders$Row" = some m.cls := hown
  have hl : lv_has ls 2 [(0, Value.ref rr), (1, Value.int ii)] := hl
  have hlt9 := rOk_lt hrr
  have hle9 := rOk_nI hrr (by omega)
  refine lv_iload_n hx hb d_Row_has_0 rfl (lv_at hl 1 rfl) ?_
  refine lv_if_lt (tgt := 25) hx hb d_Row_has_1 (by decide) (fun c_1 => ?_) (fun c_1 => ?_)
  · refine lv_iconst (v := 0) hx hb d_Row_has_25 (by decide) ?_
    exact my_iret (v := 0) hx hb hr (rfl) hlocks hQ hK hS (Nat.le_refl _) (Nat.le_refl _) () (⟨has_0a c_1, fun h9 => absurd rfl h9⟩) (hP.sub [0, 1] rfl) (hD.sub [0, 1] (by decide +kernel) rfl) d_Row_has_26
  · refine lv_iload_n hx hb d_Row_has_4 rfl (lv_at hl 1 rfl) ?_
    refine lv_aload_n hx hb d_Row_has_5 rfl (lv_at hl 0 rfl) ?_
    refine va_get (D := (dC, dI)) (ci := 0) (v := .int (nI bs.length)) (C := "RangeCoders$Row") (T := T_Row) (N := 2) hx hb hg in_Row hown hK hP 0 rfl rfl 0 (by decide) (hg _ k57) (fun _ h9 => h9) rfl d_Row_has_6 ?_
    refine lv_icmp_ge (tgt := 25) hx hb d_Row_has_9 (by decide) (fun c_2 => ?_) (fun c_2 => ?_)
    · refine lv_iconst (v := 0) hx hb d_Row_has_25 (by decide) ?_
      exact my_iret (v := 0) hx hb hr (rfl) hlocks hQ hK hS (Nat.le_refl _) (Nat.le_refl _) () (⟨has_0b c_2, fun h9 => absurd rfl h9⟩) (hP.sub [0, 1] rfl) (hD.sub [0, 1] (by decide +kernel) rfl) d_Row_has_26
    · refine lv_iload_n hx hb d_Row_has_12 rfl (lv_at hl 1 rfl) ?_
      refine lv_aload_n hx hb d_Row_has_13 rfl (lv_at hl 0 rfl) ?_
      refine va_get (D := (dC, dI)) (ci := 0) (v := .ref rra) (C := "RangeCoders$Row") (T := T_Row) (N := 2) hx hb hg in_Row hown hK hP 0 rfl rfl 1 (by decide) (hg _ k60) (fun _ h9 => h9) rfl d_Row_has_14 ?_
      refine va_alen hx hb hK hP 1 0 rfl rfl (v := nI rrk) rfl d_Row_has_17 ?_
      refine lv_icmp_ge (tgt := 25) hx hb d_Row_has_18 (by decide) (fun c_3 => ?_) (fun c_3 => ?_)
      · exact absurd (has_lt (by omega) (by omega) c_1 c_2) (fun q9 => q9 c_3)
      · refine lv_iconst (v := 1) hx hb d_Row_has_21 (by decide) ?_
        refine lv_goto (tgt := 26) hx hb d_Row_has_22 (by decide) ?_
        exact my_iret (v := 1) hx hb hr (rfl) hlocks hQ hK hS (Nat.le_refl _) (Nat.le_refl _) () (⟨has_1 c_1 c_2, fun _ => I_in' (by omega) (by assumption) (by assumption)⟩) (hP.sub [0, 1] rfl) (hD.sub [0, 1] (by decide +kernel) rfl) d_Row_has_26
set_option maxHeartbeats 2000000 in
set_option maxRecDepth 100000 in
theorem f_Row_at (l : Launch) (dC : Nat → ClassId) (dI : Nat → Nat → Nat) (cI cM cO : ClassId) (sz : Nat) (rr : Nat) (rra : Nat) (rrk : Nat) (rrf : Nat → Int32) (bs : List Nat) (ii : Int32) (hrr : rOk (nI bs.length) rrk) (hGrr : gIs rrf bs) (hLrr : bs.length ≤ 8192) : MetI l y_Row_at (Cond.code y_Row_at prog_9_method_3_code 2 (some .int) :: gw) ({ frames := 1, cells := 0, slots := 0, locals := 21 } : Room) (dC, dI) vwCl (kT cI cM cO) [Value.ref rr, Value.int ii] [(rr, Sum.inr (0, [Value.int (nI bs.length), Value.ref rra])), (rra, Sum.inl (cI, rrk, Sum.inl rrf))] sz (fun (r : Int32) (u : Unit) => r = rAt bs ii) (fun (u : Unit) => [(rr, Sum.inr (0, [Value.int (nI bs.length), Value.ref rra])), (rra, Sum.inl (cI, rrk, Sum.inl rrf))]) 0 0 := by
  refine my_ofI (cc := prog_9_method_3_code) (n := 2) (ret := (some .int)) (by decide) rfl (Nat.le_of_ble_eq_true rfl) ?_
  intro p e s m args below meth c R Q A ls H locs hx hb hr hts hown hlocks hml hnm hR hQ hA hl hP hK hN hD hS
  have hg : ∀ w ∈ gw, w.before args s = true := fun w h => hts w (List.mem_cons_of_mem _ h)
  have hown : s.vm.findClass "RangeCoders$Row" = some m.cls := hown
  have hl : lv_has ls 2 [(0, Value.ref rr), (1, Value.int ii)] := hl
  have hlt9 := rOk_lt hrr
  have hle9 := rOk_nI hrr (by omega)
  refine lv_aload_n hx hb d_Row_at_0 rfl (lv_at hl 0 rfl) ?_
  refine lv_iload_n hx hb d_Row_at_1 rfl (lv_at hl 1 rfl) ?_
  refine my_ci (wr := []) (va_runV (As := [Value.int ii]) (rest := []) ⟨hx, hb, hml, hown, hts⟩ (f_Row_has l dC dI cI cM cO H.size rr rra rrk rrf bs ii (by first | assumption | omega) (by first | assumption | omega) (by first | assumption | omega)) (cwV 1 hts (my_gV k662 k663 k664 k6 k665) rfl rfl rfl (by decide +kernel) ⟨by rw [hR]; exact Nat.le_of_ble_eq_true rfl, by rw [hR]; exact Nat.le_of_ble_eq_true rfl⟩) (my_preV hK hN (hP.sub [0, 1] rfl) (hD.sub [0, 1] (by decide +kernel) rfl) 0 rfl rfl) rfl rfl hl.1 rfl (lv_room (Nat.le_of_ble_eq_true rfl)) d_Row_at_2 ⟨by rw [hR]; exact Nat.le_of_ble_eq_true rfl, by rw [hR]; exact Nat.le_of_ble_eq_true rfl⟩) hP hD hS hA [0, 1] [] rfl rfl (by decide +kernel) (by decide +kernel) (fun r_2 u9 H locs hw_2 hP hD hS => ?_)
  obtain ⟨hr_2, hv_2⟩ : (r_2 = if 0 ≤ ii ∧ ii < nI bs.length then 1 else 0) ∧ (r_2 ≠ 0 → vp_in ii rrk) := hw_2
  have hP : va_P (dC, dI) vwCl [(rr, Sum.inr (0, [Value.int (nI bs.length), Value.ref rra])), (rra, Sum.inl (cI, rrk, Sum.inl rrf))] H := hP
  have hD : va_D A [(rr, Sum.inr (0, [Value.int (nI bs.length), Value.ref rra])), (rra, Sum.inl (cI, rrk, Sum.inl rrf))] := hD
  refine lv_if_eq (tgt := 17) hx hb d_Row_at_5 (by decide) (fun c_1 => ?_) (fun c_1 => ?_)
  · refine lv_iconst (v := (-1)) hx hb d_Row_at_17 (by decide) ?_
    exact my_iret (v := (-1)) hx hb hr (rfl) hlocks hQ hK hS (Nat.le_refl _) (Nat.le_refl _) () (rAt_0 (one_eq hr_2 c_1)) (hP.sub [0, 1] rfl) (hD.sub [0, 1] (by decide +kernel) rfl) d_Row_at_18
  · refine lv_aload_n hx hb d_Row_at_8 rfl (lv_at hl 0 rfl) ?_
    refine va_get (D := (dC, dI)) (ci := 0) (v := .ref rra) (C := "RangeCoders$Row") (T := T_Row) (N := 2) hx hb hg in_Row hown hK hP 0 rfl rfl 1 (by decide) (hg _ k60) (fun _ h9 => h9) rfl d_Row_at_9 ?_
    refine lv_iload_n hx hb d_Row_at_12 rfl (lv_at hl 1 rfl) ?_
    refine va_iald hx hb hK hP 1 0 rfl rfl (hv_2 c_1) d_Row_at_13 ?_
    refine lv_topi (fun v_2 ev_2 => ?_)
    refine lv_goto (tgt := 18) hx hb d_Row_at_14 (by decide) ?_
    exact my_iret (v := v_2) hx hb hr (rfl) hlocks hQ hK hS (Nat.le_refl _) (Nat.le_refl _) () (rAt_1 (by omega) hGrr (one_ne hr_2 c_1) ev_2) (hP.sub [0, 1] rfl) (hD.sub [0, 1] (by decide +kernel) rfl) d_Row_at_18
set_option maxHeartbeats 2000000 in
set_option maxRecDepth 100000 in
theorem f_Row_set (l : Launch) (dC : Nat → ClassId) (dI : Nat → Nat → Nat) (cI cM cO : ClassId) (sz : Nat) (rr : Nat) (rra : Nat) (rrk : Nat) (rrf : Nat → Int32) (bs : List Nat) (ii : Nat) (x : Nat) (hrr : rOk (nI bs.length) rrk) (hGrr : gIs rrf bs) (hLrr : bs.length ≤ 8192) (hii : ii < bs.length) : MetV l y_Row_set (Cond.code y_Row_set prog_9_method_4_code 3 none :: gw) ({ frames := 1, cells := 0, slots := 0, locals := 21 } : Room) (dC, dI) vwCl (kT cI cM cO) [Value.ref rr, Value.int (nI ii), Value.int (nI x)] [(rr, Sum.inr (0, [Value.int (nI bs.length), Value.ref rra])), (rra, Sum.inl (cI, rrk, Sum.inl rrf))] sz (fun (u : (Nat → Int32)) => gIs u (bs.set ii x)) (fun (u : (Nat → Int32)) => [(rr, Sum.inr (0, [Value.int (nI bs.length), Value.ref rra])), (rra, Sum.inl (cI, rrk, Sum.inl u))]) 0 0 := by
  refine my_ofV (cc := prog_9_method_4_code) (n := 3) (ret := none) (by decide) rfl (Nat.le_of_ble_eq_true rfl) ?_
  intro p e s m args below meth c R Q A ls H locs hx hb hr hts hown hlocks hml hnm hR hQ hA hl hP hK hN hD hS
  have hg : ∀ w ∈ gw, w.before args s = true := fun w h => hts w (List.mem_cons_of_mem _ h)
  have hown : s.vm.findClass "RangeCoders$Row" = some m.cls := hown
  have hl : lv_has ls 3 [(0, Value.ref rr), (1, Value.int (nI ii)), (2, Value.int (nI x))] := hl
  have hlt9 := rOk_lt hrr
  have hle9 := rOk_nI hrr (by omega)
  refine lv_aload_n hx hb d_Row_set_0 rfl (lv_at hl 0 rfl) ?_
  refine lv_iload_n hx hb d_Row_set_1 rfl (lv_at hl 1 rfl) ?_
  refine my_ci (wr := []) (va_runV (As := [Value.int (nI ii)]) (rest := []) ⟨hx, hb, hml, hown, hts⟩ (f_Row_has l dC dI cI cM cO H.size rr rra rrk rrf bs (nI ii) (by first | assumption | omega) (by first | assumption | omega) (by first | assumption | omega)) (cwV 1 hts (my_gV k662 k663 k664 k6 k665) rfl rfl rfl (by decide +kernel) ⟨by rw [hR]; exact Nat.le_of_ble_eq_true rfl, by rw [hR]; exact Nat.le_of_ble_eq_true rfl⟩) (my_preV hK hN (hP.sub [0, 1] rfl) (hD.sub [0, 1] (by decide +kernel) rfl) 0 rfl rfl) rfl rfl hl.1 rfl (lv_room (Nat.le_of_ble_eq_true rfl)) d_Row_set_2 ⟨by rw [hR]; exact Nat.le_of_ble_eq_true rfl, by rw [hR]; exact Nat.le_of_ble_eq_true rfl⟩) hP hD hS hA [0, 1] [] rfl rfl (by decide +kernel) (by decide +kernel) (fun r_2 u9 H locs hw_2 hP hD hS => ?_)
  obtain ⟨hr_2, hv_2⟩ : (r_2 = if 0 ≤ (nI ii) ∧ (nI ii) < nI bs.length then 1 else 0) ∧ (r_2 ≠ 0 → vp_in (nI ii) rrk) := hw_2
  have hP : va_P (dC, dI) vwCl [(rr, Sum.inr (0, [Value.int (nI bs.length), Value.ref rra])), (rra, Sum.inl (cI, rrk, Sum.inl rrf))] H := hP
  have hD : va_D A [(rr, Sum.inr (0, [Value.int (nI bs.length), Value.ref rra])), (rra, Sum.inl (cI, rrk, Sum.inl rrf))] := hD
  refine lv_if_eq (tgt := 15) hx hb d_Row_set_5 (by decide) (fun c_1 => ?_) (fun c_1 => ?_)
  · exact absurd (has_in hii (by omega)) (one_eq hr_2 c_1)
  · refine lv_aload_n hx hb d_Row_set_8 rfl (lv_at hl 0 rfl) ?_
    refine va_get (D := (dC, dI)) (ci := 0) (v := .ref rra) (C := "RangeCoders$Row") (T := T_Row) (N := 2) hx hb hg in_Row hown hK hP 0 rfl rfl 1 (by decide) (hg _ k60) (fun _ h9 => h9) rfl d_Row_set_9 ?_
    refine lv_iload_n hx hb d_Row_set_12 rfl (lv_at hl 1 rfl) ?_
    refine lv_iload_n hx hb d_Row_set_13 rfl (lv_at hl 2 rfl) ?_
    refine va_iast hx hb hK hP hD hS 1 0 rfl rfl (hv_2 c_1) d_Row_set_14 (fun H locs hP hD hS => ?_)
    have hP : va_P (dC, dI) vwCl [(rr, Sum.inr (0, [Value.int (nI bs.length), Value.ref rra])), (rra, Sum.inl (cI, rrk, Sum.inl (upd rrf (nI ii).toNatClampNeg (nI x))))] H := hP
    have hD : va_D A [(rr, Sum.inr (0, [Value.int (nI bs.length), Value.ref rra])), (rra, Sum.inl (cI, rrk, Sum.inl (upd rrf (nI ii).toNatClampNeg (nI x))))] := hD
    exact my_vret hx hb hr hlocks hQ hK hS (Nat.le_refl _) (Nat.le_refl _) (upd rrf (nI ii).toNatClampNeg (nI x)) (gIs_setN hGrr (nI_clamp (by omega))) (hP.sub [0, 1] rfl) (hD.sub [0, 1] (by decide +kernel) rfl) d_Row_set_15
set_option maxHeartbeats 2000000 in
set_option maxRecDepth 100000 in
theorem f_Row_add (l : Launch) (dC : Nat → ClassId) (dI : Nat → Nat → Nat) (cI cM cO : ClassId) (sz : Nat) (sl : Nat) (rr : Nat) (rra : Nat) (rrk : Nat) (rrf : Nat → Int32) (bs : List Nat) (x : Nat) (hrr : rOk (nI bs.length) rrk) (hGrr : gIs rrf bs) (hl : bs.length < 8192) : MetVg l y_Row_add (Cond.code y_Row_add prog_9_method_5_code 2 none :: gw) ({ frames := 2, cells := rPh rrk, slots := rPh rrk, locals := 62 } : Room) (dC, dI) vwCl (kT cI cM cO) [Value.ref rr, Value.int (nI x)] [(rr, Sum.inr (0, [Value.int (nI bs.length), Value.ref rra])), (rra, Sum.inl (cI, rrk, Sum.inl rrf))] sz sl (fun (u : Nat × Nat × (Nat → Int32)) => rOk (nI (bs ++ [x]).length) u.2.1 ∧ gIs u.2.2 (bs ++ [x])) (fun (u : Nat × Nat × (Nat → Int32)) => [(rr, Sum.inr (0, [Value.int (nI (bs ++ [x]).length), Value.ref u.1])), (u.1, Sum.inl (cI, u.2.1, Sum.inl u.2.2))]) (rPh rrk) (fun (u : Nat × Nat × (Nat → Int32)) => rPh u.2.1) := by
  refine my_ofVg (cc := prog_9_method_5_code) (n := 2) (ret := none) (by decide) rfl (Nat.le_of_ble_eq_true rfl) ?_
  intro p e s m args below meth c R Q A ls H locs hx hb hr hts hown hlocks hml hnm hR hQ hA hl hP hK hN hD hS
  have hg : ∀ w ∈ gw, w.before args s = true := fun w h => hts w (List.mem_cons_of_mem _ h)
  have hown : s.vm.findClass "RangeCoders$Row" = some m.cls := hown
  have hl : lv_has ls 2 [(0, Value.ref rr), (1, Value.int (nI x))] := hl
  have hlt9 := rOk_lt hrr
  have hle9 := rOk_nI hrr (by omega)
  refine lv_aload_n hx hb d_Row_add_0 rfl (lv_at hl 0 rfl) ?_
  refine va_get (D := (dC, dI)) (ci := 0) (v := .int (nI bs.length)) (C := "RangeCoders$Row") (T := T_Row) (N := 2) hx hb hg in_Row hown hK hP 0 rfl rfl 0 (by decide) (hg _ k57) (fun _ h9 => h9) rfl d_Row_add_1 ?_
  refine lv_aload_n hx hb d_Row_add_4 rfl (lv_at hl 0 rfl) ?_
  refine va_get (D := (dC, dI)) (ci := 0) (v := .ref rra) (C := "RangeCoders$Row") (T := T_Row) (N := 2) hx hb hg in_Row hown hK hP 0 rfl rfl 1 (by decide) (hg _ k60) (fun _ h9 => h9) rfl d_Row_add_5 ?_
  refine va_alen hx hb hK hP 1 0 rfl rfl (v := nI rrk) rfl d_Row_add_8 ?_
  refine lv_icmp_lt (tgt := 41) hx hb d_Row_add_9 (by decide) (fun c_1 => ?_) (fun c_1 => ?_)
  · refine lv_aload_n hx hb d_Row_add_41 rfl (lv_at hl 0 rfl) ?_
    refine va_get (D := (dC, dI)) (ci := 0) (v := .int (nI bs.length)) (C := "RangeCoders$Row") (T := T_Row) (N := 2) hx hb hg in_Row hown hK hP 0 rfl rfl 0 (by decide) (hg _ k57) (fun _ h9 => h9) rfl d_Row_add_42 ?_
    refine lv_if_lt (tgt := 80) hx hb d_Row_add_45 (by decide) (fun c_2 => ?_) (fun c_2 => ?_)
    · exact absurd c_2 (nI_pos (by omega))
    · refine lv_aload_n hx hb d_Row_add_48 rfl (lv_at hl 0 rfl) ?_
      refine va_get (D := (dC, dI)) (ci := 0) (v := .int (nI bs.length)) (C := "RangeCoders$Row") (T := T_Row) (N := 2) hx hb hg in_Row hown hK hP 0 rfl rfl 0 (by decide) (hg _ k57) (fun _ h9 => h9) rfl d_Row_add_49 ?_
      refine lv_aload_n hx hb d_Row_add_52 rfl (lv_at hl 0 rfl) ?_
      refine va_get (D := (dC, dI)) (ci := 0) (v := .ref rra) (C := "RangeCoders$Row") (T := T_Row) (N := 2) hx hb hg in_Row hown hK hP 0 rfl rfl 1 (by decide) (hg _ k60) (fun _ h9 => h9) rfl d_Row_add_53 ?_
      refine va_alen hx hb hK hP 1 0 rfl rfl (v := nI rrk) rfl d_Row_add_56 ?_
      refine lv_icmp_ge (tgt := 80) hx hb d_Row_add_57 (by decide) (fun c_3 => ?_) (fun c_3 => ?_)
      · exact absurd c_1 (Int32.not_lt.mpr c_3)
      · refine lv_aload_n hx hb d_Row_add_60 rfl (lv_at hl 0 rfl) ?_
        refine va_get (D := (dC, dI)) (ci := 0) (v := .ref rra) (C := "RangeCoders$Row") (T := T_Row) (N := 2) hx hb hg in_Row hown hK hP 0 rfl rfl 1 (by decide) (hg _ k60) (fun _ h9 => h9) rfl d_Row_add_61 ?_
        refine lv_aload_n hx hb d_Row_add_64 rfl (lv_at hl 0 rfl) ?_
        refine va_get (D := (dC, dI)) (ci := 0) (v := .int (nI bs.length)) (C := "RangeCoders$Row") (T := T_Row) (N := 2) hx hb hg in_Row hown hK hP 0 rfl rfl 0 (by decide) (hg _ k57) (fun _ h9 => h9) rfl d_Row_add_65 ?_
        refine lv_iload_n hx hb d_Row_add_68 rfl (lv_at hl 1 rfl) ?_
        have hbl : bs.length < rrk := nI_lt' (by omega) c_3
        refine va_iast hx hb hK hP hD hS 1 0 rfl rfl (vp_in_nI hbl (by omega)) d_Row_add_69 (fun H locs hP hD hS => ?_)
        have hP : va_P (dC, dI) vwCl [(rr, Sum.inr (0, [Value.int (nI bs.length), Value.ref rra])), (rra, Sum.inl (cI, rrk, Sum.inl (upd rrf (nI bs.length).toNatClampNeg (nI x))))] H := hP
        have hD : va_D A [(rr, Sum.inr (0, [Value.int (nI bs.length), Value.ref rra])), (rra, Sum.inl (cI, rrk, Sum.inl (upd rrf (nI bs.length).toNatClampNeg (nI x))))] := hD
        refine lv_aload_n hx hb d_Row_add_70 rfl (lv_at hl 0 rfl) ?_
        refine lv_dup hx hb d_Row_add_71 rfl ?_
        refine va_get (D := (dC, dI)) (ci := 0) (v := .int (nI bs.length)) (C := "RangeCoders$Row") (T := T_Row) (N := 2) hx hb hg in_Row hown hK hP 0 rfl rfl 0 (by decide) (hg _ k57) (fun _ h9 => h9) rfl d_Row_add_72 ?_
        refine lv_iconst (v := 1) hx hb d_Row_add_75 (by decide) ?_
        refine lv_iadd hx hb d_Row_add_76 ?_
        refine lv_topi (fun v_4 ev_4 => ?_)
        have z9 : v_4 = nI (bs ++ [x]).length := by rw [ev_4, List.length_append]; exact nI_1 _
        subst z9
        refine va_put (D := (dC, dI)) (ci := 0) (v := .int (nI (bs ++ [x]).length)) (ty := .int) (C := "RangeCoders$Row") (T := T_Row) (N := 2) hx hb hg in_Row t_Row o_Row n_Row hown hK hP hD hS 0 rfl rfl 0 (by decide) (hg _ k57) (fun _ h9 => h9) rfl (by decide +kernel) rfl rfl (Nat.le_of_ble_eq_true rfl) d_Row_add_77 (fun H locs hP hD hS => ?_)
        have hP : va_P (dC, dI) vwCl [(rr, Sum.inr (0, [Value.int (nI (bs ++ [x]).length), Value.ref rra])), (rra, Sum.inl (cI, rrk, Sum.inl (upd rrf (nI bs.length).toNatClampNeg (nI x))))] H := hP
        have hD : va_D A [(rr, Sum.inr (0, [Value.int (nI (bs ++ [x]).length), Value.ref rra])), (rra, Sum.inl (cI, rrk, Sum.inl (upd rrf (nI bs.length).toNatClampNeg (nI x))))] := hD
        have hrr8 : rOk (nI (bs ++ [x]).length) rrk := rOk_of (by rw [List.length_append, List.length_singleton]; omega) (by omega) (by omega)
        exact my_vretg hx hb hr hlocks hQ hK hS (rra, rrk, upd rrf (nI bs.length).toNatClampNeg (nI x)) (show 0 + (rPh rrk) ≤ (rPh rrk) by omega) (show 0 + (rPh rrk) ≤ (rPh rrk) by omega) (⟨hrr8, gIs_up (by assumption) (nI_clamp (by omega)) rfl⟩) (hP.sub [0, 1] rfl) (hD.sub [0, 1] (by decide +kernel) rfl) d_Row_add_80
  · refine lv_aload_n hx hb d_Row_add_12 rfl (lv_at hl 0 rfl) ?_
    refine va_get (D := (dC, dI)) (ci := 0) (v := .ref rra) (C := "RangeCoders$Row") (T := T_Row) (N := 2) hx hb hg in_Row hown hK hP 0 rfl rfl 1 (by decide) (hg _ k60) (fun _ h9 => h9) rfl d_Row_add_13 ?_
    refine va_alen hx hb hK hP 1 0 rfl rfl (v := nI rrk) rfl d_Row_add_16 ?_
    refine lv_sipush (v := 8192) hx hb d_Row_add_17 (by decide) ?_
    refine lv_icmp_ge (tgt := 41) hx hb d_Row_add_20 (by decide) (fun c_5 => ?_) (fun c_5 => ?_)
    · refine lv_aload_n hx hb d_Row_add_41 rfl (lv_at hl 0 rfl) ?_
      refine va_get (D := (dC, dI)) (ci := 0) (v := .int (nI bs.length)) (C := "RangeCoders$Row") (T := T_Row) (N := 2) hx hb hg in_Row hown hK hP 0 rfl rfl 0 (by decide) (hg _ k57) (fun _ h9 => h9) rfl d_Row_add_42 ?_
      refine lv_if_lt (tgt := 80) hx hb d_Row_add_45 (by decide) (fun c_6 => ?_) (fun c_6 => ?_)
      · exact absurd c_6 (nI_pos (by omega))
      · refine lv_aload_n hx hb d_Row_add_48 rfl (lv_at hl 0 rfl) ?_
        refine va_get (D := (dC, dI)) (ci := 0) (v := .int (nI bs.length)) (C := "RangeCoders$Row") (T := T_Row) (N := 2) hx hb hg in_Row hown hK hP 0 rfl rfl 0 (by decide) (hg _ k57) (fun _ h9 => h9) rfl d_Row_add_49 ?_
        refine lv_aload_n hx hb d_Row_add_52 rfl (lv_at hl 0 rfl) ?_
        refine va_get (D := (dC, dI)) (ci := 0) (v := .ref rra) (C := "RangeCoders$Row") (T := T_Row) (N := 2) hx hb hg in_Row hown hK hP 0 rfl rfl 1 (by decide) (hg _ k60) (fun _ h9 => h9) rfl d_Row_add_53 ?_
        refine va_alen hx hb hK hP 1 0 rfl rfl (v := nI rrk) rfl d_Row_add_56 ?_
        refine lv_icmp_ge (tgt := 80) hx hb d_Row_add_57 (by decide) (fun c_7 => ?_) (fun c_7 => ?_)
        · exact absurd (nI_ge' (by omega) (by omega) c_7) (by have := nI_ge' (n := 8192) (by omega) (by decide) c_5; omega)
        · refine lv_aload_n hx hb d_Row_add_60 rfl (lv_at hl 0 rfl) ?_
          refine va_get (D := (dC, dI)) (ci := 0) (v := .ref rra) (C := "RangeCoders$Row") (T := T_Row) (N := 2) hx hb hg in_Row hown hK hP 0 rfl rfl 1 (by decide) (hg _ k60) (fun _ h9 => h9) rfl d_Row_add_61 ?_
          refine lv_aload_n hx hb d_Row_add_64 rfl (lv_at hl 0 rfl) ?_
          refine va_get (D := (dC, dI)) (ci := 0) (v := .int (nI bs.length)) (C := "RangeCoders$Row") (T := T_Row) (N := 2) hx hb hg in_Row hown hK hP 0 rfl rfl 0 (by decide) (hg _ k57) (fun _ h9 => h9) rfl d_Row_add_65 ?_
          refine lv_iload_n hx hb d_Row_add_68 rfl (lv_at hl 1 rfl) ?_
          have hbl : bs.length < rrk := nI_lt' (by omega) c_7
          refine va_iast hx hb hK hP hD hS 1 0 rfl rfl (vp_in_nI hbl (by omega)) d_Row_add_69 (fun H locs hP hD hS => ?_)
          have hP : va_P (dC, dI) vwCl [(rr, Sum.inr (0, [Value.int (nI bs.length), Value.ref rra])), (rra, Sum.inl (cI, rrk, Sum.inl (upd rrf (nI bs.length).toNatClampNeg (nI x))))] H := hP
          have hD : va_D A [(rr, Sum.inr (0, [Value.int (nI bs.length), Value.ref rra])), (rra, Sum.inl (cI, rrk, Sum.inl (upd rrf (nI bs.length).toNatClampNeg (nI x))))] := hD
          refine lv_aload_n hx hb d_Row_add_70 rfl (lv_at hl 0 rfl) ?_
          refine lv_dup hx hb d_Row_add_71 rfl ?_
          refine va_get (D := (dC, dI)) (ci := 0) (v := .int (nI bs.length)) (C := "RangeCoders$Row") (T := T_Row) (N := 2) hx hb hg in_Row hown hK hP 0 rfl rfl 0 (by decide) (hg _ k57) (fun _ h9 => h9) rfl d_Row_add_72 ?_
          refine lv_iconst (v := 1) hx hb d_Row_add_75 (by decide) ?_
          refine lv_iadd hx hb d_Row_add_76 ?_
          refine lv_topi (fun v_8 ev_8 => ?_)
          have z9 : v_8 = nI (bs ++ [x]).length := by rw [ev_8, List.length_append]; exact nI_1 _
          subst z9
          refine va_put (D := (dC, dI)) (ci := 0) (v := .int (nI (bs ++ [x]).length)) (ty := .int) (C := "RangeCoders$Row") (T := T_Row) (N := 2) hx hb hg in_Row t_Row o_Row n_Row hown hK hP hD hS 0 rfl rfl 0 (by decide) (hg _ k57) (fun _ h9 => h9) rfl (by decide +kernel) rfl rfl (Nat.le_of_ble_eq_true rfl) d_Row_add_77 (fun H locs hP hD hS => ?_)
          have hP : va_P (dC, dI) vwCl [(rr, Sum.inr (0, [Value.int (nI (bs ++ [x]).length), Value.ref rra])), (rra, Sum.inl (cI, rrk, Sum.inl (upd rrf (nI bs.length).toNatClampNeg (nI x))))] H := hP
          have hD : va_D A [(rr, Sum.inr (0, [Value.int (nI (bs ++ [x]).length), Value.ref rra])), (rra, Sum.inl (cI, rrk, Sum.inl (upd rrf (nI bs.length).toNatClampNeg (nI x))))] := hD
          have hrr8 : rOk (nI (bs ++ [x]).length) rrk := rOk_of (by rw [List.length_append, List.length_singleton]; omega) (by omega) (by omega)
          exact my_vretg hx hb hr hlocks hQ hK hS (rra, rrk, upd rrf (nI bs.length).toNatClampNeg (nI x)) (show 0 + (rPh rrk) ≤ (rPh rrk) by omega) (show 0 + (rPh rrk) ≤ (rPh rrk) by omega) (⟨hrr8, gIs_up (by assumption) (nI_clamp (by omega)) rfl⟩) (hP.sub [0, 1] rfl) (hD.sub [0, 1] (by decide +kernel) rfl) d_Row_add_80
    · refine lv_aload_n hx hb d_Row_add_23 rfl (lv_at hl 0 rfl) ?_
      refine lv_aload_n hx hb d_Row_add_24 rfl (lv_at hl 0 rfl) ?_
      refine va_get (D := (dC, dI)) (ci := 0) (v := .ref rra) (C := "RangeCoders$Row") (T := T_Row) (N := 2) hx hb hg in_Row hown hK hP 0 rfl rfl 1 (by decide) (hg _ k60) (fun _ h9 => h9) rfl d_Row_add_25 ?_
      refine lv_aload_n hx hb d_Row_add_28 rfl (lv_at hl 0 rfl) ?_
      refine va_get (D := (dC, dI)) (ci := 0) (v := .ref rra) (C := "RangeCoders$Row") (T := T_Row) (N := 2) hx hb hg in_Row hown hK hP 0 rfl rfl 1 (by decide) (hg _ k60) (fun _ h9 => h9) rfl d_Row_add_29 ?_
      refine va_alen hx hb hK hP 1 0 rfl rfl (v := nI rrk) rfl d_Row_add_32 ?_
      refine lv_iconst (v := 2) hx hb d_Row_add_33 (by decide) ?_
      refine lv_imul hx hb d_Row_add_34 ?_
      refine lv_topi (fun v_9 ev_9 => ?_)
      have hlt8 : rrk < 8192 := rw_lt (by omega) c_5
      have hph := rPh_2 (by omega) hlt8
      have z9 : v_9 = nI (2 * rrk) := by rw [ev_9]; exact rw_dbl _
      subst z9
      refine my_cqg (wr := [(rr, Sum.inr (0, [Value.int (nI bs.length), Value.ref rra]))]) (va_runS (As := [Value.ref rra, Value.int (nI (2 * rrk))]) (rest := [Value.ref rr]) ⟨hx, hb, hml, hown, hts⟩ (f_Arrays_copyOf l dC dI cI cM cO H.size (hSl H) rra rrk rrf (2 * rrk) bs (by first | assumption | omega) (by first | assumption | omega) (hGrr) (hle9)) (my_cwS2 2 hts (my_gC k478) rfl rfl rfl (hg _ k15) (hg _ k476) (hg _ k477) (by decide +kernel) ⟨by rw [hR]; exact Nat.le_of_ble_eq_true rfl, by rw [hR]; exact Nat.le_of_ble_eq_true rfl⟩) (my_preg hK hN (hP.sub [1] rfl) (hD.sub [1] (by decide +kernel) rfl)) rfl rfl hl.1 rfl (lv_room (Nat.le_of_ble_eq_true rfl)) d_Row_add_35 ⟨by rw [hR]; exact (show 0 + (2 * rrk) ≤ (rPh rrk) by omega), by rw [hR]; exact (show 0 + (2 * rrk) ≤ (rPh rrk) by omega)⟩) hP hD hS hA [1] [0] rfl rfl (by decide +kernel) (by decide +kernel) (fun r_35 u9 d_35 H locs hd_35 hw_35 hP hD hS => ?_)
      obtain ⟨qa_35, qf_35⟩ := u9
      obtain ⟨hr_35, hGq_35⟩ : r_35 = some qa_35 ∧ gIs qf_35 bs := hw_35
      have hd_35 : d_35 + 0 ≤ (2 * rrk) := hd_35
      have hP : va_P (dC, dI) vwCl [(rr, Sum.inr (0, [Value.int (nI bs.length), Value.ref rra])), (rra, Sum.inl (cI, rrk, Sum.inl rrf)), (qa_35, Sum.inl (cI, (2 * rrk), Sum.inl qf_35))] H := hP
      have hD : va_D A [(rr, Sum.inr (0, [Value.int (nI bs.length), Value.ref rra])), (rra, Sum.inl (cI, rrk, Sum.inl rrf)), (qa_35, Sum.inl (cI, (2 * rrk), Sum.inl qf_35))] := hD
      subst hr_35
      refine W.eq (g2 := F0 m 38 ls [Value.ref qa_35, Value.ref rr]) rfl ?_
      have hrr2 := rOk_2 hrr hlt8
      have hlt7 := rOk_lt hrr2
      refine va_put (D := (dC, dI)) (ci := 0) (v := .ref qa_35) (ty := (.array .int)) (C := "RangeCoders$Row") (T := T_Row) (N := 2) hx hb hg in_Row t_Row o_Row n_Row hown hK hP hD hS 0 rfl rfl 1 (by decide) (hg _ k60) (fun _ h9 => h9) rfl (by decide +kernel) rfl rfl (Nat.le_of_ble_eq_true rfl) d_Row_add_38 (fun H locs hP hD hS => ?_)
      have hP : va_P (dC, dI) vwCl [(rr, Sum.inr (0, [Value.int (nI bs.length), Value.ref qa_35])), (rra, Sum.inl (cI, rrk, Sum.inl rrf)), (qa_35, Sum.inl (cI, (2 * rrk), Sum.inl qf_35))] H := hP
      have hD : va_D A [(rr, Sum.inr (0, [Value.int (nI bs.length), Value.ref qa_35])), (rra, Sum.inl (cI, rrk, Sum.inl rrf)), (qa_35, Sum.inl (cI, (2 * rrk), Sum.inl qf_35))] := hD
      refine lv_aload_n hx hb d_Row_add_41 rfl (lv_at hl 0 rfl) ?_
      refine va_get (D := (dC, dI)) (ci := 0) (v := .int (nI bs.length)) (C := "RangeCoders$Row") (T := T_Row) (N := 2) hx hb hg in_Row hown hK hP 0 rfl rfl 0 (by decide) (hg _ k57) (fun _ h9 => h9) rfl d_Row_add_42 ?_
      refine lv_if_lt (tgt := 80) hx hb d_Row_add_45 (by decide) (fun c_10 => ?_) (fun c_10 => ?_)
      · exact absurd c_10 (nI_pos (by omega))
      · refine lv_aload_n hx hb d_Row_add_48 rfl (lv_at hl 0 rfl) ?_
        refine va_get (D := (dC, dI)) (ci := 0) (v := .int (nI bs.length)) (C := "RangeCoders$Row") (T := T_Row) (N := 2) hx hb hg in_Row hown hK hP 0 rfl rfl 0 (by decide) (hg _ k57) (fun _ h9 => h9) rfl d_Row_add_49 ?_
        refine lv_aload_n hx hb d_Row_add_52 rfl (lv_at hl 0 rfl) ?_
        refine va_get (D := (dC, dI)) (ci := 0) (v := .ref qa_35) (C := "RangeCoders$Row") (T := T_Row) (N := 2) hx hb hg in_Row hown hK hP 0 rfl rfl 1 (by decide) (hg _ k60) (fun _ h9 => h9) rfl d_Row_add_53 ?_
        refine va_alen hx hb hK hP 2 0 rfl rfl (v := nI (2 * rrk)) rfl d_Row_add_56 ?_
        refine lv_icmp_ge (tgt := 80) hx hb d_Row_add_57 (by decide) (fun c_11 => ?_) (fun c_11 => ?_)
        · exact absurd (nI_ge' (by omega) (by omega) c_11) (by omega)
        · refine lv_aload_n hx hb d_Row_add_60 rfl (lv_at hl 0 rfl) ?_
          refine va_get (D := (dC, dI)) (ci := 0) (v := .ref qa_35) (C := "RangeCoders$Row") (T := T_Row) (N := 2) hx hb hg in_Row hown hK hP 0 rfl rfl 1 (by decide) (hg _ k60) (fun _ h9 => h9) rfl d_Row_add_61 ?_
          refine lv_aload_n hx hb d_Row_add_64 rfl (lv_at hl 0 rfl) ?_
          refine va_get (D := (dC, dI)) (ci := 0) (v := .int (nI bs.length)) (C := "RangeCoders$Row") (T := T_Row) (N := 2) hx hb hg in_Row hown hK hP 0 rfl rfl 0 (by decide) (hg _ k57) (fun _ h9 => h9) rfl d_Row_add_65 ?_
          refine lv_iload_n hx hb d_Row_add_68 rfl (lv_at hl 1 rfl) ?_
          have hbl : bs.length < (2 * rrk) := nI_lt' (by omega) c_11
          refine va_iast hx hb hK hP hD hS 2 0 rfl rfl (vp_in_nI hbl (by omega)) d_Row_add_69 (fun H locs hP hD hS => ?_)
          have hP : va_P (dC, dI) vwCl [(rr, Sum.inr (0, [Value.int (nI bs.length), Value.ref qa_35])), (rra, Sum.inl (cI, rrk, Sum.inl rrf)), (qa_35, Sum.inl (cI, (2 * rrk), Sum.inl (upd qf_35 (nI bs.length).toNatClampNeg (nI x))))] H := hP
          have hD : va_D A [(rr, Sum.inr (0, [Value.int (nI bs.length), Value.ref qa_35])), (rra, Sum.inl (cI, rrk, Sum.inl rrf)), (qa_35, Sum.inl (cI, (2 * rrk), Sum.inl (upd qf_35 (nI bs.length).toNatClampNeg (nI x))))] := hD
          refine lv_aload_n hx hb d_Row_add_70 rfl (lv_at hl 0 rfl) ?_
          refine lv_dup hx hb d_Row_add_71 rfl ?_
          refine va_get (D := (dC, dI)) (ci := 0) (v := .int (nI bs.length)) (C := "RangeCoders$Row") (T := T_Row) (N := 2) hx hb hg in_Row hown hK hP 0 rfl rfl 0 (by decide) (hg _ k57) (fun _ h9 => h9) rfl d_Row_add_72 ?_
          refine lv_iconst (v := 1) hx hb d_Row_add_75 (by decide) ?_
          refine lv_iadd hx hb d_Row_add_76 ?_
          refine lv_topi (fun v_12 ev_12 => ?_)
          have z9 : v_12 = nI (bs ++ [x]).length := by rw [ev_12, List.length_append]; exact nI_1 _
          subst z9
          refine va_put (D := (dC, dI)) (ci := 0) (v := .int (nI (bs ++ [x]).length)) (ty := .int) (C := "RangeCoders$Row") (T := T_Row) (N := 2) hx hb hg in_Row t_Row o_Row n_Row hown hK hP hD hS 0 rfl rfl 0 (by decide) (hg _ k57) (fun _ h9 => h9) rfl (by decide +kernel) rfl rfl (Nat.le_of_ble_eq_true rfl) d_Row_add_77 (fun H locs hP hD hS => ?_)
          have hP : va_P (dC, dI) vwCl [(rr, Sum.inr (0, [Value.int (nI (bs ++ [x]).length), Value.ref qa_35])), (rra, Sum.inl (cI, rrk, Sum.inl rrf)), (qa_35, Sum.inl (cI, (2 * rrk), Sum.inl (upd qf_35 (nI bs.length).toNatClampNeg (nI x))))] H := hP
          have hD : va_D A [(rr, Sum.inr (0, [Value.int (nI (bs ++ [x]).length), Value.ref qa_35])), (rra, Sum.inl (cI, rrk, Sum.inl rrf)), (qa_35, Sum.inl (cI, (2 * rrk), Sum.inl (upd qf_35 (nI bs.length).toNatClampNeg (nI x))))] := hD
          have hrr8 : rOk (nI (bs ++ [x]).length) (2 * rrk) := rOk_of (by rw [List.length_append, List.length_singleton]; omega) (by omega) (by omega)
          exact my_vretg hx hb hr hlocks hQ hK hS (qa_35, (2 * rrk), upd qf_35 (nI bs.length).toNatClampNeg (nI x)) (show (0 + d_35) + (rPh (2 * rrk)) ≤ (rPh rrk) by omega) (show (0 + d_35) + (rPh (2 * rrk)) ≤ (rPh rrk) by omega) (⟨hrr8, gIs_up (by assumption) (nI_clamp (by omega)) rfl⟩) (hP.sub [0, 2] rfl) (hD.sub [0, 2] (by decide +kernel) rfl) d_Row_add_80
end
section
set_option maxHeartbeats 2000000 in
set_option maxRecDepth 100000 in
theorem f_Row_becomeReverseOf (l : Launch) (dC : Nat → ClassId) (dI : Nat → Nat → Nat) (cI cM cO : ClassId) (sz : Nat) (sl : Nat) (rr : Nat) (rrn : Int32) (rra : Nat) (rrk : Nat) (rrf : Nat → Int32) (rs : Nat) (rsa : Nat) (rsk : Nat) (rsf : Nat → Int32) (ws : List Nat) (hrr : rOk rrn rrk) (hrs : rOk (nI ws.length) rsk) (hGrs : gIs rsf ws) (hw : ws.length ≤ 8000) : MetVg l y_Row_becomeReverseOf (Cond.code y_Row_becomeReverseOf prog_9_method_7_code 3 none :: gw) ({ frames := 3, cells := rPh rrk, slots := rPh rrk, locals := 83 } : Room) (dC, dI) vwCl (kT cI cM cO) [Value.ref rr, Value.ref rs] [(rr, Sum.inr (0, [Value.int rrn, Value.ref rra])), (rra, Sum.inl (cI, rrk, Sum.inl rrf)), (rs, Sum.inr (0, [Value.int (nI ws.length), Value.ref rsa])), (rsa, Sum.inl (cI, rsk, Sum.inl rsf))] sz sl (fun (u : Nat × Nat × (Nat → Int32)) => rOk (nI (ws.reverse).length) u.2.1 ∧ gIs u.2.2 (ws.reverse)) (fun (u : Nat × Nat × (Nat → Int32)) => [(rr, Sum.inr (0, [Value.int (nI (ws.reverse).length), Value.ref u.1])), (u.1, Sum.inl (cI, u.2.1, Sum.inl u.2.2)), (rs, Sum.inr (0, [Value.int (nI ws.length), Value.ref rsa])), (rsa, Sum.inl (cI, rsk, Sum.inl rsf))]) (rPh rrk) (fun (u : Nat × Nat × (Nat → Int32)) => rPh u.2.1) := by
  refine my_ofVg (cc := prog_9_method_7_code) (n := 3) (ret := none) (by decide) rfl (Nat.le_of_ble_eq_true rfl) ?_
  intro p e s m args below meth c R Q A ls H locs hx hb hr hts hown hlocks hml hnm hR hQ hA hl hP hK hN hD hS
  have hg : ∀ w ∈ gw, w.before args s = true := fun w h => hts w (List.mem_cons_of_mem _ h)
  have hown : s.vm.findClass "RangeCoders$Row" = some m.cls := hown
  have hl : lv_has ls 3 [(0, Value.ref rr), (1, Value.ref rs)] := hl
  have hlt9 := rOk_lt hrr
  have hlt8 := rOk_lt hrs
  refine lv_aload_n hx hb d_Row_becomeReverseOf_0 rfl (lv_at hl 0 rfl) ?_
  refine my_cv (wr := [(rs, Sum.inr (0, [Value.int (nI ws.length), Value.ref rsa])), (rsa, Sum.inl (cI, rsk, Sum.inl rsf))]) (va_runV (As := []) (rest := []) ⟨hx, hb, hml, hown, hts⟩ (c_Row_clear l dC dI cI cM cO H.size rr rrn rra rrk rrf (by first | assumption | omega)) (cwV 0 hts (my_gV k657 k594 k595 k6 k596) rfl rfl rfl (by decide +kernel) ⟨by rw [hR]; exact Nat.le_of_ble_eq_true rfl, by rw [hR]; exact Nat.le_of_ble_eq_true rfl⟩) (my_preV hK hN (hP.sub [0, 1] rfl) (hD.sub [0, 1] (by decide +kernel) rfl) 0 rfl rfl) rfl rfl hl.1 rfl (lv_room (Nat.le_of_ble_eq_true rfl)) d_Row_becomeReverseOf_1 ⟨by rw [hR]; exact (show 0 + 0 ≤ (rPh rrk) by omega), by rw [hR]; exact (show 0 + 0 ≤ (rPh rrk) by omega)⟩) hP hD hS hA [0, 1] [2, 3] rfl rfl (by decide +kernel) (by decide +kernel) (fun u9 H locs hw_1 hP hD hS => ?_)
  have hr_1 : rOk 0 rrk := hw_1
  have hP : va_P (dC, dI) vwCl [(rs, Sum.inr (0, [Value.int (nI ws.length), Value.ref rsa])), (rsa, Sum.inl (cI, rsk, Sum.inl rsf)), (rr, Sum.inr (0, [Value.int 0, Value.ref rra])), (rra, Sum.inl (cI, rrk, Sum.inl rrf))] H := hP
  have hD : va_D A [(rs, Sum.inr (0, [Value.int (nI ws.length), Value.ref rsa])), (rsa, Sum.inl (cI, rsk, Sum.inl rsf)), (rr, Sum.inr (0, [Value.int 0, Value.ref rra])), (rra, Sum.inl (cI, rrk, Sum.inl rrf))] := hD
  refine lv_aload_n hx hb d_Row_becomeReverseOf_4 rfl (lv_at hl 1 rfl) ?_
  refine va_get (D := (dC, dI)) (ci := 0) (v := .int (nI ws.length)) (C := "RangeCoders$Row") (T := T_Row) (N := 2) hx hb hg in_Row hown hK hP 0 rfl rfl 0 (by decide) (hg _ k57) (fun _ h9 => h9) rfl d_Row_becomeReverseOf_5 ?_
  refine lv_iconst (v := 1) hx hb d_Row_becomeReverseOf_8 (by decide) ?_
  refine lv_isub hx hb d_Row_becomeReverseOf_9 ?_
  refine lv_topi (fun v_1 ev_1 => ?_)
  refine lv_istore_n (lv' := [(2, Value.int v_1), (0, Value.ref rr), (1, Value.ref rs)]) hx hb d_Row_becomeReverseOf_10 rfl hl (by decide) rfl (fun ls hl => ?_)
  have J_11 : ∀ (n9_11 : Nat) (i9 : Int32) (j : Nat) (b9 : List Nat) (rra9 : Nat) (rrk9 : Nat) (rrf9 : Nat → Int32) (d9 : Nat) (hn9_11 : j = n9_11) (hi : i9 + 1 = nI j) (hj : j ≤ ws.length) (hb9 : b9 = (ws.drop j).reverse) (hr9 : rOk (nI b9.length) rrk9) (hg9 : gIs rrf9 b9) (hd9 : d9 + rPh rrk9 ≤ rPh rrk) (H : Heap) (locs : List Loc) (ls : Array Slot), va_P (dC, dI) vwCl [(rs, Sum.inr (0, [Value.int (nI ws.length), Value.ref rsa])), (rsa, Sum.inl (cI, rsk, Sum.inl rsf)), (rr, Sum.inr (0, [Value.int (nI b9.length), Value.ref rra9])), (rra9, Sum.inl (cI, rrk9, Sum.inl rrf9))] H → va_D A [(rs, Sum.inr (0, [Value.int (nI ws.length), Value.ref rsa])), (rsa, Sum.inl (cI, rsk, Sum.inl rsf)), (rr, Sum.inr (0, [Value.int (nI b9.length), Value.ref rra9])), (rra9, Sum.inl (cI, rrk9, Sum.inl rrf9))] → va_S A s.heap H locs → lv_has ls 3 [(2, Value.int i9), (0, Value.ref rr), (1, Value.ref rs)] → W p l e R s m args below meth c H locs d9 d9 Q (F0 m 11 ls []) := by
    intro n9_11
    induction n9_11 using Nat.strongRecOn with
    | ind n9_11 ih9_11 =>
      intro i9 j b9 rra9 rrk9 rrf9 d9 hn9_11 hi hj hb9 hr9 hg9 hd9 H locs ls hP hD hS hl
      have hbl : b9.length = ws.length - j := by rw [hb9, List.length_reverse, List.length_drop]
      refine lv_iload_n hx hb d_Row_becomeReverseOf_11 rfl (lv_at hl 0 rfl) ?_
      refine lv_if_lt (tgt := 30) hx hb d_Row_becomeReverseOf_12 (by decide) (fun c_2 => ?_) (fun c_2 => ?_)
      · have hj0 : j = 0 := by
          rcases Nat.eq_zero_or_pos j with z | z
          · exact z
          · exact absurd (show i9 < 0 from c_2) (by rw [show i9 = nI (j - 1) from by rw [← Int32.add_sub_cancel (a := i9) (b := 1), hi]; exact pk_sub (b := 1) z]; exact nI_pos (by omega))
        have z9 : b9 = ws.reverse := by rw [hb9, hj0]; rfl
        subst z9
        exact my_vretg hx hb hr hlocks hQ hK hS (rra9, rrk9, rrf9) (show d9 + (rPh rrk9) ≤ (rPh rrk) by omega) (show d9 + (rPh rrk9) ≤ (rPh rrk) by omega) (⟨hr9, hg9⟩) (hP.sub [2, 3, 0, 1] rfl) (hD.sub [2, 3, 0, 1] (by decide +kernel) rfl) d_Row_becomeReverseOf_30
      · have hj0 : 1 ≤ j := by
          rcases Nat.eq_zero_or_pos j with z | z
          · subst z; exact absurd (show i9 < 0 by rw [show i9 = -1 from by rw [← Int32.add_sub_cancel (a := i9) (b := 1), hi]; rfl]; decide) c_2
          · exact z
        have hi9 : i9 = nI (j - 1) := by rw [← Int32.add_sub_cancel (a := i9) (b := 1), hi]; exact pk_sub (b := 1) hj0
        subst hi9
        refine lv_aload_n hx hb d_Row_becomeReverseOf_15 rfl (lv_at hl 1 rfl) ?_
        refine lv_aload_n hx hb d_Row_becomeReverseOf_16 rfl (lv_at hl 2 rfl) ?_
        refine lv_iload_n hx hb d_Row_becomeReverseOf_17 rfl (lv_at hl 0 rfl) ?_
        refine my_ci (wr := [(rr, Sum.inr (0, [Value.int (nI b9.length), Value.ref rra9])), (rra9, Sum.inl (cI, rrk9, Sum.inl rrf9))]) (va_runV (As := [Value.int (nI (j - 1))]) (rest := [Value.ref rr]) ⟨hx, hb, hml, hown, hts⟩ (f_Row_at l dC dI cI cM cO H.size rs rsa rsk rsf ws (nI (j - 1)) (hrs) (hGrs) (by omega)) (cwV 1 hts (my_gV k658 k659 k660 k6 k661) rfl rfl rfl (by decide +kernel) ⟨by rw [hR]; exact Nat.le_of_ble_eq_true rfl, by rw [hR]; exact Nat.le_of_ble_eq_true rfl⟩) (my_preV hK hN (hP.sub [0, 1] rfl) (hD.sub [0, 1] (by decide +kernel) rfl) 0 rfl rfl) rfl rfl hl.1 rfl (lv_room (Nat.le_of_ble_eq_true rfl)) d_Row_becomeReverseOf_18 ⟨by rw [hR]; exact (show d9 + 0 ≤ (rPh rrk) by omega), by rw [hR]; exact (show d9 + 0 ≤ (rPh rrk) by omega)⟩) hP hD hS hA [0, 1] [2, 3] rfl rfl (by decide +kernel) (by decide +kernel) (fun r_18 u9 H locs hw_18 hP hD hS => ?_)
        have hr_18 : r_18 = rAt ws (nI (j - 1)) := hw_18
        have hP : va_P (dC, dI) vwCl [(rr, Sum.inr (0, [Value.int (nI b9.length), Value.ref rra9])), (rra9, Sum.inl (cI, rrk9, Sum.inl rrf9)), (rs, Sum.inr (0, [Value.int (nI ws.length), Value.ref rsa])), (rsa, Sum.inl (cI, rsk, Sum.inl rsf))] H := hP
        have hD : va_D A [(rr, Sum.inr (0, [Value.int (nI b9.length), Value.ref rra9])), (rra9, Sum.inl (cI, rrk9, Sum.inl rrf9)), (rs, Sum.inr (0, [Value.int (nI ws.length), Value.ref rsa])), (rsa, Sum.inl (cI, rsk, Sum.inl rsf))] := hD
        have z9 : r_18 = nI (ws.getD (j - 1) 0) := by rw [hr_18]; exact rAt_nI (by omega) (by omega)
        subst z9
        refine my_cvg (wr := [(rs, Sum.inr (0, [Value.int (nI ws.length), Value.ref rsa])), (rsa, Sum.inl (cI, rsk, Sum.inl rsf))]) (va_runV (As := [Value.int (nI (ws.getD (j - 1) 0))]) (rest := []) ⟨hx, hb, hml, hown, hts⟩ (f_Row_add l dC dI cI cM cO H.size (hSl H) rr rra9 rrk9 rrf9 b9 (ws.getD (j - 1) 0) (hr9) (hg9) (by omega)) (cwV 1 hts (my_gV k666 k473 k474 k6 k475) rfl rfl rfl (by decide +kernel) ⟨by rw [hR]; exact Nat.le_of_ble_eq_true rfl, by rw [hR]; exact Nat.le_of_ble_eq_true rfl⟩) (my_preVg hK hN (hP.sub [0, 1] rfl) (hD.sub [0, 1] (by decide +kernel) rfl) 0 rfl rfl) rfl rfl hl.1 rfl (lv_room (Nat.le_of_ble_eq_true rfl)) d_Row_becomeReverseOf_21 ⟨by rw [hR]; exact (show d9 + (rPh rrk9) ≤ (rPh rrk) by omega), by rw [hR]; exact (show d9 + (rPh rrk9) ≤ (rPh rrk) by omega)⟩) hP hD hS hA [0, 1] [2, 3] rfl rfl (by decide +kernel) (by decide +kernel) (fun u9 d_21 H locs hd_21 hw_21 hP hD hS => ?_)
        obtain ⟨rraq_21, rrkq_21, rrfq_21⟩ := u9
        obtain ⟨hrr_21, hGrr_21⟩ : rOk (nI (b9 ++ [(ws.getD (j - 1) 0)]).length) rrkq_21 ∧ gIs rrfq_21 (b9 ++ [(ws.getD (j - 1) 0)]) := hw_21
        have hd_21 : d_21 + (rPh rrkq_21) ≤ (rPh rrk9) := hd_21
        have hP : va_P (dC, dI) vwCl [(rs, Sum.inr (0, [Value.int (nI ws.length), Value.ref rsa])), (rsa, Sum.inl (cI, rsk, Sum.inl rsf)), (rr, Sum.inr (0, [Value.int (nI (b9 ++ [(ws.getD (j - 1) 0)]).length), Value.ref rraq_21])), (rraq_21, Sum.inl (cI, rrkq_21, Sum.inl rrfq_21))] H := hP
        have hD : va_D A [(rs, Sum.inr (0, [Value.int (nI ws.length), Value.ref rsa])), (rsa, Sum.inl (cI, rsk, Sum.inl rsf)), (rr, Sum.inr (0, [Value.int (nI (b9 ++ [(ws.getD (j - 1) 0)]).length), Value.ref rraq_21])), (rraq_21, Sum.inl (cI, rrkq_21, Sum.inl rrfq_21))] := hD
        obtain ⟨v_3, ev_3⟩ : ∃ y : Int32, y = (nI (j - 1)) + (-1) := ⟨_, rfl⟩
        refine lv_iinc (v := v_3) (lv' := [(2, Value.int v_3), (0, Value.ref rr), (1, Value.ref rs)]) hx hb d_Row_becomeReverseOf_24 hl (k := 0) rfl (by rw [ev_3]; rfl) (by decide) rfl (fun ls hl => ?_)
        refine lv_goto (tgt := 11) hx hb d_Row_becomeReverseOf_27 (by decide) ?_
        exact ih9_11 _ (by first | omega | (omega)) v_3 (j - 1) (b9 ++ [ws.getD (j - 1) 0]) rraq_21 rrkq_21 rrfq_21 (d9 + d_21) rfl (by rw [ev_3, show nI (j - 1) + (-1) + 1 = nI (j - 1) from by rw [Int32.add_assoc, show (-1 : Int32) + 1 = 0 from by decide, Int32.add_zero]]) (by omega) (by rw [hb9]; exact rv_drop hj0 hj) (hrr_21) (hGrr_21) (by omega) H locs ls (hP.sub [0, 1, 2, 3] rfl) (hD.sub [0, 1, 2, 3] (by decide +kernel) rfl) hS (lv_sub hl [0, 1, 2] rfl)
  exact J_11 _ v_1 ws.length ([]) rra rrk rrf (0 : Nat) rfl (by rw [ev_1, Int32.sub_add_cancel]) (Nat.le_refl _) (by rw [List.drop_length]; rfl) (rOk_0 hrr) (fun i h => absurd h (Nat.not_lt_zero i)) (by omega) H locs ls (hP.sub [0, 1, 2, 3] rfl) (hD.sub [0, 1, 2, 3] (by decide +kernel) rfl) hS (lv_sub hl [0, 1, 2] rfl)
end
section
set_option maxHeartbeats 2000000 in
set_option maxRecDepth 100000 in
theorem f_Odds_hasCell (l : Launch) (dC : Nat → ClassId) (dI : Nat → Nat → Nat) (cI cM cO : ClassId) (sz : Nat) (oo : Nat) (osg : Int32) (ofc : Int32) (oca : Nat) (opa : Nat) (n : Nat) (ocf : Nat → Int32) (opl : Nat) (opf : Nat → Int32) (osm : Int32) (t : Nat) (hn : n ≤ 64) (hpl : opl ≤ 512) (ht : t < n) (hfc : ofc ≤ nI t) : MetI l y_Odds_hasCell (Cond.code y_Odds_hasCell prog_7_method_2_code 2 (some .boolean) :: gw) ({ frames := 0, cells := 0, slots := 0, locals := 0 } : Room) (dC, dI) vwCl (kT cI cM cO) [Value.ref oo, Value.int (nI t)] [(oo, Sum.inr (7, [Value.int osg, Value.int osm, Value.int ofc, Value.ref oca, Value.ref opa])), (oca, Sum.inl (cI, n, Sum.inl ocf)), (opa, Sum.inl (cI, opl, Sum.inl opf))] sz (fun (r : Int32) (u : Unit) => r = 1) (fun (u : Unit) => [(oo, Sum.inr (7, [Value.int osg, Value.int osm, Value.int ofc, Value.ref oca, Value.ref opa])), (oca, Sum.inl (cI, n, Sum.inl ocf)), (opa, Sum.inl (cI, opl, Sum.inl opf))]) 0 0 := by
  refine my_ofI (cc := prog_7_method_2_code) (n := 2) (ret := (some .boolean)) (by decide) rfl (Nat.le_of_ble_eq_true rfl) ?_
  intro p e s m args below meth c R Q A ls H locs hx hb hr hts hown hlocks hml hnm hR hQ hA hl hP hK hN hD hS
  have hg : ∀ w ∈ gw, w.before args s = true := fun w h => hts w (List.mem_cons_of_mem _ h)
  have hown : s.vm.findClass "RangeCoders$Odds" = some m.cls := hown
  have hl : lv_has ls 2 [(0, Value.ref oo), (1, Value.int (nI t))] := hl
  refine lv_iload_n hx hb d_Odds_hasCell_0 rfl (lv_at hl 1 rfl) ?_
  refine lv_aload_n hx hb d_Odds_hasCell_1 rfl (lv_at hl 0 rfl) ?_
  refine va_get (D := (dC, dI)) (ci := 7) (v := .int ofc) (C := "RangeCoders$Odds") (T := T_Odds) (N := 5) hx hb hg in_Odds hown hK hP 0 rfl rfl 2 (by decide) (hg _ k308) (fun _ h9 => h9) rfl d_Odds_hasCell_2 ?_
  refine lv_icmp_lt (tgt := 25) hx hb d_Odds_hasCell_5 (by decide) (fun c_1 => ?_) (fun c_1 => ?_)
  · exact absurd hfc (Int32.not_le.mpr c_1)
  · refine lv_iload_n hx hb d_Odds_hasCell_8 rfl (lv_at hl 1 rfl) ?_
    refine lv_if_lt (tgt := 25) hx hb d_Odds_hasCell_9 (by decide) (fun c_2 => ?_) (fun c_2 => ?_)
    · exact absurd c_2 (nI_pos (by omega))
    · refine lv_iload_n hx hb d_Odds_hasCell_12 rfl (lv_at hl 1 rfl) ?_
      refine lv_aload_n hx hb d_Odds_hasCell_13 rfl (lv_at hl 0 rfl) ?_
      refine va_get (D := (dC, dI)) (ci := 7) (v := .ref oca) (C := "RangeCoders$Odds") (T := T_Odds) (N := 5) hx hb hg in_Odds hown hK hP 0 rfl rfl 3 (by decide) (hg _ k309) (fun _ h9 => h9) rfl d_Odds_hasCell_14 ?_
      refine va_alen hx hb hK hP 1 0 rfl rfl (v := nI n) rfl d_Odds_hasCell_17 ?_
      refine lv_icmp_ge (tgt := 25) hx hb d_Odds_hasCell_18 (by decide) (fun c_3 => ?_) (fun c_3 => ?_)
      · exact absurd c_3 (nI_ge ht (by omega))
      · refine lv_iconst (v := 1) hx hb d_Odds_hasCell_21 (by decide) ?_
        refine lv_goto (tgt := 26) hx hb d_Odds_hasCell_22 (by decide) ?_
        exact my_iret (v := 1) hx hb hr (rfl) hlocks hQ hK hS (Nat.le_refl _) (Nat.le_refl _) () (rfl) (hP.sub [0, 1, 2] rfl) (hD.sub [0, 1, 2] (by decide +kernel) rfl) d_Odds_hasCell_26
set_option maxHeartbeats 2000000 in
set_option maxRecDepth 100000 in
theorem f_Odds_at (l : Launch) (dC : Nat → ClassId) (dI : Nat → Nat → Nat) (cI cM cO : ClassId) (sz : Nat) (oo : Nat) (osg : Int32) (ofc : Int32) (oca : Nat) (opa : Nat) (n : Nat) (ocf : Nat → Int32) (opl : Nat) (opf : Nat → Int32) (osm : Int32) (t : Nat) (hn : n ≤ 64) (hpl : opl ≤ 512) (ht : t < n) (hfc : ofc ≤ nI t) : MetI l y_Odds_at (Cond.code y_Odds_at prog_7_method_3_code 2 (some .int) :: gw) ({ frames := 1, cells := 0, slots := 0, locals := 21 } : Room) (dC, dI) vwCl (kT cI cM cO) [Value.ref oo, Value.int (nI t)] [(oo, Sum.inr (7, [Value.int osg, Value.int osm, Value.int ofc, Value.ref oca, Value.ref opa])), (oca, Sum.inl (cI, n, Sum.inl ocf)), (opa, Sum.inl (cI, opl, Sum.inl opf))] sz (fun (r : Int32) (u : Unit) => r = ocf t) (fun (u : Unit) => [(oo, Sum.inr (7, [Value.int osg, Value.int osm, Value.int ofc, Value.ref oca, Value.ref opa])), (oca, Sum.inl (cI, n, Sum.inl ocf)), (opa, Sum.inl (cI, opl, Sum.inl opf))]) 0 0 := by
  refine my_ofI (cc := prog_7_method_3_code) (n := 2) (ret := (some .int)) (by decide) rfl (Nat.le_of_ble_eq_true rfl) ?_
  intro p e s m args below meth c R Q A ls H locs hx hb hr hts hown hlocks hml hnm hR hQ hA hl hP hK hN hD hS
  have hg : ∀ w ∈ gw, w.before args s = true := fun w h => hts w (List.mem_cons_of_mem _ h)
  have hown : s.vm.findClass "RangeCoders$Odds" = some m.cls := hown
  have hl : lv_has ls 2 [(0, Value.ref oo), (1, Value.int (nI t))] := hl
  refine lv_aload_n hx hb d_Odds_at_0 rfl (lv_at hl 0 rfl) ?_
  refine lv_iload_n hx hb d_Odds_at_1 rfl (lv_at hl 1 rfl) ?_
  refine my_ci (wr := []) (va_runV (As := [Value.int (nI t)]) (rest := []) ⟨hx, hb, hml, hown, hts⟩ (f_Odds_hasCell l dC dI cI cM cO H.size oo osg ofc oca opa n ocf opl opf osm t (by first | assumption | omega) (by first | assumption | omega) (by first | assumption | omega) (by first | assumption | omega)) (cwV 1 hts (my_gV k396 k397 k398 k14 k399) rfl rfl rfl (by decide +kernel) ⟨by rw [hR]; exact Nat.le_of_ble_eq_true rfl, by rw [hR]; exact Nat.le_of_ble_eq_true rfl⟩) (my_preV hK hN (hP.sub [0, 1, 2] rfl) (hD.sub [0, 1, 2] (by decide +kernel) rfl) 0 rfl rfl) rfl rfl hl.1 rfl (lv_room (Nat.le_of_ble_eq_true rfl)) d_Odds_at_2 ⟨by rw [hR]; exact Nat.le_of_ble_eq_true rfl, by rw [hR]; exact Nat.le_of_ble_eq_true rfl⟩) hP hD hS hA [0, 1, 2] [] rfl rfl (by decide +kernel) (by decide +kernel) (fun r_2 u9 H locs hw_2 hP hD hS => ?_)
  have hr_2 : r_2 = 1 := hw_2
  have hP : va_P (dC, dI) vwCl [(oo, Sum.inr (7, [Value.int osg, Value.int osm, Value.int ofc, Value.ref oca, Value.ref opa])), (oca, Sum.inl (cI, n, Sum.inl ocf)), (opa, Sum.inl (cI, opl, Sum.inl opf))] H := hP
  have hD : va_D A [(oo, Sum.inr (7, [Value.int osg, Value.int osm, Value.int ofc, Value.ref oca, Value.ref opa])), (oca, Sum.inl (cI, n, Sum.inl ocf)), (opa, Sum.inl (cI, opl, Sum.inl opf))] := hD
  refine lv_if_eq (tgt := 17) hx hb d_Odds_at_5 (by decide) (fun c_1 => ?_) (fun c_1 => ?_)
  · exact absurd (hr_2.symm.trans c_1) (by decide)
  · refine lv_aload_n hx hb d_Odds_at_8 rfl (lv_at hl 0 rfl) ?_
    refine va_get (D := (dC, dI)) (ci := 7) (v := .ref oca) (C := "RangeCoders$Odds") (T := T_Odds) (N := 5) hx hb hg in_Odds hown hK hP 0 rfl rfl 3 (by decide) (hg _ k309) (fun _ h9 => h9) rfl d_Odds_at_9 ?_
    refine lv_iload_n hx hb d_Odds_at_12 rfl (lv_at hl 1 rfl) ?_
    refine va_iald hx hb hK hP 1 0 rfl rfl (vp_in_nI ht (by omega)) d_Odds_at_13 ?_
    refine lv_topi (fun v_2 ev_2 => ?_)
    refine lv_goto (tgt := 18) hx hb d_Odds_at_14 (by decide) ?_
    exact my_iret (v := v_2) hx hb hr (rfl) hlocks hQ hK hS (Nat.le_refl _) (Nat.le_refl _) () (by rw [ev_2, nI_clamp (by omega)]) (hP.sub [0, 1, 2] rfl) (hD.sub [0, 1, 2] (by decide +kernel) rfl) d_Odds_at_18
set_option maxHeartbeats 2000000 in
set_option maxRecDepth 100000 in
theorem f_Odds_grow (l : Launch) (dC : Nat → ClassId) (dI : Nat → Nat → Nat) (cI cM cO : ClassId) (sz : Nat) (oo : Nat) (osg : Int32) (ofc : Int32) (oca : Nat) (opa : Nat) (n : Nat) (ocf : Nat → Int32) (opl : Nat) (opf : Nat → Int32) (osm : Int32) (t : Nat) (vv : Int32) (hn : n ≤ 64) (hpl : opl ≤ 512) (ht : t < n) (hfc : ofc ≤ nI t) : MetV l y_Odds_grow (Cond.code y_Odds_grow prog_7_method_4_code 3 none :: gw) ({ frames := 1, cells := 0, slots := 0, locals := 21 } : Room) (dC, dI) vwCl (kT cI cM cO) [Value.ref oo, Value.int (nI t), Value.int vv] [(oo, Sum.inr (7, [Value.int osg, Value.int osm, Value.int ofc, Value.ref oca, Value.ref opa])), (oca, Sum.inl (cI, n, Sum.inl ocf)), (opa, Sum.inl (cI, opl, Sum.inl opf))] sz (fun (u : (Nat → Int32)) => u = upd ocf t (ocf t + vv)) (fun (u : (Nat → Int32)) => [(oo, Sum.inr (7, [Value.int osg, Value.int (osm + vv), Value.int ofc, Value.ref oca, Value.ref opa])), (oca, Sum.inl (cI, n, Sum.inl u)), (opa, Sum.inl (cI, opl, Sum.inl opf))]) 0 0 := by
  refine my_ofV (cc := prog_7_method_4_code) (n := 3) (ret := none) (by decide) rfl (Nat.le_of_ble_eq_true rfl) ?_
  intro p e s m args below meth c R Q A ls H locs hx hb hr hts hown hlocks hml hnm hR hQ hA hl hP hK hN hD hS
  have hg : ∀ w ∈ gw, w.before args s = true := fun w h => hts w (List.mem_cons_of_mem _ h)
  have hown : s.vm.findClass "RangeCoders$Odds" = some m.cls := hown
  have hl : lv_has ls 3 [(0, Value.ref oo), (1, Value.int (nI t)), (2, Value.int vv)] := hl
  refine lv_aload_n hx hb d_Odds_grow_0 rfl (lv_at hl 0 rfl) ?_
  refine lv_iload_n hx hb d_Odds_grow_1 rfl (lv_at hl 1 rfl) ?_
  refine my_ci (wr := []) (va_runV (As := [Value.int (nI t)]) (rest := []) ⟨hx, hb, hml, hown, hts⟩ (f_Odds_hasCell l dC dI cI cM cO H.size oo osg ofc oca opa n ocf opl opf osm t (by first | assumption | omega) (by first | assumption | omega) (by first | assumption | omega) (by first | assumption | omega)) (cwV 1 hts (my_gV k396 k397 k398 k14 k399) rfl rfl rfl (by decide +kernel) ⟨by rw [hR]; exact Nat.le_of_ble_eq_true rfl, by rw [hR]; exact Nat.le_of_ble_eq_true rfl⟩) (my_preV hK hN (hP.sub [0, 1, 2] rfl) (hD.sub [0, 1, 2] (by decide +kernel) rfl) 0 rfl rfl) rfl rfl hl.1 rfl (lv_room (Nat.le_of_ble_eq_true rfl)) d_Odds_grow_2 ⟨by rw [hR]; exact Nat.le_of_ble_eq_true rfl, by rw [hR]; exact Nat.le_of_ble_eq_true rfl⟩) hP hD hS hA [0, 1, 2] [] rfl rfl (by decide +kernel) (by decide +kernel) (fun r_2 u9 H locs hw_2 hP hD hS => ?_)
  have hr_2 : r_2 = 1 := hw_2
  have hP : va_P (dC, dI) vwCl [(oo, Sum.inr (7, [Value.int osg, Value.int osm, Value.int ofc, Value.ref oca, Value.ref opa])), (oca, Sum.inl (cI, n, Sum.inl ocf)), (opa, Sum.inl (cI, opl, Sum.inl opf))] H := hP
  have hD : va_D A [(oo, Sum.inr (7, [Value.int osg, Value.int osm, Value.int ofc, Value.ref oca, Value.ref opa])), (oca, Sum.inl (cI, n, Sum.inl ocf)), (opa, Sum.inl (cI, opl, Sum.inl opf))] := hD
  refine lv_if_eq (tgt := 28) hx hb d_Odds_grow_5 (by decide) (fun c_1 => ?_) (fun c_1 => ?_)
  · exact absurd (hr_2.symm.trans c_1) (by decide)
  · refine lv_aload_n hx hb d_Odds_grow_8 rfl (lv_at hl 0 rfl) ?_
    refine va_get (D := (dC, dI)) (ci := 7) (v := .ref oca) (C := "RangeCoders$Odds") (T := T_Odds) (N := 5) hx hb hg in_Odds hown hK hP 0 rfl rfl 3 (by decide) (hg _ k309) (fun _ h9 => h9) rfl d_Odds_grow_9 ?_
    refine lv_iload_n hx hb d_Odds_grow_12 rfl (lv_at hl 1 rfl) ?_
    refine lv_dup2_11 hx hb d_Odds_grow_13 rfl rfl ?_
    refine va_iald hx hb hK hP 1 0 rfl rfl (vp_in_nI ht (by omega)) d_Odds_grow_14 ?_
    refine lv_topi (fun v_2 ev_2 => ?_)
    refine lv_iload_n hx hb d_Odds_grow_15 rfl (lv_at hl 2 rfl) ?_
    refine lv_iadd hx hb d_Odds_grow_16 ?_
    refine lv_topi (fun v_3 ev_3 => ?_)
    have z9 : v_3 = ocf t + vv := by subst_vars; rw [nI_clamp (by omega)]
    subst z9
    refine va_iast hx hb hK hP hD hS 1 0 rfl rfl (vp_in_nI ht (by omega)) d_Odds_grow_17 (fun H locs hP hD hS => ?_)
    have hP : va_P (dC, dI) vwCl [(oo, Sum.inr (7, [Value.int osg, Value.int osm, Value.int ofc, Value.ref oca, Value.ref opa])), (oca, Sum.inl (cI, n, Sum.inl (upd ocf (nI t).toNatClampNeg (ocf t + vv)))), (opa, Sum.inl (cI, opl, Sum.inl opf))] H := hP
    have hD : va_D A [(oo, Sum.inr (7, [Value.int osg, Value.int osm, Value.int ofc, Value.ref oca, Value.ref opa])), (oca, Sum.inl (cI, n, Sum.inl (upd ocf (nI t).toNatClampNeg (ocf t + vv)))), (opa, Sum.inl (cI, opl, Sum.inl opf))] := hD
    refine lv_aload_n hx hb d_Odds_grow_18 rfl (lv_at hl 0 rfl) ?_
    refine lv_dup hx hb d_Odds_grow_19 rfl ?_
    refine va_get (D := (dC, dI)) (ci := 7) (v := .int osm) (C := "RangeCoders$Odds") (T := T_Odds) (N := 5) hx hb hg in_Odds hown hK hP 0 rfl rfl 1 (by decide) (hg _ k305) (fun _ h9 => h9) rfl d_Odds_grow_20 ?_
    refine lv_iload_n hx hb d_Odds_grow_23 rfl (lv_at hl 2 rfl) ?_
    refine lv_iadd hx hb d_Odds_grow_24 ?_
    refine lv_topi (fun v_4 ev_4 => ?_)
    have z9 : v_4 = osm + vv := ev_4
    subst z9
    refine va_put (D := (dC, dI)) (ci := 7) (v := .int (osm + vv)) (ty := .int) (C := "RangeCoders$Odds") (T := T_Odds) (N := 5) hx hb hg in_Odds t_Odds o_Odds n_Odds hown hK hP hD hS 0 rfl rfl 1 (by decide) (hg _ k305) (fun _ h9 => h9) rfl (by decide +kernel) rfl rfl (Nat.le_of_ble_eq_true rfl) d_Odds_grow_25 (fun H locs hP hD hS => ?_)
    have hP : va_P (dC, dI) vwCl [(oo, Sum.inr (7, [Value.int osg, Value.int (osm + vv), Value.int ofc, Value.ref oca, Value.ref opa])), (oca, Sum.inl (cI, n, Sum.inl (upd ocf (nI t).toNatClampNeg (ocf t + vv)))), (opa, Sum.inl (cI, opl, Sum.inl opf))] H := hP
    have hD : va_D A [(oo, Sum.inr (7, [Value.int osg, Value.int (osm + vv), Value.int ofc, Value.ref oca, Value.ref opa])), (oca, Sum.inl (cI, n, Sum.inl (upd ocf (nI t).toNatClampNeg (ocf t + vv)))), (opa, Sum.inl (cI, opl, Sum.inl opf))] := hD
    exact my_vret hx hb hr hlocks hQ hK hS (Nat.le_refl _) (Nat.le_refl _) (upd ocf (nI t).toNatClampNeg (ocf t + vv)) (by rw [nI_clamp (by omega)]) (hP.sub [0, 1, 2] rfl) (hD.sub [0, 1, 2] (by decide +kernel) rfl) d_Odds_grow_28
set_option maxHeartbeats 2000000 in
set_option maxRecDepth 100000 in
theorem f_Odds_fill (l : Launch) (dC : Nat → ClassId) (dI : Nat → Nat → Nat) (cI cM cO : ClassId) (sz : Nat) (oo : Nat) (osg : Int32) (ofc : Int32) (oca : Nat) (opa : Nat) (n : Nat) (ocf : Nat → Int32) (opl : Nat) (opf : Nat → Int32) (osm : Int32) (vn : Nat) (hn : n ≤ 64) (hpl : opl ≤ 512) : MetV l y_Odds_fill (Cond.code y_Odds_fill prog_7_method_5_code 2 none :: gw) ({ frames := 1, cells := 0, slots := 0, locals := 23 } : Room) (dC, dI) vwCl (kT cI cM cO) [Value.ref oo, Value.int (nI vn)] [(oo, Sum.inr (7, [Value.int osg, Value.int osm, Value.int ofc, Value.ref oca, Value.ref opa])), (oca, Sum.inl (cI, n, Sum.inl ocf)), (opa, Sum.inl (cI, opl, Sum.inl opf))] sz (fun (u : (Nat → Int32)) => tbI u n (fun _ => vn)) (fun (u : (Nat → Int32)) => [(oo, Sum.inr (7, [Value.int osg, Value.int (nI (vn * n)), Value.int ofc, Value.ref oca, Value.ref opa])), (oca, Sum.inl (cI, n, Sum.inl u)), (opa, Sum.inl (cI, opl, Sum.inl opf))]) 0 0 := by
  refine my_ofV (cc := prog_7_method_5_code) (n := 2) (ret := none) (by decide) rfl (Nat.le_of_ble_eq_true rfl) ?_
  intro p e s m args below meth c R Q A ls H locs hx hb hr hts hown hlocks hml hnm hR hQ hA hl hP hK hN hD hS
  have hg : ∀ w ∈ gw, w.before args s = true := fun w h => hts w (List.mem_cons_of_mem _ h)
  have hown : s.vm.findClass "RangeCoders$Odds" = some m.cls := hown
  have hl : lv_has ls 2 [(0, Value.ref oo), (1, Value.int (nI vn))] := hl
  refine lv_aload_n hx hb d_Odds_fill_0 rfl (lv_at hl 0 rfl) ?_
  refine va_get (D := (dC, dI)) (ci := 7) (v := .ref oca) (C := "RangeCoders$Odds") (T := T_Odds) (N := 5) hx hb hg in_Odds hown hK hP 0 rfl rfl 3 (by decide) (hg _ k309) (fun _ h9 => h9) rfl d_Odds_fill_1 ?_
  refine lv_iload_n hx hb d_Odds_fill_4 rfl (lv_at hl 1 rfl) ?_
  refine my_cv (wr := [(oo, Sum.inr (7, [Value.int osg, Value.int osm, Value.int ofc, Value.ref oca, Value.ref opa])), (opa, Sum.inl (cI, opl, Sum.inl opf))]) (va_runS (As := [Value.ref oca, Value.int (nI vn)]) (rest := []) ⟨hx, hb, hml, hown, hts⟩ (f_Arrays_fill l dC dI cI cM cO H.size oca n ocf vn (by omega)) (my_cwS2 2 hts (my_gC k339) rfl rfl rfl (hg _ k15) (hg _ k363) (hg _ k338) (by decide +kernel) ⟨by rw [hR]; exact Nat.le_of_ble_eq_true rfl, by rw [hR]; exact Nat.le_of_ble_eq_true rfl⟩) (my_pre hK hN (hP.sub [1] rfl) (hD.sub [1] (by decide +kernel) rfl)) rfl rfl hl.1 rfl (lv_room (Nat.le_of_ble_eq_true rfl)) d_Odds_fill_5 ⟨by rw [hR]; exact Nat.le_of_ble_eq_true rfl, by rw [hR]; exact Nat.le_of_ble_eq_true rfl⟩) hP hD hS hA [1] [0, 2] rfl rfl (by decide +kernel) (by decide +kernel) (fun u9 H locs hw_5 hP hD hS => ?_)
  obtain ⟨afq_5, rfl⟩ : ∃ z, z = u9 := ⟨_, rfl⟩
  have hf_5 : tbI afq_5 n (fun _ => vn) := hw_5
  have hP : va_P (dC, dI) vwCl [(oo, Sum.inr (7, [Value.int osg, Value.int osm, Value.int ofc, Value.ref oca, Value.ref opa])), (opa, Sum.inl (cI, opl, Sum.inl opf)), (oca, Sum.inl (cI, n, Sum.inl afq_5))] H := hP
  have hD : va_D A [(oo, Sum.inr (7, [Value.int osg, Value.int osm, Value.int ofc, Value.ref oca, Value.ref opa])), (opa, Sum.inl (cI, opl, Sum.inl opf)), (oca, Sum.inl (cI, n, Sum.inl afq_5))] := hD
  refine lv_aload_n hx hb d_Odds_fill_8 rfl (lv_at hl 0 rfl) ?_
  refine lv_iload_n hx hb d_Odds_fill_9 rfl (lv_at hl 1 rfl) ?_
  refine lv_aload_n hx hb d_Odds_fill_10 rfl (lv_at hl 0 rfl) ?_
  refine va_get (D := (dC, dI)) (ci := 7) (v := .ref oca) (C := "RangeCoders$Odds") (T := T_Odds) (N := 5) hx hb hg in_Odds hown hK hP 0 rfl rfl 3 (by decide) (hg _ k309) (fun _ h9 => h9) rfl d_Odds_fill_11 ?_
  refine va_alen hx hb hK hP 2 0 rfl rfl (v := nI n) rfl d_Odds_fill_14 ?_
  refine lv_imul hx hb d_Odds_fill_15 ?_
  refine lv_topi (fun v_1 ev_1 => ?_)
  have z9 : v_1 = nI (vn * n) := by rw [ev_1]; exact pk_mul _ _
  subst z9
  refine va_put (D := (dC, dI)) (ci := 7) (v := .int (nI (vn * n))) (ty := .int) (C := "RangeCoders$Odds") (T := T_Odds) (N := 5) hx hb hg in_Odds t_Odds o_Odds n_Odds hown hK hP hD hS 0 rfl rfl 1 (by decide) (hg _ k305) (fun _ h9 => h9) rfl (by decide +kernel) rfl rfl (Nat.le_of_ble_eq_true rfl) d_Odds_fill_16 (fun H locs hP hD hS => ?_)
  have hP : va_P (dC, dI) vwCl [(oo, Sum.inr (7, [Value.int osg, Value.int (nI (vn * n)), Value.int ofc, Value.ref oca, Value.ref opa])), (opa, Sum.inl (cI, opl, Sum.inl opf)), (oca, Sum.inl (cI, n, Sum.inl afq_5))] H := hP
  have hD : va_D A [(oo, Sum.inr (7, [Value.int osg, Value.int (nI (vn * n)), Value.int ofc, Value.ref oca, Value.ref opa])), (opa, Sum.inl (cI, opl, Sum.inl opf)), (oca, Sum.inl (cI, n, Sum.inl afq_5))] := hD
  exact my_vret hx hb hr hlocks hQ hK hS (Nat.le_refl _) (Nat.le_refl _) (afq_5) (hf_5) (hP.sub [0, 2, 1] rfl) (hD.sub [0, 2, 1] (by decide +kernel) rfl) d_Odds_fill_19
set_option maxHeartbeats 2000000 in
set_option maxRecDepth 100000 in
theorem f_Odds_copyCounts (l : Launch) (dC : Nat → ClassId) (dI : Nat → Nat → Nat) (cI cM cO : ClassId) (sz : Nat) (oo : Nat) (osg : Int32) (ofc : Int32) (oca : Nat) (opa : Nat) (n : Nat) (ocf : Nat → Int32) (opl : Nat) (opf : Nat → Int32) (osm : Int32) (ka : Nat) (kf : Nat → Int32) (C : Nat → Nat) (hn : n ≤ 64) (hpl : opl ≤ 512) (hk : tbI kf n C) (hB : bd C n 4095) : MetV l y_Odds_copyCounts (Cond.code y_Odds_copyCounts prog_7_method_15_code 3 none :: gw) ({ frames := 0, cells := 0, slots := 0, locals := 0 } : Room) (dC, dI) vwCl (kT cI cM cO) [Value.ref oo, Value.ref ka] [(oo, Sum.inr (7, [Value.int osg, Value.int osm, Value.int ofc, Value.ref oca, Value.ref opa])), (oca, Sum.inl (cI, n, Sum.inl ocf)), (opa, Sum.inl (cI, opl, Sum.inl opf)), (ka, Sum.inl (cI, n, Sum.inl kf))] sz (fun (u : (Nat → Int32)) => tbI u n C) (fun (u : (Nat → Int32)) => [(oo, Sum.inr (7, [Value.int osg, Value.int (nI (ns C n)), Value.int ofc, Value.ref oca, Value.ref opa])), (oca, Sum.inl (cI, n, Sum.inl u)), (opa, Sum.inl (cI, opl, Sum.inl opf)), (ka, Sum.inl (cI, n, Sum.inl kf))]) 0 0 := by
  refine my_ofV (cc := prog_7_method_15_code) (n := 3) (ret := none) (by decide) rfl (Nat.le_of_ble_eq_true rfl) ?_
  intro p e s m args below meth c R Q A ls H locs hx hb hr hts hown hlocks hml hnm hR hQ hA hl hP hK hN hD hS
  have hg : ∀ w ∈ gw, w.before args s = true := fun w h => hts w (List.mem_cons_of_mem _ h)
  have hown : s.vm.findClass "RangeCoders$Odds" = some m.cls := hown
  have hl : lv_has ls 3 [(0, Value.ref oo), (1, Value.ref ka)] := hl
  refine lv_aload_n hx hb d_Odds_copyCounts_0 rfl (lv_at hl 0 rfl) ?_
  refine lv_iconst (v := 0) hx hb d_Odds_copyCounts_1 (by decide) ?_
  refine va_put (D := (dC, dI)) (ci := 7) (v := .int 0) (ty := .int) (C := "RangeCoders$Odds") (T := T_Odds) (N := 5) hx hb hg in_Odds t_Odds o_Odds n_Odds hown hK hP hD hS 0 rfl rfl 1 (by decide) (hg _ k305) (fun _ h9 => h9) rfl (by decide +kernel) rfl rfl (Nat.le_of_ble_eq_true rfl) d_Odds_copyCounts_2 (fun H locs hP hD hS => ?_)
  have hP : va_P (dC, dI) vwCl [(oo, Sum.inr (7, [Value.int osg, Value.int 0, Value.int ofc, Value.ref oca, Value.ref opa])), (oca, Sum.inl (cI, n, Sum.inl ocf)), (opa, Sum.inl (cI, opl, Sum.inl opf)), (ka, Sum.inl (cI, n, Sum.inl kf))] H := hP
  have hD : va_D A [(oo, Sum.inr (7, [Value.int osg, Value.int 0, Value.int ofc, Value.ref oca, Value.ref opa])), (oca, Sum.inl (cI, n, Sum.inl ocf)), (opa, Sum.inl (cI, opl, Sum.inl opf)), (ka, Sum.inl (cI, n, Sum.inl kf))] := hD
  refine lv_iconst (v := 0) hx hb d_Odds_copyCounts_5 (by decide) ?_
  refine lv_istore_n (lv' := [(2, Value.int 0), (0, Value.ref oo), (1, Value.ref ka)]) hx hb d_Odds_copyCounts_6 rfl hl (by decide) rfl (fun ls hl => ?_)
  have J_7 : ∀ (n9_7 : Nat) (j : Nat) (fL : Nat → Int32) (hn9_7 : n - j = n9_7) (hj : j ≤ n) (hL : tbI fL j C) (H : Heap) (locs : List Loc) (ls : Array Slot), va_P (dC, dI) vwCl [(oo, Sum.inr (7, [Value.int osg, Value.int (nI (ns C j)), Value.int ofc, Value.ref oca, Value.ref opa])), (oca, Sum.inl (cI, n, Sum.inl fL)), (opa, Sum.inl (cI, opl, Sum.inl opf)), (ka, Sum.inl (cI, n, Sum.inl kf))] H → va_D A [(oo, Sum.inr (7, [Value.int osg, Value.int (nI (ns C j)), Value.int ofc, Value.ref oca, Value.ref opa])), (oca, Sum.inl (cI, n, Sum.inl fL)), (opa, Sum.inl (cI, opl, Sum.inl opf)), (ka, Sum.inl (cI, n, Sum.inl kf))] → va_S A s.heap H locs → lv_has ls 3 [(2, Value.int (nI j)), (0, Value.ref oo), (1, Value.ref ka)] → W p l e R s m args below meth c H locs 0 0 Q (F0 m 7 ls []) := by
    intro n9_7
    induction n9_7 using Nat.strongRecOn with
    | ind n9_7 ih9_7 =>
      intro j fL hn9_7 hj hL H locs ls hP hD hS hl
      refine lv_iload_n hx hb d_Odds_copyCounts_7 rfl (lv_at hl 0 rfl) ?_
      refine lv_aload_n hx hb d_Odds_copyCounts_8 rfl (lv_at hl 1 rfl) ?_
      refine va_get (D := (dC, dI)) (ci := 7) (v := .ref oca) (C := "RangeCoders$Odds") (T := T_Odds) (N := 5) hx hb hg in_Odds hown hK hP 0 rfl rfl 3 (by decide) (hg _ k309) (fun _ h9 => h9) rfl d_Odds_copyCounts_9 ?_
      refine va_alen hx hb hK hP 1 0 rfl rfl (v := nI n) rfl d_Odds_copyCounts_12 ?_
      refine lv_icmp_ge (tgt := 49) hx hb d_Odds_copyCounts_13 (by decide) (fun c_1 => ?_) (fun c_1 => ?_)
      · have hj3 : n = j := by have := nI_ge' (by omega) (by omega) c_1; omega
        subst hj3
        have hP : va_P (dC, dI) vwCl [(oo, Sum.inr (7, [Value.int osg, Value.int (nI (ns C n)), Value.int ofc, Value.ref oca, Value.ref opa])), (oca, Sum.inl (cI, n, Sum.inl fL)), (opa, Sum.inl (cI, opl, Sum.inl opf)), (ka, Sum.inl (cI, n, Sum.inl kf))] H := hP
        have hD : va_D A [(oo, Sum.inr (7, [Value.int osg, Value.int (nI (ns C n)), Value.int ofc, Value.ref oca, Value.ref opa])), (oca, Sum.inl (cI, n, Sum.inl fL)), (opa, Sum.inl (cI, opl, Sum.inl opf)), (ka, Sum.inl (cI, n, Sum.inl kf))] := hD
        exact my_vret hx hb hr hlocks hQ hK hS (Nat.le_refl _) (Nat.le_refl _) (fL) (hL) (hP.sub [0, 1, 2, 3] rfl) (hD.sub [0, 1, 2, 3] (by decide +kernel) rfl) d_Odds_copyCounts_49
      · have hj2 : j < n := nI_lt' (by omega) c_1
        refine lv_iload_n hx hb d_Odds_copyCounts_16 rfl (lv_at hl 0 rfl) ?_
        refine lv_aload_n hx hb d_Odds_copyCounts_17 rfl (lv_at hl 2 rfl) ?_
        refine va_alen hx hb hK hP 3 0 rfl rfl (v := nI n) rfl d_Odds_copyCounts_18 ?_
        refine lv_icmp_ge (tgt := 49) hx hb d_Odds_copyCounts_19 (by decide) (fun c_2 => ?_) (fun c_2 => ?_)
        · exact absurd c_2 (nI_ge hj2 (by omega))
        · refine lv_aload_n hx hb d_Odds_copyCounts_22 rfl (lv_at hl 1 rfl) ?_
          refine va_get (D := (dC, dI)) (ci := 7) (v := .ref oca) (C := "RangeCoders$Odds") (T := T_Odds) (N := 5) hx hb hg in_Odds hown hK hP 0 rfl rfl 3 (by decide) (hg _ k309) (fun _ h9 => h9) rfl d_Odds_copyCounts_23 ?_
          refine lv_iload_n hx hb d_Odds_copyCounts_26 rfl (lv_at hl 0 rfl) ?_
          refine lv_aload_n hx hb d_Odds_copyCounts_27 rfl (lv_at hl 2 rfl) ?_
          refine lv_iload_n hx hb d_Odds_copyCounts_28 rfl (lv_at hl 0 rfl) ?_
          refine va_iald hx hb hK hP 3 0 rfl rfl (vp_in_nI hj2 (by omega)) d_Odds_copyCounts_29 ?_
          refine lv_topi (fun v_3 ev_3 => ?_)
          refine va_iast hx hb hK hP hD hS 1 0 rfl rfl (vp_in_nI hj2 (by omega)) d_Odds_copyCounts_30 (fun H locs hP hD hS => ?_)
          have hP : va_P (dC, dI) vwCl [(oo, Sum.inr (7, [Value.int osg, Value.int (nI (ns C j)), Value.int ofc, Value.ref oca, Value.ref opa])), (oca, Sum.inl (cI, n, Sum.inl (upd fL (nI j).toNatClampNeg v_3))), (opa, Sum.inl (cI, opl, Sum.inl opf)), (ka, Sum.inl (cI, n, Sum.inl kf))] H := hP
          have hD : va_D A [(oo, Sum.inr (7, [Value.int osg, Value.int (nI (ns C j)), Value.int ofc, Value.ref oca, Value.ref opa])), (oca, Sum.inl (cI, n, Sum.inl (upd fL (nI j).toNatClampNeg v_3))), (opa, Sum.inl (cI, opl, Sum.inl opf)), (ka, Sum.inl (cI, n, Sum.inl kf))] := hD
          have hL8 : tbI (upd fL (nI j).toNatClampNeg v_3) (j + 1) C := tb_add hL (nI_clamp (by omega)) (by subst_vars; exact tb_rd hk hj2 (by omega))
          refine lv_aload_n hx hb d_Odds_copyCounts_31 rfl (lv_at hl 1 rfl) ?_
          refine lv_dup hx hb d_Odds_copyCounts_32 rfl ?_
          refine va_get (D := (dC, dI)) (ci := 7) (v := .int (nI (ns C j))) (C := "RangeCoders$Odds") (T := T_Odds) (N := 5) hx hb hg in_Odds hown hK hP 0 rfl rfl 1 (by decide) (hg _ k305) (fun _ h9 => h9) rfl d_Odds_copyCounts_33 ?_
          refine lv_aload_n hx hb d_Odds_copyCounts_36 rfl (lv_at hl 2 rfl) ?_
          refine lv_iload_n hx hb d_Odds_copyCounts_37 rfl (lv_at hl 0 rfl) ?_
          refine va_iald hx hb hK hP 3 0 rfl rfl (vp_in_nI hj2 (by omega)) d_Odds_copyCounts_38 ?_
          refine lv_topi (fun v_4 ev_4 => ?_)
          refine lv_iadd hx hb d_Odds_copyCounts_39 ?_
          refine lv_topi (fun v_5 ev_5 => ?_)
          have z9 : v_5 = nI (ns C (j + 1)) := by subst_vars; rw [tb_rd hk hj2 (by omega), nI_add]; rfl
          subst z9
          refine va_put (D := (dC, dI)) (ci := 7) (v := .int (nI (ns C (j + 1)))) (ty := .int) (C := "RangeCoders$Odds") (T := T_Odds) (N := 5) hx hb hg in_Odds t_Odds o_Odds n_Odds hown hK hP hD hS 0 rfl rfl 1 (by decide) (hg _ k305) (fun _ h9 => h9) rfl (by decide +kernel) rfl rfl (Nat.le_of_ble_eq_true rfl) d_Odds_copyCounts_40 (fun H locs hP hD hS => ?_)
          have hP : va_P (dC, dI) vwCl [(oo, Sum.inr (7, [Value.int osg, Value.int (nI (ns C (j + 1))), Value.int ofc, Value.ref oca, Value.ref opa])), (oca, Sum.inl (cI, n, Sum.inl (upd fL (nI j).toNatClampNeg v_3))), (opa, Sum.inl (cI, opl, Sum.inl opf)), (ka, Sum.inl (cI, n, Sum.inl kf))] H := hP
          have hD : va_D A [(oo, Sum.inr (7, [Value.int osg, Value.int (nI (ns C (j + 1))), Value.int ofc, Value.ref oca, Value.ref opa])), (oca, Sum.inl (cI, n, Sum.inl (upd fL (nI j).toNatClampNeg v_3))), (opa, Sum.inl (cI, opl, Sum.inl opf)), (ka, Sum.inl (cI, n, Sum.inl kf))] := hD
          obtain ⟨v_6, ev_6⟩ : ∃ y : Int32, y = (nI j) + (1) := ⟨_, rfl⟩
          refine lv_iinc (v := v_6) (lv' := [(2, Value.int v_6), (0, Value.ref oo), (1, Value.ref ka)]) hx hb d_Odds_copyCounts_43 hl (k := 0) rfl (by rw [ev_6]; rfl) (by decide) rfl (fun ls hl => ?_)
          have z9 : v_6 = nI (j + 1) := by rw [ev_6]; exact nI_1 _
          subst z9
          refine lv_goto (tgt := 7) hx hb d_Odds_copyCounts_46 (by decide) ?_
          exact ih9_7 _ (by first | omega | (omega)) (j + 1) (upd fL (nI j).toNatClampNeg v_3) rfl (by omega) (hL8) H locs ls (hP.sub [0, 1, 2, 3] rfl) (hD.sub [0, 1, 2, 3] (by decide +kernel) rfl) hS (lv_sub hl [0, 1, 2] rfl)
  exact J_7 _ (0 : Nat) ocf rfl (Nat.zero_le _) (tbI_0 _ _) H locs ls (hP.sub [0, 1, 2, 3] rfl) (hD.sub [0, 1, 2, 3] (by decide +kernel) rfl) hS (lv_sub hl [0, 1, 2] rfl)
set_option maxHeartbeats 2000000 in
set_option maxRecDepth 100000 in
theorem f_Odds_halve (l : Launch) (dC : Nat → ClassId) (dI : Nat → Nat → Nat) (cI cM cO : ClassId) (sz : Nat) (oo : Nat) (osg : Int32) (ofc : Int32) (oca : Nat) (opa : Nat) (n : Nat) (ocf : Nat → Int32) (opl : Nat) (opf : Nat → Int32) (F : Nat → Nat) (osm : Int32) (hn : n ≤ 64) (hpl : opl ≤ 512) (hf : tbI ocf n F) (hB : bd F n 1000000) : MetV l y_Odds_halve (Cond.code y_Odds_halve prog_7_method_16_code 2 none :: gw) ({ frames := 0, cells := 0, slots := 0, locals := 0 } : Room) (dC, dI) vwCl (kT cI cM cO) [Value.ref oo] [(oo, Sum.inr (7, [Value.int osg, Value.int osm, Value.int ofc, Value.ref oca, Value.ref opa])), (oca, Sum.inl (cI, n, Sum.inl ocf)), (opa, Sum.inl (cI, opl, Sum.inl opf))] sz (fun (u : (Nat → Int32)) => tbI u n (hv F)) (fun (u : (Nat → Int32)) => [(oo, Sum.inr (7, [Value.int osg, Value.int (nI (ns (hv F) n)), Value.int ofc, Value.ref oca, Value.ref opa])), (oca, Sum.inl (cI, n, Sum.inl u)), (opa, Sum.inl (cI, opl, Sum.inl opf))]) 0 0 := by
  refine my_ofV (cc := prog_7_method_16_code) (n := 2) (ret := none) (by decide) rfl (Nat.le_of_ble_eq_true rfl) ?_
  intro p e s m args below meth c R Q A ls H locs hx hb hr hts hown hlocks hml hnm hR hQ hA hl hP hK hN hD hS
  have hg : ∀ w ∈ gw, w.before args s = true := fun w h => hts w (List.mem_cons_of_mem _ h)
  have hown : s.vm.findClass "RangeCoders$Odds" = some m.cls := hown
  have hl : lv_has ls 2 [(0, Value.ref oo)] := hl
  refine lv_aload_n hx hb d_Odds_halve_0 rfl (lv_at hl 0 rfl) ?_
  refine lv_iconst (v := 0) hx hb d_Odds_halve_1 (by decide) ?_
  refine va_put (D := (dC, dI)) (ci := 7) (v := .int 0) (ty := .int) (C := "RangeCoders$Odds") (T := T_Odds) (N := 5) hx hb hg in_Odds t_Odds o_Odds n_Odds hown hK hP hD hS 0 rfl rfl 1 (by decide) (hg _ k305) (fun _ h9 => h9) rfl (by decide +kernel) rfl rfl (Nat.le_of_ble_eq_true rfl) d_Odds_halve_2 (fun H locs hP hD hS => ?_)
  have hP : va_P (dC, dI) vwCl [(oo, Sum.inr (7, [Value.int osg, Value.int 0, Value.int ofc, Value.ref oca, Value.ref opa])), (oca, Sum.inl (cI, n, Sum.inl ocf)), (opa, Sum.inl (cI, opl, Sum.inl opf))] H := hP
  have hD : va_D A [(oo, Sum.inr (7, [Value.int osg, Value.int 0, Value.int ofc, Value.ref oca, Value.ref opa])), (oca, Sum.inl (cI, n, Sum.inl ocf)), (opa, Sum.inl (cI, opl, Sum.inl opf))] := hD
  refine lv_iconst (v := 0) hx hb d_Odds_halve_5 (by decide) ?_
  refine lv_istore_n (lv' := [(1, Value.int 0), (0, Value.ref oo)]) hx hb d_Odds_halve_6 rfl hl (by decide) rfl (fun ls hl => ?_)
  have J_7 : ∀ (n9_7 : Nat) (j : Nat) (fL : Nat → Int32) (hn9_7 : n - j = n9_7) (hj : j ≤ n) (hL : tbL fL n j (hv F) F) (H : Heap) (locs : List Loc) (ls : Array Slot), va_P (dC, dI) vwCl [(oo, Sum.inr (7, [Value.int osg, Value.int (nI (ns (hv F) j)), Value.int ofc, Value.ref oca, Value.ref opa])), (oca, Sum.inl (cI, n, Sum.inl fL)), (opa, Sum.inl (cI, opl, Sum.inl opf))] H → va_D A [(oo, Sum.inr (7, [Value.int osg, Value.int (nI (ns (hv F) j)), Value.int ofc, Value.ref oca, Value.ref opa])), (oca, Sum.inl (cI, n, Sum.inl fL)), (opa, Sum.inl (cI, opl, Sum.inl opf))] → va_S A s.heap H locs → lv_has ls 2 [(1, Value.int (nI j)), (0, Value.ref oo)] → W p l e R s m args below meth c H locs 0 0 Q (F0 m 7 ls []) := by
    intro n9_7
    induction n9_7 using Nat.strongRecOn with
    | ind n9_7 ih9_7 =>
      intro j fL hn9_7 hj hL H locs ls hP hD hS hl
      refine lv_iload_n hx hb d_Odds_halve_7 rfl (lv_at hl 0 rfl) ?_
      refine lv_aload_n hx hb d_Odds_halve_8 rfl (lv_at hl 1 rfl) ?_
      refine va_get (D := (dC, dI)) (ci := 7) (v := .ref oca) (C := "RangeCoders$Odds") (T := T_Odds) (N := 5) hx hb hg in_Odds hown hK hP 0 rfl rfl 3 (by decide) (hg _ k309) (fun _ h9 => h9) rfl d_Odds_halve_9 ?_
      refine va_alen hx hb hK hP 1 0 rfl rfl (v := nI n) rfl d_Odds_halve_12 ?_
      refine lv_icmp_ge (tgt := 53) hx hb d_Odds_halve_13 (by decide) (fun c_1 => ?_) (fun c_1 => ?_)
      · have hj3 : n = j := by have := nI_ge' (by omega) (by omega) c_1; omega
        subst hj3
        have hP : va_P (dC, dI) vwCl [(oo, Sum.inr (7, [Value.int osg, Value.int (nI (ns (hv F) n)), Value.int ofc, Value.ref oca, Value.ref opa])), (oca, Sum.inl (cI, n, Sum.inl fL)), (opa, Sum.inl (cI, opl, Sum.inl opf))] H := hP
        have hD : va_D A [(oo, Sum.inr (7, [Value.int osg, Value.int (nI (ns (hv F) n)), Value.int ofc, Value.ref oca, Value.ref opa])), (oca, Sum.inl (cI, n, Sum.inl fL)), (opa, Sum.inl (cI, opl, Sum.inl opf))] := hD
        exact my_vret hx hb hr hlocks hQ hK hS (Nat.le_refl _) (Nat.le_refl _) (fL) (hL.1) (hP.sub [0, 1, 2] rfl) (hD.sub [0, 1, 2] (by decide +kernel) rfl) d_Odds_halve_53
      · have hj2 : j < n := nI_lt' (by omega) c_1
        have hb9 := hB j hj2
        refine lv_aload_n hx hb d_Odds_halve_16 rfl (lv_at hl 1 rfl) ?_
        refine va_get (D := (dC, dI)) (ci := 7) (v := .ref oca) (C := "RangeCoders$Odds") (T := T_Odds) (N := 5) hx hb hg in_Odds hown hK hP 0 rfl rfl 3 (by decide) (hg _ k309) (fun _ h9 => h9) rfl d_Odds_halve_17 ?_
        refine lv_iload_n hx hb d_Odds_halve_20 rfl (lv_at hl 0 rfl) ?_
        refine lv_aload_n hx hb d_Odds_halve_21 rfl (lv_at hl 1 rfl) ?_
        refine va_get (D := (dC, dI)) (ci := 7) (v := .ref oca) (C := "RangeCoders$Odds") (T := T_Odds) (N := 5) hx hb hg in_Odds hown hK hP 0 rfl rfl 3 (by decide) (hg _ k309) (fun _ h9 => h9) rfl d_Odds_halve_22 ?_
        refine lv_iload_n hx hb d_Odds_halve_25 rfl (lv_at hl 0 rfl) ?_
        refine va_iald hx hb hK hP 1 0 rfl rfl (vp_in_nI hj2 (by omega)) d_Odds_halve_26 ?_
        refine lv_topi (fun v_2 ev_2 => ?_)
        refine lv_iconst (v := 1) hx hb d_Odds_halve_27 (by decide) ?_
        refine lv_iadd hx hb d_Odds_halve_28 ?_
        refine lv_topi (fun v_3 ev_3 => ?_)
        refine lv_iconst (v := 2) hx hb d_Odds_halve_29 (by decide) ?_
        refine lv_idiv hx hb d_Odds_halve_30 (by decide) ?_
        refine lv_topi (fun v_4 ev_4 => ?_)
        have hval : v_4 = nI (hv F j) := by
          subst_vars
          rw [tb_rd2 hL hj2 (by omega)]
          exact (congrArg (· / (2 : Int32)) (nI_1 (F j))).trans (pk_div (d := 2) (by omega) (by decide) (by decide))
        refine va_iast hx hb hK hP hD hS 1 0 rfl rfl (vp_in_nI hj2 (by omega)) d_Odds_halve_31 (fun H locs hP hD hS => ?_)
        have hP : va_P (dC, dI) vwCl [(oo, Sum.inr (7, [Value.int osg, Value.int (nI (ns (hv F) j)), Value.int ofc, Value.ref oca, Value.ref opa])), (oca, Sum.inl (cI, n, Sum.inl (upd fL (nI j).toNatClampNeg v_4))), (opa, Sum.inl (cI, opl, Sum.inl opf))] H := hP
        have hD : va_D A [(oo, Sum.inr (7, [Value.int osg, Value.int (nI (ns (hv F) j)), Value.int ofc, Value.ref oca, Value.ref opa])), (oca, Sum.inl (cI, n, Sum.inl (upd fL (nI j).toNatClampNeg v_4))), (opa, Sum.inl (cI, opl, Sum.inl opf))] := hD
        have hL8 : tbL (upd fL (nI j).toNatClampNeg v_4) n (j + 1) (hv F) F := tbL_st hL (nI_clamp (by omega)) hval
        refine lv_aload_n hx hb d_Odds_halve_32 rfl (lv_at hl 1 rfl) ?_
        refine lv_dup hx hb d_Odds_halve_33 rfl ?_
        refine va_get (D := (dC, dI)) (ci := 7) (v := .int (nI (ns (hv F) j))) (C := "RangeCoders$Odds") (T := T_Odds) (N := 5) hx hb hg in_Odds hown hK hP 0 rfl rfl 1 (by decide) (hg _ k305) (fun _ h9 => h9) rfl d_Odds_halve_34 ?_
        refine lv_aload_n hx hb d_Odds_halve_37 rfl (lv_at hl 1 rfl) ?_
        refine va_get (D := (dC, dI)) (ci := 7) (v := .ref oca) (C := "RangeCoders$Odds") (T := T_Odds) (N := 5) hx hb hg in_Odds hown hK hP 0 rfl rfl 3 (by decide) (hg _ k309) (fun _ h9 => h9) rfl d_Odds_halve_38 ?_
        refine lv_iload_n hx hb d_Odds_halve_41 rfl (lv_at hl 0 rfl) ?_
        refine va_iald hx hb hK hP 1 0 rfl rfl (vp_in_nI hj2 (by omega)) d_Odds_halve_42 ?_
        refine lv_topi (fun v_5 ev_5 => ?_)
        have z9 : v_5 = nI (hv F j) := by rw [ev_5]; exact tb_rd hL8.1 (Nat.lt_succ_self _) (by omega)
        subst z9
        refine lv_iadd hx hb d_Odds_halve_43 ?_
        refine lv_topi (fun v_6 ev_6 => ?_)
        have z9 : v_6 = nI (ns (hv F) (j + 1)) := by rw [ev_6]; exact nI_add _ _
        subst z9
        refine va_put (D := (dC, dI)) (ci := 7) (v := .int (nI (ns (hv F) (j + 1)))) (ty := .int) (C := "RangeCoders$Odds") (T := T_Odds) (N := 5) hx hb hg in_Odds t_Odds o_Odds n_Odds hown hK hP hD hS 0 rfl rfl 1 (by decide) (hg _ k305) (fun _ h9 => h9) rfl (by decide +kernel) rfl rfl (Nat.le_of_ble_eq_true rfl) d_Odds_halve_44 (fun H locs hP hD hS => ?_)
        have hP : va_P (dC, dI) vwCl [(oo, Sum.inr (7, [Value.int osg, Value.int (nI (ns (hv F) (j + 1))), Value.int ofc, Value.ref oca, Value.ref opa])), (oca, Sum.inl (cI, n, Sum.inl (upd fL (nI j).toNatClampNeg v_4))), (opa, Sum.inl (cI, opl, Sum.inl opf))] H := hP
        have hD : va_D A [(oo, Sum.inr (7, [Value.int osg, Value.int (nI (ns (hv F) (j + 1))), Value.int ofc, Value.ref oca, Value.ref opa])), (oca, Sum.inl (cI, n, Sum.inl (upd fL (nI j).toNatClampNeg v_4))), (opa, Sum.inl (cI, opl, Sum.inl opf))] := hD
        obtain ⟨v_7, ev_7⟩ : ∃ y : Int32, y = (nI j) + (1) := ⟨_, rfl⟩
        refine lv_iinc (v := v_7) (lv' := [(1, Value.int v_7), (0, Value.ref oo)]) hx hb d_Odds_halve_47 hl (k := 0) rfl (by rw [ev_7]; rfl) (by decide) rfl (fun ls hl => ?_)
        have z9 : v_7 = nI (j + 1) := by rw [ev_7]; exact nI_1 _
        subst z9
        refine lv_goto (tgt := 7) hx hb d_Odds_halve_50 (by decide) ?_
        exact ih9_7 _ (by first | omega | (omega)) (j + 1) (upd fL (nI j).toNatClampNeg v_4) rfl (by omega) (hL8) H locs ls (hP.sub [0, 1, 2] rfl) (hD.sub [0, 1, 2] (by decide +kernel) rfl) hS (lv_sub hl [0, 1] rfl)
  exact J_7 _ (0 : Nat) ocf rfl (Nat.zero_le _) (tbL_0 hf) H locs ls (hP.sub [0, 1, 2] rfl) (hD.sub [0, 1, 2] (by decide +kernel) rfl) hS (lv_sub hl [0, 1] rfl)
set_option maxHeartbeats 2000000 in
set_option maxRecDepth 100000 in
theorem f_Odds_below (l : Launch) (dC : Nat → ClassId) (dI : Nat → Nat → Nat) (cI cM cO : ClassId) (sz : Nat) (oo : Nat) (osg : Int32) (ofc : Int32) (oca : Nat) (opa : Nat) (n : Nat) (ocf : Nat → Int32) (opl : Nat) (opf : Nat → Int32) (F : Nat → Nat) (osm : Int32) (t : Nat) (hn : n ≤ 64) (hpl : opl ≤ 512) (hf : tbI ocf n F) (ht : t ≤ n) : MetI l y_Odds_below (Cond.code y_Odds_below prog_7_method_8_code 4 (some .int) :: gw) ({ frames := 0, cells := 0, slots := 0, locals := 0 } : Room) (dC, dI) vwCl (kT cI cM cO) [Value.ref oo, Value.int (nI t)] [(oo, Sum.inr (7, [Value.int osg, Value.int osm, Value.int ofc, Value.ref oca, Value.ref opa])), (oca, Sum.inl (cI, n, Sum.inl ocf)), (opa, Sum.inl (cI, opl, Sum.inl opf))] sz (fun (r : Int32) (u : Unit) => r = nI (ns F t)) (fun (u : Unit) => [(oo, Sum.inr (7, [Value.int osg, Value.int osm, Value.int ofc, Value.ref oca, Value.ref opa])), (oca, Sum.inl (cI, n, Sum.inl ocf)), (opa, Sum.inl (cI, opl, Sum.inl opf))]) 0 0 := by
  refine my_ofI (cc := prog_7_method_8_code) (n := 4) (ret := (some .int)) (by decide) rfl (Nat.le_of_ble_eq_true rfl) ?_
  intro p e s m args below meth c R Q A ls H locs hx hb hr hts hown hlocks hml hnm hR hQ hA hl hP hK hN hD hS
  have hg : ∀ w ∈ gw, w.before args s = true := fun w h => hts w (List.mem_cons_of_mem _ h)
  have hown : s.vm.findClass "RangeCoders$Odds" = some m.cls := hown
  have hl : lv_has ls 4 [(0, Value.ref oo), (1, Value.int (nI t))] := hl
  refine lv_iconst (v := 0) hx hb d_Odds_below_0 (by decide) ?_
  refine lv_istore_n (lv' := [(2, Value.int 0), (0, Value.ref oo), (1, Value.int (nI t))]) hx hb d_Odds_below_1 rfl hl (by decide) rfl (fun ls hl => ?_)
  refine lv_iconst (v := 0) hx hb d_Odds_below_2 (by decide) ?_
  refine lv_istore_n (lv' := [(3, Value.int 0), (2, Value.int 0), (0, Value.ref oo), (1, Value.int (nI t))]) hx hb d_Odds_below_3 rfl hl (by decide) rfl (fun ls hl => ?_)
  have J_4 : ∀ (n9_4 : Nat) (j : Nat) (hn9_4 : t - j = n9_4) (hj : j ≤ t) (H : Heap) (locs : List Loc) (ls : Array Slot), va_P (dC, dI) vwCl [(oo, Sum.inr (7, [Value.int osg, Value.int osm, Value.int ofc, Value.ref oca, Value.ref opa])), (oca, Sum.inl (cI, n, Sum.inl ocf)), (opa, Sum.inl (cI, opl, Sum.inl opf))] H → va_D A [(oo, Sum.inr (7, [Value.int osg, Value.int osm, Value.int ofc, Value.ref oca, Value.ref opa])), (oca, Sum.inl (cI, n, Sum.inl ocf)), (opa, Sum.inl (cI, opl, Sum.inl opf))] → va_S A s.heap H locs → lv_has ls 4 [(3, Value.int (nI j)), (2, Value.int (nI (ns F j))), (0, Value.ref oo), (1, Value.int (nI t))] → W p l e R s m args below meth c H locs 0 0 Q (F0 m 4 ls []) := by
    intro n9_4
    induction n9_4 using Nat.strongRecOn with
    | ind n9_4 ih9_4 =>
      intro j hn9_4 hj H locs ls hP hD hS hl
      refine lv_iload_n hx hb d_Odds_below_4 rfl (lv_at hl 0 rfl) ?_
      refine lv_iload_n hx hb d_Odds_below_5 rfl (lv_at hl 3 rfl) ?_
      refine lv_icmp_ge (tgt := 33) hx hb d_Odds_below_6 (by decide) (fun c_1 => ?_) (fun c_1 => ?_)
      · have hj3 : j = t := by have := nI_ge' (by omega) (by omega) c_1; omega
        refine lv_iload_n hx hb d_Odds_below_33 rfl (lv_at hl 1 rfl) ?_
        exact my_iret (v := nI (ns F j)) hx hb hr (rfl) hlocks hQ hK hS (Nat.le_refl _) (Nat.le_refl _) () (by rw [hj3]) (hP.sub [0, 1, 2] rfl) (hD.sub [0, 1, 2] (by decide +kernel) rfl) d_Odds_below_34
      · have hj2 : j < t := nI_lt' (by omega) c_1
        refine lv_iload_n hx hb d_Odds_below_9 rfl (lv_at hl 0 rfl) ?_
        refine lv_aload_n hx hb d_Odds_below_10 rfl (lv_at hl 2 rfl) ?_
        refine va_get (D := (dC, dI)) (ci := 7) (v := .ref oca) (C := "RangeCoders$Odds") (T := T_Odds) (N := 5) hx hb hg in_Odds hown hK hP 0 rfl rfl 3 (by decide) (hg _ k309) (fun _ h9 => h9) rfl d_Odds_below_11 ?_
        refine va_alen hx hb hK hP 1 0 rfl rfl (v := nI n) rfl d_Odds_below_14 ?_
        refine lv_icmp_ge (tgt := 33) hx hb d_Odds_below_15 (by decide) (fun c_2 => ?_) (fun c_2 => ?_)
        · exact absurd c_2 (nI_ge (show j < n by omega) (by omega))
        · refine lv_iload_n hx hb d_Odds_below_18 rfl (lv_at hl 1 rfl) ?_
          refine lv_aload_n hx hb d_Odds_below_19 rfl (lv_at hl 2 rfl) ?_
          refine va_get (D := (dC, dI)) (ci := 7) (v := .ref oca) (C := "RangeCoders$Odds") (T := T_Odds) (N := 5) hx hb hg in_Odds hown hK hP 0 rfl rfl 3 (by decide) (hg _ k309) (fun _ h9 => h9) rfl d_Odds_below_20 ?_
          refine lv_iload_n hx hb d_Odds_below_23 rfl (lv_at hl 0 rfl) ?_
          refine va_iald hx hb hK hP 1 0 rfl rfl (vp_in_nI (by omega) (by omega)) d_Odds_below_24 ?_
          refine lv_topi (fun v_3 ev_3 => ?_)
          refine lv_iadd hx hb d_Odds_below_25 ?_
          refine lv_topi (fun v_4 ev_4 => ?_)
          have z9 : v_4 = nI (ns F (j + 1)) := by subst_vars; rw [tb_rd hf (show j < n by omega) (by omega), nI_add]; rfl
          subst z9
          refine lv_istore_n (lv' := [(2, Value.int (nI (ns F (j + 1)))), (3, Value.int (nI j)), (0, Value.ref oo), (1, Value.int (nI t))]) hx hb d_Odds_below_26 rfl hl (by decide) rfl (fun ls hl => ?_)
          obtain ⟨v_5, ev_5⟩ : ∃ y : Int32, y = (nI j) + (1) := ⟨_, rfl⟩
          refine lv_iinc (v := v_5) (lv' := [(3, Value.int v_5), (2, Value.int (nI (ns F (j + 1)))), (0, Value.ref oo), (1, Value.int (nI t))]) hx hb d_Odds_below_27 hl (k := 1) rfl (by rw [ev_5]; rfl) (by decide) rfl (fun ls hl => ?_)
          have z9 : v_5 = nI (j + 1) := by rw [ev_5]; exact nI_1 _
          subst z9
          refine lv_goto (tgt := 4) hx hb d_Odds_below_30 (by decide) ?_
          exact ih9_4 _ (by first | omega | (omega)) (j + 1) rfl (by omega) H locs ls (hP.sub [0, 1, 2] rfl) (hD.sub [0, 1, 2] (by decide +kernel) rfl) hS (lv_sub hl [0, 1, 2, 3] rfl)
  exact J_4 _ (0 : Nat) rfl (Nat.zero_le _) H locs ls (hP.sub [0, 1, 2] rfl) (hD.sub [0, 1, 2] (by decide +kernel) rfl) hS (lv_sub hl [0, 1, 2, 3] rfl)
set_option maxHeartbeats 2000000 in
set_option maxRecDepth 100000 in
theorem f_Odds_greatest (l : Launch) (dC : Nat → ClassId) (dI : Nat → Nat → Nat) (cI cM cO : ClassId) (sz : Nat) (oo : Nat) (osg : Int32) (ofc : Int32) (oca : Nat) (opa : Nat) (n : Nat) (ocf : Nat → Int32) (opl : Nat) (opf : Nat → Int32) (F : Nat → Nat) (osm : Int32) (hn : n ≤ 64) (hpl : opl ≤ 512) (hf : tbI ocf n F) (hn1 : 1 ≤ n) (hB : bd F n 1000000) : MetI l y_Odds_greatest (Cond.code y_Odds_greatest prog_7_method_17_code 3 (some .int) :: gw) ({ frames := 0, cells := 0, slots := 0, locals := 0 } : Room) (dC, dI) vwCl (kT cI cM cO) [Value.ref oo] [(oo, Sum.inr (7, [Value.int osg, Value.int osm, Value.int ofc, Value.ref oca, Value.ref opa])), (oca, Sum.inl (cI, n, Sum.inl ocf)), (opa, Sum.inl (cI, opl, Sum.inl opf))] sz (fun (r : Int32) (u : Unit) => r = nI (gr F n)) (fun (u : Unit) => [(oo, Sum.inr (7, [Value.int osg, Value.int osm, Value.int ofc, Value.ref oca, Value.ref opa])), (oca, Sum.inl (cI, n, Sum.inl ocf)), (opa, Sum.inl (cI, opl, Sum.inl opf))]) 0 0 := by
  refine my_ofI (cc := prog_7_method_17_code) (n := 3) (ret := (some .int)) (by decide) rfl (Nat.le_of_ble_eq_true rfl) ?_
  intro p e s m args below meth c R Q A ls H locs hx hb hr hts hown hlocks hml hnm hR hQ hA hl hP hK hN hD hS
  have hg : ∀ w ∈ gw, w.before args s = true := fun w h => hts w (List.mem_cons_of_mem _ h)
  have hown : s.vm.findClass "RangeCoders$Odds" = some m.cls := hown
  have hl : lv_has ls 3 [(0, Value.ref oo)] := hl
  refine lv_iconst (v := 0) hx hb d_Odds_greatest_0 (by decide) ?_
  refine lv_istore_n (lv' := [(1, Value.int 0), (0, Value.ref oo)]) hx hb d_Odds_greatest_1 rfl hl (by decide) rfl (fun ls hl => ?_)
  refine lv_iconst (v := 1) hx hb d_Odds_greatest_2 (by decide) ?_
  refine lv_istore_n (lv' := [(2, Value.int 1), (1, Value.int 0), (0, Value.ref oo)]) hx hb d_Odds_greatest_3 rfl hl (by decide) rfl (fun ls hl => ?_)
  have J_4 : ∀ (n9_4 : Nat) (j : Nat) (g9 : Nat) (hn9_4 : n - j = n9_4) (hg9 : g9 = gr F j) (hj : j ≤ n) (hj1 : 0 < j) (H : Heap) (locs : List Loc) (ls : Array Slot), va_P (dC, dI) vwCl [(oo, Sum.inr (7, [Value.int osg, Value.int osm, Value.int ofc, Value.ref oca, Value.ref opa])), (oca, Sum.inl (cI, n, Sum.inl ocf)), (opa, Sum.inl (cI, opl, Sum.inl opf))] H → va_D A [(oo, Sum.inr (7, [Value.int osg, Value.int osm, Value.int ofc, Value.ref oca, Value.ref opa])), (oca, Sum.inl (cI, n, Sum.inl ocf)), (opa, Sum.inl (cI, opl, Sum.inl opf))] → va_S A s.heap H locs → lv_has ls 3 [(2, Value.int (nI j)), (1, Value.int (nI g9)), (0, Value.ref oo)] → W p l e R s m args below meth c H locs 0 0 Q (F0 m 4 ls []) := by
    intro n9_4
    induction n9_4 using Nat.strongRecOn with
    | ind n9_4 ih9_4 =>
      intro j g9 hn9_4 hg9 hj hj1 H locs ls hP hD hS hl
      refine lv_iload_n hx hb d_Odds_greatest_4 rfl (lv_at hl 0 rfl) ?_
      refine lv_aload_n hx hb d_Odds_greatest_5 rfl (lv_at hl 2 rfl) ?_
      refine va_get (D := (dC, dI)) (ci := 7) (v := .ref oca) (C := "RangeCoders$Odds") (T := T_Odds) (N := 5) hx hb hg in_Odds hown hK hP 0 rfl rfl 3 (by decide) (hg _ k309) (fun _ h9 => h9) rfl d_Odds_greatest_6 ?_
      refine va_alen hx hb hK hP 1 0 rfl rfl (v := nI n) rfl d_Odds_greatest_9 ?_
      refine lv_icmp_ge (tgt := 36) hx hb d_Odds_greatest_10 (by decide) (fun c_1 => ?_) (fun c_1 => ?_)
      · have hj3 : j = n := by have := nI_ge' (by omega) (by omega) c_1; omega
        refine lv_iload_n hx hb d_Odds_greatest_36 rfl (lv_at hl 1 rfl) ?_
        exact my_iret (v := nI g9) hx hb hr (rfl) hlocks hQ hK hS (Nat.le_refl _) (Nat.le_refl _) () (by rw [hg9, hj3]) (hP.sub [0, 1, 2] rfl) (hD.sub [0, 1, 2] (by decide +kernel) rfl) d_Odds_greatest_37
      · have hj2 : j < n := nI_lt' (by omega) c_1
        have hg1 : g9 < j := by rw [hg9]; exact gr_lt F hj1
        have hb1 := hB j hj2
        have hb2 := hB g9 (by omega)
        refine lv_aload_n hx hb d_Odds_greatest_13 rfl (lv_at hl 2 rfl) ?_
        refine va_get (D := (dC, dI)) (ci := 7) (v := .ref oca) (C := "RangeCoders$Odds") (T := T_Odds) (N := 5) hx hb hg in_Odds hown hK hP 0 rfl rfl 3 (by decide) (hg _ k309) (fun _ h9 => h9) rfl d_Odds_greatest_14 ?_
        refine lv_iload_n hx hb d_Odds_greatest_17 rfl (lv_at hl 0 rfl) ?_
        refine va_iald hx hb hK hP 1 0 rfl rfl (vp_in_nI hj2 (by omega)) d_Odds_greatest_18 ?_
        refine lv_topi (fun v_2 ev_2 => ?_)
        have hld : v_2 = nI (F j) := by rw [ev_2]; exact tb_rd hf hj2 (by omega)
        refine lv_aload_n hx hb d_Odds_greatest_19 rfl (lv_at hl 2 rfl) ?_
        refine va_get (D := (dC, dI)) (ci := 7) (v := .ref oca) (C := "RangeCoders$Odds") (T := T_Odds) (N := 5) hx hb hg in_Odds hown hK hP 0 rfl rfl 3 (by decide) (hg _ k309) (fun _ h9 => h9) rfl d_Odds_greatest_20 ?_
        refine lv_iload_n hx hb d_Odds_greatest_23 rfl (lv_at hl 1 rfl) ?_
        refine va_iald hx hb hK hP 1 0 rfl rfl (vp_in_nI (show g9 < n by omega) (by omega)) d_Odds_greatest_24 ?_
        refine lv_topi (fun v_3 ev_3 => ?_)
        have hlg : v_3 = nI (F g9) := by rw [ev_3]; exact tb_rd hf (show g9 < n by omega) (by omega)
        refine lv_icmp_le (tgt := 30) hx hb d_Odds_greatest_25 (by decide) (fun c_4 => ?_) (fun c_4 => ?_)
        · obtain ⟨v_5, ev_5⟩ : ∃ y : Int32, y = (nI j) + (1) := ⟨_, rfl⟩
          refine lv_iinc (v := v_5) (lv' := [(2, Value.int v_5), (1, Value.int (nI g9)), (0, Value.ref oo)]) hx hb d_Odds_greatest_30 hl (k := 0) rfl (by rw [ev_5]; rfl) (by decide) rfl (fun ls hl => ?_)
          have z9 : v_5 = nI (j + 1) := by rw [ev_5]; exact nI_1 _
          subst z9
          refine lv_goto (tgt := 4) hx hb d_Odds_greatest_33 (by decide) ?_
          exact ih9_4 _ (by first | omega | (omega)) (j + 1) g9 rfl (by rw [gr]; rw [if_neg (by rw [hld, hlg, nI_cmp (by omega) (by omega)] at c_4; rw [← hg9]; omega)]; exact hg9) (by omega) (by omega) H locs ls (hP.sub [0, 1, 2] rfl) (hD.sub [0, 1, 2] (by decide +kernel) rfl) hS (lv_sub hl [0, 1, 2] rfl)
        · refine lv_iload_n hx hb d_Odds_greatest_28 rfl (lv_at hl 0 rfl) ?_
          refine lv_istore_n (lv' := [(1, Value.int (nI j)), (2, Value.int (nI j)), (0, Value.ref oo)]) hx hb d_Odds_greatest_29 rfl hl (by decide) rfl (fun ls hl => ?_)
          obtain ⟨v_6, ev_6⟩ : ∃ y : Int32, y = (nI j) + (1) := ⟨_, rfl⟩
          refine lv_iinc (v := v_6) (lv' := [(2, Value.int v_6), (1, Value.int (nI j)), (0, Value.ref oo)]) hx hb d_Odds_greatest_30 hl (k := 1) rfl (by rw [ev_6]; rfl) (by decide) rfl (fun ls hl => ?_)
          have z9 : v_6 = nI (j + 1) := by rw [ev_6]; exact nI_1 _
          subst z9
          refine lv_goto (tgt := 4) hx hb d_Odds_greatest_33 (by decide) ?_
          exact ih9_4 _ (by first | omega | (omega)) (j + 1) j rfl (by rw [gr]; rw [if_pos (by rw [hld, hlg, nI_cmp (by omega) (by omega)] at c_4; rw [← hg9]; omega)]) (by omega) (by omega) H locs ls (hP.sub [0, 1, 2] rfl) (hD.sub [0, 1, 2] (by decide +kernel) rfl) hS (lv_sub hl [0, 1, 2] rfl)
  exact J_4 _ (1 : Nat) (0 : Nat) rfl (by simp [gr]) (hn1) (by decide) H locs ls (hP.sub [0, 1, 2] rfl) (hD.sub [0, 1, 2] (by decide +kernel) rfl) hS (lv_sub hl [0, 1, 2] rfl)
set_option maxHeartbeats 2000000 in
set_option maxRecDepth 100000 in
theorem f_Odds_fromCounts (l : Launch) (dC : Nat → ClassId) (dI : Nat → Nat → Nat) (cI cM cO : ClassId) (sz : Nat) (oo : Nat) (osg : Int32) (ofc : Int32) (oca : Nat) (opa : Nat) (n : Nat) (ocf : Nat → Int32) (opl : Nat) (opf : Nat → Int32) (osm : Int32) (ka : Nat) (kf : Nat → Int32) (C : Nat → Nat) (hn : n ≤ 64) (hpl : opl ≤ 512) (hk : tbI kf n C) (hB : bd C n 4095) : MetV l y_Odds_fromCounts (Cond.code y_Odds_fromCounts prog_7_method_6_code 3 none :: gw) ({ frames := 1, cells := 0, slots := 0, locals := 22 } : Room) (dC, dI) vwCl (kT cI cM cO) [Value.ref oo, Value.ref ka] [(oo, Sum.inr (7, [Value.int osg, Value.int osm, Value.int ofc, Value.ref oca, Value.ref opa])), (oca, Sum.inl (cI, n, Sum.inl ocf)), (opa, Sum.inl (cI, opl, Sum.inl opf)), (ka, Sum.inl (cI, n, Sum.inl kf))] sz (fun (u : (Nat → Int32)) => tbI u n (les n C)) (fun (u : (Nat → Int32)) => [(oo, Sum.inr (7, [Value.int osg, Value.int (nI (ns (les n C) n)), Value.int ofc, Value.ref oca, Value.ref opa])), (oca, Sum.inl (cI, n, Sum.inl u)), (opa, Sum.inl (cI, opl, Sum.inl opf)), (ka, Sum.inl (cI, n, Sum.inl kf))]) 0 0 := by
  refine my_ofV (cc := prog_7_method_6_code) (n := 3) (ret := none) (by decide) rfl (Nat.le_of_ble_eq_true rfl) ?_
  intro p e s m args below meth c R Q A ls H locs hx hb hr hts hown hlocks hml hnm hR hQ hA hl hP hK hN hD hS
  have hg : ∀ w ∈ gw, w.before args s = true := fun w h => hts w (List.mem_cons_of_mem _ h)
  have hown : s.vm.findClass "RangeCoders$Odds" = some m.cls := hown
  have hl : lv_has ls 3 [(0, Value.ref oo), (1, Value.ref ka)] := hl
  refine lv_aload_n hx hb d_Odds_fromCounts_0 rfl (lv_at hl 0 rfl) ?_
  refine lv_aload_n hx hb d_Odds_fromCounts_1 rfl (lv_at hl 1 rfl) ?_
  refine my_cv (wr := []) (va_runV (As := [Value.ref ka]) (rest := []) ⟨hx, hb, hml, hown, hts⟩ (f_Odds_copyCounts l dC dI cI cM cO H.size oo osg ofc oca opa n ocf opl opf osm ka kf C (by first | assumption | omega) (by first | assumption | omega) (by first | assumption | omega) (by first | assumption | omega)) (cwV 1 hts (my_gV k371 k373 ks0 k14 k374) rfl rfl rfl (by decide +kernel) ⟨by rw [hR]; exact Nat.le_of_ble_eq_true rfl, by rw [hR]; exact Nat.le_of_ble_eq_true rfl⟩) (my_preV hK hN (hP.sub [0, 1, 2, 3] rfl) (hD.sub [0, 1, 2, 3] (by decide +kernel) rfl) 0 rfl rfl) rfl rfl hl.1 rfl (lv_room (Nat.le_of_ble_eq_true rfl)) d_Odds_fromCounts_2 ⟨by rw [hR]; exact Nat.le_of_ble_eq_true rfl, by rw [hR]; exact Nat.le_of_ble_eq_true rfl⟩) hP hD hS hA [0, 1, 2, 3] [] rfl rfl (by decide +kernel) (by decide +kernel) (fun u9 H locs hw_2 hP hD hS => ?_)
  obtain ⟨ocfq_2, rfl⟩ : ∃ z, z = u9 := ⟨_, rfl⟩
  have hf_2 : tbI ocfq_2 n C := hw_2
  have hP : va_P (dC, dI) vwCl [(oo, Sum.inr (7, [Value.int osg, Value.int (nI (ns C n)), Value.int ofc, Value.ref oca, Value.ref opa])), (oca, Sum.inl (cI, n, Sum.inl ocfq_2)), (opa, Sum.inl (cI, opl, Sum.inl opf)), (ka, Sum.inl (cI, n, Sum.inl kf))] H := hP
  have hD : va_D A [(oo, Sum.inr (7, [Value.int osg, Value.int (nI (ns C n)), Value.int ofc, Value.ref oca, Value.ref opa])), (oca, Sum.inl (cI, n, Sum.inl ocfq_2)), (opa, Sum.inl (cI, opl, Sum.inl opf)), (ka, Sum.inl (cI, n, Sum.inl kf))] := hD
  refine lv_iconst (v := 0) hx hb d_Odds_fromCounts_5 (by decide) ?_
  refine lv_istore_n (lv' := [(2, Value.int 0), (0, Value.ref oo), (1, Value.ref ka)]) hx hb d_Odds_fromCounts_6 rfl hl (by decide) rfl (fun ls hl => ?_)
  have J_7 : ∀ (n9_7 : Nat) (r9 : Nat) (F9 : Nat → Nat) (fL : Nat → Int32) (hn9_7 : r9 = n9_7) (hI : tbI fL n F9) (hE : les n C = lesN n r9 F9) (hbF : bd F9 n (lb r9)) (hr1 : 27 ≤ r9) (hr2 : r9 ≤ 32) (H : Heap) (locs : List Loc) (ls : Array Slot), va_P (dC, dI) vwCl [(oo, Sum.inr (7, [Value.int osg, Value.int (nI (ns F9 n)), Value.int ofc, Value.ref oca, Value.ref opa])), (oca, Sum.inl (cI, n, Sum.inl fL)), (opa, Sum.inl (cI, opl, Sum.inl opf)), (ka, Sum.inl (cI, n, Sum.inl kf))] H → va_D A [(oo, Sum.inr (7, [Value.int osg, Value.int (nI (ns F9 n)), Value.int ofc, Value.ref oca, Value.ref opa])), (oca, Sum.inl (cI, n, Sum.inl fL)), (opa, Sum.inl (cI, opl, Sum.inl opf)), (ka, Sum.inl (cI, n, Sum.inl kf))] → va_S A s.heap H locs → lv_has ls 3 [(2, Value.int (nI (32 - r9))), (0, Value.ref oo), (1, Value.ref ka)] → W p l e R s m args below meth c H locs 0 0 Q (F0 m 7 ls []) := by
    intro n9_7
    induction n9_7 using Nat.strongRecOn with
    | ind n9_7 ih9_7 =>
      intro r9 F9 fL hn9_7 hI hE hbF hr1 hr2 H locs ls hP hD hS hl
      have hb0 : bd F9 n 4095 := fun k hk => Nat.le_trans (hbF k hk) (by unfold lb; repeat (first | omega | split))
      have hs9 := ns_le64 hn hb0
      refine lv_iload_n hx hb d_Odds_fromCounts_7 rfl (lv_at hl 0 rfl) ?_
      refine lv_bipush (v := 32) hx hb d_Odds_fromCounts_8 (by decide) ?_
      refine lv_icmp_ge (tgt := 33) hx hb d_Odds_fromCounts_10 (by decide) (fun c_1 => ?_) (fun c_1 => ?_)
      · exact absurd (nI_ge' (n := 32) (by omega) (by decide) c_1) (by omega)
      · refine lv_aload_n hx hb d_Odds_fromCounts_13 rfl (lv_at hl 1 rfl) ?_
        refine va_get (D := (dC, dI)) (ci := 7) (v := .int (nI (ns F9 n))) (C := "RangeCoders$Odds") (T := T_Odds) (N := 5) hx hb hg in_Odds hown hK hP 0 rfl rfl 1 (by decide) (hg _ k305) (fun _ h9 => h9) rfl d_Odds_fromCounts_14 ?_
        refine lv_sipush (v := 8192) hx hb d_Odds_fromCounts_17 (by decide) ?_
        refine lv_icmp_le (tgt := 33) hx hb d_Odds_fromCounts_20 (by decide) (fun c_2 => ?_) (fun c_2 => ?_)
        · have hle : ns F9 n ≤ 8192 := (nI_cmp (b := 8192) (by omega) (by decide)).mp c_2
          have z9 : F9 = les n C := by rw [hE, lesN_e hle]
          subst z9
          exact my_vret hx hb hr hlocks hQ hK hS (Nat.le_refl _) (Nat.le_refl _) (fL) (hI) (hP.sub [0, 1, 2, 3] rfl) (hD.sub [0, 1, 2, 3] (by decide +kernel) rfl) d_Odds_fromCounts_33
        · have hgt : ¬ ns F9 n ≤ 8192 := fun q => absurd (nI_le (b := 8192) q (by decide)) c_2
          have hr27 : 27 < r9 := by
            rcases Nat.lt_or_ge 27 r9 with q | q
            · exact q
            · have e : r9 = 27 := by omega
              subst e
              exact absurd (ns_le64 hn hbF) (by simp [lb]; omega)
          refine lv_aload_n hx hb d_Odds_fromCounts_23 rfl (lv_at hl 1 rfl) ?_
          refine my_cv (wr := [(ka, Sum.inl (cI, n, Sum.inl kf))]) (va_runV (As := []) (rest := []) ⟨hx, hb, hml, hown, hts⟩ (f_Odds_halve l dC dI cI cM cO H.size oo osg ofc oca opa n fL opl opf F9 (nI (ns F9 n)) (by first | assumption | omega) (by first | assumption | omega) (hI) (fun k hk => Nat.le_trans (hb0 k hk) (by decide))) (cwV 0 hts (my_gV k375 k377 ks1 k14 k378) rfl rfl rfl (by decide +kernel) ⟨by rw [hR]; exact Nat.le_of_ble_eq_true rfl, by rw [hR]; exact Nat.le_of_ble_eq_true rfl⟩) (my_preV hK hN (hP.sub [0, 1, 2] rfl) (hD.sub [0, 1, 2] (by decide +kernel) rfl) 0 rfl rfl) rfl rfl hl.1 rfl (lv_room (Nat.le_of_ble_eq_true rfl)) d_Odds_fromCounts_24 ⟨by rw [hR]; exact Nat.le_of_ble_eq_true rfl, by rw [hR]; exact Nat.le_of_ble_eq_true rfl⟩) hP hD hS hA [0, 1, 2] [3] rfl rfl (by decide +kernel) (by decide +kernel) (fun u9 H locs hw_24 hP hD hS => ?_)
          obtain ⟨ocfq_24, rfl⟩ : ∃ z, z = u9 := ⟨_, rfl⟩
          have hf_24 : tbI ocfq_24 n (hv F9) := hw_24
          have hP : va_P (dC, dI) vwCl [(ka, Sum.inl (cI, n, Sum.inl kf)), (oo, Sum.inr (7, [Value.int osg, Value.int (nI (ns (hv F9) n)), Value.int ofc, Value.ref oca, Value.ref opa])), (oca, Sum.inl (cI, n, Sum.inl ocfq_24)), (opa, Sum.inl (cI, opl, Sum.inl opf))] H := hP
          have hD : va_D A [(ka, Sum.inl (cI, n, Sum.inl kf)), (oo, Sum.inr (7, [Value.int osg, Value.int (nI (ns (hv F9) n)), Value.int ofc, Value.ref oca, Value.ref opa])), (oca, Sum.inl (cI, n, Sum.inl ocfq_24)), (opa, Sum.inl (cI, opl, Sum.inl opf))] := hD
          obtain ⟨v_3, ev_3⟩ : ∃ y : Int32, y = (nI (32 - r9)) + (1) := ⟨_, rfl⟩
          refine lv_iinc (v := v_3) (lv' := [(2, Value.int v_3), (0, Value.ref oo), (1, Value.ref ka)]) hx hb d_Odds_fromCounts_27 hl (k := 0) rfl (by rw [ev_3]; rfl) (by decide) rfl (fun ls hl => ?_)
          have z9 : v_3 = nI (32 - (r9 - 1)) := by rw [ev_3]; rw [show 32 - (r9 - 1) = 32 - r9 + 1 by omega]; exact nI_1 _
          subst z9
          refine lv_goto (tgt := 7) hx hb d_Odds_fromCounts_30 (by decide) ?_
          exact ih9_7 _ (by first | omega | (omega)) (r9 - 1) (hv F9) ocfq_24 rfl (hf_24) (by rw [hE, lesN_s (by omega) hgt]) (fun k hk => lb_st hr27 hr2 (hbF k hk)) (by omega) (by omega) H locs ls (hP.sub [1, 2, 3, 0] rfl) (hD.sub [1, 2, 3, 0] (by decide +kernel) rfl) hS (lv_sub hl [0, 1, 2] rfl)
  exact J_7 _ (32 : Nat) C ocfq_2 rfl (hf_2) (rfl) (hB) (by decide) (by decide) H locs ls (hP.sub [0, 1, 2, 3] rfl) (hD.sub [0, 1, 2, 3] (by decide +kernel) rfl) hS (lv_sub hl [0, 1, 2] rfl)
set_option maxHeartbeats 2000000 in
set_option maxRecDepth 100000 in
theorem f_Odds_learn (l : Launch) (dC : Nat → ClassId) (dI : Nat → Nat → Nat) (cI cM cO : ClassId) (sz : Nat) (oo : Nat) (osg : Int32) (ofc : Int32) (oca : Nat) (opa : Nat) (n : Nat) (ocf : Nat → Int32) (opl : Nat) (opf : Nat → Int32) (F : Nat → Nat) (t : Nat) (hn : n ≤ 64) (hpl : opl ≤ 512) (hf : tbI ocf n F) (ht : t < n) (hfc : ofc ≤ nI t) (hB : bd F n 100000) : MetV l y_Odds_learn (Cond.code y_Odds_learn prog_7_method_7_code 2 none :: gw) ({ frames := 2, cells := 0, slots := 0, locals := 43 } : Room) (dC, dI) vwCl (kT cI cM cO) [Value.ref oo, Value.int (nI t)] [(oo, Sum.inr (7, [Value.int osg, Value.int (nI (ns F n)), Value.int ofc, Value.ref oca, Value.ref opa])), (oca, Sum.inl (cI, n, Sum.inl ocf)), (opa, Sum.inl (cI, opl, Sum.inl opf))] sz (fun (u : (Nat → Int32)) => tbI u n (lrn n t F)) (fun (u : (Nat → Int32)) => [(oo, Sum.inr (7, [Value.int osg, Value.int (nI (ns (lrn n t F) n)), Value.int ofc, Value.ref oca, Value.ref opa])), (oca, Sum.inl (cI, n, Sum.inl u)), (opa, Sum.inl (cI, opl, Sum.inl opf))]) 0 0 := by
  refine my_ofV (cc := prog_7_method_7_code) (n := 2) (ret := none) (by decide) rfl (Nat.le_of_ble_eq_true rfl) ?_
  intro p e s m args below meth c R Q A ls H locs hx hb hr hts hown hlocks hml hnm hR hQ hA hl hP hK hN hD hS
  have hg : ∀ w ∈ gw, w.before args s = true := fun w h => hts w (List.mem_cons_of_mem _ h)
  have hown : s.vm.findClass "RangeCoders$Odds" = some m.cls := hown
  have hl : lv_has ls 2 [(0, Value.ref oo), (1, Value.int (nI t))] := hl
  refine lv_aload_n hx hb d_Odds_learn_0 rfl (lv_at hl 0 rfl) ?_
  refine lv_iload_n hx hb d_Odds_learn_1 rfl (lv_at hl 1 rfl) ?_
  refine lv_bipush (v := 32) hx hb d_Odds_learn_2 (by decide) ?_
  refine my_cv (wr := []) (va_runV (As := [Value.int (nI t), Value.int 32]) (rest := []) ⟨hx, hb, hml, hown, hts⟩ (f_Odds_grow l dC dI cI cM cO H.size oo osg ofc oca opa n ocf opl opf (nI (ns F n)) t 32 (by first | assumption | omega) (by first | assumption | omega) (ht) (hfc)) (cwV 2 hts (my_gV k392 k393 k394 k14 k395) rfl rfl rfl (by decide +kernel) ⟨by rw [hR]; exact Nat.le_of_ble_eq_true rfl, by rw [hR]; exact Nat.le_of_ble_eq_true rfl⟩) (my_preV hK hN (hP.sub [0, 1, 2] rfl) (hD.sub [0, 1, 2] (by decide +kernel) rfl) 0 rfl rfl) rfl rfl hl.1 rfl (lv_room (Nat.le_of_ble_eq_true rfl)) d_Odds_learn_4 ⟨by rw [hR]; exact Nat.le_of_ble_eq_true rfl, by rw [hR]; exact Nat.le_of_ble_eq_true rfl⟩) hP hD hS hA [0, 1, 2] [] rfl rfl (by decide +kernel) (by decide +kernel) (fun u9 H locs hw_4 hP hD hS => ?_)
  obtain ⟨ocfq_4, rfl⟩ : ∃ z, z = u9 := ⟨_, rfl⟩
  have hc_4 : ocfq_4 = upd ocf t (ocf t + 32) := hw_4
  have hP : va_P (dC, dI) vwCl [(oo, Sum.inr (7, [Value.int osg, Value.int ((nI (ns F n)) + 32), Value.int ofc, Value.ref oca, Value.ref opa])), (oca, Sum.inl (cI, n, Sum.inl ocfq_4)), (opa, Sum.inl (cI, opl, Sum.inl opf))] H := hP
  have hD : va_D A [(oo, Sum.inr (7, [Value.int osg, Value.int ((nI (ns F n)) + 32), Value.int ofc, Value.ref oca, Value.ref opa])), (oca, Sum.inl (cI, n, Sum.inl ocfq_4)), (opa, Sum.inl (cI, opl, Sum.inl opf))] := hD
  have hU : tbI ocfq_4 n (upN F t (F t + 32)) := by rw [hc_4]; exact tb_up hf rfl (by rw [hf t ht]; exact nI_add (F t) 32)
  have hS9 := ns_up (F := F) (v := F t + 32) ht
  have hb9 : bd (upN F t (F t + 32)) n 1000000 := fun k hk => by
    have h1 := hB k hk
    by_cases e : k = t
    · subst e; rw [upN_s]; omega
    · rw [upN_n _ e]; omega
  have hs9 := ns_le64 hn hb9
  have hsu : ((nI (ns F n)) + 32 : Int32) = nI (ns (upN F t (F t + 32)) n) := by rw [show ns (upN F t (F t + 32)) n = ns F n + 32 by omega]; exact nI_add (ns F n) 32
  rw [hsu] at hP hD
  have hP : va_P (dC, dI) vwCl [(oo, Sum.inr (7, [Value.int osg, Value.int (nI (ns (upN F t (F t + 32)) n)), Value.int ofc, Value.ref oca, Value.ref opa])), (oca, Sum.inl (cI, n, Sum.inl ocfq_4)), (opa, Sum.inl (cI, opl, Sum.inl opf))] H := hP
  have hD : va_D A [(oo, Sum.inr (7, [Value.int osg, Value.int (nI (ns (upN F t (F t + 32)) n)), Value.int ofc, Value.ref oca, Value.ref opa])), (oca, Sum.inl (cI, n, Sum.inl ocfq_4)), (opa, Sum.inl (cI, opl, Sum.inl opf))] := hD
  refine lv_aload_n hx hb d_Odds_learn_7 rfl (lv_at hl 0 rfl) ?_
  refine va_get (D := (dC, dI)) (ci := 7) (v := .int (nI (ns (upN F t (F t + 32)) n))) (C := "RangeCoders$Odds") (T := T_Odds) (N := 5) hx hb hg in_Odds hown hK hP 0 rfl rfl 1 (by decide) (hg _ k305) (fun _ h9 => h9) rfl d_Odds_learn_8 ?_
  refine lv_sipush (v := 8192) hx hb d_Odds_learn_11 (by decide) ?_
  refine lv_icmp_le (tgt := 21) hx hb d_Odds_learn_14 (by decide) (fun c_1 => ?_) (fun c_1 => ?_)
  · have hE9 : lrn n t F = upN F t (F t + 32) := by unfold lrn; rw [if_pos ((nI_cmp (b := 8192) (by omega) (by decide)).mp c_1)]
    have hsu : (nI (ns (upN F t (F t + 32)) n) : Int32) = nI (ns (lrn n t F) n) := by rw [hE9]
    rw [hsu] at hP hD
    have hP : va_P (dC, dI) vwCl [(oo, Sum.inr (7, [Value.int osg, Value.int (nI (ns (lrn n t F) n)), Value.int ofc, Value.ref oca, Value.ref opa])), (oca, Sum.inl (cI, n, Sum.inl ocfq_4)), (opa, Sum.inl (cI, opl, Sum.inl opf))] H := hP
    have hD : va_D A [(oo, Sum.inr (7, [Value.int osg, Value.int (nI (ns (lrn n t F) n)), Value.int ofc, Value.ref oca, Value.ref opa])), (oca, Sum.inl (cI, n, Sum.inl ocfq_4)), (opa, Sum.inl (cI, opl, Sum.inl opf))] := hD
    exact my_vret hx hb hr hlocks hQ hK hS (Nat.le_refl _) (Nat.le_refl _) (ocfq_4) (by rw [hE9]; exact hU) (hP.sub [0, 1, 2] rfl) (hD.sub [0, 1, 2] (by decide +kernel) rfl) d_Odds_learn_21
  · have hgt : ¬ ns (upN F t (F t + 32)) n ≤ 8192 := fun q => absurd (nI_le (b := 8192) q (by decide)) c_1
    refine lv_aload_n hx hb d_Odds_learn_17 rfl (lv_at hl 0 rfl) ?_
    refine my_cv (wr := []) (va_runV (As := []) (rest := []) ⟨hx, hb, hml, hown, hts⟩ (f_Odds_halve l dC dI cI cM cO H.size oo osg ofc oca opa n ocfq_4 opl opf (upN F t (F t + 32)) (nI (ns (upN F t (F t + 32)) n)) (by first | assumption | omega) (by first | assumption | omega) (hU) (hb9)) (cwV 0 hts (my_gV k375 k377 ks1 k14 k378) rfl rfl rfl (by decide +kernel) ⟨by rw [hR]; exact Nat.le_of_ble_eq_true rfl, by rw [hR]; exact Nat.le_of_ble_eq_true rfl⟩) (my_preV hK hN (hP.sub [0, 1, 2] rfl) (hD.sub [0, 1, 2] (by decide +kernel) rfl) 0 rfl rfl) rfl rfl hl.1 rfl (lv_room (Nat.le_of_ble_eq_true rfl)) d_Odds_learn_18 ⟨by rw [hR]; exact Nat.le_of_ble_eq_true rfl, by rw [hR]; exact Nat.le_of_ble_eq_true rfl⟩) hP hD hS hA [0, 1, 2] [] rfl rfl (by decide +kernel) (by decide +kernel) (fun u9 H locs hw_18 hP hD hS => ?_)
    obtain ⟨ocfq_18, rfl⟩ : ∃ z, z = u9 := ⟨_, rfl⟩
    have hf_18 : tbI ocfq_18 n (hv (upN F t (F t + 32))) := hw_18
    have hP : va_P (dC, dI) vwCl [(oo, Sum.inr (7, [Value.int osg, Value.int (nI (ns (hv (upN F t (F t + 32))) n)), Value.int ofc, Value.ref oca, Value.ref opa])), (oca, Sum.inl (cI, n, Sum.inl ocfq_18)), (opa, Sum.inl (cI, opl, Sum.inl opf))] H := hP
    have hD : va_D A [(oo, Sum.inr (7, [Value.int osg, Value.int (nI (ns (hv (upN F t (F t + 32))) n)), Value.int ofc, Value.ref oca, Value.ref opa])), (oca, Sum.inl (cI, n, Sum.inl ocfq_18)), (opa, Sum.inl (cI, opl, Sum.inl opf))] := hD
    have hE9 : lrn n t F = hv (upN F t (F t + 32)) := by unfold lrn; rw [if_neg hgt]
    have hsu : (nI (ns (hv (upN F t (F t + 32))) n) : Int32) = nI (ns (lrn n t F) n) := by rw [hE9]
    rw [hsu] at hP hD
    have hP : va_P (dC, dI) vwCl [(oo, Sum.inr (7, [Value.int osg, Value.int (nI (ns (lrn n t F) n)), Value.int ofc, Value.ref oca, Value.ref opa])), (oca, Sum.inl (cI, n, Sum.inl ocfq_18)), (opa, Sum.inl (cI, opl, Sum.inl opf))] H := hP
    have hD : va_D A [(oo, Sum.inr (7, [Value.int osg, Value.int (nI (ns (lrn n t F) n)), Value.int ofc, Value.ref oca, Value.ref opa])), (oca, Sum.inl (cI, n, Sum.inl ocfq_18)), (opa, Sum.inl (cI, opl, Sum.inl opf))] := hD
    exact my_vret hx hb hr hlocks hQ hK hS (Nat.le_refl _) (Nat.le_refl _) (ocfq_18) (by rw [hE9]; exact hf_18) (hP.sub [0, 1, 2] rfl) (hD.sub [0, 1, 2] (by decide +kernel) rfl) d_Odds_learn_21
end
