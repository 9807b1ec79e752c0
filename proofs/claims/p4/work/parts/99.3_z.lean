set_option maxHeartbeats 4000000 in
theorem loop_Stack {p : Program} {e : Env} {s : State} {m : MethodId} {below : List Frame} {meth : Method} {c : Code} {A : Nat → Prop} (l : Launch) (dC : Nat → ClassId) (dI : Nat → Nat → Nat) (cI cM cO : ClassId) {b L : Nat} {xs : Nat → Int32} (hx : p.tables.exec = Jvm.exec) (hb : c.code = code) (hml : c.maxLocals = 4) (hown : s.vm.findClass "RangeCodersLaw" = some m.cls) (hg : ∀ w ∈ gw, w.before #[Value.ref b] s = true) (hN : nw s) (hK : va_K (dC, dI) vwCl (kT cI cM cO) s) (hA : ∀ q : Nat, s.heap.size ≤ q → A q) (hX : va_X b L xs s s.heap) (hbl : b < s.heap.size) (hbA : ¬ A b) (hL : L ≤ 2050) (hr : meth.sig.returnType = ret) (hlocks : meth.locks = false) (hA2 : ∀ q : Nat, A q → s.heap.size ≤ q) {rc o : Nat} : ∀ (n cn i dd : Nat) (H : Heap) (locs : List Loc) (ls : Array Slot), L < i + 4 * n + 4 → 4 * cn + 2 ≤ i → i ≤ L + 4 → LI_Stack dC dI cI cM cO A rc o cn dd H → va_S A s.heap H locs → lv_has ls 4 [(0, Value.ref b), (1, Value.ref rc), (2, Value.ref o), (3, Value.int (nI i))] → W p l e room_1 s m #[Value.ref b] below meth c H locs dd dd (lw_Z below #[Value.ref b] s) (F0 m 38 ls []) := by
  intro n
  induction n with
  | zero =>
    intro cn i dd H locs ls hn hc hi hLI hS hl
    refine lv_iload_n hx hb d_Law_law_38 rfl (lv_at hl 3 rfl) ?_
    refine lv_aload_n hx hb d_Law_law_39 rfl (lv_at hl 0 rfl) ?_
    refine va_slen hx hb hX hbl hbA hS d_Law_law_40 ?_
    refine lv_iconst (v := 4) hx hb d_Law_law_41 (by decide) ?_
    refine lv_isub hx hb d_Law_law_42 ?_
    refine lv_icmp_gt (tgt := 536) hx hb d_Law_law_43 (by decide) (fun c1 => ?_) (fun c1 => ?_)
    · exact law_end hA2 hx hb hr hlocks hS (LI_dd_Stack hLI)
    · exact absurd (loop_le hL (by omega) c1) (by omega)
  | succ n ih =>
    intro cn i dd H locs ls hn hc hi hLI hS hl
    refine lv_iload_n hx hb d_Law_law_38 rfl (lv_at hl 3 rfl) ?_
    refine lv_aload_n hx hb d_Law_law_39 rfl (lv_at hl 0 rfl) ?_
    refine va_slen hx hb hX hbl hbA hS d_Law_law_40 ?_
    refine lv_iconst (v := 4) hx hb d_Law_law_41 (by decide) ?_
    refine lv_isub hx hb d_Law_law_42 ?_
    refine lv_icmp_gt (tgt := 536) hx hb d_Law_law_43 (by decide) (fun c1 => ?_) (fun c1 => ?_)
    · exact law_end hA2 hx hb hr hlocks hS (LI_dd_Stack hLI)
    have hi4 : i + 4 ≤ L := loop_le hL (by omega) c1
    have hcn : cn ≤ 900 := by omega
    have kk : ∀ (dd2 : Nat) (H : Heap) (locs : List Loc) (ls : Array Slot), LI_Stack dC dI cI cM cO A rc o (cn + 1) dd2 H → va_S A s.heap H locs → lv_has ls 4 [(0, Value.ref b), (1, Value.ref rc), (2, Value.ref o), (3, Value.int (nI i))] → W p l e room_1 s m #[Value.ref b] below meth c H locs dd2 dd2 (lw_Z below #[Value.ref b] s) (F0 m 530 ls []) := by
      intro dd2 H locs ls hLI hS hl
      refine lv_iinc (k := 3) (v := nI (i + 4)) (lv' := [(3, Value.int (nI (i + 4))), (0, Value.ref b), (1, Value.ref rc), (2, Value.ref o)]) hx hb d_Law_law_530 hl rfl (by rw [show Int32.ofInt 4 = nI 4 from by decide]; exact nI_add i 4) (by decide) rfl (fun ls hl => ?_)
      refine lv_goto (tgt := 38) hx hb d_Law_law_533 (by decide) ?_
      exact ih (cn + 1) (i + 4) dd2 H locs ls (by omega) (by omega) (by omega) hLI hS (lv_sub hl [1, 2, 3, 0] rfl)
    refine lv_aload_n hx hb d_Law_law_46 rfl (lv_at hl 0 rfl) ?_
    refine lv_iload_n hx hb d_Law_law_47 rfl (lv_at hl 3 rfl) ?_
    refine va_sld hx hb hX hbl hbA hS (vp_in_nI (by omega) (by omega)) d_Law_law_48 ?_
    refine lv_bipush (v := 15) hx hb d_Law_law_49 (by decide) ?_
    refine lv_iand hx hb d_Law_law_51 ?_
    generalize xs (nI i).toNatClampNeg &&& 15 = v
    by_cases hv : v.toInt < 0 ∨ 15 < v.toInt
    · exact lv_tableOut (tgt := 530) hx hb d_Law_law_52 hv (by decide) (kk dd H locs ls (LI_up_Stack hLI) hS hl)
    obtain ⟨j, hj, rfl⟩ := sw_cs hv
    match j, hj with
    | 0, _ => exact lv_tableIn (tgt := 132) hx hb d_Law_law_52 (by decide) (by decide) rfl (by decide) (lc_Stack_0 l dC dI cI cM cO hx hb hml hown hg hN hK rfl hA hX hbl hbA hL hi4 hcn kk H locs ls hLI hS hl)
    | 1, _ => exact lv_tableIn (tgt := 155) hx hb d_Law_law_52 (by decide) (by decide) rfl (by decide) (lc_Stack_1 l dC dI cI cM cO hx hb hml hown hg hN hK rfl hA hX hbl hbA hL hi4 hcn kk H locs ls hLI hS hl)
    | 2, _ => exact lv_tableIn (tgt := 198) hx hb d_Law_law_52 (by decide) (by decide) rfl (by decide) (lc_Stack_2 l dC dI cI cM cO hx hb hml hown hg hN hK rfl hA hX hbl hbA hL hi4 hcn kk H locs ls hLI hS hl)
    | 3, _ => exact lv_tableIn (tgt := 231) hx hb d_Law_law_52 (by decide) (by decide) rfl (by decide) (lc_Stack_3 l dC dI cI cM cO hx hb hml hown hg hN hK rfl hA hX hbl hbA hL hi4 hcn kk H locs ls hLI hS hl)
    | 4, _ => exact lv_tableIn (tgt := 264) hx hb d_Law_law_52 (by decide) (by decide) rfl (by decide) (lc_Stack_4 l dC dI cI cM cO hx hb hml hown hg hN hK rfl hA hX hbl hbA hL hi4 hcn kk H locs ls hLI hS hl)
    | 5, _ => exact lv_tableIn (tgt := 277) hx hb d_Law_law_52 (by decide) (by decide) rfl (by decide) (lc_Stack_5 l dC dI cI cM cO hx hb hml hown hg hN hK rfl hA hX hbl hbA hL hi4 hcn kk H locs ls hLI hS hl)
    | 6, _ => exact lv_tableIn (tgt := 290) hx hb d_Law_law_52 (by decide) (by decide) rfl (by decide) (lc_Stack_6 l dC dI cI cM cO hx hb hml hown hg hN hK rfl hA hX hbl hbA hL hi4 hcn kk H locs ls hLI hS hl)
    | 7, _ => exact lv_tableIn (tgt := 313) hx hb d_Law_law_52 (by decide) (by decide) rfl (by decide) (lc_Stack_7 l dC dI cI cM cO hx hb hml hown hg hN hK rfl hA hX hbl hbA hL hi4 hcn kk H locs ls hLI hS hl)
    | 8, _ => exact lv_tableIn (tgt := 336) hx hb d_Law_law_52 (by decide) (by decide) rfl (by decide) (lc_Stack_8 l dC dI cI cM cO hx hb hml hown hg hN hK rfl hA hX hbl hbA hL hi4 hcn kk H locs ls hLI hS hl)
    | 9, _ => exact lv_tableIn (tgt := 359) hx hb d_Law_law_52 (by decide) (by decide) rfl (by decide) (lc_Stack_9 l dC dI cI cM cO hx hb hml hown hg hN hK rfl hA hX hbl hbA hL hi4 hcn kk H locs ls hLI hS hl)
    | 10, _ => exact lv_tableIn (tgt := 392) hx hb d_Law_law_52 (by decide) (by decide) rfl (by decide) (lc_Stack_10 l dC dI cI cM cO hx hb hml hown hg hN hK rfl hA hX hbl hbA hL hi4 hcn kk H locs ls hLI hS hl)
    | 11, _ => exact lv_tableIn (tgt := 405) hx hb d_Law_law_52 (by decide) (by decide) rfl (by decide) (lc_Stack_11 l dC dI cI cM cO hx hb hml hown hg hN hK rfl hA hX hbl hbA hL hi4 hcn kk H locs ls hLI hS hl)
    | 12, _ => exact lv_tableIn (tgt := 428) hx hb d_Law_law_52 (by decide) (by decide) rfl (by decide) (lc_Stack_12 l dC dI cI cM cO hx hb hml hown hg hN hK rfl hA hX hbl hbA hL hi4 hcn kk H locs ls hLI hS hl)
    | 13, _ => exact lv_tableIn (tgt := 451) hx hb d_Law_law_52 (by decide) (by decide) rfl (by decide) (lc_Stack_13 l dC dI cI cM cO hx hb hml hown hg hN hK rfl hA hX hbl hbA hL hi4 hcn kk H locs ls hLI hS hl)
    | 14, _ => exact lv_tableIn (tgt := 474) hx hb d_Law_law_52 (by decide) (by decide) rfl (by decide) (lc_Stack_14 l dC dI cI cM cO hx hb hml hown hg hN hK rfl hA hX hbl hbA hL hi4 hcn kk H locs ls hLI hS hl)
    | 15, _ => exact lv_tableIn (tgt := 497) hx hb d_Law_law_52 (by decide) (by decide) rfl (by decide) (lc_Stack_15 l dC dI cI cM cO hx hb hml hown hg hN hK rfl hA hX hbl hbA hL hi4 hcn kk H locs ls hLI hS hl)
    | j + 16, hj => exact absurd hj (by omega)

