/-! FORM 4: the PLACES -/
theorem sgA_eq {F : Nat → Nat} {n s t : Nat} (hs : s < n) (h1 : ns F s ≤ t) (h2 : t < ns F s + F s) : sgA F n t = s := by
  have hm := ns_m1 F hs
  have q := sgA_spec (F := F) (n := n) (u := t) (by omega)
  rcases Nat.lt_trichotomy (sgA F n t) s with z | z | z
  · have := ns_m F (show sgA F n t + 1 ≤ s from z)
    rw [ns] at this
    omega
  · exact z
  · have := ns_m F (show s + 1 ≤ sgA F n t from z)
    rw [ns] at this
    omega
/-- the step at which a PLACE is given -/
def stp (p : Nat) : Nat := p * 363 % 512
theorem stp_at : ∀ j, j < 512 → stp (323 * j % 512) = j := by decide +kernel
theorem at_stp : ∀ p, p < 512 → 323 * stp p % 512 = p := by decide +kernel
/-- the sign that has a PLACE -/
def plc (F : Nat → Nat) (n p : Nat) : Nat := sgA F n (stp p)
/-- of the PLACES ahead of q those of sign x -/
def cn (P : Nat → Nat) (x : Nat) : Nat → Nat
  | 0 => 0
  | q + 1 => if P q = x then cn P x q + 1 else cn P x q
theorem cn_le (P : Nat → Nat) (x : Nat) : ∀ q, cn P x q ≤ q
  | 0 => Nat.le_refl _
  | q + 1 => by
    have := cn_le P x q
    rw [cn]
    split <;> omega
/-- which of its sign's PLACES a PLACE is -/
def num (F : Nat → Nat) (n p : Nat) : Nat := cn (plc F n) (plc F n p) p
def layd (so no : Nat → Int32) (F : Nat → Nat) (n : Nat) : Prop := (∀ p, p < 512 → so p = nI (plc F n p)) ∧ ∀ p, p < 512 → no p = nI (num F n p)
def layt (so : Nat → Int32) (F : Nat → Nat) (n t : Nat) : Prop := ∀ j, j < t → so (323 * j % 512) = nI (sgA F n j)
theorem layt_st {so : Nat → Int32} {F : Nat → Nat} {n t i : Nat} {x : Int32} (h : layt so F n t) (ht : t < 512) (hi : i = 323 * t % 512) (hx : x = nI (sgA F n t)) : layt (upd so i x) F n (t + 1) := by
  intro j hj
  by_cases e : j = t
  · subst e; rw [← hi, pk_us, hx]
  · rw [pk_un (fun z => e ?_)]
    · exact h j (by omega)
    · have a := stp_at j (by omega)
      have b := stp_at t ht
      rw [z, hi, b] at a
      exact a.symm
theorem layt_e {so : Nat → Int32} {F : Nat → Nat} {n : Nat} (h : layt so F n 512) : ∀ p, p < 512 → so p = nI (plc F n p) := by
  intro p hp
  have := h (stp p) (Nat.mod_lt _ (by decide))
  rw [at_stp p hp] at this
  exact this
theorem no_st {no : Nat → Int32} {F : Nat → Nat} {n pp i : Nat} {x : Int32} (h : ∀ z, z < pp → no z = nI (num F n z)) (hi : i = pp) (hx : x = nI (num F n pp)) : ∀ z, z < pp + 1 → upd no i x z = nI (num F n z) := by
  intro z hz
  subst hi
  by_cases e : z = i
  · subst e; rw [pk_us, hx]
  · rw [pk_un e]; exact h z (by omega)
theorem plc_lt {F : Nat → Nat} {n p : Nat} (h : ns F n = 512) : plc F n p < n := (sgA_spec (F := F) (n := n) (u := stp p) (by rw [h]; exact Nat.mod_lt _ (by decide))).1
set_option maxHeartbeats 1000000 in
set_option maxRecDepth 100000 in
/-- lay -/
theorem c_M_lay (l : Launch) (dC : Nat → ClassId) (dI : Nat → Nat → Nat) (cI cM cO : ClassId) (sz : Nat) (o : Nat) (g : Nat → Nat) (fForm : Int32) (fShift : Int32) (fModels : Int32) (fItems : Int32) (fEnded : Int32) (fLow : Int64) (fRange : Int64) (fCache : Int32) (fPend : Int32) (fGoes : Int32) (fOuts : Int32) (fIns : Int32) (fReads : Int32) (fBad : Int32) (fIR : Int32) (fAsk : Int32) (fBAsk : Int32) (fCode : Int64) (fRL : Int64) (fRR : Int64) (fX : Int64) (fWrites : Int32) (fThrown : Int32) (vMany : Nat → Int32) (vSO : Nat → Int32) (vNO : Nat → Int32) (a : Nat) (f : Nat → Int32) (mm : Nat) (n : Nat) (F : Nat → Nat) (hmm : mm < 8) (hn : vMany mm = nI n) (hn2 : n ≤ 64) (hf : sgI f (64 * mm) n F) (hsum : ns F n = 512) : MetV l y_M_lay (Cond.code y_M_lay prog_14_method_33_code 7 none :: gw) ({ frames := 0, cells := 0, slots := 0, locals := 0 } : Room) (dC, dI) vwCl (kT cI cM cO) [Value.ref o, Value.ref a, Value.int (nI mm)] [(o, Sum.inr (9, mO g fForm fShift fModels fItems fEnded fLow fRange fCache fPend fGoes fOuts fIns fReads fBad fIR fAsk fBAsk fCode fRL fRR fX fWrites fThrown)), ((g 0), Sum.inl (cI, 8, Sum.inl vMany)), (a, Sum.inl (cI, 512, Sum.inl f)), ((g 9), Sum.inl (cI, 512, Sum.inl vSO)), ((g 10), Sum.inl (cI, 512, Sum.inl vNO))] sz (fun (u : (Nat → Int32) × (Nat → Int32)) => layd u.1 u.2 F n) (fun (u : (Nat → Int32) × (Nat → Int32)) => [(o, Sum.inr (9, mO g fForm fShift fModels fItems fEnded fLow fRange fCache fPend fGoes fOuts fIns fReads fBad fIR fAsk fBAsk fCode fRL fRR fX fWrites fThrown)), ((g 0), Sum.inl (cI, 8, Sum.inl vMany)), (a, Sum.inl (cI, 512, Sum.inl f)), ((g 9), Sum.inl (cI, 512, Sum.inl u.1)), ((g 10), Sum.inl (cI, 512, Sum.inl u.2))]) 0 0 := by
  refine my_ofV (cc := prog_14_method_33_code) (n := 7) (ret := none) (by decide) rfl (Nat.le_of_ble_eq_true rfl) ?_
  intro p e s m args below meth c R Q A ls H locs hx hb hr hts hown hlocks hml hnm hR hQ hA hl hP hK hN hD hS
  have hg : ∀ w ∈ gw, w.before args s = true := fun w h => hts w (List.mem_cons_of_mem _ h)
  have hown : s.vm.findClass "RangeCodersModel" = some m.cls := hown
  have hl : lv_has ls 7 [(0, Value.ref o), (1, Value.ref a), (2, Value.int (nI mm))] := hl
  refine lv_iconst (v := 0) hx hb d_M_lay_0 (by decide) ?_
  refine lv_istore_n (lv' := [(3, Value.int 0), (0, Value.ref o), (1, Value.ref a), (2, Value.int (nI mm))]) hx hb d_M_lay_1 rfl hl (by decide) rfl (fun ls hl => ?_)
  refine lv_iconst (v := 0) hx hb d_M_lay_2 (by decide) ?_
  refine lv_istore (lv' := [(4, Value.int 0), (3, Value.int 0), (0, Value.ref o), (1, Value.ref a), (2, Value.int (nI mm))]) hx hb d_M_lay_3 hl (by decide) rfl (fun ls hl => ?_)
  have J_5 : ∀ (n9_5 : Nat) (p9 : Int32) (i9 : Int32) (j : Nat) (soK : Nat → Int32) (hn9_5 : n - j = n9_5) (hp : p9 = nI (323 * ns F j % 512)) (hi : i9 = nI j) (hj : j ≤ n) (hlt : layt soK F n (ns F j)) (H : Heap) (locs : List Loc) (ls : Array Slot), va_P (dC, dI) vwCl [(o, Sum.inr (9, mO g fForm fShift fModels fItems fEnded fLow fRange fCache fPend fGoes fOuts fIns fReads fBad fIR fAsk fBAsk fCode fRL fRR fX fWrites fThrown)), ((g 0), Sum.inl (cI, 8, Sum.inl vMany)), (a, Sum.inl (cI, 512, Sum.inl f)), ((g 9), Sum.inl (cI, 512, Sum.inl soK)), ((g 10), Sum.inl (cI, 512, Sum.inl vNO))] H → va_D A [(o, Sum.inr (9, mO g fForm fShift fModels fItems fEnded fLow fRange fCache fPend fGoes fOuts fIns fReads fBad fIR fAsk fBAsk fCode fRL fRR fX fWrites fThrown)), ((g 0), Sum.inl (cI, 8, Sum.inl vMany)), (a, Sum.inl (cI, 512, Sum.inl f)), ((g 9), Sum.inl (cI, 512, Sum.inl soK)), ((g 10), Sum.inl (cI, 512, Sum.inl vNO))] → va_S A s.heap H locs → lv_has ls 7 [(4, Value.int i9), (3, Value.int p9), (0, Value.ref o), (1, Value.ref a), (2, Value.int (nI mm))] → W p l e R s m args below meth c H locs 0 0 Q (F0 m 5 ls []) := by
    intro n9_5
    induction n9_5 using Nat.strongRecOn with
    | ind n9_5 ih9_5 =>
      intro p9 i9 j soK hn9_5 hp hi hj hlt H locs ls hP hD hS hl
      refine lv_iload hx hb d_M_lay_5 (lv_at hl 0 rfl) ?_
      refine lv_aload_n hx hb d_M_lay_7 rfl (lv_at hl 2 rfl) ?_
      refine va_get (D := (dC, dI)) (ci := 9) (v := .ref (g 0)) (C := "RangeCodersModel") (T := T_M) (N := 35) hx hb hg in_M hown hK hP 0 rfl rfl 3 (by decide) (hg _ k955) (fun _ h9 => h9) rfl d_M_lay_8 ?_
      refine lv_iload_n hx hb d_M_lay_11 rfl (lv_at hl 4 rfl) ?_
      refine va_iald hx hb hK hP 1 0 rfl rfl (vp_in_nI hmm (by decide)) d_M_lay_12 ?_
      refine lv_topi (fun v_1 ev_1 => ?_)
      have hv9 : v_1 = nI n := by subst_vars; rw [nI_clamp (by omega)]; exact hn
      refine lv_icmp_ge (tgt := 63) hx hb d_M_lay_13 (by decide) (fun c_2 => ?_) (fun c_2 => ?_)
      · have hj3 : j = n := by
          rcases Nat.lt_or_ge j n with q | q
          · exact absurd c_2 (by rw [hv9, hi]; exact nI_ge q (by omega))
          · omega
        rw [hj3, hsum] at hlt
        have hso := layt_e hlt
        refine lv_iconst (v := 0) hx hb d_M_lay_63 (by decide) ?_
        refine lv_istore (lv' := [(4, Value.int 0), (3, Value.int p9), (0, Value.ref o), (1, Value.ref a), (2, Value.int (nI mm))]) hx hb d_M_lay_64 hl (by decide) rfl (fun ls hl => ?_)
        have J_66 : ∀ (n9_66 : Nat) (i9 : Int32) (pp : Nat) (noK : Nat → Int32) (hn9_66 : 512 - pp = n9_66) (hi : i9 = nI pp) (hpp : pp ≤ 512) (hno : ∀ z, z < pp → noK z = nI (num F n z)) (H : Heap) (locs : List Loc) (ls : Array Slot), va_P (dC, dI) vwCl [(o, Sum.inr (9, mO g fForm fShift fModels fItems fEnded fLow fRange fCache fPend fGoes fOuts fIns fReads fBad fIR fAsk fBAsk fCode fRL fRR fX fWrites fThrown)), ((g 0), Sum.inl (cI, 8, Sum.inl vMany)), (a, Sum.inl (cI, 512, Sum.inl f)), ((g 9), Sum.inl (cI, 512, Sum.inl soK)), ((g 10), Sum.inl (cI, 512, Sum.inl noK))] H → va_D A [(o, Sum.inr (9, mO g fForm fShift fModels fItems fEnded fLow fRange fCache fPend fGoes fOuts fIns fReads fBad fIR fAsk fBAsk fCode fRL fRR fX fWrites fThrown)), ((g 0), Sum.inl (cI, 8, Sum.inl vMany)), (a, Sum.inl (cI, 512, Sum.inl f)), ((g 9), Sum.inl (cI, 512, Sum.inl soK)), ((g 10), Sum.inl (cI, 512, Sum.inl noK))] → va_S A s.heap H locs → lv_has ls 7 [(4, Value.int i9), (0, Value.ref o), (1, Value.ref a), (2, Value.int (nI mm))] → W p l e R s m args below meth c H locs 0 0 Q (F0 m 66 ls []) := by
          intro n9_66
          induction n9_66 using Nat.strongRecOn with
          | ind n9_66 ih9_66 =>
            intro i9 pp noK hn9_66 hi hpp hno H locs ls hP hD hS hl
            refine lv_iload hx hb d_M_lay_66 (lv_at hl 0 rfl) ?_
            refine lv_sipush (v := 512) hx hb d_M_lay_68 (by decide) ?_
            refine lv_icmp_ge (tgt := 136) hx hb d_M_lay_71 (by decide) (fun c_3 => ?_) (fun c_3 => ?_)
            · have hp6 : pp = 512 := by rw [hi] at c_3; have := (nI_cmp (a := 512) (by decide) (by omega)).mp c_3; omega
              exact my_vret hx hb hr hlocks hQ hK hS (Nat.le_refl _) (Nat.le_refl _) (soK, noK) (⟨hso, by rw [← hp6]; exact hno⟩) (hP.sub [0, 1, 2, 3, 4] rfl) (hD.sub [0, 1, 2, 3, 4] (by decide +kernel) rfl) d_M_lay_136
            · have hp5 : pp < 512 := by
                rcases Nat.lt_or_ge pp 512 with z | z
                · exact z
                · exact absurd (by rw [hi]; exact nI_le (a := 512) z (by omega)) c_3
              have hpl := plc_lt (p := pp) hsum
              refine lv_iconst (v := 0) hx hb d_M_lay_74 (by decide) ?_
              refine lv_istore (lv' := [(5, Value.int 0), (4, Value.int i9), (0, Value.ref o), (1, Value.ref a), (2, Value.int (nI mm))]) hx hb d_M_lay_75 hl (by decide) rfl (fun ls hl => ?_)
              refine lv_iconst (v := 0) hx hb d_M_lay_77 (by decide) ?_
              refine lv_istore (lv' := [(6, Value.int 0), (5, Value.int 0), (4, Value.int i9), (0, Value.ref o), (1, Value.ref a), (2, Value.int (nI mm))]) hx hb d_M_lay_78 hl (by decide) rfl (fun ls hl => ?_)
              have J_80 : ∀ (n9_80 : Nat) (n9v : Int32) (q9 : Int32) (qq : Nat) (hn9_80 : pp - qq = n9_80) (hc9 : n9v = nI (cn (plc F n) (plc F n pp) qq)) (hq : q9 = nI qq) (hq1 : qq ≤ pp) (H : Heap) (locs : List Loc) (ls : Array Slot), va_P (dC, dI) vwCl [(o, Sum.inr (9, mO g fForm fShift fModels fItems fEnded fLow fRange fCache fPend fGoes fOuts fIns fReads fBad fIR fAsk fBAsk fCode fRL fRR fX fWrites fThrown)), ((g 0), Sum.inl (cI, 8, Sum.inl vMany)), (a, Sum.inl (cI, 512, Sum.inl f)), ((g 9), Sum.inl (cI, 512, Sum.inl soK)), ((g 10), Sum.inl (cI, 512, Sum.inl noK))] H → va_D A [(o, Sum.inr (9, mO g fForm fShift fModels fItems fEnded fLow fRange fCache fPend fGoes fOuts fIns fReads fBad fIR fAsk fBAsk fCode fRL fRR fX fWrites fThrown)), ((g 0), Sum.inl (cI, 8, Sum.inl vMany)), (a, Sum.inl (cI, 512, Sum.inl f)), ((g 9), Sum.inl (cI, 512, Sum.inl soK)), ((g 10), Sum.inl (cI, 512, Sum.inl noK))] → va_S A s.heap H locs → lv_has ls 7 [(6, Value.int q9), (5, Value.int n9v), (4, Value.int i9), (0, Value.ref o), (1, Value.ref a), (2, Value.int (nI mm))] → W p l e R s m args below meth c H locs 0 0 Q (F0 m 80 ls []) := by
                intro n9_80
                induction n9_80 using Nat.strongRecOn with
                | ind n9_80 ih9_80 =>
                  intro n9v q9 qq hn9_80 hc9 hq hq1 H locs ls hP hD hS hl
                  refine lv_iload hx hb d_M_lay_80 (lv_at hl 0 rfl) ?_
                  refine lv_iload hx hb d_M_lay_82 (lv_at hl 2 rfl) ?_
                  refine lv_icmp_ge (tgt := 121) hx hb d_M_lay_84 (by decide) (fun c_4 => ?_) (fun c_4 => ?_)
                  · have hq3 : qq = pp := by rw [hi, hq] at c_4; have := (nI_cmp (by omega) (by omega)).mp c_4; omega
                    refine lv_aload_n hx hb d_M_lay_121 rfl (lv_at hl 3 rfl) ?_
                    refine va_get (D := (dC, dI)) (ci := 9) (v := .ref (g 10)) (C := "RangeCodersModel") (T := T_M) (N := 35) hx hb hg in_M hown hK hP 0 rfl rfl 31 (by decide) (hg _ k983) (fun _ h9 => h9) rfl d_M_lay_122 ?_
                    refine lv_iload hx hb d_M_lay_125 (lv_at hl 2 rfl) ?_
                    refine lv_iload hx hb d_M_lay_127 (lv_at hl 1 rfl) ?_
                    refine va_iast hx hb hK hP hD hS 4 0 rfl rfl (by rw [hi]; exact vp_in_nI hp5 (by decide)) d_M_lay_129 (fun H locs hP hD hS => ?_)
                    have hP : va_P (dC, dI) vwCl [(o, Sum.inr (9, mO g fForm fShift fModels fItems fEnded fLow fRange fCache fPend fGoes fOuts fIns fReads fBad fIR fAsk fBAsk fCode fRL fRR fX fWrites fThrown)), ((g 0), Sum.inl (cI, 8, Sum.inl vMany)), (a, Sum.inl (cI, 512, Sum.inl f)), ((g 9), Sum.inl (cI, 512, Sum.inl soK)), ((g 10), Sum.inl (cI, 512, Sum.inl (upd noK i9.toNatClampNeg n9v)))] H := hP
                    have hD : va_D A [(o, Sum.inr (9, mO g fForm fShift fModels fItems fEnded fLow fRange fCache fPend fGoes fOuts fIns fReads fBad fIR fAsk fBAsk fCode fRL fRR fX fWrites fThrown)), ((g 0), Sum.inl (cI, 8, Sum.inl vMany)), (a, Sum.inl (cI, 512, Sum.inl f)), ((g 9), Sum.inl (cI, 512, Sum.inl soK)), ((g 10), Sum.inl (cI, 512, Sum.inl (upd noK i9.toNatClampNeg n9v)))] := hD
                    obtain ⟨v_5, ev_5⟩ : ∃ y : Int32, y = i9 + (1) := ⟨_, rfl⟩
                    refine lv_iinc (v := v_5) (lv' := [(4, Value.int v_5), (6, Value.int q9), (5, Value.int n9v), (0, Value.ref o), (1, Value.ref a), (2, Value.int (nI mm))]) hx hb d_M_lay_130 hl (k := 2) rfl (by rw [ev_5]; rfl) (by decide) rfl (fun ls hl => ?_)
                    refine lv_goto (tgt := 66) hx hb d_M_lay_133 (by decide) ?_
                    exact ih9_66 _ (by first | omega | (omega)) v_5 (pp + 1) (upd noK i9.toNatClampNeg n9v) rfl (by subst_vars; exact nI_1 _) (by omega) (no_st hno (by rw [hi]; exact nI_clamp (by omega)) (by rw [hc9, hq3]; rfl)) H locs ls (hP.sub [0, 1, 2, 3, 4] rfl) (hD.sub [0, 1, 2, 3, 4] (by decide +kernel) rfl) hS (lv_sub hl [0, 3, 4, 5] rfl)
                  · have hq2 : qq < pp := by
                      rcases Nat.lt_or_ge qq pp with z | z
                      · exact z
                      · exact absurd (by rw [hi, hq]; exact nI_le z (by omega)) c_4
                    have hpq := plc_lt (p := qq) hsum
                    refine lv_aload_n hx hb d_M_lay_87 rfl (lv_at hl 3 rfl) ?_
                    refine va_get (D := (dC, dI)) (ci := 9) (v := .ref (g 9)) (C := "RangeCodersModel") (T := T_M) (N := 35) hx hb hg in_M hown hK hP 0 rfl rfl 30 (by decide) (hg _ k982) (fun _ h9 => h9) rfl d_M_lay_88 ?_
                    refine lv_iload hx hb d_M_lay_91 (lv_at hl 0 rfl) ?_
                    refine va_iald hx hb hK hP 3 0 rfl rfl (by rw [hq]; exact vp_in_nI (by omega) (by decide)) d_M_lay_93 ?_
                    refine lv_topi (fun v_6 ev_6 => ?_)
                    have z9 : v_6 = nI (plc F n qq) := by subst_vars; rw [nI_clamp (by omega)]; exact hso _ (by omega)
                    subst z9
                    refine lv_aload_n hx hb d_M_lay_94 rfl (lv_at hl 3 rfl) ?_
                    refine va_get (D := (dC, dI)) (ci := 9) (v := .ref (g 9)) (C := "RangeCodersModel") (T := T_M) (N := 35) hx hb hg in_M hown hK hP 0 rfl rfl 30 (by decide) (hg _ k982) (fun _ h9 => h9) rfl d_M_lay_95 ?_
                    refine lv_iload hx hb d_M_lay_98 (lv_at hl 2 rfl) ?_
                    refine va_iald hx hb hK hP 3 0 rfl rfl (by rw [hi]; exact vp_in_nI hp5 (by decide)) d_M_lay_100 ?_
                    refine lv_topi (fun v_7 ev_7 => ?_)
                    have z9 : v_7 = nI (plc F n pp) := by subst_vars; rw [nI_clamp (by omega)]; exact hso _ (by omega)
                    subst z9
                    refine lv_icmp_ne (tgt := 111) hx hb d_M_lay_101 (by decide) (fun c_8 => ?_) (fun c_8 => ?_)
                    · refine lv_iload hx hb d_M_lay_111 (lv_at hl 1 rfl) ?_
                      have hcn : n9v = nI (cn (plc F n) (plc F n pp) (qq + 1)) := by
                        rw [cn, if_neg (fun z => c_8 (by rw [z]))]
                        exact hc9
                      refine lv_istore (lv' := [(5, Value.int n9v), (6, Value.int q9), (4, Value.int i9), (0, Value.ref o), (1, Value.ref a), (2, Value.int (nI mm))]) hx hb d_M_lay_113 hl (by decide) rfl (fun ls hl => ?_)
                      obtain ⟨v_9, ev_9⟩ : ∃ y : Int32, y = q9 + (1) := ⟨_, rfl⟩
                      refine lv_iinc (v := v_9) (lv' := [(6, Value.int v_9), (5, Value.int n9v), (4, Value.int i9), (0, Value.ref o), (1, Value.ref a), (2, Value.int (nI mm))]) hx hb d_M_lay_115 hl (k := 1) rfl (by rw [ev_9]; rfl) (by decide) rfl (fun ls hl => ?_)
                      refine lv_goto (tgt := 80) hx hb d_M_lay_118 (by decide) ?_
                      exact ih9_80 _ (by first | omega | (omega)) n9v v_9 (qq + 1) rfl (hcn) (by subst_vars; exact nI_1 qq) (by omega) H locs ls (hP.sub [0, 1, 2, 3, 4] rfl) (hD.sub [0, 1, 2, 3, 4] (by decide +kernel) rfl) hS (lv_sub hl [0, 1, 2, 3, 4, 5] rfl)
                    · refine lv_iload hx hb d_M_lay_104 (lv_at hl 1 rfl) ?_
                      refine lv_iconst (v := 1) hx hb d_M_lay_106 (by decide) ?_
                      refine lv_iadd hx hb d_M_lay_107 ?_
                      refine lv_topi (fun v_10 ev_10 => ?_)
                      refine lv_goto (tgt := 113) hx hb d_M_lay_108 (by decide) ?_
                      have hcn : v_10 = nI (cn (plc F n) (plc F n pp) (qq + 1)) := by
                        rw [cn, if_pos ((nI_eq (by omega) (by omega)).mp c_8)]
                        subst_vars
                        exact nI_1 _
                      refine lv_istore (lv' := [(5, Value.int v_10), (6, Value.int q9), (4, Value.int i9), (0, Value.ref o), (1, Value.ref a), (2, Value.int (nI mm))]) hx hb d_M_lay_113 hl (by decide) rfl (fun ls hl => ?_)
                      obtain ⟨v_11, ev_11⟩ : ∃ y : Int32, y = q9 + (1) := ⟨_, rfl⟩
                      refine lv_iinc (v := v_11) (lv' := [(6, Value.int v_11), (5, Value.int v_10), (4, Value.int i9), (0, Value.ref o), (1, Value.ref a), (2, Value.int (nI mm))]) hx hb d_M_lay_115 hl (k := 1) rfl (by rw [ev_11]; rfl) (by decide) rfl (fun ls hl => ?_)
                      refine lv_goto (tgt := 80) hx hb d_M_lay_118 (by decide) ?_
                      exact ih9_80 _ (by first | omega | (omega)) v_10 v_11 (qq + 1) rfl (hcn) (by subst_vars; exact nI_1 qq) (by omega) H locs ls (hP.sub [0, 1, 2, 3, 4] rfl) (hD.sub [0, 1, 2, 3, 4] (by decide +kernel) rfl) hS (lv_sub hl [0, 1, 2, 3, 4, 5] rfl)
              exact J_80 _ 0 0 0 rfl (rfl) (rfl) (Nat.zero_le _) H locs ls (hP.sub [0, 1, 2, 3, 4] rfl) (hD.sub [0, 1, 2, 3, 4] (by decide +kernel) rfl) hS (lv_sub hl [0, 1, 2, 3, 4, 5] rfl)
        exact J_66 _ 0 0 vNO rfl (rfl) (Nat.zero_le _) (fun _ z => absurd z (Nat.not_lt_zero _)) H locs ls (hP.sub [0, 1, 2, 3, 4] rfl) (hD.sub [0, 1, 2, 3, 4] (by decide +kernel) rfl) hS (lv_sub hl [0, 2, 3, 4] rfl)
      · have hj2 : j < n := by
          rcases Nat.lt_or_ge j n with q | q
          · exact q
          · exact absurd (by rw [hv9, hi]; exact nI_le q (by omega)) c_2
        refine lv_iconst (v := 0) hx hb d_M_lay_16 (by decide) ?_
        refine lv_istore (lv' := [(5, Value.int 0), (4, Value.int i9), (3, Value.int p9), (0, Value.ref o), (1, Value.ref a), (2, Value.int (nI mm))]) hx hb d_M_lay_17 hl (by decide) rfl (fun ls hl => ?_)
        have J_19 : ∀ (n9_19 : Nat) (p8 : Int32) (k9 : Int32) (k : Nat) (soJ : Nat → Int32) (hn9_19 : F j - k = n9_19) (hp2 : p8 = nI (323 * (ns F j + k) % 512)) (hk : k9 = nI k) (hk1 : k ≤ F j) (hl2 : layt soJ F n (ns F j + k)) (H : Heap) (locs : List Loc) (ls : Array Slot), va_P (dC, dI) vwCl [(o, Sum.inr (9, mO g fForm fShift fModels fItems fEnded fLow fRange fCache fPend fGoes fOuts fIns fReads fBad fIR fAsk fBAsk fCode fRL fRR fX fWrites fThrown)), ((g 0), Sum.inl (cI, 8, Sum.inl vMany)), (a, Sum.inl (cI, 512, Sum.inl f)), ((g 9), Sum.inl (cI, 512, Sum.inl soJ)), ((g 10), Sum.inl (cI, 512, Sum.inl vNO))] H → va_D A [(o, Sum.inr (9, mO g fForm fShift fModels fItems fEnded fLow fRange fCache fPend fGoes fOuts fIns fReads fBad fIR fAsk fBAsk fCode fRL fRR fX fWrites fThrown)), ((g 0), Sum.inl (cI, 8, Sum.inl vMany)), (a, Sum.inl (cI, 512, Sum.inl f)), ((g 9), Sum.inl (cI, 512, Sum.inl soJ)), ((g 10), Sum.inl (cI, 512, Sum.inl vNO))] → va_S A s.heap H locs → lv_has ls 7 [(5, Value.int k9), (3, Value.int p8), (4, Value.int i9), (0, Value.ref o), (1, Value.ref a), (2, Value.int (nI mm))] → W p l e R s m args below meth c H locs 0 0 Q (F0 m 19 ls []) := by
          intro n9_19
          induction n9_19 using Nat.strongRecOn with
          | ind n9_19 ih9_19 =>
            intro p8 k9 k soJ hn9_19 hp2 hk hk1 hl2 H locs ls hP hD hS hl
            refine lv_iload hx hb d_M_lay_19 (lv_at hl 0 rfl) ?_
            refine lv_aload_n hx hb d_M_lay_21 rfl (lv_at hl 4 rfl) ?_
            refine lv_bipush (v := 64) hx hb d_M_lay_22 (by decide) ?_
            refine lv_iload_n hx hb d_M_lay_24 rfl (lv_at hl 5 rfl) ?_
            refine lv_imul hx hb d_M_lay_25 ?_
            refine lv_topi (fun v_12 ev_12 => ?_)
            refine lv_iload hx hb d_M_lay_26 (lv_at hl 2 rfl) ?_
            refine lv_iadd hx hb d_M_lay_28 ?_
            refine lv_topi (fun v_13 ev_13 => ?_)
            have hix : v_13 = nI (64 * mm + j) := by subst_vars; exact ix64
            refine va_iald hx hb hK hP 2 0 rfl rfl (by rw [hix]; exact vp_in_nI (by omega) (by decide)) d_M_lay_29 ?_
            refine lv_topi (fun v_14 ev_14 => ?_)
            have hFv : v_14 = nI (F j) := by rw [ev_14, hix, nI_clamp (by omega)]; exact hf j hj2
            have hm1 := ns_m1 F hj2
            refine lv_icmp_ge (tgt := 57) hx hb d_M_lay_30 (by decide) (fun c_15 => ?_) (fun c_15 => ?_)
            · have hk3 : ns F j + k = ns F (j + 1) := by
                rw [hFv, hk] at c_15
                have := (nI_cmp (by omega) (by omega)).mp c_15
                rw [ns]; omega
              obtain ⟨v_16, ev_16⟩ : ∃ y : Int32, y = i9 + (1) := ⟨_, rfl⟩
              refine lv_iinc (v := v_16) (lv' := [(4, Value.int v_16), (5, Value.int k9), (3, Value.int p8), (0, Value.ref o), (1, Value.ref a), (2, Value.int (nI mm))]) hx hb d_M_lay_57 hl (k := 2) rfl (by rw [ev_16]; rfl) (by decide) rfl (fun ls hl => ?_)
              refine lv_goto (tgt := 5) hx hb d_M_lay_60 (by decide) ?_
              exact ih9_5 _ (by first | omega | (omega)) p8 v_16 (j + 1) soJ rfl (by rw [hp2, hk3]) (by subst_vars; exact nI_1 j) (by omega) (by rw [hk3] at hl2; exact hl2) H locs ls (hP.sub [0, 1, 2, 3, 4] rfl) (hD.sub [0, 1, 2, 3, 4] (by decide +kernel) rfl) hS (lv_sub hl [0, 2, 3, 4, 5] rfl)
            · have hk2 : k < F j := by
                rcases Nat.lt_or_ge k (F j) with z | z
                · exact z
                · exact absurd (by rw [hFv, hk]; exact nI_le z (by omega)) c_15
              have hm5 := Nat.mod_lt (323 * (ns F j + k)) (show 0 < 512 by decide)
              refine lv_aload_n hx hb d_M_lay_33 rfl (lv_at hl 3 rfl) ?_
              refine va_get (D := (dC, dI)) (ci := 9) (v := .ref (g 9)) (C := "RangeCodersModel") (T := T_M) (N := 35) hx hb hg in_M hown hK hP 0 rfl rfl 30 (by decide) (hg _ k982) (fun _ h9 => h9) rfl d_M_lay_34 ?_
              refine lv_iload_n hx hb d_M_lay_37 rfl (lv_at hl 1 rfl) ?_
              refine lv_iload hx hb d_M_lay_38 (lv_at hl 2 rfl) ?_
              refine va_iast hx hb hK hP hD hS 3 0 rfl rfl (by rw [hp2]; exact vp_in_nI hm5 (by decide)) d_M_lay_40 (fun H locs hP hD hS => ?_)
              have hP : va_P (dC, dI) vwCl [(o, Sum.inr (9, mO g fForm fShift fModels fItems fEnded fLow fRange fCache fPend fGoes fOuts fIns fReads fBad fIR fAsk fBAsk fCode fRL fRR fX fWrites fThrown)), ((g 0), Sum.inl (cI, 8, Sum.inl vMany)), (a, Sum.inl (cI, 512, Sum.inl f)), ((g 9), Sum.inl (cI, 512, Sum.inl (upd soJ p8.toNatClampNeg i9))), ((g 10), Sum.inl (cI, 512, Sum.inl vNO))] H := hP
              have hD : va_D A [(o, Sum.inr (9, mO g fForm fShift fModels fItems fEnded fLow fRange fCache fPend fGoes fOuts fIns fReads fBad fIR fAsk fBAsk fCode fRL fRR fX fWrites fThrown)), ((g 0), Sum.inl (cI, 8, Sum.inl vMany)), (a, Sum.inl (cI, 512, Sum.inl f)), ((g 9), Sum.inl (cI, 512, Sum.inl (upd soJ p8.toNatClampNeg i9))), ((g 10), Sum.inl (cI, 512, Sum.inl vNO))] := hD
              refine lv_iload_n hx hb d_M_lay_41 rfl (lv_at hl 1 rfl) ?_
              refine lv_sipush (v := 323) hx hb d_M_lay_42 (by decide) ?_
              refine lv_iadd hx hb d_M_lay_45 ?_
              refine lv_topi (fun v_17 ev_17 => ?_)
              refine lv_sipush (v := 512) hx hb d_M_lay_46 (by decide) ?_
              refine lv_irem hx hb d_M_lay_49 (by decide) ?_
              refine lv_topi (fun v_18 ev_18 => ?_)
              have hpn : v_18 = nI (323 * (ns F j + (k + 1)) % 512) := by
                subst_vars
                rw [show nI (323 * (ns F j + k) % 512) + 323 = nI (323 * (ns F j + k) % 512 + 323) from nI_add _ 323]
                refine (pk_rem (d := 512) (by omega) (by decide) (by decide)).trans ?_
                congr 1
                omega
              refine lv_istore_n (lv' := [(3, Value.int v_18), (5, Value.int k9), (4, Value.int i9), (0, Value.ref o), (1, Value.ref a), (2, Value.int (nI mm))]) hx hb d_M_lay_50 rfl hl (by decide) rfl (fun ls hl => ?_)
              obtain ⟨v_19, ev_19⟩ : ∃ y : Int32, y = k9 + (1) := ⟨_, rfl⟩
              refine lv_iinc (v := v_19) (lv' := [(5, Value.int v_19), (3, Value.int v_18), (4, Value.int i9), (0, Value.ref o), (1, Value.ref a), (2, Value.int (nI mm))]) hx hb d_M_lay_51 hl (k := 1) rfl (by rw [ev_19]; rfl) (by decide) rfl (fun ls hl => ?_)
              refine lv_goto (tgt := 19) hx hb d_M_lay_54 (by decide) ?_
              exact ih9_19 _ (by first | omega | (omega)) v_18 v_19 (k + 1) (upd soJ p8.toNatClampNeg i9) rfl (hpn) (by subst_vars; exact nI_1 k) (by omega) (layt_st (t := ns F j + k) hl2 (by omega) (by rw [hp2]; exact nI_clamp (by omega)) (by rw [hi, sgA_eq (s := j) hj2 (Nat.le_add_right _ _) (by omega)])) H locs ls (hP.sub [0, 1, 2, 3, 4] rfl) (hD.sub [0, 1, 2, 3, 4] (by decide +kernel) rfl) hS (lv_sub hl [0, 1, 2, 3, 4, 5] rfl)
        exact J_19 _ p9 0 0 soK rfl (hp) (rfl) (Nat.zero_le _) (hlt) H locs ls (hP.sub [0, 1, 2, 3, 4] rfl) (hD.sub [0, 1, 2, 3, 4] (by decide +kernel) rfl) hS (lv_sub hl [0, 2, 1, 3, 4, 5] rfl)
  exact J_5 _ 0 0 0 vSO rfl (rfl) (rfl) (Nat.zero_le _) (fun _ z => absurd z (Nat.not_lt_zero _)) H locs ls (hP.sub [0, 1, 2, 3, 4] rfl) (hD.sub [0, 1, 2, 3, 4] (by decide +kernel) rfl) hS (lv_sub hl [0, 1, 2, 3, 4] rfl)

