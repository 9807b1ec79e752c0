section
theorem whole_start {p : Program} {e : Env} {s : State} {m : MethodId} {below : List Frame} {meth : Method} {c : Code} (l : Launch) {b L : Nat} {xs : Nat → Int32} (hL : L ≤ 2050) (C0 : lw_At p s m meth c b L xs) : W p l e room_1 s m #[Value.ref b] below meth c s.heap [] 0 0 (lw_Z below #[Value.ref b] s) (entryFrame m ([Value.ref b] : List Value).toArray 4) := by
  obtain ⟨hx, hb, hr, hml, hown, hts, hX, hbl, hlocks, hgv⟩ := id C0
  have hg := gw_all hts
  have hN : nw s := nw.of hts
  have hA : ∀ q : Nat, s.heap.size ≤ q → (fun q : Nat => s.heap.size ≤ q) q := fun _ h => h
  have hbA : ¬ (fun q : Nat => s.heap.size ≤ q) b := Nat.not_le.mpr hbl
  obtain ⟨c0, iS0, hKn0⟩ := u_known (C := "RangeCoders$Row") (T := T_Row) (N := 2) (n := 2) hg in_Row (hg _ k52)
  obtain ⟨c1, iS1, hKn1⟩ := u_known (C := "RangeCoders$Carries") (T := T_Carries) (N := 11) (n := 11) hg in_Carries (hg _ k40)
  obtain ⟨c2, iS2, hKn2⟩ := u_known (C := "RangeCoders$NoCarries") (T := T_NoCarries) (N := 9) (n := 9) hg in_NoCarries (hg _ k155)
  obtain ⟨c3, iS3, hKn3⟩ := u_known (C := "RangeCoders$Bits") (T := T_Bits) (N := 15) (n := 15) hg in_Bits (hg _ k171)
  obtain ⟨c4, iS4, hKn4⟩ := u_known (C := "RangeCoders$Stack") (T := T_Stack) (N := 10) (n := 10) hg in_Stack (hg _ k201)
  obtain ⟨c5, iS5, hKn5⟩ := u_known (C := "RangeCoders$Table") (T := T_Table) (N := 10) (n := 10) hg in_Table (hg _ k242)
  obtain ⟨c6, iS6, hKn6⟩ := u_known (C := "RangeCoders") (T := T_RC) (N := 8) (n := 8) hg in_RC (hg _ k18)
  obtain ⟨c7, iS7, hKn7⟩ := u_known (C := "RangeCoders$Odds") (T := T_Odds) (N := 5) (n := 5) hg in_Odds (hg _ k295)
  obtain ⟨c8, iS8, hKn8⟩ := u_known (C := "RangeCoders$Model") (T := T_Model) (N := 3) (n := 3) hg in_Model (hg _ k287)
  obtain ⟨c9, iS9, hKn9⟩ := u_known (C := "RangeCodersModel") (T := T_M) (N := 35) (n := 35) hg in_M (hg _ k918)
  obtain ⟨cI, kI, pI, fI1, fI2, fI3⟩ := Cond.arrayClass_spec (hg _ k66)
  obtain ⟨pM, cM, kM, fM1, -, fM2, fM3, fM4⟩ := Cond.arrayOver_spec hN.2.1
  obtain ⟨pO, cO, kO, fO1, -, fO2, fO3, fO4⟩ := Cond.arrayOver_spec hN.2.2
  obtain ⟨dC, dI, hKc⟩ : ∃ (dC : Nat → ClassId) (dI : Nat → Nat → Nat), ∀ (k : Nat) (q : vw_C), vwCl[k]? = some q → u_Kn s q.1 q.2.1 q.2.2 (dC k) (dI k) := by
    refine ⟨fun k => if k = 0 then c0 else if k = 1 then c1 else if k = 2 then c2 else if k = 3 then c3 else if k = 4 then c4 else if k = 5 then c5 else if k = 6 then c6 else if k = 7 then c7 else if k = 8 then c8 else c9, fun k => if k = 0 then iS0 else if k = 1 then iS1 else if k = 2 then iS2 else if k = 3 then iS3 else if k = 4 then iS4 else if k = 5 then iS5 else if k = 6 then iS6 else if k = 7 then iS7 else if k = 8 then iS8 else iS9, ?_⟩
    intro k q hq
    match k, hq with
    | 0, hq => cases hq; exact hKn0
    | 1, hq => cases hq; exact hKn1
    | 2, hq => cases hq; exact hKn2
    | 3, hq => cases hq; exact hKn3
    | 4, hq => cases hq; exact hKn4
    | 5, hq => cases hq; exact hKn5
    | 6, hq => cases hq; exact hKn6
    | 7, hq => cases hq; exact hKn7
    | 8, hq => cases hq; exact hKn8
    | 9, hq => cases hq; exact hKn9
    | k + 10, hq => simp [vwCl] at hq
  have hK : va_K (dC, dI) vwCl (kT cI cM cO) s := by
    refine ⟨hKc, fun k q h => ?_⟩
    match k, h with
    | 0, h => cases h; exact ⟨fun n z => ⟨fun k h => (by cases h), kI, fI2, pI, fI3⟩, fI1⟩
    | 1, h => cases h; exact ⟨fun n z => ⟨fun k h => (by cases h), kM, fM2, pM, fM3⟩, ⟨kM, pM, fM2, fM3, fM1, fM4⟩⟩
    | 2, h => cases h; exact ⟨fun n z => ⟨fun k h => (by cases h), kO, fO2, pO, fO3⟩, ⟨kO, pO, fO2, fO3, fO1, fO4⟩⟩
    | k + 3, h => simp [kT] at h
  have hl := lv_entry ([Value.ref b]) (n := 4) (Nat.le_of_ble_eq_true rfl)
  rw [lg_entry_eq]
  generalize (lg_sl ([Value.ref b]) ++ List.replicate (4 - (lg_sl ([Value.ref b])).length) Slot.unset).toArray = ls at hl ⊢
  have hl : lv_has ls 4 [(0, Value.ref b)] := hl
  obtain ⟨n, -, hn4, hfm⟩ := near_n (cellV L xs 0) (a := 0) (b := 4) (by decide) (by decide)
  match n, hn4, hfm with
  | 0, _, hfm => exact pro_Carries (A := fun q : Nat => s.heap.size ≤ q) l dC dI cI cM cO hx hb hml hown hg hN hK rfl hA hX hbl hbA hL hfm (fun rc o dd H locs ls hLI hS hl => loop_Carries l dC dI cI cM cO hx hb hml hown hg hN hK hA hX hbl hbA hL hr hlocks (fun _ h => h) 600 0 2 dd H locs ls (by omega) (by omega) (by omega) hLI hS hl) ls hl
  | 1, _, hfm => exact pro_NoCarries (A := fun q : Nat => s.heap.size ≤ q) l dC dI cI cM cO hx hb hml hown hg hN hK rfl hA hX hbl hbA hL hfm (fun rc o dd H locs ls hLI hS hl => loop_NoCarries l dC dI cI cM cO hx hb hml hown hg hN hK hA hX hbl hbA hL hr hlocks (fun _ h => h) 600 0 2 dd H locs ls (by omega) (by omega) (by omega) hLI hS hl) ls hl
  | 2, _, hfm => exact pro_Bits (A := fun q : Nat => s.heap.size ≤ q) l dC dI cI cM cO hx hb hml hown hg hN hK rfl hA hX hbl hbA hL hfm (fun rc o dd H locs ls hLI hS hl => loop_Bits l dC dI cI cM cO hx hb hml hown hg hN hK hA hX hbl hbA hL hr hlocks (fun _ h => h) 600 0 2 dd H locs ls (by omega) (by omega) (by omega) hLI hS hl) ls hl
  | 3, _, hfm => exact pro_Stack (A := fun q : Nat => s.heap.size ≤ q) l dC dI cI cM cO hx hb hml hown hg hN hK rfl hA hX hbl hbA hL hfm (fun rc o dd H locs ls hLI hS hl => loop_Stack l dC dI cI cM cO hx hb hml hown hg hN hK hA hX hbl hbA hL hr hlocks (fun _ h => h) 600 0 2 dd H locs ls (by omega) (by omega) (by omega) hLI hS hl) ls hl
  | 4, _, hfm => exact pro_Table (A := fun q : Nat => s.heap.size ≤ q) l dC dI cI cM cO hx hb hml hown hg hN hK rfl hA hX hbl hbA hL hfm (fun rc o dd H locs ls hLI hS hl => loop_Table l dC dI cI cM cO hx hb hml hown hg hN hK hA hX hbl hbA hL hr hlocks (fun _ h => h) 600 0 2 dd H locs ls (by omega) (by omega) (by omega) hLI hS hl) ls hl
  | n + 5, h, _ => exact absurd h (by omega)
-- ===== YOUR PART ENDS =====
set_option maxHeartbeats 4000000 in
theorem lw_walk (l : Launch) (b : Addr) (xs : List Int32) : MetFree l x (headSpec (Jvm.Cond.code x code maxLocals ret :: tables_1) room_1) (lw_P b xs) (fun _ _ _ _ _ => True) lw_Q := by
  refine MetFree.of_bodyS (code := code) (maxLocals := maxLocals) (ret := ret) (by decide) ?_ ?_
  · intro args s m h hn
    obtain ⟨meth, c, h1, h2, h3, h4, h5, h6, -, -⟩ := Cond.code_spec hn (atoms_spec (ws := Jvm.Cond.code x code maxLocals ret :: tables_1) h _ List.mem_cons_self)
    exact ⟨meth, c, h1, h2, h3, h4, h5, h6⟩
  · intro p e s m args below meth c s₁ B hml0 hP _
    obtain ⟨rfl, hx, hbd, hgv⟩ := hP
    obtain ⟨scr, harrAt, hlist, hof, hsmall⟩ := hx
    obtain ⟨hcb, hkn, -, -⟩ := State.arrayAt?_spec harrAt
    have hown : s.vm.findClass R_law = some m.cls := findClass_of_methodNamed B.named
    have hts0 : ∀ c ∈ (Jvm.Cond.code x code maxLocals ret :: tables_1), c.before #[Value.ref b] s = true := atoms_spec (ws := Jvm.Cond.code x code maxLocals ret :: tables_1) B.pre
    have hts : ∀ w ∈ lw_tbl, w.before #[Value.ref b] s = true := k2_hts_sels lw_privs (fun w hw => hts0 w (List.mem_cons_of_mem _ hw)) lw_privs_ok
    have hml : c.maxLocals = 4 := B.maxLocals_eq (hts0 _ List.mem_cons_self)
    have X₀ : Stand p l e room_1 s m #[Value.ref b] below meth c s₁ [] 0 0 := Stand.of_body B
    have hh0 : s₁.heap = s.heap := by rw [B.state]; rfl
    have hsz : scr.slots.size = xs.length := by rw [← Array.length_toList, hlist, List.length_map]
    have hval : ∀ j : Nat, j < xs.length → scr.slots[j]? = some (.int (xs.getD j 0)) := fun j hj => by
      rw [← Array.getElem?_toList, hlist]
      simp [hj]
    have hbl : b < s.heap.size := (Array.getElem?_eq_some_iff.mp hcb).1
    have hX : va_X b xs.length (fun j => xs.getD j 0) s s.heap := ⟨scr, hcb, hof, hkn, hsz, hval⟩
    have K : W p l e room_1 s m #[Value.ref b] below meth c s₁.heap [] 0 0 (lw_Z below #[Value.ref b] s) (entryFrame m ([Value.ref b] : List Value).toArray 4) := by
      rw [hh0]
      exact whole_start l hbd ⟨B.exec, B.bytes, B.returns, hml, hown, hts, hX, hbl, B.notSynchronized, hgv⟩
    obtain ⟨t, a1, o, b1, b2, b3⟩ := K s₁ rfl X₀
    exact ⟨t, o, a1, b1, b2, b3⟩
theorem lw_pre_spec {args : Array Value} {s : State} (h : (Jvm.Cond.and given_1 narrow_1).before args s = true) (hr : rest_1_c.before args s = true) : ∃ (b : Addr) (xs : List Int32), lw_P b xs args s := by
  have hs := flat_of_before _ h
  have hq := flat_of_before _ hr
  have hc : (Cond.count 1).before args s = true := hs _ (by decide +kernel)
  have harr : (Cond.arrayOf (.arg 0) .int).before args s = true := hs _ (by decide +kernel)
  have hle : (Cond.le (.length (.arg 0)) (.int 2050)).before args s = true := hs _ (by decide +kernel)
  have hlen : (Cond.isInt (.length (.arg 0))).before args s = true := hq _ (by decide +kernel)
  have hall : (Cond.all (.arg 0) (.isInt (.elem (.arg 0) (.index 0)))).before args s = true := hq _ (by decide +kernel)
  obtain ⟨b, xs, hb, hx⟩ := State.ints_of_pre rfl harr hlen hall
  have hsm : xs.length < 2 ^ 31 := hx.choose_spec.2.2.2
  have hev : (Term.length (.arg 0)).eval args s none [] s = some (.int xs.length.toInt32) := hx.length_eval hb
  have hv := Cond.le_ints hev (show (Term.int 2050).eval args s none [] s = some (.int 2050) from rfl)
  have hd : xs.length.toInt32 ≤ 2050 := by
    simpa [Cond.before, Cond.holds, hv] using hle
  have hN : xs.length ≤ 2050 := (Int32.ofNat_le_ofNat hsm (by decide)).mp (show Int32.ofNat xs.length ≤ Int32.ofNat 2050 from hd)
  exact ⟨b, xs, Cond.one_arg hc (show args[0]? = some (.ref b) from hb), hx, hN, h⟩
theorem lw_comes (l : Launch) : Comes l x (Jvm.Cond.code x code maxLocals ret :: tables_1) room_1 (fun tb e args s => Calls_1 tb e args s ∧ rest_1 tb e args s ∧ Pre_1 tb e args s)
    (fun _ _ args s o t => lw_Q args s o t) := by
  intro p e ha hc hk s m args below hf hfit hheap happ hpre
  obtain ⟨b, xs, hP⟩ := lw_pre_spec hpre.2.2 hpre.2.1
  obtain ⟨k, o, h1, h2, h3, hQ⟩ := lw_walk l b xs p e ha hc hk s m args below hf ((Spec.applies_iff_loose hf).mp happ).1 hP trivial
  exact ⟨k, o, h1, h2, h3, hQ⟩
theorem lw_frame {s t : State} {o : Outcome} {args : Array Value} (h : Framed s o t [] 600000 7302250) :
    Framed s o t (fieldLocs frame_1_writes args s ++ arrayLocs frame_1_arrays args s ++ staticLocs frame_1_statics s) 600000 7302250 := h
theorem lw_limb (L : Cond) (hL : ∀ (args : Array Value) (s t : State), L.after args s (.returned (some (.int 1))) t = true) :
    ArmFor flags0 classFile x code maxLocals ret World_1 tables_1 room_1 Calls_1 rest_1 Pre_1
      (fun tb e a s o t => postC L tb e a s o t ∧ Framed s o t (fieldLocs frame_1_writes a s ++ arrayLocs frame_1_arrays a s ++ staticLocs frame_1_statics s) 600000 7302250) := by
  intro l _ _ _ p e ha hc hk s m args below hf hfit hheap happ hpre
  obtain ⟨k, o, h1, h2, h3, rfl, hF⟩ := lw_comes l p e ha hc hk s m args below hf hfit hheap happ hpre
  exact ⟨k, _, h1, h2, h3, hL args s _, lw_frame hF⟩
theorem i_vc : Claimed_1_1 ∧ Claimed_1_2 := ⟨lw_limb limb_1_1 (fun args s t => by simp [limb_1_1, Cond.after, Cond.holds, Cond.value]), lw_limb limb_1_2 (fun args s t => Cond.after_iff.mpr (by
  first | (rw [show limb_1_2 = Cond.eq .result (.int 1) from rfl, Cond.eq_ints (x := 1) (y := 1) rfl rfl]; simp; done) | (simp [limb_1_2, Cond.value, Term.eval]; done)))⟩
end
