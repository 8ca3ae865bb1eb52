set_option maxHeartbeats 4000000 in
set_option maxRecDepth 100000 in
/-- bitPlace -/
theorem c_De_bp (l : Launch) (G : GG) (L : List Nat) (f : Nat → va_E) (x : Int64) (kk : Nat) (hk : kk ≤ 64) : Met l y_De_bitPlace (.code y_De_bitPlace b_De_bitPlace 7 (some .int) :: AW) (RM 1) (va_Pc [.long x, .int (nI kk)] (PW G L f)) (vp_Si (fun r => r = nI (bpos x kk))) 0 0 (fun _ => False) := by
  refine Met.ofW (cc := b_De_bitPlace) (maxL := 7) (ret := (some .int)) (by decide) rfl ?_
  intro p e s m args below meth c s₁ B hml hv
  obtain ⟨rfl, hP, hK⟩ := hv
  have hx := B.exec
  have hb := B.bytes
  have hr := B.returns
  have hA : ∀ w ∈ AW, w.before _ s = true := fun w h => atoms_spec (ws := (.code y_De_bitPlace b_De_bitPlace 7 (some .int) :: AW)) B.pre w (List.mem_cons_of_mem _ h)
  have hown : s.vm.findClass R_De = some m.cls := findClass_of_methodNamed B.named
  have hlocks := B.notSynchronized
  have hl := lv_entry ([.long x, .int (nI kk)]) (n := 7) (Nat.le_of_ble_eq_true rfl)
  rw [lg_entry_eq]
  generalize (lg_sl ([.long x, .int (nI kk)]) ++ List.replicate (7 - (lg_sl ([.long x, .int (nI kk)])).length) Slot.unset).toArray = ls at hl ⊢
  have hl : lv_has ls 7 [(0, .long x), (2, .int (nI kk))] := hl
  refine lv_lload_n hx hb d_De_bitPlace_0 rfl (lv_at hl 0 rfl) ?_
  refine lv_lstore_n (lv' := [(3, .long x), (0, .long x), (2, .int (nI kk))]) hx hb d_De_bitPlace_1 rfl hl (by decide) rfl (fun ls hl => ?_)
  refine lv_iconst (v := nI 0) hx hb d_De_bitPlace_2 (by decide) ?_
  refine lv_istore (lv' := [(5, .int (nI 0)), (3, .long x), (0, .long x), (2, .int (nI kk))]) hx hb d_De_bitPlace_3 hl (by decide) rfl (fun ls hl => ?_)
  have loop : ∀ (k i : Nat) (ls : Array Slot), i + k = kk → lv_has ls 7 [(2, .int (nI kk)), (3, .long (clr x i)), (5, .int (nI i))] → W p l e (headSpec (.code y_De_bitPlace b_De_bitPlace 7 (some .int) :: AW) (RM 1)).room s m ([.long x, .int (nI kk)] : List Value).toArray below meth c s.heap [] 0 0 (MQ below (vp_Si (fun r => r = nI (bpos x kk))) ([.long x, .int (nI kk)] : List Value).toArray s 0 0 (fun _ => False)) (F0 m 5 ls []) := by
    intro k
    induction k with
    | zero =>
      intro i  ls hik  hl
      have e9 : i = kk := by omega
      refine lv_iload hx hb d_De_bitPlace_5 (lv_at hl 2 rfl) ?_
      refine lv_iload_n hx hb d_De_bitPlace_7 rfl (lv_at hl 0 rfl) ?_
      refine lv_icmp_ge (tgt := 23) hx hb d_De_bitPlace_8 (by decide) (fun _ => ?_) (fun c9 => absurd (nI_le (by omega) (by omega)) c9)
      refine lv_lload_n hx hb d_De_bitPlace_23 rfl (lv_at hl 1 rfl) ?_
      refine lv_lload_n hx hb d_De_bitPlace_24 rfl (lv_at hl 1 rfl) ?_
      refine lv_lneg hx hb d_De_bitPlace_25 ?_
      refine lv_land hx hb d_De_bitPlace_26 ?_
      refine lv_lstore (lv' := [(5, .long ((clr x i) &&& (-(clr x i)))), (2, .int (nI kk)), (3, .long (clr x i))]) hx hb d_De_bitPlace_27 hl (by decide) rfl (fun ls hl => ?_)
      refine lv_lload hx hb d_De_bitPlace_29 (lv_at hl 0 rfl) ?_
      refine lv_lconst (v := 1) hx hb d_De_bitPlace_31 (by decide) ?_
      refine lv_lsub hx hb d_De_bitPlace_32 ?_
      refine vp_callSi (va_Run.run (va_runS (As := [.long (((clr x i) &&& (-(clr x i))) - 1)]) (rest := []) ⟨hx, hb, hml, hown, hA⟩ (c_bitCount l G L f (((clr x i) &&& (-(clr x i))) - 1)) ⟨callB_of 1 hA (gAW kw_76) rfl rfl rfl (hA _ kw_77) (hA _ kw_78) (by decide +kernel) ⟨Nat.le_of_ble_eq_true rfl, Nat.le_of_ble_eq_true rfl⟩, (hA _ kw_79)⟩ (pw_preS hP hK) rfl rfl hl.1 rfl (lv_room (Nat.le_of_ble_eq_true rfl)) d_De_bitPlace_33 ⟨Nat.zero_le _, Nat.zero_le _⟩)) (fun r_1 e_2 => ?_)
      subst e_2
      exact W.iret (v := nI (pop (((clr x i) &&& (-(clr x i))) - 1))) hx hb hr (fun t9 h9t h9W => ⟨_, rfl, by subst e9; rfl, h9t⟩) (fun _ h => nomatch h) d_De_bitPlace_36
    | succ k ih =>
      intro i  ls hik  hl
      refine lv_iload hx hb d_De_bitPlace_5 (lv_at hl 2 rfl) ?_
      refine lv_iload_n hx hb d_De_bitPlace_7 rfl (lv_at hl 0 rfl) ?_
      refine lv_icmp_ge (tgt := 23) hx hb d_De_bitPlace_8 (by decide) (fun c9 => absurd c9 (nI_ge (by omega) (by omega))) (fun _ => ?_)
      refine lv_lload_n hx hb d_De_bitPlace_11 rfl (lv_at hl 1 rfl) ?_
      refine lv_lload_n hx hb d_De_bitPlace_12 rfl (lv_at hl 1 rfl) ?_
      refine lv_lconst (v := 1) hx hb d_De_bitPlace_13 (by decide) ?_
      refine lv_lsub hx hb d_De_bitPlace_14 ?_
      refine lv_land hx hb d_De_bitPlace_15 ?_
      refine xv_J (y := clr x (i + 1)) rfl ?_
      refine lv_lstore_n (lv' := [(3, .long (clr x (i + 1))), (2, .int (nI kk)), (5, .int (nI i))]) hx hb d_De_bitPlace_16 rfl hl (by decide) rfl (fun ls hl => ?_)
      refine lv_iinc (v := nI (i + 1)) (lv' := [(5, .int (nI (i + 1))), (3, .long (clr x (i + 1))), (2, .int (nI kk))]) hx hb d_De_bitPlace_17 hl (k := 2) rfl (nI_1 i) (by decide) rfl (fun ls hl => ?_)
      refine lv_goto (tgt := 5) hx hb d_De_bitPlace_20 (by decide) ?_
      exact ih (i + 1)  ls (by omega)  (lv_sub hl [2, 1, 0] rfl)
  exact loop (kk - 0) 0  ls (by omega)  (lv_sub hl [3, 1, 0] rfl)

set_option maxHeartbeats 4000000 in
set_option maxRecDepth 100000 in
/-- conditions -/
theorem c_De_conditions (l : Launch) (G : GG) (L : List Nat) (f : Nat → va_E) {x0 cb rb : Nat} (hx0 : Lk L f x0 (.inr (4, [.ref cb, .ref rb]))) {mA gA cn : Nat} {ad wa kd : Nat → Nat} {ka kb kc : Nat → Int32} {wd : Nat → Nat → Int64} {mm : Nat → Bool} (hC : CoB G L f cb mA gA cn ad wa kd ka kb kc wd mm) : Met l y_De_conditions (.code y_De_conditions b_De_conditions 1 (some .int) :: AW) (RM 0) (va_Pc [.ref x0] (PW G L f)) (vp_Si (fun r => r = nI cn)) 0 0 (fun _ => False) := by
  refine Met.ofW (cc := b_De_conditions) (maxL := 1) (ret := (some .int)) (by decide) rfl ?_
  intro p e s m args below meth c s₁ B hml hv
  obtain ⟨rfl, hP, hK⟩ := hv
  have hx := B.exec
  have hb := B.bytes
  have hr := B.returns
  have hA : ∀ w ∈ AW, w.before _ s = true := fun w h => atoms_spec (ws := (.code y_De_conditions b_De_conditions 1 (some .int) :: AW)) B.pre w (List.mem_cons_of_mem _ h)
  have hown : s.vm.findClass R_De = some m.cls := findClass_of_methodNamed B.named
  have hlocks := B.notSynchronized
  have hl := lv_entry ([.ref x0]) (n := 1) (Nat.le_of_ble_eq_true rfl)
  rw [lg_entry_eq]
  generalize (lg_sl ([.ref x0]) ++ List.replicate (1 - (lg_sl ([.ref x0])).length) Slot.unset).toArray = ls at hl ⊢
  have hl : lv_has ls 1 [(0, .ref x0)] := hl
  have hcn := hC.1
  refine lv_aload_n hx hb d_De_conditions_0 rfl (lv_at hl 0 rfl) ?_
  refine va_get (D := G.1) (ci := 4) (v := .ref cb) (C := R_De) (T := T_De) (N := 2) hx hb hA in_De hown hK.1 (pl_o hP hx0) 0 rfl rfl 0 (by decide) (hA _ kw_80) (fun _ h9 => h9) rfl d_De_conditions_1 ?_
  refine va_getN (D := G.1) (ci := 1) (v := .int (nI cn)) (C := R_Cb) (T := T_Cb) (N := 3) hx hb hA in_Cb hown hK.1 (pl_o hP hC.2.1) 0 rfl rfl 2 (by decide) (va_Nw.use rfl (hK.2.1 _ kz_15)) (fun _ h9 => h9) rfl d_De_conditions_4 ?_
  exact W.iret (v := nI cn) hx hb hr (fun t9 h9t h9W => ⟨_, rfl, rfl, h9t⟩) (fun _ h => nomatch h) d_De_conditions_7

set_option maxHeartbeats 4000000 in
set_option maxRecDepth 100000 in
/-- rules -/
theorem c_De_rules (l : Launch) (G : GG) (L : List Nat) (f : Nat → va_E) {x0 cb rb : Nat} (hx0 : Lk L f x0 (.inr (4, [.ref cb, .ref rb]))) {rA rn : Nat} {rad ca wb rk nu : Nat → Nat} {dn : Nat → Bool} {vw : Nat → Nat → Int64} (hB : RuB G L f rb rA rn rad ca wb rk nu dn vw) : Met l y_De_rules (.code y_De_rules b_De_rules 1 (some .int) :: AW) (RM 0) (va_Pc [.ref x0] (PW G L f)) (vp_Si (fun r => r = nI rn)) 0 0 (fun _ => False) := by
  refine Met.ofW (cc := b_De_rules) (maxL := 1) (ret := (some .int)) (by decide) rfl ?_
  intro p e s m args below meth c s₁ B hml hv
  obtain ⟨rfl, hP, hK⟩ := hv
  have hx := B.exec
  have hb := B.bytes
  have hr := B.returns
  have hA : ∀ w ∈ AW, w.before _ s = true := fun w h => atoms_spec (ws := (.code y_De_rules b_De_rules 1 (some .int) :: AW)) B.pre w (List.mem_cons_of_mem _ h)
  have hown : s.vm.findClass R_De = some m.cls := findClass_of_methodNamed B.named
  have hlocks := B.notSynchronized
  have hl := lv_entry ([.ref x0]) (n := 1) (Nat.le_of_ble_eq_true rfl)
  rw [lg_entry_eq]
  generalize (lg_sl ([.ref x0]) ++ List.replicate (1 - (lg_sl ([.ref x0])).length) Slot.unset).toArray = ls at hl ⊢
  have hl : lv_has ls 1 [(0, .ref x0)] := hl
  have hrn := hB.1
  refine lv_aload_n hx hb d_De_rules_0 rfl (lv_at hl 0 rfl) ?_
  refine va_get (D := G.1) (ci := 4) (v := .ref rb) (C := R_De) (T := T_De) (N := 2) hx hb hA in_De hown hK.1 (pl_o hP hx0) 0 rfl rfl 1 (by decide) (hA _ kw_81) (fun _ h9 => h9) rfl d_De_rules_1 ?_
  refine va_getN (D := G.1) (ci := 3) (v := .int (nI rn)) (C := R_Rb) (T := T_Rb) (N := 2) hx hb hA in_Rb hown hK.1 (pl_o hP hB.2.1) 0 rfl rfl 1 (by decide) (va_Nw.use rfl (hK.2.1 _ kz_16)) (fun _ h9 => h9) rfl d_De_rules_4 ?_
  exact W.iret (v := nI rn) hx hb hr (fun t9 h9t h9W => ⟨_, rfl, rfl, h9t⟩) (fun _ h => nomatch h) d_De_rules_7

set_option maxHeartbeats 4000000 in
set_option maxRecDepth 100000 in
/-- allowedIn -/
theorem c_De_alIn (l : Launch) (G : GG) (L : List Nat) (f : Nat → va_E) {x0 cb rb : Nat} (hx0 : Lk L f x0 (.inr (4, [.ref cb, .ref rb]))) {rA rn : Nat} {rad ca wb rk nu : Nat → Nat} {dn : Nat → Bool} {vw : Nat → Nat → Int64} (hB : RuB G L f rb rA rn rad ca wb rk nu dn vw) (j : Nat) (hj : j < 96) : Met l y_De_allowedIn (.code y_De_allowedIn b_De_allowedIn 2 (some .long) :: AW) (RM 4) (va_Pc [.ref x0, .int (nI j)] (PW G L f)) (vp_Sl (fun r => r = alF vw dn j rn 0 (-1) 0)) 0 0 (fun _ => False) := by
  refine Met.ofW (cc := b_De_allowedIn) (maxL := 2) (ret := (some .long)) (by decide) rfl ?_
  intro p e s m args below meth c s₁ B hml hv
  obtain ⟨rfl, hP, hK⟩ := hv
  have hx := B.exec
  have hb := B.bytes
  have hr := B.returns
  have hA : ∀ w ∈ AW, w.before _ s = true := fun w h => atoms_spec (ws := (.code y_De_allowedIn b_De_allowedIn 2 (some .long) :: AW)) B.pre w (List.mem_cons_of_mem _ h)
  have hown : s.vm.findClass R_De = some m.cls := findClass_of_methodNamed B.named
  have hlocks := B.notSynchronized
  have hl := lv_entry ([.ref x0, .int (nI j)]) (n := 2) (Nat.le_of_ble_eq_true rfl)
  rw [lg_entry_eq]
  generalize (lg_sl ([.ref x0, .int (nI j)]) ++ List.replicate (2 - (lg_sl ([.ref x0, .int (nI j)])).length) Slot.unset).toArray = ls at hl ⊢
  have hl : lv_has ls 2 [(0, .ref x0), (1, .int (nI j))] := hl
  have hrn := hB.1
  refine lv_aload_n hx hb d_De_allowedIn_0 rfl (lv_at hl 0 rfl) ?_
  refine va_get (D := G.1) (ci := 4) (v := .ref rb) (C := R_De) (T := T_De) (N := 2) hx hb hA in_De hown hK.1 (pl_o hP hx0) 0 rfl rfl 1 (by decide) (hA _ kw_81) (fun _ h9 => h9) rfl d_De_allowedIn_1 ?_
  refine lv_iconst (v := nI 0) hx hb d_De_allowedIn_4 (by decide) ?_
  refine lv_ldc2 (v := (-1)) hx hb hown (hA _ kw_82) d_De_allowedIn_5 ?_
  refine lv_iload_n hx hb d_De_allowedIn_8 rfl (lv_at hl 1 rfl) ?_
  refine vp_callSl (va_Run.run (va_runVN (As := [.int (nI 0), .long (-1), .int (nI j)]) (rest := []) ⟨hx, hb, hml, hown, hA⟩ (c_Rb_alF l G L f hB rn 0 (-1) j (by omega) hj) ⟨va_cnB 3 hA (gAW kw_69) rfl rfl rfl (hK.2.1 _ kz_17) (hA _ kw_48) (by decide +kernel) ⟨Nat.le_of_ble_eq_true rfl, Nat.le_of_ble_eq_true rfl⟩, (hA _ kw_71), (hA _ kw_72)⟩ (pw_preV (ci := 3) hP hK hB.2.1 rfl) rfl rfl hl.1 rfl (lv_room (Nat.le_of_ble_eq_true rfl)) d_De_allowedIn_9 ⟨Nat.zero_le _, Nat.zero_le _⟩)) (fun r_1 e_2 => ?_)
  subst e_2
  exact W.lret (v := alF vw dn j rn 0 (-1) 0) hx hb hr (fun t9 h9t h9W => ⟨_, rfl, rfl, h9t⟩) (fun _ h => nomatch h) d_De_allowedIn_12

set_option maxHeartbeats 4000000 in
set_option maxRecDepth 100000 in
/-- allowed -/
theorem c_De_allowed (l : Launch) (G : GG) (L : List Nat) (f : Nat → va_E) {x0 cb rb : Nat} (hx0 : Lk L f x0 (.inr (4, [.ref cb, .ref rb]))) {rA rn : Nat} {rad ca wb rk nu : Nat → Nat} {dn : Nat → Bool} {vw : Nat → Nat → Int64} (hB : RuB G L f rb rA rn rad ca wb rk nu dn vw) : Met l y_De_allowed (.code y_De_allowed b_De_allowed 3 (some .int) :: AW) (RM 5) (va_Pc [.ref x0] (PW G L f)) (vp_Si (fun r => r = nI (sumP (fun j => alF vw dn j rn 0 (-1) 0) 96))) 0 0 (fun _ => False) := by
  refine Met.ofW (cc := b_De_allowed) (maxL := 3) (ret := (some .int)) (by decide) rfl ?_
  intro p e s m args below meth c s₁ B hml hv
  obtain ⟨rfl, hP, hK⟩ := hv
  have hx := B.exec
  have hb := B.bytes
  have hr := B.returns
  have hA : ∀ w ∈ AW, w.before _ s = true := fun w h => atoms_spec (ws := (.code y_De_allowed b_De_allowed 3 (some .int) :: AW)) B.pre w (List.mem_cons_of_mem _ h)
  have hown : s.vm.findClass R_De = some m.cls := findClass_of_methodNamed B.named
  have hlocks := B.notSynchronized
  have hl := lv_entry ([.ref x0]) (n := 3) (Nat.le_of_ble_eq_true rfl)
  rw [lg_entry_eq]
  generalize (lg_sl ([.ref x0]) ++ List.replicate (3 - (lg_sl ([.ref x0])).length) Slot.unset).toArray = ls at hl ⊢
  have hl : lv_has ls 3 [(0, .ref x0)] := hl
  have hrn := hB.1
  refine lv_iconst (v := nI 0) hx hb d_De_allowed_0 (by decide) ?_
  refine lv_istore_n (lv' := [(1, .int (nI 0)), (0, .ref x0)]) hx hb d_De_allowed_1 rfl hl (by decide) rfl (fun ls hl => ?_)
  refine lv_iconst (v := nI 0) hx hb d_De_allowed_2 (by decide) ?_
  refine lv_istore_n (lv' := [(2, .int (nI 0)), (1, .int (nI 0)), (0, .ref x0)]) hx hb d_De_allowed_3 rfl hl (by decide) rfl (fun ls hl => ?_)
  have loop : ∀ (k i : Nat) (ls : Array Slot), i + k = 96 → lv_has ls 3 [(0, .ref x0), (1, .int (nI (sumP (fun j => alF vw dn j rn 0 (-1) 0) i))), (2, .int (nI i))] → W p l e (headSpec (.code y_De_allowed b_De_allowed 3 (some .int) :: AW) (RM 5)).room s m ([.ref x0] : List Value).toArray below meth c s.heap [] 0 0 (MQ below (vp_Si (fun r => r = nI (sumP (fun j => alF vw dn j rn 0 (-1) 0) 96))) ([.ref x0] : List Value).toArray s 0 0 (fun _ => False)) (F0 m 4 ls []) := by
    intro k
    induction k with
    | zero =>
      intro i  ls hik  hl
      refine lv_iload_n hx hb d_De_allowed_4 rfl (lv_at hl 2 rfl) ?_
      refine lv_bipush (v := nI 96) hx hb d_De_allowed_5 (by decide) ?_
      refine lv_icmp_ge (tgt := 27) hx hb d_De_allowed_7 (by decide) (fun _ => ?_) (fun c9 => absurd (nI_le (by omega) (by omega)) c9)
      refine lv_iload_n hx hb d_De_allowed_27 rfl (lv_at hl 1 rfl) ?_
      exact W.iret (v := nI (sumP (fun j => alF vw dn j rn 0 (-1) 0) i)) hx hb hr (fun t9 h9t h9W => ⟨_, rfl, by rw [show i = 96 by omega], h9t⟩) (fun _ h => nomatch h) d_De_allowed_28
    | succ k ih =>
      intro i  ls hik  hl
      refine lv_iload_n hx hb d_De_allowed_4 rfl (lv_at hl 2 rfl) ?_
      refine lv_bipush (v := nI 96) hx hb d_De_allowed_5 (by decide) ?_
      refine lv_icmp_ge (tgt := 27) hx hb d_De_allowed_7 (by decide) (fun c9 => absurd c9 (nI_ge (by omega) (by omega))) (fun _ => ?_)
      refine lv_iload_n hx hb d_De_allowed_10 rfl (lv_at hl 1 rfl) ?_
      refine lv_aload_n hx hb d_De_allowed_11 rfl (lv_at hl 0 rfl) ?_
      refine lv_iload_n hx hb d_De_allowed_12 rfl (lv_at hl 2 rfl) ?_
      refine vp_callSl (va_Run.run (va_runV (As := [.int (nI i)]) (rest := [.int (nI (sumP (fun j => alF vw dn j rn 0 (-1) 0) i))]) ⟨hx, hb, hml, hown, hA⟩ (c_De_alIn l G L f hx0 hB i (by omega)) ⟨callB_of 1 hA (gAW kw_83) rfl rfl rfl (hA _ kw_5) (hA _ kw_84) (by decide +kernel) ⟨Nat.le_of_ble_eq_true rfl, Nat.le_of_ble_eq_true rfl⟩, (hA _ kw_85), (hA _ kw_86)⟩ (pw_preV (ci := 4) hP hK hx0 rfl) rfl rfl hl.1 rfl (lv_room (Nat.le_of_ble_eq_true rfl)) d_De_allowed_13 ⟨Nat.zero_le _, Nat.zero_le _⟩)) (fun r_1 e_2 => ?_)
      subst e_2
      refine vp_callSi (va_Run.run (va_runS (As := [.long (alF vw dn i rn 0 (-1) 0)]) (rest := [.int (nI (sumP (fun j => alF vw dn j rn 0 (-1) 0) i))]) ⟨hx, hb, hml, hown, hA⟩ (c_bitCount l G L f (alF vw dn i rn 0 (-1) 0)) ⟨callB_of 1 hA (gAW kw_76) rfl rfl rfl (hA _ kw_77) (hA _ kw_78) (by decide +kernel) ⟨Nat.le_of_ble_eq_true rfl, Nat.le_of_ble_eq_true rfl⟩, (hA _ kw_79)⟩ (pw_preS hP hK) rfl rfl hl.1 rfl (lv_room (Nat.le_of_ble_eq_true rfl)) d_De_allowed_16 ⟨Nat.zero_le _, Nat.zero_le _⟩)) (fun r_3 e_4 => ?_)
      subst e_4
      refine lv_iadd hx hb d_De_allowed_19 ?_
      refine xv_I (y := nI (sumP (fun j => alF vw dn j rn 0 (-1) 0) (i + 1))) (nI_add _ _) ?_
      refine lv_istore_n (lv' := [(1, .int (nI (sumP (fun j => alF vw dn j rn 0 (-1) 0) (i + 1)))), (0, .ref x0), (2, .int (nI i))]) hx hb d_De_allowed_20 rfl hl (by decide) rfl (fun ls hl => ?_)
      refine lv_iinc (v := nI (i + 1)) (lv' := [(2, .int (nI (i + 1))), (1, .int (nI (sumP (fun j => alF vw dn j rn 0 (-1) 0) (i + 1)))), (0, .ref x0)]) hx hb d_De_allowed_21 hl (k := 2) rfl (nI_1 i) (by decide) rfl (fun ls hl => ?_)
      refine lv_goto (tgt := 4) hx hb d_De_allowed_24 (by decide) ?_
      exact ih (i + 1)  ls (by omega)  (lv_sub hl [2, 1, 0] rfl)
  exact loop (96 - 0) 0  ls (by omega)  (lv_sub hl [2, 1, 0] rfl)

set_option maxHeartbeats 4000000 in
set_option maxRecDepth 100000 in
/-- asks -/
theorem c_De_asks (l : Launch) (G : GG) (L : List Nat) (f : Nat → va_E) {x0 cb rb : Nat} (hx0 : Lk L f x0 (.inr (4, [.ref cb, .ref rb]))) {mA gA cn : Nat} {ad wa kd : Nat → Nat} {ka kb kc : Nat → Int32} {wd : Nat → Nat → Int64} {mm : Nat → Bool} (hC : CoB G L f cb mA gA cn ad wa kd ka kb kc wd mm) (x : Int32) : Met l y_De_asks (.code y_De_asks b_De_asks 5 (some .int) :: AW) (RM 2) (va_Pc [.ref x0, .int x] (PW G L f)) (vp_Si (fun r => r = onR (fun t => nI (sumP (wd t) 96)) (inN cn x))) 0 0 (fun _ => False) := by
  refine Met.ofW (cc := b_De_asks) (maxL := 5) (ret := (some .int)) (by decide) rfl ?_
  intro p e s m args below meth c s₁ B hml hv
  obtain ⟨rfl, hP, hK⟩ := hv
  have hx := B.exec
  have hb := B.bytes
  have hr := B.returns
  have hA : ∀ w ∈ AW, w.before _ s = true := fun w h => atoms_spec (ws := (.code y_De_asks b_De_asks 5 (some .int) :: AW)) B.pre w (List.mem_cons_of_mem _ h)
  have hown : s.vm.findClass R_De = some m.cls := findClass_of_methodNamed B.named
  have hlocks := B.notSynchronized
  have hl := lv_entry ([.ref x0, .int x]) (n := 5) (Nat.le_of_ble_eq_true rfl)
  rw [lg_entry_eq]
  generalize (lg_sl ([.ref x0, .int x]) ++ List.replicate (5 - (lg_sl ([.ref x0, .int x])).length) Slot.unset).toArray = ls at hl ⊢
  have hl : lv_has ls 5 [(0, .ref x0), (1, .int x)] := hl
  have hcn := hC.1
  rcases at60 (ad := ad) hcn x with ⟨t, ht, rfl⟩ | ⟨hnb, hno⟩
  · refine lv_aload_n hx hb d_De_asks_0 rfl (lv_at hl 0 rfl) ?_
    refine va_get (D := G.1) (ci := 4) (v := .ref cb) (C := R_De) (T := T_De) (N := 2) hx hb hA in_De hown hK.1 (pl_o hP hx0) 0 rfl rfl 0 (by decide) (hA _ kw_80) (fun _ h9 => h9) rfl d_De_asks_1 ?_
    refine lv_iload_n hx hb d_De_asks_4 rfl (lv_at hl 1 rfl) ?_
    refine va_csq (va_Run.run (va_runVN (As := [.int (nI t)]) (rest := []) ⟨hx, hb, hml, hown, hA⟩ (c_Cb_at l G L f hC.2.1 hC.2.2.1 (nI t)) ⟨va_cnB 1 hA (gAW kw_18) rfl rfl rfl (hK.2.1 _ kz_18) (hA _ kw_19) (by decide +kernel) ⟨Nat.le_of_ble_eq_true rfl, Nat.le_of_ble_eq_true rfl⟩, (hA _ kw_21), (hA _ kw_22)⟩ (pw_preV (ci := 1) hP hK hC.2.1 rfl) rfl rfl hl.1 rfl (lv_room (Nat.le_of_ble_eq_true rfl)) d_De_asks_5 ⟨Nat.zero_le _, Nat.zero_le _⟩)) (fun r_1 e_2 => ?_)
    subst e_2
    refine xv_R (a := ad t) (oAt_t (by decide) hcn ht) ?_
    refine lv_astore_n (lv' := [(2, .ref (ad t)), (0, .ref x0), (1, .int (nI t))]) hx hb d_De_asks_8 rfl hl (by decide) rfl (fun ls hl => ?_)
    refine lv_aload_n hx hb d_De_asks_9 rfl (lv_at hl 0 rfl) ?_
    refine lv_ifnonnull (tgt := 15) hx hb d_De_asks_10 (by decide) ?_
    refine lv_iconst (v := nI 0) hx hb d_De_asks_15 (by decide) ?_
    refine lv_istore_n (lv' := [(3, .int (nI 0)), (2, .ref (ad t)), (0, .ref x0), (1, .int (nI t))]) hx hb d_De_asks_16 rfl hl (by decide) rfl (fun ls hl => ?_)
    refine lv_iconst (v := nI 0) hx hb d_De_asks_17 (by decide) ?_
    refine lv_istore (lv' := [(4, .int (nI 0)), (3, .int (nI 0)), (2, .ref (ad t)), (0, .ref x0), (1, .int (nI t))]) hx hb d_De_asks_18 hl (by decide) rfl (fun ls hl => ?_)
    have loop : ∀ (k i : Nat) (ls : Array Slot), i + k = 96 → lv_has ls 5 [(2, .ref (ad t)), (3, .int (nI (sumP (wd t) i))), (4, .int (nI i))] → W p l e (headSpec (.code y_De_asks b_De_asks 5 (some .int) :: AW) (RM 2)).room s m ([.ref x0, .int (nI t)] : List Value).toArray below meth c s.heap [] 0 0 (MQ below (vp_Si (fun r => r = onR (fun t => nI (sumP (wd t) 96)) (inN cn (nI t)))) ([.ref x0, .int (nI t)] : List Value).toArray s 0 0 (fun _ => False)) (F0 m 20 ls []) := by
      intro k
      induction k with
      | zero =>
        intro i  ls hik  hl
        refine lv_iload hx hb d_De_asks_20 (lv_at hl 2 rfl) ?_
        refine lv_bipush (v := nI 96) hx hb d_De_asks_22 (by decide) ?_
        refine lv_icmp_ge (tgt := 45) hx hb d_De_asks_24 (by decide) (fun _ => ?_) (fun c9 => absurd (nI_le (by omega) (by omega)) c9)
        refine lv_iload_n hx hb d_De_asks_45 rfl (lv_at hl 1 rfl) ?_
        exact W.iret (v := nI (sumP (wd t) i)) hx hb hr (fun t9 h9t h9W => ⟨_, rfl, by rw [inN_t ht (by omega), show i = 96 by omega]; rfl, h9t⟩) (fun _ h => nomatch h) d_De_asks_46
      | succ k ih =>
        intro i  ls hik  hl
        refine lv_iload hx hb d_De_asks_20 (lv_at hl 2 rfl) ?_
        refine lv_bipush (v := nI 96) hx hb d_De_asks_22 (by decide) ?_
        refine lv_icmp_ge (tgt := 45) hx hb d_De_asks_24 (by decide) (fun c9 => absurd c9 (nI_ge (by omega) (by omega))) (fun _ => ?_)
        refine lv_iload_n hx hb d_De_asks_27 rfl (lv_at hl 1 rfl) ?_
        refine lv_aload_n hx hb d_De_asks_28 rfl (lv_at hl 0 rfl) ?_
        refine lv_iload hx hb d_De_asks_29 (lv_at hl 2 rfl) ?_
        refine vp_callSl (va_Run.run (va_runVN (As := [.int (nI i)]) (rest := [.int (nI (sumP (wd t) i))]) ⟨hx, hb, hml, hown, hA⟩ (c_Co_word l G L f (hC.2.2.2.2 t ht).1 (hC.2.2.2.2 t ht).2 i (by omega)) ⟨va_cnB 1 hA (gAW kw_10) rfl rfl rfl (hK.2.1 _ kz_19) (hA _ kw_11) (by decide +kernel) ⟨Nat.le_of_ble_eq_true rfl, Nat.le_of_ble_eq_true rfl⟩, (hA _ kw_12), (hA _ kw_13)⟩ (pw_preV (ci := 0) hP hK ((hC.2.2.2.2 t ht).1) rfl) rfl rfl hl.1 rfl (lv_room (Nat.le_of_ble_eq_true rfl)) d_De_asks_31 ⟨Nat.zero_le _, Nat.zero_le _⟩)) (fun r_3 e_4 => ?_)
        subst e_4
        refine vp_callSi (va_Run.run (va_runS (As := [.long (wd t i)]) (rest := [.int (nI (sumP (wd t) i))]) ⟨hx, hb, hml, hown, hA⟩ (c_bitCount l G L f (wd t i)) ⟨callB_of 1 hA (gAW kw_76) rfl rfl rfl (hA _ kw_77) (hA _ kw_78) (by decide +kernel) ⟨Nat.le_of_ble_eq_true rfl, Nat.le_of_ble_eq_true rfl⟩, (hA _ kw_79)⟩ (pw_preS hP hK) rfl rfl hl.1 rfl (lv_room (Nat.le_of_ble_eq_true rfl)) d_De_asks_34 ⟨Nat.zero_le _, Nat.zero_le _⟩)) (fun r_5 e_6 => ?_)
        subst e_6
        refine lv_iadd hx hb d_De_asks_37 ?_
        refine xv_I (y := nI (sumP (wd t) (i + 1))) (nI_add _ _) ?_
        refine lv_istore_n (lv' := [(3, .int (nI (sumP (wd t) (i + 1)))), (2, .ref (ad t)), (4, .int (nI i))]) hx hb d_De_asks_38 rfl hl (by decide) rfl (fun ls hl => ?_)
        refine lv_iinc (v := nI (i + 1)) (lv' := [(4, .int (nI (i + 1))), (3, .int (nI (sumP (wd t) (i + 1)))), (2, .ref (ad t))]) hx hb d_De_asks_39 hl (k := 2) rfl (nI_1 i) (by decide) rfl (fun ls hl => ?_)
        refine lv_goto (tgt := 20) hx hb d_De_asks_42 (by decide) ?_
        exact ih (i + 1)  ls (by omega)  (lv_sub hl [2, 1, 0] rfl)
    exact loop (96 - 0) 0  ls (by omega)  (lv_sub hl [2, 1, 0] rfl)
  · refine lv_aload_n hx hb d_De_asks_0 rfl (lv_at hl 0 rfl) ?_
    refine va_get (D := G.1) (ci := 4) (v := .ref cb) (C := R_De) (T := T_De) (N := 2) hx hb hA in_De hown hK.1 (pl_o hP hx0) 0 rfl rfl 0 (by decide) (hA _ kw_80) (fun _ h9 => h9) rfl d_De_asks_1 ?_
    refine lv_iload_n hx hb d_De_asks_4 rfl (lv_at hl 1 rfl) ?_
    refine va_csq (va_Run.run (va_runVN (As := [.int x]) (rest := []) ⟨hx, hb, hml, hown, hA⟩ (c_Cb_at l G L f hC.2.1 hC.2.2.1 (x)) ⟨va_cnB 1 hA (gAW kw_18) rfl rfl rfl (hK.2.1 _ kz_18) (hA _ kw_19) (by decide +kernel) ⟨Nat.le_of_ble_eq_true rfl, Nat.le_of_ble_eq_true rfl⟩, (hA _ kw_21), (hA _ kw_22)⟩ (pw_preV (ci := 1) hP hK hC.2.1 rfl) rfl rfl hl.1 rfl (lv_room (Nat.le_of_ble_eq_true rfl)) d_De_asks_5 ⟨Nat.zero_le _, Nat.zero_le _⟩)) (fun r_7 e_8 => ?_)
    subst e_8
    refine xv_N hno ?_
    refine lv_astore_nN (lv' := [(2, .null), (0, .ref x0), (1, .int x)]) hx hb d_De_asks_8 rfl hl (by decide) rfl (fun ls hl => ?_)
    refine lv_aload_nN hx hb d_De_asks_9 rfl (lv_at hl 0 rfl) ?_
    refine lv_ifnonnullN hx hb d_De_asks_10 ?_
    refine lv_iconst (v := (-1)) hx hb d_De_asks_13 (by decide) ?_
    exact W.iret (v := (-1)) hx hb hr (fun t9 h9t h9W => ⟨_, rfl, by rw [inN_f hnb]; rfl, h9t⟩) (fun _ h => nomatch h) d_De_asks_14

set_option maxHeartbeats 4000000 in
set_option maxRecDepth 100000 in
/-- ask -/
theorem c_De_ask (l : Launch) (G : GG) (L : List Nat) (f : Nat → va_E) {x0 cb rb : Nat} (hx0 : Lk L f x0 (.inr (4, [.ref cb, .ref rb]))) {mA gA cn : Nat} {ad wa kd : Nat → Nat} {ka kb kc : Nat → Int32} {wd : Nat → Nat → Int64} {mm : Nat → Bool} (hC : CoB G L f cb mA gA cn ad wa kd ka kb kc wd mm) (x y : Int32) : Met l y_De_ask (.code y_De_ask b_De_ask 7 (some .int) :: AW) (RM 2) (va_Pc [.ref x0, .int x, .int y] (PW G L f)) (vp_Si (fun r => r = onR (fun t => askY (wd t) y) (inN cn x))) 0 0 (fun _ => False) := by
  refine Met.ofW (cc := b_De_ask) (maxL := 7) (ret := (some .int)) (by decide) rfl ?_
  intro p e s m args below meth c s₁ B hml hv
  obtain ⟨rfl, hP, hK⟩ := hv
  have hx := B.exec
  have hb := B.bytes
  have hr := B.returns
  have hA : ∀ w ∈ AW, w.before _ s = true := fun w h => atoms_spec (ws := (.code y_De_ask b_De_ask 7 (some .int) :: AW)) B.pre w (List.mem_cons_of_mem _ h)
  have hown : s.vm.findClass R_De = some m.cls := findClass_of_methodNamed B.named
  have hlocks := B.notSynchronized
  have hl := lv_entry ([.ref x0, .int x, .int y]) (n := 7) (Nat.le_of_ble_eq_true rfl)
  rw [lg_entry_eq]
  generalize (lg_sl ([.ref x0, .int x, .int y]) ++ List.replicate (7 - (lg_sl ([.ref x0, .int x, .int y])).length) Slot.unset).toArray = ls at hl ⊢
  have hl : lv_has ls 7 [(0, .ref x0), (1, .int x), (2, .int y)] := hl
  have hcn := hC.1
  rcases at60 (ad := ad) hcn x with ⟨t, ht, rfl⟩ | ⟨hnb, hno⟩
  · refine lv_aload_n hx hb d_De_ask_0 rfl (lv_at hl 0 rfl) ?_
    refine va_get (D := G.1) (ci := 4) (v := .ref cb) (C := R_De) (T := T_De) (N := 2) hx hb hA in_De hown hK.1 (pl_o hP hx0) 0 rfl rfl 0 (by decide) (hA _ kw_80) (fun _ h9 => h9) rfl d_De_ask_1 ?_
    refine lv_iload_n hx hb d_De_ask_4 rfl (lv_at hl 1 rfl) ?_
    refine va_csq (va_Run.run (va_runVN (As := [.int (nI t)]) (rest := []) ⟨hx, hb, hml, hown, hA⟩ (c_Cb_at l G L f hC.2.1 hC.2.2.1 (nI t)) ⟨va_cnB 1 hA (gAW kw_18) rfl rfl rfl (hK.2.1 _ kz_18) (hA _ kw_19) (by decide +kernel) ⟨Nat.le_of_ble_eq_true rfl, Nat.le_of_ble_eq_true rfl⟩, (hA _ kw_21), (hA _ kw_22)⟩ (pw_preV (ci := 1) hP hK hC.2.1 rfl) rfl rfl hl.1 rfl (lv_room (Nat.le_of_ble_eq_true rfl)) d_De_ask_5 ⟨Nat.zero_le _, Nat.zero_le _⟩)) (fun r_1 e_2 => ?_)
    subst e_2
    refine xv_R (a := ad t) (oAt_t (by decide) hcn ht) ?_
    refine lv_astore_n (lv' := [(3, .ref (ad t)), (0, .ref x0), (1, .int (nI t)), (2, .int y)]) hx hb d_De_ask_8 rfl hl (by decide) rfl (fun ls hl => ?_)
    refine lv_aload_n hx hb d_De_ask_9 rfl (lv_at hl 0 rfl) ?_
    refine lv_ifnonnull (tgt := 15) hx hb d_De_ask_10 (by decide) ?_
    refine lv_iload_n hx hb d_De_ask_15 rfl (lv_at hl 3 rfl) ?_
    refine lv_if_ge (tgt := 22) hx hb d_De_ask_16 (by decide) (fun c_16 => ?_) (fun c_16 => ?_)
    · obtain ⟨v, hv2, rfl⟩ := nI_of (i32_nlt c_16)
      refine lv_iload_n hx hb d_De_ask_22 rfl (lv_at hl 3 rfl) ?_
      refine lv_istore (lv' := [(4, .int (nI v)), (3, .ref (ad t)), (0, .ref x0), (1, .int (nI t)), (2, .int (nI v))]) hx hb d_De_ask_23 hl (by decide) rfl (fun ls hl => ?_)
      refine lv_iconst (v := nI 0) hx hb d_De_ask_25 (by decide) ?_
      refine lv_istore (lv' := [(5, .int (nI 0)), (4, .int (nI v)), (3, .ref (ad t)), (0, .ref x0), (1, .int (nI t)), (2, .int (nI v))]) hx hb d_De_ask_26 hl (by decide) rfl (fun ls hl => ?_)
      have loop : ∀ (k i : Nat) (left : Nat) (ls : Array Slot), i + k = 96 → left < 2 ^ 31 → askR (wd t) 96 0 v = askR (wd t) k i left → lv_has ls 7 [(3, .ref (ad t)), (4, .int (nI left)), (5, .int (nI i))] → W p l e (headSpec (.code y_De_ask b_De_ask 7 (some .int) :: AW) (RM 2)).room s m ([.ref x0, .int (nI t), .int (nI v)] : List Value).toArray below meth c s.heap [] 0 0 (MQ below (vp_Si (fun r => r = onR (fun t => askY (wd t) (nI v)) (inN cn (nI t)))) ([.ref x0, .int (nI t), .int (nI v)] : List Value).toArray s 0 0 (fun _ => False)) (F0 m 28 ls []) := by
        intro k
        induction k with
        | zero =>
          intro i left ls hik hlf hres hl
          refine lv_iload hx hb d_De_ask_28 (lv_at hl 2 rfl) ?_
          refine lv_bipush (v := nI 96) hx hb d_De_ask_30 (by decide) ?_
          refine lv_icmp_ge (tgt := 84) hx hb d_De_ask_32 (by decide) (fun _ => ?_) (fun c9 => absurd (nI_le (by omega) (by omega)) c9)
          refine lv_bipush (v := (-2)) hx hb d_De_ask_84 (by decide) ?_
          exact W.iret (v := (-2)) hx hb hr (fun t9 h9t h9W => ⟨_, rfl, by rw [inN_t ht (by omega)]; exact ((if_neg (nI_pos hv2)).trans (by rw [nI_clamp hv2, hres]; rfl)).symm, h9t⟩) (fun _ h => nomatch h) d_De_ask_86
        | succ k ih =>
          intro i left ls hik hlf hres hl
          refine lv_iload hx hb d_De_ask_28 (lv_at hl 2 rfl) ?_
          refine lv_bipush (v := nI 96) hx hb d_De_ask_30 (by decide) ?_
          refine lv_icmp_ge (tgt := 84) hx hb d_De_ask_32 (by decide) (fun c9 => absurd c9 (nI_ge (by omega) (by omega))) (fun _ => ?_)
          refine lv_aload_n hx hb d_De_ask_35 rfl (lv_at hl 0 rfl) ?_
          refine lv_iload hx hb d_De_ask_36 (lv_at hl 2 rfl) ?_
          refine vp_callSl (va_Run.run (va_runVN (As := [.int (nI i)]) (rest := []) ⟨hx, hb, hml, hown, hA⟩ (c_Co_word l G L f (hC.2.2.2.2 t ht).1 (hC.2.2.2.2 t ht).2 i (by omega)) ⟨va_cnB 1 hA (gAW kw_10) rfl rfl rfl (hK.2.1 _ kz_19) (hA _ kw_11) (by decide +kernel) ⟨Nat.le_of_ble_eq_true rfl, Nat.le_of_ble_eq_true rfl⟩, (hA _ kw_12), (hA _ kw_13)⟩ (pw_preV (ci := 0) hP hK ((hC.2.2.2.2 t ht).1) rfl) rfl rfl hl.1 rfl (lv_room (Nat.le_of_ble_eq_true rfl)) d_De_ask_38 ⟨Nat.zero_le _, Nat.zero_le _⟩)) (fun r_3 e_4 => ?_)
          subst e_4
          refine vp_callSi (va_Run.run (va_runS (As := [.long (wd t i)]) (rest := []) ⟨hx, hb, hml, hown, hA⟩ (c_bitCount l G L f (wd t i)) ⟨callB_of 1 hA (gAW kw_76) rfl rfl rfl (hA _ kw_77) (hA _ kw_78) (by decide +kernel) ⟨Nat.le_of_ble_eq_true rfl, Nat.le_of_ble_eq_true rfl⟩, (hA _ kw_79)⟩ (pw_preS hP hK) rfl rfl hl.1 rfl (lv_room (Nat.le_of_ble_eq_true rfl)) d_De_ask_41 ⟨Nat.zero_le _, Nat.zero_le _⟩)) (fun r_5 e_6 => ?_)
          subst e_6
          have hpl := pop_le (wd t i)
          refine lv_istore (lv' := [(6, .int (nI (pop (wd t i)))), (3, .ref (ad t)), (4, .int (nI left)), (5, .int (nI i))]) hx hb d_De_ask_44 hl (by decide) rfl (fun ls hl => ?_)
          refine lv_iload hx hb d_De_ask_46 (lv_at hl 2 rfl) ?_
          refine lv_iload hx hb d_De_ask_48 (lv_at hl 0 rfl) ?_
          by_cases hlt : left < pop (wd t i)
          · refine lv_icmp_ge (tgt := 71) hx hb d_De_ask_50 (by decide) (fun c9 => absurd c9 (nI_ge hlt (by omega))) (fun _ => ?_)
            refine lv_iload hx hb d_De_ask_53 (lv_at hl 3 rfl) ?_
            refine lv_bipush (v := nI 64) hx hb d_De_ask_55 (by decide) ?_
            refine lv_imul hx hb d_De_ask_57 ?_
            refine xv_I (y := nI (i * 64)) (pk_mul _ _) ?_
            refine lv_aload_n hx hb d_De_ask_58 rfl (lv_at hl 1 rfl) ?_
            refine lv_iload hx hb d_De_ask_59 (lv_at hl 3 rfl) ?_
            refine vp_callSl (va_Run.run (va_runVN (As := [.int (nI i)]) (rest := [.int (nI (i * 64))]) ⟨hx, hb, hml, hown, hA⟩ (c_Co_word l G L f (hC.2.2.2.2 t ht).1 (hC.2.2.2.2 t ht).2 i (by omega)) ⟨va_cnB 1 hA (gAW kw_10) rfl rfl rfl (hK.2.1 _ kz_19) (hA _ kw_11) (by decide +kernel) ⟨Nat.le_of_ble_eq_true rfl, Nat.le_of_ble_eq_true rfl⟩, (hA _ kw_12), (hA _ kw_13)⟩ (pw_preV (ci := 0) hP hK ((hC.2.2.2.2 t ht).1) rfl) rfl rfl hl.1 rfl (lv_room (Nat.le_of_ble_eq_true rfl)) d_De_ask_61 ⟨Nat.zero_le _, Nat.zero_le _⟩)) (fun r_7 e_8 => ?_)
            subst e_8
            refine lv_iload hx hb d_De_ask_64 (lv_at hl 2 rfl) ?_
            refine vp_callSi (va_Run.run (va_runS (As := [.long (wd t i), .int (nI left)]) (rest := [.int (nI (i * 64))]) ⟨hx, hb, hml, hown, hA⟩ (c_De_bp l G L f (wd t i) left (by omega)) ⟨callB_of 2 hA (gAW kw_87) rfl rfl rfl (hA _ kw_5) (hA _ kw_88) (by decide +kernel) ⟨Nat.le_of_ble_eq_true rfl, Nat.le_of_ble_eq_true rfl⟩, (hA _ kw_89)⟩ (pw_preS hP hK) rfl rfl hl.1 rfl (lv_room (Nat.le_of_ble_eq_true rfl)) d_De_ask_66 ⟨Nat.zero_le _, Nat.zero_le _⟩)) (fun r_9 e_10 => ?_)
            subst e_10
            refine lv_iadd hx hb d_De_ask_69 ?_
            refine xv_I (y := nI (i * 64 + bpos (wd t i) left)) (nI_add _ _) ?_
            exact W.iret (v := nI (i * 64 + bpos (wd t i) left)) hx hb hr (fun t9 h9t h9W => ⟨_, rfl, by rw [inN_t ht (by omega)]; exact ((if_neg (nI_pos hv2)).trans (by rw [nI_clamp hv2, hres]; exact if_pos hlt)).symm, h9t⟩) (fun _ h => nomatch h) d_De_ask_70
          · refine lv_icmp_ge (tgt := 71) hx hb d_De_ask_50 (by decide) (fun _ => ?_) (fun c9 => absurd (nI_le (by omega) (by omega)) c9)
            refine lv_iload hx hb d_De_ask_71 (lv_at hl 2 rfl) ?_
            refine lv_iload hx hb d_De_ask_73 (lv_at hl 0 rfl) ?_
            refine lv_isub hx hb d_De_ask_75 ?_
            refine xv_I (y := nI (left - pop (wd t i))) (pk_sub (by omega)) ?_
            refine lv_istore (lv' := [(4, .int (nI (left - pop (wd t i)))), (6, .int (nI (pop (wd t i)))), (3, .ref (ad t)), (5, .int (nI i))]) hx hb d_De_ask_76 hl (by decide) rfl (fun ls hl => ?_)
            refine lv_iinc (v := nI (i + 1)) (lv' := [(5, .int (nI (i + 1))), (4, .int (nI (left - pop (wd t i)))), (6, .int (nI (pop (wd t i)))), (3, .ref (ad t))]) hx hb d_De_ask_78 hl (k := 3) rfl (nI_1 i) (by decide) rfl (fun ls hl => ?_)
            refine lv_goto (tgt := 28) hx hb d_De_ask_81 (by decide) ?_
            exact ih (i + 1) (left - pop (wd t i)) ls (by omega) (by omega) (hres.trans (if_neg hlt)) (lv_sub hl [3, 1, 0] rfl)
      exact loop (96 - 0) 0 v ls (by omega) hv2 rfl (lv_sub hl [2, 1, 0] rfl)
    · refine lv_bipush (v := (-2)) hx hb d_De_ask_19 (by decide) ?_
      exact W.iret (v := (-2)) hx hb hr (fun t9 h9t h9W => ⟨_, rfl, by rw [inN_t ht (by omega)]; exact (if_pos (i32_lt c_16)).symm, h9t⟩) (fun _ h => nomatch h) d_De_ask_21
  · refine lv_aload_n hx hb d_De_ask_0 rfl (lv_at hl 0 rfl) ?_
    refine va_get (D := G.1) (ci := 4) (v := .ref cb) (C := R_De) (T := T_De) (N := 2) hx hb hA in_De hown hK.1 (pl_o hP hx0) 0 rfl rfl 0 (by decide) (hA _ kw_80) (fun _ h9 => h9) rfl d_De_ask_1 ?_
    refine lv_iload_n hx hb d_De_ask_4 rfl (lv_at hl 1 rfl) ?_
    refine va_csq (va_Run.run (va_runVN (As := [.int x]) (rest := []) ⟨hx, hb, hml, hown, hA⟩ (c_Cb_at l G L f hC.2.1 hC.2.2.1 (x)) ⟨va_cnB 1 hA (gAW kw_18) rfl rfl rfl (hK.2.1 _ kz_18) (hA _ kw_19) (by decide +kernel) ⟨Nat.le_of_ble_eq_true rfl, Nat.le_of_ble_eq_true rfl⟩, (hA _ kw_21), (hA _ kw_22)⟩ (pw_preV (ci := 1) hP hK hC.2.1 rfl) rfl rfl hl.1 rfl (lv_room (Nat.le_of_ble_eq_true rfl)) d_De_ask_5 ⟨Nat.zero_le _, Nat.zero_le _⟩)) (fun r_11 e_12 => ?_)
    subst e_12
    refine xv_N hno ?_
    refine lv_astore_nN (lv' := [(3, .null), (0, .ref x0), (1, .int x), (2, .int y)]) hx hb d_De_ask_8 rfl hl (by decide) rfl (fun ls hl => ?_)
    refine lv_aload_nN hx hb d_De_ask_9 rfl (lv_at hl 0 rfl) ?_
    refine lv_ifnonnullN hx hb d_De_ask_10 ?_
    refine lv_iconst (v := (-1)) hx hb d_De_ask_13 (by decide) ?_
    exact W.iret (v := (-1)) hx hb hr (fun t9 h9t h9W => ⟨_, rfl, by rw [inN_f hnb]; rfl, h9t⟩) (fun _ h => nomatch h) d_De_ask_14

set_option maxHeartbeats 4000000 in
set_option maxRecDepth 100000 in
/-- within -/
theorem c_De_within (l : Launch) (G : GG) (L : List Nat) (f : Nat → va_E) {x0 cb rb : Nat} (hx0 : Lk L f x0 (.inr (4, [.ref cb, .ref rb]))) {mA gA cn : Nat} {ad wa kd : Nat → Nat} {ka kb kc : Nat → Int32} {wd : Nat → Nat → Int64} {mm : Nat → Bool} (hC : CoB G L f cb mA gA cn ad wa kd ka kb kc wd mm) (x y : Int32) : Met l y_De_within (.code y_De_within b_De_within 6 (some .int) :: AW) (RM 2) (va_Pc [.ref x0, .int x, .int y] (PW G L f)) (vp_Si (fun r => r = onR (fun t => onR (fun u => winR (wd t) (wd u) 96 0) (inN cn y)) (inN cn x))) 0 0 (fun _ => False) := by
  refine Met.ofW (cc := b_De_within) (maxL := 6) (ret := (some .int)) (by decide) rfl ?_
  intro p e s m args below meth c s₁ B hml hv
  obtain ⟨rfl, hP, hK⟩ := hv
  have hx := B.exec
  have hb := B.bytes
  have hr := B.returns
  have hA : ∀ w ∈ AW, w.before _ s = true := fun w h => atoms_spec (ws := (.code y_De_within b_De_within 6 (some .int) :: AW)) B.pre w (List.mem_cons_of_mem _ h)
  have hown : s.vm.findClass R_De = some m.cls := findClass_of_methodNamed B.named
  have hlocks := B.notSynchronized
  have hl := lv_entry ([.ref x0, .int x, .int y]) (n := 6) (Nat.le_of_ble_eq_true rfl)
  rw [lg_entry_eq]
  generalize (lg_sl ([.ref x0, .int x, .int y]) ++ List.replicate (6 - (lg_sl ([.ref x0, .int x, .int y])).length) Slot.unset).toArray = ls at hl ⊢
  have hl : lv_has ls 6 [(0, .ref x0), (1, .int x), (2, .int y)] := hl
  have hcn := hC.1
  rcases at60 (ad := ad) hcn x with ⟨t, ht, rfl⟩ | ⟨hnb, hno⟩
  · refine lv_aload_n hx hb d_De_within_0 rfl (lv_at hl 0 rfl) ?_
    refine va_get (D := G.1) (ci := 4) (v := .ref cb) (C := R_De) (T := T_De) (N := 2) hx hb hA in_De hown hK.1 (pl_o hP hx0) 0 rfl rfl 0 (by decide) (hA _ kw_80) (fun _ h9 => h9) rfl d_De_within_1 ?_
    refine lv_iload_n hx hb d_De_within_4 rfl (lv_at hl 1 rfl) ?_
    refine va_csq (va_Run.run (va_runVN (As := [.int (nI t)]) (rest := []) ⟨hx, hb, hml, hown, hA⟩ (c_Cb_at l G L f hC.2.1 hC.2.2.1 (nI t)) ⟨va_cnB 1 hA (gAW kw_18) rfl rfl rfl (hK.2.1 _ kz_18) (hA _ kw_19) (by decide +kernel) ⟨Nat.le_of_ble_eq_true rfl, Nat.le_of_ble_eq_true rfl⟩, (hA _ kw_21), (hA _ kw_22)⟩ (pw_preV (ci := 1) hP hK hC.2.1 rfl) rfl rfl hl.1 rfl (lv_room (Nat.le_of_ble_eq_true rfl)) d_De_within_5 ⟨Nat.zero_le _, Nat.zero_le _⟩)) (fun r_1 e_2 => ?_)
    subst e_2
    refine xv_R (a := ad t) (oAt_t (by decide) hcn ht) ?_
    refine lv_astore_n (lv' := [(3, .ref (ad t)), (0, .ref x0), (1, .int (nI t)), (2, .int y)]) hx hb d_De_within_8 rfl hl (by decide) rfl (fun ls hl => ?_)
    refine lv_aload_n hx hb d_De_within_9 rfl (lv_at hl 1 rfl) ?_
    refine va_get (D := G.1) (ci := 4) (v := .ref cb) (C := R_De) (T := T_De) (N := 2) hx hb hA in_De hown hK.1 (pl_o hP hx0) 0 rfl rfl 0 (by decide) (hA _ kw_80) (fun _ h9 => h9) rfl d_De_within_10 ?_
    refine lv_iload_n hx hb d_De_within_13 rfl (lv_at hl 3 rfl) ?_
    rcases at60 (ad := ad) hcn y with ⟨u, hu, rfl⟩ | ⟨hnb2, hno2⟩
    · refine va_csq (va_Run.run (va_runVN (As := [.int (nI u)]) (rest := []) ⟨hx, hb, hml, hown, hA⟩ (c_Cb_at l G L f hC.2.1 hC.2.2.1 (nI u)) ⟨va_cnB 1 hA (gAW kw_18) rfl rfl rfl (hK.2.1 _ kz_18) (hA _ kw_19) (by decide +kernel) ⟨Nat.le_of_ble_eq_true rfl, Nat.le_of_ble_eq_true rfl⟩, (hA _ kw_21), (hA _ kw_22)⟩ (pw_preV (ci := 1) hP hK hC.2.1 rfl) rfl rfl hl.1 rfl (lv_room (Nat.le_of_ble_eq_true rfl)) d_De_within_14 ⟨Nat.zero_le _, Nat.zero_le _⟩)) (fun r_3 e_4 => ?_)
      subst e_4
      refine xv_R (a := ad u) (oAt_t (by decide) hcn hu) ?_
      refine lv_astore (lv' := [(4, .ref (ad u)), (3, .ref (ad t)), (0, .ref x0), (1, .int (nI t)), (2, .int (nI u))]) hx hb d_De_within_17 hl (by decide) rfl (fun ls hl => ?_)
      refine lv_aload_n hx hb d_De_within_19 rfl (lv_at hl 1 rfl) ?_
      refine lv_ifnull hx hb d_De_within_20 ?_
      refine lv_aload hx hb d_De_within_23 (lv_at hl 0 rfl) ?_
      refine lv_ifnonnull (tgt := 30) hx hb d_De_within_25 (by decide) ?_
      refine lv_iconst (v := nI 0) hx hb d_De_within_30 (by decide) ?_
      refine lv_istore (lv' := [(5, .int (nI 0)), (4, .ref (ad u)), (3, .ref (ad t)), (0, .ref x0), (1, .int (nI t)), (2, .int (nI u))]) hx hb d_De_within_31 hl (by decide) rfl (fun ls hl => ?_)
      have loop : ∀ (k i : Nat) (ls : Array Slot), i + k = 96 → winR (wd t) (wd u) 96 0 = winR (wd t) (wd u) k i → lv_has ls 6 [(3, .ref (ad t)), (4, .ref (ad u)), (5, .int (nI i))] → W p l e (headSpec (.code y_De_within b_De_within 6 (some .int) :: AW) (RM 2)).room s m ([.ref x0, .int (nI t), .int (nI u)] : List Value).toArray below meth c s.heap [] 0 0 (MQ below (vp_Si (fun r => r = onR (fun t => onR (fun u => winR (wd t) (wd u) 96 0) (inN cn (nI u))) (inN cn (nI t)))) ([.ref x0, .int (nI t), .int (nI u)] : List Value).toArray s 0 0 (fun _ => False)) (F0 m 33 ls []) := by
        intro k
        induction k with
        | zero =>
          intro i  ls hik hres hl
          refine lv_iload hx hb d_De_within_33 (lv_at hl 2 rfl) ?_
          refine lv_bipush (v := nI 96) hx hb d_De_within_35 (by decide) ?_
          refine lv_icmp_ge (tgt := 71) hx hb d_De_within_37 (by decide) (fun _ => ?_) (fun c9 => absurd (nI_le (by omega) (by omega)) c9)
          refine lv_iconst (v := nI 1) hx hb d_De_within_71 (by decide) ?_
          exact W.iret (v := nI 1) hx hb hr (fun t9 h9t h9W => ⟨_, rfl, by rw [inN_t ht (by omega), inN_t hu (by omega)]; exact (hres.trans rfl).symm, h9t⟩) (fun _ h => nomatch h) d_De_within_72
        | succ k ih =>
          intro i  ls hik hres hl
          refine lv_iload hx hb d_De_within_33 (lv_at hl 2 rfl) ?_
          refine lv_bipush (v := nI 96) hx hb d_De_within_35 (by decide) ?_
          refine lv_icmp_ge (tgt := 71) hx hb d_De_within_37 (by decide) (fun c9 => absurd c9 (nI_ge (by omega) (by omega))) (fun _ => ?_)
          refine lv_aload_n hx hb d_De_within_40 rfl (lv_at hl 0 rfl) ?_
          refine lv_iload hx hb d_De_within_41 (lv_at hl 2 rfl) ?_
          refine vp_callSl (va_Run.run (va_runVN (As := [.int (nI i)]) (rest := []) ⟨hx, hb, hml, hown, hA⟩ (c_Co_word l G L f (hC.2.2.2.2 t ht).1 (hC.2.2.2.2 t ht).2 i (by omega)) ⟨va_cnB 1 hA (gAW kw_10) rfl rfl rfl (hK.2.1 _ kz_19) (hA _ kw_11) (by decide +kernel) ⟨Nat.le_of_ble_eq_true rfl, Nat.le_of_ble_eq_true rfl⟩, (hA _ kw_12), (hA _ kw_13)⟩ (pw_preV (ci := 0) hP hK ((hC.2.2.2.2 t ht).1) rfl) rfl rfl hl.1 rfl (lv_room (Nat.le_of_ble_eq_true rfl)) d_De_within_43 ⟨Nat.zero_le _, Nat.zero_le _⟩)) (fun r_5 e_6 => ?_)
          subst e_6
          refine lv_aload hx hb d_De_within_46 (lv_at hl 1 rfl) ?_
          refine lv_iload hx hb d_De_within_48 (lv_at hl 2 rfl) ?_
          refine vp_callSl (va_Run.run (va_runVN (As := [.int (nI i)]) (rest := [.long (wd t i)]) ⟨hx, hb, hml, hown, hA⟩ (c_Co_word l G L f (hC.2.2.2.2 u hu).1 (hC.2.2.2.2 u hu).2 i (by omega)) ⟨va_cnB 1 hA (gAW kw_10) rfl rfl rfl (hK.2.1 _ kz_19) (hA _ kw_11) (by decide +kernel) ⟨Nat.le_of_ble_eq_true rfl, Nat.le_of_ble_eq_true rfl⟩, (hA _ kw_12), (hA _ kw_13)⟩ (pw_preV (ci := 0) hP hK ((hC.2.2.2.2 u hu).1) rfl) rfl rfl hl.1 rfl (lv_room (Nat.le_of_ble_eq_true rfl)) d_De_within_50 ⟨Nat.zero_le _, Nat.zero_le _⟩)) (fun r_7 e_8 => ?_)
          subst e_8
          refine lv_ldc2 (v := (-1)) hx hb hown (hA _ kw_82) d_De_within_53 ?_
          refine lv_lxor hx hb d_De_within_56 ?_
          refine lv_land hx hb d_De_within_57 ?_
          refine lv_lconst (v := 0) hx hb d_De_within_58 (by decide) ?_
          refine W.lcmp hx hb d_De_within_59 ?_
          by_cases hz : wd t i &&& (wd u i ^^^ (-1)) = 0
          · refine lv_if_eq (tgt := 65) hx hb d_De_within_60 (by decide) (fun _ => ?_) (fun c9 => absurd ((lg_cmp_eq _ _).mpr hz) c9)
            refine lv_iinc (v := nI (i + 1)) (lv' := [(5, .int (nI (i + 1))), (3, .ref (ad t)), (4, .ref (ad u))]) hx hb d_De_within_65 hl (k := 2) rfl (nI_1 i) (by decide) rfl (fun ls hl => ?_)
            refine lv_goto (tgt := 33) hx hb d_De_within_68 (by decide) ?_
            exact ih (i + 1)  ls (by omega) (hres.trans (if_pos hz)) (lv_sub hl [1, 2, 0] rfl)
          · refine lv_if_eq (tgt := 65) hx hb d_De_within_60 (by decide) (fun c9 => absurd c9 (fun z => hz ((lg_cmp_eq _ _).mp z))) (fun _ => ?_)
            refine lv_iconst (v := nI 0) hx hb d_De_within_63 (by decide) ?_
            exact W.iret (v := nI 0) hx hb hr (fun t9 h9t h9W => ⟨_, rfl, by rw [inN_t ht (by omega), inN_t hu (by omega)]; exact (hres.trans (if_neg hz)).symm, h9t⟩) (fun _ h => nomatch h) d_De_within_64
      exact loop (96 - 0) 0  ls (by omega) rfl (lv_sub hl [2, 1, 0] rfl)
    · refine va_csq (va_Run.run (va_runVN (As := [.int y]) (rest := []) ⟨hx, hb, hml, hown, hA⟩ (c_Cb_at l G L f hC.2.1 hC.2.2.1 y) ⟨va_cnB 1 hA (gAW kw_18) rfl rfl rfl (hK.2.1 _ kz_18) (hA _ kw_19) (by decide +kernel) ⟨Nat.le_of_ble_eq_true rfl, Nat.le_of_ble_eq_true rfl⟩, (hA _ kw_21), (hA _ kw_22)⟩ (pw_preV (ci := 1) hP hK hC.2.1 rfl) rfl rfl hl.1 rfl (lv_room (Nat.le_of_ble_eq_true rfl)) d_De_within_14 ⟨Nat.zero_le _, Nat.zero_le _⟩)) (fun r_9 e_10 => ?_)
      subst e_10
      refine xv_N hno2 ?_
      refine lv_astoreN (lv' := [(4, .null), (3, .ref (ad t)), (0, .ref x0), (1, .int (nI t)), (2, .int y)]) hx hb d_De_within_17 hl (by decide) rfl (fun ls hl => ?_)
      refine lv_aload_n hx hb d_De_within_19 rfl (lv_at hl 1 rfl) ?_
      refine lv_ifnull hx hb d_De_within_20 ?_
      refine lv_aloadN hx hb d_De_within_23 (lv_at hl 0 rfl) ?_
      refine lv_ifnonnullN hx hb d_De_within_25 ?_
      refine lv_iconst (v := (-1)) hx hb d_De_within_28 (by decide) ?_
      exact W.iret (v := (-1)) hx hb hr (fun t9 h9t h9W => ⟨_, rfl, by rw [inN_t ht (by omega), inN_f hnb2]; rfl, h9t⟩) (fun _ h => nomatch h) d_De_within_29
  · refine lv_aload_n hx hb d_De_within_0 rfl (lv_at hl 0 rfl) ?_
    refine va_get (D := G.1) (ci := 4) (v := .ref cb) (C := R_De) (T := T_De) (N := 2) hx hb hA in_De hown hK.1 (pl_o hP hx0) 0 rfl rfl 0 (by decide) (hA _ kw_80) (fun _ h9 => h9) rfl d_De_within_1 ?_
    refine lv_iload_n hx hb d_De_within_4 rfl (lv_at hl 1 rfl) ?_
    refine va_csq (va_Run.run (va_runVN (As := [.int x]) (rest := []) ⟨hx, hb, hml, hown, hA⟩ (c_Cb_at l G L f hC.2.1 hC.2.2.1 (x)) ⟨va_cnB 1 hA (gAW kw_18) rfl rfl rfl (hK.2.1 _ kz_18) (hA _ kw_19) (by decide +kernel) ⟨Nat.le_of_ble_eq_true rfl, Nat.le_of_ble_eq_true rfl⟩, (hA _ kw_21), (hA _ kw_22)⟩ (pw_preV (ci := 1) hP hK hC.2.1 rfl) rfl rfl hl.1 rfl (lv_room (Nat.le_of_ble_eq_true rfl)) d_De_within_5 ⟨Nat.zero_le _, Nat.zero_le _⟩)) (fun r_11 e_12 => ?_)
    subst e_12
    refine xv_N hno ?_
    refine lv_astore_nN (lv' := [(3, .null), (0, .ref x0), (1, .int x), (2, .int y)]) hx hb d_De_within_8 rfl hl (by decide) rfl (fun ls hl => ?_)
    refine lv_aload_n hx hb d_De_within_9 rfl (lv_at hl 1 rfl) ?_
    refine va_get (D := G.1) (ci := 4) (v := .ref cb) (C := R_De) (T := T_De) (N := 2) hx hb hA in_De hown hK.1 (pl_o hP hx0) 0 rfl rfl 0 (by decide) (hA _ kw_80) (fun _ h9 => h9) rfl d_De_within_10 ?_
    refine lv_iload_n hx hb d_De_within_13 rfl (lv_at hl 3 rfl) ?_
    rcases at60 (ad := ad) hcn y with ⟨u, hu, rfl⟩ | ⟨hnb2, hno2⟩
    · refine va_csq (va_Run.run (va_runVN (As := [.int (nI u)]) (rest := []) ⟨hx, hb, hml, hown, hA⟩ (c_Cb_at l G L f hC.2.1 hC.2.2.1 (nI u)) ⟨va_cnB 1 hA (gAW kw_18) rfl rfl rfl (hK.2.1 _ kz_18) (hA _ kw_19) (by decide +kernel) ⟨Nat.le_of_ble_eq_true rfl, Nat.le_of_ble_eq_true rfl⟩, (hA _ kw_21), (hA _ kw_22)⟩ (pw_preV (ci := 1) hP hK hC.2.1 rfl) rfl rfl hl.1 rfl (lv_room (Nat.le_of_ble_eq_true rfl)) d_De_within_14 ⟨Nat.zero_le _, Nat.zero_le _⟩)) (fun r_13 e_14 => ?_)
      subst e_14
      refine xv_R (a := ad u) (oAt_t (by decide) hcn hu) ?_
      refine lv_astore (lv' := [(4, .ref (ad u)), (3, .null), (0, .ref x0), (1, .int x), (2, .int (nI u))]) hx hb d_De_within_17 hl (by decide) rfl (fun ls hl => ?_)
      refine lv_aload_nN hx hb d_De_within_19 rfl (lv_at hl 1 rfl) ?_
      refine lv_ifnullN (tgt := 28) hx hb d_De_within_20 (by decide) ?_
      refine lv_iconst (v := (-1)) hx hb d_De_within_28 (by decide) ?_
      exact W.iret (v := (-1)) hx hb hr (fun t9 h9t h9W => ⟨_, rfl, by rw [inN_f hnb]; rfl, h9t⟩) (fun _ h => nomatch h) d_De_within_29
    · refine va_csq (va_Run.run (va_runVN (As := [.int y]) (rest := []) ⟨hx, hb, hml, hown, hA⟩ (c_Cb_at l G L f hC.2.1 hC.2.2.1 y) ⟨va_cnB 1 hA (gAW kw_18) rfl rfl rfl (hK.2.1 _ kz_18) (hA _ kw_19) (by decide +kernel) ⟨Nat.le_of_ble_eq_true rfl, Nat.le_of_ble_eq_true rfl⟩, (hA _ kw_21), (hA _ kw_22)⟩ (pw_preV (ci := 1) hP hK hC.2.1 rfl) rfl rfl hl.1 rfl (lv_room (Nat.le_of_ble_eq_true rfl)) d_De_within_14 ⟨Nat.zero_le _, Nat.zero_le _⟩)) (fun r_15 e_16 => ?_)
      subst e_16
      refine xv_N hno2 ?_
      refine lv_astoreN (lv' := [(4, .null), (3, .null), (0, .ref x0), (1, .int x), (2, .int y)]) hx hb d_De_within_17 hl (by decide) rfl (fun ls hl => ?_)
      refine lv_aload_nN hx hb d_De_within_19 rfl (lv_at hl 1 rfl) ?_
      refine lv_ifnullN (tgt := 28) hx hb d_De_within_20 (by decide) ?_
      refine lv_iconst (v := (-1)) hx hb d_De_within_28 (by decide) ?_
      exact W.iret (v := (-1)) hx hb hr (fun t9 h9t h9W => ⟨_, rfl, by rw [inN_f hnb]; rfl, h9t⟩) (fun _ h => nomatch h) d_De_within_29

set_option maxHeartbeats 4000000 in
set_option maxRecDepth 100000 in
/-- decides -/
theorem c_De_decides (l : Launch) (G : GG) (L : List Nat) (f : Nat → va_E) {x0 cb rb : Nat} (hx0 : Lk L f x0 (.inr (4, [.ref cb, .ref rb]))) {rA rn : Nat} {rad ca wb rk nu : Nat → Nat} {dn : Nat → Bool} {vw : Nat → Nat → Int64} (hB : RuB G L f rb rA rn rad ca wb rk nu dn vw) (x : Int32) : Met l y_De_decides (.code y_De_decides b_De_decides 5 (some .int) :: AW) (RM 5) (va_Pc [.ref x0, .int x] (PW G L f)) (vp_Si (fun r => r = onR (fun q => nI (sumP (fun j => deF vw j q 0 (vw q j)) 96)) (fst0 (isNo rn nu x) 20 0))) 0 0 (fun _ => False) := by
  refine Met.ofW (cc := b_De_decides) (maxL := 5) (ret := (some .int)) (by decide) rfl ?_
  intro p e s m args below meth c s₁ B hml hv
  obtain ⟨rfl, hP, hK⟩ := hv
  have hx := B.exec
  have hb := B.bytes
  have hr := B.returns
  have hA : ∀ w ∈ AW, w.before _ s = true := fun w h => atoms_spec (ws := (.code y_De_decides b_De_decides 5 (some .int) :: AW)) B.pre w (List.mem_cons_of_mem _ h)
  have hown : s.vm.findClass R_De = some m.cls := findClass_of_methodNamed B.named
  have hlocks := B.notSynchronized
  have hl := lv_entry ([.ref x0, .int x]) (n := 5) (Nat.le_of_ble_eq_true rfl)
  rw [lg_entry_eq]
  generalize (lg_sl ([.ref x0, .int x]) ++ List.replicate (5 - (lg_sl ([.ref x0, .int x])).length) Slot.unset).toArray = ls at hl ⊢
  have hl : lv_has ls 5 [(0, .ref x0), (1, .int x)] := hl
  have hrn := hB.1
  refine lv_aload_n hx hb d_De_decides_0 rfl (lv_at hl 0 rfl) ?_
  refine va_get (D := G.1) (ci := 4) (v := .ref rb) (C := R_De) (T := T_De) (N := 2) hx hb hA in_De hown hK.1 (pl_o hP hx0) 0 rfl rfl 1 (by decide) (hA _ kw_81) (fun _ h9 => h9) rfl d_De_decides_1 ?_
  refine lv_iload_n hx hb d_De_decides_4 rfl (lv_at hl 1 rfl) ?_
  refine vp_callSi (va_Run.run (va_runVN (As := [.int x]) (rest := []) ⟨hx, hb, hml, hown, hA⟩ (c_Rb_placeOf l G L f hB x) ⟨va_cnB 1 hA (gAW kw_90) rfl rfl rfl (hK.2.1 _ kz_20) (hA _ kw_48) (by decide +kernel) ⟨Nat.le_of_ble_eq_true rfl, Nat.le_of_ble_eq_true rfl⟩, (hA _ kw_91), (hA _ kw_92)⟩ (pw_preV (ci := 3) hP hK hB.2.1 rfl) rfl rfl hl.1 rfl (lv_room (Nat.le_of_ble_eq_true rfl)) d_De_decides_5 ⟨Nat.zero_le _, Nat.zero_le _⟩)) (fun r_1 e_2 => ?_)
  subst e_2
  rcases ocase (fst0 (isNo rn nu x) 20 0) with hf | ⟨q, hf⟩
  · refine xv_I (y := (-1)) (by rw [hf]; rfl) ?_
    refine lv_istore_n (lv' := [(2, .int (-1)), (0, .ref x0), (1, .int x)]) hx hb d_De_decides_8 rfl hl (by decide) rfl (fun ls hl => ?_)
    refine lv_iload_n hx hb d_De_decides_9 rfl (lv_at hl 0 rfl) ?_
    refine lv_iconst (v := (-1)) hx hb d_De_decides_10 (by decide) ?_
    refine lv_icmp_ne (tgt := 16) hx hb d_De_decides_11 (by decide) (fun c9 => absurd rfl c9) (fun _ => ?_)
    refine lv_iconst (v := (-1)) hx hb d_De_decides_14 (by decide) ?_
    exact W.iret (v := (-1)) hx hb hr (fun t9 h9t h9W => ⟨_, rfl, by rw [hf]; rfl, h9t⟩) (fun _ h => nomatch h) d_De_decides_15
  · have hq : q < rn := (of_decide_eq_true (fst0_t hf).1).1
    refine xv_I (y := nI q) (by rw [hf]; rfl) ?_
    refine lv_istore_n (lv' := [(2, .int (nI q)), (0, .ref x0), (1, .int x)]) hx hb d_De_decides_8 rfl hl (by decide) rfl (fun ls hl => ?_)
    refine lv_iload_n hx hb d_De_decides_9 rfl (lv_at hl 0 rfl) ?_
    refine lv_iconst (v := (-1)) hx hb d_De_decides_10 (by decide) ?_
    refine lv_icmp_ne (tgt := 16) hx hb d_De_decides_11 (by decide) (fun _ => ?_) (fun c9 => absurd c9 (nI_m1 (by omega)))
    refine lv_iconst (v := nI 0) hx hb d_De_decides_16 (by decide) ?_
    refine lv_istore_n (lv' := [(3, .int (nI 0)), (2, .int (nI q)), (0, .ref x0), (1, .int x)]) hx hb d_De_decides_17 rfl hl (by decide) rfl (fun ls hl => ?_)
    refine lv_iconst (v := nI 0) hx hb d_De_decides_18 (by decide) ?_
    refine lv_istore (lv' := [(4, .int (nI 0)), (3, .int (nI 0)), (2, .int (nI q)), (0, .ref x0), (1, .int x)]) hx hb d_De_decides_19 hl (by decide) rfl (fun ls hl => ?_)
    have loop : ∀ (k i : Nat) (ls : Array Slot), i + k = 96 → lv_has ls 5 [(0, .ref x0), (2, .int (nI q)), (3, .int (nI (sumP (fun j => deF vw j q 0 (vw q j)) i))), (4, .int (nI i))] → W p l e (headSpec (.code y_De_decides b_De_decides 5 (some .int) :: AW) (RM 5)).room s m ([.ref x0, .int x] : List Value).toArray below meth c s.heap [] 0 0 (MQ below (vp_Si (fun r => r = onR (fun q => nI (sumP (fun j => deF vw j q 0 (vw q j)) 96)) (fst0 (isNo rn nu x) 20 0))) ([.ref x0, .int x] : List Value).toArray s 0 0 (fun _ => False)) (F0 m 21 ls []) := by
      intro k
      induction k with
      | zero =>
        intro i  ls hik  hl
        refine lv_iload hx hb d_De_decides_21 (lv_at hl 3 rfl) ?_
        refine lv_bipush (v := nI 96) hx hb d_De_decides_23 (by decide) ?_
        refine lv_icmp_ge (tgt := 50) hx hb d_De_decides_25 (by decide) (fun _ => ?_) (fun c9 => absurd (nI_le (by omega) (by omega)) c9)
        refine lv_iload_n hx hb d_De_decides_50 rfl (lv_at hl 2 rfl) ?_
        exact W.iret (v := nI (sumP (fun j => deF vw j q 0 (vw q j)) i)) hx hb hr (fun t9 h9t h9W => ⟨_, rfl, by rw [hf, show i = 96 by omega]; rfl, h9t⟩) (fun _ h => nomatch h) d_De_decides_51
      | succ k ih =>
        intro i  ls hik  hl
        refine lv_iload hx hb d_De_decides_21 (lv_at hl 3 rfl) ?_
        refine lv_bipush (v := nI 96) hx hb d_De_decides_23 (by decide) ?_
        refine lv_icmp_ge (tgt := 50) hx hb d_De_decides_25 (by decide) (fun c9 => absurd c9 (nI_ge (by omega) (by omega))) (fun _ => ?_)
        refine lv_iload_n hx hb d_De_decides_28 rfl (lv_at hl 2 rfl) ?_
        refine lv_aload_n hx hb d_De_decides_29 rfl (lv_at hl 0 rfl) ?_
        refine va_get (D := G.1) (ci := 4) (v := .ref rb) (C := R_De) (T := T_De) (N := 2) hx hb hA in_De hown hK.1 (pl_o hP hx0) 0 rfl rfl 1 (by decide) (hA _ kw_81) (fun _ h9 => h9) rfl d_De_decides_30 ?_
        refine lv_iload_n hx hb d_De_decides_33 rfl (lv_at hl 1 rfl) ?_
        refine lv_iload hx hb d_De_decides_34 (lv_at hl 3 rfl) ?_
        refine vp_callSl (va_Run.run (va_runVN (As := [.int (nI q), .int (nI i)]) (rest := [.int (nI (sumP (fun j => deF vw j q 0 (vw q j)) i))]) ⟨hx, hb, hml, hown, hA⟩ (c_Rb_deF l G L f hB q i hq (by omega)) ⟨va_cnB 2 hA (gAW kw_65) rfl rfl rfl (hK.2.1 _ kz_21) (hA _ kw_48) (by decide +kernel) ⟨Nat.le_of_ble_eq_true rfl, Nat.le_of_ble_eq_true rfl⟩, (hA _ kw_67), (hA _ kw_68)⟩ (pw_preV (ci := 3) hP hK hB.2.1 rfl) rfl rfl hl.1 rfl (lv_room (Nat.le_of_ble_eq_true rfl)) d_De_decides_36 ⟨Nat.zero_le _, Nat.zero_le _⟩)) (fun r_3 e_4 => ?_)
        subst e_4
        refine vp_callSi (va_Run.run (va_runS (As := [.long (deF vw i q 0 (vw q i))]) (rest := [.int (nI (sumP (fun j => deF vw j q 0 (vw q j)) i))]) ⟨hx, hb, hml, hown, hA⟩ (c_bitCount l G L f (deF vw i q 0 (vw q i))) ⟨callB_of 1 hA (gAW kw_76) rfl rfl rfl (hA _ kw_77) (hA _ kw_78) (by decide +kernel) ⟨Nat.le_of_ble_eq_true rfl, Nat.le_of_ble_eq_true rfl⟩, (hA _ kw_79)⟩ (pw_preS hP hK) rfl rfl hl.1 rfl (lv_room (Nat.le_of_ble_eq_true rfl)) d_De_decides_39 ⟨Nat.zero_le _, Nat.zero_le _⟩)) (fun r_5 e_6 => ?_)
        subst e_6
        refine lv_iadd hx hb d_De_decides_42 ?_
        refine xv_I (y := nI (sumP (fun j => deF vw j q 0 (vw q j)) (i + 1))) (nI_add _ _) ?_
        refine lv_istore_n (lv' := [(3, .int (nI (sumP (fun j => deF vw j q 0 (vw q j)) (i + 1)))), (0, .ref x0), (2, .int (nI q)), (4, .int (nI i))]) hx hb d_De_decides_43 rfl hl (by decide) rfl (fun ls hl => ?_)
        refine lv_iinc (v := nI (i + 1)) (lv' := [(4, .int (nI (i + 1))), (3, .int (nI (sumP (fun j => deF vw j q 0 (vw q j)) (i + 1)))), (0, .ref x0), (2, .int (nI q))]) hx hb d_De_decides_44 hl (k := 3) rfl (nI_1 i) (by decide) rfl (fun ls hl => ?_)
        refine lv_goto (tgt := 21) hx hb d_De_decides_47 (by decide) ?_
        exact ih (i + 1)  ls (by omega)  (lv_sub hl [2, 3, 1, 0] rfl)
    exact loop (96 - 0) 0  ls (by omega)  (lv_sub hl [3, 2, 1, 0] rfl)

set_option maxHeartbeats 4000000 in
set_option maxRecDepth 100000 in
/-- matters -/
theorem c_De_matters (l : Launch) (G : GG) (L : List Nat) (f : Nat → va_E) {x0 cb rb : Nat} (hx0 : Lk L f x0 (.inr (4, [.ref cb, .ref rb]))) {rA rn : Nat} {rad ca wb rk nu : Nat → Nat} {dn : Nat → Bool} {vw : Nat → Nat → Int64} (hB : RuB G L f rb rA rn rad ca wb rk nu dn vw) (x : Int32) : Met l y_De_matters (.code y_De_matters b_De_matters 5 (some .int) :: AW) (RM 6) (va_Pc [.ref x0, .int x] (PW G L f)) (vp_Si (fun r => r = onR (fun q => nI (sumP (tuF vw dn rn q) 96)) (fst0 (isNo rn nu x) 20 0))) 0 0 (fun _ => False) := by
  refine Met.ofW (cc := b_De_matters) (maxL := 5) (ret := (some .int)) (by decide) rfl ?_
  intro p e s m args below meth c s₁ B hml hv
  obtain ⟨rfl, hP, hK⟩ := hv
  have hx := B.exec
  have hb := B.bytes
  have hr := B.returns
  have hA : ∀ w ∈ AW, w.before _ s = true := fun w h => atoms_spec (ws := (.code y_De_matters b_De_matters 5 (some .int) :: AW)) B.pre w (List.mem_cons_of_mem _ h)
  have hown : s.vm.findClass R_De = some m.cls := findClass_of_methodNamed B.named
  have hlocks := B.notSynchronized
  have hl := lv_entry ([.ref x0, .int x]) (n := 5) (Nat.le_of_ble_eq_true rfl)
  rw [lg_entry_eq]
  generalize (lg_sl ([.ref x0, .int x]) ++ List.replicate (5 - (lg_sl ([.ref x0, .int x])).length) Slot.unset).toArray = ls at hl ⊢
  have hl : lv_has ls 5 [(0, .ref x0), (1, .int x)] := hl
  have hrn := hB.1
  refine lv_aload_n hx hb d_De_matters_0 rfl (lv_at hl 0 rfl) ?_
  refine va_get (D := G.1) (ci := 4) (v := .ref rb) (C := R_De) (T := T_De) (N := 2) hx hb hA in_De hown hK.1 (pl_o hP hx0) 0 rfl rfl 1 (by decide) (hA _ kw_81) (fun _ h9 => h9) rfl d_De_matters_1 ?_
  refine lv_iload_n hx hb d_De_matters_4 rfl (lv_at hl 1 rfl) ?_
  refine vp_callSi (va_Run.run (va_runVN (As := [.int x]) (rest := []) ⟨hx, hb, hml, hown, hA⟩ (c_Rb_placeOf l G L f hB x) ⟨va_cnB 1 hA (gAW kw_90) rfl rfl rfl (hK.2.1 _ kz_20) (hA _ kw_48) (by decide +kernel) ⟨Nat.le_of_ble_eq_true rfl, Nat.le_of_ble_eq_true rfl⟩, (hA _ kw_91), (hA _ kw_92)⟩ (pw_preV (ci := 3) hP hK hB.2.1 rfl) rfl rfl hl.1 rfl (lv_room (Nat.le_of_ble_eq_true rfl)) d_De_matters_5 ⟨Nat.zero_le _, Nat.zero_le _⟩)) (fun r_1 e_2 => ?_)
  subst e_2
  rcases ocase (fst0 (isNo rn nu x) 20 0) with hf | ⟨q, hf⟩
  · refine xv_I (y := (-1)) (by rw [hf]; rfl) ?_
    refine lv_istore_n (lv' := [(2, .int (-1)), (0, .ref x0), (1, .int x)]) hx hb d_De_matters_8 rfl hl (by decide) rfl (fun ls hl => ?_)
    refine lv_iload_n hx hb d_De_matters_9 rfl (lv_at hl 0 rfl) ?_
    refine lv_iconst (v := (-1)) hx hb d_De_matters_10 (by decide) ?_
    refine lv_icmp_ne (tgt := 16) hx hb d_De_matters_11 (by decide) (fun c9 => absurd rfl c9) (fun _ => ?_)
    refine lv_iconst (v := (-1)) hx hb d_De_matters_14 (by decide) ?_
    exact W.iret (v := (-1)) hx hb hr (fun t9 h9t h9W => ⟨_, rfl, by rw [hf]; rfl, h9t⟩) (fun _ h => nomatch h) d_De_matters_15
  · have hq : q < rn := (of_decide_eq_true (fst0_t hf).1).1
    refine xv_I (y := nI q) (by rw [hf]; rfl) ?_
    refine lv_istore_n (lv' := [(2, .int (nI q)), (0, .ref x0), (1, .int x)]) hx hb d_De_matters_8 rfl hl (by decide) rfl (fun ls hl => ?_)
    refine lv_iload_n hx hb d_De_matters_9 rfl (lv_at hl 0 rfl) ?_
    refine lv_iconst (v := (-1)) hx hb d_De_matters_10 (by decide) ?_
    refine lv_icmp_ne (tgt := 16) hx hb d_De_matters_11 (by decide) (fun _ => ?_) (fun c9 => absurd c9 (nI_m1 (by omega)))
    refine lv_iconst (v := nI 0) hx hb d_De_matters_16 (by decide) ?_
    refine lv_istore_n (lv' := [(3, .int (nI 0)), (2, .int (nI q)), (0, .ref x0), (1, .int x)]) hx hb d_De_matters_17 rfl hl (by decide) rfl (fun ls hl => ?_)
    refine lv_iconst (v := nI 0) hx hb d_De_matters_18 (by decide) ?_
    refine lv_istore (lv' := [(4, .int (nI 0)), (3, .int (nI 0)), (2, .int (nI q)), (0, .ref x0), (1, .int x)]) hx hb d_De_matters_19 hl (by decide) rfl (fun ls hl => ?_)
    have loop : ∀ (k i : Nat) (ls : Array Slot), i + k = 96 → lv_has ls 5 [(0, .ref x0), (2, .int (nI q)), (3, .int (nI (sumP (tuF vw dn rn q) i))), (4, .int (nI i))] → W p l e (headSpec (.code y_De_matters b_De_matters 5 (some .int) :: AW) (RM 6)).room s m ([.ref x0, .int x] : List Value).toArray below meth c s.heap [] 0 0 (MQ below (vp_Si (fun r => r = onR (fun q => nI (sumP (tuF vw dn rn q) 96)) (fst0 (isNo rn nu x) 20 0))) ([.ref x0, .int x] : List Value).toArray s 0 0 (fun _ => False)) (F0 m 21 ls []) := by
      intro k
      induction k with
      | zero =>
        intro i  ls hik  hl
        refine lv_iload hx hb d_De_matters_21 (lv_at hl 3 rfl) ?_
        refine lv_bipush (v := nI 96) hx hb d_De_matters_23 (by decide) ?_
        refine lv_icmp_ge (tgt := 50) hx hb d_De_matters_25 (by decide) (fun _ => ?_) (fun c9 => absurd (nI_le (by omega) (by omega)) c9)
        refine lv_iload_n hx hb d_De_matters_50 rfl (lv_at hl 2 rfl) ?_
        exact W.iret (v := nI (sumP (tuF vw dn rn q) i)) hx hb hr (fun t9 h9t h9W => ⟨_, rfl, by rw [hf, show i = 96 by omega]; rfl, h9t⟩) (fun _ h => nomatch h) d_De_matters_51
      | succ k ih =>
        intro i  ls hik  hl
        refine lv_iload hx hb d_De_matters_21 (lv_at hl 3 rfl) ?_
        refine lv_bipush (v := nI 96) hx hb d_De_matters_23 (by decide) ?_
        refine lv_icmp_ge (tgt := 50) hx hb d_De_matters_25 (by decide) (fun c9 => absurd c9 (nI_ge (by omega) (by omega))) (fun _ => ?_)
        refine lv_iload_n hx hb d_De_matters_28 rfl (lv_at hl 2 rfl) ?_
        refine lv_aload_n hx hb d_De_matters_29 rfl (lv_at hl 0 rfl) ?_
        refine va_get (D := G.1) (ci := 4) (v := .ref rb) (C := R_De) (T := T_De) (N := 2) hx hb hA in_De hown hK.1 (pl_o hP hx0) 0 rfl rfl 1 (by decide) (hA _ kw_81) (fun _ h9 => h9) rfl d_De_matters_30 ?_
        refine lv_iload_n hx hb d_De_matters_33 rfl (lv_at hl 1 rfl) ?_
        refine lv_iload hx hb d_De_matters_34 (lv_at hl 3 rfl) ?_
        refine vp_callSl (va_Run.run (va_runVN (As := [.int (nI q), .int (nI i)]) (rest := [.int (nI (sumP (tuF vw dn rn q) i))]) ⟨hx, hb, hml, hown, hA⟩ (c_Rb_tuF l G L f hB q i hq (by omega)) ⟨va_cnB 2 hA (gAW kw_93) rfl rfl rfl (hK.2.1 _ kz_22) (hA _ kw_48) (by decide +kernel) ⟨Nat.le_of_ble_eq_true rfl, Nat.le_of_ble_eq_true rfl⟩, (hA _ kw_94), (hA _ kw_95)⟩ (pw_preV (ci := 3) hP hK hB.2.1 rfl) rfl rfl hl.1 rfl (lv_room (Nat.le_of_ble_eq_true rfl)) d_De_matters_36 ⟨Nat.zero_le _, Nat.zero_le _⟩)) (fun r_3 e_4 => ?_)
        subst e_4
        refine vp_callSi (va_Run.run (va_runS (As := [.long (tuF vw dn rn q i)]) (rest := [.int (nI (sumP (tuF vw dn rn q) i))]) ⟨hx, hb, hml, hown, hA⟩ (c_bitCount l G L f (tuF vw dn rn q i)) ⟨callB_of 1 hA (gAW kw_76) rfl rfl rfl (hA _ kw_77) (hA _ kw_78) (by decide +kernel) ⟨Nat.le_of_ble_eq_true rfl, Nat.le_of_ble_eq_true rfl⟩, (hA _ kw_79)⟩ (pw_preS hP hK) rfl rfl hl.1 rfl (lv_room (Nat.le_of_ble_eq_true rfl)) d_De_matters_39 ⟨Nat.zero_le _, Nat.zero_le _⟩)) (fun r_5 e_6 => ?_)
        subst e_6
        refine lv_iadd hx hb d_De_matters_42 ?_
        refine xv_I (y := nI (sumP (tuF vw dn rn q) (i + 1))) (nI_add _ _) ?_
        refine lv_istore_n (lv' := [(3, .int (nI (sumP (tuF vw dn rn q) (i + 1)))), (0, .ref x0), (2, .int (nI q)), (4, .int (nI i))]) hx hb d_De_matters_43 rfl hl (by decide) rfl (fun ls hl => ?_)
        refine lv_iinc (v := nI (i + 1)) (lv' := [(4, .int (nI (i + 1))), (3, .int (nI (sumP (tuF vw dn rn q) (i + 1)))), (0, .ref x0), (2, .int (nI q))]) hx hb d_De_matters_44 hl (k := 3) rfl (nI_1 i) (by decide) rfl (fun ls hl => ?_)
        refine lv_goto (tgt := 21) hx hb d_De_matters_47 (by decide) ?_
        exact ih (i + 1)  ls (by omega)  (lv_sub hl [2, 3, 1, 0] rfl)
    exact loop (96 - 0) 0  ls (by omega)  (lv_sub hl [3, 2, 1, 0] rfl)

set_option maxHeartbeats 4000000 in
set_option maxRecDepth 100000 in
/-- sees -/
theorem c_De_sees (l : Launch) (G : GG) (L : List Nat) (f : Nat → va_E) {x0 cb rb : Nat} (hx0 : Lk L f x0 (.inr (4, [.ref cb, .ref rb]))) {rA rn : Nat} {rad ca wb rk nu : Nat → Nat} {dn : Nat → Bool} {vw : Nat → Nat → Int64} (hB : RuB G L f rb rA rn rad ca wb rk nu dn vw) (x y : Int32) : Met l y_De_sees (.code y_De_sees b_De_sees 7 (some .int) :: AW) (RM 5) (va_Pc [.ref x0, .int x, .int y] (PW G L f)) (vp_Si (fun r => r = onR (fun u => onR (fun v => nI (sumP (fun i => vfR v v 8 &&& alF vw dn (u * 12 + i) rn 0 (-1) 0) 12)) (inN 8 y)) (inN 8 x))) 0 0 (fun _ => False) := by
  refine Met.ofW (cc := b_De_sees) (maxL := 7) (ret := (some .int)) (by decide) rfl ?_
  intro p e s m args below meth c s₁ B hml hv
  obtain ⟨rfl, hP, hK⟩ := hv
  have hx := B.exec
  have hb := B.bytes
  have hr := B.returns
  have hA : ∀ w ∈ AW, w.before _ s = true := fun w h => atoms_spec (ws := (.code y_De_sees b_De_sees 7 (some .int) :: AW)) B.pre w (List.mem_cons_of_mem _ h)
  have hown : s.vm.findClass R_De = some m.cls := findClass_of_methodNamed B.named
  have hlocks := B.notSynchronized
  have hl := lv_entry ([.ref x0, .int x, .int y]) (n := 7) (Nat.le_of_ble_eq_true rfl)
  rw [lg_entry_eq]
  generalize (lg_sl ([.ref x0, .int x, .int y]) ++ List.replicate (7 - (lg_sl ([.ref x0, .int x, .int y])).length) Slot.unset).toArray = ls at hl ⊢
  have hl : lv_has ls 7 [(0, .ref x0), (1, .int x), (2, .int y)] := hl
  have hrn := hB.1
  refine lv_iload_n hx hb d_De_sees_0 rfl (lv_at hl 1 rfl) ?_
  refine lv_bipush (v := nI 8) hx hb d_De_sees_1 (by decide) ?_
  refine vp_callSi (va_Run.run (va_runS (As := [.int x, .int (nI 8)]) (rest := []) ⟨hx, hb, hml, hown, hA⟩ (c_isBelow l G L f (x) (nI 8)) ⟨callB_of 2 hA (gAW kw_4) rfl rfl rfl (hA _ kw_5) (hA _ kw_96) (by decide +kernel) ⟨Nat.le_of_ble_eq_true rfl, Nat.le_of_ble_eq_true rfl⟩, (hA _ kw_6)⟩ (pw_preS hP hK) rfl rfl hl.1 rfl (lv_room (Nat.le_of_ble_eq_true rfl)) d_De_sees_3 ⟨Nat.zero_le _, Nat.zero_le _⟩)) (fun r_1 e_2 => ?_)
  subst e_2
  rcases bcase (blw x (nI 8)) with hb_0 | hb_0
  · refine lv_if_eq (tgt := 18) hx hb d_De_sees_6 (by decide) (fun _ => ?_) (fun c9 => absurd (by rw [hb_0]; rfl) c9)
    refine lv_iconst (v := (-1)) hx hb d_De_sees_18 (by decide) ?_
    exact W.iret (v := (-1)) hx hb hr (fun t9 h9t h9W => ⟨_, rfl, by rw [inN_f hb_0]; rfl, h9t⟩) (fun _ h => nomatch h) d_De_sees_19
  · refine lv_if_eq (tgt := 18) hx hb d_De_sees_6 (by decide) (fun c9 => absurd c9 (by rw [hb_0]; decide)) (fun _ => ?_)
    obtain ⟨u, hu, rfl⟩ := blw_of (by decide) hb_0
    refine lv_iload_n hx hb d_De_sees_9 rfl (lv_at hl 2 rfl) ?_
    refine lv_bipush (v := nI 8) hx hb d_De_sees_10 (by decide) ?_
    refine vp_callSi (va_Run.run (va_runS (As := [.int y, .int (nI 8)]) (rest := []) ⟨hx, hb, hml, hown, hA⟩ (c_isBelow l G L f (y) (nI 8)) ⟨callB_of 2 hA (gAW kw_4) rfl rfl rfl (hA _ kw_5) (hA _ kw_96) (by decide +kernel) ⟨Nat.le_of_ble_eq_true rfl, Nat.le_of_ble_eq_true rfl⟩, (hA _ kw_6)⟩ (pw_preS hP hK) rfl rfl hl.1 rfl (lv_room (Nat.le_of_ble_eq_true rfl)) d_De_sees_12 ⟨Nat.zero_le _, Nat.zero_le _⟩)) (fun r_3 e_4 => ?_)
    subst e_4
    rcases bcase (blw y (nI 8)) with hb_1 | hb_1
    · refine lv_if_ne (tgt := 20) hx hb d_De_sees_15 (by decide) (fun c9 => absurd (by rw [hb_1]; rfl) c9) (fun _ => ?_)
      refine lv_iconst (v := (-1)) hx hb d_De_sees_18 (by decide) ?_
      exact W.iret (v := (-1)) hx hb hr (fun t9 h9t h9W => ⟨_, rfl, by rw [inN_t hu (by decide), inN_f hb_1]; rfl, h9t⟩) (fun _ h => nomatch h) d_De_sees_19
    · refine lv_if_ne (tgt := 20) hx hb d_De_sees_15 (by decide) (fun _ => ?_) (fun c9 => absurd c9 (by rw [hb_1]; decide))
      obtain ⟨v, hv, rfl⟩ := blw_of (by decide) hb_1
      refine lv_iload_n hx hb d_De_sees_20 rfl (lv_at hl 2 rfl) ?_
      refine lv_iload_n hx hb d_De_sees_21 rfl (lv_at hl 2 rfl) ?_
      refine vp_callSl (va_Run.run (va_runS (As := [.int (nI v), .int (nI v)]) (rest := []) ⟨hx, hb, hml, hown, hA⟩ (c_De_vf l G L f v v hv hv) ⟨callB_of 2 hA (gAW kw_41) rfl rfl rfl (hA _ kw_5) (hA _ kw_97) (by decide +kernel) ⟨Nat.le_of_ble_eq_true rfl, Nat.le_of_ble_eq_true rfl⟩, (hA _ kw_42)⟩ (pw_preS hP hK) rfl rfl hl.1 rfl (lv_room (Nat.le_of_ble_eq_true rfl)) d_De_sees_22 ⟨Nat.zero_le _, Nat.zero_le _⟩)) (fun r_5 e_6 => ?_)
      subst e_6
      refine lv_lstore_n (lv' := [(3, .long (vfR v v 8)), (0, .ref x0), (1, .int (nI u)), (2, .int (nI v))]) hx hb d_De_sees_25 rfl hl (by decide) rfl (fun ls hl => ?_)
      refine lv_iconst (v := nI 0) hx hb d_De_sees_26 (by decide) ?_
      refine lv_istore (lv' := [(5, .int (nI 0)), (3, .long (vfR v v 8)), (0, .ref x0), (1, .int (nI u)), (2, .int (nI v))]) hx hb d_De_sees_27 hl (by decide) rfl (fun ls hl => ?_)
      refine lv_iconst (v := nI 0) hx hb d_De_sees_29 (by decide) ?_
      refine lv_istore (lv' := [(6, .int (nI 0)), (5, .int (nI 0)), (3, .long (vfR v v 8)), (0, .ref x0), (1, .int (nI u)), (2, .int (nI v))]) hx hb d_De_sees_30 hl (by decide) rfl (fun ls hl => ?_)
      have loop : ∀ (k i : Nat) (ls : Array Slot), i + k = 12 → lv_has ls 7 [(0, .ref x0), (1, .int (nI u)), (3, .long (vfR v v 8)), (5, .int (nI (sumP (fun i => vfR v v 8 &&& alF vw dn (u * 12 + i) rn 0 (-1) 0) i))), (6, .int (nI i))] → W p l e (headSpec (.code y_De_sees b_De_sees 7 (some .int) :: AW) (RM 5)).room s m ([.ref x0, .int (nI u), .int (nI v)] : List Value).toArray below meth c s.heap [] 0 0 (MQ below (vp_Si (fun r => r = onR (fun u => onR (fun v => nI (sumP (fun i => vfR v v 8 &&& alF vw dn (u * 12 + i) rn 0 (-1) 0) 12)) (inN 8 (nI v))) (inN 8 (nI u)))) ([.ref x0, .int (nI u), .int (nI v)] : List Value).toArray s 0 0 (fun _ => False)) (F0 m 32 ls []) := by
        intro k
        induction k with
        | zero =>
          intro i  ls hik  hl
          refine lv_iload hx hb d_De_sees_32 (lv_at hl 4 rfl) ?_
          refine lv_bipush (v := nI 12) hx hb d_De_sees_34 (by decide) ?_
          refine lv_icmp_ge (tgt := 66) hx hb d_De_sees_36 (by decide) (fun _ => ?_) (fun c9 => absurd (nI_le (by omega) (by omega)) c9)
          refine lv_iload hx hb d_De_sees_66 (lv_at hl 3 rfl) ?_
          exact W.iret (v := nI (sumP (fun i => vfR v v 8 &&& alF vw dn (u * 12 + i) rn 0 (-1) 0) i)) hx hb hr (fun t9 h9t h9W => ⟨_, rfl, by rw [inN_t hu (by decide), inN_t hv (by decide), show i = 12 by omega]; rfl, h9t⟩) (fun _ h => nomatch h) d_De_sees_68
        | succ k ih =>
          intro i  ls hik  hl
          refine lv_iload hx hb d_De_sees_32 (lv_at hl 4 rfl) ?_
          refine lv_bipush (v := nI 12) hx hb d_De_sees_34 (by decide) ?_
          refine lv_icmp_ge (tgt := 66) hx hb d_De_sees_36 (by decide) (fun c9 => absurd c9 (nI_ge (by omega) (by omega))) (fun _ => ?_)
          refine lv_iload hx hb d_De_sees_39 (lv_at hl 3 rfl) ?_
          refine lv_lload_n hx hb d_De_sees_41 rfl (lv_at hl 2 rfl) ?_
          refine lv_aload_n hx hb d_De_sees_42 rfl (lv_at hl 0 rfl) ?_
          refine lv_iload_n hx hb d_De_sees_43 rfl (lv_at hl 1 rfl) ?_
          refine lv_bipush (v := nI 12) hx hb d_De_sees_44 (by decide) ?_
          refine lv_imul hx hb d_De_sees_46 ?_
          refine xv_I (y := nI (u * 12)) (pk_mul _ _) ?_
          refine lv_iload hx hb d_De_sees_47 (lv_at hl 4 rfl) ?_
          refine lv_iadd hx hb d_De_sees_49 ?_
          refine xv_I (y := nI (u * 12 + i)) (nI_add _ _) ?_
          refine vp_callSl (va_Run.run (va_runV (As := [.int (nI (u * 12 + i))]) (rest := [.long (vfR v v 8), .int (nI (sumP (fun i => vfR v v 8 &&& alF vw dn (u * 12 + i) rn 0 (-1) 0) i))]) ⟨hx, hb, hml, hown, hA⟩ (c_De_alIn l G L f hx0 hB (u * 12 + i) (by omega)) ⟨callB_of 1 hA (gAW kw_83) rfl rfl rfl (hA _ kw_5) (hA _ kw_84) (by decide +kernel) ⟨Nat.le_of_ble_eq_true rfl, Nat.le_of_ble_eq_true rfl⟩, (hA _ kw_85), (hA _ kw_86)⟩ (pw_preV (ci := 4) hP hK hx0 rfl) rfl rfl hl.1 rfl (lv_room (Nat.le_of_ble_eq_true rfl)) d_De_sees_50 ⟨Nat.zero_le _, Nat.zero_le _⟩)) (fun r_7 e_8 => ?_)
          subst e_8
          refine lv_land hx hb d_De_sees_53 ?_
          refine vp_callSi (va_Run.run (va_runS (As := [.long ((vfR v v 8) &&& (alF vw dn (u * 12 + i) rn 0 (-1) 0))]) (rest := [.int (nI (sumP (fun i => vfR v v 8 &&& alF vw dn (u * 12 + i) rn 0 (-1) 0) i))]) ⟨hx, hb, hml, hown, hA⟩ (c_bitCount l G L f ((vfR v v 8) &&& (alF vw dn (u * 12 + i) rn 0 (-1) 0))) ⟨callB_of 1 hA (gAW kw_76) rfl rfl rfl (hA _ kw_77) (hA _ kw_78) (by decide +kernel) ⟨Nat.le_of_ble_eq_true rfl, Nat.le_of_ble_eq_true rfl⟩, (hA _ kw_79)⟩ (pw_preS hP hK) rfl rfl hl.1 rfl (lv_room (Nat.le_of_ble_eq_true rfl)) d_De_sees_54 ⟨Nat.zero_le _, Nat.zero_le _⟩)) (fun r_9 e_10 => ?_)
          subst e_10
          refine lv_iadd hx hb d_De_sees_57 ?_
          refine xv_I (y := nI (sumP (fun i => vfR v v 8 &&& alF vw dn (u * 12 + i) rn 0 (-1) 0) (i + 1))) (nI_add _ _) ?_
          refine lv_istore (lv' := [(5, .int (nI (sumP (fun i => vfR v v 8 &&& alF vw dn (u * 12 + i) rn 0 (-1) 0) (i + 1)))), (0, .ref x0), (1, .int (nI u)), (3, .long (vfR v v 8)), (6, .int (nI i))]) hx hb d_De_sees_58 hl (by decide) rfl (fun ls hl => ?_)
          refine lv_iinc (v := nI (i + 1)) (lv' := [(6, .int (nI (i + 1))), (5, .int (nI (sumP (fun i => vfR v v 8 &&& alF vw dn (u * 12 + i) rn 0 (-1) 0) (i + 1)))), (0, .ref x0), (1, .int (nI u)), (3, .long (vfR v v 8))]) hx hb d_De_sees_60 hl (k := 4) rfl (nI_1 i) (by decide) rfl (fun ls hl => ?_)
          refine lv_goto (tgt := 32) hx hb d_De_sees_63 (by decide) ?_
          exact ih (i + 1)  ls (by omega)  (lv_sub hl [2, 3, 4, 1, 0] rfl)
      exact loop (12 - 0) 0  ls (by omega)  (lv_sub hl [3, 4, 2, 1, 0] rfl)

set_option maxHeartbeats 4000000 in
set_option maxRecDepth 100000 in
/-- idle -/
theorem c_De_idle (l : Launch) (G : GG) (L : List Nat) (f : Nat → va_E) {x0 cb rb : Nat} (hx0 : Lk L f x0 (.inr (4, [.ref cb, .ref rb]))) {mA gA cn : Nat} {ad wa kd : Nat → Nat} {ka kb kc : Nat → Int32} {wd : Nat → Nat → Int64} {mm : Nat → Bool} (hC : CoB G L f cb mA gA cn ad wa kd ka kb kc wd mm) {rA rn : Nat} {rad ca wb rk nu : Nat → Nat} {dn : Nat → Bool} {vw : Nat → Nat → Int64} (hB : RuB G L f rb rA rn rad ca wb rk nu dn vw) (tt_ : Bool) (x : Int32) : Met l y_De_idle (.code y_De_idle b_De_idle 6 (some .int) :: AW) (RM 4) (va_Pc [.ref x0, .int (bI tt_), .int x] (PW G L f)) (vp_Si (fun r => r = onR (fun t => nI (maxR (fun j => idF vw rk dn tt_ j rn 0 (wd t j) 0) 96)) (inN cn x))) 0 0 (fun _ => False) := by
  refine Met.ofW (cc := b_De_idle) (maxL := 6) (ret := (some .int)) (by decide) rfl ?_
  intro p e s m args below meth c s₁ B hml hv
  obtain ⟨rfl, hP, hK⟩ := hv
  have hx := B.exec
  have hb := B.bytes
  have hr := B.returns
  have hA : ∀ w ∈ AW, w.before _ s = true := fun w h => atoms_spec (ws := (.code y_De_idle b_De_idle 6 (some .int) :: AW)) B.pre w (List.mem_cons_of_mem _ h)
  have hown : s.vm.findClass R_De = some m.cls := findClass_of_methodNamed B.named
  have hlocks := B.notSynchronized
  have hl := lv_entry ([.ref x0, .int (bI tt_), .int x]) (n := 6) (Nat.le_of_ble_eq_true rfl)
  rw [lg_entry_eq]
  generalize (lg_sl ([.ref x0, .int (bI tt_), .int x]) ++ List.replicate (6 - (lg_sl ([.ref x0, .int (bI tt_), .int x])).length) Slot.unset).toArray = ls at hl ⊢
  have hl : lv_has ls 6 [(0, .ref x0), (1, .int (bI tt_)), (2, .int x)] := hl
  have hcn := hC.1
  have hrn := hB.1
  rcases at60 (ad := ad) hcn x with ⟨t, ht, rfl⟩ | ⟨hnb, hno⟩
  · refine lv_aload_n hx hb d_De_idle_0 rfl (lv_at hl 0 rfl) ?_
    refine va_get (D := G.1) (ci := 4) (v := .ref cb) (C := R_De) (T := T_De) (N := 2) hx hb hA in_De hown hK.1 (pl_o hP hx0) 0 rfl rfl 0 (by decide) (hA _ kw_80) (fun _ h9 => h9) rfl d_De_idle_1 ?_
    refine lv_iload_n hx hb d_De_idle_4 rfl (lv_at hl 2 rfl) ?_
    refine va_csq (va_Run.run (va_runVN (As := [.int (nI t)]) (rest := []) ⟨hx, hb, hml, hown, hA⟩ (c_Cb_at l G L f hC.2.1 hC.2.2.1 (nI t)) ⟨va_cnB 1 hA (gAW kw_18) rfl rfl rfl (hK.2.1 _ kz_18) (hA _ kw_19) (by decide +kernel) ⟨Nat.le_of_ble_eq_true rfl, Nat.le_of_ble_eq_true rfl⟩, (hA _ kw_21), (hA _ kw_22)⟩ (pw_preV (ci := 1) hP hK hC.2.1 rfl) rfl rfl hl.1 rfl (lv_room (Nat.le_of_ble_eq_true rfl)) d_De_idle_5 ⟨Nat.zero_le _, Nat.zero_le _⟩)) (fun r_1 e_2 => ?_)
    subst e_2
    refine xv_R (a := ad t) (oAt_t (by decide) hcn ht) ?_
    refine lv_astore_n (lv' := [(3, .ref (ad t)), (0, .ref x0), (1, .int (bI tt_)), (2, .int (nI t))]) hx hb d_De_idle_8 rfl hl (by decide) rfl (fun ls hl => ?_)
    refine lv_aload_n hx hb d_De_idle_9 rfl (lv_at hl 0 rfl) ?_
    refine lv_ifnonnull (tgt := 15) hx hb d_De_idle_10 (by decide) ?_
    refine lv_iconst (v := nI 0) hx hb d_De_idle_15 (by decide) ?_
    refine lv_istore (lv' := [(4, .int (nI 0)), (3, .ref (ad t)), (0, .ref x0), (1, .int (bI tt_)), (2, .int (nI t))]) hx hb d_De_idle_16 hl (by decide) rfl (fun ls hl => ?_)
    refine lv_iconst (v := nI 0) hx hb d_De_idle_18 (by decide) ?_
    refine lv_istore (lv' := [(5, .int (nI 0)), (4, .int (nI 0)), (3, .ref (ad t)), (0, .ref x0), (1, .int (bI tt_)), (2, .int (nI t))]) hx hb d_De_idle_19 hl (by decide) rfl (fun ls hl => ?_)
    have loop : ∀ (k i : Nat) (ls : Array Slot), i + k = 96 → lv_has ls 6 [(0, .ref x0), (1, .int (bI tt_)), (3, .ref (ad t)), (4, .int (nI (maxR (fun j => idF vw rk dn tt_ j rn 0 (wd t j) 0) i))), (5, .int (nI i))] → W p l e (headSpec (.code y_De_idle b_De_idle 6 (some .int) :: AW) (RM 4)).room s m ([.ref x0, .int (bI tt_), .int (nI t)] : List Value).toArray below meth c s.heap [] 0 0 (MQ below (vp_Si (fun r => r = onR (fun t => nI (maxR (fun j => idF vw rk dn tt_ j rn 0 (wd t j) 0) 96)) (inN cn (nI t)))) ([.ref x0, .int (bI tt_), .int (nI t)] : List Value).toArray s 0 0 (fun _ => False)) (F0 m 21 ls []) := by
      intro k
      induction k with
      | zero =>
        intro i  ls hik  hl
        refine lv_iload hx hb d_De_idle_21 (lv_at hl 4 rfl) ?_
        refine lv_bipush (v := nI 96) hx hb d_De_idle_23 (by decide) ?_
        refine lv_icmp_ge (tgt := 57) hx hb d_De_idle_25 (by decide) (fun _ => ?_) (fun c9 => absurd (nI_le (by omega) (by omega)) c9)
        refine lv_iload hx hb d_De_idle_57 (lv_at hl 3 rfl) ?_
        exact W.iret (v := nI (maxR (fun j => idF vw rk dn tt_ j rn 0 (wd t j) 0) i)) hx hb hr (fun t9 h9t h9W => ⟨_, rfl, by rw [inN_t ht (by omega), show i = 96 by omega]; rfl, h9t⟩) (fun _ h => nomatch h) d_De_idle_59
      | succ k ih =>
        intro i  ls hik  hl
        refine lv_iload hx hb d_De_idle_21 (lv_at hl 4 rfl) ?_
        refine lv_bipush (v := nI 96) hx hb d_De_idle_23 (by decide) ?_
        refine lv_icmp_ge (tgt := 57) hx hb d_De_idle_25 (by decide) (fun c9 => absurd c9 (nI_ge (by omega) (by omega))) (fun _ => ?_)
        refine lv_iload hx hb d_De_idle_28 (lv_at hl 3 rfl) ?_
        refine lv_aload_n hx hb d_De_idle_30 rfl (lv_at hl 0 rfl) ?_
        refine va_get (D := G.1) (ci := 4) (v := .ref rb) (C := R_De) (T := T_De) (N := 2) hx hb hA in_De hown hK.1 (pl_o hP hx0) 0 rfl rfl 1 (by decide) (hA _ kw_81) (fun _ h9 => h9) rfl d_De_idle_31 ?_
        refine lv_iload_n hx hb d_De_idle_34 rfl (lv_at hl 1 rfl) ?_
        refine lv_aload_n hx hb d_De_idle_35 rfl (lv_at hl 2 rfl) ?_
        refine lv_iload hx hb d_De_idle_36 (lv_at hl 4 rfl) ?_
        refine vp_callSl (va_Run.run (va_runVN (As := [.int (nI i)]) (rest := [.int (bI tt_), .ref rb, .int (nI (maxR (fun j => idF vw rk dn tt_ j rn 0 (wd t j) 0) i))]) ⟨hx, hb, hml, hown, hA⟩ (c_Co_word l G L f (hC.2.2.2.2 t ht).1 (hC.2.2.2.2 t ht).2 i (by omega)) ⟨va_cnB 1 hA (gAW kw_10) rfl rfl rfl (hK.2.1 _ kz_19) (hA _ kw_11) (by decide +kernel) ⟨Nat.le_of_ble_eq_true rfl, Nat.le_of_ble_eq_true rfl⟩, (hA _ kw_12), (hA _ kw_13)⟩ (pw_preV (ci := 0) hP hK ((hC.2.2.2.2 t ht).1) rfl) rfl rfl hl.1 rfl (lv_room (Nat.le_of_ble_eq_true rfl)) d_De_idle_38 ⟨Nat.zero_le _, Nat.zero_le _⟩)) (fun r_3 e_4 => ?_)
        subst e_4
        refine lv_iload hx hb d_De_idle_41 (lv_at hl 4 rfl) ?_
        refine vp_callSi (va_Run.run (va_runVN (As := [.int (bI tt_), .long (wd t i), .int (nI i)]) (rest := [.int (nI (maxR (fun j => idF vw rk dn tt_ j rn 0 (wd t j) 0) i))]) ⟨hx, hb, hml, hown, hA⟩ (c_Rb_idF l G L f hB tt_ (wd t i) i (by omega)) ⟨va_cnB 3 hA (gAW kw_98) rfl rfl rfl (hK.2.1 _ kz_23) (hA _ kw_48) (by decide +kernel) ⟨Nat.le_of_ble_eq_true rfl, Nat.le_of_ble_eq_true rfl⟩, (hA _ kw_99), (hA _ kw_100)⟩ (pw_preV (ci := 3) hP hK hB.2.1 rfl) rfl rfl hl.1 rfl (lv_room (Nat.le_of_ble_eq_true rfl)) d_De_idle_43 ⟨Nat.zero_le _, Nat.zero_le _⟩)) (fun r_5 e_6 => ?_)
        subst e_6
        refine va_mmax hx hb (by rw [hml]; exact hl.1.symm) hown (hA _ kw_101) (hA _ kw_102) (hA _ kw_103) (hA _ kw_104) (Nat.le_of_ble_eq_true rfl) (Nat.le_of_ble_eq_true rfl) (Nat.zero_le _) (Nat.zero_le _) d_De_idle_46 ?_
        refine xv_I (y := nI (maxR (fun j => idF vw rk dn tt_ j rn 0 (wd t j) 0) (i + 1))) (nI_max (maxR_le (fun j => idF_le hB.1 (fun q hq => (hB.2.2.2 q hq).1)) i) (idF_le hB.1 (fun q hq => (hB.2.2.2 q hq).1))) ?_
        refine lv_istore (lv' := [(4, .int (nI (maxR (fun j => idF vw rk dn tt_ j rn 0 (wd t j) 0) (i + 1)))), (0, .ref x0), (1, .int (bI tt_)), (3, .ref (ad t)), (5, .int (nI i))]) hx hb d_De_idle_49 hl (by decide) rfl (fun ls hl => ?_)
        refine lv_iinc (v := nI (i + 1)) (lv' := [(5, .int (nI (i + 1))), (4, .int (nI (maxR (fun j => idF vw rk dn tt_ j rn 0 (wd t j) 0) (i + 1)))), (0, .ref x0), (1, .int (bI tt_)), (3, .ref (ad t))]) hx hb d_De_idle_51 hl (k := 4) rfl (nI_1 i) (by decide) rfl (fun ls hl => ?_)
        refine lv_goto (tgt := 21) hx hb d_De_idle_54 (by decide) ?_
        exact ih (i + 1)  ls (by omega)  (lv_sub hl [2, 3, 4, 1, 0] rfl)
    exact loop (96 - 0) 0  ls (by omega)  (lv_sub hl [3, 4, 2, 1, 0] rfl)
  · refine lv_aload_n hx hb d_De_idle_0 rfl (lv_at hl 0 rfl) ?_
    refine va_get (D := G.1) (ci := 4) (v := .ref cb) (C := R_De) (T := T_De) (N := 2) hx hb hA in_De hown hK.1 (pl_o hP hx0) 0 rfl rfl 0 (by decide) (hA _ kw_80) (fun _ h9 => h9) rfl d_De_idle_1 ?_
    refine lv_iload_n hx hb d_De_idle_4 rfl (lv_at hl 2 rfl) ?_
    refine va_csq (va_Run.run (va_runVN (As := [.int x]) (rest := []) ⟨hx, hb, hml, hown, hA⟩ (c_Cb_at l G L f hC.2.1 hC.2.2.1 (x)) ⟨va_cnB 1 hA (gAW kw_18) rfl rfl rfl (hK.2.1 _ kz_18) (hA _ kw_19) (by decide +kernel) ⟨Nat.le_of_ble_eq_true rfl, Nat.le_of_ble_eq_true rfl⟩, (hA _ kw_21), (hA _ kw_22)⟩ (pw_preV (ci := 1) hP hK hC.2.1 rfl) rfl rfl hl.1 rfl (lv_room (Nat.le_of_ble_eq_true rfl)) d_De_idle_5 ⟨Nat.zero_le _, Nat.zero_le _⟩)) (fun r_7 e_8 => ?_)
    subst e_8
    refine xv_N hno ?_
    refine lv_astore_nN (lv' := [(3, .null), (0, .ref x0), (1, .int (bI tt_)), (2, .int x)]) hx hb d_De_idle_8 rfl hl (by decide) rfl (fun ls hl => ?_)
    refine lv_aload_nN hx hb d_De_idle_9 rfl (lv_at hl 0 rfl) ?_
    refine lv_ifnonnullN hx hb d_De_idle_10 ?_
    refine lv_iconst (v := (-1)) hx hb d_De_idle_13 (by decide) ?_
    exact W.iret (v := (-1)) hx hb hr (fun t9 h9t h9W => ⟨_, rfl, by rw [inN_f hnb]; rfl, h9t⟩) (fun _ h => nomatch h) d_De_idle_14

set_option maxHeartbeats 4000000 in
set_option maxRecDepth 100000 in
/-- apart -/
theorem c_De_apart (l : Launch) (G : GG) (L : List Nat) (f : Nat → va_E) {x0 cb rb : Nat} (hx0 : Lk L f x0 (.inr (4, [.ref cb, .ref rb]))) {rA rn : Nat} {rad ca wb rk nu : Nat → Nat} {dn : Nat → Bool} {vw : Nat → Nat → Int64} (hB : RuB G L f rb rA rn rad ca wb rk nu dn vw) (x y : Int32) : Met l y_De_apart (.code y_De_apart b_De_apart 7 (some .int) :: AW) (RM 5) (va_Pc [.ref x0, .int x, .int y] (PW G L f)) (vp_Si (fun r => r = onR (fun u => onR (fun v => apR (fun i => alF vw dn (u * 12 + i) rn 0 (-1) 0 ^^^ alF vw dn (v * 12 + i) rn 0 (-1) 0) u 12 0) (inN 8 y)) (inN 8 x))) 0 0 (fun _ => False) := by
  refine Met.ofW (cc := b_De_apart) (maxL := 7) (ret := (some .int)) (by decide) rfl ?_
  intro p e s m args below meth c s₁ B hml hv
  obtain ⟨rfl, hP, hK⟩ := hv
  have hx := B.exec
  have hb := B.bytes
  have hr := B.returns
  have hA : ∀ w ∈ AW, w.before _ s = true := fun w h => atoms_spec (ws := (.code y_De_apart b_De_apart 7 (some .int) :: AW)) B.pre w (List.mem_cons_of_mem _ h)
  have hown : s.vm.findClass R_De = some m.cls := findClass_of_methodNamed B.named
  have hlocks := B.notSynchronized
  have hl := lv_entry ([.ref x0, .int x, .int y]) (n := 7) (Nat.le_of_ble_eq_true rfl)
  rw [lg_entry_eq]
  generalize (lg_sl ([.ref x0, .int x, .int y]) ++ List.replicate (7 - (lg_sl ([.ref x0, .int x, .int y])).length) Slot.unset).toArray = ls at hl ⊢
  have hl : lv_has ls 7 [(0, .ref x0), (1, .int x), (2, .int y)] := hl
  have hrn := hB.1
  refine lv_iload_n hx hb d_De_apart_0 rfl (lv_at hl 1 rfl) ?_
  refine lv_bipush (v := nI 8) hx hb d_De_apart_1 (by decide) ?_
  refine vp_callSi (va_Run.run (va_runS (As := [.int x, .int (nI 8)]) (rest := []) ⟨hx, hb, hml, hown, hA⟩ (c_isBelow l G L f (x) (nI 8)) ⟨callB_of 2 hA (gAW kw_4) rfl rfl rfl (hA _ kw_5) (hA _ kw_96) (by decide +kernel) ⟨Nat.le_of_ble_eq_true rfl, Nat.le_of_ble_eq_true rfl⟩, (hA _ kw_6)⟩ (pw_preS hP hK) rfl rfl hl.1 rfl (lv_room (Nat.le_of_ble_eq_true rfl)) d_De_apart_3 ⟨Nat.zero_le _, Nat.zero_le _⟩)) (fun r_1 e_2 => ?_)
  subst e_2
  rcases bcase (blw x (nI 8)) with hb_0 | hb_0
  · refine lv_if_eq (tgt := 18) hx hb d_De_apart_6 (by decide) (fun _ => ?_) (fun c9 => absurd (by rw [hb_0]; rfl) c9)
    refine lv_iconst (v := (-1)) hx hb d_De_apart_18 (by decide) ?_
    exact W.iret (v := (-1)) hx hb hr (fun t9 h9t h9W => ⟨_, rfl, by rw [inN_f hb_0]; rfl, h9t⟩) (fun _ h => nomatch h) d_De_apart_19
  · refine lv_if_eq (tgt := 18) hx hb d_De_apart_6 (by decide) (fun c9 => absurd c9 (by rw [hb_0]; decide)) (fun _ => ?_)
    obtain ⟨u, hu, rfl⟩ := blw_of (by decide) hb_0
    refine lv_iload_n hx hb d_De_apart_9 rfl (lv_at hl 2 rfl) ?_
    refine lv_bipush (v := nI 8) hx hb d_De_apart_10 (by decide) ?_
    refine vp_callSi (va_Run.run (va_runS (As := [.int y, .int (nI 8)]) (rest := []) ⟨hx, hb, hml, hown, hA⟩ (c_isBelow l G L f (y) (nI 8)) ⟨callB_of 2 hA (gAW kw_4) rfl rfl rfl (hA _ kw_5) (hA _ kw_96) (by decide +kernel) ⟨Nat.le_of_ble_eq_true rfl, Nat.le_of_ble_eq_true rfl⟩, (hA _ kw_6)⟩ (pw_preS hP hK) rfl rfl hl.1 rfl (lv_room (Nat.le_of_ble_eq_true rfl)) d_De_apart_12 ⟨Nat.zero_le _, Nat.zero_le _⟩)) (fun r_3 e_4 => ?_)
    subst e_4
    rcases bcase (blw y (nI 8)) with hb_1 | hb_1
    · refine lv_if_ne (tgt := 20) hx hb d_De_apart_15 (by decide) (fun c9 => absurd (by rw [hb_1]; rfl) c9) (fun _ => ?_)
      refine lv_iconst (v := (-1)) hx hb d_De_apart_18 (by decide) ?_
      exact W.iret (v := (-1)) hx hb hr (fun t9 h9t h9W => ⟨_, rfl, by rw [inN_t hu (by decide), inN_f hb_1]; rfl, h9t⟩) (fun _ h => nomatch h) d_De_apart_19
    · refine lv_if_ne (tgt := 20) hx hb d_De_apart_15 (by decide) (fun _ => ?_) (fun c9 => absurd c9 (by rw [hb_1]; decide))
      obtain ⟨v, hv, rfl⟩ := blw_of (by decide) hb_1
      refine lv_iconst (v := nI 0) hx hb d_De_apart_20 (by decide) ?_
      refine lv_istore_n (lv' := [(3, .int (nI 0)), (0, .ref x0), (1, .int (nI u)), (2, .int (nI v))]) hx hb d_De_apart_21 rfl hl (by decide) rfl (fun ls hl => ?_)
      have loop : ∀ (k i : Nat) (ls : Array Slot), i + k = 12 → apR (fun i => alF vw dn (u * 12 + i) rn 0 (-1) 0 ^^^ alF vw dn (v * 12 + i) rn 0 (-1) 0) u 12 0 = apR (fun i => alF vw dn (u * 12 + i) rn 0 (-1) 0 ^^^ alF vw dn (v * 12 + i) rn 0 (-1) 0) u k i → lv_has ls 7 [(0, .ref x0), (1, .int (nI u)), (2, .int (nI v)), (3, .int (nI i))] → W p l e (headSpec (.code y_De_apart b_De_apart 7 (some .int) :: AW) (RM 5)).room s m ([.ref x0, .int (nI u), .int (nI v)] : List Value).toArray below meth c s.heap [] 0 0 (MQ below (vp_Si (fun r => r = onR (fun u => onR (fun v => apR (fun i => alF vw dn (u * 12 + i) rn 0 (-1) 0 ^^^ alF vw dn (v * 12 + i) rn 0 (-1) 0) u 12 0) (inN 8 (nI v))) (inN 8 (nI u)))) ([.ref x0, .int (nI u), .int (nI v)] : List Value).toArray s 0 0 (fun _ => False)) (F0 m 22 ls []) := by
        intro k
        induction k with
        | zero =>
          intro i  ls hik hres hl
          refine lv_iload_n hx hb d_De_apart_22 rfl (lv_at hl 3 rfl) ?_
          refine lv_bipush (v := nI 12) hx hb d_De_apart_23 (by decide) ?_
          refine lv_icmp_ge (tgt := 81) hx hb d_De_apart_25 (by decide) (fun _ => ?_) (fun c9 => absurd (nI_le (by omega) (by omega)) c9)
          refine lv_bipush (v := (-2)) hx hb d_De_apart_81 (by decide) ?_
          exact W.iret (v := (-2)) hx hb hr (fun t9 h9t h9W => ⟨_, rfl, by rw [inN_t hu (by decide), inN_t hv (by decide)]; exact (hres.trans rfl).symm, h9t⟩) (fun _ h => nomatch h) d_De_apart_83
        | succ k ih =>
          intro i  ls hik hres hl
          refine lv_iload_n hx hb d_De_apart_22 rfl (lv_at hl 3 rfl) ?_
          refine lv_bipush (v := nI 12) hx hb d_De_apart_23 (by decide) ?_
          refine lv_icmp_ge (tgt := 81) hx hb d_De_apart_25 (by decide) (fun c9 => absurd c9 (nI_ge (by omega) (by omega))) (fun _ => ?_)
          refine lv_iload_n hx hb d_De_apart_28 rfl (lv_at hl 1 rfl) ?_
          refine lv_bipush (v := nI 12) hx hb d_De_apart_29 (by decide) ?_
          refine lv_imul hx hb d_De_apart_31 ?_
          refine xv_I (y := nI (u * 12)) (pk_mul _ _) ?_
          refine lv_iload_n hx hb d_De_apart_32 rfl (lv_at hl 3 rfl) ?_
          refine lv_iadd hx hb d_De_apart_33 ?_
          refine xv_I (y := nI (u * 12 + i)) (nI_add _ _) ?_
          refine lv_istore (lv' := [(4, .int (nI (u * 12 + i))), (0, .ref x0), (1, .int (nI u)), (2, .int (nI v)), (3, .int (nI i))]) hx hb d_De_apart_34 hl (by decide) rfl (fun ls hl => ?_)
          refine lv_aload_n hx hb d_De_apart_36 rfl (lv_at hl 1 rfl) ?_
          refine lv_iload hx hb d_De_apart_37 (lv_at hl 0 rfl) ?_
          refine vp_callSl (va_Run.run (va_runV (As := [.int (nI (u * 12 + i))]) (rest := []) ⟨hx, hb, hml, hown, hA⟩ (c_De_alIn l G L f hx0 hB (u * 12 + i) (by omega)) ⟨callB_of 1 hA (gAW kw_83) rfl rfl rfl (hA _ kw_5) (hA _ kw_84) (by decide +kernel) ⟨Nat.le_of_ble_eq_true rfl, Nat.le_of_ble_eq_true rfl⟩, (hA _ kw_85), (hA _ kw_86)⟩ (pw_preV (ci := 4) hP hK hx0 rfl) rfl rfl hl.1 rfl (lv_room (Nat.le_of_ble_eq_true rfl)) d_De_apart_39 ⟨Nat.zero_le _, Nat.zero_le _⟩)) (fun r_5 e_6 => ?_)
          subst e_6
          refine lv_aload_n hx hb d_De_apart_42 rfl (lv_at hl 1 rfl) ?_
          refine lv_iload_n hx hb d_De_apart_43 rfl (lv_at hl 3 rfl) ?_
          refine lv_bipush (v := nI 12) hx hb d_De_apart_44 (by decide) ?_
          refine lv_imul hx hb d_De_apart_46 ?_
          refine xv_I (y := nI (v * 12)) (pk_mul _ _) ?_
          refine lv_iload_n hx hb d_De_apart_47 rfl (lv_at hl 4 rfl) ?_
          refine lv_iadd hx hb d_De_apart_48 ?_
          refine xv_I (y := nI (v * 12 + i)) (nI_add _ _) ?_
          refine vp_callSl (va_Run.run (va_runV (As := [.int (nI (v * 12 + i))]) (rest := [.long (alF vw dn (u * 12 + i) rn 0 (-1) 0)]) ⟨hx, hb, hml, hown, hA⟩ (c_De_alIn l G L f hx0 hB (v * 12 + i) (by omega)) ⟨callB_of 1 hA (gAW kw_83) rfl rfl rfl (hA _ kw_5) (hA _ kw_84) (by decide +kernel) ⟨Nat.le_of_ble_eq_true rfl, Nat.le_of_ble_eq_true rfl⟩, (hA _ kw_85), (hA _ kw_86)⟩ (pw_preV (ci := 4) hP hK hx0 rfl) rfl rfl hl.1 rfl (lv_room (Nat.le_of_ble_eq_true rfl)) d_De_apart_49 ⟨Nat.zero_le _, Nat.zero_le _⟩)) (fun r_7 e_8 => ?_)
          subst e_8
          refine lv_lxor hx hb d_De_apart_52 ?_
          refine lv_lstore (lv' := [(5, .long ((alF vw dn (u * 12 + i) rn 0 (-1) 0) ^^^ (alF vw dn (v * 12 + i) rn 0 (-1) 0))), (4, .int (nI (u * 12 + i))), (0, .ref x0), (1, .int (nI u)), (2, .int (nI v)), (3, .int (nI i))]) hx hb d_De_apart_53 hl (by decide) rfl (fun ls hl => ?_)
          refine lv_lload hx hb d_De_apart_55 (lv_at hl 0 rfl) ?_
          refine lv_lconst (v := 0) hx hb d_De_apart_57 (by decide) ?_
          refine W.lcmp hx hb d_De_apart_58 ?_
          by_cases hz : alF vw dn (u * 12 + i) rn 0 (-1) 0 ^^^ alF vw dn (v * 12 + i) rn 0 (-1) 0 = 0
          · refine lv_if_eq (tgt := 75) hx hb d_De_apart_59 (by decide) (fun _ => ?_) (fun c9 => absurd ((lg_cmp_eq _ _).mpr hz) c9)
            refine lv_iinc (v := nI (i + 1)) (lv' := [(3, .int (nI (i + 1))), (5, .long ((alF vw dn (u * 12 + i) rn 0 (-1) 0) ^^^ (alF vw dn (v * 12 + i) rn 0 (-1) 0))), (4, .int (nI (u * 12 + i))), (0, .ref x0), (1, .int (nI u)), (2, .int (nI v))]) hx hb d_De_apart_75 hl (k := 5) rfl (nI_1 i) (by decide) rfl (fun ls hl => ?_)
            refine lv_goto (tgt := 22) hx hb d_De_apart_78 (by decide) ?_
            exact ih (i + 1)  ls (by omega) (hres.trans (if_pos hz)) (lv_sub hl [3, 4, 5, 0] rfl)
          · refine lv_if_eq (tgt := 75) hx hb d_De_apart_59 (by decide) (fun c9 => absurd c9 (fun z => hz ((lg_cmp_eq _ _).mp z))) (fun _ => ?_)
            refine lv_iload hx hb d_De_apart_62 (lv_at hl 1 rfl) ?_
            refine lv_bipush (v := nI 64) hx hb d_De_apart_64 (by decide) ?_
            refine lv_imul hx hb d_De_apart_66 ?_
            refine xv_I (y := nI ((u * 12 + i) * 64)) (pk_mul _ _) ?_
            refine lv_lload hx hb d_De_apart_67 (lv_at hl 0 rfl) ?_
            refine lv_iconst (v := nI 0) hx hb d_De_apart_69 (by decide) ?_
            refine vp_callSi (va_Run.run (va_runS (As := [.long ((alF vw dn (u * 12 + i) rn 0 (-1) 0) ^^^ (alF vw dn (v * 12 + i) rn 0 (-1) 0)), .int (nI 0)]) (rest := [.int (nI ((u * 12 + i) * 64))]) ⟨hx, hb, hml, hown, hA⟩ (c_De_bp l G L f (alF vw dn (u * 12 + i) rn 0 (-1) 0 ^^^ alF vw dn (v * 12 + i) rn 0 (-1) 0) 0 (by omega)) ⟨callB_of 2 hA (gAW kw_87) rfl rfl rfl (hA _ kw_5) (hA _ kw_88) (by decide +kernel) ⟨Nat.le_of_ble_eq_true rfl, Nat.le_of_ble_eq_true rfl⟩, (hA _ kw_89)⟩ (pw_preS hP hK) rfl rfl hl.1 rfl (lv_room (Nat.le_of_ble_eq_true rfl)) d_De_apart_70 ⟨Nat.zero_le _, Nat.zero_le _⟩)) (fun r_9 e_10 => ?_)
            subst e_10
            refine lv_iadd hx hb d_De_apart_73 ?_
            refine xv_I (y := nI ((u * 12 + i) * 64 + bpos (alF vw dn (u * 12 + i) rn 0 (-1) 0 ^^^ alF vw dn (v * 12 + i) rn 0 (-1) 0) 0)) (nI_add _ _) ?_
            exact W.iret (v := nI ((u * 12 + i) * 64 + bpos (alF vw dn (u * 12 + i) rn 0 (-1) 0 ^^^ alF vw dn (v * 12 + i) rn 0 (-1) 0) 0)) hx hb hr (fun t9 h9t h9W => ⟨_, rfl, by rw [inN_t hu (by decide), inN_t hv (by decide)]; exact (hres.trans (if_neg hz)).symm, h9t⟩) (fun _ h => nomatch h) d_De_apart_74
      exact loop (12 - 0) 0  ls (by omega) rfl (lv_sub hl [1, 2, 3, 0] rfl)

set_option maxHeartbeats 4000000 in
set_option maxRecDepth 100000 in
/-- may -/
theorem c_De_may (l : Launch) (G : GG) (L : List Nat) (f : Nat → va_E) {x0 cb rb : Nat} (hx0 : Lk L f x0 (.inr (4, [.ref cb, .ref rb]))) {rA rn : Nat} {rad ca wb rk nu : Nat → Nat} {dn : Nat → Bool} {vw : Nat → Nat → Int64} (hB : RuB G L f rb rA rn rad ca wb rk nu dn vw) (x1 x2 x3 x4 x5 x6 : Int32) : Met l y_De_may (.code y_De_may b_De_may 9 (some .int) :: AW) (RM 4) (va_Pc [.ref x0, .int x1, .int x2, .int x3, .int x4, .int x5, .int x6] (PW G L f)) (vp_Si (fun r => r = onR (fun u => onR (fun gr => onR (fun pr => onR (fun kl => onR (fun v => onR (fun wh => mayR nu dn wh (fst0 (hit vw (aNo u gr pr kl v)) rn 0)) (inN 2 x6)) (inN 8 x5)) (inN 4 x4)) (inN 6 x3)) (inN 4 x2)) (inN 8 x1))) 0 0 (fun _ => False) := by
  refine Met.ofW (cc := b_De_may) (maxL := 9) (ret := (some .int)) (by decide) rfl ?_
  intro p e s m args below meth c s₁ B hml hv
  obtain ⟨rfl, hP, hK⟩ := hv
  have hx := B.exec
  have hb := B.bytes
  have hr := B.returns
  have hA : ∀ w ∈ AW, w.before _ s = true := fun w h => atoms_spec (ws := (.code y_De_may b_De_may 9 (some .int) :: AW)) B.pre w (List.mem_cons_of_mem _ h)
  have hown : s.vm.findClass R_De = some m.cls := findClass_of_methodNamed B.named
  have hlocks := B.notSynchronized
  have hl := lv_entry ([.ref x0, .int x1, .int x2, .int x3, .int x4, .int x5, .int x6]) (n := 9) (Nat.le_of_ble_eq_true rfl)
  rw [lg_entry_eq]
  generalize (lg_sl ([.ref x0, .int x1, .int x2, .int x3, .int x4, .int x5, .int x6]) ++ List.replicate (9 - (lg_sl ([.ref x0, .int x1, .int x2, .int x3, .int x4, .int x5, .int x6])).length) Slot.unset).toArray = ls at hl ⊢
  have hl : lv_has ls 9 [(0, .ref x0), (1, .int x1), (2, .int x2), (3, .int x3), (4, .int x4), (5, .int x5), (6, .int x6)] := hl
  have hrn := hB.1
  refine lv_iload_n hx hb d_De_may_0 rfl (lv_at hl 1 rfl) ?_
  refine lv_bipush (v := nI 8) hx hb d_De_may_1 (by decide) ?_
  refine vp_callSi (va_Run.run (va_runS (As := [.int x1, .int (nI 8)]) (rest := []) ⟨hx, hb, hml, hown, hA⟩ (c_isBelow l G L f (x1) (nI 8)) ⟨callB_of 2 hA (gAW kw_4) rfl rfl rfl (hA _ kw_5) (hA _ kw_96) (by decide +kernel) ⟨Nat.le_of_ble_eq_true rfl, Nat.le_of_ble_eq_true rfl⟩, (hA _ kw_6)⟩ (pw_preS hP hK) rfl rfl hl.1 rfl (lv_room (Nat.le_of_ble_eq_true rfl)) d_De_may_3 ⟨Nat.zero_le _, Nat.zero_le _⟩)) (fun r_1 e_2 => ?_)
  subst e_2
  rcases bcase (blw x1 (nI 8)) with hb_0 | hb_0
  · refine lv_if_eq (tgt := 54) hx hb d_De_may_6 (by decide) (fun _ => ?_) (fun c9 => absurd (by rw [hb_0]; rfl) c9)
    refine lv_iconst (v := (-1)) hx hb d_De_may_54 (by decide) ?_
    exact W.iret (v := (-1)) hx hb hr (fun t9 h9t h9W => ⟨_, rfl, by rw [inN_f hb_0]; rfl, h9t⟩) (fun _ h => nomatch h) d_De_may_55
  · refine lv_if_eq (tgt := 54) hx hb d_De_may_6 (by decide) (fun c9 => absurd c9 (by rw [hb_0]; decide)) (fun _ => ?_)
    obtain ⟨u, hu, rfl⟩ := blw_of (by decide) hb_0
    refine lv_iload_n hx hb d_De_may_9 rfl (lv_at hl 2 rfl) ?_
    refine lv_iconst (v := nI 4) hx hb d_De_may_10 (by decide) ?_
    refine vp_callSi (va_Run.run (va_runS (As := [.int x2, .int (nI 4)]) (rest := []) ⟨hx, hb, hml, hown, hA⟩ (c_isBelow l G L f (x2) (nI 4)) ⟨callB_of 2 hA (gAW kw_4) rfl rfl rfl (hA _ kw_5) (hA _ kw_96) (by decide +kernel) ⟨Nat.le_of_ble_eq_true rfl, Nat.le_of_ble_eq_true rfl⟩, (hA _ kw_6)⟩ (pw_preS hP hK) rfl rfl hl.1 rfl (lv_room (Nat.le_of_ble_eq_true rfl)) d_De_may_11 ⟨Nat.zero_le _, Nat.zero_le _⟩)) (fun r_3 e_4 => ?_)
    subst e_4
    rcases bcase (blw x2 (nI 4)) with hb_1 | hb_1
    · refine lv_if_eq (tgt := 54) hx hb d_De_may_14 (by decide) (fun _ => ?_) (fun c9 => absurd (by rw [hb_1]; rfl) c9)
      refine lv_iconst (v := (-1)) hx hb d_De_may_54 (by decide) ?_
      exact W.iret (v := (-1)) hx hb hr (fun t9 h9t h9W => ⟨_, rfl, by rw [inN_t hu (by decide), inN_f hb_1]; rfl, h9t⟩) (fun _ h => nomatch h) d_De_may_55
    · refine lv_if_eq (tgt := 54) hx hb d_De_may_14 (by decide) (fun c9 => absurd c9 (by rw [hb_1]; decide)) (fun _ => ?_)
      obtain ⟨gr, hgr, rfl⟩ := blw_of (by decide) hb_1
      refine lv_iload_n hx hb d_De_may_17 rfl (lv_at hl 3 rfl) ?_
      refine lv_bipush (v := nI 6) hx hb d_De_may_18 (by decide) ?_
      refine vp_callSi (va_Run.run (va_runS (As := [.int x3, .int (nI 6)]) (rest := []) ⟨hx, hb, hml, hown, hA⟩ (c_isBelow l G L f (x3) (nI 6)) ⟨callB_of 2 hA (gAW kw_4) rfl rfl rfl (hA _ kw_5) (hA _ kw_96) (by decide +kernel) ⟨Nat.le_of_ble_eq_true rfl, Nat.le_of_ble_eq_true rfl⟩, (hA _ kw_6)⟩ (pw_preS hP hK) rfl rfl hl.1 rfl (lv_room (Nat.le_of_ble_eq_true rfl)) d_De_may_20 ⟨Nat.zero_le _, Nat.zero_le _⟩)) (fun r_5 e_6 => ?_)
      subst e_6
      rcases bcase (blw x3 (nI 6)) with hb_2 | hb_2
      · refine lv_if_eq (tgt := 54) hx hb d_De_may_23 (by decide) (fun _ => ?_) (fun c9 => absurd (by rw [hb_2]; rfl) c9)
        refine lv_iconst (v := (-1)) hx hb d_De_may_54 (by decide) ?_
        exact W.iret (v := (-1)) hx hb hr (fun t9 h9t h9W => ⟨_, rfl, by rw [inN_t hu (by decide), inN_t hgr (by decide), inN_f hb_2]; rfl, h9t⟩) (fun _ h => nomatch h) d_De_may_55
      · refine lv_if_eq (tgt := 54) hx hb d_De_may_23 (by decide) (fun c9 => absurd c9 (by rw [hb_2]; decide)) (fun _ => ?_)
        obtain ⟨pr, hpr, rfl⟩ := blw_of (by decide) hb_2
        refine lv_iload hx hb d_De_may_26 (lv_at hl 4 rfl) ?_
        refine lv_iconst (v := nI 4) hx hb d_De_may_28 (by decide) ?_
        refine vp_callSi (va_Run.run (va_runS (As := [.int x4, .int (nI 4)]) (rest := []) ⟨hx, hb, hml, hown, hA⟩ (c_isBelow l G L f (x4) (nI 4)) ⟨callB_of 2 hA (gAW kw_4) rfl rfl rfl (hA _ kw_5) (hA _ kw_96) (by decide +kernel) ⟨Nat.le_of_ble_eq_true rfl, Nat.le_of_ble_eq_true rfl⟩, (hA _ kw_6)⟩ (pw_preS hP hK) rfl rfl hl.1 rfl (lv_room (Nat.le_of_ble_eq_true rfl)) d_De_may_29 ⟨Nat.zero_le _, Nat.zero_le _⟩)) (fun r_7 e_8 => ?_)
        subst e_8
        rcases bcase (blw x4 (nI 4)) with hb_3 | hb_3
        · refine lv_if_eq (tgt := 54) hx hb d_De_may_32 (by decide) (fun _ => ?_) (fun c9 => absurd (by rw [hb_3]; rfl) c9)
          refine lv_iconst (v := (-1)) hx hb d_De_may_54 (by decide) ?_
          exact W.iret (v := (-1)) hx hb hr (fun t9 h9t h9W => ⟨_, rfl, by rw [inN_t hu (by decide), inN_t hgr (by decide), inN_t hpr (by decide), inN_f hb_3]; rfl, h9t⟩) (fun _ h => nomatch h) d_De_may_55
        · refine lv_if_eq (tgt := 54) hx hb d_De_may_32 (by decide) (fun c9 => absurd c9 (by rw [hb_3]; decide)) (fun _ => ?_)
          obtain ⟨kl, hkl, rfl⟩ := blw_of (by decide) hb_3
          refine lv_iload hx hb d_De_may_35 (lv_at hl 5 rfl) ?_
          refine lv_bipush (v := nI 8) hx hb d_De_may_37 (by decide) ?_
          refine vp_callSi (va_Run.run (va_runS (As := [.int x5, .int (nI 8)]) (rest := []) ⟨hx, hb, hml, hown, hA⟩ (c_isBelow l G L f (x5) (nI 8)) ⟨callB_of 2 hA (gAW kw_4) rfl rfl rfl (hA _ kw_5) (hA _ kw_96) (by decide +kernel) ⟨Nat.le_of_ble_eq_true rfl, Nat.le_of_ble_eq_true rfl⟩, (hA _ kw_6)⟩ (pw_preS hP hK) rfl rfl hl.1 rfl (lv_room (Nat.le_of_ble_eq_true rfl)) d_De_may_39 ⟨Nat.zero_le _, Nat.zero_le _⟩)) (fun r_9 e_10 => ?_)
          subst e_10
          rcases bcase (blw x5 (nI 8)) with hb_4 | hb_4
          · refine lv_if_eq (tgt := 54) hx hb d_De_may_42 (by decide) (fun _ => ?_) (fun c9 => absurd (by rw [hb_4]; rfl) c9)
            refine lv_iconst (v := (-1)) hx hb d_De_may_54 (by decide) ?_
            exact W.iret (v := (-1)) hx hb hr (fun t9 h9t h9W => ⟨_, rfl, by rw [inN_t hu (by decide), inN_t hgr (by decide), inN_t hpr (by decide), inN_t hkl (by decide), inN_f hb_4]; rfl, h9t⟩) (fun _ h => nomatch h) d_De_may_55
          · refine lv_if_eq (tgt := 54) hx hb d_De_may_42 (by decide) (fun c9 => absurd c9 (by rw [hb_4]; decide)) (fun _ => ?_)
            obtain ⟨v, hv, rfl⟩ := blw_of (by decide) hb_4
            refine lv_iload hx hb d_De_may_45 (lv_at hl 6 rfl) ?_
            refine lv_iconst (v := nI 2) hx hb d_De_may_47 (by decide) ?_
            refine vp_callSi (va_Run.run (va_runS (As := [.int x6, .int (nI 2)]) (rest := []) ⟨hx, hb, hml, hown, hA⟩ (c_isBelow l G L f (x6) (nI 2)) ⟨callB_of 2 hA (gAW kw_4) rfl rfl rfl (hA _ kw_5) (hA _ kw_96) (by decide +kernel) ⟨Nat.le_of_ble_eq_true rfl, Nat.le_of_ble_eq_true rfl⟩, (hA _ kw_6)⟩ (pw_preS hP hK) rfl rfl hl.1 rfl (lv_room (Nat.le_of_ble_eq_true rfl)) d_De_may_48 ⟨Nat.zero_le _, Nat.zero_le _⟩)) (fun r_11 e_12 => ?_)
            subst e_12
            rcases bcase (blw x6 (nI 2)) with hb_5 | hb_5
            · refine lv_if_ne (tgt := 56) hx hb d_De_may_51 (by decide) (fun c9 => absurd (by rw [hb_5]; rfl) c9) (fun _ => ?_)
              refine lv_iconst (v := (-1)) hx hb d_De_may_54 (by decide) ?_
              exact W.iret (v := (-1)) hx hb hr (fun t9 h9t h9W => ⟨_, rfl, by rw [inN_t hu (by decide), inN_t hgr (by decide), inN_t hpr (by decide), inN_t hkl (by decide), inN_t hv (by decide), inN_f hb_5]; rfl, h9t⟩) (fun _ h => nomatch h) d_De_may_55
            · refine lv_if_ne (tgt := 56) hx hb d_De_may_51 (by decide) (fun _ => ?_) (fun c9 => absurd c9 (by rw [hb_5]; decide))
              obtain ⟨wh, hwh, rfl⟩ := blw_of (by decide) hb_5
              refine lv_iload_n hx hb d_De_may_56 rfl (lv_at hl 1 rfl) ?_
              refine lv_iconst (v := nI 4) hx hb d_De_may_57 (by decide) ?_
              refine lv_imul hx hb d_De_may_58 ?_
              refine xv_I (y := nI (u * 4)) (pk_mul _ _) ?_
              refine lv_iload_n hx hb d_De_may_59 rfl (lv_at hl 2 rfl) ?_
              refine lv_iadd hx hb d_De_may_60 ?_
              refine xv_I (y := nI (u * 4 + gr)) (nI_add _ _) ?_
              refine lv_bipush (v := nI 6) hx hb d_De_may_61 (by decide) ?_
              refine lv_imul hx hb d_De_may_63 ?_
              refine xv_I (y := nI ((u * 4 + gr) * 6)) (pk_mul _ _) ?_
              refine lv_iload_n hx hb d_De_may_64 rfl (lv_at hl 3 rfl) ?_
              refine lv_iadd hx hb d_De_may_65 ?_
              refine xv_I (y := nI ((u * 4 + gr) * 6 + pr)) (nI_add _ _) ?_
              refine lv_iconst (v := nI 4) hx hb d_De_may_66 (by decide) ?_
              refine lv_imul hx hb d_De_may_67 ?_
              refine xv_I (y := nI (((u * 4 + gr) * 6 + pr) * 4)) (pk_mul _ _) ?_
              refine lv_iload hx hb d_De_may_68 (lv_at hl 4 rfl) ?_
              refine lv_iadd hx hb d_De_may_70 ?_
              refine xv_I (y := nI (((u * 4 + gr) * 6 + pr) * 4 + kl)) (nI_add _ _) ?_
              refine lv_bipush (v := nI 8) hx hb d_De_may_71 (by decide) ?_
              refine lv_imul hx hb d_De_may_73 ?_
              refine xv_I (y := nI ((((u * 4 + gr) * 6 + pr) * 4 + kl) * 8)) (pk_mul _ _) ?_
              refine lv_iload hx hb d_De_may_74 (lv_at hl 5 rfl) ?_
              refine lv_iadd hx hb d_De_may_76 ?_
              refine xv_I (y := nI (aNo u gr pr kl v)) (nI_add _ _) ?_
              refine lv_istore (lv' := [(7, .int (nI (aNo u gr pr kl v))), (0, .ref x0), (1, .int (nI u)), (2, .int (nI gr)), (3, .int (nI pr)), (4, .int (nI kl)), (5, .int (nI v)), (6, .int (nI wh))]) hx hb d_De_may_77 hl (by decide) rfl (fun ls hl => ?_)
              refine lv_aload_n hx hb d_De_may_79 rfl (lv_at hl 1 rfl) ?_
              refine va_get (D := G.1) (ci := 4) (v := .ref rb) (C := R_De) (T := T_De) (N := 2) hx hb hA in_De hown hK.1 (pl_o hP hx0) 0 rfl rfl 1 (by decide) (hA _ kw_81) (fun _ h9 => h9) rfl d_De_may_80 ?_
              refine lv_iload hx hb d_De_may_83 (lv_at hl 0 rfl) ?_
              have hno : aNo u gr pr kl v < 6144 := by unfold aNo; omega
              refine va_csq (va_Run.run (va_runVN (As := [.int (nI (aNo u gr pr kl v))]) (rest := []) ⟨hx, hb, hml, hown, hA⟩ (c_Rb_dec l G L f hB (aNo u gr pr kl v) hno) ⟨va_cnB 1 hA (gAW kw_105) rfl rfl rfl (hK.2.1 _ kz_24) (hA _ kw_48) (by decide +kernel) ⟨Nat.le_of_ble_eq_true rfl, Nat.le_of_ble_eq_true rfl⟩, (hA _ kw_106), (hA _ kw_107)⟩ (pw_preV (ci := 3) hP hK hB.2.1 rfl) rfl rfl hl.1 rfl (lv_room (Nat.le_of_ble_eq_true rfl)) d_De_may_85 ⟨Nat.zero_le _, Nat.zero_le _⟩)) (fun r_13 e_14 => ?_)
              subst e_14
              rcases ocase (fst0 (hit vw (aNo u gr pr kl v)) rn 0) with hf | ⟨q, hf⟩
              · refine xv_N (by rw [hf]; rfl) ?_
                refine lv_astoreN (lv' := [(8, .null), (7, .int (nI (aNo u gr pr kl v))), (0, .ref x0), (1, .int (nI u)), (2, .int (nI gr)), (3, .int (nI pr)), (4, .int (nI kl)), (5, .int (nI v)), (6, .int (nI wh))]) hx hb d_De_may_88 hl (by decide) rfl (fun ls hl => ?_)
                refine lv_iload hx hb d_De_may_90 (lv_at hl 8 rfl) ?_
                refine lv_iconst (v := nI 1) hx hb d_De_may_92 (by decide) ?_
                by_cases hw1 : wh = 1
                · obtain rfl : wh = 1 := hw1
                  refine lv_icmp_ne (tgt := 112) hx hb d_De_may_93 (by decide) (fun c9 => absurd rfl c9) (fun _ => ?_)
                  refine lv_aloadN hx hb d_De_may_96 (lv_at hl 0 rfl) ?_
                  refine lv_ifnonnullN hx hb d_De_may_98 ?_
                  refine lv_bipush (v := (-2)) hx hb d_De_may_101 (by decide) ?_
                  refine lv_goto (tgt := 111) hx hb d_De_may_103 (by decide) ?_
                  exact W.iret (v := (-2)) hx hb hr (fun t9 h9t h9W => ⟨_, rfl, by rw [inN_t hu (by decide), inN_t hgr (by decide), inN_t hpr (by decide), inN_t hkl (by decide), inN_t hv (by decide), inN_t hwh (by decide)]; show _ = mayR nu dn 1 (fst0 (hit vw (aNo u gr pr kl v)) rn 0); rw [hf]; rfl, h9t⟩) (fun _ h => nomatch h) d_De_may_111
                · obtain rfl : wh = 0 := by omega
                  refine lv_icmp_ne (tgt := 112) hx hb d_De_may_93 (by decide) (fun _ => ?_) (fun c9 => absurd c9 (by decide))
                  refine lv_aloadN hx hb d_De_may_112 (lv_at hl 0 rfl) ?_
                  refine lv_ifnullN (tgt := 125) hx hb d_De_may_114 (by decide) ?_
                  refine lv_iconst (v := nI 0) hx hb d_De_may_125 (by decide) ?_
                  refine lv_goto (tgt := 130) hx hb d_De_may_126 (by decide) ?_
                  exact W.iret (v := nI 0) hx hb hr (fun t9 h9t h9W => ⟨_, rfl, by rw [inN_t hu (by decide), inN_t hgr (by decide), inN_t hpr (by decide), inN_t hkl (by decide), inN_t hv (by decide), inN_t hwh (by decide)]; show _ = mayR nu dn 0 (fst0 (hit vw (aNo u gr pr kl v)) rn 0); rw [hf]; rfl, h9t⟩) (fun _ h => nomatch h) d_De_may_130
              · have hq : q < rn := by have := (fst0_t hf).2; omega
                refine xv_R (a := rad q) (by rw [hf]; rfl) ?_
                obtain ⟨hrk, hnu, hru, ⟨k0, k1, k2, k3, hco⟩, hwa⟩ := hB.2.2.2 q hq
                refine lv_astore (lv' := [(8, .ref (rad q)), (7, .int (nI (aNo u gr pr kl v))), (0, .ref x0), (1, .int (nI u)), (2, .int (nI gr)), (3, .int (nI pr)), (4, .int (nI kl)), (5, .int (nI v)), (6, .int (nI wh))]) hx hb d_De_may_88 hl (by decide) rfl (fun ls hl => ?_)
                refine lv_iload hx hb d_De_may_90 (lv_at hl 8 rfl) ?_
                refine lv_iconst (v := nI 1) hx hb d_De_may_92 (by decide) ?_
                by_cases hw1 : wh = 1
                · obtain rfl : wh = 1 := hw1
                  refine lv_icmp_ne (tgt := 112) hx hb d_De_may_93 (by decide) (fun c9 => absurd rfl c9) (fun _ => ?_)
                  refine lv_aload hx hb d_De_may_96 (lv_at hl 0 rfl) ?_
                  refine lv_ifnonnull (tgt := 106) hx hb d_De_may_98 (by decide) ?_
                  refine lv_aload hx hb d_De_may_106 (lv_at hl 0 rfl) ?_
                  refine va_getN (D := G.1) (ci := 2) (v := .int (nI (nu q))) (C := R_Ru) (T := T_Ru) (N := 4) hx hb hA in_Ru hown hK.1 (pl_o hP hru) 0 rfl rfl 3 (by decide) (va_Nw.use rfl (hK.2.1 _ kz_25)) (fun _ h9 => h9) rfl d_De_may_108 ?_
                  exact W.iret (v := nI (nu q)) hx hb hr (fun t9 h9t h9W => ⟨_, rfl, by rw [inN_t hu (by decide), inN_t hgr (by decide), inN_t hpr (by decide), inN_t hkl (by decide), inN_t hv (by decide), inN_t hwh (by decide)]; show _ = mayR nu dn 1 (fst0 (hit vw (aNo u gr pr kl v)) rn 0); rw [hf]; rfl, h9t⟩) (fun _ h => nomatch h) d_De_may_111
                · obtain rfl : wh = 0 := by omega
                  refine lv_icmp_ne (tgt := 112) hx hb d_De_may_93 (by decide) (fun _ => ?_) (fun c9 => absurd c9 (by decide))
                  refine lv_aload hx hb d_De_may_112 (lv_at hl 0 rfl) ?_
                  refine lv_ifnull hx hb d_De_may_114 ?_
                  refine lv_aload hx hb d_De_may_117 (lv_at hl 0 rfl) ?_
                  refine va_getN (D := G.1) (ci := 2) (v := .int (bI (dn q))) (C := R_Ru) (T := T_Ru) (N := 4) hx hb hA in_Ru hown hK.1 (pl_o hP hru) 0 rfl rfl 1 (by decide) (va_Nw.use rfl (hK.2.1 _ kz_26)) (fun _ h9 => h9) rfl d_De_may_119 ?_
                  rcases bcase (dn q) with hd | hd
                  · refine lv_if_eq (tgt := 129) hx hb d_De_may_122 (by decide) (fun _ => ?_) (fun c9 => absurd (by rw [hd]; rfl) c9)
                    refine lv_iconst (v := nI 1) hx hb d_De_may_129 (by decide) ?_
                    exact W.iret (v := nI 1) hx hb hr (fun t9 h9t h9W => ⟨_, rfl, by rw [inN_t hu (by decide), inN_t hgr (by decide), inN_t hpr (by decide), inN_t hkl (by decide), inN_t hv (by decide), inN_t hwh (by decide)]; show _ = mayR nu dn 0 (fst0 (hit vw (aNo u gr pr kl v)) rn 0); rw [hf]; show _ = if dn q = true then nI 0 else nI 1; rw [hd]; rfl, h9t⟩) (fun _ h => nomatch h) d_De_may_130
                  · refine lv_if_eq (tgt := 129) hx hb d_De_may_122 (by decide) (fun c9 => absurd c9 (by rw [hd]; decide)) (fun _ => ?_)
                    refine lv_iconst (v := nI 0) hx hb d_De_may_125 (by decide) ?_
                    refine lv_goto (tgt := 130) hx hb d_De_may_126 (by decide) ?_
                    exact W.iret (v := nI 0) hx hb hr (fun t9 h9t h9W => ⟨_, rfl, by rw [inN_t hu (by decide), inN_t hgr (by decide), inN_t hpr (by decide), inN_t hkl (by decide), inN_t hv (by decide), inN_t hwh (by decide)]; show _ = mayR nu dn 0 (fst0 (hit vw (aNo u gr pr kl v)) rn 0); rw [hf]; show _ = if dn q = true then nI 0 else nI 1; rw [hd]; rfl, h9t⟩) (fun _ h => nomatch h) d_De_may_130
