set_option maxHeartbeats 4000000 in
set_option maxRecDepth 100000 in
/-- wordAt -/
theorem c_Rb_wordAt (l : Launch) (G : GG) (L : List Nat) (f : Nat → va_E) {rb rA n : Nat} {rad ca wa rk nu : Nat → Nat} {dn : Nat → Bool} {ww : Nat → Nat → Int64} (hB : RuB G L f rb rA n rad ca wa rk nu dn ww) (q j : Nat) (hq : q < n) (hj : j < 96) : Met l y_Rb_wordAt (.code y_Rb_wordAt b_Rb_wordAt 4 (some .long) :: AW) (RM 3) (va_Pc [.ref rb, .int (nI q), .int (nI j)] (PW G L f)) (vp_Sl (fun r => r = ww q j)) 0 0 (fun _ => False) := by
  refine Met.ofW (cc := b_Rb_wordAt) (maxL := 4) (ret := (some .long)) (by decide) rfl ?_
  intro p e s m args below meth c s₁ B hml hv
  obtain ⟨rfl, hP, hK⟩ := hv
  have hx := B.exec
  have hb := B.bytes
  have hr := B.returns
  have hA : ∀ w ∈ AW, w.before _ s = true := fun w h => atoms_spec (ws := (.code y_Rb_wordAt b_Rb_wordAt 4 (some .long) :: AW)) B.pre w (List.mem_cons_of_mem _ h)
  have hown : s.vm.findClass R_Rb = some m.cls := findClass_of_methodNamed B.named
  have hlocks := B.notSynchronized
  have hl := lv_entry ([.ref rb, .int (nI q), .int (nI j)]) (n := 4) (Nat.le_of_ble_eq_true rfl)
  rw [lg_entry_eq]
  generalize (lg_sl ([.ref rb, .int (nI q), .int (nI j)]) ++ List.replicate (4 - (lg_sl ([.ref rb, .int (nI q), .int (nI j)])).length) Slot.unset).toArray = ls at hl ⊢
  have hl : lv_has ls 4 [(0, .ref rb), (1, .int (nI q)), (2, .int (nI j))] := hl
  have hn := hB.1
  obtain ⟨hrk, hnu, hru, ⟨k0, k1, k2, k3, hco⟩, hwa⟩ := hB.2.2.2 q hq
  refine lv_aload_n hx hb d_Rb_wordAt_0 rfl (lv_at hl 0 rfl) ?_
  refine lv_iload_n hx hb d_Rb_wordAt_1 rfl (lv_at hl 1 rfl) ?_
  refine va_csq (va_Run.run (va_runV (As := [.int (nI q)]) (rest := []) ⟨hx, hb, hml, hown, hA⟩ (c_Rb_at l G L f hB.2.1 hB.2.2.1 (nI q)) ⟨callB_of 1 hA (gAW kw_47) rfl rfl rfl (hA _ kw_48) (hA _ kw_49) (by decide +kernel) ⟨Nat.le_of_ble_eq_true rfl, Nat.le_of_ble_eq_true rfl⟩, (hA _ kw_50), (hA _ kw_51)⟩ (pw_preV (ci := 3) hP hK hB.2.1 rfl) rfl rfl hl.1 rfl (lv_room (Nat.le_of_ble_eq_true rfl)) d_Rb_wordAt_2 ⟨Nat.zero_le _, Nat.zero_le _⟩)) (fun r_1 e_2 => ?_)
  subst e_2
  refine xv_R (a := rad q) (oAt_t (by decide) hn hq) ?_
  refine lv_astore_n (lv' := [(3, .ref (rad q)), (0, .ref rb), (1, .int (nI q)), (2, .int (nI j))]) hx hb d_Rb_wordAt_5 rfl hl (by decide) rfl (fun ls hl => ?_)
  refine lv_aload_n hx hb d_Rb_wordAt_6 rfl (lv_at hl 0 rfl) ?_
  refine lv_ifnonnull (tgt := 14) hx hb d_Rb_wordAt_7 (by decide) ?_
  refine lv_aload_n hx hb d_Rb_wordAt_14 rfl (lv_at hl 0 rfl) ?_
  refine lv_iload_n hx hb d_Rb_wordAt_15 rfl (lv_at hl 3 rfl) ?_
  refine vp_callSl (va_Run.run (va_runVN (As := [.int (nI j)]) (rest := []) ⟨hx, hb, hml, hown, hA⟩ (c_Ru_word l G L f hco hwa hru j hj) ⟨va_cnB 1 hA (gAW kw_52) rfl rfl rfl (hK.2.1 _ kz_10) (hA _ kw_53) (by decide +kernel) ⟨Nat.le_of_ble_eq_true rfl, Nat.le_of_ble_eq_true rfl⟩, (hA _ kw_54), (hA _ kw_55)⟩ (pw_preV (ci := 2) hP hK hru rfl) rfl rfl hl.1 rfl (lv_room (Nat.le_of_ble_eq_true rfl)) d_Rb_wordAt_16 ⟨Nat.zero_le _, Nat.zero_le _⟩)) (fun r_3 e_4 => ?_)
  subst e_4
  exact W.lret (v := ww q j) hx hb hr (fun t9 h9t h9W => ⟨_, rfl, rfl, h9t⟩) (fun _ h => nomatch h) d_Rb_wordAt_19

set_option maxHeartbeats 4000000 in
set_option maxRecDepth 100000 in
/-- placeOf -/
theorem c_Rb_placeOf (l : Launch) (G : GG) (L : List Nat) (f : Nat → va_E) {rb rA n : Nat} {rad ca wa rk nu : Nat → Nat} {dn : Nat → Bool} {ww : Nat → Nat → Int64} (hB : RuB G L f rb rA n rad ca wa rk nu dn ww) (x : Int32) : Met l y_Rb_placeOf (.code y_Rb_placeOf b_Rb_placeOf 4 (some .int) :: AW) (RM 2) (va_Pc [.ref rb, .int x] (PW G L f)) (vp_Si (fun r => r = plN (fst0 (isNo n nu x) 20 0))) 0 0 (fun _ => False) := by
  refine Met.ofW (cc := b_Rb_placeOf) (maxL := 4) (ret := (some .int)) (by decide) rfl ?_
  intro p e s m args below meth c s₁ B hml hv
  obtain ⟨rfl, hP, hK⟩ := hv
  have hx := B.exec
  have hb := B.bytes
  have hr := B.returns
  have hA : ∀ w ∈ AW, w.before _ s = true := fun w h => atoms_spec (ws := (.code y_Rb_placeOf b_Rb_placeOf 4 (some .int) :: AW)) B.pre w (List.mem_cons_of_mem _ h)
  have hown : s.vm.findClass R_Rb = some m.cls := findClass_of_methodNamed B.named
  have hlocks := B.notSynchronized
  have hl := lv_entry ([.ref rb, .int x]) (n := 4) (Nat.le_of_ble_eq_true rfl)
  rw [lg_entry_eq]
  generalize (lg_sl ([.ref rb, .int x]) ++ List.replicate (4 - (lg_sl ([.ref rb, .int x])).length) Slot.unset).toArray = ls at hl ⊢
  have hl : lv_has ls 4 [(0, .ref rb), (1, .int x)] := hl
  have hn := hB.1
  refine lv_iconst (v := nI 0) hx hb d_Rb_placeOf_0 (by decide) ?_
  refine lv_istore_n (lv' := [(2, .int (nI 0)), (0, .ref rb), (1, .int x)]) hx hb d_Rb_placeOf_1 rfl hl (by decide) rfl (fun ls hl => ?_)
  have loop : ∀ (k q : Nat) (ls : Array Slot), q + k = 20 → fst0 (isNo n nu x) 20 0 = fst0 (isNo n nu x) k q → lv_has ls 4 [(0, .ref rb), (1, .int x), (2, .int (nI q))] → W p l e (headSpec (.code y_Rb_placeOf b_Rb_placeOf 4 (some .int) :: AW) (RM 2)).room s m ([.ref rb, .int x] : List Value).toArray below meth c s.heap [] 0 0 (MQ below (vp_Si (fun r => r = plN (fst0 (isNo n nu x) 20 0))) ([.ref rb, .int x] : List Value).toArray s 0 0 (fun _ => False)) (F0 m 2 ls []) := by
    intro k
    induction k with
    | zero =>
      intro q  ls hik hres hl
      refine lv_iload_n hx hb d_Rb_placeOf_2 rfl (lv_at hl 2 rfl) ?_
      refine lv_aload_n hx hb d_Rb_placeOf_3 rfl (lv_at hl 0 rfl) ?_
      refine va_get (D := G.1) (ci := 3) (v := .ref rA) (C := R_Rb) (T := T_Rb) (N := 2) hx hb hA in_Rb hown hK.1 (pl_o hP hB.2.1) 0 rfl rfl 0 (by decide) (hA _ kw_8) (fun _ h9 => h9) rfl d_Rb_placeOf_4 ?_
      refine va_alen (v := nI 20) hx hb hK.1 (pl_o hP hB.2.2.1) 0 3 rfl rfl rfl d_Rb_placeOf_7 ?_
      refine lv_icmp_ge (tgt := 37) hx hb d_Rb_placeOf_8 (by decide) (fun _ => ?_) (fun c9 => absurd (nI_le (by omega) (by omega)) c9)
      refine lv_iconst (v := (-1)) hx hb d_Rb_placeOf_37 (by decide) ?_
      exact W.iret (v := (-1)) hx hb hr (fun t9 h9t h9W => ⟨_, rfl, by rw [hres]; rfl, h9t⟩) (fun _ h => nomatch h) d_Rb_placeOf_38
    | succ k ih =>
      intro q  ls hik hres hl
      refine lv_iload_n hx hb d_Rb_placeOf_2 rfl (lv_at hl 2 rfl) ?_
      refine lv_aload_n hx hb d_Rb_placeOf_3 rfl (lv_at hl 0 rfl) ?_
      refine va_get (D := G.1) (ci := 3) (v := .ref rA) (C := R_Rb) (T := T_Rb) (N := 2) hx hb hA in_Rb hown hK.1 (pl_o hP hB.2.1) 0 rfl rfl 0 (by decide) (hA _ kw_8) (fun _ h9 => h9) rfl d_Rb_placeOf_4 ?_
      refine va_alen (v := nI 20) hx hb hK.1 (pl_o hP hB.2.2.1) 0 3 rfl rfl rfl d_Rb_placeOf_7 ?_
      refine lv_icmp_ge (tgt := 37) hx hb d_Rb_placeOf_8 (by decide) (fun c9 => absurd c9 (nI_ge (by omega) (by omega))) (fun _ => ?_)
      by_cases hq : q < n
      · obtain ⟨hrk, hnu, hru, ⟨k0, k1, k2, k3, hco⟩, hwa⟩ := hB.2.2.2 q hq
        refine lv_aload_n hx hb d_Rb_placeOf_11 rfl (lv_at hl 0 rfl) ?_
        refine lv_iload_n hx hb d_Rb_placeOf_12 rfl (lv_at hl 2 rfl) ?_
        refine va_csq (va_Run.run (va_runV (As := [.int (nI q)]) (rest := []) ⟨hx, hb, hml, hown, hA⟩ (c_Rb_at l G L f hB.2.1 hB.2.2.1 (nI q)) ⟨callB_of 1 hA (gAW kw_47) rfl rfl rfl (hA _ kw_48) (hA _ kw_49) (by decide +kernel) ⟨Nat.le_of_ble_eq_true rfl, Nat.le_of_ble_eq_true rfl⟩, (hA _ kw_50), (hA _ kw_51)⟩ (pw_preV (ci := 3) hP hK hB.2.1 rfl) rfl rfl hl.1 rfl (lv_room (Nat.le_of_ble_eq_true rfl)) d_Rb_placeOf_13 ⟨Nat.zero_le _, Nat.zero_le _⟩)) (fun r_1 e_2 => ?_)
        subst e_2
        refine xv_R (a := rad q) (oAt_t (by decide) hn hq) ?_
        refine lv_astore_n (lv' := [(3, .ref (rad q)), (0, .ref rb), (1, .int x), (2, .int (nI q))]) hx hb d_Rb_placeOf_16 rfl hl (by decide) rfl (fun ls hl => ?_)
        refine lv_aload_n hx hb d_Rb_placeOf_17 rfl (lv_at hl 0 rfl) ?_
        refine lv_ifnull hx hb d_Rb_placeOf_18 ?_
        refine lv_aload_n hx hb d_Rb_placeOf_21 rfl (lv_at hl 0 rfl) ?_
        refine va_getN (D := G.1) (ci := 2) (v := .int (nI (nu q))) (C := R_Ru) (T := T_Ru) (N := 4) hx hb hA in_Ru hown hK.1 (pl_o hP hru) 0 rfl rfl 3 (by decide) (va_Nw.use rfl (hK.2.1 _ kz_11)) (fun _ h9 => h9) rfl d_Rb_placeOf_22 ?_
        refine lv_iload_n hx hb d_Rb_placeOf_25 rfl (lv_at hl 2 rfl) ?_
        by_cases he : nI (nu q) = x
        · refine lv_icmp_ne (tgt := 31) hx hb d_Rb_placeOf_26 (by decide) (fun c9 => absurd he c9) (fun _ => ?_)
          refine lv_iload_n hx hb d_Rb_placeOf_29 rfl (lv_at hl 3 rfl) ?_
          exact W.iret (v := nI q) hx hb hr (fun t9 h9t h9W => ⟨_, rfl, by rw [hres]; exact (congrArg plN (fst0_hit (isNo_t hq he))).symm, h9t⟩) (fun _ h => nomatch h) d_Rb_placeOf_30
        · refine lv_icmp_ne (tgt := 31) hx hb d_Rb_placeOf_26 (by decide) (fun _ => ?_) (fun c9 => absurd c9 he)
          refine lv_iinc (v := nI (q + 1)) (lv' := [(2, .int (nI (q + 1))), (3, .ref (rad q)), (0, .ref rb), (1, .int x)]) hx hb d_Rb_placeOf_31 hl (k := 3) rfl (nI_1 q) (by decide) rfl (fun ls hl => ?_)
          refine lv_goto (tgt := 2) hx hb d_Rb_placeOf_34 (by decide) ?_
          exact ih (q + 1)  ls (by omega) (hres.trans (if_neg (isNo_f2 he))) (lv_sub hl [2, 3, 0] rfl)
      · refine lv_aload_n hx hb d_Rb_placeOf_11 rfl (lv_at hl 0 rfl) ?_
        refine lv_iload_n hx hb d_Rb_placeOf_12 rfl (lv_at hl 2 rfl) ?_
        refine va_csq (va_Run.run (va_runV (As := [.int (nI q)]) (rest := []) ⟨hx, hb, hml, hown, hA⟩ (c_Rb_at l G L f hB.2.1 hB.2.2.1 (nI q)) ⟨callB_of 1 hA (gAW kw_47) rfl rfl rfl (hA _ kw_48) (hA _ kw_49) (by decide +kernel) ⟨Nat.le_of_ble_eq_true rfl, Nat.le_of_ble_eq_true rfl⟩, (hA _ kw_50), (hA _ kw_51)⟩ (pw_preV (ci := 3) hP hK hB.2.1 rfl) rfl rfl hl.1 rfl (lv_room (Nat.le_of_ble_eq_true rfl)) d_Rb_placeOf_13 ⟨Nat.zero_le _, Nat.zero_le _⟩)) (fun r_3 e_4 => ?_)
        subst e_4
        refine xv_N (oAt_f (by decide) (by omega) (by omega)) ?_
        refine lv_astore_nN (lv' := [(3, .null), (0, .ref rb), (1, .int x), (2, .int (nI q))]) hx hb d_Rb_placeOf_16 rfl hl (by decide) rfl (fun ls hl => ?_)
        refine lv_aload_nN hx hb d_Rb_placeOf_17 rfl (lv_at hl 0 rfl) ?_
        refine lv_ifnullN (tgt := 31) hx hb d_Rb_placeOf_18 (by decide) ?_
        refine lv_iinc (v := nI (q + 1)) (lv' := [(2, .int (nI (q + 1))), (3, .null), (0, .ref rb), (1, .int x)]) hx hb d_Rb_placeOf_31 hl (k := 3) rfl (nI_1 q) (by decide) rfl (fun ls hl => ?_)
        refine lv_goto (tgt := 2) hx hb d_Rb_placeOf_34 (by decide) ?_
        exact ih (q + 1)  ls (by omega) (hres.trans (if_neg (isNo_f1 hq))) (lv_sub hl [2, 3, 0] rfl)
  exact loop (20 - 0) 0  ls (by omega) rfl (lv_sub hl [1, 2, 0] rfl)

set_option maxHeartbeats 4000000 in
set_option maxRecDepth 100000 in
/-- placeFor -/
theorem c_Rb_placeFor (l : Launch) (G : GG) (L : List Nat) (f : Nat → va_E) {rb rA n : Nat} {rad ca wa rk nu : Nat → Nat} {dn : Nat → Bool} {ww : Nat → Nat → Int64} (hB : RuB G L f rb rA n rad ca wa rk nu dn ww) {fr r0 a0 : Nat} {d0 : Bool} {n0 : Int32} (hfr : Lk L f fr (.inr (2, [.int (nI r0), .int (bI d0), .ref a0, .int n0]))) (hr0 : r0 < 10) : Met l y_Rb_placeFor (.code y_Rb_placeFor b_Rb_placeFor 4 (some .int) :: AW) (RM 2) (va_Pc [.ref rb, .ref fr] (PW G L f)) (vp_Si (fun r => r = plF (fst0 (isPl n r0 d0 rk dn) 20 0))) 0 0 (fun _ => False) := by
  refine Met.ofW (cc := b_Rb_placeFor) (maxL := 4) (ret := (some .int)) (by decide) rfl ?_
  intro p e s m args below meth c s₁ B hml hv
  obtain ⟨rfl, hP, hK⟩ := hv
  have hx := B.exec
  have hb := B.bytes
  have hr := B.returns
  have hA : ∀ w ∈ AW, w.before _ s = true := fun w h => atoms_spec (ws := (.code y_Rb_placeFor b_Rb_placeFor 4 (some .int) :: AW)) B.pre w (List.mem_cons_of_mem _ h)
  have hown : s.vm.findClass R_Rb = some m.cls := findClass_of_methodNamed B.named
  have hlocks := B.notSynchronized
  have hl := lv_entry ([.ref rb, .ref fr]) (n := 4) (Nat.le_of_ble_eq_true rfl)
  rw [lg_entry_eq]
  generalize (lg_sl ([.ref rb, .ref fr]) ++ List.replicate (4 - (lg_sl ([.ref rb, .ref fr])).length) Slot.unset).toArray = ls at hl ⊢
  have hl : lv_has ls 4 [(0, .ref rb), (1, .ref fr)] := hl
  have hn := hB.1
  refine lv_iconst (v := nI 0) hx hb d_Rb_placeFor_0 (by decide) ?_
  refine lv_istore_n (lv' := [(2, .int (nI 0)), (0, .ref rb), (1, .ref fr)]) hx hb d_Rb_placeFor_1 rfl hl (by decide) rfl (fun ls hl => ?_)
  have loop : ∀ (k q : Nat) (ls : Array Slot), q + k = 20 → fst0 (isPl n r0 d0 rk dn) 20 0 = fst0 (isPl n r0 d0 rk dn) k q → lv_has ls 4 [(0, .ref rb), (1, .ref fr), (2, .int (nI q))] → W p l e (headSpec (.code y_Rb_placeFor b_Rb_placeFor 4 (some .int) :: AW) (RM 2)).room s m ([.ref rb, .ref fr] : List Value).toArray below meth c s.heap [] 0 0 (MQ below (vp_Si (fun r => r = plF (fst0 (isPl n r0 d0 rk dn) 20 0))) ([.ref rb, .ref fr] : List Value).toArray s 0 0 (fun _ => False)) (F0 m 2 ls []) := by
    intro k
    induction k with
    | zero =>
      intro q  ls hik hres hl
      refine lv_iload_n hx hb d_Rb_placeFor_2 rfl (lv_at hl 2 rfl) ?_
      refine lv_aload_n hx hb d_Rb_placeFor_3 rfl (lv_at hl 0 rfl) ?_
      refine va_get (D := G.1) (ci := 3) (v := .ref rA) (C := R_Rb) (T := T_Rb) (N := 2) hx hb hA in_Rb hown hK.1 (pl_o hP hB.2.1) 0 rfl rfl 0 (by decide) (hA _ kw_8) (fun _ h9 => h9) rfl d_Rb_placeFor_4 ?_
      refine va_alen (v := nI 20) hx hb hK.1 (pl_o hP hB.2.2.1) 0 3 rfl rfl rfl d_Rb_placeFor_7 ?_
      refine lv_icmp_ge (tgt := 37) hx hb d_Rb_placeFor_8 (by decide) (fun _ => ?_) (fun c9 => absurd (nI_le (by omega) (by omega)) c9)
      refine lv_aload_n hx hb d_Rb_placeFor_37 rfl (lv_at hl 0 rfl) ?_
      refine va_get (D := G.1) (ci := 3) (v := .ref rA) (C := R_Rb) (T := T_Rb) (N := 2) hx hb hA in_Rb hown hK.1 (pl_o hP hB.2.1) 0 rfl rfl 0 (by decide) (hA _ kw_8) (fun _ h9 => h9) rfl d_Rb_placeFor_38 ?_
      refine va_alen (v := nI 20) hx hb hK.1 (pl_o hP hB.2.2.1) 0 3 rfl rfl rfl d_Rb_placeFor_41 ?_
      exact W.iret (v := nI 20) hx hb hr (fun t9 h9t h9W => ⟨_, rfl, by rw [hres]; rfl, h9t⟩) (fun _ h => nomatch h) d_Rb_placeFor_42
    | succ k ih =>
      intro q  ls hik hres hl
      refine lv_iload_n hx hb d_Rb_placeFor_2 rfl (lv_at hl 2 rfl) ?_
      refine lv_aload_n hx hb d_Rb_placeFor_3 rfl (lv_at hl 0 rfl) ?_
      refine va_get (D := G.1) (ci := 3) (v := .ref rA) (C := R_Rb) (T := T_Rb) (N := 2) hx hb hA in_Rb hown hK.1 (pl_o hP hB.2.1) 0 rfl rfl 0 (by decide) (hA _ kw_8) (fun _ h9 => h9) rfl d_Rb_placeFor_4 ?_
      refine va_alen (v := nI 20) hx hb hK.1 (pl_o hP hB.2.2.1) 0 3 rfl rfl rfl d_Rb_placeFor_7 ?_
      refine lv_icmp_ge (tgt := 37) hx hb d_Rb_placeFor_8 (by decide) (fun c9 => absurd c9 (nI_ge (by omega) (by omega))) (fun _ => ?_)
      by_cases hq : q < n
      · obtain ⟨hrk, hnu, hru, ⟨k0, k1, k2, k3, hco⟩, hwa⟩ := hB.2.2.2 q hq
        refine lv_aload_n hx hb d_Rb_placeFor_11 rfl (lv_at hl 0 rfl) ?_
        refine lv_iload_n hx hb d_Rb_placeFor_12 rfl (lv_at hl 2 rfl) ?_
        refine va_csq (va_Run.run (va_runV (As := [.int (nI q)]) (rest := []) ⟨hx, hb, hml, hown, hA⟩ (c_Rb_at l G L f hB.2.1 hB.2.2.1 (nI q)) ⟨callB_of 1 hA (gAW kw_47) rfl rfl rfl (hA _ kw_48) (hA _ kw_49) (by decide +kernel) ⟨Nat.le_of_ble_eq_true rfl, Nat.le_of_ble_eq_true rfl⟩, (hA _ kw_50), (hA _ kw_51)⟩ (pw_preV (ci := 3) hP hK hB.2.1 rfl) rfl rfl hl.1 rfl (lv_room (Nat.le_of_ble_eq_true rfl)) d_Rb_placeFor_13 ⟨Nat.zero_le _, Nat.zero_le _⟩)) (fun r_1 e_2 => ?_)
        subst e_2
        refine xv_R (a := rad q) (oAt_t (by decide) hn hq) ?_
        refine lv_astore_n (lv' := [(3, .ref (rad q)), (0, .ref rb), (1, .ref fr), (2, .int (nI q))]) hx hb d_Rb_placeFor_16 rfl hl (by decide) rfl (fun ls hl => ?_)
        refine lv_aload_n hx hb d_Rb_placeFor_17 rfl (lv_at hl 0 rfl) ?_
        refine lv_ifnull hx hb d_Rb_placeFor_18 ?_
        refine lv_aload_n hx hb d_Rb_placeFor_21 rfl (lv_at hl 2 rfl) ?_
        refine lv_aload_n hx hb d_Rb_placeFor_22 rfl (lv_at hl 0 rfl) ?_
        refine vp_callSi (va_Run.run (va_runVN (As := [.ref (rad q)]) (rest := []) ⟨hx, hb, hml, hown, hA⟩ (c_Ru_gob l G L f hfr hru hr0 hrk) ⟨va_cnB 1 hA (gAW kw_56) rfl rfl rfl (hK.2.1 _ kz_12) (hA _ kw_53) (by decide +kernel) ⟨Nat.le_of_ble_eq_true rfl, Nat.le_of_ble_eq_true rfl⟩, (hA _ kw_57), (hA _ kw_58)⟩ (pw_preV (ci := 2) hP hK hfr rfl) rfl rfl hl.1 rfl (lv_room (Nat.le_of_ble_eq_true rfl)) d_Rb_placeFor_23 ⟨Nat.zero_le _, Nat.zero_le _⟩)) (fun r_3 e_4 => ?_)
        subst e_4
        rcases bcase (gob r0 d0 (rk q) (dn q)) with hg | hg
        · refine lv_if_eq (tgt := 31) hx hb d_Rb_placeFor_26 (by decide) (fun _ => ?_) (fun c9 => absurd (by rw [hg]; rfl) c9)
          refine lv_iinc (v := nI (q + 1)) (lv' := [(2, .int (nI (q + 1))), (3, .ref (rad q)), (0, .ref rb), (1, .ref fr)]) hx hb d_Rb_placeFor_31 hl (k := 3) rfl (nI_1 q) (by decide) rfl (fun ls hl => ?_)
          refine lv_goto (tgt := 2) hx hb d_Rb_placeFor_34 (by decide) ?_
          exact ih (q + 1)  ls (by omega) (hres.trans (if_neg (isPl_f hq hg))) (lv_sub hl [2, 3, 0] rfl)
        · refine lv_if_eq (tgt := 31) hx hb d_Rb_placeFor_26 (by decide) (fun c9 => absurd c9 (by rw [hg]; decide)) (fun _ => ?_)
          refine lv_iload_n hx hb d_Rb_placeFor_29 rfl (lv_at hl 3 rfl) ?_
          exact W.iret (v := nI q) hx hb hr (fun t9 h9t h9W => ⟨_, rfl, by rw [hres]; exact (congrArg plF (fst0_hit (isPl_t2 hg))).symm, h9t⟩) (fun _ h => nomatch h) d_Rb_placeFor_30
      · refine lv_aload_n hx hb d_Rb_placeFor_11 rfl (lv_at hl 0 rfl) ?_
        refine lv_iload_n hx hb d_Rb_placeFor_12 rfl (lv_at hl 2 rfl) ?_
        refine va_csq (va_Run.run (va_runV (As := [.int (nI q)]) (rest := []) ⟨hx, hb, hml, hown, hA⟩ (c_Rb_at l G L f hB.2.1 hB.2.2.1 (nI q)) ⟨callB_of 1 hA (gAW kw_47) rfl rfl rfl (hA _ kw_48) (hA _ kw_49) (by decide +kernel) ⟨Nat.le_of_ble_eq_true rfl, Nat.le_of_ble_eq_true rfl⟩, (hA _ kw_50), (hA _ kw_51)⟩ (pw_preV (ci := 3) hP hK hB.2.1 rfl) rfl rfl hl.1 rfl (lv_room (Nat.le_of_ble_eq_true rfl)) d_Rb_placeFor_13 ⟨Nat.zero_le _, Nat.zero_le _⟩)) (fun r_5 e_6 => ?_)
        subst e_6
        refine xv_N (oAt_f (by decide) (by omega) (by omega)) ?_
        refine lv_astore_nN (lv' := [(3, .null), (0, .ref rb), (1, .ref fr), (2, .int (nI q))]) hx hb d_Rb_placeFor_16 rfl hl (by decide) rfl (fun ls hl => ?_)
        refine lv_aload_nN hx hb d_Rb_placeFor_17 rfl (lv_at hl 0 rfl) ?_
        refine lv_ifnullN (tgt := 29) hx hb d_Rb_placeFor_18 (by decide) ?_
        refine lv_iload_n hx hb d_Rb_placeFor_29 rfl (lv_at hl 3 rfl) ?_
        exact W.iret (v := nI q) hx hb hr (fun t9 h9t h9W => ⟨_, rfl, by rw [hres]; exact (congrArg plF (fst0_hit (isPl_t1 (show n ≤ q by omega)))).symm, h9t⟩) (fun _ h => nomatch h) d_Rb_placeFor_30
  exact loop (20 - 0) 0  ls (by omega) rfl (lv_sub hl [1, 2, 0] rfl)

set_option maxHeartbeats 4000000 in
set_option maxRecDepth 100000 in
/-- deciderOf -/
theorem c_Rb_dec (l : Launch) (G : GG) (L : List Nat) (f : Nat → va_E) {rb rA n : Nat} {rad ca wa rk nu : Nat → Nat} {dn : Nat → Bool} {ww : Nat → Nat → Int64} (hB : RuB G L f rb rA n rad ca wa rk nu dn ww) (a : Nat) (ha : a < 6144) : Met l y_Rb_deciderOf (.code y_Rb_deciderOf b_Rb_deciderOf 7 (some (.object "RightDesk$Rule")) :: AW) (RM 3) (va_Pc [.ref rb, .int (nI a)] (PW G L f)) (va_Sq (fun r => r = Option.map rad (fst0 (hit ww a) n 0))) 0 0 (fun _ => False) := by
  refine Met.ofW (cc := b_Rb_deciderOf) (maxL := 7) (ret := (some (.object "RightDesk$Rule"))) (by decide) rfl ?_
  intro p e s m args below meth c s₁ B hml hv
  obtain ⟨rfl, hP, hK⟩ := hv
  have hx := B.exec
  have hb := B.bytes
  have hr := B.returns
  have hA : ∀ w ∈ AW, w.before _ s = true := fun w h => atoms_spec (ws := (.code y_Rb_deciderOf b_Rb_deciderOf 7 (some (.object "RightDesk$Rule")) :: AW)) B.pre w (List.mem_cons_of_mem _ h)
  have hown : s.vm.findClass R_Rb = some m.cls := findClass_of_methodNamed B.named
  have hlocks := B.notSynchronized
  have hl := lv_entry ([.ref rb, .int (nI a)]) (n := 7) (Nat.le_of_ble_eq_true rfl)
  rw [lg_entry_eq]
  generalize (lg_sl ([.ref rb, .int (nI a)]) ++ List.replicate (7 - (lg_sl ([.ref rb, .int (nI a)])).length) Slot.unset).toArray = ls at hl ⊢
  have hl : lv_has ls 7 [(0, .ref rb), (1, .int (nI a))] := hl
  have hn := hB.1
  refine lv_iload_n hx hb d_Rb_deciderOf_0 rfl (lv_at hl 1 rfl) ?_
  refine lv_bipush (v := nI 64) hx hb d_Rb_deciderOf_1 (by decide) ?_
  refine lv_idiv hx hb d_Rb_deciderOf_3 (by decide) ?_
  refine xv_I (y := nI (a / 64)) (pk_div (by omega) (by decide) (by decide)) ?_
  refine lv_istore_n (lv' := [(2, .int (nI (a / 64))), (0, .ref rb), (1, .int (nI a))]) hx hb d_Rb_deciderOf_4 rfl hl (by decide) rfl (fun ls hl => ?_)
  refine lv_lconst (v := 1) hx hb d_Rb_deciderOf_5 (by decide) ?_
  refine lv_iload_n hx hb d_Rb_deciderOf_6 rfl (lv_at hl 2 rfl) ?_
  refine lv_bipush (v := nI 64) hx hb d_Rb_deciderOf_7 (by decide) ?_
  refine lv_irem hx hb d_Rb_deciderOf_9 (by decide) ?_
  refine xv_I (y := nI (a % 64)) (pk_rem (by omega) (by decide) (by decide)) ?_
  refine lv_lshl (v := 1 <<< (Int32.toInt64 (nI (a % 64)) &&& 63)) hx hb d_Rb_deciderOf_10 rfl ?_
  refine xv_J (y := shl 1 (a % 64)) rfl ?_
  refine lv_lstore_n (lv' := [(3, .long (shl 1 (a % 64))), (2, .int (nI (a / 64))), (0, .ref rb), (1, .int (nI a))]) hx hb d_Rb_deciderOf_11 rfl hl (by decide) rfl (fun ls hl => ?_)
  refine lv_iconst (v := nI 0) hx hb d_Rb_deciderOf_12 (by decide) ?_
  refine lv_istore (lv' := [(5, .int (nI 0)), (3, .long (shl 1 (a % 64))), (2, .int (nI (a / 64))), (0, .ref rb), (1, .int (nI a))]) hx hb d_Rb_deciderOf_13 hl (by decide) rfl (fun ls hl => ?_)
  have loop : ∀ (k q : Nat) (ls : Array Slot), q + k = n → fst0 (hit ww a) n 0 = fst0 (hit ww a) k q → lv_has ls 7 [(0, .ref rb), (2, .int (nI (a / 64))), (3, .long (shl 1 (a % 64))), (5, .int (nI q))] → W p l e (headSpec (.code y_Rb_deciderOf b_Rb_deciderOf 7 (some (.object "RightDesk$Rule")) :: AW) (RM 3)).room s m ([.ref rb, .int (nI a)] : List Value).toArray below meth c s.heap [] 0 0 (MQ below (va_Sq (fun r => r = Option.map rad (fst0 (hit ww a) n 0))) ([.ref rb, .int (nI a)] : List Value).toArray s 0 0 (fun _ => False)) (F0 m 15 ls []) := by
    intro k
    induction k with
    | zero =>
      intro q  ls hik hres hl
      refine lv_iload hx hb d_Rb_deciderOf_15 (lv_at hl 3 rfl) ?_
      refine lv_aload_n hx hb d_Rb_deciderOf_17 rfl (lv_at hl 0 rfl) ?_
      refine va_get (D := G.1) (ci := 3) (v := .int (nI n)) (C := R_Rb) (T := T_Rb) (N := 2) hx hb hA in_Rb hown hK.1 (pl_o hP hB.2.1) 0 rfl rfl 1 (by decide) (hA _ kw_59) (fun _ h9 => h9) rfl d_Rb_deciderOf_18 ?_
      refine lv_icmp_ge (tgt := 59) hx hb d_Rb_deciderOf_21 (by decide) (fun _ => ?_) (fun c9 => absurd (nI_le (by omega) (by omega)) c9)
      refine lv_null hx hb d_Rb_deciderOf_59 ?_
      exact W.aret (v := .null) hx hb hr (Or.inl ⟨_, rfl⟩) (Or.inl rfl) (fun t9 h9t h9W => ⟨none, rfl, by rw [hres]; rfl, h9t⟩) (fun _ h => nomatch h) d_Rb_deciderOf_60
    | succ k ih =>
      intro q  ls hik hres hl
      refine lv_iload hx hb d_Rb_deciderOf_15 (lv_at hl 3 rfl) ?_
      refine lv_aload_n hx hb d_Rb_deciderOf_17 rfl (lv_at hl 0 rfl) ?_
      refine va_get (D := G.1) (ci := 3) (v := .int (nI n)) (C := R_Rb) (T := T_Rb) (N := 2) hx hb hA in_Rb hown hK.1 (pl_o hP hB.2.1) 0 rfl rfl 1 (by decide) (hA _ kw_59) (fun _ h9 => h9) rfl d_Rb_deciderOf_18 ?_
      refine lv_icmp_ge (tgt := 59) hx hb d_Rb_deciderOf_21 (by decide) (fun c9 => absurd c9 (nI_ge (by omega) (by omega))) (fun _ => ?_)
      have hq : q < n := by omega
      obtain ⟨hrk, hnu, hru, ⟨k0, k1, k2, k3, hco⟩, hwa⟩ := hB.2.2.2 q hq
      refine lv_aload_n hx hb d_Rb_deciderOf_24 rfl (lv_at hl 0 rfl) ?_
      refine lv_iload hx hb d_Rb_deciderOf_25 (lv_at hl 3 rfl) ?_
      refine va_csq (va_Run.run (va_runV (As := [.int (nI q)]) (rest := []) ⟨hx, hb, hml, hown, hA⟩ (c_Rb_at l G L f hB.2.1 hB.2.2.1 (nI q)) ⟨callB_of 1 hA (gAW kw_47) rfl rfl rfl (hA _ kw_48) (hA _ kw_49) (by decide +kernel) ⟨Nat.le_of_ble_eq_true rfl, Nat.le_of_ble_eq_true rfl⟩, (hA _ kw_50), (hA _ kw_51)⟩ (pw_preV (ci := 3) hP hK hB.2.1 rfl) rfl rfl hl.1 rfl (lv_room (Nat.le_of_ble_eq_true rfl)) d_Rb_deciderOf_27 ⟨Nat.zero_le _, Nat.zero_le _⟩)) (fun r_1 e_2 => ?_)
      subst e_2
      refine xv_R (a := rad q) (oAt_t (by decide) hn hq) ?_
      refine lv_astore (lv' := [(6, .ref (rad q)), (0, .ref rb), (2, .int (nI (a / 64))), (3, .long (shl 1 (a % 64))), (5, .int (nI q))]) hx hb d_Rb_deciderOf_30 hl (by decide) rfl (fun ls hl => ?_)
      refine lv_aload hx hb d_Rb_deciderOf_32 (lv_at hl 0 rfl) ?_
      refine lv_ifnull hx hb d_Rb_deciderOf_34 ?_
      refine lv_aload hx hb d_Rb_deciderOf_37 (lv_at hl 0 rfl) ?_
      refine lv_iload_n hx hb d_Rb_deciderOf_39 rfl (lv_at hl 2 rfl) ?_
      refine vp_callSl (va_Run.run (va_runVN (As := [.int (nI (a / 64))]) (rest := []) ⟨hx, hb, hml, hown, hA⟩ (c_Ru_word l G L f hco hwa hru (a / 64) (by omega)) ⟨va_cnB 1 hA (gAW kw_52) rfl rfl rfl (hK.2.1 _ kz_10) (hA _ kw_53) (by decide +kernel) ⟨Nat.le_of_ble_eq_true rfl, Nat.le_of_ble_eq_true rfl⟩, (hA _ kw_54), (hA _ kw_55)⟩ (pw_preV (ci := 2) hP hK hru rfl) rfl rfl hl.1 rfl (lv_room (Nat.le_of_ble_eq_true rfl)) d_Rb_deciderOf_40 ⟨Nat.zero_le _, Nat.zero_le _⟩)) (fun r_3 e_4 => ?_)
      subst e_4
      refine lv_lload_n hx hb d_Rb_deciderOf_43 rfl (lv_at hl 3 rfl) ?_
      refine lv_land hx hb d_Rb_deciderOf_44 ?_
      refine lv_lconst (v := 0) hx hb d_Rb_deciderOf_45 (by decide) ?_
      refine W.lcmp hx hb d_Rb_deciderOf_46 ?_
      by_cases hz : ww q (a / 64) &&& shl 1 (a % 64) = 0
      · refine lv_if_eq (tgt := 53) hx hb d_Rb_deciderOf_47 (by decide) (fun _ => ?_) (fun c9 => absurd ((lg_cmp_eq _ _).mpr hz) c9)
        refine lv_iinc (v := nI (q + 1)) (lv' := [(5, .int (nI (q + 1))), (6, .ref (rad q)), (0, .ref rb), (2, .int (nI (a / 64))), (3, .long (shl 1 (a % 64)))]) hx hb d_Rb_deciderOf_53 hl (k := 4) rfl (nI_1 q) (by decide) rfl (fun ls hl => ?_)
        refine lv_goto (tgt := 15) hx hb d_Rb_deciderOf_56 (by decide) ?_
        exact ih (q + 1)  ls (by omega) (hres.trans (if_neg (hit_f hz))) (lv_sub hl [2, 3, 4, 0] rfl)
      · refine lv_if_eq (tgt := 53) hx hb d_Rb_deciderOf_47 (by decide) (fun c9 => absurd c9 (fun z => hz ((lg_cmp_eq _ _).mp z))) (fun _ => ?_)
        refine lv_aload hx hb d_Rb_deciderOf_50 (lv_at hl 0 rfl) ?_
        exact W.aret (v := .ref (rad q)) hx hb hr (Or.inl ⟨_, rfl⟩) (Or.inr ⟨_, rfl⟩) (fun t9 h9t h9W => ⟨some (rad q), rfl, by rw [hres]; exact (congrArg (Option.map rad) (fst0_hit (hit_t hz))).symm, h9t⟩) (fun _ h => nomatch h) d_Rb_deciderOf_52
  exact loop (n - 0) 0  ls (by omega) rfl (lv_sub hl [3, 2, 1, 0] rfl)

set_option maxHeartbeats 4000000 in
set_option maxRecDepth 100000 in
/-- allowedFrom -/
theorem c_Rb_alF (l : Launch) (G : GG) (L : List Nat) (f : Nat → va_E) {rb rA n : Nat} {rad ca wa rk nu : Nat → Nat} {dn : Nat → Bool} {ww : Nat → Nat → Int64} (hB : RuB G L f rb rA n rad ca wa rk nu dn ww) (kk fr : Nat) (op : Int64) (j : Nat) (hfr : fr + kk = n) (hj : j < 96) : Met l y_Rb_allowedFrom (.code y_Rb_allowedFrom b_Rb_allowedFrom 13 (some .long) :: AW) (RM 3) (va_Pc [.ref rb, .int (nI fr), .long op, .int (nI j)] (PW G L f)) (vp_Sl (fun r => r = alF ww dn j kk fr op 0)) 0 0 (fun _ => False) := by
  refine Met.ofW (cc := b_Rb_allowedFrom) (maxL := 13) (ret := (some .long)) (by decide) rfl ?_
  intro p e s m args below meth c s₁ B hml hv
  obtain ⟨rfl, hP, hK⟩ := hv
  have hx := B.exec
  have hb := B.bytes
  have hr := B.returns
  have hA : ∀ w ∈ AW, w.before _ s = true := fun w h => atoms_spec (ws := (.code y_Rb_allowedFrom b_Rb_allowedFrom 13 (some .long) :: AW)) B.pre w (List.mem_cons_of_mem _ h)
  have hown : s.vm.findClass R_Rb = some m.cls := findClass_of_methodNamed B.named
  have hlocks := B.notSynchronized
  have hl := lv_entry ([.ref rb, .int (nI fr), .long op, .int (nI j)]) (n := 13) (Nat.le_of_ble_eq_true rfl)
  rw [lg_entry_eq]
  generalize (lg_sl ([.ref rb, .int (nI fr), .long op, .int (nI j)]) ++ List.replicate (13 - (lg_sl ([.ref rb, .int (nI fr), .long op, .int (nI j)])).length) Slot.unset).toArray = ls at hl ⊢
  have hl : lv_has ls 13 [(0, .ref rb), (1, .int (nI fr)), (2, .long op), (4, .int (nI j))] := hl
  have hn := hB.1
  refine lv_lload_n hx hb d_Rb_allowedFrom_0 rfl (lv_at hl 2 rfl) ?_
  refine lv_lstore (lv' := [(5, .long op), (0, .ref rb), (1, .int (nI fr)), (2, .long op), (4, .int (nI j))]) hx hb d_Rb_allowedFrom_1 hl (by decide) rfl (fun ls hl => ?_)
  refine lv_lconst (v := 0) hx hb d_Rb_allowedFrom_3 (by decide) ?_
  refine lv_lstore (lv' := [(7, .long 0), (5, .long op), (0, .ref rb), (1, .int (nI fr)), (2, .long op), (4, .int (nI j))]) hx hb d_Rb_allowedFrom_4 hl (by decide) rfl (fun ls hl => ?_)
  refine lv_iload_n hx hb d_Rb_allowedFrom_6 rfl (lv_at hl 3 rfl) ?_
  refine lv_istore (lv' := [(9, .int (nI fr)), (7, .long 0), (5, .long op), (0, .ref rb), (1, .int (nI fr)), (2, .long op), (4, .int (nI j))]) hx hb d_Rb_allowedFrom_7 hl (by decide) rfl (fun ls hl => ?_)
  have loop : ∀ (k q : Nat) (left : Int64) (al : Int64) (ls : Array Slot), q + k = n → alF ww dn j kk fr op 0 = alF ww dn j k q left al → lv_has ls 13 [(0, .ref rb), (4, .int (nI j)), (5, .long left), (7, .long al), (9, .int (nI q))] → W p l e (headSpec (.code y_Rb_allowedFrom b_Rb_allowedFrom 13 (some .long) :: AW) (RM 3)).room s m ([.ref rb, .int (nI fr), .long op, .int (nI j)] : List Value).toArray below meth c s.heap [] 0 0 (MQ below (vp_Sl (fun r => r = alF ww dn j kk fr op 0)) ([.ref rb, .int (nI fr), .long op, .int (nI j)] : List Value).toArray s 0 0 (fun _ => False)) (F0 m 9 ls []) := by
    intro k
    induction k with
    | zero =>
      intro q left al ls hik hres hl
      refine lv_iload hx hb d_Rb_allowedFrom_9 (lv_at hl 4 rfl) ?_
      refine lv_aload_n hx hb d_Rb_allowedFrom_11 rfl (lv_at hl 0 rfl) ?_
      refine va_get (D := G.1) (ci := 3) (v := .int (nI n)) (C := R_Rb) (T := T_Rb) (N := 2) hx hb hA in_Rb hown hK.1 (pl_o hP hB.2.1) 0 rfl rfl 1 (by decide) (hA _ kw_59) (fun _ h9 => h9) rfl d_Rb_allowedFrom_12 ?_
      refine lv_icmp_ge (tgt := 86) hx hb d_Rb_allowedFrom_15 (by decide) (fun _ => ?_) (fun c9 => absurd (nI_le (by omega) (by omega)) c9)
      refine lv_lload hx hb d_Rb_allowedFrom_86 (lv_at hl 3 rfl) ?_
      exact W.lret (v := al) hx hb hr (fun t9 h9t h9W => ⟨_, rfl, by rw [hres]; rfl, h9t⟩) (fun _ h => nomatch h) d_Rb_allowedFrom_88
    | succ k ih =>
      intro q left al ls hik hres hl
      refine lv_iload hx hb d_Rb_allowedFrom_9 (lv_at hl 4 rfl) ?_
      refine lv_aload_n hx hb d_Rb_allowedFrom_11 rfl (lv_at hl 0 rfl) ?_
      refine va_get (D := G.1) (ci := 3) (v := .int (nI n)) (C := R_Rb) (T := T_Rb) (N := 2) hx hb hA in_Rb hown hK.1 (pl_o hP hB.2.1) 0 rfl rfl 1 (by decide) (hA _ kw_59) (fun _ h9 => h9) rfl d_Rb_allowedFrom_12 ?_
      refine lv_icmp_ge (tgt := 86) hx hb d_Rb_allowedFrom_15 (by decide) (fun c9 => absurd c9 (nI_ge (by omega) (by omega))) (fun _ => ?_)
      refine lv_lload hx hb d_Rb_allowedFrom_18 (lv_at hl 2 rfl) ?_
      refine lv_lconst (v := 0) hx hb d_Rb_allowedFrom_20 (by decide) ?_
      refine W.lcmp hx hb d_Rb_allowedFrom_21 ?_
      by_cases hz : left = 0
      · refine lv_if_eq (tgt := 86) hx hb d_Rb_allowedFrom_22 (by decide) (fun _ => ?_) (fun c9 => absurd ((lg_cmp_eq _ _).mpr hz) c9)
        refine lv_lload hx hb d_Rb_allowedFrom_86 (lv_at hl 3 rfl) ?_
        exact W.lret (v := al) hx hb hr (fun t9 h9t h9W => ⟨_, rfl, by rw [hres]; exact (if_pos hz).symm, h9t⟩) (fun _ h => nomatch h) d_Rb_allowedFrom_88
      · refine lv_if_eq (tgt := 86) hx hb d_Rb_allowedFrom_22 (by decide) (fun c9 => absurd c9 (fun z => hz ((lg_cmp_eq _ _).mp z))) (fun _ => ?_)
        have hq : q < n := by omega
        obtain ⟨hrk, hnu, hru, ⟨k0, k1, k2, k3, hco⟩, hwa⟩ := hB.2.2.2 q hq
        refine lv_aload_n hx hb d_Rb_allowedFrom_25 rfl (lv_at hl 0 rfl) ?_
        refine lv_iload hx hb d_Rb_allowedFrom_26 (lv_at hl 4 rfl) ?_
        refine va_csq (va_Run.run (va_runV (As := [.int (nI q)]) (rest := []) ⟨hx, hb, hml, hown, hA⟩ (c_Rb_at l G L f hB.2.1 hB.2.2.1 (nI q)) ⟨callB_of 1 hA (gAW kw_47) rfl rfl rfl (hA _ kw_48) (hA _ kw_49) (by decide +kernel) ⟨Nat.le_of_ble_eq_true rfl, Nat.le_of_ble_eq_true rfl⟩, (hA _ kw_50), (hA _ kw_51)⟩ (pw_preV (ci := 3) hP hK hB.2.1 rfl) rfl rfl hl.1 rfl (lv_room (Nat.le_of_ble_eq_true rfl)) d_Rb_allowedFrom_28 ⟨Nat.zero_le _, Nat.zero_le _⟩)) (fun r_1 e_2 => ?_)
        subst e_2
        refine xv_R (a := rad q) (oAt_t (by decide) hn hq) ?_
        refine lv_astore (lv' := [(10, .ref (rad q)), (0, .ref rb), (4, .int (nI j)), (5, .long left), (7, .long al), (9, .int (nI q))]) hx hb d_Rb_allowedFrom_31 hl (by decide) rfl (fun ls hl => ?_)
        refine lv_aload hx hb d_Rb_allowedFrom_33 (lv_at hl 0 rfl) ?_
        refine lv_ifnull hx hb d_Rb_allowedFrom_35 ?_
        refine lv_lload hx hb d_Rb_allowedFrom_38 (lv_at hl 3 rfl) ?_
        refine lv_aload hx hb d_Rb_allowedFrom_40 (lv_at hl 0 rfl) ?_
        refine lv_iload hx hb d_Rb_allowedFrom_42 (lv_at hl 2 rfl) ?_
        refine vp_callSl (va_Run.run (va_runVN (As := [.int (nI j)]) (rest := [.long left]) ⟨hx, hb, hml, hown, hA⟩ (c_Ru_word l G L f hco hwa hru j hj) ⟨va_cnB 1 hA (gAW kw_52) rfl rfl rfl (hK.2.1 _ kz_10) (hA _ kw_53) (by decide +kernel) ⟨Nat.le_of_ble_eq_true rfl, Nat.le_of_ble_eq_true rfl⟩, (hA _ kw_54), (hA _ kw_55)⟩ (pw_preV (ci := 2) hP hK hru rfl) rfl rfl hl.1 rfl (lv_room (Nat.le_of_ble_eq_true rfl)) d_Rb_allowedFrom_44 ⟨Nat.zero_le _, Nat.zero_le _⟩)) (fun r_3 e_4 => ?_)
        subst e_4
        refine lv_land hx hb d_Rb_allowedFrom_47 ?_
        refine lv_lstore (lv' := [(11, .long (left &&& (ww q j))), (10, .ref (rad q)), (0, .ref rb), (4, .int (nI j)), (5, .long left), (7, .long al), (9, .int (nI q))]) hx hb d_Rb_allowedFrom_48 hl (by decide) rfl (fun ls hl => ?_)
        refine lv_lload hx hb d_Rb_allowedFrom_50 (lv_at hl 5 rfl) ?_
        refine lv_aload hx hb d_Rb_allowedFrom_52 (lv_at hl 1 rfl) ?_
        refine va_getN (D := G.1) (ci := 2) (v := .int (bI (dn q))) (C := R_Ru) (T := T_Ru) (N := 4) hx hb hA in_Ru hown hK.1 (pl_o hP hru) 0 rfl rfl 1 (by decide) (va_Nw.use rfl (hK.2.1 _ kz_13)) (fun _ h9 => h9) rfl d_Rb_allowedFrom_54 ?_
        rcases bcase (dn q) with hd | hd
        · refine lv_if_eq (tgt := 64) hx hb d_Rb_allowedFrom_57 (by decide) (fun _ => ?_) (fun c9 => absurd (by rw [hd]; rfl) c9)
          refine lv_lload hx hb d_Rb_allowedFrom_64 (lv_at hl 0 rfl) ?_
          refine lv_lor hx hb d_Rb_allowedFrom_66 ?_
          refine lv_lstore (lv' := [(7, .long (al ||| (left &&& (ww q j)))), (11, .long (left &&& (ww q j))), (10, .ref (rad q)), (0, .ref rb), (4, .int (nI j)), (5, .long left), (9, .int (nI q))]) hx hb d_Rb_allowedFrom_67 hl (by decide) rfl (fun ls hl => ?_)
          refine lv_lload hx hb d_Rb_allowedFrom_69 (lv_at hl 5 rfl) ?_
          refine lv_lload hx hb d_Rb_allowedFrom_71 (lv_at hl 1 rfl) ?_
          refine lv_ldc2 (v := (-1)) hx hb hown (hA _ kw_60) d_Rb_allowedFrom_73 ?_
          refine lv_lxor hx hb d_Rb_allowedFrom_76 ?_
          refine lv_land hx hb d_Rb_allowedFrom_77 ?_
          refine lv_lstore (lv' := [(5, .long (left &&& ((left &&& (ww q j)) ^^^ (-1)))), (7, .long (al ||| (left &&& (ww q j)))), (11, .long (left &&& (ww q j))), (10, .ref (rad q)), (0, .ref rb), (4, .int (nI j)), (9, .int (nI q))]) hx hb d_Rb_allowedFrom_78 hl (by decide) rfl (fun ls hl => ?_)
          refine lv_iinc (v := nI (q + 1)) (lv' := [(9, .int (nI (q + 1))), (5, .long (left &&& ((left &&& (ww q j)) ^^^ (-1)))), (7, .long (al ||| (left &&& (ww q j)))), (11, .long (left &&& (ww q j))), (10, .ref (rad q)), (0, .ref rb), (4, .int (nI j))]) hx hb d_Rb_allowedFrom_80 hl (k := 6) rfl (nI_1 q) (by decide) rfl (fun ls hl => ?_)
          refine lv_goto (tgt := 9) hx hb d_Rb_allowedFrom_83 (by decide) ?_
          exact ih (q + 1) (left &&& ((left &&& ww q j) ^^^ (-1))) (al ||| (left &&& ww q j)) ls (by omega) (hres.trans ((if_neg hz).trans (by rw [hd]; rfl))) (lv_sub hl [5, 6, 1, 2, 0] rfl)
        · refine lv_if_eq (tgt := 64) hx hb d_Rb_allowedFrom_57 (by decide) (fun c9 => absurd c9 (by rw [hd]; decide)) (fun _ => ?_)
          refine lv_lconst (v := 0) hx hb d_Rb_allowedFrom_60 (by decide) ?_
          refine lv_goto (tgt := 66) hx hb d_Rb_allowedFrom_61 (by decide) ?_
          refine lv_lor hx hb d_Rb_allowedFrom_66 ?_
          refine lv_lstore (lv' := [(7, .long (al ||| 0)), (11, .long (left &&& (ww q j))), (10, .ref (rad q)), (0, .ref rb), (4, .int (nI j)), (5, .long left), (9, .int (nI q))]) hx hb d_Rb_allowedFrom_67 hl (by decide) rfl (fun ls hl => ?_)
          refine lv_lload hx hb d_Rb_allowedFrom_69 (lv_at hl 5 rfl) ?_
          refine lv_lload hx hb d_Rb_allowedFrom_71 (lv_at hl 1 rfl) ?_
          refine lv_ldc2 (v := (-1)) hx hb hown (hA _ kw_60) d_Rb_allowedFrom_73 ?_
          refine lv_lxor hx hb d_Rb_allowedFrom_76 ?_
          refine lv_land hx hb d_Rb_allowedFrom_77 ?_
          refine lv_lstore (lv' := [(5, .long (left &&& ((left &&& (ww q j)) ^^^ (-1)))), (7, .long (al ||| 0)), (11, .long (left &&& (ww q j))), (10, .ref (rad q)), (0, .ref rb), (4, .int (nI j)), (9, .int (nI q))]) hx hb d_Rb_allowedFrom_78 hl (by decide) rfl (fun ls hl => ?_)
          refine lv_iinc (v := nI (q + 1)) (lv' := [(9, .int (nI (q + 1))), (5, .long (left &&& ((left &&& (ww q j)) ^^^ (-1)))), (7, .long (al ||| 0)), (11, .long (left &&& (ww q j))), (10, .ref (rad q)), (0, .ref rb), (4, .int (nI j))]) hx hb d_Rb_allowedFrom_80 hl (k := 6) rfl (nI_1 q) (by decide) rfl (fun ls hl => ?_)
          refine lv_goto (tgt := 9) hx hb d_Rb_allowedFrom_83 (by decide) ?_
          exact ih (q + 1) (left &&& ((left &&& ww q j) ^^^ (-1))) (al ||| 0) ls (by omega) (hres.trans ((if_neg hz).trans (by rw [hd]; rfl))) (lv_sub hl [5, 6, 1, 2, 0] rfl)
  exact loop (n - fr) fr op 0 ls (by omega) (by rw [show n - fr = kk by omega]) (lv_sub hl [3, 6, 2, 1, 0] rfl)

set_option maxHeartbeats 4000000 in
set_option maxRecDepth 100000 in
/-- decidedAt -/
theorem c_Rb_deF (l : Launch) (G : GG) (L : List Nat) (f : Nat → va_E) {rb rA n : Nat} {rad ca wa rk nu : Nat → Nat} {dn : Nat → Bool} {ww : Nat → Nat → Int64} (hB : RuB G L f rb rA n rad ca wa rk nu dn ww) (pl j : Nat) (hp_ : pl < n) (hj : j < 96) : Met l y_Rb_decidedAt (.code y_Rb_decidedAt b_Rb_decidedAt 6 (some .long) :: AW) (RM 4) (va_Pc [.ref rb, .int (nI pl), .int (nI j)] (PW G L f)) (vp_Sl (fun r => r = deF ww j pl 0 (ww pl j))) 0 0 (fun _ => False) := by
  refine Met.ofW (cc := b_Rb_decidedAt) (maxL := 6) (ret := (some .long)) (by decide) rfl ?_
  intro p e s m args below meth c s₁ B hml hv
  obtain ⟨rfl, hP, hK⟩ := hv
  have hx := B.exec
  have hb := B.bytes
  have hr := B.returns
  have hA : ∀ w ∈ AW, w.before _ s = true := fun w h => atoms_spec (ws := (.code y_Rb_decidedAt b_Rb_decidedAt 6 (some .long) :: AW)) B.pre w (List.mem_cons_of_mem _ h)
  have hown : s.vm.findClass R_Rb = some m.cls := findClass_of_methodNamed B.named
  have hlocks := B.notSynchronized
  have hl := lv_entry ([.ref rb, .int (nI pl), .int (nI j)]) (n := 6) (Nat.le_of_ble_eq_true rfl)
  rw [lg_entry_eq]
  generalize (lg_sl ([.ref rb, .int (nI pl), .int (nI j)]) ++ List.replicate (6 - (lg_sl ([.ref rb, .int (nI pl), .int (nI j)])).length) Slot.unset).toArray = ls at hl ⊢
  have hl : lv_has ls 6 [(0, .ref rb), (1, .int (nI pl)), (2, .int (nI j))] := hl
  have hn := hB.1
  refine lv_aload_n hx hb d_Rb_decidedAt_0 rfl (lv_at hl 0 rfl) ?_
  refine lv_iload_n hx hb d_Rb_decidedAt_1 rfl (lv_at hl 1 rfl) ?_
  refine lv_iload_n hx hb d_Rb_decidedAt_2 rfl (lv_at hl 2 rfl) ?_
  refine vp_callSl (va_Run.run (va_runV (As := [.int (nI pl), .int (nI j)]) (rest := []) ⟨hx, hb, hml, hown, hA⟩ (c_Rb_wordAt l G L f hB pl j hp_ hj) ⟨callB_of 2 hA (gAW kw_61) rfl rfl rfl (hA _ kw_48) (hA _ kw_62) (by decide +kernel) ⟨Nat.le_of_ble_eq_true rfl, Nat.le_of_ble_eq_true rfl⟩, (hA _ kw_63), (hA _ kw_64)⟩ (pw_preV (ci := 3) hP hK hB.2.1 rfl) rfl rfl hl.1 rfl (lv_room (Nat.le_of_ble_eq_true rfl)) d_Rb_decidedAt_3 ⟨Nat.zero_le _, Nat.zero_le _⟩)) (fun r_1 e_2 => ?_)
  subst e_2
  refine lv_lstore_n (lv' := [(3, .long (ww pl j)), (0, .ref rb), (1, .int (nI pl)), (2, .int (nI j))]) hx hb d_Rb_decidedAt_6 rfl hl (by decide) rfl (fun ls hl => ?_)
  refine lv_iconst (v := nI 0) hx hb d_Rb_decidedAt_7 (by decide) ?_
  refine lv_istore (lv' := [(5, .int (nI 0)), (3, .long (ww pl j)), (0, .ref rb), (1, .int (nI pl)), (2, .int (nI j))]) hx hb d_Rb_decidedAt_8 hl (by decide) rfl (fun ls hl => ?_)
  have loop : ∀ (k q : Nat) (left : Int64) (ls : Array Slot), q + k = pl → deF ww j pl 0 (ww pl j) = deF ww j k q left → lv_has ls 6 [(0, .ref rb), (1, .int (nI pl)), (2, .int (nI j)), (3, .long left), (5, .int (nI q))] → W p l e (headSpec (.code y_Rb_decidedAt b_Rb_decidedAt 6 (some .long) :: AW) (RM 4)).room s m ([.ref rb, .int (nI pl), .int (nI j)] : List Value).toArray below meth c s.heap [] 0 0 (MQ below (vp_Sl (fun r => r = deF ww j pl 0 (ww pl j))) ([.ref rb, .int (nI pl), .int (nI j)] : List Value).toArray s 0 0 (fun _ => False)) (F0 m 10 ls []) := by
    intro k
    induction k with
    | zero =>
      intro q left ls hik hres hl
      refine lv_iload hx hb d_Rb_decidedAt_10 (lv_at hl 4 rfl) ?_
      refine lv_iload_n hx hb d_Rb_decidedAt_12 rfl (lv_at hl 1 rfl) ?_
      refine lv_icmp_ge (tgt := 42) hx hb d_Rb_decidedAt_13 (by decide) (fun _ => ?_) (fun c9 => absurd (nI_le (by omega) (by omega)) c9)
      refine lv_lload_n hx hb d_Rb_decidedAt_42 rfl (lv_at hl 3 rfl) ?_
      exact W.lret (v := left) hx hb hr (fun t9 h9t h9W => ⟨_, rfl, by rw [hres]; rfl, h9t⟩) (fun _ h => nomatch h) d_Rb_decidedAt_43
    | succ k ih =>
      intro q left ls hik hres hl
      refine lv_iload hx hb d_Rb_decidedAt_10 (lv_at hl 4 rfl) ?_
      refine lv_iload_n hx hb d_Rb_decidedAt_12 rfl (lv_at hl 1 rfl) ?_
      refine lv_icmp_ge (tgt := 42) hx hb d_Rb_decidedAt_13 (by decide) (fun c9 => absurd c9 (nI_ge (by omega) (by omega))) (fun _ => ?_)
      refine lv_lload_n hx hb d_Rb_decidedAt_16 rfl (lv_at hl 3 rfl) ?_
      refine lv_lconst (v := 0) hx hb d_Rb_decidedAt_17 (by decide) ?_
      refine W.lcmp hx hb d_Rb_decidedAt_18 ?_
      by_cases hz : left = 0
      · refine lv_if_eq (tgt := 42) hx hb d_Rb_decidedAt_19 (by decide) (fun _ => ?_) (fun c9 => absurd ((lg_cmp_eq _ _).mpr hz) c9)
        refine lv_lload_n hx hb d_Rb_decidedAt_42 rfl (lv_at hl 3 rfl) ?_
        exact W.lret (v := left) hx hb hr (fun t9 h9t h9W => ⟨_, rfl, by rw [hres]; exact (if_pos hz).symm, h9t⟩) (fun _ h => nomatch h) d_Rb_decidedAt_43
      · refine lv_if_eq (tgt := 42) hx hb d_Rb_decidedAt_19 (by decide) (fun c9 => absurd c9 (fun z => hz ((lg_cmp_eq _ _).mp z))) (fun _ => ?_)
        refine lv_lload_n hx hb d_Rb_decidedAt_22 rfl (lv_at hl 3 rfl) ?_
        refine lv_aload_n hx hb d_Rb_decidedAt_23 rfl (lv_at hl 0 rfl) ?_
        refine lv_iload hx hb d_Rb_decidedAt_24 (lv_at hl 4 rfl) ?_
        refine lv_iload_n hx hb d_Rb_decidedAt_26 rfl (lv_at hl 2 rfl) ?_
        refine vp_callSl (va_Run.run (va_runV (As := [.int (nI q), .int (nI j)]) (rest := [.long left]) ⟨hx, hb, hml, hown, hA⟩ (c_Rb_wordAt l G L f hB q j (by omega) hj) ⟨callB_of 2 hA (gAW kw_61) rfl rfl rfl (hA _ kw_48) (hA _ kw_62) (by decide +kernel) ⟨Nat.le_of_ble_eq_true rfl, Nat.le_of_ble_eq_true rfl⟩, (hA _ kw_63), (hA _ kw_64)⟩ (pw_preV (ci := 3) hP hK hB.2.1 rfl) rfl rfl hl.1 rfl (lv_room (Nat.le_of_ble_eq_true rfl)) d_Rb_decidedAt_27 ⟨Nat.zero_le _, Nat.zero_le _⟩)) (fun r_3 e_4 => ?_)
        subst e_4
        refine lv_ldc2 (v := (-1)) hx hb hown (hA _ kw_60) d_Rb_decidedAt_30 ?_
        refine lv_lxor hx hb d_Rb_decidedAt_33 ?_
        refine lv_land hx hb d_Rb_decidedAt_34 ?_
        refine lv_lstore_n (lv' := [(3, .long (left &&& ((ww q j) ^^^ (-1)))), (0, .ref rb), (1, .int (nI pl)), (2, .int (nI j)), (5, .int (nI q))]) hx hb d_Rb_decidedAt_35 rfl hl (by decide) rfl (fun ls hl => ?_)
        refine lv_iinc (v := nI (q + 1)) (lv' := [(5, .int (nI (q + 1))), (3, .long (left &&& ((ww q j) ^^^ (-1)))), (0, .ref rb), (1, .int (nI pl)), (2, .int (nI j))]) hx hb d_Rb_decidedAt_36 hl (k := 4) rfl (nI_1 q) (by decide) rfl (fun ls hl => ?_)
        refine lv_goto (tgt := 10) hx hb d_Rb_decidedAt_39 (by decide) ?_
        exact ih (q + 1) (left &&& (ww q j ^^^ (-1))) ls (by omega) (hres.trans (if_neg hz)) (lv_sub hl [2, 3, 4, 1, 0] rfl)
  exact loop (pl - 0) 0 (ww pl j) ls (by omega) rfl (lv_sub hl [2, 3, 4, 1, 0] rfl)

set_option maxHeartbeats 4000000 in
set_option maxRecDepth 100000 in
/-- turnedAt -/
theorem c_Rb_tuF (l : Launch) (G : GG) (L : List Nat) (f : Nat → va_E) {rb rA n : Nat} {rad ca wa rk nu : Nat → Nat} {dn : Nat → Bool} {ww : Nat → Nat → Int64} (hB : RuB G L f rb rA n rad ca wa rk nu dn ww) (pl j : Nat) (hp_ : pl < n) (hj : j < 96) : Met l y_Rb_turnedAt (.code y_Rb_turnedAt b_Rb_turnedAt 8 (some .long) :: AW) (RM 5) (va_Pc [.ref rb, .int (nI pl), .int (nI j)] (PW G L f)) (vp_Sl (fun r => r = tuF ww dn n pl j)) 0 0 (fun _ => False) := by
  refine Met.ofW (cc := b_Rb_turnedAt) (maxL := 8) (ret := (some .long)) (by decide) rfl ?_
  intro p e s m args below meth c s₁ B hml hv
  obtain ⟨rfl, hP, hK⟩ := hv
  have hx := B.exec
  have hb := B.bytes
  have hr := B.returns
  have hA : ∀ w ∈ AW, w.before _ s = true := fun w h => atoms_spec (ws := (.code y_Rb_turnedAt b_Rb_turnedAt 8 (some .long) :: AW)) B.pre w (List.mem_cons_of_mem _ h)
  have hown : s.vm.findClass R_Rb = some m.cls := findClass_of_methodNamed B.named
  have hlocks := B.notSynchronized
  have hl := lv_entry ([.ref rb, .int (nI pl), .int (nI j)]) (n := 8) (Nat.le_of_ble_eq_true rfl)
  rw [lg_entry_eq]
  generalize (lg_sl ([.ref rb, .int (nI pl), .int (nI j)]) ++ List.replicate (8 - (lg_sl ([.ref rb, .int (nI pl), .int (nI j)])).length) Slot.unset).toArray = ls at hl ⊢
  have hl : lv_has ls 8 [(0, .ref rb), (1, .int (nI pl)), (2, .int (nI j))] := hl
  have hn := hB.1
  obtain ⟨hrk, hnu, hru, ⟨k0, k1, k2, k3, hco⟩, hwa⟩ := hB.2.2.2 pl hp_
  refine lv_aload_n hx hb d_Rb_turnedAt_0 rfl (lv_at hl 0 rfl) ?_
  refine lv_iload_n hx hb d_Rb_turnedAt_1 rfl (lv_at hl 1 rfl) ?_
  refine va_csq (va_Run.run (va_runV (As := [.int (nI pl)]) (rest := []) ⟨hx, hb, hml, hown, hA⟩ (c_Rb_at l G L f hB.2.1 hB.2.2.1 (nI pl)) ⟨callB_of 1 hA (gAW kw_47) rfl rfl rfl (hA _ kw_48) (hA _ kw_49) (by decide +kernel) ⟨Nat.le_of_ble_eq_true rfl, Nat.le_of_ble_eq_true rfl⟩, (hA _ kw_50), (hA _ kw_51)⟩ (pw_preV (ci := 3) hP hK hB.2.1 rfl) rfl rfl hl.1 rfl (lv_room (Nat.le_of_ble_eq_true rfl)) d_Rb_turnedAt_2 ⟨Nat.zero_le _, Nat.zero_le _⟩)) (fun r_1 e_2 => ?_)
  subst e_2
  refine xv_R (a := rad pl) (oAt_t (by decide) hn hp_) ?_
  refine lv_astore_n (lv' := [(3, .ref (rad pl)), (0, .ref rb), (1, .int (nI pl)), (2, .int (nI j))]) hx hb d_Rb_turnedAt_5 rfl hl (by decide) rfl (fun ls hl => ?_)
  refine lv_aload_n hx hb d_Rb_turnedAt_6 rfl (lv_at hl 0 rfl) ?_
  refine lv_ifnonnull (tgt := 12) hx hb d_Rb_turnedAt_7 (by decide) ?_
  refine lv_aload_n hx hb d_Rb_turnedAt_12 rfl (lv_at hl 1 rfl) ?_
  refine lv_iload_n hx hb d_Rb_turnedAt_13 rfl (lv_at hl 2 rfl) ?_
  refine lv_iload_n hx hb d_Rb_turnedAt_14 rfl (lv_at hl 3 rfl) ?_
  refine vp_callSl (va_Run.run (va_runV (As := [.int (nI pl), .int (nI j)]) (rest := []) ⟨hx, hb, hml, hown, hA⟩ (c_Rb_deF l G L f hB pl j hp_ hj) ⟨callB_of 2 hA (gAW kw_65) rfl rfl rfl (hA _ kw_48) (hA _ kw_66) (by decide +kernel) ⟨Nat.le_of_ble_eq_true rfl, Nat.le_of_ble_eq_true rfl⟩, (hA _ kw_67), (hA _ kw_68)⟩ (pw_preV (ci := 3) hP hK hB.2.1 rfl) rfl rfl hl.1 rfl (lv_room (Nat.le_of_ble_eq_true rfl)) d_Rb_turnedAt_15 ⟨Nat.zero_le _, Nat.zero_le _⟩)) (fun r_3 e_4 => ?_)
  subst e_4
  refine lv_lstore (lv' := [(4, .long (deF ww j pl 0 (ww pl j))), (3, .ref (rad pl)), (0, .ref rb), (1, .int (nI pl)), (2, .int (nI j))]) hx hb d_Rb_turnedAt_18 hl (by decide) rfl (fun ls hl => ?_)
  refine lv_aload_n hx hb d_Rb_turnedAt_20 rfl (lv_at hl 2 rfl) ?_
  refine lv_iload_n hx hb d_Rb_turnedAt_21 rfl (lv_at hl 3 rfl) ?_
  refine lv_iconst (v := nI 1) hx hb d_Rb_turnedAt_22 (by decide) ?_
  refine lv_iadd hx hb d_Rb_turnedAt_23 ?_
  refine xv_I (y := nI (pl + 1)) (nI_1 pl) ?_
  refine lv_lload hx hb d_Rb_turnedAt_24 (lv_at hl 0 rfl) ?_
  refine lv_iload_n hx hb d_Rb_turnedAt_26 rfl (lv_at hl 4 rfl) ?_
  refine vp_callSl (va_Run.run (va_runV (As := [.int (nI (pl + 1)), .long (deF ww j pl 0 (ww pl j)), .int (nI j)]) (rest := []) ⟨hx, hb, hml, hown, hA⟩ (c_Rb_alF l G L f hB (n - (pl + 1)) (pl + 1) (deF ww j pl 0 (ww pl j)) j (by omega) hj) ⟨callB_of 3 hA (gAW kw_69) rfl rfl rfl (hA _ kw_48) (hA _ kw_70) (by decide +kernel) ⟨Nat.le_of_ble_eq_true rfl, Nat.le_of_ble_eq_true rfl⟩, (hA _ kw_71), (hA _ kw_72)⟩ (pw_preV (ci := 3) hP hK hB.2.1 rfl) rfl rfl hl.1 rfl (lv_room (Nat.le_of_ble_eq_true rfl)) d_Rb_turnedAt_27 ⟨Nat.zero_le _, Nat.zero_le _⟩)) (fun r_5 e_6 => ?_)
  subst e_6
  refine lv_lstore (lv' := [(6, .long (alF ww dn j (n - (pl + 1)) (pl + 1) (deF ww j pl 0 (ww pl j)) 0)), (4, .long (deF ww j pl 0 (ww pl j))), (3, .ref (rad pl)), (0, .ref rb), (1, .int (nI pl)), (2, .int (nI j))]) hx hb d_Rb_turnedAt_30 hl (by decide) rfl (fun ls hl => ?_)
  refine lv_aload_n hx hb d_Rb_turnedAt_32 rfl (lv_at hl 2 rfl) ?_
  refine va_getN (D := G.1) (ci := 2) (v := .int (bI (dn pl))) (C := R_Ru) (T := T_Ru) (N := 4) hx hb hA in_Ru hown hK.1 (pl_o hP hru) 0 rfl rfl 1 (by decide) (va_Nw.use rfl (hK.2.1 _ kz_13)) (fun _ h9 => h9) rfl d_Rb_turnedAt_33 ?_
  rcases bcase (dn pl) with hd | hd
  · refine lv_if_eq (tgt := 44) hx hb d_Rb_turnedAt_36 (by decide) (fun _ => ?_) (fun c9 => absurd (by rw [hd]; rfl) c9)
    refine lv_lload hx hb d_Rb_turnedAt_44 (lv_at hl 1 rfl) ?_
    refine lv_lload hx hb d_Rb_turnedAt_46 (lv_at hl 0 rfl) ?_
    refine lv_ldc2 (v := (-1)) hx hb hown (hA _ kw_60) d_Rb_turnedAt_48 ?_
    refine lv_lxor hx hb d_Rb_turnedAt_51 ?_
    refine lv_land hx hb d_Rb_turnedAt_52 ?_
    exact W.lret (v := (deF ww j pl 0 (ww pl j)) &&& ((alF ww dn j (n - (pl + 1)) (pl + 1) (deF ww j pl 0 (ww pl j)) 0) ^^^ (-1))) hx hb hr (fun t9 h9t h9W => ⟨_, rfl, by unfold tuF; rw [hd]; rfl, h9t⟩) (fun _ h => nomatch h) d_Rb_turnedAt_53
  · refine lv_if_eq (tgt := 44) hx hb d_Rb_turnedAt_36 (by decide) (fun c9 => absurd c9 (by rw [hd]; decide)) (fun _ => ?_)
    refine lv_lload hx hb d_Rb_turnedAt_39 (lv_at hl 0 rfl) ?_
    refine lv_goto (tgt := 53) hx hb d_Rb_turnedAt_41 (by decide) ?_
    exact W.lret (v := alF ww dn j (n - (pl + 1)) (pl + 1) (deF ww j pl 0 (ww pl j)) 0) hx hb hr (fun t9 h9t h9W => ⟨_, rfl, by unfold tuF; rw [hd]; rfl, h9t⟩) (fun _ h => nomatch h) d_Rb_turnedAt_53

set_option maxHeartbeats 4000000 in
set_option maxRecDepth 100000 in
/-- idleRank -/
theorem c_Rb_idF (l : Launch) (G : GG) (L : List Nat) (f : Nat → va_E) {rb rA n : Nat} {rad ca wa rk nu : Nat → Nat} {dn : Nat → Bool} {ww : Nat → Nat → Int64} (hB : RuB G L f rb rA n rad ca wa rk nu dn ww) (tt_ : Bool) (op : Int64) (j : Nat) (hj : j < 96) : Met l y_Rb_idleRank (.code y_Rb_idleRank b_Rb_idleRank 10 (some .int) :: AW) (RM 3) (va_Pc [.ref rb, .int (bI tt_), .long op, .int (nI j)] (PW G L f)) (vp_Si (fun r => r = nI (idF ww rk dn tt_ j n 0 op 0))) 0 0 (fun _ => False) := by
  refine Met.ofW (cc := b_Rb_idleRank) (maxL := 10) (ret := (some .int)) (by decide) rfl ?_
  intro p e s m args below meth c s₁ B hml hv
  obtain ⟨rfl, hP, hK⟩ := hv
  have hx := B.exec
  have hb := B.bytes
  have hr := B.returns
  have hA : ∀ w ∈ AW, w.before _ s = true := fun w h => atoms_spec (ws := (.code y_Rb_idleRank b_Rb_idleRank 10 (some .int) :: AW)) B.pre w (List.mem_cons_of_mem _ h)
  have hown : s.vm.findClass R_Rb = some m.cls := findClass_of_methodNamed B.named
  have hlocks := B.notSynchronized
  have hl := lv_entry ([.ref rb, .int (bI tt_), .long op, .int (nI j)]) (n := 10) (Nat.le_of_ble_eq_true rfl)
  rw [lg_entry_eq]
  generalize (lg_sl ([.ref rb, .int (bI tt_), .long op, .int (nI j)]) ++ List.replicate (10 - (lg_sl ([.ref rb, .int (bI tt_), .long op, .int (nI j)])).length) Slot.unset).toArray = ls at hl ⊢
  have hl : lv_has ls 10 [(0, .ref rb), (1, .int (bI tt_)), (2, .long op), (4, .int (nI j))] := hl
  have hn := hB.1
  refine lv_lload_n hx hb d_Rb_idleRank_0 rfl (lv_at hl 2 rfl) ?_
  refine lv_lstore (lv' := [(5, .long op), (0, .ref rb), (1, .int (bI tt_)), (2, .long op), (4, .int (nI j))]) hx hb d_Rb_idleRank_1 hl (by decide) rfl (fun ls hl => ?_)
  refine lv_iconst (v := nI 0) hx hb d_Rb_idleRank_3 (by decide) ?_
  refine lv_istore (lv' := [(7, .int (nI 0)), (5, .long op), (0, .ref rb), (1, .int (bI tt_)), (2, .long op), (4, .int (nI j))]) hx hb d_Rb_idleRank_4 hl (by decide) rfl (fun ls hl => ?_)
  refine lv_iconst (v := nI 0) hx hb d_Rb_idleRank_6 (by decide) ?_
  refine lv_istore (lv' := [(8, .int (nI 0)), (7, .int (nI 0)), (5, .long op), (0, .ref rb), (1, .int (bI tt_)), (2, .long op), (4, .int (nI j))]) hx hb d_Rb_idleRank_7 hl (by decide) rfl (fun ls hl => ?_)
  have loop : ∀ (k q : Nat) (left : Int64) (rr : Nat) (ls : Array Slot), q + k = n → idF ww rk dn tt_ j n 0 op 0 = idF ww rk dn tt_ j k q left rr → lv_has ls 10 [(0, .ref rb), (1, .int (bI tt_)), (4, .int (nI j)), (5, .long left), (7, .int (nI rr)), (8, .int (nI q))] → W p l e (headSpec (.code y_Rb_idleRank b_Rb_idleRank 10 (some .int) :: AW) (RM 3)).room s m ([.ref rb, .int (bI tt_), .long op, .int (nI j)] : List Value).toArray below meth c s.heap [] 0 0 (MQ below (vp_Si (fun r => r = nI (idF ww rk dn tt_ j n 0 op 0))) ([.ref rb, .int (bI tt_), .long op, .int (nI j)] : List Value).toArray s 0 0 (fun _ => False)) (F0 m 9 ls []) := by
    intro k
    induction k with
    | zero =>
      intro q left rr ls hik hres hl
      refine lv_iload hx hb d_Rb_idleRank_9 (lv_at hl 5 rfl) ?_
      refine lv_aload_n hx hb d_Rb_idleRank_11 rfl (lv_at hl 0 rfl) ?_
      refine va_get (D := G.1) (ci := 3) (v := .int (nI n)) (C := R_Rb) (T := T_Rb) (N := 2) hx hb hA in_Rb hown hK.1 (pl_o hP hB.2.1) 0 rfl rfl 1 (by decide) (hA _ kw_59) (fun _ h9 => h9) rfl d_Rb_idleRank_12 ?_
      refine lv_icmp_ge (tgt := 68) hx hb d_Rb_idleRank_15 (by decide) (fun _ => ?_) (fun c9 => absurd (nI_le (by omega) (by omega)) c9)
      refine lv_lload hx hb d_Rb_idleRank_68 (lv_at hl 3 rfl) ?_
      refine lv_lconst (v := 0) hx hb d_Rb_idleRank_70 (by decide) ?_
      refine W.lcmp hx hb d_Rb_idleRank_71 ?_
      by_cases hz : left = 0
      · refine lv_if_ne (tgt := 80) hx hb d_Rb_idleRank_72 (by decide) (fun c9 => absurd ((lg_cmp_eq _ _).mpr hz) c9) (fun _ => ?_)
        refine lv_iload hx hb d_Rb_idleRank_75 (lv_at hl 4 rfl) ?_
        refine lv_goto (tgt := 82) hx hb d_Rb_idleRank_77 (by decide) ?_
        exact W.iret (v := nI rr) hx hb hr (fun t9 h9t h9W => ⟨_, rfl, by rw [hres]; exact (congrArg nI (if_pos hz)).symm, h9t⟩) (fun _ h => nomatch h) d_Rb_idleRank_82
      · refine lv_if_ne (tgt := 80) hx hb d_Rb_idleRank_72 (by decide) (fun _ => ?_) (fun c9 => absurd c9 (fun z => hz ((lg_cmp_eq _ _).mp z)))
        refine lv_bipush (v := nI 10) hx hb d_Rb_idleRank_80 (by decide) ?_
        exact W.iret (v := nI 10) hx hb hr (fun t9 h9t h9W => ⟨_, rfl, by rw [hres]; exact (congrArg nI (if_neg hz)).symm, h9t⟩) (fun _ h => nomatch h) d_Rb_idleRank_82
    | succ k ih =>
      intro q left rr ls hik hres hl
      refine lv_iload hx hb d_Rb_idleRank_9 (lv_at hl 5 rfl) ?_
      refine lv_aload_n hx hb d_Rb_idleRank_11 rfl (lv_at hl 0 rfl) ?_
      refine va_get (D := G.1) (ci := 3) (v := .int (nI n)) (C := R_Rb) (T := T_Rb) (N := 2) hx hb hA in_Rb hown hK.1 (pl_o hP hB.2.1) 0 rfl rfl 1 (by decide) (hA _ kw_59) (fun _ h9 => h9) rfl d_Rb_idleRank_12 ?_
      refine lv_icmp_ge (tgt := 68) hx hb d_Rb_idleRank_15 (by decide) (fun c9 => absurd c9 (nI_ge (by omega) (by omega))) (fun _ => ?_)
      refine lv_lload hx hb d_Rb_idleRank_18 (lv_at hl 3 rfl) ?_
      refine lv_lconst (v := 0) hx hb d_Rb_idleRank_20 (by decide) ?_
      refine W.lcmp hx hb d_Rb_idleRank_21 ?_
      by_cases hz : left = 0
      · refine lv_if_eq (tgt := 68) hx hb d_Rb_idleRank_22 (by decide) (fun _ => ?_) (fun c9 => absurd ((lg_cmp_eq _ _).mpr hz) c9)
        refine lv_lload hx hb d_Rb_idleRank_68 (lv_at hl 3 rfl) ?_
        refine lv_lconst (v := 0) hx hb d_Rb_idleRank_70 (by decide) ?_
        refine W.lcmp hx hb d_Rb_idleRank_71 ?_
        refine lv_if_ne (tgt := 80) hx hb d_Rb_idleRank_72 (by decide) (fun c9 => absurd ((lg_cmp_eq _ _).mpr hz) c9) (fun _ => ?_)
        refine lv_iload hx hb d_Rb_idleRank_75 (lv_at hl 4 rfl) ?_
        refine lv_goto (tgt := 82) hx hb d_Rb_idleRank_77 (by decide) ?_
        exact W.iret (v := nI rr) hx hb hr (fun t9 h9t h9W => ⟨_, rfl, by rw [hres]; exact (congrArg nI (if_pos hz)).symm, h9t⟩) (fun _ h => nomatch h) d_Rb_idleRank_82
      · refine lv_if_eq (tgt := 68) hx hb d_Rb_idleRank_22 (by decide) (fun c9 => absurd c9 (fun z => hz ((lg_cmp_eq _ _).mp z))) (fun _ => ?_)
        have hq : q < n := by omega
        obtain ⟨hrk, hnu, hru, ⟨k0, k1, k2, k3, hco⟩, hwa⟩ := hB.2.2.2 q hq
        refine lv_aload_n hx hb d_Rb_idleRank_25 rfl (lv_at hl 0 rfl) ?_
        refine lv_iload hx hb d_Rb_idleRank_26 (lv_at hl 5 rfl) ?_
        refine va_csq (va_Run.run (va_runV (As := [.int (nI q)]) (rest := []) ⟨hx, hb, hml, hown, hA⟩ (c_Rb_at l G L f hB.2.1 hB.2.2.1 (nI q)) ⟨callB_of 1 hA (gAW kw_47) rfl rfl rfl (hA _ kw_48) (hA _ kw_49) (by decide +kernel) ⟨Nat.le_of_ble_eq_true rfl, Nat.le_of_ble_eq_true rfl⟩, (hA _ kw_50), (hA _ kw_51)⟩ (pw_preV (ci := 3) hP hK hB.2.1 rfl) rfl rfl hl.1 rfl (lv_room (Nat.le_of_ble_eq_true rfl)) d_Rb_idleRank_28 ⟨Nat.zero_le _, Nat.zero_le _⟩)) (fun r_1 e_2 => ?_)
        subst e_2
        refine xv_R (a := rad q) (oAt_t (by decide) hn hq) ?_
        refine lv_astore (lv' := [(9, .ref (rad q)), (0, .ref rb), (1, .int (bI tt_)), (4, .int (nI j)), (5, .long left), (7, .int (nI rr)), (8, .int (nI q))]) hx hb d_Rb_idleRank_31 hl (by decide) rfl (fun ls hl => ?_)
        refine lv_aload hx hb d_Rb_idleRank_33 (lv_at hl 0 rfl) ?_
        refine lv_ifnull hx hb d_Rb_idleRank_35 ?_
        refine lv_aload hx hb d_Rb_idleRank_38 (lv_at hl 0 rfl) ?_
        refine lv_iload_n hx hb d_Rb_idleRank_40 rfl (lv_at hl 2 rfl) ?_
        refine vp_callSi (va_Run.run (va_runVN (As := [.int (bI tt_)]) (rest := []) ⟨hx, hb, hml, hown, hA⟩ (c_Ru_rkb l G L f hru tt_) ⟨va_cnB 1 hA (gAW kw_73) rfl rfl rfl (hK.2.1 _ kz_14) (hA _ kw_53) (by decide +kernel) ⟨Nat.le_of_ble_eq_true rfl, Nat.le_of_ble_eq_true rfl⟩, (hA _ kw_74), (hA _ kw_75)⟩ (pw_preV (ci := 2) hP hK hru rfl) rfl rfl hl.1 rfl (lv_room (Nat.le_of_ble_eq_true rfl)) d_Rb_idleRank_41 ⟨Nat.zero_le _, Nat.zero_le _⟩)) (fun r_3 e_4 => ?_)
        subst e_4
        refine lv_istore (lv' := [(7, .int (nI (rkB (rk q) (dn q) tt_))), (9, .ref (rad q)), (0, .ref rb), (1, .int (bI tt_)), (4, .int (nI j)), (5, .long left), (8, .int (nI q))]) hx hb d_Rb_idleRank_44 hl (by decide) rfl (fun ls hl => ?_)
        refine lv_lload hx hb d_Rb_idleRank_46 (lv_at hl 5 rfl) ?_
        refine lv_aload hx hb d_Rb_idleRank_48 (lv_at hl 1 rfl) ?_
        refine lv_iload hx hb d_Rb_idleRank_50 (lv_at hl 4 rfl) ?_
        refine vp_callSl (va_Run.run (va_runVN (As := [.int (nI j)]) (rest := [.long left]) ⟨hx, hb, hml, hown, hA⟩ (c_Ru_word l G L f hco hwa hru j hj) ⟨va_cnB 1 hA (gAW kw_52) rfl rfl rfl (hK.2.1 _ kz_10) (hA _ kw_53) (by decide +kernel) ⟨Nat.le_of_ble_eq_true rfl, Nat.le_of_ble_eq_true rfl⟩, (hA _ kw_54), (hA _ kw_55)⟩ (pw_preV (ci := 2) hP hK hru rfl) rfl rfl hl.1 rfl (lv_room (Nat.le_of_ble_eq_true rfl)) d_Rb_idleRank_52 ⟨Nat.zero_le _, Nat.zero_le _⟩)) (fun r_5 e_6 => ?_)
        subst e_6
        refine lv_ldc2 (v := (-1)) hx hb hown (hA _ kw_60) d_Rb_idleRank_55 ?_
        refine lv_lxor hx hb d_Rb_idleRank_58 ?_
        refine lv_land hx hb d_Rb_idleRank_59 ?_
        refine lv_lstore (lv' := [(5, .long (left &&& ((ww q j) ^^^ (-1)))), (7, .int (nI (rkB (rk q) (dn q) tt_))), (9, .ref (rad q)), (0, .ref rb), (1, .int (bI tt_)), (4, .int (nI j)), (8, .int (nI q))]) hx hb d_Rb_idleRank_60 hl (by decide) rfl (fun ls hl => ?_)
        refine lv_iinc (v := nI (q + 1)) (lv' := [(8, .int (nI (q + 1))), (5, .long (left &&& ((ww q j) ^^^ (-1)))), (7, .int (nI (rkB (rk q) (dn q) tt_))), (9, .ref (rad q)), (0, .ref rb), (1, .int (bI tt_)), (4, .int (nI j))]) hx hb d_Rb_idleRank_62 hl (k := 6) rfl (nI_1 q) (by decide) rfl (fun ls hl => ?_)
        refine lv_goto (tgt := 9) hx hb d_Rb_idleRank_65 (by decide) ?_
        exact ih (q + 1) (left &&& (ww q j ^^^ (-1))) (rkB (rk q) (dn q) tt_) ls (by omega) (hres.trans (if_neg hz)) (lv_sub hl [4, 5, 6, 1, 2, 0] rfl)
  exact loop (n - 0) 0 op 0 ls (by omega) rfl (lv_sub hl [3, 4, 6, 2, 1, 0] rfl)
