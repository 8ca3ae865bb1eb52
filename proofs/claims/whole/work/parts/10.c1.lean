set_option maxHeartbeats 4000000 in
set_option maxRecDepth 100000 in
/-- Long.bitCount -/
theorem c_bitCount (l : Launch) (G : GG) (L : List Nat) (f : Nat → va_E) (x : Int64) : Met l y_Lo_bitCount (.code y_Lo_bitCount b_Lo_bitCount 2 (some .int) :: AW) (RM 0) (va_Pc [.long x] (PW G L f)) (vp_Si (fun r => r = nI (pop x))) 0 0 (fun _ => False) := by
  refine Met.ofW (cc := b_Lo_bitCount) (maxL := 2) (ret := (some .int)) (by decide) rfl ?_
  intro p e s m args below meth c s₁ B hml hv
  obtain ⟨rfl, hP, hK⟩ := hv
  have hx := B.exec
  have hb := B.bytes
  have hr := B.returns
  have hA : ∀ w ∈ AW, w.before _ s = true := fun w h => atoms_spec (ws := (.code y_Lo_bitCount b_Lo_bitCount 2 (some .int) :: AW)) B.pre w (List.mem_cons_of_mem _ h)
  have hown : s.vm.findClass R_Lo = some m.cls := findClass_of_methodNamed B.named
  have hlocks := B.notSynchronized
  have hl := lv_entry ([.long x]) (n := 2) (Nat.le_of_ble_eq_true rfl)
  rw [lg_entry_eq]
  generalize (lg_sl ([.long x]) ++ List.replicate (2 - (lg_sl ([.long x])).length) Slot.unset).toArray = ls at hl ⊢
  have hl : lv_has ls 2 [(0, .long x)] := hl
  refine lv_lload_n hx hb d_Lo_bitCount_0 rfl (lv_at hl 0 rfl) ?_
  refine lv_lload_n hx hb d_Lo_bitCount_1 rfl (lv_at hl 0 rfl) ?_
  refine lv_iconst (v := nI 1) hx hb d_Lo_bitCount_2 (by decide) ?_
  refine lv_lushr (v := (Int64.toUInt64 x >>> (Int64.toUInt64 (Int32.toInt64 (nI 1)) &&& Int64.toUInt64 63)).toInt64) hx hb d_Lo_bitCount_3 rfl ?_
  refine lv_ldc2 (v := 6148914691236517205) hx hb hown (hA _ kw_0) d_Lo_bitCount_4 ?_
  refine lv_land hx hb d_Lo_bitCount_7 ?_
  refine lv_lsub hx hb d_Lo_bitCount_8 ?_
  refine xv_J (y := bs1 x) rfl ?_
  refine lv_lstore_n (lv' := [(0, .long (bs1 x))]) hx hb d_Lo_bitCount_9 rfl hl (by decide) rfl (fun ls hl => ?_)
  refine lv_lload_n hx hb d_Lo_bitCount_10 rfl (lv_at hl 0 rfl) ?_
  refine lv_ldc2 (v := 3689348814741910323) hx hb hown (hA _ kw_1) d_Lo_bitCount_11 ?_
  refine lv_land hx hb d_Lo_bitCount_14 ?_
  refine lv_lload_n hx hb d_Lo_bitCount_15 rfl (lv_at hl 0 rfl) ?_
  refine lv_iconst (v := nI 2) hx hb d_Lo_bitCount_16 (by decide) ?_
  refine lv_lushr (v := (Int64.toUInt64 (bs1 x) >>> (Int64.toUInt64 (Int32.toInt64 (nI 2)) &&& Int64.toUInt64 63)).toInt64) hx hb d_Lo_bitCount_17 rfl ?_
  refine lv_ldc2 (v := 3689348814741910323) hx hb hown (hA _ kw_1) d_Lo_bitCount_18 ?_
  refine lv_land hx hb d_Lo_bitCount_21 ?_
  refine lv_ladd hx hb d_Lo_bitCount_22 ?_
  refine xv_J (y := bs2 (bs1 x)) rfl ?_
  refine lv_lstore_n (lv' := [(0, .long (bs2 (bs1 x)))]) hx hb d_Lo_bitCount_23 rfl hl (by decide) rfl (fun ls hl => ?_)
  refine lv_lload_n hx hb d_Lo_bitCount_24 rfl (lv_at hl 0 rfl) ?_
  refine lv_lload_n hx hb d_Lo_bitCount_25 rfl (lv_at hl 0 rfl) ?_
  refine lv_iconst (v := nI 4) hx hb d_Lo_bitCount_26 (by decide) ?_
  refine lv_lushr (v := (Int64.toUInt64 (bs2 (bs1 x)) >>> (Int64.toUInt64 (Int32.toInt64 (nI 4)) &&& Int64.toUInt64 63)).toInt64) hx hb d_Lo_bitCount_27 rfl ?_
  refine lv_ladd hx hb d_Lo_bitCount_28 ?_
  refine lv_ldc2 (v := 1085102592571150095) hx hb hown (hA _ kw_2) d_Lo_bitCount_29 ?_
  refine lv_land hx hb d_Lo_bitCount_32 ?_
  refine xv_J (y := bs3 (bs2 (bs1 x))) rfl ?_
  refine lv_lstore_n (lv' := [(0, .long (bs3 (bs2 (bs1 x))))]) hx hb d_Lo_bitCount_33 rfl hl (by decide) rfl (fun ls hl => ?_)
  refine lv_lload_n hx hb d_Lo_bitCount_34 rfl (lv_at hl 0 rfl) ?_
  refine lv_lload_n hx hb d_Lo_bitCount_35 rfl (lv_at hl 0 rfl) ?_
  refine lv_bipush (v := nI 8) hx hb d_Lo_bitCount_36 (by decide) ?_
  refine lv_lushr (v := (Int64.toUInt64 (bs3 (bs2 (bs1 x))) >>> (Int64.toUInt64 (Int32.toInt64 (nI 8)) &&& Int64.toUInt64 63)).toInt64) hx hb d_Lo_bitCount_38 rfl ?_
  refine lv_ladd hx hb d_Lo_bitCount_39 ?_
  refine xv_J (y := bs4 (bs3 (bs2 (bs1 x)))) rfl ?_
  refine lv_lstore_n (lv' := [(0, .long (bs4 (bs3 (bs2 (bs1 x)))))]) hx hb d_Lo_bitCount_40 rfl hl (by decide) rfl (fun ls hl => ?_)
  refine lv_lload_n hx hb d_Lo_bitCount_41 rfl (lv_at hl 0 rfl) ?_
  refine lv_lload_n hx hb d_Lo_bitCount_42 rfl (lv_at hl 0 rfl) ?_
  refine lv_bipush (v := nI 16) hx hb d_Lo_bitCount_43 (by decide) ?_
  refine lv_lushr (v := (Int64.toUInt64 (bs4 (bs3 (bs2 (bs1 x)))) >>> (Int64.toUInt64 (Int32.toInt64 (nI 16)) &&& Int64.toUInt64 63)).toInt64) hx hb d_Lo_bitCount_45 rfl ?_
  refine lv_ladd hx hb d_Lo_bitCount_46 ?_
  refine xv_J (y := bs5 (bs4 (bs3 (bs2 (bs1 x))))) rfl ?_
  refine lv_lstore_n (lv' := [(0, .long (bs5 (bs4 (bs3 (bs2 (bs1 x))))))]) hx hb d_Lo_bitCount_47 rfl hl (by decide) rfl (fun ls hl => ?_)
  refine lv_lload_n hx hb d_Lo_bitCount_48 rfl (lv_at hl 0 rfl) ?_
  refine lv_lload_n hx hb d_Lo_bitCount_49 rfl (lv_at hl 0 rfl) ?_
  refine lv_bipush (v := nI 32) hx hb d_Lo_bitCount_50 (by decide) ?_
  refine lv_lushr (v := (Int64.toUInt64 (bs5 (bs4 (bs3 (bs2 (bs1 x))))) >>> (Int64.toUInt64 (Int32.toInt64 (nI 32)) &&& Int64.toUInt64 63)).toInt64) hx hb d_Lo_bitCount_52 rfl ?_
  refine lv_ladd hx hb d_Lo_bitCount_53 ?_
  refine xv_J (y := bs6 (bs5 (bs4 (bs3 (bs2 (bs1 x)))))) rfl ?_
  refine lv_lstore_n (lv' := [(0, .long (bs6 (bs5 (bs4 (bs3 (bs2 (bs1 x)))))))]) hx hb d_Lo_bitCount_54 rfl hl (by decide) rfl (fun ls hl => ?_)
  refine lv_lload_n hx hb d_Lo_bitCount_55 rfl (lv_at hl 0 rfl) ?_
  refine lv_l2i (v := Int64.toInt32 (bs6 (bs5 (bs4 (bs3 (bs2 (bs1 x))))))) hx hb d_Lo_bitCount_56 rfl ?_
  refine lv_bipush (v := nI 127) hx hb d_Lo_bitCount_57 (by decide) ?_
  refine lv_iand hx hb d_Lo_bitCount_59 ?_
  exact W.iret (v := (Int64.toInt32 (bs6 (bs5 (bs4 (bs3 (bs2 (bs1 x))))))) &&& (nI 127)) hx hb hr (fun t9 h9t h9W => ⟨_, rfl, bcI_pop x, h9t⟩) (fun _ h => nomatch h) d_Lo_bitCount_60

set_option maxHeartbeats 4000000 in
set_option maxRecDepth 100000 in
/-- isBelow -/
theorem c_isBelow (l : Launch) (G : GG) (L : List Nat) (f : Nat → va_E) (x y : Int32) : Met l y_De_isBelow (.code y_De_isBelow b_De_isBelow 2 (some .boolean) :: AW) (RM 0) (va_Pc [.int x, .int y] (PW G L f)) (vp_Si (fun r => r = bI (blw x y))) 0 0 (fun _ => False) := by
  refine Met.ofW (cc := b_De_isBelow) (maxL := 2) (ret := (some .boolean)) (by decide) rfl ?_
  intro p e s m args below meth c s₁ B hml hv
  obtain ⟨rfl, hP, hK⟩ := hv
  have hx := B.exec
  have hb := B.bytes
  have hr := B.returns
  have hA : ∀ w ∈ AW, w.before _ s = true := fun w h => atoms_spec (ws := (.code y_De_isBelow b_De_isBelow 2 (some .boolean) :: AW)) B.pre w (List.mem_cons_of_mem _ h)
  have hown : s.vm.findClass R_De = some m.cls := findClass_of_methodNamed B.named
  have hlocks := B.notSynchronized
  have hl := lv_entry ([.int x, .int y]) (n := 2) (Nat.le_of_ble_eq_true rfl)
  rw [lg_entry_eq]
  generalize (lg_sl ([.int x, .int y]) ++ List.replicate (2 - (lg_sl ([.int x, .int y])).length) Slot.unset).toArray = ls at hl ⊢
  have hl : lv_has ls 2 [(0, .int x), (1, .int y)] := hl
  refine lv_iload_n hx hb d_De_isBelow_0 rfl (lv_at hl 0 rfl) ?_
  refine lv_if_lt (tgt := 13) hx hb d_De_isBelow_1 (by decide) (fun c_1 => ?_) (fun c_1 => ?_)
  · refine lv_iconst (v := nI 0) hx hb d_De_isBelow_13 (by decide) ?_
    exact W.zret (v := nI 0) (ty := .boolean) hx hb hr (bI_nar false) (fun t9 h9t h9W => ⟨_, rfl, by rw [blw_f0 c_1]; rfl, h9t⟩) (fun _ h => nomatch h) d_De_isBelow_14
  · refine lv_iload_n hx hb d_De_isBelow_4 rfl (lv_at hl 0 rfl) ?_
    refine lv_iload_n hx hb d_De_isBelow_5 rfl (lv_at hl 1 rfl) ?_
    refine lv_icmp_ge (tgt := 13) hx hb d_De_isBelow_6 (by decide) (fun c_6 => ?_) (fun c_6 => ?_)
    · refine lv_iconst (v := nI 0) hx hb d_De_isBelow_13 (by decide) ?_
      exact W.zret (v := nI 0) (ty := .boolean) hx hb hr (bI_nar false) (fun t9 h9t h9W => ⟨_, rfl, by rw [blw_f1 (i32_nlt c_6)]; rfl, h9t⟩) (fun _ h => nomatch h) d_De_isBelow_14
    · refine lv_iconst (v := nI 1) hx hb d_De_isBelow_9 (by decide) ?_
      refine lv_goto (tgt := 14) hx hb d_De_isBelow_10 (by decide) ?_
      exact W.zret (v := nI 1) (ty := .boolean) hx hb hr (bI_nar true) (fun t9 h9t h9W => ⟨_, rfl, by rw [blw_t c_1 (i32_lt c_6)]; rfl, h9t⟩) (fun _ h => nomatch h) d_De_isBelow_14

set_option maxHeartbeats 4000000 in
set_option maxRecDepth 100000 in
/-- Condition.word -/
theorem c_Co_word (l : Launch) (G : GG) (L : List Nat) (f : Nat → va_E) {k0 k1 k2 k3 : Int32} {a aw : Nat} {ww : Nat → Int64} (hc : Lk L f a (.inr (0, [.int k0, .int k1, .int k2, .int k3, .ref aw]))) (hw : Lk L f aw (.inl (G.2 0, 96, .inr (.inl ww)))) (i : Nat) (hi : i < 96) : Met l y_Co_word (.code y_Co_word b_Co_word 2 (some .long) :: AW) (RM 1) (va_Pc [.ref a, .int (nI i)] (PW G L f)) (vp_Sl (fun r => r = ww i)) 0 0 (fun _ => False) := by
  refine Met.ofW (cc := b_Co_word) (maxL := 2) (ret := (some .long)) (by decide) rfl ?_
  intro p e s m args below meth c s₁ B hml hv
  obtain ⟨rfl, hP, hK⟩ := hv
  have hx := B.exec
  have hb := B.bytes
  have hr := B.returns
  have hA : ∀ w ∈ AW, w.before _ s = true := fun w h => atoms_spec (ws := (.code y_Co_word b_Co_word 2 (some .long) :: AW)) B.pre w (List.mem_cons_of_mem _ h)
  have hown : s.vm.findClass R_Co = some m.cls := findClass_of_methodNamed B.named
  have hlocks := B.notSynchronized
  have hl := lv_entry ([.ref a, .int (nI i)]) (n := 2) (Nat.le_of_ble_eq_true rfl)
  rw [lg_entry_eq]
  generalize (lg_sl ([.ref a, .int (nI i)]) ++ List.replicate (2 - (lg_sl ([.ref a, .int (nI i)])).length) Slot.unset).toArray = ls at hl ⊢
  have hl : lv_has ls 2 [(0, .ref a), (1, .int (nI i))] := hl
  refine lv_iload_n hx hb d_Co_word_0 rfl (lv_at hl 1 rfl) ?_
  refine lv_aload_n hx hb d_Co_word_1 rfl (lv_at hl 0 rfl) ?_
  refine va_get (D := G.1) (ci := 0) (v := .ref aw) (C := R_Co) (T := T_Co) (N := 5) hx hb hA in_Co hown hK.1 (pl_o hP hc) 0 rfl rfl 4 (by decide) (hA _ kw_3) (fun _ h9 => h9) rfl d_Co_word_2 ?_
  refine va_alen (v := nI 96) hx hb hK.1 (pl_o hP hw) 0 0 rfl rfl rfl d_Co_word_5 ?_
  refine vp_callSi (va_Run.run (va_runSN (As := [.int (nI i), .int (nI 96)]) (rest := []) ⟨hx, hb, hml, hown, hA⟩ (c_isBelow l G L f (nI i) (nI 96)) ⟨va_cnB 2 hA (gAW kw_4) rfl rfl rfl (hK.2.1 _ kz_0) (hA _ kw_5) (by decide +kernel) ⟨Nat.le_of_ble_eq_true rfl, Nat.le_of_ble_eq_true rfl⟩, (hA _ kw_6), trivial⟩ (pw_preS hP hK) rfl rfl hl.1 rfl (lv_room (Nat.le_of_ble_eq_true rfl)) d_Co_word_6 ⟨Nat.zero_le _, Nat.zero_le _⟩)) (fun r_1 e_2 => ?_)
  subst e_2
  refine lv_if_eq (tgt := 21) hx hb d_Co_word_9 (by decide) (fun c9 => absurd c9 (by rw [blw_nI (by decide) (by omega), decide_eq_true hi]; decide)) (fun _ => ?_)
  refine lv_aload_n hx hb d_Co_word_12 rfl (lv_at hl 0 rfl) ?_
  refine va_get (D := G.1) (ci := 0) (v := .ref aw) (C := R_Co) (T := T_Co) (N := 5) hx hb hA in_Co hown hK.1 (pl_o hP hc) 0 rfl rfl 4 (by decide) (hA _ kw_3) (fun _ h9 => h9) rfl d_Co_word_13 ?_
  refine lv_iload_n hx hb d_Co_word_16 rfl (lv_at hl 1 rfl) ?_
  refine xl_lald hx hb hK.1 (pl_o hP hw) 0 0 rfl rfl (i := i) hi (by decide) d_Co_word_17 ?_
  refine lv_goto (tgt := 22) hx hb d_Co_word_18 (by decide) ?_
  exact W.lret (v := ww i) hx hb hr (fun t9 h9t h9W => ⟨_, rfl, rfl, h9t⟩) (fun _ h => nomatch h) d_Co_word_22

set_option maxHeartbeats 4000000 in
set_option maxRecDepth 100000 in
/-- RightDesk$ConditionBook.at -/
theorem c_Cb_at (l : Launch) (G : GG) (L : List Nat) (f : Nat → va_E) {cb mA : Nat} {gA : Nat} {cn : Int32} {mk : Nat → Option Nat} (hcb : Lk L f cb (.inr (1, [.ref mA, .ref gA, .int cn]))) (hm : Lk L f mA (.inl (G.2 2, 60, .inr (.inr (.inr (.inr mk)))))) (x : Int32) : Met l y_Cb_at (.code y_Cb_at b_Cb_at 2 (some (.object "RightDesk$Condition")) :: AW) (RM 1) (va_Pc [.ref cb, .int x] (PW G L f)) (va_Sq (fun r => r = oAt 60 mk x)) 0 0 (fun _ => False) := by
  refine Met.ofW (cc := b_Cb_at) (maxL := 2) (ret := (some (.object "RightDesk$Condition"))) (by decide) rfl ?_
  intro p e s m args below meth c s₁ B hml hv
  obtain ⟨rfl, hP, hK⟩ := hv
  have hx := B.exec
  have hb := B.bytes
  have hr := B.returns
  have hA : ∀ w ∈ AW, w.before _ s = true := fun w h => atoms_spec (ws := (.code y_Cb_at b_Cb_at 2 (some (.object "RightDesk$Condition")) :: AW)) B.pre w (List.mem_cons_of_mem _ h)
  have hown : s.vm.findClass R_Cb = some m.cls := findClass_of_methodNamed B.named
  have hlocks := B.notSynchronized
  have hl := lv_entry ([.ref cb, .int x]) (n := 2) (Nat.le_of_ble_eq_true rfl)
  rw [lg_entry_eq]
  generalize (lg_sl ([.ref cb, .int x]) ++ List.replicate (2 - (lg_sl ([.ref cb, .int x])).length) Slot.unset).toArray = ls at hl ⊢
  have hl : lv_has ls 2 [(0, .ref cb), (1, .int x)] := hl
  by_cases hx_ : blw x (nI 60) = true
  · obtain ⟨j, hj, rfl⟩ := blw_of (by decide) hx_
    refine lv_iload_n hx hb d_Cb_at_0 rfl (lv_at hl 1 rfl) ?_
    refine lv_aload_n hx hb d_Cb_at_1 rfl (lv_at hl 0 rfl) ?_
    refine va_get (D := G.1) (ci := 1) (v := .ref mA) (C := R_Cb) (T := T_Cb) (N := 3) hx hb hA in_Cb hown hK.1 (pl_o hP hcb) 0 rfl rfl 0 (by decide) (hA _ kw_7) (fun _ h9 => h9) rfl d_Cb_at_2 ?_
    refine va_alen (v := nI 60) hx hb hK.1 (pl_o hP hm) 0 2 rfl rfl rfl d_Cb_at_5 ?_
    refine vp_callSi (va_Run.run (va_runSN (As := [.int (nI j), .int (nI 60)]) (rest := []) ⟨hx, hb, hml, hown, hA⟩ (c_isBelow l G L f (nI j) (nI 60)) ⟨va_cnB 2 hA (gAW kw_4) rfl rfl rfl (hK.2.1 _ kz_1) (hA _ kw_5) (by decide +kernel) ⟨Nat.le_of_ble_eq_true rfl, Nat.le_of_ble_eq_true rfl⟩, (hA _ kw_6), trivial⟩ (pw_preS hP hK) rfl rfl hl.1 rfl (lv_room (Nat.le_of_ble_eq_true rfl)) d_Cb_at_6 ⟨Nat.zero_le _, Nat.zero_le _⟩)) (fun r_1 e_2 => ?_)
    subst e_2
    refine lv_if_eq (tgt := 21) hx hb d_Cb_at_9 (by decide) (fun c9 => absurd c9 (by rw [hx_]; decide)) (fun _ => ?_)
    refine lv_aload_n hx hb d_Cb_at_12 rfl (lv_at hl 0 rfl) ?_
    refine va_get (D := G.1) (ci := 1) (v := .ref mA) (C := R_Cb) (T := T_Cb) (N := 3) hx hb hA in_Cb hown hK.1 (pl_o hP hcb) 0 rfl rfl 0 (by decide) (hA _ kw_7) (fun _ h9 => h9) rfl d_Cb_at_13 ?_
    refine lv_iload_n hx hb d_Cb_at_16 rfl (lv_at hl 1 rfl) ?_
    refine xl_aldq hx hb hK.1 (pl_o hP hm) 0 2 rfl rfl (i := j) hj (by decide) d_Cb_at_17 ?_
    refine lv_goto (tgt := 22) hx hb d_Cb_at_18 (by decide) ?_
    exact W.aret (v := va_rf (mk j)) hx hb hr (Or.inl ⟨_, rfl⟩) (va_rf_or _) (fun t9 h9t h9W => ⟨mk j, rfl, (oAt_nI hj (by decide)).symm, h9t⟩) (fun _ h => nomatch h) d_Cb_at_22
  · refine lv_iload_n hx hb d_Cb_at_0 rfl (lv_at hl 1 rfl) ?_
    refine lv_aload_n hx hb d_Cb_at_1 rfl (lv_at hl 0 rfl) ?_
    refine va_get (D := G.1) (ci := 1) (v := .ref mA) (C := R_Cb) (T := T_Cb) (N := 3) hx hb hA in_Cb hown hK.1 (pl_o hP hcb) 0 rfl rfl 0 (by decide) (hA _ kw_7) (fun _ h9 => h9) rfl d_Cb_at_2 ?_
    refine va_alen (v := nI 60) hx hb hK.1 (pl_o hP hm) 0 2 rfl rfl rfl d_Cb_at_5 ?_
    refine vp_callSi (va_Run.run (va_runSN (As := [.int x, .int (nI 60)]) (rest := []) ⟨hx, hb, hml, hown, hA⟩ (c_isBelow l G L f x (nI 60)) ⟨va_cnB 2 hA (gAW kw_4) rfl rfl rfl (hK.2.1 _ kz_1) (hA _ kw_5) (by decide +kernel) ⟨Nat.le_of_ble_eq_true rfl, Nat.le_of_ble_eq_true rfl⟩, (hA _ kw_6), trivial⟩ (pw_preS hP hK) rfl rfl hl.1 rfl (lv_room (Nat.le_of_ble_eq_true rfl)) d_Cb_at_6 ⟨Nat.zero_le _, Nat.zero_le _⟩)) (fun r_3 e_4 => ?_)
    subst e_4
    refine lv_if_eq (tgt := 21) hx hb d_Cb_at_9 (by decide) (fun _ => ?_) (fun c9 => absurd (bI_0.mpr (ts_f hx_)) c9)
    refine lv_null hx hb d_Cb_at_21 ?_
    exact W.aret (v := .null) hx hb hr (Or.inl ⟨_, rfl⟩) (Or.inl rfl) (fun t9 h9t h9W => ⟨none, rfl, (oAt_no (ts_f hx_)).symm, h9t⟩) (fun _ h => nomatch h) d_Cb_at_22

set_option maxHeartbeats 4000000 in
set_option maxRecDepth 100000 in
/-- RightDesk$RuleBook.at -/
theorem c_Rb_at (l : Launch) (G : GG) (L : List Nat) (f : Nat → va_E) {cb mA : Nat} {cn : Int32} {mk : Nat → Option Nat} (hcb : Lk L f cb (.inr (3, [.ref mA, .int cn]))) (hm : Lk L f mA (.inl (G.2 3, 20, .inr (.inr (.inr (.inr mk)))))) (x : Int32) : Met l y_Rb_at (.code y_Rb_at b_Rb_at 2 (some (.object "RightDesk$Rule")) :: AW) (RM 1) (va_Pc [.ref cb, .int x] (PW G L f)) (va_Sq (fun r => r = oAt 20 mk x)) 0 0 (fun _ => False) := by
  refine Met.ofW (cc := b_Rb_at) (maxL := 2) (ret := (some (.object "RightDesk$Rule"))) (by decide) rfl ?_
  intro p e s m args below meth c s₁ B hml hv
  obtain ⟨rfl, hP, hK⟩ := hv
  have hx := B.exec
  have hb := B.bytes
  have hr := B.returns
  have hA : ∀ w ∈ AW, w.before _ s = true := fun w h => atoms_spec (ws := (.code y_Rb_at b_Rb_at 2 (some (.object "RightDesk$Rule")) :: AW)) B.pre w (List.mem_cons_of_mem _ h)
  have hown : s.vm.findClass R_Rb = some m.cls := findClass_of_methodNamed B.named
  have hlocks := B.notSynchronized
  have hl := lv_entry ([.ref cb, .int x]) (n := 2) (Nat.le_of_ble_eq_true rfl)
  rw [lg_entry_eq]
  generalize (lg_sl ([.ref cb, .int x]) ++ List.replicate (2 - (lg_sl ([.ref cb, .int x])).length) Slot.unset).toArray = ls at hl ⊢
  have hl : lv_has ls 2 [(0, .ref cb), (1, .int x)] := hl
  by_cases hx_ : blw x (nI 20) = true
  · obtain ⟨j, hj, rfl⟩ := blw_of (by decide) hx_
    refine lv_iload_n hx hb d_Rb_at_0 rfl (lv_at hl 1 rfl) ?_
    refine lv_aload_n hx hb d_Rb_at_1 rfl (lv_at hl 0 rfl) ?_
    refine va_get (D := G.1) (ci := 3) (v := .ref mA) (C := R_Rb) (T := T_Rb) (N := 2) hx hb hA in_Rb hown hK.1 (pl_o hP hcb) 0 rfl rfl 0 (by decide) (hA _ kw_8) (fun _ h9 => h9) rfl d_Rb_at_2 ?_
    refine va_alen (v := nI 20) hx hb hK.1 (pl_o hP hm) 0 3 rfl rfl rfl d_Rb_at_5 ?_
    refine vp_callSi (va_Run.run (va_runSN (As := [.int (nI j), .int (nI 20)]) (rest := []) ⟨hx, hb, hml, hown, hA⟩ (c_isBelow l G L f (nI j) (nI 20)) ⟨va_cnB 2 hA (gAW kw_4) rfl rfl rfl (hK.2.1 _ kz_2) (hA _ kw_5) (by decide +kernel) ⟨Nat.le_of_ble_eq_true rfl, Nat.le_of_ble_eq_true rfl⟩, (hA _ kw_6), trivial⟩ (pw_preS hP hK) rfl rfl hl.1 rfl (lv_room (Nat.le_of_ble_eq_true rfl)) d_Rb_at_6 ⟨Nat.zero_le _, Nat.zero_le _⟩)) (fun r_1 e_2 => ?_)
    subst e_2
    refine lv_if_eq (tgt := 21) hx hb d_Rb_at_9 (by decide) (fun c9 => absurd c9 (by rw [hx_]; decide)) (fun _ => ?_)
    refine lv_aload_n hx hb d_Rb_at_12 rfl (lv_at hl 0 rfl) ?_
    refine va_get (D := G.1) (ci := 3) (v := .ref mA) (C := R_Rb) (T := T_Rb) (N := 2) hx hb hA in_Rb hown hK.1 (pl_o hP hcb) 0 rfl rfl 0 (by decide) (hA _ kw_8) (fun _ h9 => h9) rfl d_Rb_at_13 ?_
    refine lv_iload_n hx hb d_Rb_at_16 rfl (lv_at hl 1 rfl) ?_
    refine xl_aldq hx hb hK.1 (pl_o hP hm) 0 3 rfl rfl (i := j) hj (by decide) d_Rb_at_17 ?_
    refine lv_goto (tgt := 22) hx hb d_Rb_at_18 (by decide) ?_
    exact W.aret (v := va_rf (mk j)) hx hb hr (Or.inl ⟨_, rfl⟩) (va_rf_or _) (fun t9 h9t h9W => ⟨mk j, rfl, (oAt_nI hj (by decide)).symm, h9t⟩) (fun _ h => nomatch h) d_Rb_at_22
  · refine lv_iload_n hx hb d_Rb_at_0 rfl (lv_at hl 1 rfl) ?_
    refine lv_aload_n hx hb d_Rb_at_1 rfl (lv_at hl 0 rfl) ?_
    refine va_get (D := G.1) (ci := 3) (v := .ref mA) (C := R_Rb) (T := T_Rb) (N := 2) hx hb hA in_Rb hown hK.1 (pl_o hP hcb) 0 rfl rfl 0 (by decide) (hA _ kw_8) (fun _ h9 => h9) rfl d_Rb_at_2 ?_
    refine va_alen (v := nI 20) hx hb hK.1 (pl_o hP hm) 0 3 rfl rfl rfl d_Rb_at_5 ?_
    refine vp_callSi (va_Run.run (va_runSN (As := [.int x, .int (nI 20)]) (rest := []) ⟨hx, hb, hml, hown, hA⟩ (c_isBelow l G L f x (nI 20)) ⟨va_cnB 2 hA (gAW kw_4) rfl rfl rfl (hK.2.1 _ kz_2) (hA _ kw_5) (by decide +kernel) ⟨Nat.le_of_ble_eq_true rfl, Nat.le_of_ble_eq_true rfl⟩, (hA _ kw_6), trivial⟩ (pw_preS hP hK) rfl rfl hl.1 rfl (lv_room (Nat.le_of_ble_eq_true rfl)) d_Rb_at_6 ⟨Nat.zero_le _, Nat.zero_le _⟩)) (fun r_3 e_4 => ?_)
    subst e_4
    refine lv_if_eq (tgt := 21) hx hb d_Rb_at_9 (by decide) (fun _ => ?_) (fun c9 => absurd (bI_0.mpr (ts_f hx_)) c9)
    refine lv_null hx hb d_Rb_at_21 ?_
    exact W.aret (v := .null) hx hb hr (Or.inl ⟨_, rfl⟩) (Or.inl rfl) (fun t9 h9t h9W => ⟨none, rfl, (oAt_no (ts_f hx_)).symm, h9t⟩) (fun _ h => nomatch h) d_Rb_at_22

set_option maxHeartbeats 4000000 in
set_option maxRecDepth 100000 in
/-- Rule.word -/
theorem c_Ru_word (l : Launch) (G : GG) (L : List Nat) (f : Nat → va_E) {k0 k1 k2 k3 : Int32} {a aw : Nat} {ww : Nat → Int64} (hc : Lk L f a (.inr (0, [.int k0, .int k1, .int k2, .int k3, .ref aw]))) (hw : Lk L f aw (.inl (G.2 0, 96, .inr (.inl ww)))) {q : Nat} {rk dn no : Int32} (hq : Lk L f q (.inr (2, [.int rk, .int dn, .ref a, .int no])))  (i : Nat) (hi : i < 96) : Met l y_Ru_word (.code y_Ru_word b_Ru_word 2 (some .long) :: AW) (RM 2) (va_Pc [.ref q, .int (nI i)] (PW G L f)) (vp_Sl (fun r => r = ww i)) 0 0 (fun _ => False) := by
  refine Met.ofW (cc := b_Ru_word) (maxL := 2) (ret := (some .long)) (by decide) rfl ?_
  intro p e s m args below meth c s₁ B hml hv
  obtain ⟨rfl, hP, hK⟩ := hv
  have hx := B.exec
  have hb := B.bytes
  have hr := B.returns
  have hA : ∀ w ∈ AW, w.before _ s = true := fun w h => atoms_spec (ws := (.code y_Ru_word b_Ru_word 2 (some .long) :: AW)) B.pre w (List.mem_cons_of_mem _ h)
  have hown : s.vm.findClass R_Ru = some m.cls := findClass_of_methodNamed B.named
  have hlocks := B.notSynchronized
  have hl := lv_entry ([.ref q, .int (nI i)]) (n := 2) (Nat.le_of_ble_eq_true rfl)
  rw [lg_entry_eq]
  generalize (lg_sl ([.ref q, .int (nI i)]) ++ List.replicate (2 - (lg_sl ([.ref q, .int (nI i)])).length) Slot.unset).toArray = ls at hl ⊢
  have hl : lv_has ls 2 [(0, .ref q), (1, .int (nI i))] := hl
  refine lv_aload_n hx hb d_Ru_word_0 rfl (lv_at hl 0 rfl) ?_
  refine va_get (D := G.1) (ci := 2) (v := .ref a) (C := R_Ru) (T := T_Ru) (N := 4) hx hb hA in_Ru hown hK.1 (pl_o hP hq) 0 rfl rfl 2 (by decide) (hA _ kw_9) (fun _ h9 => h9) rfl d_Ru_word_1 ?_
  refine lv_iload_n hx hb d_Ru_word_4 rfl (lv_at hl 1 rfl) ?_
  refine vp_callSl (va_Run.run (va_runVN (As := [.int (nI i)]) (rest := []) ⟨hx, hb, hml, hown, hA⟩ (c_Co_word l G L f hc hw i hi) ⟨va_cnB 1 hA (gAW kw_10) rfl rfl rfl (hK.2.1 _ kz_3) (hA _ kw_11) (by decide +kernel) ⟨Nat.le_of_ble_eq_true rfl, Nat.le_of_ble_eq_true rfl⟩, (hA _ kw_12), (hA _ kw_13)⟩ (pw_preV (ci := 0) hP hK hc rfl) rfl rfl hl.1 rfl (lv_room (Nat.le_of_ble_eq_true rfl)) d_Ru_word_5 ⟨Nat.zero_le _, Nat.zero_le _⟩)) (fun r_1 e_2 => ?_)
  subst e_2
  exact W.lret (v := ww i) hx hb hr (fun t9 h9t h9W => ⟨_, rfl, rfl, h9t⟩) (fun _ h => nomatch h) d_Ru_word_8

set_option maxHeartbeats 4000000 in
set_option maxRecDepth 100000 in
/-- Rule.goesBefore -/
theorem c_Ru_gob (l : Launch) (G : GG) (L : List Nat) (f : Nat → va_E) {q1 q2 r1 r2 a1 a2 : Nat} {d1 d2 : Bool} {n1 n2 : Int32} (h1 : Lk L f q1 (.inr (2, [.int (nI r1), .int (bI d1), .ref a1, .int n1]))) (h2 : Lk L f q2 (.inr (2, [.int (nI r2), .int (bI d2), .ref a2, .int n2]))) (hr1 : r1 < 10) (hr2 : r2 < 10) : Met l y_Ru_goesBefore (.code y_Ru_goesBefore b_Ru_goesBefore 2 (some .boolean) :: AW) (RM 0) (va_Pc [.ref q1, .ref q2] (PW G L f)) (vp_Si (fun r => r = bI (gob r1 d1 r2 d2))) 0 0 (fun _ => False) := by
  refine Met.ofW (cc := b_Ru_goesBefore) (maxL := 2) (ret := (some .boolean)) (by decide) rfl ?_
  intro p e s m args below meth c s₁ B hml hv
  obtain ⟨rfl, hP, hK⟩ := hv
  have hx := B.exec
  have hb := B.bytes
  have hr := B.returns
  have hA : ∀ w ∈ AW, w.before _ s = true := fun w h => atoms_spec (ws := (.code y_Ru_goesBefore b_Ru_goesBefore 2 (some .boolean) :: AW)) B.pre w (List.mem_cons_of_mem _ h)
  have hown : s.vm.findClass R_Ru = some m.cls := findClass_of_methodNamed B.named
  have hlocks := B.notSynchronized
  have hl := lv_entry ([.ref q1, .ref q2]) (n := 2) (Nat.le_of_ble_eq_true rfl)
  rw [lg_entry_eq]
  generalize (lg_sl ([.ref q1, .ref q2]) ++ List.replicate (2 - (lg_sl ([.ref q1, .ref q2])).length) Slot.unset).toArray = ls at hl ⊢
  have hl : lv_has ls 2 [(0, .ref q1), (1, .ref q2)] := hl
  by_cases hlt : r1 < r2
  · refine lv_aload_n hx hb d_Ru_goesBefore_0 rfl (lv_at hl 0 rfl) ?_
    refine va_get (D := G.1) (ci := 2) (v := .int (nI r1)) (C := R_Ru) (T := T_Ru) (N := 4) hx hb hA in_Ru hown hK.1 (pl_o hP h1) 0 rfl rfl 0 (by decide) (hA _ kw_14) (fun _ h9 => h9) rfl d_Ru_goesBefore_1 ?_
    refine lv_aload_n hx hb d_Ru_goesBefore_4 rfl (lv_at hl 1 rfl) ?_
    refine va_get (D := G.1) (ci := 2) (v := .int (nI r2)) (C := R_Ru) (T := T_Ru) (N := 4) hx hb hA in_Ru hown hK.1 (pl_o hP h2) 0 rfl rfl 0 (by decide) (hA _ kw_14) (fun _ h9 => h9) rfl d_Ru_goesBefore_5 ?_
    refine lv_icmp_lt (tgt := 36) hx hb d_Ru_goesBefore_8 (by decide) (fun _ => ?_) (fun c9 => absurd (nI_lt hlt (by omega)) c9)
    refine lv_iconst (v := nI 1) hx hb d_Ru_goesBefore_36 (by decide) ?_
    refine lv_goto (tgt := 41) hx hb d_Ru_goesBefore_37 (by decide) ?_
    exact W.zret (v := nI 1) (ty := .boolean) hx hb hr (bI_nar true) (fun t9 h9t h9W => ⟨_, rfl, by unfold gob; rw [decide_eq_true hlt]; rfl, h9t⟩) (fun _ h => nomatch h) d_Ru_goesBefore_41
  · refine lv_aload_n hx hb d_Ru_goesBefore_0 rfl (lv_at hl 0 rfl) ?_
    refine va_get (D := G.1) (ci := 2) (v := .int (nI r1)) (C := R_Ru) (T := T_Ru) (N := 4) hx hb hA in_Ru hown hK.1 (pl_o hP h1) 0 rfl rfl 0 (by decide) (hA _ kw_14) (fun _ h9 => h9) rfl d_Ru_goesBefore_1 ?_
    refine lv_aload_n hx hb d_Ru_goesBefore_4 rfl (lv_at hl 1 rfl) ?_
    refine va_get (D := G.1) (ci := 2) (v := .int (nI r2)) (C := R_Ru) (T := T_Ru) (N := 4) hx hb hA in_Ru hown hK.1 (pl_o hP h2) 0 rfl rfl 0 (by decide) (hA _ kw_14) (fun _ h9 => h9) rfl d_Ru_goesBefore_5 ?_
    refine lv_icmp_lt (tgt := 36) hx hb d_Ru_goesBefore_8 (by decide) (fun c9 => absurd c9 (nI_nlt (by omega) (by omega))) (fun _ => ?_)
    by_cases hne : r1 = r2
    · obtain rfl : r1 = r2 := hne
      refine lv_aload_n hx hb d_Ru_goesBefore_11 rfl (lv_at hl 0 rfl) ?_
      refine va_get (D := G.1) (ci := 2) (v := .int (nI r1)) (C := R_Ru) (T := T_Ru) (N := 4) hx hb hA in_Ru hown hK.1 (pl_o hP h1) 0 rfl rfl 0 (by decide) (hA _ kw_14) (fun _ h9 => h9) rfl d_Ru_goesBefore_12 ?_
      refine lv_aload_n hx hb d_Ru_goesBefore_15 rfl (lv_at hl 1 rfl) ?_
      refine va_get (D := G.1) (ci := 2) (v := .int (nI r1)) (C := R_Ru) (T := T_Ru) (N := 4) hx hb hA in_Ru hown hK.1 (pl_o hP h2) 0 rfl rfl 0 (by decide) (hA _ kw_14) (fun _ h9 => h9) rfl d_Ru_goesBefore_16 ?_
      refine lv_icmp_ne (tgt := 40) hx hb d_Ru_goesBefore_19 (by decide) (fun c9 => absurd rfl c9) (fun _ => ?_)
      cases d1
      · refine lv_aload_n hx hb d_Ru_goesBefore_22 rfl (lv_at hl 0 rfl) ?_
        refine va_get (D := G.1) (ci := 2) (v := .int (bI false)) (C := R_Ru) (T := T_Ru) (N := 4) hx hb hA in_Ru hown hK.1 (pl_o hP h1) 0 rfl rfl 1 (by decide) (hA _ kw_15) (fun _ h9 => h9) rfl d_Ru_goesBefore_23 ?_
        refine lv_if_eq (tgt := 40) hx hb d_Ru_goesBefore_26 (by decide) (fun _ => ?_) (fun c9 => absurd rfl c9)
        refine lv_iconst (v := nI 0) hx hb d_Ru_goesBefore_40 (by decide) ?_
        exact W.zret (v := nI 0) (ty := .boolean) hx hb hr (bI_nar false) (fun t9 h9t h9W => ⟨_, rfl, by unfold gob; rw [decide_eq_false hlt, decide_eq_true rfl]; rfl, h9t⟩) (fun _ h => nomatch h) d_Ru_goesBefore_41
      · refine lv_aload_n hx hb d_Ru_goesBefore_22 rfl (lv_at hl 0 rfl) ?_
        refine va_get (D := G.1) (ci := 2) (v := .int (bI true)) (C := R_Ru) (T := T_Ru) (N := 4) hx hb hA in_Ru hown hK.1 (pl_o hP h1) 0 rfl rfl 1 (by decide) (hA _ kw_15) (fun _ h9 => h9) rfl d_Ru_goesBefore_23 ?_
        refine lv_if_eq (tgt := 40) hx hb d_Ru_goesBefore_26 (by decide) (fun c9 => absurd c9 (by decide)) (fun _ => ?_)
        cases d2
        · refine lv_aload_n hx hb d_Ru_goesBefore_29 rfl (lv_at hl 1 rfl) ?_
          refine va_get (D := G.1) (ci := 2) (v := .int (bI false)) (C := R_Ru) (T := T_Ru) (N := 4) hx hb hA in_Ru hown hK.1 (pl_o hP h2) 0 rfl rfl 1 (by decide) (hA _ kw_15) (fun _ h9 => h9) rfl d_Ru_goesBefore_30 ?_
          refine lv_if_ne (tgt := 40) hx hb d_Ru_goesBefore_33 (by decide) (fun c9 => absurd rfl c9) (fun _ => ?_)
          refine lv_iconst (v := nI 1) hx hb d_Ru_goesBefore_36 (by decide) ?_
          refine lv_goto (tgt := 41) hx hb d_Ru_goesBefore_37 (by decide) ?_
          exact W.zret (v := nI 1) (ty := .boolean) hx hb hr (bI_nar true) (fun t9 h9t h9W => ⟨_, rfl, by unfold gob; rw [decide_eq_false hlt, decide_eq_true rfl]; rfl, h9t⟩) (fun _ h => nomatch h) d_Ru_goesBefore_41
        · refine lv_aload_n hx hb d_Ru_goesBefore_29 rfl (lv_at hl 1 rfl) ?_
          refine va_get (D := G.1) (ci := 2) (v := .int (bI true)) (C := R_Ru) (T := T_Ru) (N := 4) hx hb hA in_Ru hown hK.1 (pl_o hP h2) 0 rfl rfl 1 (by decide) (hA _ kw_15) (fun _ h9 => h9) rfl d_Ru_goesBefore_30 ?_
          refine lv_if_ne (tgt := 40) hx hb d_Ru_goesBefore_33 (by decide) (fun _ => ?_) (fun c9 => absurd c9 (by decide))
          refine lv_iconst (v := nI 0) hx hb d_Ru_goesBefore_40 (by decide) ?_
          exact W.zret (v := nI 0) (ty := .boolean) hx hb hr (bI_nar false) (fun t9 h9t h9W => ⟨_, rfl, by unfold gob; rw [decide_eq_false hlt, decide_eq_true rfl]; rfl, h9t⟩) (fun _ h => nomatch h) d_Ru_goesBefore_41
    · refine lv_aload_n hx hb d_Ru_goesBefore_11 rfl (lv_at hl 0 rfl) ?_
      refine va_get (D := G.1) (ci := 2) (v := .int (nI r1)) (C := R_Ru) (T := T_Ru) (N := 4) hx hb hA in_Ru hown hK.1 (pl_o hP h1) 0 rfl rfl 0 (by decide) (hA _ kw_14) (fun _ h9 => h9) rfl d_Ru_goesBefore_12 ?_
      refine lv_aload_n hx hb d_Ru_goesBefore_15 rfl (lv_at hl 1 rfl) ?_
      refine va_get (D := G.1) (ci := 2) (v := .int (nI r2)) (C := R_Ru) (T := T_Ru) (N := 4) hx hb hA in_Ru hown hK.1 (pl_o hP h2) 0 rfl rfl 0 (by decide) (hA _ kw_14) (fun _ h9 => h9) rfl d_Ru_goesBefore_16 ?_
      refine lv_icmp_ne (tgt := 40) hx hb d_Ru_goesBefore_19 (by decide) (fun _ => ?_) (fun c9 => absurd c9 (fun q => hne ((nI_eq (by omega) (by omega)).mp q)))
      refine lv_iconst (v := nI 0) hx hb d_Ru_goesBefore_40 (by decide) ?_
      exact W.zret (v := nI 0) (ty := .boolean) hx hb hr (bI_nar false) (fun t9 h9t h9W => ⟨_, rfl, by unfold gob; rw [decide_eq_false hlt, decide_eq_false hne]; rfl, h9t⟩) (fun _ h => nomatch h) d_Ru_goesBefore_41

set_option maxHeartbeats 4000000 in
set_option maxRecDepth 100000 in
/-- Rule.rankBehind -/
theorem c_Ru_rkb (l : Launch) (G : GG) (L : List Nat) (f : Nat → va_E) {q1 r1 a1 : Nat} {d1 : Bool} {n1 : Int32} (h1 : Lk L f q1 (.inr (2, [.int (nI r1), .int (bI d1), .ref a1, .int n1]))) (tt_ : Bool) : Met l y_Ru_rankBehind (.code y_Ru_rankBehind b_Ru_rankBehind 2 (some .int) :: AW) (RM 0) (va_Pc [.ref q1, .int (bI tt_)] (PW G L f)) (vp_Si (fun r => r = nI (rkB r1 d1 tt_))) 0 0 (fun _ => False) := by
  refine Met.ofW (cc := b_Ru_rankBehind) (maxL := 2) (ret := (some .int)) (by decide) rfl ?_
  intro p e s m args below meth c s₁ B hml hv
  obtain ⟨rfl, hP, hK⟩ := hv
  have hx := B.exec
  have hb := B.bytes
  have hr := B.returns
  have hA : ∀ w ∈ AW, w.before _ s = true := fun w h => atoms_spec (ws := (.code y_Ru_rankBehind b_Ru_rankBehind 2 (some .int) :: AW)) B.pre w (List.mem_cons_of_mem _ h)
  have hown : s.vm.findClass R_Ru = some m.cls := findClass_of_methodNamed B.named
  have hlocks := B.notSynchronized
  have hl := lv_entry ([.ref q1, .int (bI tt_)]) (n := 2) (Nat.le_of_ble_eq_true rfl)
  rw [lg_entry_eq]
  generalize (lg_sl ([.ref q1, .int (bI tt_)]) ++ List.replicate (2 - (lg_sl ([.ref q1, .int (bI tt_)])).length) Slot.unset).toArray = ls at hl ⊢
  have hl : lv_has ls 2 [(0, .ref q1), (1, .int (bI tt_))] := hl
  cases tt_
  · refine lv_iload_n hx hb d_Ru_rankBehind_0 rfl (lv_at hl 1 rfl) ?_
    refine lv_if_eq (tgt := 20) hx hb d_Ru_rankBehind_1 (by decide) (fun _ => ?_) (fun c9 => absurd rfl c9)
    refine lv_aload_n hx hb d_Ru_rankBehind_20 rfl (lv_at hl 0 rfl) ?_
    refine va_get (D := G.1) (ci := 2) (v := .int (nI r1)) (C := R_Ru) (T := T_Ru) (N := 4) hx hb hA in_Ru hown hK.1 (pl_o hP h1) 0 rfl rfl 0 (by decide) (hA _ kw_14) (fun _ h9 => h9) rfl d_Ru_rankBehind_21 ?_
    exact W.iret (v := nI r1) hx hb hr (fun t9 h9t h9W => ⟨_, rfl, rfl, h9t⟩) (fun _ h => nomatch h) d_Ru_rankBehind_24
  · refine lv_iload_n hx hb d_Ru_rankBehind_0 rfl (lv_at hl 1 rfl) ?_
    refine lv_if_eq (tgt := 20) hx hb d_Ru_rankBehind_1 (by decide) (fun c9 => absurd c9 (by decide)) (fun _ => ?_)
    cases d1
    · refine lv_aload_n hx hb d_Ru_rankBehind_4 rfl (lv_at hl 0 rfl) ?_
      refine va_get (D := G.1) (ci := 2) (v := .int (bI false)) (C := R_Ru) (T := T_Ru) (N := 4) hx hb hA in_Ru hown hK.1 (pl_o hP h1) 0 rfl rfl 1 (by decide) (hA _ kw_15) (fun _ h9 => h9) rfl d_Ru_rankBehind_5 ?_
      refine lv_if_ne (tgt := 20) hx hb d_Ru_rankBehind_8 (by decide) (fun c9 => absurd rfl c9) (fun _ => ?_)
      refine lv_aload_n hx hb d_Ru_rankBehind_11 rfl (lv_at hl 0 rfl) ?_
      refine va_get (D := G.1) (ci := 2) (v := .int (nI r1)) (C := R_Ru) (T := T_Ru) (N := 4) hx hb hA in_Ru hown hK.1 (pl_o hP h1) 0 rfl rfl 0 (by decide) (hA _ kw_14) (fun _ h9 => h9) rfl d_Ru_rankBehind_12 ?_
      refine lv_iconst (v := nI 1) hx hb d_Ru_rankBehind_15 (by decide) ?_
      refine lv_iadd hx hb d_Ru_rankBehind_16 ?_
      refine xv_I (y := nI (r1 + 1)) (nI_1 r1) ?_
      refine lv_goto (tgt := 24) hx hb d_Ru_rankBehind_17 (by decide) ?_
      exact W.iret (v := nI (r1 + 1)) hx hb hr (fun t9 h9t h9W => ⟨_, rfl, rfl, h9t⟩) (fun _ h => nomatch h) d_Ru_rankBehind_24
    · refine lv_aload_n hx hb d_Ru_rankBehind_4 rfl (lv_at hl 0 rfl) ?_
      refine va_get (D := G.1) (ci := 2) (v := .int (bI true)) (C := R_Ru) (T := T_Ru) (N := 4) hx hb hA in_Ru hown hK.1 (pl_o hP h1) 0 rfl rfl 1 (by decide) (hA _ kw_15) (fun _ h9 => h9) rfl d_Ru_rankBehind_5 ?_
      refine lv_if_ne (tgt := 20) hx hb d_Ru_rankBehind_8 (by decide) (fun _ => ?_) (fun c9 => absurd c9 (by decide))
      refine lv_aload_n hx hb d_Ru_rankBehind_20 rfl (lv_at hl 0 rfl) ?_
      refine va_get (D := G.1) (ci := 2) (v := .int (nI r1)) (C := R_Ru) (T := T_Ru) (N := 4) hx hb hA in_Ru hown hK.1 (pl_o hP h1) 0 rfl rfl 0 (by decide) (hA _ kw_14) (fun _ h9 => h9) rfl d_Ru_rankBehind_21 ?_
      exact W.iret (v := nI r1) hx hb hr (fun t9 h9t h9W => ⟨_, rfl, rfl, h9t⟩) (fun _ h => nomatch h) d_Ru_rankBehind_24

set_option maxHeartbeats 4000000 in
set_option maxRecDepth 100000 in
/-- twoOfThree -/
theorem c_Cb_two3 (l : Launch) (G : GG) (L : List Nat) (f : Nat → va_E) (x y z : Int64) : Met l y_Cb_twoOfThree (.code y_Cb_twoOfThree b_Cb_twoOfThree 6 (some .long) :: AW) (RM 0) (va_Pc [.long x, .long y, .long z] (PW G L f)) (vp_Sl (fun r => r = two3 x y z)) 0 0 (fun _ => False) := by
  refine Met.ofW (cc := b_Cb_twoOfThree) (maxL := 6) (ret := (some .long)) (by decide) rfl ?_
  intro p e s m args below meth c s₁ B hml hv
  obtain ⟨rfl, hP, hK⟩ := hv
  have hx := B.exec
  have hb := B.bytes
  have hr := B.returns
  have hA : ∀ w ∈ AW, w.before _ s = true := fun w h => atoms_spec (ws := (.code y_Cb_twoOfThree b_Cb_twoOfThree 6 (some .long) :: AW)) B.pre w (List.mem_cons_of_mem _ h)
  have hown : s.vm.findClass R_Cb = some m.cls := findClass_of_methodNamed B.named
  have hlocks := B.notSynchronized
  have hl := lv_entry ([.long x, .long y, .long z]) (n := 6) (Nat.le_of_ble_eq_true rfl)
  rw [lg_entry_eq]
  generalize (lg_sl ([.long x, .long y, .long z]) ++ List.replicate (6 - (lg_sl ([.long x, .long y, .long z])).length) Slot.unset).toArray = ls at hl ⊢
  have hl : lv_has ls 6 [(0, .long x), (2, .long y), (4, .long z)] := hl
  refine lv_lload_n hx hb d_Cb_twoOfThree_0 rfl (lv_at hl 0 rfl) ?_
  refine lv_lload_n hx hb d_Cb_twoOfThree_1 rfl (lv_at hl 1 rfl) ?_
  refine lv_land hx hb d_Cb_twoOfThree_2 ?_
  refine lv_lload_n hx hb d_Cb_twoOfThree_3 rfl (lv_at hl 0 rfl) ?_
  refine lv_lload hx hb d_Cb_twoOfThree_4 (lv_at hl 2 rfl) ?_
  refine lv_land hx hb d_Cb_twoOfThree_6 ?_
  refine lv_lor hx hb d_Cb_twoOfThree_7 ?_
  refine lv_lload_n hx hb d_Cb_twoOfThree_8 rfl (lv_at hl 1 rfl) ?_
  refine lv_lload hx hb d_Cb_twoOfThree_9 (lv_at hl 2 rfl) ?_
  refine lv_land hx hb d_Cb_twoOfThree_11 ?_
  refine lv_lor hx hb d_Cb_twoOfThree_12 ?_
  exact W.lret (v := ((x &&& y) ||| (x &&& z)) ||| (y &&& z)) hx hb hr (fun t9 h9t h9W => ⟨_, rfl, rfl, h9t⟩) (fun _ h => nomatch h) d_Cb_twoOfThree_13

set_option maxHeartbeats 4000000 in
set_option maxRecDepth 100000 in
/-- predicateIn -/
theorem c_Cb_pr (l : Launch) (G : GG) (L : List Nat) (f : Nat → va_E) (u v : Nat) (hu : u < 96) (hv_ : v < 6) : Met l y_Cb_predicateIn (.code y_Cb_predicateIn b_Cb_predicateIn 2 (some .long) :: AW) (RM 0) (va_Pc [.int (nI u), .int (nI v)] (PW G L f)) (vp_Sl (fun r => r = prW u v)) 0 0 (fun _ => False) := by
  refine Met.ofW (cc := b_Cb_predicateIn) (maxL := 2) (ret := (some .long)) (by decide) rfl ?_
  intro p e s m args below meth c s₁ B hml hv
  obtain ⟨rfl, hP, hK⟩ := hv
  have hx := B.exec
  have hb := B.bytes
  have hr := B.returns
  have hA : ∀ w ∈ AW, w.before _ s = true := fun w h => atoms_spec (ws := (.code y_Cb_predicateIn b_Cb_predicateIn 2 (some .long) :: AW)) B.pre w (List.mem_cons_of_mem _ h)
  have hown : s.vm.findClass R_Cb = some m.cls := findClass_of_methodNamed B.named
  have hlocks := B.notSynchronized
  have hl := lv_entry ([.int (nI u), .int (nI v)]) (n := 2) (Nat.le_of_ble_eq_true rfl)
  rw [lg_entry_eq]
  generalize (lg_sl ([.int (nI u), .int (nI v)]) ++ List.replicate (2 - (lg_sl ([.int (nI u), .int (nI v)])).length) Slot.unset).toArray = ls at hl ⊢
  have hl : lv_has ls 2 [(0, .int (nI u)), (1, .int (nI v))] := hl
  refine lv_iload_n hx hb d_Cb_predicateIn_0 rfl (lv_at hl 0 rfl) ?_
  refine lv_iconst (v := nI 3) hx hb d_Cb_predicateIn_1 (by decide) ?_
  refine lv_irem hx hb d_Cb_predicateIn_2 (by decide) ?_
  refine xv_I (y := nI (u % 3)) (pk_rem (by omega) (by decide) (by decide)) ?_
  refine lv_iload_n hx hb d_Cb_predicateIn_3 rfl (lv_at hl 1 rfl) ?_
  refine lv_iconst (v := nI 2) hx hb d_Cb_predicateIn_4 (by decide) ?_
  refine lv_idiv hx hb d_Cb_predicateIn_5 (by decide) ?_
  refine xv_I (y := nI (v / 2)) (pk_div (by omega) (by decide) (by decide)) ?_
  by_cases he : u % 3 = v / 2
  · refine lv_icmp_eq (tgt := 11) hx hb d_Cb_predicateIn_6 (by decide) (fun _ => ?_) (fun c9 => absurd (congrArg nI he) c9)
    refine lv_ldc2 (v := 4294967295) hx hb hown (hA _ kw_16) d_Cb_predicateIn_11 ?_
    refine lv_iload_n hx hb d_Cb_predicateIn_14 rfl (lv_at hl 1 rfl) ?_
    refine lv_iconst (v := nI 2) hx hb d_Cb_predicateIn_15 (by decide) ?_
    refine lv_irem hx hb d_Cb_predicateIn_16 (by decide) ?_
    refine xv_I (y := nI (v % 2)) (pk_rem (by omega) (by decide) (by decide)) ?_
    refine lv_iconst (v := nI 4) hx hb d_Cb_predicateIn_17 (by decide) ?_
    refine lv_imul hx hb d_Cb_predicateIn_18 ?_
    refine xv_I (y := nI (v % 2 * 4)) (pk_mul _ _) ?_
    refine lv_bipush (v := nI 8) hx hb d_Cb_predicateIn_19 (by decide) ?_
    refine lv_imul hx hb d_Cb_predicateIn_21 ?_
    refine xv_I (y := nI (v % 2 * 4 * 8)) (pk_mul _ _) ?_
    refine lv_lshl (v := 4294967295 <<< (Int32.toInt64 (nI (v % 2 * 4 * 8)) &&& 63)) hx hb d_Cb_predicateIn_22 rfl ?_
    exact W.lret (v := 4294967295 <<< (Int32.toInt64 (nI (v % 2 * 4 * 8)) &&& 63)) hx hb hr (fun t9 h9t h9W => ⟨_, rfl, by unfold prW; rw [if_pos he]; rfl, h9t⟩) (fun _ h => nomatch h) d_Cb_predicateIn_23
  · refine lv_icmp_eq (tgt := 11) hx hb d_Cb_predicateIn_6 (by decide) (fun c9 => absurd c9 (fun q => he ((nI_eq (by omega) (by omega)).mp q))) (fun _ => ?_)
    refine lv_lconst (v := 0) hx hb d_Cb_predicateIn_9 (by decide) ?_
    exact W.lret (v := 0) hx hb hr (fun t9 h9t h9W => ⟨_, rfl, by unfold prW; rw [if_neg he], h9t⟩) (fun _ h => nomatch h) d_Cb_predicateIn_10

set_option maxHeartbeats 4000000 in
set_option maxRecDepth 100000 in
/-- versionsFromTo -/
theorem c_De_vf (l : Launch) (G : GG) (L : List Nat) (f : Nat → va_E) (u v : Nat) (hu : u < 8) (hv_ : v < 8) : Met l y_De_versionsFromTo (.code y_De_versionsFromTo b_De_versionsFromTo 5 (some .long) :: AW) (RM 0) (va_Pc [.int (nI u), .int (nI v)] (PW G L f)) (vp_Sl (fun r => r = vfR u v 8)) 0 0 (fun _ => False) := by
  refine Met.ofW (cc := b_De_versionsFromTo) (maxL := 5) (ret := (some .long)) (by decide) rfl ?_
  intro p e s m args below meth c s₁ B hml hv
  obtain ⟨rfl, hP, hK⟩ := hv
  have hx := B.exec
  have hb := B.bytes
  have hr := B.returns
  have hA : ∀ w ∈ AW, w.before _ s = true := fun w h => atoms_spec (ws := (.code y_De_versionsFromTo b_De_versionsFromTo 5 (some .long) :: AW)) B.pre w (List.mem_cons_of_mem _ h)
  have hown : s.vm.findClass R_De = some m.cls := findClass_of_methodNamed B.named
  have hlocks := B.notSynchronized
  have hl := lv_entry ([.int (nI u), .int (nI v)]) (n := 5) (Nat.le_of_ble_eq_true rfl)
  rw [lg_entry_eq]
  generalize (lg_sl ([.int (nI u), .int (nI v)]) ++ List.replicate (5 - (lg_sl ([.int (nI u), .int (nI v)])).length) Slot.unset).toArray = ls at hl ⊢
  have hl : lv_has ls 5 [(0, .int (nI u)), (1, .int (nI v))] := hl
  refine lv_lconst (v := 0) hx hb d_De_versionsFromTo_0 (by decide) ?_
  refine lv_lstore_n (lv' := [(2, .long 0), (0, .int (nI u)), (1, .int (nI v))]) hx hb d_De_versionsFromTo_1 rfl hl (by decide) rfl (fun ls hl => ?_)
  refine lv_iconst (v := nI 0) hx hb d_De_versionsFromTo_2 (by decide) ?_
  refine lv_istore (lv' := [(4, .int (nI 0)), (2, .long 0), (0, .int (nI u)), (1, .int (nI v))]) hx hb d_De_versionsFromTo_3 hl (by decide) rfl (fun ls hl => ?_)
  have loop : ∀ (k i : Nat) (ls : Array Slot), i + k = 8 → lv_has ls 5 [(0, .int (nI u)), (1, .int (nI v)), (2, .long (vfR u v i)), (4, .int (nI i))] → W p l e (headSpec (.code y_De_versionsFromTo b_De_versionsFromTo 5 (some .long) :: AW) (RM 0)).room s m ([.int (nI u), .int (nI v)] : List Value).toArray below meth c s.heap [] 0 0 (MQ below (vp_Sl (fun r => r = vfR u v 8)) ([.int (nI u), .int (nI v)] : List Value).toArray s 0 0 (fun _ => False)) (F0 m 5 ls []) := by
    intro k
    induction k with
    | zero =>
      intro i  ls hik  hl
      refine lv_iload hx hb d_De_versionsFromTo_5 (lv_at hl 3 rfl) ?_
      refine lv_bipush (v := nI 8) hx hb d_De_versionsFromTo_7 (by decide) ?_
      refine lv_icmp_ge (tgt := 39) hx hb d_De_versionsFromTo_9 (by decide) (fun _ => ?_) (fun c9 => absurd (nI_le (by omega) (by omega)) c9)
      refine lv_lload_n hx hb d_De_versionsFromTo_39 rfl (lv_at hl 2 rfl) ?_
      exact W.lret (v := vfR u v i) hx hb hr (fun t9 h9t h9W => ⟨_, rfl, by rw [show i = 8 by omega], h9t⟩) (fun _ h => nomatch h) d_De_versionsFromTo_40
    | succ k ih =>
      intro i  ls hik  hl
      refine lv_iload hx hb d_De_versionsFromTo_5 (lv_at hl 3 rfl) ?_
      refine lv_bipush (v := nI 8) hx hb d_De_versionsFromTo_7 (by decide) ?_
      refine lv_icmp_ge (tgt := 39) hx hb d_De_versionsFromTo_9 (by decide) (fun c9 => absurd c9 (nI_ge (by omega) (by omega))) (fun _ => ?_)
      by_cases hlo : i < u
      · refine lv_iload hx hb d_De_versionsFromTo_12 (lv_at hl 3 rfl) ?_
        refine lv_iload_n hx hb d_De_versionsFromTo_14 rfl (lv_at hl 0 rfl) ?_
        refine lv_icmp_lt (tgt := 33) hx hb d_De_versionsFromTo_15 (by decide) (fun _ => ?_) (fun c9 => absurd (nI_lt hlo (by omega)) c9)
        refine lv_iinc (v := nI (i + 1)) (lv' := [(4, .int (nI (i + 1))), (0, .int (nI u)), (1, .int (nI v)), (2, .long (vfR u v i))]) hx hb d_De_versionsFromTo_33 hl (k := 3) rfl (nI_1 i) (by decide) rfl (fun ls hl => ?_)
        refine lv_goto (tgt := 5) hx hb d_De_versionsFromTo_36 (by decide) ?_
        exact ih (i + 1) ls (by omega) (by rw [show vfR u v (i + 1) = _ from if_neg (fun q => by omega)]; exact lv_sub hl [1, 2, 3, 0] rfl)
      · refine lv_iload hx hb d_De_versionsFromTo_12 (lv_at hl 3 rfl) ?_
        refine lv_iload_n hx hb d_De_versionsFromTo_14 rfl (lv_at hl 0 rfl) ?_
        refine lv_icmp_lt (tgt := 33) hx hb d_De_versionsFromTo_15 (by decide) (fun c9 => absurd c9 (nI_nlt (by omega) (by omega))) (fun _ => ?_)
        refine lv_iload hx hb d_De_versionsFromTo_18 (lv_at hl 3 rfl) ?_
        refine lv_iload_n hx hb d_De_versionsFromTo_20 rfl (lv_at hl 1 rfl) ?_
        by_cases hup : v < i
        · refine lv_icmp_gt (tgt := 33) hx hb d_De_versionsFromTo_21 (by decide) (fun _ => ?_) (fun c9 => absurd (nI_lt hup (by omega)) c9)
          refine lv_iinc (v := nI (i + 1)) (lv' := [(4, .int (nI (i + 1))), (0, .int (nI u)), (1, .int (nI v)), (2, .long (vfR u v i))]) hx hb d_De_versionsFromTo_33 hl (k := 3) rfl (nI_1 i) (by decide) rfl (fun ls hl => ?_)
          refine lv_goto (tgt := 5) hx hb d_De_versionsFromTo_36 (by decide) ?_
          exact ih (i + 1) ls (by omega) (by rw [show vfR u v (i + 1) = _ from if_neg (fun q => by omega)]; exact lv_sub hl [1, 2, 3, 0] rfl)
        · refine lv_icmp_gt (tgt := 33) hx hb d_De_versionsFromTo_21 (by decide) (fun c9 => absurd c9 (nI_nlt (by omega) (by omega))) (fun _ => ?_)
          refine lv_lload_n hx hb d_De_versionsFromTo_24 rfl (lv_at hl 2 rfl) ?_
          refine lv_ldc2 (v := 72340172838076673) hx hb hown (hA _ kw_17) d_De_versionsFromTo_25 ?_
          refine lv_iload hx hb d_De_versionsFromTo_28 (lv_at hl 3 rfl) ?_
          refine lv_lshl (v := 72340172838076673 <<< (Int32.toInt64 (nI i) &&& 63)) hx hb d_De_versionsFromTo_30 rfl ?_
          refine lv_lor hx hb d_De_versionsFromTo_31 ?_
          refine lv_lstore_n (lv' := [(2, .long ((vfR u v i) ||| (72340172838076673 <<< (Int32.toInt64 (nI i) &&& 63)))), (0, .int (nI u)), (1, .int (nI v)), (4, .int (nI i))]) hx hb d_De_versionsFromTo_32 rfl hl (by decide) rfl (fun ls hl => ?_)
          refine lv_iinc (v := nI (i + 1)) (lv' := [(4, .int (nI (i + 1))), (2, .long ((vfR u v i) ||| (72340172838076673 <<< (Int32.toInt64 (nI i) &&& 63)))), (0, .int (nI u)), (1, .int (nI v))]) hx hb d_De_versionsFromTo_33 hl (k := 3) rfl (nI_1 i) (by decide) rfl (fun ls hl => ?_)
          refine lv_goto (tgt := 5) hx hb d_De_versionsFromTo_36 (by decide) ?_
          exact ih (i + 1) ls (by omega) (by rw [show vfR u v (i + 1) = _ from if_pos ⟨by omega, by omega⟩]; exact lv_sub hl [2, 3, 1, 0] rfl)
  exact loop (8 - 0) 0  ls (by omega)  (lv_sub hl [2, 3, 1, 0] rfl)

set_option maxHeartbeats 4000000 in
set_option maxRecDepth 100000 in
/-- wordOf -/
theorem c_Cb_wordOf (l : Launch) (G : GG) (L : List Nat) (f : Nat → va_E) {cb mA gA n : Nat} {ad wa kd : Nat → Nat} {ka kb kc : Nat → Int32} {wd : Nat → Nat → Int64} {mm : Nat → Bool} (hB : CoB G L f cb mA gA n ad wa kd ka kb kc wd mm) (i j : Nat) (hi : i < n) (hj : j < 96) : Met l y_Cb_wordOf (.code y_Cb_wordOf b_Cb_wordOf 4 (some .long) :: AW) (RM 2) (va_Pc [.ref cb, .int (nI i), .int (nI j)] (PW G L f)) (vp_Sl (fun r => r = wd i j)) 0 0 (fun _ => False) := by
  refine Met.ofW (cc := b_Cb_wordOf) (maxL := 4) (ret := (some .long)) (by decide) rfl ?_
  intro p e s m args below meth c s₁ B hml hv
  obtain ⟨rfl, hP, hK⟩ := hv
  have hx := B.exec
  have hb := B.bytes
  have hr := B.returns
  have hA : ∀ w ∈ AW, w.before _ s = true := fun w h => atoms_spec (ws := (.code y_Cb_wordOf b_Cb_wordOf 4 (some .long) :: AW)) B.pre w (List.mem_cons_of_mem _ h)
  have hown : s.vm.findClass R_Cb = some m.cls := findClass_of_methodNamed B.named
  have hlocks := B.notSynchronized
  have hl := lv_entry ([.ref cb, .int (nI i), .int (nI j)]) (n := 4) (Nat.le_of_ble_eq_true rfl)
  rw [lg_entry_eq]
  generalize (lg_sl ([.ref cb, .int (nI i), .int (nI j)]) ++ List.replicate (4 - (lg_sl ([.ref cb, .int (nI i), .int (nI j)])).length) Slot.unset).toArray = ls at hl ⊢
  have hl : lv_has ls 4 [(0, .ref cb), (1, .int (nI i)), (2, .int (nI j))] := hl
  have hn := hB.1
  refine lv_aload_n hx hb d_Cb_wordOf_0 rfl (lv_at hl 0 rfl) ?_
  refine lv_iload_n hx hb d_Cb_wordOf_1 rfl (lv_at hl 1 rfl) ?_
  refine va_csq (va_Run.run (va_runV (As := [.int (nI i)]) (rest := []) ⟨hx, hb, hml, hown, hA⟩ (c_Cb_at l G L f hB.2.1 hB.2.2.1 (nI i)) ⟨callB_of 1 hA (gAW kw_18) rfl rfl rfl (hA _ kw_19) (hA _ kw_20) (by decide +kernel) ⟨Nat.le_of_ble_eq_true rfl, Nat.le_of_ble_eq_true rfl⟩, (hA _ kw_21), (hA _ kw_22)⟩ (pw_preV (ci := 1) hP hK hB.2.1 rfl) rfl rfl hl.1 rfl (lv_room (Nat.le_of_ble_eq_true rfl)) d_Cb_wordOf_2 ⟨Nat.zero_le _, Nat.zero_le _⟩)) (fun r_1 e_2 => ?_)
  subst e_2
  refine xv_R (a := ad i) (oAt_t (by decide) hn hi) ?_
  refine lv_astore_n (lv' := [(3, .ref (ad i)), (0, .ref cb), (1, .int (nI i)), (2, .int (nI j))]) hx hb d_Cb_wordOf_5 rfl hl (by decide) rfl (fun ls hl => ?_)
  refine lv_aload_n hx hb d_Cb_wordOf_6 rfl (lv_at hl 0 rfl) ?_
  refine lv_ifnonnull (tgt := 14) hx hb d_Cb_wordOf_7 (by decide) ?_
  refine lv_aload_n hx hb d_Cb_wordOf_14 rfl (lv_at hl 0 rfl) ?_
  refine lv_iload_n hx hb d_Cb_wordOf_15 rfl (lv_at hl 3 rfl) ?_
  refine vp_callSl (va_Run.run (va_runVN (As := [.int (nI j)]) (rest := []) ⟨hx, hb, hml, hown, hA⟩ (c_Co_word l G L f (hB.2.2.2.2 i hi).1 (hB.2.2.2.2 i hi).2 j hj) ⟨va_cnB 1 hA (gAW kw_10) rfl rfl rfl (hK.2.1 _ kz_4) (hA _ kw_11) (by decide +kernel) ⟨Nat.le_of_ble_eq_true rfl, Nat.le_of_ble_eq_true rfl⟩, (hA _ kw_12), (hA _ kw_13)⟩ (pw_preV (ci := 0) hP hK ((hB.2.2.2.2 i hi).1) rfl) rfl rfl hl.1 rfl (lv_room (Nat.le_of_ble_eq_true rfl)) d_Cb_wordOf_16 ⟨Nat.zero_le _, Nat.zero_le _⟩)) (fun r_3 e_4 => ?_)
  subst e_4
  exact W.lret (v := wd i j) hx hb hr (fun t9 h9t h9W => ⟨_, rfl, rfl, h9t⟩) (fun _ h => nomatch h) d_Cb_wordOf_19

set_option maxHeartbeats 4000000 in
set_option maxRecDepth 100000 in
/-- isMember -/
theorem c_Cb_isM (l : Launch) (G : GG) (L : List Nat) (f : Nat → va_E) {cb mA gA n : Nat} {ad wa kd : Nat → Nat} {ka kb kc : Nat → Int32} {wd : Nat → Nat → Int64} {mm : Nat → Bool} (hB : CoB G L f cb mA gA n ad wa kd ka kb kc wd mm) (u v : Nat) (hu : u < 8) (hv_ : v < 8) : Met l y_Cb_isMember (.code y_Cb_isMember b_Cb_isMember 4 (some .boolean) :: AW) (RM 1) (va_Pc [.ref cb, .int (nI u), .int (nI v)] (PW G L f)) (vp_Si (fun r => r = bI (mm (u * 8 + v)))) 0 0 (fun _ => False) := by
  refine Met.ofW (cc := b_Cb_isMember) (maxL := 4) (ret := (some .boolean)) (by decide) rfl ?_
  intro p e s m args below meth c s₁ B hml hv
  obtain ⟨rfl, hP, hK⟩ := hv
  have hx := B.exec
  have hb := B.bytes
  have hr := B.returns
  have hA : ∀ w ∈ AW, w.before _ s = true := fun w h => atoms_spec (ws := (.code y_Cb_isMember b_Cb_isMember 4 (some .boolean) :: AW)) B.pre w (List.mem_cons_of_mem _ h)
  have hown : s.vm.findClass R_Cb = some m.cls := findClass_of_methodNamed B.named
  have hlocks := B.notSynchronized
  have hl := lv_entry ([.ref cb, .int (nI u), .int (nI v)]) (n := 4) (Nat.le_of_ble_eq_true rfl)
  rw [lg_entry_eq]
  generalize (lg_sl ([.ref cb, .int (nI u), .int (nI v)]) ++ List.replicate (4 - (lg_sl ([.ref cb, .int (nI u), .int (nI v)])).length) Slot.unset).toArray = ls at hl ⊢
  have hl : lv_has ls 4 [(0, .ref cb), (1, .int (nI u)), (2, .int (nI v))] := hl
  have hn := hB.1
  refine lv_iload_n hx hb d_Cb_isMember_0 rfl (lv_at hl 1 rfl) ?_
  refine lv_bipush (v := nI 8) hx hb d_Cb_isMember_1 (by decide) ?_
  refine lv_imul hx hb d_Cb_isMember_3 ?_
  refine xv_I (y := nI (u * 8)) (pk_mul u 8) ?_
  refine lv_iload_n hx hb d_Cb_isMember_4 rfl (lv_at hl 2 rfl) ?_
  refine lv_iadd hx hb d_Cb_isMember_5 ?_
  refine xv_I (y := nI (u * 8 + v)) (nI_add _ _) ?_
  refine lv_istore_n (lv' := [(3, .int (nI (u * 8 + v))), (0, .ref cb), (1, .int (nI u)), (2, .int (nI v))]) hx hb d_Cb_isMember_6 rfl hl (by decide) rfl (fun ls hl => ?_)
  refine lv_iload_n hx hb d_Cb_isMember_7 rfl (lv_at hl 0 rfl) ?_
  refine lv_aload_n hx hb d_Cb_isMember_8 rfl (lv_at hl 1 rfl) ?_
  refine va_get (D := G.1) (ci := 1) (v := .ref gA) (C := R_Cb) (T := T_Cb) (N := 3) hx hb hA in_Cb hown hK.1 (pl_o hP hB.2.1) 0 rfl rfl 1 (by decide) (hA _ kw_23) (fun _ h9 => h9) rfl d_Cb_isMember_9 ?_
  refine va_alen (v := nI 64) hx hb hK.1 (pl_o hP hB.2.2.2.1) 0 1 rfl rfl rfl d_Cb_isMember_12 ?_
  refine vp_callSi (va_Run.run (va_runSN (As := [.int (nI (u * 8 + v)), .int (nI 64)]) (rest := []) ⟨hx, hb, hml, hown, hA⟩ (c_isBelow l G L f (nI (u * 8 + v)) (nI 64)) ⟨va_cnB 2 hA (gAW kw_4) rfl rfl rfl (hK.2.1 _ kz_1) (hA _ kw_5) (by decide +kernel) ⟨Nat.le_of_ble_eq_true rfl, Nat.le_of_ble_eq_true rfl⟩, (hA _ kw_6), trivial⟩ (pw_preS hP hK) rfl rfl hl.1 rfl (lv_room (Nat.le_of_ble_eq_true rfl)) d_Cb_isMember_13 ⟨Nat.zero_le _, Nat.zero_le _⟩)) (fun r_1 e_2 => ?_)
  subst e_2
  refine lv_if_eq (tgt := 32) hx hb d_Cb_isMember_16 (by decide) (fun c9 => absurd c9 (by rw [blw_nI (by decide) (by omega), decide_eq_true (show u * 8 + v < 64 by omega)]; decide)) (fun _ => ?_)
  refine lv_aload_n hx hb d_Cb_isMember_19 rfl (lv_at hl 1 rfl) ?_
  refine va_get (D := G.1) (ci := 1) (v := .ref gA) (C := R_Cb) (T := T_Cb) (N := 3) hx hb hA in_Cb hown hK.1 (pl_o hP hB.2.1) 0 rfl rfl 1 (by decide) (hA _ kw_23) (fun _ h9 => h9) rfl d_Cb_isMember_20 ?_
  refine lv_iload_n hx hb d_Cb_isMember_23 rfl (lv_at hl 0 rfl) ?_
  refine xl_zald hx hb hK.1 (pl_o hP hB.2.2.2.1) 0 1 rfl rfl (i := (u * 8 + v)) (by omega) (by decide) d_Cb_isMember_24 ?_
  refine xv_I (y := bI (mm (u * 8 + v))) rfl ?_
  rcases bcase (mm (u * 8 + v)) with hm_ | hm_
  · refine lv_if_eq (tgt := 32) hx hb d_Cb_isMember_25 (by decide) (fun _ => ?_) (fun c9 => absurd (by rw [hm_]; rfl) c9)
    refine lv_iconst (v := nI 0) hx hb d_Cb_isMember_32 (by decide) ?_
    exact W.zret (v := nI 0) (ty := .boolean) hx hb hr (bI_nar false) (fun t9 h9t h9W => ⟨_, rfl, by rw [hm_]; rfl, h9t⟩) (fun _ h => nomatch h) d_Cb_isMember_33
  · refine lv_if_eq (tgt := 32) hx hb d_Cb_isMember_25 (by decide) (fun c9 => absurd c9 (by rw [hm_]; decide)) (fun _ => ?_)
    refine lv_iconst (v := nI 1) hx hb d_Cb_isMember_28 (by decide) ?_
    refine lv_goto (tgt := 33) hx hb d_Cb_isMember_29 (by decide) ?_
    exact W.zret (v := nI 1) (ty := .boolean) hx hb hr (bI_nar true) (fun t9 h9t h9W => ⟨_, rfl, by rw [hm_]; rfl, h9t⟩) (fun _ h => nomatch h) d_Cb_isMember_33

set_option maxHeartbeats 4000000 in
set_option maxRecDepth 100000 in
/-- canBe -/
theorem c_Cb_can (l : Launch) (G : GG) (L : List Nat) (f : Nat → va_E) {cb mA gA n : Nat} {ad wa kd : Nat → Nat} {ka kb kc : Nat → Int32} {wd : Nat → Nat → Int64} {mm : Nat → Bool} (hB : CoB G L f cb mA gA n ad wa kd ka kb kc wd mm) (x0 x1 x2 x3 : Int32) : Met l y_Cb_canBe (.code y_Cb_canBe b_Cb_canBe 5 (some .boolean) :: AW) (RM 1) (va_Pc [.ref cb, .int x0, .int x1, .int x2, .int x3] (PW G L f)) (vp_Si (fun r => r = bI (cOK n x0 x1 x2 x3))) 0 0 (fun _ => False) := by
  refine Met.ofW (cc := b_Cb_canBe) (maxL := 5) (ret := (some .boolean)) (by decide) rfl ?_
  intro p e s m args below meth c s₁ B hml hv
  obtain ⟨rfl, hP, hK⟩ := hv
  have hx := B.exec
  have hb := B.bytes
  have hr := B.returns
  have hA : ∀ w ∈ AW, w.before _ s = true := fun w h => atoms_spec (ws := (.code y_Cb_canBe b_Cb_canBe 5 (some .boolean) :: AW)) B.pre w (List.mem_cons_of_mem _ h)
  have hown : s.vm.findClass R_Cb = some m.cls := findClass_of_methodNamed B.named
  have hlocks := B.notSynchronized
  have hl := lv_entry ([.ref cb, .int x0, .int x1, .int x2, .int x3]) (n := 5) (Nat.le_of_ble_eq_true rfl)
  rw [lg_entry_eq]
  generalize (lg_sl ([.ref cb, .int x0, .int x1, .int x2, .int x3]) ++ List.replicate (5 - (lg_sl ([.ref cb, .int x0, .int x1, .int x2, .int x3])).length) Slot.unset).toArray = ls at hl ⊢
  have hl : lv_has ls 5 [(0, .ref cb), (1, .int x0), (2, .int x1), (3, .int x2), (4, .int x3)] := hl
  have hn := hB.1
  rcases k11 x0 with rfl | rfl | rfl | rfl | rfl | rfl | rfl | rfl | rfl | rfl | rfl | hk
  · refine lv_iload_n hx hb d_Cb_canBe_0 rfl (lv_at hl 1 rfl) ?_
    refine lv_tableIn (x := nI 0) (off := 59) (tgt := 60) hx hb d_Cb_canBe_1 (by decide) (by decide) rfl (by decide) ?_
    refine lv_iload_n hx hb d_Cb_canBe_60 rfl (lv_at hl 2 rfl) ?_
    refine lv_bipush (v := nI 8) hx hb d_Cb_canBe_61 (by decide) ?_
    refine vp_callSi (va_Run.run (va_runSN (As := [.int x1, .int (nI 8)]) (rest := []) ⟨hx, hb, hml, hown, hA⟩ (c_isBelow l G L f (x1) (nI 8)) ⟨va_cnB 2 hA (gAW kw_4) rfl rfl rfl (hK.2.1 _ kz_1) (hA _ kw_5) (by decide +kernel) ⟨Nat.le_of_ble_eq_true rfl, Nat.le_of_ble_eq_true rfl⟩, (hA _ kw_6), trivial⟩ (pw_preS hP hK) rfl rfl hl.1 rfl (lv_room (Nat.le_of_ble_eq_true rfl)) d_Cb_canBe_63 ⟨Nat.zero_le _, Nat.zero_le _⟩)) (fun r_1 e_2 => ?_)
    subst e_2
    exact W.zret (v := bI (blw (x1) (nI 8))) (ty := .boolean) hx hb hr (bI_nar _) (fun t9 h9t h9W => ⟨_, rfl, by unfold cOK; rw [if_pos rfl], h9t⟩) (fun _ h => nomatch h) d_Cb_canBe_66
  · refine lv_iload_n hx hb d_Cb_canBe_0 rfl (lv_at hl 1 rfl) ?_
    refine lv_tableIn (x := nI 1) (off := 66) (tgt := 67) hx hb d_Cb_canBe_1 (by decide) (by decide) rfl (by decide) ?_
    refine lv_iload_n hx hb d_Cb_canBe_67 rfl (lv_at hl 2 rfl) ?_
    refine lv_bipush (v := nI 8) hx hb d_Cb_canBe_68 (by decide) ?_
    refine vp_callSi (va_Run.run (va_runSN (As := [.int x1, .int (nI 8)]) (rest := []) ⟨hx, hb, hml, hown, hA⟩ (c_isBelow l G L f (x1) (nI 8)) ⟨va_cnB 2 hA (gAW kw_4) rfl rfl rfl (hK.2.1 _ kz_1) (hA _ kw_5) (by decide +kernel) ⟨Nat.le_of_ble_eq_true rfl, Nat.le_of_ble_eq_true rfl⟩, (hA _ kw_6), trivial⟩ (pw_preS hP hK) rfl rfl hl.1 rfl (lv_room (Nat.le_of_ble_eq_true rfl)) d_Cb_canBe_70 ⟨Nat.zero_le _, Nat.zero_le _⟩)) (fun r_3 e_4 => ?_)
    subst e_4
    exact W.zret (v := bI (blw (x1) (nI 8))) (ty := .boolean) hx hb hr (bI_nar _) (fun t9 h9t h9W => ⟨_, rfl, by unfold cOK; rw [if_neg (by decide)]; rw [if_pos rfl], h9t⟩) (fun _ h => nomatch h) d_Cb_canBe_73
  · refine lv_iload_n hx hb d_Cb_canBe_0 rfl (lv_at hl 1 rfl) ?_
    refine lv_tableIn (x := nI 2) (off := 73) (tgt := 74) hx hb d_Cb_canBe_1 (by decide) (by decide) rfl (by decide) ?_
    refine lv_iload_n hx hb d_Cb_canBe_74 rfl (lv_at hl 2 rfl) ?_
    refine lv_iconst (v := nI 4) hx hb d_Cb_canBe_75 (by decide) ?_
    refine vp_callSi (va_Run.run (va_runSN (As := [.int x1, .int (nI 4)]) (rest := []) ⟨hx, hb, hml, hown, hA⟩ (c_isBelow l G L f (x1) (nI 4)) ⟨va_cnB 2 hA (gAW kw_4) rfl rfl rfl (hK.2.1 _ kz_1) (hA _ kw_5) (by decide +kernel) ⟨Nat.le_of_ble_eq_true rfl, Nat.le_of_ble_eq_true rfl⟩, (hA _ kw_6), trivial⟩ (pw_preS hP hK) rfl rfl hl.1 rfl (lv_room (Nat.le_of_ble_eq_true rfl)) d_Cb_canBe_76 ⟨Nat.zero_le _, Nat.zero_le _⟩)) (fun r_5 e_6 => ?_)
    subst e_6
    exact W.zret (v := bI (blw (x1) (nI 4))) (ty := .boolean) hx hb hr (bI_nar _) (fun t9 h9t h9W => ⟨_, rfl, by unfold cOK; rw [if_neg (by decide)]; rw [if_neg (by decide)]; rw [if_pos rfl], h9t⟩) (fun _ h => nomatch h) d_Cb_canBe_79
  · refine lv_iload_n hx hb d_Cb_canBe_0 rfl (lv_at hl 1 rfl) ?_
    refine lv_tableIn (x := nI 3) (off := 79) (tgt := 80) hx hb d_Cb_canBe_1 (by decide) (by decide) rfl (by decide) ?_
    refine lv_iload_n hx hb d_Cb_canBe_80 rfl (lv_at hl 2 rfl) ?_
    refine lv_bipush (v := nI 6) hx hb d_Cb_canBe_81 (by decide) ?_
    refine vp_callSi (va_Run.run (va_runSN (As := [.int x1, .int (nI 6)]) (rest := []) ⟨hx, hb, hml, hown, hA⟩ (c_isBelow l G L f (x1) (nI 6)) ⟨va_cnB 2 hA (gAW kw_4) rfl rfl rfl (hK.2.1 _ kz_1) (hA _ kw_5) (by decide +kernel) ⟨Nat.le_of_ble_eq_true rfl, Nat.le_of_ble_eq_true rfl⟩, (hA _ kw_6), trivial⟩ (pw_preS hP hK) rfl rfl hl.1 rfl (lv_room (Nat.le_of_ble_eq_true rfl)) d_Cb_canBe_83 ⟨Nat.zero_le _, Nat.zero_le _⟩)) (fun r_7 e_8 => ?_)
    subst e_8
    exact W.zret (v := bI (blw (x1) (nI 6))) (ty := .boolean) hx hb hr (bI_nar _) (fun t9 h9t h9W => ⟨_, rfl, by unfold cOK; rw [if_neg (by decide)]; rw [if_neg (by decide)]; rw [if_neg (by decide)]; rw [if_pos rfl], h9t⟩) (fun _ h => nomatch h) d_Cb_canBe_86
  · refine lv_iload_n hx hb d_Cb_canBe_0 rfl (lv_at hl 1 rfl) ?_
    refine lv_tableIn (x := nI 4) (off := 86) (tgt := 87) hx hb d_Cb_canBe_1 (by decide) (by decide) rfl (by decide) ?_
    refine lv_iload_n hx hb d_Cb_canBe_87 rfl (lv_at hl 2 rfl) ?_
    refine lv_iconst (v := nI 4) hx hb d_Cb_canBe_88 (by decide) ?_
    refine vp_callSi (va_Run.run (va_runSN (As := [.int x1, .int (nI 4)]) (rest := []) ⟨hx, hb, hml, hown, hA⟩ (c_isBelow l G L f (x1) (nI 4)) ⟨va_cnB 2 hA (gAW kw_4) rfl rfl rfl (hK.2.1 _ kz_1) (hA _ kw_5) (by decide +kernel) ⟨Nat.le_of_ble_eq_true rfl, Nat.le_of_ble_eq_true rfl⟩, (hA _ kw_6), trivial⟩ (pw_preS hP hK) rfl rfl hl.1 rfl (lv_room (Nat.le_of_ble_eq_true rfl)) d_Cb_canBe_89 ⟨Nat.zero_le _, Nat.zero_le _⟩)) (fun r_9 e_10 => ?_)
    subst e_10
    exact W.zret (v := bI (blw (x1) (nI 4))) (ty := .boolean) hx hb hr (bI_nar _) (fun t9 h9t h9W => ⟨_, rfl, by unfold cOK; rw [if_neg (by decide)]; rw [if_neg (by decide)]; rw [if_neg (by decide)]; rw [if_neg (by decide)]; rw [if_pos rfl], h9t⟩) (fun _ h => nomatch h) d_Cb_canBe_92
  · refine lv_iload_n hx hb d_Cb_canBe_0 rfl (lv_at hl 1 rfl) ?_
    refine lv_tableIn (x := nI 5) (off := 92) (tgt := 93) hx hb d_Cb_canBe_1 (by decide) (by decide) rfl (by decide) ?_
    refine lv_iload_n hx hb d_Cb_canBe_93 rfl (lv_at hl 2 rfl) ?_
    refine lv_bipush (v := nI 8) hx hb d_Cb_canBe_94 (by decide) ?_
    refine vp_callSi (va_Run.run (va_runSN (As := [.int x1, .int (nI 8)]) (rest := []) ⟨hx, hb, hml, hown, hA⟩ (c_isBelow l G L f (x1) (nI 8)) ⟨va_cnB 2 hA (gAW kw_4) rfl rfl rfl (hK.2.1 _ kz_1) (hA _ kw_5) (by decide +kernel) ⟨Nat.le_of_ble_eq_true rfl, Nat.le_of_ble_eq_true rfl⟩, (hA _ kw_6), trivial⟩ (pw_preS hP hK) rfl rfl hl.1 rfl (lv_room (Nat.le_of_ble_eq_true rfl)) d_Cb_canBe_96 ⟨Nat.zero_le _, Nat.zero_le _⟩)) (fun r_11 e_12 => ?_)
    subst e_12
    rcases bcase (blw (x1) (nI 8)) with hb_0 | hb_0
    · refine lv_if_eq (tgt := 120) hx hb d_Cb_canBe_99 (by decide) (fun _ => ?_) (fun c9 => absurd (by rw [hb_0]; rfl) c9)
      refine lv_iconst (v := nI 0) hx hb d_Cb_canBe_120 (by decide) ?_
      exact W.zret (v := nI 0) (ty := .boolean) hx hb hr (bI_nar false) (fun t9 h9t h9W => ⟨_, rfl, by unfold cOK; rw [if_neg (by decide)]; rw [if_neg (by decide)]; rw [if_neg (by decide)]; rw [if_neg (by decide)]; rw [if_neg (by decide)]; rw [if_pos rfl]; rw [hb_0]; rfl, h9t⟩) (fun _ h => nomatch h) d_Cb_canBe_121
    · refine lv_if_eq (tgt := 120) hx hb d_Cb_canBe_99 (by decide) (fun c9 => absurd c9 (by rw [hb_0]; decide)) (fun _ => ?_)
      refine lv_iload_n hx hb d_Cb_canBe_102 rfl (lv_at hl 3 rfl) ?_
      refine lv_bipush (v := nI 8) hx hb d_Cb_canBe_103 (by decide) ?_
      refine vp_callSi (va_Run.run (va_runSN (As := [.int x2, .int (nI 8)]) (rest := []) ⟨hx, hb, hml, hown, hA⟩ (c_isBelow l G L f (x2) (nI 8)) ⟨va_cnB 2 hA (gAW kw_4) rfl rfl rfl (hK.2.1 _ kz_1) (hA _ kw_5) (by decide +kernel) ⟨Nat.le_of_ble_eq_true rfl, Nat.le_of_ble_eq_true rfl⟩, (hA _ kw_6), trivial⟩ (pw_preS hP hK) rfl rfl hl.1 rfl (lv_room (Nat.le_of_ble_eq_true rfl)) d_Cb_canBe_105 ⟨Nat.zero_le _, Nat.zero_le _⟩)) (fun r_13 e_14 => ?_)
      subst e_14
      rcases bcase (blw (x2) (nI 8)) with hb_1 | hb_1
      · refine lv_if_eq (tgt := 120) hx hb d_Cb_canBe_108 (by decide) (fun _ => ?_) (fun c9 => absurd (by rw [hb_1]; rfl) c9)
        refine lv_iconst (v := nI 0) hx hb d_Cb_canBe_120 (by decide) ?_
        exact W.zret (v := nI 0) (ty := .boolean) hx hb hr (bI_nar false) (fun t9 h9t h9W => ⟨_, rfl, by unfold cOK; rw [if_neg (by decide)]; rw [if_neg (by decide)]; rw [if_neg (by decide)]; rw [if_neg (by decide)]; rw [if_neg (by decide)]; rw [if_pos rfl]; rw [hb_0, hb_1]; rfl, h9t⟩) (fun _ h => nomatch h) d_Cb_canBe_121
      · refine lv_if_eq (tgt := 120) hx hb d_Cb_canBe_108 (by decide) (fun c9 => absurd c9 (by rw [hb_1]; decide)) (fun _ => ?_)
        refine lv_iload_n hx hb d_Cb_canBe_111 rfl (lv_at hl 2 rfl) ?_
        refine lv_iload_n hx hb d_Cb_canBe_112 rfl (lv_at hl 3 rfl) ?_
        by_cases hb_2 : x1 ≤ x2
        · refine lv_icmp_gt (tgt := 120) hx hb d_Cb_canBe_113 (by decide) (fun c9 => absurd c9 (i32_nlt hb_2)) (fun _ => ?_)
          refine lv_iconst (v := nI 1) hx hb d_Cb_canBe_116 (by decide) ?_
          refine lv_goto (tgt := 121) hx hb d_Cb_canBe_117 (by decide) ?_
          exact W.zret (v := nI 1) (ty := .boolean) hx hb hr (bI_nar true) (fun t9 h9t h9W => ⟨_, rfl, by unfold cOK; rw [if_neg (by decide)]; rw [if_neg (by decide)]; rw [if_neg (by decide)]; rw [if_neg (by decide)]; rw [if_neg (by decide)]; rw [if_pos rfl]; rw [hb_0, hb_1, decide_eq_true hb_2]; rfl, h9t⟩) (fun _ h => nomatch h) d_Cb_canBe_121
        · refine lv_icmp_gt (tgt := 120) hx hb d_Cb_canBe_113 (by decide) (fun _ => ?_) (fun c9 => absurd (i32_lt hb_2) c9)
          refine lv_iconst (v := nI 0) hx hb d_Cb_canBe_120 (by decide) ?_
          exact W.zret (v := nI 0) (ty := .boolean) hx hb hr (bI_nar false) (fun t9 h9t h9W => ⟨_, rfl, by unfold cOK; rw [if_neg (by decide)]; rw [if_neg (by decide)]; rw [if_neg (by decide)]; rw [if_neg (by decide)]; rw [if_neg (by decide)]; rw [if_pos rfl]; rw [hb_0, hb_1, decide_eq_false hb_2]; rfl, h9t⟩) (fun _ h => nomatch h) d_Cb_canBe_121
  · refine lv_iload_n hx hb d_Cb_canBe_0 rfl (lv_at hl 1 rfl) ?_
    refine lv_tableIn (x := nI 6) (off := 121) (tgt := 122) hx hb d_Cb_canBe_1 (by decide) (by decide) rfl (by decide) ?_
    refine lv_iload_n hx hb d_Cb_canBe_122 rfl (lv_at hl 2 rfl) ?_
    refine lv_aload_n hx hb d_Cb_canBe_123 rfl (lv_at hl 0 rfl) ?_
    refine va_get (D := G.1) (ci := 1) (v := .int (nI n)) (C := R_Cb) (T := T_Cb) (N := 3) hx hb hA in_Cb hown hK.1 (pl_o hP hB.2.1) 0 rfl rfl 2 (by decide) (hA _ kw_24) (fun _ h9 => h9) rfl d_Cb_canBe_124 ?_
    refine vp_callSi (va_Run.run (va_runSN (As := [.int x1, .int (nI n)]) (rest := []) ⟨hx, hb, hml, hown, hA⟩ (c_isBelow l G L f (x1) (nI n)) ⟨va_cnB 2 hA (gAW kw_4) rfl rfl rfl (hK.2.1 _ kz_1) (hA _ kw_5) (by decide +kernel) ⟨Nat.le_of_ble_eq_true rfl, Nat.le_of_ble_eq_true rfl⟩, (hA _ kw_6), trivial⟩ (pw_preS hP hK) rfl rfl hl.1 rfl (lv_room (Nat.le_of_ble_eq_true rfl)) d_Cb_canBe_127 ⟨Nat.zero_le _, Nat.zero_le _⟩)) (fun r_15 e_16 => ?_)
    subst e_16
    exact W.zret (v := bI (blw (x1) (nI n))) (ty := .boolean) hx hb hr (bI_nar _) (fun t9 h9t h9W => ⟨_, rfl, by unfold cOK; rw [if_neg (by decide)]; rw [if_neg (by decide)]; rw [if_neg (by decide)]; rw [if_neg (by decide)]; rw [if_neg (by decide)]; rw [if_neg (by decide)]; rw [if_pos rfl], h9t⟩) (fun _ h => nomatch h) d_Cb_canBe_130
  · refine lv_iload_n hx hb d_Cb_canBe_0 rfl (lv_at hl 1 rfl) ?_
    refine lv_tableIn (x := nI 7) (off := 130) (tgt := 131) hx hb d_Cb_canBe_1 (by decide) (by decide) rfl (by decide) ?_
    refine lv_iload_n hx hb d_Cb_canBe_131 rfl (lv_at hl 2 rfl) ?_
    refine lv_aload_n hx hb d_Cb_canBe_132 rfl (lv_at hl 0 rfl) ?_
    refine va_get (D := G.1) (ci := 1) (v := .int (nI n)) (C := R_Cb) (T := T_Cb) (N := 3) hx hb hA in_Cb hown hK.1 (pl_o hP hB.2.1) 0 rfl rfl 2 (by decide) (hA _ kw_24) (fun _ h9 => h9) rfl d_Cb_canBe_133 ?_
    refine vp_callSi (va_Run.run (va_runSN (As := [.int x1, .int (nI n)]) (rest := []) ⟨hx, hb, hml, hown, hA⟩ (c_isBelow l G L f (x1) (nI n)) ⟨va_cnB 2 hA (gAW kw_4) rfl rfl rfl (hK.2.1 _ kz_1) (hA _ kw_5) (by decide +kernel) ⟨Nat.le_of_ble_eq_true rfl, Nat.le_of_ble_eq_true rfl⟩, (hA _ kw_6), trivial⟩ (pw_preS hP hK) rfl rfl hl.1 rfl (lv_room (Nat.le_of_ble_eq_true rfl)) d_Cb_canBe_136 ⟨Nat.zero_le _, Nat.zero_le _⟩)) (fun r_17 e_18 => ?_)
    subst e_18
    rcases bcase (blw (x1) (nI n)) with hb_0 | hb_0
    · refine lv_if_eq (tgt := 157) hx hb d_Cb_canBe_139 (by decide) (fun _ => ?_) (fun c9 => absurd (by rw [hb_0]; rfl) c9)
      refine lv_iconst (v := nI 0) hx hb d_Cb_canBe_157 (by decide) ?_
      exact W.zret (v := nI 0) (ty := .boolean) hx hb hr (bI_nar false) (fun t9 h9t h9W => ⟨_, rfl, by unfold cOK; rw [if_neg (by decide)]; rw [if_neg (by decide)]; rw [if_neg (by decide)]; rw [if_neg (by decide)]; rw [if_neg (by decide)]; rw [if_neg (by decide)]; rw [if_neg (by decide)]; rw [if_pos rfl]; rw [hb_0]; rfl, h9t⟩) (fun _ h => nomatch h) d_Cb_canBe_158
    · refine lv_if_eq (tgt := 157) hx hb d_Cb_canBe_139 (by decide) (fun c9 => absurd c9 (by rw [hb_0]; decide)) (fun _ => ?_)
      refine lv_iload_n hx hb d_Cb_canBe_142 rfl (lv_at hl 3 rfl) ?_
      refine lv_aload_n hx hb d_Cb_canBe_143 rfl (lv_at hl 0 rfl) ?_
      refine va_get (D := G.1) (ci := 1) (v := .int (nI n)) (C := R_Cb) (T := T_Cb) (N := 3) hx hb hA in_Cb hown hK.1 (pl_o hP hB.2.1) 0 rfl rfl 2 (by decide) (hA _ kw_24) (fun _ h9 => h9) rfl d_Cb_canBe_144 ?_
      refine vp_callSi (va_Run.run (va_runSN (As := [.int x2, .int (nI n)]) (rest := []) ⟨hx, hb, hml, hown, hA⟩ (c_isBelow l G L f (x2) (nI n)) ⟨va_cnB 2 hA (gAW kw_4) rfl rfl rfl (hK.2.1 _ kz_1) (hA _ kw_5) (by decide +kernel) ⟨Nat.le_of_ble_eq_true rfl, Nat.le_of_ble_eq_true rfl⟩, (hA _ kw_6), trivial⟩ (pw_preS hP hK) rfl rfl hl.1 rfl (lv_room (Nat.le_of_ble_eq_true rfl)) d_Cb_canBe_147 ⟨Nat.zero_le _, Nat.zero_le _⟩)) (fun r_19 e_20 => ?_)
      subst e_20
      rcases bcase (blw (x2) (nI n)) with hb_1 | hb_1
      · refine lv_if_eq (tgt := 157) hx hb d_Cb_canBe_150 (by decide) (fun _ => ?_) (fun c9 => absurd (by rw [hb_1]; rfl) c9)
        refine lv_iconst (v := nI 0) hx hb d_Cb_canBe_157 (by decide) ?_
        exact W.zret (v := nI 0) (ty := .boolean) hx hb hr (bI_nar false) (fun t9 h9t h9W => ⟨_, rfl, by unfold cOK; rw [if_neg (by decide)]; rw [if_neg (by decide)]; rw [if_neg (by decide)]; rw [if_neg (by decide)]; rw [if_neg (by decide)]; rw [if_neg (by decide)]; rw [if_neg (by decide)]; rw [if_pos rfl]; rw [hb_0, hb_1]; rfl, h9t⟩) (fun _ h => nomatch h) d_Cb_canBe_158
      · refine lv_if_eq (tgt := 157) hx hb d_Cb_canBe_150 (by decide) (fun c9 => absurd c9 (by rw [hb_1]; decide)) (fun _ => ?_)
        refine lv_iconst (v := nI 1) hx hb d_Cb_canBe_153 (by decide) ?_
        refine lv_goto (tgt := 158) hx hb d_Cb_canBe_154 (by decide) ?_
        exact W.zret (v := nI 1) (ty := .boolean) hx hb hr (bI_nar true) (fun t9 h9t h9W => ⟨_, rfl, by unfold cOK; rw [if_neg (by decide)]; rw [if_neg (by decide)]; rw [if_neg (by decide)]; rw [if_neg (by decide)]; rw [if_neg (by decide)]; rw [if_neg (by decide)]; rw [if_neg (by decide)]; rw [if_pos rfl]; rw [hb_0, hb_1]; rfl, h9t⟩) (fun _ h => nomatch h) d_Cb_canBe_158
  · refine lv_iload_n hx hb d_Cb_canBe_0 rfl (lv_at hl 1 rfl) ?_
    refine lv_tableIn (x := nI 8) (off := 130) (tgt := 131) hx hb d_Cb_canBe_1 (by decide) (by decide) rfl (by decide) ?_
    refine lv_iload_n hx hb d_Cb_canBe_131 rfl (lv_at hl 2 rfl) ?_
    refine lv_aload_n hx hb d_Cb_canBe_132 rfl (lv_at hl 0 rfl) ?_
    refine va_get (D := G.1) (ci := 1) (v := .int (nI n)) (C := R_Cb) (T := T_Cb) (N := 3) hx hb hA in_Cb hown hK.1 (pl_o hP hB.2.1) 0 rfl rfl 2 (by decide) (hA _ kw_24) (fun _ h9 => h9) rfl d_Cb_canBe_133 ?_
    refine vp_callSi (va_Run.run (va_runSN (As := [.int x1, .int (nI n)]) (rest := []) ⟨hx, hb, hml, hown, hA⟩ (c_isBelow l G L f (x1) (nI n)) ⟨va_cnB 2 hA (gAW kw_4) rfl rfl rfl (hK.2.1 _ kz_1) (hA _ kw_5) (by decide +kernel) ⟨Nat.le_of_ble_eq_true rfl, Nat.le_of_ble_eq_true rfl⟩, (hA _ kw_6), trivial⟩ (pw_preS hP hK) rfl rfl hl.1 rfl (lv_room (Nat.le_of_ble_eq_true rfl)) d_Cb_canBe_136 ⟨Nat.zero_le _, Nat.zero_le _⟩)) (fun r_21 e_22 => ?_)
    subst e_22
    rcases bcase (blw (x1) (nI n)) with hb_0 | hb_0
    · refine lv_if_eq (tgt := 157) hx hb d_Cb_canBe_139 (by decide) (fun _ => ?_) (fun c9 => absurd (by rw [hb_0]; rfl) c9)
      refine lv_iconst (v := nI 0) hx hb d_Cb_canBe_157 (by decide) ?_
      exact W.zret (v := nI 0) (ty := .boolean) hx hb hr (bI_nar false) (fun t9 h9t h9W => ⟨_, rfl, by unfold cOK; rw [if_neg (by decide)]; rw [if_neg (by decide)]; rw [if_neg (by decide)]; rw [if_neg (by decide)]; rw [if_neg (by decide)]; rw [if_neg (by decide)]; rw [if_neg (by decide)]; rw [if_neg (by decide)]; rw [if_pos rfl]; rw [hb_0]; rfl, h9t⟩) (fun _ h => nomatch h) d_Cb_canBe_158
    · refine lv_if_eq (tgt := 157) hx hb d_Cb_canBe_139 (by decide) (fun c9 => absurd c9 (by rw [hb_0]; decide)) (fun _ => ?_)
      refine lv_iload_n hx hb d_Cb_canBe_142 rfl (lv_at hl 3 rfl) ?_
      refine lv_aload_n hx hb d_Cb_canBe_143 rfl (lv_at hl 0 rfl) ?_
      refine va_get (D := G.1) (ci := 1) (v := .int (nI n)) (C := R_Cb) (T := T_Cb) (N := 3) hx hb hA in_Cb hown hK.1 (pl_o hP hB.2.1) 0 rfl rfl 2 (by decide) (hA _ kw_24) (fun _ h9 => h9) rfl d_Cb_canBe_144 ?_
      refine vp_callSi (va_Run.run (va_runSN (As := [.int x2, .int (nI n)]) (rest := []) ⟨hx, hb, hml, hown, hA⟩ (c_isBelow l G L f (x2) (nI n)) ⟨va_cnB 2 hA (gAW kw_4) rfl rfl rfl (hK.2.1 _ kz_1) (hA _ kw_5) (by decide +kernel) ⟨Nat.le_of_ble_eq_true rfl, Nat.le_of_ble_eq_true rfl⟩, (hA _ kw_6), trivial⟩ (pw_preS hP hK) rfl rfl hl.1 rfl (lv_room (Nat.le_of_ble_eq_true rfl)) d_Cb_canBe_147 ⟨Nat.zero_le _, Nat.zero_le _⟩)) (fun r_23 e_24 => ?_)
      subst e_24
      rcases bcase (blw (x2) (nI n)) with hb_1 | hb_1
      · refine lv_if_eq (tgt := 157) hx hb d_Cb_canBe_150 (by decide) (fun _ => ?_) (fun c9 => absurd (by rw [hb_1]; rfl) c9)
        refine lv_iconst (v := nI 0) hx hb d_Cb_canBe_157 (by decide) ?_
        exact W.zret (v := nI 0) (ty := .boolean) hx hb hr (bI_nar false) (fun t9 h9t h9W => ⟨_, rfl, by unfold cOK; rw [if_neg (by decide)]; rw [if_neg (by decide)]; rw [if_neg (by decide)]; rw [if_neg (by decide)]; rw [if_neg (by decide)]; rw [if_neg (by decide)]; rw [if_neg (by decide)]; rw [if_neg (by decide)]; rw [if_pos rfl]; rw [hb_0, hb_1]; rfl, h9t⟩) (fun _ h => nomatch h) d_Cb_canBe_158
      · refine lv_if_eq (tgt := 157) hx hb d_Cb_canBe_150 (by decide) (fun c9 => absurd c9 (by rw [hb_1]; decide)) (fun _ => ?_)
        refine lv_iconst (v := nI 1) hx hb d_Cb_canBe_153 (by decide) ?_
        refine lv_goto (tgt := 158) hx hb d_Cb_canBe_154 (by decide) ?_
        exact W.zret (v := nI 1) (ty := .boolean) hx hb hr (bI_nar true) (fun t9 h9t h9W => ⟨_, rfl, by unfold cOK; rw [if_neg (by decide)]; rw [if_neg (by decide)]; rw [if_neg (by decide)]; rw [if_neg (by decide)]; rw [if_neg (by decide)]; rw [if_neg (by decide)]; rw [if_neg (by decide)]; rw [if_neg (by decide)]; rw [if_pos rfl]; rw [hb_0, hb_1]; rfl, h9t⟩) (fun _ h => nomatch h) d_Cb_canBe_158
  · refine lv_iload_n hx hb d_Cb_canBe_0 rfl (lv_at hl 1 rfl) ?_
    refine lv_tableIn (x := nI 9) (off := 158) (tgt := 159) hx hb d_Cb_canBe_1 (by decide) (by decide) rfl (by decide) ?_
    refine lv_iconst (v := nI 1) hx hb d_Cb_canBe_159 (by decide) ?_
    exact W.zret (v := nI 1) (ty := .boolean) hx hb hr (bI_nar true) (fun t9 h9t h9W => ⟨_, rfl, by unfold cOK; rw [if_neg (by decide)]; rw [if_neg (by decide)]; rw [if_neg (by decide)]; rw [if_neg (by decide)]; rw [if_neg (by decide)]; rw [if_neg (by decide)]; rw [if_neg (by decide)]; rw [if_neg (by decide)]; rw [if_neg (by decide)]; rw [if_pos rfl]; rfl, h9t⟩) (fun _ h => nomatch h) d_Cb_canBe_160
  · refine lv_iload_n hx hb d_Cb_canBe_0 rfl (lv_at hl 1 rfl) ?_
    refine lv_tableIn (x := nI 10) (off := 160) (tgt := 161) hx hb d_Cb_canBe_1 (by decide) (by decide) rfl (by decide) ?_
    refine lv_iload_n hx hb d_Cb_canBe_161 rfl (lv_at hl 2 rfl) ?_
    refine lv_aload_n hx hb d_Cb_canBe_162 rfl (lv_at hl 0 rfl) ?_
    refine va_get (D := G.1) (ci := 1) (v := .int (nI n)) (C := R_Cb) (T := T_Cb) (N := 3) hx hb hA in_Cb hown hK.1 (pl_o hP hB.2.1) 0 rfl rfl 2 (by decide) (hA _ kw_24) (fun _ h9 => h9) rfl d_Cb_canBe_163 ?_
    refine vp_callSi (va_Run.run (va_runSN (As := [.int x1, .int (nI n)]) (rest := []) ⟨hx, hb, hml, hown, hA⟩ (c_isBelow l G L f (x1) (nI n)) ⟨va_cnB 2 hA (gAW kw_4) rfl rfl rfl (hK.2.1 _ kz_1) (hA _ kw_5) (by decide +kernel) ⟨Nat.le_of_ble_eq_true rfl, Nat.le_of_ble_eq_true rfl⟩, (hA _ kw_6), trivial⟩ (pw_preS hP hK) rfl rfl hl.1 rfl (lv_room (Nat.le_of_ble_eq_true rfl)) d_Cb_canBe_166 ⟨Nat.zero_le _, Nat.zero_le _⟩)) (fun r_25 e_26 => ?_)
    subst e_26
    rcases bcase (blw (x1) (nI n)) with hb_0 | hb_0
    · refine lv_if_eq (tgt := 199) hx hb d_Cb_canBe_169 (by decide) (fun _ => ?_) (fun c9 => absurd (by rw [hb_0]; rfl) c9)
      refine lv_iconst (v := nI 0) hx hb d_Cb_canBe_199 (by decide) ?_
      exact W.zret (v := nI 0) (ty := .boolean) hx hb hr (bI_nar false) (fun t9 h9t h9W => ⟨_, rfl, by unfold cOK; rw [if_neg (by decide)]; rw [if_neg (by decide)]; rw [if_neg (by decide)]; rw [if_neg (by decide)]; rw [if_neg (by decide)]; rw [if_neg (by decide)]; rw [if_neg (by decide)]; rw [if_neg (by decide)]; rw [if_neg (by decide)]; rw [if_neg (by decide)]; rw [if_pos rfl]; rw [hb_0]; rfl, h9t⟩) (fun _ h => nomatch h) d_Cb_canBe_200
    · refine lv_if_eq (tgt := 199) hx hb d_Cb_canBe_169 (by decide) (fun c9 => absurd c9 (by rw [hb_0]; decide)) (fun _ => ?_)
      refine lv_iload_n hx hb d_Cb_canBe_172 rfl (lv_at hl 3 rfl) ?_
      refine lv_aload_n hx hb d_Cb_canBe_173 rfl (lv_at hl 0 rfl) ?_
      refine va_get (D := G.1) (ci := 1) (v := .int (nI n)) (C := R_Cb) (T := T_Cb) (N := 3) hx hb hA in_Cb hown hK.1 (pl_o hP hB.2.1) 0 rfl rfl 2 (by decide) (hA _ kw_24) (fun _ h9 => h9) rfl d_Cb_canBe_174 ?_
      refine vp_callSi (va_Run.run (va_runSN (As := [.int x2, .int (nI n)]) (rest := []) ⟨hx, hb, hml, hown, hA⟩ (c_isBelow l G L f (x2) (nI n)) ⟨va_cnB 2 hA (gAW kw_4) rfl rfl rfl (hK.2.1 _ kz_1) (hA _ kw_5) (by decide +kernel) ⟨Nat.le_of_ble_eq_true rfl, Nat.le_of_ble_eq_true rfl⟩, (hA _ kw_6), trivial⟩ (pw_preS hP hK) rfl rfl hl.1 rfl (lv_room (Nat.le_of_ble_eq_true rfl)) d_Cb_canBe_177 ⟨Nat.zero_le _, Nat.zero_le _⟩)) (fun r_27 e_28 => ?_)
      subst e_28
      rcases bcase (blw (x2) (nI n)) with hb_1 | hb_1
      · refine lv_if_eq (tgt := 199) hx hb d_Cb_canBe_180 (by decide) (fun _ => ?_) (fun c9 => absurd (by rw [hb_1]; rfl) c9)
        refine lv_iconst (v := nI 0) hx hb d_Cb_canBe_199 (by decide) ?_
        exact W.zret (v := nI 0) (ty := .boolean) hx hb hr (bI_nar false) (fun t9 h9t h9W => ⟨_, rfl, by unfold cOK; rw [if_neg (by decide)]; rw [if_neg (by decide)]; rw [if_neg (by decide)]; rw [if_neg (by decide)]; rw [if_neg (by decide)]; rw [if_neg (by decide)]; rw [if_neg (by decide)]; rw [if_neg (by decide)]; rw [if_neg (by decide)]; rw [if_neg (by decide)]; rw [if_pos rfl]; rw [hb_0, hb_1]; rfl, h9t⟩) (fun _ h => nomatch h) d_Cb_canBe_200
      · refine lv_if_eq (tgt := 199) hx hb d_Cb_canBe_180 (by decide) (fun c9 => absurd c9 (by rw [hb_1]; decide)) (fun _ => ?_)
        refine lv_iload hx hb d_Cb_canBe_183 (lv_at hl 4 rfl) ?_
        refine lv_aload_n hx hb d_Cb_canBe_185 rfl (lv_at hl 0 rfl) ?_
        refine va_get (D := G.1) (ci := 1) (v := .int (nI n)) (C := R_Cb) (T := T_Cb) (N := 3) hx hb hA in_Cb hown hK.1 (pl_o hP hB.2.1) 0 rfl rfl 2 (by decide) (hA _ kw_24) (fun _ h9 => h9) rfl d_Cb_canBe_186 ?_
        refine vp_callSi (va_Run.run (va_runSN (As := [.int x3, .int (nI n)]) (rest := []) ⟨hx, hb, hml, hown, hA⟩ (c_isBelow l G L f (x3) (nI n)) ⟨va_cnB 2 hA (gAW kw_4) rfl rfl rfl (hK.2.1 _ kz_1) (hA _ kw_5) (by decide +kernel) ⟨Nat.le_of_ble_eq_true rfl, Nat.le_of_ble_eq_true rfl⟩, (hA _ kw_6), trivial⟩ (pw_preS hP hK) rfl rfl hl.1 rfl (lv_room (Nat.le_of_ble_eq_true rfl)) d_Cb_canBe_189 ⟨Nat.zero_le _, Nat.zero_le _⟩)) (fun r_29 e_30 => ?_)
        subst e_30
        rcases bcase (blw (x3) (nI n)) with hb_2 | hb_2
        · refine lv_if_eq (tgt := 199) hx hb d_Cb_canBe_192 (by decide) (fun _ => ?_) (fun c9 => absurd (by rw [hb_2]; rfl) c9)
          refine lv_iconst (v := nI 0) hx hb d_Cb_canBe_199 (by decide) ?_
          exact W.zret (v := nI 0) (ty := .boolean) hx hb hr (bI_nar false) (fun t9 h9t h9W => ⟨_, rfl, by unfold cOK; rw [if_neg (by decide)]; rw [if_neg (by decide)]; rw [if_neg (by decide)]; rw [if_neg (by decide)]; rw [if_neg (by decide)]; rw [if_neg (by decide)]; rw [if_neg (by decide)]; rw [if_neg (by decide)]; rw [if_neg (by decide)]; rw [if_neg (by decide)]; rw [if_pos rfl]; rw [hb_0, hb_1, hb_2]; rfl, h9t⟩) (fun _ h => nomatch h) d_Cb_canBe_200
        · refine lv_if_eq (tgt := 199) hx hb d_Cb_canBe_192 (by decide) (fun c9 => absurd c9 (by rw [hb_2]; decide)) (fun _ => ?_)
          refine lv_iconst (v := nI 1) hx hb d_Cb_canBe_195 (by decide) ?_
          refine lv_goto (tgt := 200) hx hb d_Cb_canBe_196 (by decide) ?_
          exact W.zret (v := nI 1) (ty := .boolean) hx hb hr (bI_nar true) (fun t9 h9t h9W => ⟨_, rfl, by unfold cOK; rw [if_neg (by decide)]; rw [if_neg (by decide)]; rw [if_neg (by decide)]; rw [if_neg (by decide)]; rw [if_neg (by decide)]; rw [if_neg (by decide)]; rw [if_neg (by decide)]; rw [if_neg (by decide)]; rw [if_neg (by decide)]; rw [if_neg (by decide)]; rw [if_pos rfl]; rw [hb_0, hb_1, hb_2]; rfl, h9t⟩) (fun _ h => nomatch h) d_Cb_canBe_200
  · refine lv_iload_n hx hb d_Cb_canBe_0 rfl (lv_at hl 1 rfl) ?_
    refine lv_tableOut (tgt := 201) hx hb d_Cb_canBe_1 hk (by decide) ?_
    refine lv_iconst (v := nI 0) hx hb d_Cb_canBe_201 (by decide) ?_
    exact W.zret (v := nI 0) (ty := .boolean) hx hb hr (bI_nar false) (fun t9 h9t h9W => ⟨_, rfl, by unfold cOK; rw [if_neg (k11_no hk (show 0 < 11 by decide)), if_neg (k11_no hk (show 1 < 11 by decide)), if_neg (k11_no hk (show 2 < 11 by decide)), if_neg (k11_no hk (show 3 < 11 by decide)), if_neg (k11_no hk (show 4 < 11 by decide)), if_neg (k11_no hk (show 5 < 11 by decide)), if_neg (k11_no hk (show 6 < 11 by decide)), if_neg (k11_no hk (show 7 < 11 by decide)), if_neg (k11_no hk (show 8 < 11 by decide)), if_neg (k11_no hk (show 9 < 11 by decide)), if_neg (k11_no hk (show 10 < 11 by decide))]; rfl, h9t⟩) (fun _ h => nomatch h) d_Cb_canBe_202

set_option maxHeartbeats 4000000 in
set_option maxRecDepth 100000 in
/-- putTogether -/
theorem c_Cb_put (l : Launch) (G : GG) (L : List Nat) (f : Nat → va_E) {cb mA gA n : Nat} {ad wa kd : Nat → Nat} {ka kb kc : Nat → Int32} {wd : Nat → Nat → Int64} {mm : Nat → Bool} (hB : CoB G L f cb mA gA n ad wa kd ka kb kc wd mm) {it iw k a b c_ : Nat} {xa xb xc : Int32} (hit : Lk L f it (.inr (0, [.int (nI k), .int xa, .int xb, .int xc, .ref iw]))) (ho : okC n k xa xb xc a b c_) (j : Nat) (hj : j < 96) (h6_ : 6 ≤ k) : Met l y_Cb_putTogether (.code y_Cb_putTogether b_Cb_putTogether 3 (some .long) :: AW) (RM 3) (va_Pc [.ref cb, .ref it, .int (nI j)] (PW G L f)) (vp_Sl (fun r => r = wrd mm wd k a b c_ j)) 0 0 (fun _ => False) := by
  refine Met.ofW (cc := b_Cb_putTogether) (maxL := 3) (ret := (some .long)) (by decide) rfl ?_
  intro p e s m args below meth c s₁ B hml hv
  obtain ⟨rfl, hP, hK⟩ := hv
  have hx := B.exec
  have hb := B.bytes
  have hr := B.returns
  have hA : ∀ w ∈ AW, w.before _ s = true := fun w h => atoms_spec (ws := (.code y_Cb_putTogether b_Cb_putTogether 3 (some .long) :: AW)) B.pre w (List.mem_cons_of_mem _ h)
  have hown : s.vm.findClass R_Cb = some m.cls := findClass_of_methodNamed B.named
  have hlocks := B.notSynchronized
  have hl := lv_entry ([.ref cb, .ref it, .int (nI j)]) (n := 3) (Nat.le_of_ble_eq_true rfl)
  rw [lg_entry_eq]
  generalize (lg_sl ([.ref cb, .ref it, .int (nI j)]) ++ List.replicate (3 - (lg_sl ([.ref cb, .ref it, .int (nI j)])).length) Slot.unset).toArray = ls at hl ⊢
  have hl : lv_has ls 3 [(0, .ref cb), (1, .ref it), (2, .int (nI j))] := hl
  have hn := hB.1
  obtain ⟨hk10, hoa, hob, hoc, -, -, -, -, -, -, h6, h7, h10⟩ := ho
  rcases (show k = 6 ∨ k = 7 ∨ k = 8 ∨ k = 9 ∨ k = 10 by omega) with hk | hk | hk | hk | hk
  · obtain rfl : k = 6 := hk
    obtain rfl := hoa (by decide)
    have hb1 := h6 rfl
    refine lv_aload_n hx hb d_Cb_putTogether_0 rfl (lv_at hl 1 rfl) ?_
    refine va_getN (D := G.1) (ci := 0) (v := .int (nI 6)) (C := R_Co) (T := T_Co) (N := 5) hx hb hA in_Co hown hK.1 (pl_o hP hit) 0 rfl rfl 0 (by decide) (va_Nw.use rfl (hK.2.1 _ kz_5)) (fun _ h9 => h9) rfl d_Cb_putTogether_1 ?_
    refine lv_tableIn (x := nI 6) (off := 36) (tgt := 40) hx hb d_Cb_putTogether_4 (by decide) (by decide) rfl (by decide) ?_
    refine lv_aload_n hx hb d_Cb_putTogether_40 rfl (lv_at hl 0 rfl) ?_
    refine lv_aload_n hx hb d_Cb_putTogether_41 rfl (lv_at hl 1 rfl) ?_
    refine va_getN (D := G.1) (ci := 0) (v := .int (nI a)) (C := R_Co) (T := T_Co) (N := 5) hx hb hA in_Co hown hK.1 (pl_o hP hit) 0 rfl rfl 1 (by decide) (va_Nw.use rfl (hK.2.1 _ kz_6)) (fun _ h9 => h9) rfl d_Cb_putTogether_42 ?_
    refine lv_iload_n hx hb d_Cb_putTogether_45 rfl (lv_at hl 2 rfl) ?_
    refine vp_callSl (va_Run.run (va_runV (As := [.int (nI a), .int (nI j)]) (rest := []) ⟨hx, hb, hml, hown, hA⟩ (c_Cb_wordOf l G L f hB a j (by omega) hj) ⟨callB_of 2 hA (gAW kw_25) rfl rfl rfl (hA _ kw_19) (hA _ kw_26) (by decide +kernel) ⟨Nat.le_of_ble_eq_true rfl, Nat.le_of_ble_eq_true rfl⟩, (hA _ kw_27), (hA _ kw_28)⟩ (pw_preV (ci := 1) hP hK hB.2.1 rfl) rfl rfl hl.1 rfl (lv_room (Nat.le_of_ble_eq_true rfl)) d_Cb_putTogether_46 ⟨Nat.zero_le _, Nat.zero_le _⟩)) (fun r_1 e_2 => ?_)
    subst e_2
    refine lv_ldc2 (v := (-1)) hx hb hown (hA _ kw_29) d_Cb_putTogether_49 ?_
    refine lv_lxor hx hb d_Cb_putTogether_52 ?_
    exact W.lret (v := (wd a j) ^^^ (-1)) hx hb hr (fun t9 h9t h9W => ⟨_, rfl, rfl, h9t⟩) (fun _ h => nomatch h) d_Cb_putTogether_53
  · obtain rfl : k = 7 := hk
    obtain rfl := hoa (by decide)
    obtain rfl := hob (by decide)
    have hb1 := h7 (by decide)
    refine lv_aload_n hx hb d_Cb_putTogether_0 rfl (lv_at hl 1 rfl) ?_
    refine va_getN (D := G.1) (ci := 0) (v := .int (nI 7)) (C := R_Co) (T := T_Co) (N := 5) hx hb hA in_Co hown hK.1 (pl_o hP hit) 0 rfl rfl 0 (by decide) (va_Nw.use rfl (hK.2.1 _ kz_5)) (fun _ h9 => h9) rfl d_Cb_putTogether_1 ?_
    refine lv_tableIn (x := nI 7) (off := 50) (tgt := 54) hx hb d_Cb_putTogether_4 (by decide) (by decide) rfl (by decide) ?_
    refine lv_aload_n hx hb d_Cb_putTogether_54 rfl (lv_at hl 0 rfl) ?_
    refine lv_aload_n hx hb d_Cb_putTogether_55 rfl (lv_at hl 1 rfl) ?_
    refine va_getN (D := G.1) (ci := 0) (v := .int (nI a)) (C := R_Co) (T := T_Co) (N := 5) hx hb hA in_Co hown hK.1 (pl_o hP hit) 0 rfl rfl 1 (by decide) (va_Nw.use rfl (hK.2.1 _ kz_6)) (fun _ h9 => h9) rfl d_Cb_putTogether_56 ?_
    refine lv_iload_n hx hb d_Cb_putTogether_59 rfl (lv_at hl 2 rfl) ?_
    refine vp_callSl (va_Run.run (va_runV (As := [.int (nI a), .int (nI j)]) (rest := []) ⟨hx, hb, hml, hown, hA⟩ (c_Cb_wordOf l G L f hB a j (by omega) hj) ⟨callB_of 2 hA (gAW kw_25) rfl rfl rfl (hA _ kw_19) (hA _ kw_26) (by decide +kernel) ⟨Nat.le_of_ble_eq_true rfl, Nat.le_of_ble_eq_true rfl⟩, (hA _ kw_27), (hA _ kw_28)⟩ (pw_preV (ci := 1) hP hK hB.2.1 rfl) rfl rfl hl.1 rfl (lv_room (Nat.le_of_ble_eq_true rfl)) d_Cb_putTogether_60 ⟨Nat.zero_le _, Nat.zero_le _⟩)) (fun r_3 e_4 => ?_)
    subst e_4
    refine lv_aload_n hx hb d_Cb_putTogether_63 rfl (lv_at hl 0 rfl) ?_
    refine lv_aload_n hx hb d_Cb_putTogether_64 rfl (lv_at hl 1 rfl) ?_
    refine va_getN (D := G.1) (ci := 0) (v := .int (nI b)) (C := R_Co) (T := T_Co) (N := 5) hx hb hA in_Co hown hK.1 (pl_o hP hit) 0 rfl rfl 2 (by decide) (va_Nw.use rfl (hK.2.1 _ kz_7)) (fun _ h9 => h9) rfl d_Cb_putTogether_65 ?_
    refine lv_iload_n hx hb d_Cb_putTogether_68 rfl (lv_at hl 2 rfl) ?_
    refine vp_callSl (va_Run.run (va_runV (As := [.int (nI b), .int (nI j)]) (rest := [.long (wd a j)]) ⟨hx, hb, hml, hown, hA⟩ (c_Cb_wordOf l G L f hB b j (by omega) hj) ⟨callB_of 2 hA (gAW kw_25) rfl rfl rfl (hA _ kw_19) (hA _ kw_26) (by decide +kernel) ⟨Nat.le_of_ble_eq_true rfl, Nat.le_of_ble_eq_true rfl⟩, (hA _ kw_27), (hA _ kw_28)⟩ (pw_preV (ci := 1) hP hK hB.2.1 rfl) rfl rfl hl.1 rfl (lv_room (Nat.le_of_ble_eq_true rfl)) d_Cb_putTogether_69 ⟨Nat.zero_le _, Nat.zero_le _⟩)) (fun r_5 e_6 => ?_)
    subst e_6
    refine lv_land hx hb d_Cb_putTogether_72 ?_
    exact W.lret (v := (wd a j) &&& (wd b j)) hx hb hr (fun t9 h9t h9W => ⟨_, rfl, rfl, h9t⟩) (fun _ h => nomatch h) d_Cb_putTogether_73
  · obtain rfl : k = 8 := hk
    obtain rfl := hoa (by decide)
    obtain rfl := hob (by decide)
    have hb1 := h7 (by decide)
    refine lv_aload_n hx hb d_Cb_putTogether_0 rfl (lv_at hl 1 rfl) ?_
    refine va_getN (D := G.1) (ci := 0) (v := .int (nI 8)) (C := R_Co) (T := T_Co) (N := 5) hx hb hA in_Co hown hK.1 (pl_o hP hit) 0 rfl rfl 0 (by decide) (va_Nw.use rfl (hK.2.1 _ kz_5)) (fun _ h9 => h9) rfl d_Cb_putTogether_1 ?_
    refine lv_tableIn (x := nI 8) (off := 70) (tgt := 74) hx hb d_Cb_putTogether_4 (by decide) (by decide) rfl (by decide) ?_
    refine lv_aload_n hx hb d_Cb_putTogether_74 rfl (lv_at hl 0 rfl) ?_
    refine lv_aload_n hx hb d_Cb_putTogether_75 rfl (lv_at hl 1 rfl) ?_
    refine va_getN (D := G.1) (ci := 0) (v := .int (nI a)) (C := R_Co) (T := T_Co) (N := 5) hx hb hA in_Co hown hK.1 (pl_o hP hit) 0 rfl rfl 1 (by decide) (va_Nw.use rfl (hK.2.1 _ kz_6)) (fun _ h9 => h9) rfl d_Cb_putTogether_76 ?_
    refine lv_iload_n hx hb d_Cb_putTogether_79 rfl (lv_at hl 2 rfl) ?_
    refine vp_callSl (va_Run.run (va_runV (As := [.int (nI a), .int (nI j)]) (rest := []) ⟨hx, hb, hml, hown, hA⟩ (c_Cb_wordOf l G L f hB a j (by omega) hj) ⟨callB_of 2 hA (gAW kw_25) rfl rfl rfl (hA _ kw_19) (hA _ kw_26) (by decide +kernel) ⟨Nat.le_of_ble_eq_true rfl, Nat.le_of_ble_eq_true rfl⟩, (hA _ kw_27), (hA _ kw_28)⟩ (pw_preV (ci := 1) hP hK hB.2.1 rfl) rfl rfl hl.1 rfl (lv_room (Nat.le_of_ble_eq_true rfl)) d_Cb_putTogether_80 ⟨Nat.zero_le _, Nat.zero_le _⟩)) (fun r_7 e_8 => ?_)
    subst e_8
    refine lv_aload_n hx hb d_Cb_putTogether_83 rfl (lv_at hl 0 rfl) ?_
    refine lv_aload_n hx hb d_Cb_putTogether_84 rfl (lv_at hl 1 rfl) ?_
    refine va_getN (D := G.1) (ci := 0) (v := .int (nI b)) (C := R_Co) (T := T_Co) (N := 5) hx hb hA in_Co hown hK.1 (pl_o hP hit) 0 rfl rfl 2 (by decide) (va_Nw.use rfl (hK.2.1 _ kz_7)) (fun _ h9 => h9) rfl d_Cb_putTogether_85 ?_
    refine lv_iload_n hx hb d_Cb_putTogether_88 rfl (lv_at hl 2 rfl) ?_
    refine vp_callSl (va_Run.run (va_runV (As := [.int (nI b), .int (nI j)]) (rest := [.long (wd a j)]) ⟨hx, hb, hml, hown, hA⟩ (c_Cb_wordOf l G L f hB b j (by omega) hj) ⟨callB_of 2 hA (gAW kw_25) rfl rfl rfl (hA _ kw_19) (hA _ kw_26) (by decide +kernel) ⟨Nat.le_of_ble_eq_true rfl, Nat.le_of_ble_eq_true rfl⟩, (hA _ kw_27), (hA _ kw_28)⟩ (pw_preV (ci := 1) hP hK hB.2.1 rfl) rfl rfl hl.1 rfl (lv_room (Nat.le_of_ble_eq_true rfl)) d_Cb_putTogether_89 ⟨Nat.zero_le _, Nat.zero_le _⟩)) (fun r_9 e_10 => ?_)
    subst e_10
    refine lv_lor hx hb d_Cb_putTogether_92 ?_
    exact W.lret (v := (wd a j) ||| (wd b j)) hx hb hr (fun t9 h9t h9W => ⟨_, rfl, rfl, h9t⟩) (fun _ h => nomatch h) d_Cb_putTogether_93
  · obtain rfl : k = 9 := hk
    skip
    refine lv_aload_n hx hb d_Cb_putTogether_0 rfl (lv_at hl 1 rfl) ?_
    refine va_getN (D := G.1) (ci := 0) (v := .int (nI 9)) (C := R_Co) (T := T_Co) (N := 5) hx hb hA in_Co hown hK.1 (pl_o hP hit) 0 rfl rfl 0 (by decide) (va_Nw.use rfl (hK.2.1 _ kz_5)) (fun _ h9 => h9) rfl d_Cb_putTogether_1 ?_
    refine lv_tableIn (x := nI 9) (off := 90) (tgt := 94) hx hb d_Cb_putTogether_4 (by decide) (by decide) rfl (by decide) ?_
    refine lv_ldc2 (v := (-1)) hx hb hown (hA _ kw_29) d_Cb_putTogether_94 ?_
    exact W.lret (v := (-1)) hx hb hr (fun t9 h9t h9W => ⟨_, rfl, rfl, h9t⟩) (fun _ h => nomatch h) d_Cb_putTogether_97
  · obtain rfl : k = 10 := hk
    obtain rfl := hoa (by decide)
    obtain rfl := hob (by decide)
    obtain rfl := hoc (by decide)
    have hb1 := h10 rfl
    refine lv_aload_n hx hb d_Cb_putTogether_0 rfl (lv_at hl 1 rfl) ?_
    refine va_getN (D := G.1) (ci := 0) (v := .int (nI 10)) (C := R_Co) (T := T_Co) (N := 5) hx hb hA in_Co hown hK.1 (pl_o hP hit) 0 rfl rfl 0 (by decide) (va_Nw.use rfl (hK.2.1 _ kz_5)) (fun _ h9 => h9) rfl d_Cb_putTogether_1 ?_
    refine lv_tableIn (x := nI 10) (off := 94) (tgt := 98) hx hb d_Cb_putTogether_4 (by decide) (by decide) rfl (by decide) ?_
    refine lv_aload_n hx hb d_Cb_putTogether_98 rfl (lv_at hl 0 rfl) ?_
    refine lv_aload_n hx hb d_Cb_putTogether_99 rfl (lv_at hl 1 rfl) ?_
    refine va_getN (D := G.1) (ci := 0) (v := .int (nI a)) (C := R_Co) (T := T_Co) (N := 5) hx hb hA in_Co hown hK.1 (pl_o hP hit) 0 rfl rfl 1 (by decide) (va_Nw.use rfl (hK.2.1 _ kz_6)) (fun _ h9 => h9) rfl d_Cb_putTogether_100 ?_
    refine lv_iload_n hx hb d_Cb_putTogether_103 rfl (lv_at hl 2 rfl) ?_
    refine vp_callSl (va_Run.run (va_runV (As := [.int (nI a), .int (nI j)]) (rest := []) ⟨hx, hb, hml, hown, hA⟩ (c_Cb_wordOf l G L f hB a j (by omega) hj) ⟨callB_of 2 hA (gAW kw_25) rfl rfl rfl (hA _ kw_19) (hA _ kw_26) (by decide +kernel) ⟨Nat.le_of_ble_eq_true rfl, Nat.le_of_ble_eq_true rfl⟩, (hA _ kw_27), (hA _ kw_28)⟩ (pw_preV (ci := 1) hP hK hB.2.1 rfl) rfl rfl hl.1 rfl (lv_room (Nat.le_of_ble_eq_true rfl)) d_Cb_putTogether_104 ⟨Nat.zero_le _, Nat.zero_le _⟩)) (fun r_11 e_12 => ?_)
    subst e_12
    refine lv_aload_n hx hb d_Cb_putTogether_107 rfl (lv_at hl 0 rfl) ?_
    refine lv_aload_n hx hb d_Cb_putTogether_108 rfl (lv_at hl 1 rfl) ?_
    refine va_getN (D := G.1) (ci := 0) (v := .int (nI b)) (C := R_Co) (T := T_Co) (N := 5) hx hb hA in_Co hown hK.1 (pl_o hP hit) 0 rfl rfl 2 (by decide) (va_Nw.use rfl (hK.2.1 _ kz_7)) (fun _ h9 => h9) rfl d_Cb_putTogether_109 ?_
    refine lv_iload_n hx hb d_Cb_putTogether_112 rfl (lv_at hl 2 rfl) ?_
    refine vp_callSl (va_Run.run (va_runV (As := [.int (nI b), .int (nI j)]) (rest := [.long (wd a j)]) ⟨hx, hb, hml, hown, hA⟩ (c_Cb_wordOf l G L f hB b j (by omega) hj) ⟨callB_of 2 hA (gAW kw_25) rfl rfl rfl (hA _ kw_19) (hA _ kw_26) (by decide +kernel) ⟨Nat.le_of_ble_eq_true rfl, Nat.le_of_ble_eq_true rfl⟩, (hA _ kw_27), (hA _ kw_28)⟩ (pw_preV (ci := 1) hP hK hB.2.1 rfl) rfl rfl hl.1 rfl (lv_room (Nat.le_of_ble_eq_true rfl)) d_Cb_putTogether_113 ⟨Nat.zero_le _, Nat.zero_le _⟩)) (fun r_13 e_14 => ?_)
    subst e_14
    refine lv_aload_n hx hb d_Cb_putTogether_116 rfl (lv_at hl 0 rfl) ?_
    refine lv_aload_n hx hb d_Cb_putTogether_117 rfl (lv_at hl 1 rfl) ?_
    refine va_getN (D := G.1) (ci := 0) (v := .int (nI c_)) (C := R_Co) (T := T_Co) (N := 5) hx hb hA in_Co hown hK.1 (pl_o hP hit) 0 rfl rfl 3 (by decide) (va_Nw.use rfl (hK.2.1 _ kz_8)) (fun _ h9 => h9) rfl d_Cb_putTogether_118 ?_
    refine lv_iload_n hx hb d_Cb_putTogether_121 rfl (lv_at hl 2 rfl) ?_
    refine vp_callSl (va_Run.run (va_runV (As := [.int (nI c_), .int (nI j)]) (rest := [.long (wd b j), .long (wd a j)]) ⟨hx, hb, hml, hown, hA⟩ (c_Cb_wordOf l G L f hB c_ j (by omega) hj) ⟨callB_of 2 hA (gAW kw_25) rfl rfl rfl (hA _ kw_19) (hA _ kw_26) (by decide +kernel) ⟨Nat.le_of_ble_eq_true rfl, Nat.le_of_ble_eq_true rfl⟩, (hA _ kw_27), (hA _ kw_28)⟩ (pw_preV (ci := 1) hP hK hB.2.1 rfl) rfl rfl hl.1 rfl (lv_room (Nat.le_of_ble_eq_true rfl)) d_Cb_putTogether_122 ⟨Nat.zero_le _, Nat.zero_le _⟩)) (fun r_15 e_16 => ?_)
    subst e_16
    refine vp_callSl (va_Run.run (va_runS (As := [.long (wd a j), .long (wd b j), .long (wd c_ j)]) (rest := []) ⟨hx, hb, hml, hown, hA⟩ (c_Cb_two3 l G L f (wd a j) (wd b j) (wd c_ j)) ⟨callB_of 3 hA (gAW kw_30) rfl rfl rfl (hA _ kw_19) (hA _ kw_31) (by decide +kernel) ⟨Nat.le_of_ble_eq_true rfl, Nat.le_of_ble_eq_true rfl⟩, (hA _ kw_32)⟩ (pw_preS hP hK) rfl rfl hl.1 rfl (lv_room (Nat.le_of_ble_eq_true rfl)) d_Cb_putTogether_125 ⟨Nat.zero_le _, Nat.zero_le _⟩)) (fun r_17 e_18 => ?_)
    subst e_18
    exact W.lret (v := two3 (wd a j) (wd b j) (wd c_ j)) hx hb hr (fun t9 h9t h9W => ⟨_, rfl, rfl, h9t⟩) (fun _ h => nomatch h) d_Cb_putTogether_128

set_option maxHeartbeats 4000000 in
set_option maxRecDepth 100000 in
/-- workOut -/
theorem c_Cb_work (l : Launch) (G : GG) (L : List Nat) (f : Nat → va_E) {cb mA gA n : Nat} {ad wa kd : Nat → Nat} {ka kb kc : Nat → Int32} {wd : Nat → Nat → Int64} {mm : Nat → Bool} (hB : CoB G L f cb mA gA n ad wa kd ka kb kc wd mm) {it iw k a b c_ : Nat} {xa xb xc : Int32} (hit : Lk L f it (.inr (0, [.int (nI k), .int xa, .int xb, .int xc, .ref iw]))) (ho : okC n k xa xb xc a b c_) (j : Nat) (hj : j < 96) : Met l y_Cb_workOut (.code y_Cb_workOut b_Cb_workOut 3 (some .long) :: AW) (RM 4) (va_Pc [.ref cb, .ref it, .int (nI j)] (PW G L f)) (vp_Sl (fun r => r = wrd mm wd k a b c_ j)) 0 0 (fun _ => False) := by
  refine Met.ofW (cc := b_Cb_workOut) (maxL := 3) (ret := (some .long)) (by decide) rfl ?_
  intro p e s m args below meth c s₁ B hml hv
  obtain ⟨rfl, hP, hK⟩ := hv
  have hx := B.exec
  have hb := B.bytes
  have hr := B.returns
  have hA : ∀ w ∈ AW, w.before _ s = true := fun w h => atoms_spec (ws := (.code y_Cb_workOut b_Cb_workOut 3 (some .long) :: AW)) B.pre w (List.mem_cons_of_mem _ h)
  have hown : s.vm.findClass R_Cb = some m.cls := findClass_of_methodNamed B.named
  have hlocks := B.notSynchronized
  have hl := lv_entry ([.ref cb, .ref it, .int (nI j)]) (n := 3) (Nat.le_of_ble_eq_true rfl)
  rw [lg_entry_eq]
  generalize (lg_sl ([.ref cb, .ref it, .int (nI j)]) ++ List.replicate (3 - (lg_sl ([.ref cb, .ref it, .int (nI j)])).length) Slot.unset).toArray = ls at hl ⊢
  have hl : lv_has ls 3 [(0, .ref cb), (1, .ref it), (2, .int (nI j))] := hl
  have hn := hB.1
  have ho_ := ho
  obtain ⟨hk10, hoa, hob, hoc, h0, h1, h2, h3, h4, h5, -, -, -⟩ := ho
  rcases (show k = 0 ∨ k = 1 ∨ k = 2 ∨ k = 3 ∨ k = 4 ∨ k = 5 ∨ 6 ≤ k by omega) with hk | hk | hk | hk | hk | hk | hk
  · obtain rfl : k = 0 := hk
    obtain rfl := hoa (by decide)
    have hb1 := h0 rfl
    refine lv_aload_n hx hb d_Cb_workOut_0 rfl (lv_at hl 1 rfl) ?_
    refine va_getN (D := G.1) (ci := 0) (v := .int (nI 0)) (C := R_Co) (T := T_Co) (N := 5) hx hb hA in_Co hown hK.1 (pl_o hP hit) 0 rfl rfl 0 (by decide) (va_Nw.use rfl (hK.2.1 _ kz_5)) (fun _ h9 => h9) rfl d_Cb_workOut_1 ?_
    refine lv_tableIn (x := nI 0) (off := 40) (tgt := 44) hx hb d_Cb_workOut_4 (by decide) (by decide) rfl (by decide) ?_
    refine lv_iload_n hx hb d_Cb_workOut_44 rfl (lv_at hl 2 rfl) ?_
    refine lv_bipush (v := nI 12) hx hb d_Cb_workOut_45 (by decide) ?_
    refine lv_idiv hx hb d_Cb_workOut_47 (by decide) ?_
    refine xv_I (y := nI (j / 12)) (pk_div (by omega) (by decide) (by decide)) ?_
    refine lv_aload_n hx hb d_Cb_workOut_48 rfl (lv_at hl 1 rfl) ?_
    refine va_getN (D := G.1) (ci := 0) (v := .int (nI a)) (C := R_Co) (T := T_Co) (N := 5) hx hb hA in_Co hown hK.1 (pl_o hP hit) 0 rfl rfl 1 (by decide) (va_Nw.use rfl (hK.2.1 _ kz_6)) (fun _ h9 => h9) rfl d_Cb_workOut_49 ?_
    by_cases he : j / 12 = a
    · refine lv_icmp_ne (tgt := 61) hx hb d_Cb_workOut_52 (by decide) (fun c9 => absurd (congrArg nI he) c9) (fun _ => ?_)
      refine lv_ldc2 (v := (-1)) hx hb hown (hA _ kw_29) d_Cb_workOut_55 ?_
      refine lv_goto (tgt := 62) hx hb d_Cb_workOut_58 (by decide) ?_
      exact W.lret (v := (-1)) hx hb hr (fun t9 h9t h9W => ⟨_, rfl, by unfold wrd; rw [if_pos rfl]; rw [if_pos he], h9t⟩) (fun _ h => nomatch h) d_Cb_workOut_62
    · refine lv_icmp_ne (tgt := 61) hx hb d_Cb_workOut_52 (by decide) (fun _ => ?_) (fun c9 => absurd c9 (fun q => he ((nI_eq (by omega) (by omega)).mp q)))
      refine lv_lconst (v := 0) hx hb d_Cb_workOut_61 (by decide) ?_
      exact W.lret (v := 0) hx hb hr (fun t9 h9t h9W => ⟨_, rfl, by unfold wrd; rw [if_pos rfl]; rw [if_neg he], h9t⟩) (fun _ h => nomatch h) d_Cb_workOut_62
  · obtain rfl : k = 1 := hk
    obtain rfl := hoa (by decide)
    have hb1 := h1 rfl
    refine lv_aload_n hx hb d_Cb_workOut_0 rfl (lv_at hl 1 rfl) ?_
    refine va_getN (D := G.1) (ci := 0) (v := .int (nI 1)) (C := R_Co) (T := T_Co) (N := 5) hx hb hA in_Co hown hK.1 (pl_o hP hit) 0 rfl rfl 0 (by decide) (va_Nw.use rfl (hK.2.1 _ kz_5)) (fun _ h9 => h9) rfl d_Cb_workOut_1 ?_
    refine lv_tableIn (x := nI 1) (off := 59) (tgt := 63) hx hb d_Cb_workOut_4 (by decide) (by decide) rfl (by decide) ?_
    refine lv_aload_n hx hb d_Cb_workOut_63 rfl (lv_at hl 0 rfl) ?_
    refine lv_iload_n hx hb d_Cb_workOut_64 rfl (lv_at hl 2 rfl) ?_
    refine lv_bipush (v := nI 12) hx hb d_Cb_workOut_65 (by decide) ?_
    refine lv_idiv hx hb d_Cb_workOut_67 (by decide) ?_
    refine xv_I (y := nI (j / 12)) (pk_div (by omega) (by decide) (by decide)) ?_
    refine lv_aload_n hx hb d_Cb_workOut_68 rfl (lv_at hl 1 rfl) ?_
    refine va_getN (D := G.1) (ci := 0) (v := .int (nI a)) (C := R_Co) (T := T_Co) (N := 5) hx hb hA in_Co hown hK.1 (pl_o hP hit) 0 rfl rfl 1 (by decide) (va_Nw.use rfl (hK.2.1 _ kz_6)) (fun _ h9 => h9) rfl d_Cb_workOut_69 ?_
    refine vp_callSi (va_Run.run (va_runV (As := [.int (nI (j / 12)), .int (nI a)]) (rest := []) ⟨hx, hb, hml, hown, hA⟩ (c_Cb_isM l G L f hB (j / 12) a (by omega) hb1) ⟨callB_of 2 hA (gAW kw_33) rfl rfl rfl (hA _ kw_19) (hA _ kw_34) (by decide +kernel) ⟨Nat.le_of_ble_eq_true rfl, Nat.le_of_ble_eq_true rfl⟩, (hA _ kw_35), (hA _ kw_36)⟩ (pw_preV (ci := 1) hP hK hB.2.1 rfl) rfl rfl hl.1 rfl (lv_room (Nat.le_of_ble_eq_true rfl)) d_Cb_workOut_72 ⟨Nat.zero_le _, Nat.zero_le _⟩)) (fun r_1 e_2 => ?_)
    subst e_2
    rcases bcase (mm (j / 12 * 8 + a)) with hm_ | hm_
    · refine lv_if_eq (tgt := 84) hx hb d_Cb_workOut_75 (by decide) (fun _ => ?_) (fun c9 => absurd (by rw [hm_]; rfl) c9)
      refine lv_lconst (v := 0) hx hb d_Cb_workOut_84 (by decide) ?_
      exact W.lret (v := 0) hx hb hr (fun t9 h9t h9W => ⟨_, rfl, by unfold wrd; rw [if_neg (by decide), if_pos rfl, hm_]; rfl, h9t⟩) (fun _ h => nomatch h) d_Cb_workOut_85
    · refine lv_if_eq (tgt := 84) hx hb d_Cb_workOut_75 (by decide) (fun c9 => absurd c9 (by rw [hm_]; decide)) (fun _ => ?_)
      refine lv_ldc2 (v := (-1)) hx hb hown (hA _ kw_29) d_Cb_workOut_78 ?_
      refine lv_goto (tgt := 85) hx hb d_Cb_workOut_81 (by decide) ?_
      exact W.lret (v := (-1)) hx hb hr (fun t9 h9t h9W => ⟨_, rfl, by unfold wrd; rw [if_neg (by decide), if_pos rfl, hm_]; rfl, h9t⟩) (fun _ h => nomatch h) d_Cb_workOut_85
  · obtain rfl : k = 2 := hk
    obtain rfl := hoa (by decide)
    have hb1 := h2 rfl
    refine lv_aload_n hx hb d_Cb_workOut_0 rfl (lv_at hl 1 rfl) ?_
    refine va_getN (D := G.1) (ci := 0) (v := .int (nI 2)) (C := R_Co) (T := T_Co) (N := 5) hx hb hA in_Co hown hK.1 (pl_o hP hit) 0 rfl rfl 0 (by decide) (va_Nw.use rfl (hK.2.1 _ kz_5)) (fun _ h9 => h9) rfl d_Cb_workOut_1 ?_
    refine lv_tableIn (x := nI 2) (off := 82) (tgt := 86) hx hb d_Cb_workOut_4 (by decide) (by decide) rfl (by decide) ?_
    refine lv_iload_n hx hb d_Cb_workOut_86 rfl (lv_at hl 2 rfl) ?_
    refine lv_bipush (v := nI 12) hx hb d_Cb_workOut_87 (by decide) ?_
    refine lv_irem hx hb d_Cb_workOut_89 (by decide) ?_
    refine xv_I (y := nI (j % 12)) (pk_rem (by omega) (by decide) (by decide)) ?_
    refine lv_iconst (v := nI 3) hx hb d_Cb_workOut_90 (by decide) ?_
    refine lv_idiv hx hb d_Cb_workOut_91 (by decide) ?_
    refine xv_I (y := nI (j % 12 / 3)) (pk_div (by omega) (by decide) (by decide)) ?_
    refine lv_aload_n hx hb d_Cb_workOut_92 rfl (lv_at hl 1 rfl) ?_
    refine va_getN (D := G.1) (ci := 0) (v := .int (nI a)) (C := R_Co) (T := T_Co) (N := 5) hx hb hA in_Co hown hK.1 (pl_o hP hit) 0 rfl rfl 1 (by decide) (va_Nw.use rfl (hK.2.1 _ kz_6)) (fun _ h9 => h9) rfl d_Cb_workOut_93 ?_
    by_cases he : j % 12 / 3 = a
    · refine lv_icmp_ne (tgt := 105) hx hb d_Cb_workOut_96 (by decide) (fun c9 => absurd (congrArg nI he) c9) (fun _ => ?_)
      refine lv_ldc2 (v := (-1)) hx hb hown (hA _ kw_29) d_Cb_workOut_99 ?_
      refine lv_goto (tgt := 106) hx hb d_Cb_workOut_102 (by decide) ?_
      exact W.lret (v := (-1)) hx hb hr (fun t9 h9t h9W => ⟨_, rfl, by unfold wrd; rw [if_neg (by decide), if_neg (by decide), if_pos rfl]; rw [if_pos he], h9t⟩) (fun _ h => nomatch h) d_Cb_workOut_106
    · refine lv_icmp_ne (tgt := 105) hx hb d_Cb_workOut_96 (by decide) (fun _ => ?_) (fun c9 => absurd c9 (fun q => he ((nI_eq (by omega) (by omega)).mp q)))
      refine lv_lconst (v := 0) hx hb d_Cb_workOut_105 (by decide) ?_
      exact W.lret (v := 0) hx hb hr (fun t9 h9t h9W => ⟨_, rfl, by unfold wrd; rw [if_neg (by decide), if_neg (by decide), if_pos rfl]; rw [if_neg he], h9t⟩) (fun _ h => nomatch h) d_Cb_workOut_106
  · obtain rfl : k = 3 := hk
    obtain rfl := hoa (by decide)
    have hb1 := h3 rfl
    refine lv_aload_n hx hb d_Cb_workOut_0 rfl (lv_at hl 1 rfl) ?_
    refine va_getN (D := G.1) (ci := 0) (v := .int (nI 3)) (C := R_Co) (T := T_Co) (N := 5) hx hb hA in_Co hown hK.1 (pl_o hP hit) 0 rfl rfl 0 (by decide) (va_Nw.use rfl (hK.2.1 _ kz_5)) (fun _ h9 => h9) rfl d_Cb_workOut_1 ?_
    refine lv_tableIn (x := nI 3) (off := 103) (tgt := 107) hx hb d_Cb_workOut_4 (by decide) (by decide) rfl (by decide) ?_
    refine lv_iload_n hx hb d_Cb_workOut_107 rfl (lv_at hl 2 rfl) ?_
    refine lv_aload_n hx hb d_Cb_workOut_108 rfl (lv_at hl 1 rfl) ?_
    refine va_getN (D := G.1) (ci := 0) (v := .int (nI a)) (C := R_Co) (T := T_Co) (N := 5) hx hb hA in_Co hown hK.1 (pl_o hP hit) 0 rfl rfl 1 (by decide) (va_Nw.use rfl (hK.2.1 _ kz_6)) (fun _ h9 => h9) rfl d_Cb_workOut_109 ?_
    refine vp_callSl (va_Run.run (va_runS (As := [.int (nI j), .int (nI a)]) (rest := []) ⟨hx, hb, hml, hown, hA⟩ (c_Cb_pr l G L f j a hj hb1) ⟨callB_of 2 hA (gAW kw_37) rfl rfl rfl (hA _ kw_19) (hA _ kw_38) (by decide +kernel) ⟨Nat.le_of_ble_eq_true rfl, Nat.le_of_ble_eq_true rfl⟩, (hA _ kw_39)⟩ (pw_preS hP hK) rfl rfl hl.1 rfl (lv_room (Nat.le_of_ble_eq_true rfl)) d_Cb_workOut_112 ⟨Nat.zero_le _, Nat.zero_le _⟩)) (fun r_3 e_4 => ?_)
    subst e_4
    exact W.lret (v := prW j a) hx hb hr (fun t9 h9t h9W => ⟨_, rfl, rfl, h9t⟩) (fun _ h => nomatch h) d_Cb_workOut_115
  · obtain rfl : k = 4 := hk
    obtain rfl := hoa (by decide)
    have hb1 := h4 rfl
    refine lv_aload_n hx hb d_Cb_workOut_0 rfl (lv_at hl 1 rfl) ?_
    refine va_getN (D := G.1) (ci := 0) (v := .int (nI 4)) (C := R_Co) (T := T_Co) (N := 5) hx hb hA in_Co hown hK.1 (pl_o hP hit) 0 rfl rfl 0 (by decide) (va_Nw.use rfl (hK.2.1 _ kz_5)) (fun _ h9 => h9) rfl d_Cb_workOut_1 ?_
    refine lv_tableIn (x := nI 4) (off := 112) (tgt := 116) hx hb d_Cb_workOut_4 (by decide) (by decide) rfl (by decide) ?_
    refine lv_ldc2 (v := 1095216660735) hx hb hown (hA _ kw_40) d_Cb_workOut_116 ?_
    refine lv_aload_n hx hb d_Cb_workOut_119 rfl (lv_at hl 1 rfl) ?_
    refine va_getN (D := G.1) (ci := 0) (v := .int (nI a)) (C := R_Co) (T := T_Co) (N := 5) hx hb hA in_Co hown hK.1 (pl_o hP hit) 0 rfl rfl 1 (by decide) (va_Nw.use rfl (hK.2.1 _ kz_6)) (fun _ h9 => h9) rfl d_Cb_workOut_120 ?_
    refine lv_bipush (v := nI 8) hx hb d_Cb_workOut_123 (by decide) ?_
    refine lv_imul hx hb d_Cb_workOut_125 ?_
    refine xv_I (y := nI (a * 8)) (pk_mul _ _) ?_
    refine lv_lshl (v := 1095216660735 <<< (Int32.toInt64 (nI (a * 8)) &&& 63)) hx hb d_Cb_workOut_126 rfl ?_
    exact W.lret (v := 1095216660735 <<< (Int32.toInt64 (nI (a * 8)) &&& 63)) hx hb hr (fun t9 h9t h9W => ⟨_, rfl, rfl, h9t⟩) (fun _ h => nomatch h) d_Cb_workOut_127
  · obtain rfl : k = 5 := hk
    obtain rfl := hoa (by decide)
    obtain rfl := hob (by decide)
    have hb1 := h5 rfl
    refine lv_aload_n hx hb d_Cb_workOut_0 rfl (lv_at hl 1 rfl) ?_
    refine va_getN (D := G.1) (ci := 0) (v := .int (nI 5)) (C := R_Co) (T := T_Co) (N := 5) hx hb hA in_Co hown hK.1 (pl_o hP hit) 0 rfl rfl 0 (by decide) (va_Nw.use rfl (hK.2.1 _ kz_5)) (fun _ h9 => h9) rfl d_Cb_workOut_1 ?_
    refine lv_tableIn (x := nI 5) (off := 124) (tgt := 128) hx hb d_Cb_workOut_4 (by decide) (by decide) rfl (by decide) ?_
    refine lv_aload_n hx hb d_Cb_workOut_128 rfl (lv_at hl 1 rfl) ?_
    refine va_getN (D := G.1) (ci := 0) (v := .int (nI a)) (C := R_Co) (T := T_Co) (N := 5) hx hb hA in_Co hown hK.1 (pl_o hP hit) 0 rfl rfl 1 (by decide) (va_Nw.use rfl (hK.2.1 _ kz_6)) (fun _ h9 => h9) rfl d_Cb_workOut_129 ?_
    refine lv_aload_n hx hb d_Cb_workOut_132 rfl (lv_at hl 1 rfl) ?_
    refine va_getN (D := G.1) (ci := 0) (v := .int (nI b)) (C := R_Co) (T := T_Co) (N := 5) hx hb hA in_Co hown hK.1 (pl_o hP hit) 0 rfl rfl 2 (by decide) (va_Nw.use rfl (hK.2.1 _ kz_7)) (fun _ h9 => h9) rfl d_Cb_workOut_133 ?_
    refine vp_callSl (va_Run.run (va_runSN (As := [.int (nI a), .int (nI b)]) (rest := []) ⟨hx, hb, hml, hown, hA⟩ (c_De_vf l G L f a b (by omega) (by omega)) ⟨va_cnB 2 hA (gAW kw_41) rfl rfl rfl (hK.2.1 _ kz_9) (hA _ kw_5) (by decide +kernel) ⟨Nat.le_of_ble_eq_true rfl, Nat.le_of_ble_eq_true rfl⟩, (hA _ kw_42), trivial⟩ (pw_preS hP hK) rfl rfl hl.1 rfl (lv_room (Nat.le_of_ble_eq_true rfl)) d_Cb_workOut_136 ⟨Nat.zero_le _, Nat.zero_le _⟩)) (fun r_5 e_6 => ?_)
    subst e_6
    exact W.lret (v := vfR a b 8) hx hb hr (fun t9 h9t h9W => ⟨_, rfl, rfl, h9t⟩) (fun _ h => nomatch h) d_Cb_workOut_139
  · refine lv_aload_n hx hb d_Cb_workOut_0 rfl (lv_at hl 1 rfl) ?_
    refine va_getN (D := G.1) (ci := 0) (v := .int (nI k)) (C := R_Co) (T := T_Co) (N := 5) hx hb hA in_Co hown hK.1 (pl_o hP hit) 0 rfl rfl 0 (by decide) (va_Nw.use rfl (hK.2.1 _ kz_5)) (fun _ h9 => h9) rfl d_Cb_workOut_1 ?_
    refine lv_tableOut (tgt := 140) hx hb d_Cb_workOut_4 (Or.inr (by rw [nI_toInt (by omega)]; omega)) (by decide) ?_
    refine lv_aload_n hx hb d_Cb_workOut_140 rfl (lv_at hl 0 rfl) ?_
    refine lv_aload_n hx hb d_Cb_workOut_141 rfl (lv_at hl 1 rfl) ?_
    refine lv_iload_n hx hb d_Cb_workOut_142 rfl (lv_at hl 2 rfl) ?_
    refine vp_callSl (va_Run.run (va_runV (As := [.ref it, .int (nI j)]) (rest := []) ⟨hx, hb, hml, hown, hA⟩ (c_Cb_put l G L f hB hit ho_ j hj hk) ⟨callB_of 2 hA (gAW kw_43) rfl rfl rfl (hA _ kw_19) (hA _ kw_44) (by decide +kernel) ⟨Nat.le_of_ble_eq_true rfl, Nat.le_of_ble_eq_true rfl⟩, (hA _ kw_45), (hA _ kw_46)⟩ (pw_preV (ci := 1) hP hK hB.2.1 rfl) rfl rfl hl.1 rfl (lv_room (Nat.le_of_ble_eq_true rfl)) d_Cb_workOut_143 ⟨Nat.zero_le _, Nat.zero_le _⟩)) (fun r_7 e_8 => ?_)
    subst e_8
    exact W.lret (v := wrd mm wd k a b c_ j) hx hb hr (fun t9 h9t h9W => ⟨_, rfl, rfl, h9t⟩) (fun _ h => nomatch h) d_Cb_workOut_146
