set_option maxHeartbeats 4000000 in
set_option maxRecDepth 100000 in
/-- isIn -/
theorem c_Mo_isIn (l : Launch) (G : GG) (L : List Nat) (f : Nat → va_E) (x lo hi : Int32) : Met l y_Mo_isIn (.code y_Mo_isIn b_Mo_isIn 3 (some .boolean) :: AW) (RM 0) (va_Pc [.int x, .int lo, .int hi] (PW G L f)) (vp_Si (fun r => r = bI (inB x lo hi))) 0 0 (fun _ => False) := by
  refine Met.ofW (cc := b_Mo_isIn) (maxL := 3) (ret := (some .boolean)) (by decide) rfl ?_
  intro p e s m args below meth c s₁ B hml hv
  obtain ⟨rfl, hP, hK⟩ := hv
  have hx := B.exec
  have hb := B.bytes
  have hr := B.returns
  have hA : ∀ w ∈ AW, w.before _ s = true := fun w h => atoms_spec (ws := (.code y_Mo_isIn b_Mo_isIn 3 (some .boolean) :: AW)) B.pre w (List.mem_cons_of_mem _ h)
  have hown : s.vm.findClass R_Mo = some m.cls := findClass_of_methodNamed B.named
  have hlocks := B.notSynchronized
  have hl := lv_entry ([.int x, .int lo, .int hi]) (n := 3) (Nat.le_of_ble_eq_true rfl)
  rw [lg_entry_eq]
  generalize (lg_sl ([.int x, .int lo, .int hi]) ++ List.replicate (3 - (lg_sl ([.int x, .int lo, .int hi])).length) Slot.unset).toArray = ls at hl ⊢
  have hl : lv_has ls 3 [(0, .int x), (1, .int lo), (2, .int hi)] := hl
  refine lv_iload_n hx hb d_Mo_isIn_0 rfl (lv_at hl 0 rfl) ?_
  refine lv_iload_n hx hb d_Mo_isIn_1 rfl (lv_at hl 1 rfl) ?_
  refine lv_icmp_lt (tgt := 14) hx hb d_Mo_isIn_2 (by decide) (fun c_2 => ?_) (fun c_2 => ?_)
  · refine lv_iconst (v := nI 0) hx hb d_Mo_isIn_14 (by decide) ?_
    exact W.zret (v := nI 0) (ty := .boolean) hx hb hr (bI_nar false) (fun t9 h9t h9W => ⟨_, rfl, by rw [inB_f1 c_2]; rfl, h9t⟩) (fun _ h => nomatch h) d_Mo_isIn_15
  · refine lv_iload_n hx hb d_Mo_isIn_5 rfl (lv_at hl 0 rfl) ?_
    refine lv_iload_n hx hb d_Mo_isIn_6 rfl (lv_at hl 2 rfl) ?_
    refine lv_icmp_gt (tgt := 14) hx hb d_Mo_isIn_7 (by decide) (fun c_7 => ?_) (fun c_7 => ?_)
    · refine lv_iconst (v := nI 0) hx hb d_Mo_isIn_14 (by decide) ?_
      exact W.zret (v := nI 0) (ty := .boolean) hx hb hr (bI_nar false) (fun t9 h9t h9W => ⟨_, rfl, by rw [inB_f2 c_7]; rfl, h9t⟩) (fun _ h => nomatch h) d_Mo_isIn_15
    · refine lv_iconst (v := nI 1) hx hb d_Mo_isIn_10 (by decide) ?_
      refine lv_goto (tgt := 15) hx hb d_Mo_isIn_11 (by decide) ?_
      exact W.zret (v := nI 1) (ty := .boolean) hx hb hr (bI_nar true) (fun t9 h9t h9W => ⟨_, rfl, by rw [inB_t c_2 c_7]; rfl, h9t⟩) (fun _ h => nomatch h) d_Mo_isIn_15

set_option maxHeartbeats 4000000 in
set_option maxRecDepth 100000 in
/-- isCondition -/
theorem c_Mo_isC (l : Launch) (G : GG) (L : List Nat) (f : Nat → va_E) {mo gA kA fA sA tA bA rA dA cA eA cn rn : Nat} {kn : Bool} {gf : Nat → Int32} {kd : Nat → Nat} {ka kb kc bf : Nat → Int32} {rk : Nat → Nat} {dn : Nat → Bool} {rc : Nat → Nat} {xf : Nat → Int32} (hB : MoB G L f mo gA kA fA sA tA bA rA dA cA eA cn rn kn gf kd ka kb kc bf rk dn rc xf) (x : Int32) : Met l y_Mo_isCondition (.code y_Mo_isCondition b_Mo_isCondition 2 (some .boolean) :: AW) (RM 1) (va_Pc [.ref mo, .int x] (PW G L f)) (vp_Si (fun r => r = bI (blw x (nI cn)))) 0 0 (fun _ => False) := by
  refine Met.ofW (cc := b_Mo_isCondition) (maxL := 2) (ret := (some .boolean)) (by decide) rfl ?_
  intro p e s m args below meth c s₁ B hml hv
  obtain ⟨rfl, hP, hK⟩ := hv
  have hx := B.exec
  have hb := B.bytes
  have hr := B.returns
  have hA : ∀ w ∈ AW, w.before _ s = true := fun w h => atoms_spec (ws := (.code y_Mo_isCondition b_Mo_isCondition 2 (some .boolean) :: AW)) B.pre w (List.mem_cons_of_mem _ h)
  have hown : s.vm.findClass R_Mo = some m.cls := findClass_of_methodNamed B.named
  have hlocks := B.notSynchronized
  have hl := lv_entry ([.ref mo, .int x]) (n := 2) (Nat.le_of_ble_eq_true rfl)
  rw [lg_entry_eq]
  generalize (lg_sl ([.ref mo, .int x]) ++ List.replicate (2 - (lg_sl ([.ref mo, .int x])).length) Slot.unset).toArray = ls at hl ⊢
  have hl : lv_has ls 2 [(0, .ref mo), (1, .int x)] := hl
  have hc60 := hB.1
  have hr20 := hB.2.1
  refine lv_iload_n hx hb d_Mo_isCondition_0 rfl (lv_at hl 1 rfl) ?_
  refine lv_iconst (v := nI 0) hx hb d_Mo_isCondition_1 (by decide) ?_
  refine lv_aload_n hx hb d_Mo_isCondition_2 rfl (lv_at hl 0 rfl) ?_
  refine va_get (D := G.1) (ci := 5) (v := .int (nI cn)) (C := R_Mo) (T := T_Mo) (N := 14) hx hb hA in_Mo hown hK.1 (pl_o hP hB.2.2.1) 0 rfl rfl 2 (by decide) (hA _ kw_170) (fun _ h9 => h9) rfl d_Mo_isCondition_3 ?_
  refine lv_iconst (v := nI 1) hx hb d_Mo_isCondition_6 (by decide) ?_
  refine lv_isub hx hb d_Mo_isCondition_7 ?_
  refine vp_callSi (va_Run.run (va_runS (As := [.int x, .int (nI 0), .int ((nI cn) - (nI 1))]) (rest := []) ⟨hx, hb, hml, hown, hA⟩ (c_Mo_isIn l G L f x (nI 0) ((nI cn) - (nI 1))) ⟨callB_of 3 hA (gAW kw_171) rfl rfl rfl (hA _ kw_172) (hA _ kw_173) (by decide +kernel) ⟨Nat.le_of_ble_eq_true rfl, Nat.le_of_ble_eq_true rfl⟩, (hA _ kw_174)⟩ (pw_preS hP hK) rfl rfl hl.1 rfl (lv_room (Nat.le_of_ble_eq_true rfl)) d_Mo_isCondition_8 ⟨Nat.zero_le _, Nat.zero_le _⟩)) (fun r_1 e_2 => ?_)
  subst e_2
  exact W.zret (v := bI (inB x (nI 0) ((nI cn) - (nI 1)))) (ty := .boolean) hx hb hr (bI_nar _) (fun t9 h9t h9W => ⟨_, rfl, congrArg bI (inB_pred (by omega)), h9t⟩) (fun _ h => nomatch h) d_Mo_isCondition_11

set_option maxHeartbeats 4000000 in
set_option maxRecDepth 100000 in
/-- isRule -/
theorem c_Mo_isR (l : Launch) (G : GG) (L : List Nat) (f : Nat → va_E) {mo gA kA fA sA tA bA rA dA cA eA cn rn : Nat} {kn : Bool} {gf : Nat → Int32} {kd : Nat → Nat} {ka kb kc bf : Nat → Int32} {rk : Nat → Nat} {dn : Nat → Bool} {rc : Nat → Nat} {xf : Nat → Int32} (hB : MoB G L f mo gA kA fA sA tA bA rA dA cA eA cn rn kn gf kd ka kb kc bf rk dn rc xf) (x : Int32) : Met l y_Mo_isRule (.code y_Mo_isRule b_Mo_isRule 2 (some .boolean) :: AW) (RM 1) (va_Pc [.ref mo, .int x] (PW G L f)) (vp_Si (fun r => r = bI (blw x (nI rn)))) 0 0 (fun _ => False) := by
  refine Met.ofW (cc := b_Mo_isRule) (maxL := 2) (ret := (some .boolean)) (by decide) rfl ?_
  intro p e s m args below meth c s₁ B hml hv
  obtain ⟨rfl, hP, hK⟩ := hv
  have hx := B.exec
  have hb := B.bytes
  have hr := B.returns
  have hA : ∀ w ∈ AW, w.before _ s = true := fun w h => atoms_spec (ws := (.code y_Mo_isRule b_Mo_isRule 2 (some .boolean) :: AW)) B.pre w (List.mem_cons_of_mem _ h)
  have hown : s.vm.findClass R_Mo = some m.cls := findClass_of_methodNamed B.named
  have hlocks := B.notSynchronized
  have hl := lv_entry ([.ref mo, .int x]) (n := 2) (Nat.le_of_ble_eq_true rfl)
  rw [lg_entry_eq]
  generalize (lg_sl ([.ref mo, .int x]) ++ List.replicate (2 - (lg_sl ([.ref mo, .int x])).length) Slot.unset).toArray = ls at hl ⊢
  have hl : lv_has ls 2 [(0, .ref mo), (1, .int x)] := hl
  have hc60 := hB.1
  have hr20 := hB.2.1
  refine lv_iload_n hx hb d_Mo_isRule_0 rfl (lv_at hl 1 rfl) ?_
  refine lv_iconst (v := nI 0) hx hb d_Mo_isRule_1 (by decide) ?_
  refine lv_aload_n hx hb d_Mo_isRule_2 rfl (lv_at hl 0 rfl) ?_
  refine va_get (D := G.1) (ci := 5) (v := .int (nI rn)) (C := R_Mo) (T := T_Mo) (N := 14) hx hb hA in_Mo hown hK.1 (pl_o hP hB.2.2.1) 0 rfl rfl 8 (by decide) (hA _ kw_175) (fun _ h9 => h9) rfl d_Mo_isRule_3 ?_
  refine lv_iconst (v := nI 1) hx hb d_Mo_isRule_6 (by decide) ?_
  refine lv_isub hx hb d_Mo_isRule_7 ?_
  refine vp_callSi (va_Run.run (va_runS (As := [.int x, .int (nI 0), .int ((nI rn) - (nI 1))]) (rest := []) ⟨hx, hb, hml, hown, hA⟩ (c_Mo_isIn l G L f x (nI 0) ((nI rn) - (nI 1))) ⟨callB_of 3 hA (gAW kw_171) rfl rfl rfl (hA _ kw_172) (hA _ kw_173) (by decide +kernel) ⟨Nat.le_of_ble_eq_true rfl, Nat.le_of_ble_eq_true rfl⟩, (hA _ kw_174)⟩ (pw_preS hP hK) rfl rfl hl.1 rfl (lv_room (Nat.le_of_ble_eq_true rfl)) d_Mo_isRule_8 ⟨Nat.zero_le _, Nat.zero_le _⟩)) (fun r_1 e_2 => ?_)
  subst e_2
  exact W.zret (v := bI (inB x (nI 0) ((nI rn) - (nI 1)))) (ty := .boolean) hx hb hr (bI_nar _) (fun t9 h9t h9W => ⟨_, rfl, congrArg bI (inB_pred (by omega)), h9t⟩) (fun _ h => nomatch h) d_Mo_isRule_11

set_option maxHeartbeats 4000000 in
set_option maxRecDepth 100000 in
/-- personOf -/
theorem c_Mo_per (l : Launch) (G : GG) (L : List Nat) (f : Nat → va_E) (q : Nat) (hq : q < 6144) : Met l y_Mo_personOf (.code y_Mo_personOf b_Mo_personOf 1 (some .int) :: AW) (RM 0) (va_Pc [.int (nI q)] (PW G L f)) (vp_Si (fun r => r = nI (q / 768))) 0 0 (fun _ => False) := by
  refine Met.ofW (cc := b_Mo_personOf) (maxL := 1) (ret := (some .int)) (by decide) rfl ?_
  intro p e s m args below meth c s₁ B hml hv
  obtain ⟨rfl, hP, hK⟩ := hv
  have hx := B.exec
  have hb := B.bytes
  have hr := B.returns
  have hA : ∀ w ∈ AW, w.before _ s = true := fun w h => atoms_spec (ws := (.code y_Mo_personOf b_Mo_personOf 1 (some .int) :: AW)) B.pre w (List.mem_cons_of_mem _ h)
  have hown : s.vm.findClass R_Mo = some m.cls := findClass_of_methodNamed B.named
  have hlocks := B.notSynchronized
  have hl := lv_entry ([.int (nI q)]) (n := 1) (Nat.le_of_ble_eq_true rfl)
  rw [lg_entry_eq]
  generalize (lg_sl ([.int (nI q)]) ++ List.replicate (1 - (lg_sl ([.int (nI q)])).length) Slot.unset).toArray = ls at hl ⊢
  have hl : lv_has ls 1 [(0, .int (nI q))] := hl
  refine lv_iload_n hx hb d_Mo_personOf_0 rfl (lv_at hl 0 rfl) ?_
  refine lv_sipush (v := nI 768) hx hb d_Mo_personOf_1 (by decide) ?_
  refine lv_idiv hx hb d_Mo_personOf_4 (by decide) ?_
  refine xv_I (y := nI (q / 768)) (pk_div (by omega) (by decide) (by decide)) ?_
  exact W.iret (v := nI (q / 768)) hx hb hr (fun t9 h9t h9W => ⟨_, rfl, rfl, h9t⟩) (fun _ h => nomatch h) d_Mo_personOf_5

set_option maxHeartbeats 4000000 in
set_option maxRecDepth 100000 in
/-- graphOf -/
theorem c_Mo_gra (l : Launch) (G : GG) (L : List Nat) (f : Nat → va_E) (q : Nat) (hq : q < 6144) : Met l y_Mo_graphOf (.code y_Mo_graphOf b_Mo_graphOf 1 (some .int) :: AW) (RM 0) (va_Pc [.int (nI q)] (PW G L f)) (vp_Si (fun r => r = nI (q / 192 % 4))) 0 0 (fun _ => False) := by
  refine Met.ofW (cc := b_Mo_graphOf) (maxL := 1) (ret := (some .int)) (by decide) rfl ?_
  intro p e s m args below meth c s₁ B hml hv
  obtain ⟨rfl, hP, hK⟩ := hv
  have hx := B.exec
  have hb := B.bytes
  have hr := B.returns
  have hA : ∀ w ∈ AW, w.before _ s = true := fun w h => atoms_spec (ws := (.code y_Mo_graphOf b_Mo_graphOf 1 (some .int) :: AW)) B.pre w (List.mem_cons_of_mem _ h)
  have hown : s.vm.findClass R_Mo = some m.cls := findClass_of_methodNamed B.named
  have hlocks := B.notSynchronized
  have hl := lv_entry ([.int (nI q)]) (n := 1) (Nat.le_of_ble_eq_true rfl)
  rw [lg_entry_eq]
  generalize (lg_sl ([.int (nI q)]) ++ List.replicate (1 - (lg_sl ([.int (nI q)])).length) Slot.unset).toArray = ls at hl ⊢
  have hl : lv_has ls 1 [(0, .int (nI q))] := hl
  refine lv_iload_n hx hb d_Mo_graphOf_0 rfl (lv_at hl 0 rfl) ?_
  refine lv_sipush (v := nI 192) hx hb d_Mo_graphOf_1 (by decide) ?_
  refine lv_idiv hx hb d_Mo_graphOf_4 (by decide) ?_
  refine xv_I (y := nI (q / 192)) (pk_div (by omega) (by decide) (by decide)) ?_
  refine lv_iconst (v := nI 4) hx hb d_Mo_graphOf_5 (by decide) ?_
  refine lv_irem hx hb d_Mo_graphOf_6 (by decide) ?_
  refine xv_I (y := nI (q / 192 % 4)) (pk_rem (by omega) (by decide) (by decide)) ?_
  exact W.iret (v := nI (q / 192 % 4)) hx hb hr (fun t9 h9t h9W => ⟨_, rfl, rfl, h9t⟩) (fun _ h => nomatch h) d_Mo_graphOf_7

set_option maxHeartbeats 4000000 in
set_option maxRecDepth 100000 in
/-- predicateOf -/
theorem c_Mo_pre (l : Launch) (G : GG) (L : List Nat) (f : Nat → va_E) (q : Nat) (hq : q < 6144) : Met l y_Mo_predicateOf (.code y_Mo_predicateOf b_Mo_predicateOf 1 (some .int) :: AW) (RM 0) (va_Pc [.int (nI q)] (PW G L f)) (vp_Si (fun r => r = nI (q / 32 % 6))) 0 0 (fun _ => False) := by
  refine Met.ofW (cc := b_Mo_predicateOf) (maxL := 1) (ret := (some .int)) (by decide) rfl ?_
  intro p e s m args below meth c s₁ B hml hv
  obtain ⟨rfl, hP, hK⟩ := hv
  have hx := B.exec
  have hb := B.bytes
  have hr := B.returns
  have hA : ∀ w ∈ AW, w.before _ s = true := fun w h => atoms_spec (ws := (.code y_Mo_predicateOf b_Mo_predicateOf 1 (some .int) :: AW)) B.pre w (List.mem_cons_of_mem _ h)
  have hown : s.vm.findClass R_Mo = some m.cls := findClass_of_methodNamed B.named
  have hlocks := B.notSynchronized
  have hl := lv_entry ([.int (nI q)]) (n := 1) (Nat.le_of_ble_eq_true rfl)
  rw [lg_entry_eq]
  generalize (lg_sl ([.int (nI q)]) ++ List.replicate (1 - (lg_sl ([.int (nI q)])).length) Slot.unset).toArray = ls at hl ⊢
  have hl : lv_has ls 1 [(0, .int (nI q))] := hl
  refine lv_iload_n hx hb d_Mo_predicateOf_0 rfl (lv_at hl 0 rfl) ?_
  refine lv_bipush (v := nI 32) hx hb d_Mo_predicateOf_1 (by decide) ?_
  refine lv_idiv hx hb d_Mo_predicateOf_3 (by decide) ?_
  refine xv_I (y := nI (q / 32)) (pk_div (by omega) (by decide) (by decide)) ?_
  refine lv_bipush (v := nI 6) hx hb d_Mo_predicateOf_4 (by decide) ?_
  refine lv_irem hx hb d_Mo_predicateOf_6 (by decide) ?_
  refine xv_I (y := nI (q / 32 % 6)) (pk_rem (by omega) (by decide) (by decide)) ?_
  exact W.iret (v := nI (q / 32 % 6)) hx hb hr (fun t9 h9t h9W => ⟨_, rfl, rfl, h9t⟩) (fun _ h => nomatch h) d_Mo_predicateOf_7

set_option maxHeartbeats 4000000 in
set_option maxRecDepth 100000 in
/-- classOf -/
theorem c_Mo_cla (l : Launch) (G : GG) (L : List Nat) (f : Nat → va_E) (q : Nat) (hq : q < 6144) : Met l y_Mo_classOf (.code y_Mo_classOf b_Mo_classOf 1 (some .int) :: AW) (RM 0) (va_Pc [.int (nI q)] (PW G L f)) (vp_Si (fun r => r = nI (q / 8 % 4))) 0 0 (fun _ => False) := by
  refine Met.ofW (cc := b_Mo_classOf) (maxL := 1) (ret := (some .int)) (by decide) rfl ?_
  intro p e s m args below meth c s₁ B hml hv
  obtain ⟨rfl, hP, hK⟩ := hv
  have hx := B.exec
  have hb := B.bytes
  have hr := B.returns
  have hA : ∀ w ∈ AW, w.before _ s = true := fun w h => atoms_spec (ws := (.code y_Mo_classOf b_Mo_classOf 1 (some .int) :: AW)) B.pre w (List.mem_cons_of_mem _ h)
  have hown : s.vm.findClass R_Mo = some m.cls := findClass_of_methodNamed B.named
  have hlocks := B.notSynchronized
  have hl := lv_entry ([.int (nI q)]) (n := 1) (Nat.le_of_ble_eq_true rfl)
  rw [lg_entry_eq]
  generalize (lg_sl ([.int (nI q)]) ++ List.replicate (1 - (lg_sl ([.int (nI q)])).length) Slot.unset).toArray = ls at hl ⊢
  have hl : lv_has ls 1 [(0, .int (nI q))] := hl
  refine lv_iload_n hx hb d_Mo_classOf_0 rfl (lv_at hl 0 rfl) ?_
  refine lv_bipush (v := nI 8) hx hb d_Mo_classOf_1 (by decide) ?_
  refine lv_idiv hx hb d_Mo_classOf_3 (by decide) ?_
  refine xv_I (y := nI (q / 8)) (pk_div (by omega) (by decide) (by decide)) ?_
  refine lv_iconst (v := nI 4) hx hb d_Mo_classOf_4 (by decide) ?_
  refine lv_irem hx hb d_Mo_classOf_5 (by decide) ?_
  refine xv_I (y := nI (q / 8 % 4)) (pk_rem (by omega) (by decide) (by decide)) ?_
  exact W.iret (v := nI (q / 8 % 4)) hx hb hr (fun t9 h9t h9W => ⟨_, rfl, rfl, h9t⟩) (fun _ h => nomatch h) d_Mo_classOf_6

set_option maxHeartbeats 4000000 in
set_option maxRecDepth 100000 in
/-- holds -/
theorem c_Mo_holds (l : Launch) (G : GG) (L : List Nat) (f : Nat → va_E) {mo gA kA fA sA tA bA rA dA cA eA cn rn : Nat} {kn : Bool} {gf : Nat → Int32} {kd : Nat → Nat} {ka kb kc bf : Nat → Int32} {rk : Nat → Nat} {dn : Nat → Bool} {rc : Nat → Nat} {xf : Nat → Int32} (hB : MoB G L f mo gA kA fA sA tA bA rA dA cA eA cn rn kn gf kd ka kb kc bf rk dn rc xf) (i q : Nat) (hi : i < 60) (hq : q < 6144) : Met l y_Mo_holds (.code y_Mo_holds b_Mo_holds 3 (some .boolean) :: AW) (RM 0) (va_Pc [.ref mo, .int (nI i), .int (nI q)] (PW G L f)) (vp_Si (fun r => r = bI (mB bf i q))) 0 0 (fun _ => False) := by
  refine Met.ofW (cc := b_Mo_holds) (maxL := 3) (ret := (some .boolean)) (by decide) rfl ?_
  intro p e s m args below meth c s₁ B hml hv
  obtain ⟨rfl, hP, hK⟩ := hv
  have hx := B.exec
  have hb := B.bytes
  have hr := B.returns
  have hA : ∀ w ∈ AW, w.before _ s = true := fun w h => atoms_spec (ws := (.code y_Mo_holds b_Mo_holds 3 (some .boolean) :: AW)) B.pre w (List.mem_cons_of_mem _ h)
  have hown : s.vm.findClass R_Mo = some m.cls := findClass_of_methodNamed B.named
  have hlocks := B.notSynchronized
  have hl := lv_entry ([.ref mo, .int (nI i), .int (nI q)]) (n := 3) (Nat.le_of_ble_eq_true rfl)
  rw [lg_entry_eq]
  generalize (lg_sl ([.ref mo, .int (nI i), .int (nI q)]) ++ List.replicate (3 - (lg_sl ([.ref mo, .int (nI i), .int (nI q)])).length) Slot.unset).toArray = ls at hl ⊢
  have hl : lv_has ls 3 [(0, .ref mo), (1, .int (nI i)), (2, .int (nI q))] := hl
  have hc60 := hB.1
  have hr20 := hB.2.1
  refine lv_aload_n hx hb d_Mo_holds_0 rfl (lv_at hl 0 rfl) ?_
  refine va_get (D := G.1) (ci := 5) (v := .ref bA) (C := R_Mo) (T := T_Mo) (N := 14) hx hb hA in_Mo hown hK.1 (pl_o hP hB.2.2.1) 0 rfl rfl 7 (by decide) (hA _ kw_176) (fun _ h9 => h9) rfl d_Mo_holds_1 ?_
  refine lv_sipush (v := nI 192) hx hb d_Mo_holds_4 (by decide) ?_
  refine lv_iload_n hx hb d_Mo_holds_7 rfl (lv_at hl 1 rfl) ?_
  refine lv_imul hx hb d_Mo_holds_8 ?_
  refine xv_I (y := nI (192 * i)) (pk_mul _ _) ?_
  refine lv_iload_n hx hb d_Mo_holds_9 rfl (lv_at hl 2 rfl) ?_
  refine lv_bipush (v := nI 32) hx hb d_Mo_holds_10 (by decide) ?_
  refine lv_idiv hx hb d_Mo_holds_12 (by decide) ?_
  refine xv_I (y := nI (q / 32)) (pk_div (by omega) (by decide) (by decide)) ?_
  refine lv_iadd hx hb d_Mo_holds_13 ?_
  refine xv_I (y := nI (192 * i + q / 32)) (nI_add _ _) ?_
  refine xl_iald hx hb hK.1 (pl_o hP hB.2.2.2.2.2.2.2.2.1) 0 4 rfl rfl (i := (192 * i + q / 32)) (by omega) (by decide) d_Mo_holds_14 ?_
  refine lv_iload_n hx hb d_Mo_holds_15 rfl (lv_at hl 2 rfl) ?_
  refine lv_bipush (v := nI 32) hx hb d_Mo_holds_16 (by decide) ?_
  refine lv_irem hx hb d_Mo_holds_18 (by decide) ?_
  refine xv_I (y := nI (q % 32)) (pk_rem (by omega) (by decide) (by decide)) ?_
  refine lv_ishr hx hb d_Mo_holds_19 ?_
  refine lv_iconst (v := nI 1) hx hb d_Mo_holds_20 (by decide) ?_
  refine lv_iand hx hb d_Mo_holds_21 ?_
  refine lv_iconst (v := nI 1) hx hb d_Mo_holds_22 (by decide) ?_
  by_cases hz : ((bf (192 * i + q / 32)) >>> ((nI (q % 32)) &&& 31)) &&& (nI 1) = nI 1
  · refine lv_icmp_ne (tgt := 30) hx hb d_Mo_holds_23 (by decide) (fun c9 => absurd hz c9) (fun _ => ?_)
    refine lv_iconst (v := nI 1) hx hb d_Mo_holds_26 (by decide) ?_
    refine lv_goto (tgt := 31) hx hb d_Mo_holds_27 (by decide) ?_
    exact W.zret (v := nI 1) (ty := .boolean) hx hb hr (bI_nar true) (fun t9 h9t h9W => ⟨_, rfl, by unfold mB iB; rw [decide_eq_true hz]; rfl, h9t⟩) (fun _ h => nomatch h) d_Mo_holds_31
  · refine lv_icmp_ne (tgt := 30) hx hb d_Mo_holds_23 (by decide) (fun _ => ?_) (fun c9 => absurd c9 hz)
    refine lv_iconst (v := nI 0) hx hb d_Mo_holds_30 (by decide) ?_
    exact W.zret (v := nI 0) (ty := .boolean) hx hb hr (bI_nar false) (fun t9 h9t h9W => ⟨_, rfl, by unfold mB iB; rw [decide_eq_false hz]; rfl, h9t⟩) (fun _ h => nomatch h) d_Mo_holds_31

set_option maxHeartbeats 4000000 in
set_option maxRecDepth 100000 in
/-- isSo -/
theorem c_Mo_isSo (l : Launch) (G : GG) (L : List Nat) (f : Nat → va_E) {mo gA kA fA sA tA bA rA dA cA eA cn rn : Nat} {kn : Bool} {gf : Nat → Int32} {kd : Nat → Nat} {ka kb kc bf : Nat → Int32} {rk : Nat → Nat} {dn : Nat → Bool} {rc : Nat → Nat} {xf : Nat → Int32} (hB : MoB G L f mo gA kA fA sA tA bA rA dA cA eA cn rn kn gf kd ka kb kc bf rk dn rc xf) {mm : Nat → Bool} (hG : GrI gf mm) (i : Nat) (hi : i < 60) {a b c_ : Nat} (ho : okC i (kd i) (ka i) (kb i) (kc i) a b c_) (q : Nat) (hq : q < 6144) : Met l y_Mo_isSo (.code y_Mo_isSo b_Mo_isSo 5 (some .boolean) :: AW) (RM 1) (va_Pc [.ref mo, .int (nI i), .int (nI q)] (PW G L f)) (vp_Si (fun r => r = bI (hK mm (mB bf) (kd i) a b c_ q))) 0 0 (fun _ => False) := by
  refine Met.ofW (cc := b_Mo_isSo) (maxL := 5) (ret := (some .boolean)) (by decide) rfl ?_
  intro p e s m args below meth c s₁ B hml hv
  obtain ⟨rfl, hP, hK⟩ := hv
  have hx := B.exec
  have hb := B.bytes
  have hr := B.returns
  have hA : ∀ w ∈ AW, w.before _ s = true := fun w h => atoms_spec (ws := (.code y_Mo_isSo b_Mo_isSo 5 (some .boolean) :: AW)) B.pre w (List.mem_cons_of_mem _ h)
  have hown : s.vm.findClass R_Mo = some m.cls := findClass_of_methodNamed B.named
  have hlocks := B.notSynchronized
  have hl := lv_entry ([.ref mo, .int (nI i), .int (nI q)]) (n := 5) (Nat.le_of_ble_eq_true rfl)
  rw [lg_entry_eq]
  generalize (lg_sl ([.ref mo, .int (nI i), .int (nI q)]) ++ List.replicate (5 - (lg_sl ([.ref mo, .int (nI i), .int (nI q)])).length) Slot.unset).toArray = ls at hl ⊢
  have hl : lv_has ls 5 [(0, .ref mo), (1, .int (nI i)), (2, .int (nI q))] := hl
  have hc60 := hB.1
  have hr20 := hB.2.1
  obtain ⟨hk10, hoa, hob, hoc, h0, h1, h2, h3, h4, h5, h6, h7, h10⟩ := ho
  refine lv_aload_n hx hb d_Mo_isSo_0 rfl (lv_at hl 0 rfl) ?_
  refine va_get (D := G.1) (ci := 5) (v := .ref fA) (C := R_Mo) (T := T_Mo) (N := 14) hx hb hA in_Mo hown hK.1 (pl_o hP hB.2.2.1) 0 rfl rfl 4 (by decide) (hA _ kw_177) (fun _ h9 => h9) rfl d_Mo_isSo_1 ?_
  refine lv_iload_n hx hb d_Mo_isSo_4 rfl (lv_at hl 1 rfl) ?_
  refine xl_iald hx hb hK.1 (pl_o hP hB.2.2.2.2.2.1) 0 4 rfl rfl (i := i) (by omega) (by decide) d_Mo_isSo_5 ?_
  refine lv_istore_n (lv' := [(3, .int (ka i)), (0, .ref mo), (1, .int (nI i)), (2, .int (nI q))]) hx hb d_Mo_isSo_6 rfl hl (by decide) rfl (fun ls hl => ?_)
  refine lv_aload_n hx hb d_Mo_isSo_7 rfl (lv_at hl 1 rfl) ?_
  refine va_get (D := G.1) (ci := 5) (v := .ref sA) (C := R_Mo) (T := T_Mo) (N := 14) hx hb hA in_Mo hown hK.1 (pl_o hP hB.2.2.1) 0 rfl rfl 5 (by decide) (hA _ kw_178) (fun _ h9 => h9) rfl d_Mo_isSo_8 ?_
  refine lv_iload_n hx hb d_Mo_isSo_11 rfl (lv_at hl 2 rfl) ?_
  refine xl_iald hx hb hK.1 (pl_o hP hB.2.2.2.2.2.2.1) 0 4 rfl rfl (i := i) (by omega) (by decide) d_Mo_isSo_12 ?_
  refine lv_istore (lv' := [(4, .int (kb i)), (3, .int (ka i)), (0, .ref mo), (1, .int (nI i)), (2, .int (nI q))]) hx hb d_Mo_isSo_13 hl (by decide) rfl (fun ls hl => ?_)
  refine lv_aload_n hx hb d_Mo_isSo_15 rfl (lv_at hl 2 rfl) ?_
  refine va_get (D := G.1) (ci := 5) (v := .ref kA) (C := R_Mo) (T := T_Mo) (N := 14) hx hb hA in_Mo hown hK.1 (pl_o hP hB.2.2.1) 0 rfl rfl 3 (by decide) (hA _ kw_179) (fun _ h9 => h9) rfl d_Mo_isSo_16 ?_
  refine lv_iload_n hx hb d_Mo_isSo_19 rfl (lv_at hl 3 rfl) ?_
  refine xl_iald hx hb hK.1 (pl_o hP hB.2.2.2.2.1) 0 4 rfl rfl (i := i) (by omega) (by decide) d_Mo_isSo_20 ?_
  refine xv_I (y := nI (kd i)) rfl ?_
  rcases (show kd i = 0 ∨ kd i = 1 ∨ kd i = 2 ∨ kd i = 3 ∨ kd i = 4 ∨ kd i = 5 ∨ kd i = 6 ∨ kd i = 7 ∨ kd i = 8 ∨ kd i = 9 ∨ kd i = 10 by omega) with hk | hk | hk | hk | hk | hk | hk | hk | hk | hk | hk
  · refine xv_I (y := nI 0) (by rw [hk]) ?_
    refine lv_tableIn (x := nI 0) (off := 55) (tgt := 76) hx hb d_Mo_isSo_21 (by decide) (by decide) rfl (by decide) ?_
    have hl : lv_has ls 5 [(4, .int (kb i)), (3, .int (nI a)), (0, .ref mo), (1, .int (nI i)), (2, .int (nI q))] := by rw [← (hoa (by omega))]; exact hl
    have hb1 := h0 hk
    refine lv_iload_n hx hb d_Mo_isSo_76 rfl (lv_at hl 4 rfl) ?_
    refine vp_callSi (va_Run.run (va_runS (As := [.int (nI q)]) (rest := []) ⟨hx, hb, hml, hown, hA⟩ (c_Mo_per l G L f q hq) ⟨callB_of 1 hA (gAW kw_180) rfl rfl rfl (hA _ kw_172) (hA _ kw_181) (by decide +kernel) ⟨Nat.le_of_ble_eq_true rfl, Nat.le_of_ble_eq_true rfl⟩, (hA _ kw_182)⟩ (pw_preS hP hK) rfl rfl hl.1 rfl (lv_room (Nat.le_of_ble_eq_true rfl)) d_Mo_isSo_77 ⟨Nat.zero_le _, Nat.zero_le _⟩)) (fun r_1 e_2 => ?_)
    subst e_2
    refine lv_iload_n hx hb d_Mo_isSo_80 rfl (lv_at hl 1 rfl) ?_
    by_cases he : q / 768 = a
    · refine lv_icmp_ne (tgt := 88) hx hb d_Mo_isSo_81 (by decide) (fun c9 => absurd (congrArg nI he) c9) (fun _ => ?_)
      refine lv_iconst (v := nI 1) hx hb d_Mo_isSo_84 (by decide) ?_
      refine lv_goto (tgt := 89) hx hb d_Mo_isSo_85 (by decide) ?_
      exact W.zret (v := nI 1) (ty := .boolean) hx hb hr (bI_nar true) (fun t9 h9t h9W => ⟨_, rfl, by rw [hk]; show _ = bI (decide (q / 768 = a)); rw [decide_eq_true he]; rfl, h9t⟩) (fun _ h => nomatch h) d_Mo_isSo_89
    · refine lv_icmp_ne (tgt := 88) hx hb d_Mo_isSo_81 (by decide) (fun _ => ?_) (fun c9 => absurd c9 (fun z => he ((nI_eq (by omega) (by omega)).mp z)))
      refine lv_iconst (v := nI 0) hx hb d_Mo_isSo_88 (by decide) ?_
      exact W.zret (v := nI 0) (ty := .boolean) hx hb hr (bI_nar false) (fun t9 h9t h9W => ⟨_, rfl, by rw [hk]; show _ = bI (decide (q / 768 = a)); rw [decide_eq_false he]; rfl, h9t⟩) (fun _ h => nomatch h) d_Mo_isSo_89
  · refine xv_I (y := nI 1) (by rw [hk]) ?_
    refine lv_tableIn (x := nI 1) (off := 69) (tgt := 90) hx hb d_Mo_isSo_21 (by decide) (by decide) rfl (by decide) ?_
    have hl : lv_has ls 5 [(4, .int (kb i)), (3, .int (nI a)), (0, .ref mo), (1, .int (nI i)), (2, .int (nI q))] := by rw [← (hoa (by omega))]; exact hl
    have hb1 := h1 hk
    refine lv_aload_n hx hb d_Mo_isSo_90 rfl (lv_at hl 2 rfl) ?_
    refine va_get (D := G.1) (ci := 5) (v := .ref gA) (C := R_Mo) (T := T_Mo) (N := 14) hx hb hA in_Mo hown hK.1 (pl_o hP hB.2.2.1) 0 rfl rfl 1 (by decide) (hA _ kw_183) (fun _ h9 => h9) rfl d_Mo_isSo_91 ?_
    refine lv_iload_n hx hb d_Mo_isSo_94 rfl (lv_at hl 4 rfl) ?_
    refine vp_callSi (va_Run.run (va_runS (As := [.int (nI q)]) (rest := [.ref gA]) ⟨hx, hb, hml, hown, hA⟩ (c_Mo_per l G L f q hq) ⟨callB_of 1 hA (gAW kw_180) rfl rfl rfl (hA _ kw_172) (hA _ kw_181) (by decide +kernel) ⟨Nat.le_of_ble_eq_true rfl, Nat.le_of_ble_eq_true rfl⟩, (hA _ kw_182)⟩ (pw_preS hP hK) rfl rfl hl.1 rfl (lv_room (Nat.le_of_ble_eq_true rfl)) d_Mo_isSo_95 ⟨Nat.zero_le _, Nat.zero_le _⟩)) (fun r_3 e_4 => ?_)
    subst e_4
    refine xl_iald hx hb hK.1 (pl_o hP hB.2.2.2.1) 0 4 rfl rfl (i := (q / 768)) (by omega) (by decide) d_Mo_isSo_98 ?_
    refine lv_iload_n hx hb d_Mo_isSo_99 rfl (lv_at hl 1 rfl) ?_
    refine lv_ishr hx hb d_Mo_isSo_100 ?_
    refine lv_iconst (v := nI 1) hx hb d_Mo_isSo_101 (by decide) ?_
    refine lv_iand hx hb d_Mo_isSo_102 ?_
    refine lv_iconst (v := nI 1) hx hb d_Mo_isSo_103 (by decide) ?_
    by_cases hz : ((gf (q / 768)) >>> ((nI a) &&& 31)) &&& (nI 1) = nI 1
    · refine lv_icmp_ne (tgt := 111) hx hb d_Mo_isSo_104 (by decide) (fun c9 => absurd hz c9) (fun _ => ?_)
      refine lv_iconst (v := nI 1) hx hb d_Mo_isSo_107 (by decide) ?_
      refine lv_goto (tgt := 112) hx hb d_Mo_isSo_108 (by decide) ?_
      exact W.zret (v := nI 1) (ty := .boolean) hx hb hr (bI_nar true) (fun t9 h9t h9W => ⟨_, rfl, by rw [hk]; show _ = bI (mm (q / 768 * 8 + a)); rw [← hG _ (by omega) _ hb1]; unfold iB; rw [decide_eq_true hz]; rfl, h9t⟩) (fun _ h => nomatch h) d_Mo_isSo_112
    · refine lv_icmp_ne (tgt := 111) hx hb d_Mo_isSo_104 (by decide) (fun _ => ?_) (fun c9 => absurd c9 hz)
      refine lv_iconst (v := nI 0) hx hb d_Mo_isSo_111 (by decide) ?_
      exact W.zret (v := nI 0) (ty := .boolean) hx hb hr (bI_nar false) (fun t9 h9t h9W => ⟨_, rfl, by rw [hk]; show _ = bI (mm (q / 768 * 8 + a)); rw [← hG _ (by omega) _ hb1]; unfold iB; rw [decide_eq_false hz]; rfl, h9t⟩) (fun _ h => nomatch h) d_Mo_isSo_112
  · refine xv_I (y := nI 2) (by rw [hk]) ?_
    refine lv_tableIn (x := nI 2) (off := 92) (tgt := 113) hx hb d_Mo_isSo_21 (by decide) (by decide) rfl (by decide) ?_
    have hl : lv_has ls 5 [(4, .int (kb i)), (3, .int (nI a)), (0, .ref mo), (1, .int (nI i)), (2, .int (nI q))] := by rw [← (hoa (by omega))]; exact hl
    have hb1 := h2 hk
    refine lv_iload_n hx hb d_Mo_isSo_113 rfl (lv_at hl 4 rfl) ?_
    refine vp_callSi (va_Run.run (va_runS (As := [.int (nI q)]) (rest := []) ⟨hx, hb, hml, hown, hA⟩ (c_Mo_gra l G L f q hq) ⟨callB_of 1 hA (gAW kw_184) rfl rfl rfl (hA _ kw_172) (hA _ kw_185) (by decide +kernel) ⟨Nat.le_of_ble_eq_true rfl, Nat.le_of_ble_eq_true rfl⟩, (hA _ kw_186)⟩ (pw_preS hP hK) rfl rfl hl.1 rfl (lv_room (Nat.le_of_ble_eq_true rfl)) d_Mo_isSo_114 ⟨Nat.zero_le _, Nat.zero_le _⟩)) (fun r_5 e_6 => ?_)
    subst e_6
    refine lv_iload_n hx hb d_Mo_isSo_117 rfl (lv_at hl 1 rfl) ?_
    by_cases he : q / 192 % 4 = a
    · refine lv_icmp_ne (tgt := 125) hx hb d_Mo_isSo_118 (by decide) (fun c9 => absurd (congrArg nI he) c9) (fun _ => ?_)
      refine lv_iconst (v := nI 1) hx hb d_Mo_isSo_121 (by decide) ?_
      refine lv_goto (tgt := 126) hx hb d_Mo_isSo_122 (by decide) ?_
      exact W.zret (v := nI 1) (ty := .boolean) hx hb hr (bI_nar true) (fun t9 h9t h9W => ⟨_, rfl, by rw [hk]; show _ = bI (decide (q / 192 % 4 = a)); rw [decide_eq_true he]; rfl, h9t⟩) (fun _ h => nomatch h) d_Mo_isSo_126
    · refine lv_icmp_ne (tgt := 125) hx hb d_Mo_isSo_118 (by decide) (fun _ => ?_) (fun c9 => absurd c9 (fun z => he ((nI_eq (by omega) (by omega)).mp z)))
      refine lv_iconst (v := nI 0) hx hb d_Mo_isSo_125 (by decide) ?_
      exact W.zret (v := nI 0) (ty := .boolean) hx hb hr (bI_nar false) (fun t9 h9t h9W => ⟨_, rfl, by rw [hk]; show _ = bI (decide (q / 192 % 4 = a)); rw [decide_eq_false he]; rfl, h9t⟩) (fun _ h => nomatch h) d_Mo_isSo_126
  · refine xv_I (y := nI 3) (by rw [hk]) ?_
    refine lv_tableIn (x := nI 3) (off := 106) (tgt := 127) hx hb d_Mo_isSo_21 (by decide) (by decide) rfl (by decide) ?_
    have hl : lv_has ls 5 [(4, .int (kb i)), (3, .int (nI a)), (0, .ref mo), (1, .int (nI i)), (2, .int (nI q))] := by rw [← (hoa (by omega))]; exact hl
    have hb1 := h3 hk
    refine lv_iload_n hx hb d_Mo_isSo_127 rfl (lv_at hl 4 rfl) ?_
    refine vp_callSi (va_Run.run (va_runS (As := [.int (nI q)]) (rest := []) ⟨hx, hb, hml, hown, hA⟩ (c_Mo_pre l G L f q hq) ⟨callB_of 1 hA (gAW kw_187) rfl rfl rfl (hA _ kw_172) (hA _ kw_188) (by decide +kernel) ⟨Nat.le_of_ble_eq_true rfl, Nat.le_of_ble_eq_true rfl⟩, (hA _ kw_189)⟩ (pw_preS hP hK) rfl rfl hl.1 rfl (lv_room (Nat.le_of_ble_eq_true rfl)) d_Mo_isSo_128 ⟨Nat.zero_le _, Nat.zero_le _⟩)) (fun r_7 e_8 => ?_)
    subst e_8
    refine lv_iload_n hx hb d_Mo_isSo_131 rfl (lv_at hl 1 rfl) ?_
    by_cases he : q / 32 % 6 = a
    · refine lv_icmp_ne (tgt := 139) hx hb d_Mo_isSo_132 (by decide) (fun c9 => absurd (congrArg nI he) c9) (fun _ => ?_)
      refine lv_iconst (v := nI 1) hx hb d_Mo_isSo_135 (by decide) ?_
      refine lv_goto (tgt := 140) hx hb d_Mo_isSo_136 (by decide) ?_
      exact W.zret (v := nI 1) (ty := .boolean) hx hb hr (bI_nar true) (fun t9 h9t h9W => ⟨_, rfl, by rw [hk]; show _ = bI (decide (q / 32 % 6 = a)); rw [decide_eq_true he]; rfl, h9t⟩) (fun _ h => nomatch h) d_Mo_isSo_140
    · refine lv_icmp_ne (tgt := 139) hx hb d_Mo_isSo_132 (by decide) (fun _ => ?_) (fun c9 => absurd c9 (fun z => he ((nI_eq (by omega) (by omega)).mp z)))
      refine lv_iconst (v := nI 0) hx hb d_Mo_isSo_139 (by decide) ?_
      exact W.zret (v := nI 0) (ty := .boolean) hx hb hr (bI_nar false) (fun t9 h9t h9W => ⟨_, rfl, by rw [hk]; show _ = bI (decide (q / 32 % 6 = a)); rw [decide_eq_false he]; rfl, h9t⟩) (fun _ h => nomatch h) d_Mo_isSo_140
  · refine xv_I (y := nI 4) (by rw [hk]) ?_
    refine lv_tableIn (x := nI 4) (off := 120) (tgt := 141) hx hb d_Mo_isSo_21 (by decide) (by decide) rfl (by decide) ?_
    have hl : lv_has ls 5 [(4, .int (kb i)), (3, .int (nI a)), (0, .ref mo), (1, .int (nI i)), (2, .int (nI q))] := by rw [← (hoa (by omega))]; exact hl
    have hb1 := h4 hk
    refine lv_iload_n hx hb d_Mo_isSo_141 rfl (lv_at hl 4 rfl) ?_
    refine vp_callSi (va_Run.run (va_runS (As := [.int (nI q)]) (rest := []) ⟨hx, hb, hml, hown, hA⟩ (c_Mo_cla l G L f q hq) ⟨callB_of 1 hA (gAW kw_190) rfl rfl rfl (hA _ kw_172) (hA _ kw_191) (by decide +kernel) ⟨Nat.le_of_ble_eq_true rfl, Nat.le_of_ble_eq_true rfl⟩, (hA _ kw_192)⟩ (pw_preS hP hK) rfl rfl hl.1 rfl (lv_room (Nat.le_of_ble_eq_true rfl)) d_Mo_isSo_142 ⟨Nat.zero_le _, Nat.zero_le _⟩)) (fun r_9 e_10 => ?_)
    subst e_10
    refine lv_iload_n hx hb d_Mo_isSo_145 rfl (lv_at hl 1 rfl) ?_
    by_cases he : q / 8 % 4 = a
    · refine lv_icmp_ne (tgt := 153) hx hb d_Mo_isSo_146 (by decide) (fun c9 => absurd (congrArg nI he) c9) (fun _ => ?_)
      refine lv_iconst (v := nI 1) hx hb d_Mo_isSo_149 (by decide) ?_
      refine lv_goto (tgt := 154) hx hb d_Mo_isSo_150 (by decide) ?_
      exact W.zret (v := nI 1) (ty := .boolean) hx hb hr (bI_nar true) (fun t9 h9t h9W => ⟨_, rfl, by rw [hk]; show _ = bI (decide (q / 8 % 4 = a)); rw [decide_eq_true he]; rfl, h9t⟩) (fun _ h => nomatch h) d_Mo_isSo_154
    · refine lv_icmp_ne (tgt := 153) hx hb d_Mo_isSo_146 (by decide) (fun _ => ?_) (fun c9 => absurd c9 (fun z => he ((nI_eq (by omega) (by omega)).mp z)))
      refine lv_iconst (v := nI 0) hx hb d_Mo_isSo_153 (by decide) ?_
      exact W.zret (v := nI 0) (ty := .boolean) hx hb hr (bI_nar false) (fun t9 h9t h9W => ⟨_, rfl, by rw [hk]; show _ = bI (decide (q / 8 % 4 = a)); rw [decide_eq_false he]; rfl, h9t⟩) (fun _ h => nomatch h) d_Mo_isSo_154
  · refine xv_I (y := nI 5) (by rw [hk]) ?_
    refine lv_tableIn (x := nI 5) (off := 134) (tgt := 155) hx hb d_Mo_isSo_21 (by decide) (by decide) rfl (by decide) ?_
    have hl : lv_has ls 5 [(4, .int (kb i)), (3, .int (nI a)), (0, .ref mo), (1, .int (nI i)), (2, .int (nI q))] := by rw [← (hoa (by omega))]; exact hl
    have hl : lv_has ls 5 [(4, .int (nI b)), (3, .int (nI a)), (0, .ref mo), (1, .int (nI i)), (2, .int (nI q))] := by rw [← (hob (by omega))]; exact hl
    have hb1 := h5 hk
    refine lv_iload_n hx hb d_Mo_isSo_155 rfl (lv_at hl 4 rfl) ?_
    refine lv_bipush (v := nI 8) hx hb d_Mo_isSo_156 (by decide) ?_
    refine lv_irem hx hb d_Mo_isSo_158 (by decide) ?_
    refine xv_I (y := nI (q % 8)) (pk_rem (by omega) (by decide) (by decide)) ?_
    refine lv_iload_n hx hb d_Mo_isSo_159 rfl (lv_at hl 1 rfl) ?_
    refine lv_iload hx hb d_Mo_isSo_160 (lv_at hl 0 rfl) ?_
    refine vp_callSi (va_Run.run (va_runS (As := [.int (nI (q % 8)), .int (nI a), .int (nI b)]) (rest := []) ⟨hx, hb, hml, hown, hA⟩ (c_Mo_isIn l G L f (nI (q % 8)) (nI a) (nI b)) ⟨callB_of 3 hA (gAW kw_171) rfl rfl rfl (hA _ kw_172) (hA _ kw_173) (by decide +kernel) ⟨Nat.le_of_ble_eq_true rfl, Nat.le_of_ble_eq_true rfl⟩, (hA _ kw_174)⟩ (pw_preS hP hK) rfl rfl hl.1 rfl (lv_room (Nat.le_of_ble_eq_true rfl)) d_Mo_isSo_162 ⟨Nat.zero_le _, Nat.zero_le _⟩)) (fun r_11 e_12 => ?_)
    subst e_12
    exact W.zret (v := bI (inB (nI (q % 8)) (nI a) (nI b))) (ty := .boolean) hx hb hr (bI_nar _) (fun t9 h9t h9W => ⟨_, rfl, by rw [hk, inB_nI (by omega) (by omega) (by omega)]; rfl, h9t⟩) (fun _ h => nomatch h) d_Mo_isSo_165
  · refine xv_I (y := nI 6) (by rw [hk]) ?_
    refine lv_tableIn (x := nI 6) (off := 145) (tgt := 166) hx hb d_Mo_isSo_21 (by decide) (by decide) rfl (by decide) ?_
    have hl : lv_has ls 5 [(4, .int (kb i)), (3, .int (nI a)), (0, .ref mo), (1, .int (nI i)), (2, .int (nI q))] := by rw [← (hoa (by omega))]; exact hl
    have hb1 := h6 hk
    refine lv_aload_n hx hb d_Mo_isSo_166 rfl (lv_at hl 2 rfl) ?_
    refine lv_iload_n hx hb d_Mo_isSo_167 rfl (lv_at hl 1 rfl) ?_
    refine lv_iload_n hx hb d_Mo_isSo_168 rfl (lv_at hl 4 rfl) ?_
    refine vp_callSi (va_Run.run (va_runV (As := [.int (nI a), .int (nI q)]) (rest := []) ⟨hx, hb, hml, hown, hA⟩ (c_Mo_holds l G L f hB a q (by omega) hq) ⟨callB_of 2 hA (gAW kw_193) rfl rfl rfl (hA _ kw_172) (hA _ kw_194) (by decide +kernel) ⟨Nat.le_of_ble_eq_true rfl, Nat.le_of_ble_eq_true rfl⟩, (hA _ kw_195), (hA _ kw_196)⟩ (pw_preV (ci := 5) hP hK hB.2.2.1 rfl) rfl rfl hl.1 rfl (lv_room (Nat.le_of_ble_eq_true rfl)) d_Mo_isSo_169 ⟨Nat.zero_le _, Nat.zero_le _⟩)) (fun r_13 e_14 => ?_)
    subst e_14
    rcases bcase (mB bf a q) with e1 | e1
    · refine lv_if_ne (tgt := 179) hx hb d_Mo_isSo_172 (by decide) (fun c9 => absurd (by rw [e1]; rfl) c9) (fun _ => ?_)
      refine lv_iconst (v := nI 1) hx hb d_Mo_isSo_175 (by decide) ?_
      refine lv_goto (tgt := 180) hx hb d_Mo_isSo_176 (by decide) ?_
      exact W.zret (v := nI 1) (ty := .boolean) hx hb hr (bI_nar true) (fun t9 h9t h9W => ⟨_, rfl, by rw [hk]; show _ = bI (!mB bf a q); rw [e1]; rfl, h9t⟩) (fun _ h => nomatch h) d_Mo_isSo_180
    · refine lv_if_ne (tgt := 179) hx hb d_Mo_isSo_172 (by decide) (fun _ => ?_) (fun c9 => absurd c9 (by rw [e1]; decide))
      refine lv_iconst (v := nI 0) hx hb d_Mo_isSo_179 (by decide) ?_
      exact W.zret (v := nI 0) (ty := .boolean) hx hb hr (bI_nar false) (fun t9 h9t h9W => ⟨_, rfl, by rw [hk]; show _ = bI (!mB bf a q); rw [e1]; rfl, h9t⟩) (fun _ h => nomatch h) d_Mo_isSo_180
  · refine xv_I (y := nI 7) (by rw [hk]) ?_
    refine lv_tableIn (x := nI 7) (off := 160) (tgt := 181) hx hb d_Mo_isSo_21 (by decide) (by decide) rfl (by decide) ?_
    have hl : lv_has ls 5 [(4, .int (kb i)), (3, .int (nI a)), (0, .ref mo), (1, .int (nI i)), (2, .int (nI q))] := by rw [← (hoa (by omega))]; exact hl
    have hl : lv_has ls 5 [(4, .int (nI b)), (3, .int (nI a)), (0, .ref mo), (1, .int (nI i)), (2, .int (nI q))] := by rw [← (hob (by omega))]; exact hl
    have hb1 := h7 (by omega)
    refine lv_aload_n hx hb d_Mo_isSo_181 rfl (lv_at hl 2 rfl) ?_
    refine lv_iload_n hx hb d_Mo_isSo_182 rfl (lv_at hl 1 rfl) ?_
    refine lv_iload_n hx hb d_Mo_isSo_183 rfl (lv_at hl 4 rfl) ?_
    refine vp_callSi (va_Run.run (va_runV (As := [.int (nI a), .int (nI q)]) (rest := []) ⟨hx, hb, hml, hown, hA⟩ (c_Mo_holds l G L f hB a q (by omega) hq) ⟨callB_of 2 hA (gAW kw_193) rfl rfl rfl (hA _ kw_172) (hA _ kw_194) (by decide +kernel) ⟨Nat.le_of_ble_eq_true rfl, Nat.le_of_ble_eq_true rfl⟩, (hA _ kw_195), (hA _ kw_196)⟩ (pw_preV (ci := 5) hP hK hB.2.2.1 rfl) rfl rfl hl.1 rfl (lv_room (Nat.le_of_ble_eq_true rfl)) d_Mo_isSo_184 ⟨Nat.zero_le _, Nat.zero_le _⟩)) (fun r_15 e_16 => ?_)
    subst e_16
    rcases bcase (mB bf a q) with e1 | e1
    · refine lv_if_eq (tgt := 204) hx hb d_Mo_isSo_187 (by decide) (fun _ => ?_) (fun c9 => absurd (by rw [e1]; rfl) c9)
      refine lv_iconst (v := nI 0) hx hb d_Mo_isSo_204 (by decide) ?_
      exact W.zret (v := nI 0) (ty := .boolean) hx hb hr (bI_nar false) (fun t9 h9t h9W => ⟨_, rfl, by rw [hk]; show _ = bI (mB bf a q && mB bf b q); rw [e1]; rfl, h9t⟩) (fun _ h => nomatch h) d_Mo_isSo_205
    · refine lv_if_eq (tgt := 204) hx hb d_Mo_isSo_187 (by decide) (fun c9 => absurd c9 (by rw [e1]; decide)) (fun _ => ?_)
      refine lv_aload_n hx hb d_Mo_isSo_190 rfl (lv_at hl 2 rfl) ?_
      refine lv_iload hx hb d_Mo_isSo_191 (lv_at hl 0 rfl) ?_
      refine lv_iload_n hx hb d_Mo_isSo_193 rfl (lv_at hl 4 rfl) ?_
      refine vp_callSi (va_Run.run (va_runV (As := [.int (nI b), .int (nI q)]) (rest := []) ⟨hx, hb, hml, hown, hA⟩ (c_Mo_holds l G L f hB b q (by omega) hq) ⟨callB_of 2 hA (gAW kw_193) rfl rfl rfl (hA _ kw_172) (hA _ kw_194) (by decide +kernel) ⟨Nat.le_of_ble_eq_true rfl, Nat.le_of_ble_eq_true rfl⟩, (hA _ kw_195), (hA _ kw_196)⟩ (pw_preV (ci := 5) hP hK hB.2.2.1 rfl) rfl rfl hl.1 rfl (lv_room (Nat.le_of_ble_eq_true rfl)) d_Mo_isSo_194 ⟨Nat.zero_le _, Nat.zero_le _⟩)) (fun r_17 e_18 => ?_)
      subst e_18
      rcases bcase (mB bf b q) with e2 | e2
      · refine lv_if_eq (tgt := 204) hx hb d_Mo_isSo_197 (by decide) (fun _ => ?_) (fun c9 => absurd (by rw [e2]; rfl) c9)
        refine lv_iconst (v := nI 0) hx hb d_Mo_isSo_204 (by decide) ?_
        exact W.zret (v := nI 0) (ty := .boolean) hx hb hr (bI_nar false) (fun t9 h9t h9W => ⟨_, rfl, by rw [hk]; show _ = bI (mB bf a q && mB bf b q); rw [e1, e2]; rfl, h9t⟩) (fun _ h => nomatch h) d_Mo_isSo_205
      · refine lv_if_eq (tgt := 204) hx hb d_Mo_isSo_197 (by decide) (fun c9 => absurd c9 (by rw [e2]; decide)) (fun _ => ?_)
        refine lv_iconst (v := nI 1) hx hb d_Mo_isSo_200 (by decide) ?_
        refine lv_goto (tgt := 205) hx hb d_Mo_isSo_201 (by decide) ?_
        exact W.zret (v := nI 1) (ty := .boolean) hx hb hr (bI_nar true) (fun t9 h9t h9W => ⟨_, rfl, by rw [hk]; show _ = bI (mB bf a q && mB bf b q); rw [e1, e2]; rfl, h9t⟩) (fun _ h => nomatch h) d_Mo_isSo_205
  · refine xv_I (y := nI 8) (by rw [hk]) ?_
    refine lv_tableIn (x := nI 8) (off := 185) (tgt := 206) hx hb d_Mo_isSo_21 (by decide) (by decide) rfl (by decide) ?_
    have hl : lv_has ls 5 [(4, .int (kb i)), (3, .int (nI a)), (0, .ref mo), (1, .int (nI i)), (2, .int (nI q))] := by rw [← (hoa (by omega))]; exact hl
    have hl : lv_has ls 5 [(4, .int (nI b)), (3, .int (nI a)), (0, .ref mo), (1, .int (nI i)), (2, .int (nI q))] := by rw [← (hob (by omega))]; exact hl
    have hb1 := h7 (by omega)
    refine lv_aload_n hx hb d_Mo_isSo_206 rfl (lv_at hl 2 rfl) ?_
    refine lv_iload_n hx hb d_Mo_isSo_207 rfl (lv_at hl 1 rfl) ?_
    refine lv_iload_n hx hb d_Mo_isSo_208 rfl (lv_at hl 4 rfl) ?_
    refine vp_callSi (va_Run.run (va_runV (As := [.int (nI a), .int (nI q)]) (rest := []) ⟨hx, hb, hml, hown, hA⟩ (c_Mo_holds l G L f hB a q (by omega) hq) ⟨callB_of 2 hA (gAW kw_193) rfl rfl rfl (hA _ kw_172) (hA _ kw_194) (by decide +kernel) ⟨Nat.le_of_ble_eq_true rfl, Nat.le_of_ble_eq_true rfl⟩, (hA _ kw_195), (hA _ kw_196)⟩ (pw_preV (ci := 5) hP hK hB.2.2.1 rfl) rfl rfl hl.1 rfl (lv_room (Nat.le_of_ble_eq_true rfl)) d_Mo_isSo_209 ⟨Nat.zero_le _, Nat.zero_le _⟩)) (fun r_19 e_20 => ?_)
    subst e_20
    rcases bcase (mB bf a q) with e1 | e1
    · refine lv_if_ne (tgt := 225) hx hb d_Mo_isSo_212 (by decide) (fun c9 => absurd (by rw [e1]; rfl) c9) (fun _ => ?_)
      refine lv_aload_n hx hb d_Mo_isSo_215 rfl (lv_at hl 2 rfl) ?_
      refine lv_iload hx hb d_Mo_isSo_216 (lv_at hl 0 rfl) ?_
      refine lv_iload_n hx hb d_Mo_isSo_218 rfl (lv_at hl 4 rfl) ?_
      refine vp_callSi (va_Run.run (va_runV (As := [.int (nI b), .int (nI q)]) (rest := []) ⟨hx, hb, hml, hown, hA⟩ (c_Mo_holds l G L f hB b q (by omega) hq) ⟨callB_of 2 hA (gAW kw_193) rfl rfl rfl (hA _ kw_172) (hA _ kw_194) (by decide +kernel) ⟨Nat.le_of_ble_eq_true rfl, Nat.le_of_ble_eq_true rfl⟩, (hA _ kw_195), (hA _ kw_196)⟩ (pw_preV (ci := 5) hP hK hB.2.2.1 rfl) rfl rfl hl.1 rfl (lv_room (Nat.le_of_ble_eq_true rfl)) d_Mo_isSo_219 ⟨Nat.zero_le _, Nat.zero_le _⟩)) (fun r_21 e_22 => ?_)
      subst e_22
      rcases bcase (mB bf b q) with e2 | e2
      · refine lv_if_eq (tgt := 229) hx hb d_Mo_isSo_222 (by decide) (fun _ => ?_) (fun c9 => absurd (by rw [e2]; rfl) c9)
        refine lv_iconst (v := nI 0) hx hb d_Mo_isSo_229 (by decide) ?_
        exact W.zret (v := nI 0) (ty := .boolean) hx hb hr (bI_nar false) (fun t9 h9t h9W => ⟨_, rfl, by rw [hk]; show _ = bI (mB bf a q || mB bf b q); rw [e1, e2]; rfl, h9t⟩) (fun _ h => nomatch h) d_Mo_isSo_230
      · refine lv_if_eq (tgt := 229) hx hb d_Mo_isSo_222 (by decide) (fun c9 => absurd c9 (by rw [e2]; decide)) (fun _ => ?_)
        refine lv_iconst (v := nI 1) hx hb d_Mo_isSo_225 (by decide) ?_
        refine lv_goto (tgt := 230) hx hb d_Mo_isSo_226 (by decide) ?_
        exact W.zret (v := nI 1) (ty := .boolean) hx hb hr (bI_nar true) (fun t9 h9t h9W => ⟨_, rfl, by rw [hk]; show _ = bI (mB bf a q || mB bf b q); rw [e1, e2]; rfl, h9t⟩) (fun _ h => nomatch h) d_Mo_isSo_230
    · refine lv_if_ne (tgt := 225) hx hb d_Mo_isSo_212 (by decide) (fun _ => ?_) (fun c9 => absurd c9 (by rw [e1]; decide))
      refine lv_iconst (v := nI 1) hx hb d_Mo_isSo_225 (by decide) ?_
      refine lv_goto (tgt := 230) hx hb d_Mo_isSo_226 (by decide) ?_
      exact W.zret (v := nI 1) (ty := .boolean) hx hb hr (bI_nar true) (fun t9 h9t h9W => ⟨_, rfl, by rw [hk]; show _ = bI (mB bf a q || mB bf b q); rw [e1]; rfl, h9t⟩) (fun _ h => nomatch h) d_Mo_isSo_230
  · refine xv_I (y := nI 9) (by rw [hk]) ?_
    refine lv_tableIn (x := nI 9) (off := 210) (tgt := 231) hx hb d_Mo_isSo_21 (by decide) (by decide) rfl (by decide) ?_
    refine lv_iconst (v := nI 1) hx hb d_Mo_isSo_231 (by decide) ?_
    exact W.zret (v := nI 1) (ty := .boolean) hx hb hr (bI_nar true) (fun t9 h9t h9W => ⟨_, rfl, by rw [hk]; rfl, h9t⟩) (fun _ h => nomatch h) d_Mo_isSo_232
  · refine xv_I (y := nI 10) (by rw [hk]) ?_
    refine lv_tableOut (x := nI 10) (tgt := 233) hx hb d_Mo_isSo_21 (by decide) (by decide) ?_
    have hl : lv_has ls 5 [(4, .int (kb i)), (3, .int (nI a)), (0, .ref mo), (1, .int (nI i)), (2, .int (nI q))] := by rw [← (hoa (by omega))]; exact hl
    have hl : lv_has ls 5 [(4, .int (nI b)), (3, .int (nI a)), (0, .ref mo), (1, .int (nI i)), (2, .int (nI q))] := by rw [← (hob (by omega))]; exact hl
    have hb1 := h10 (by omega)
    have hoc := hoc (by omega)
    refine lv_aload_n hx hb d_Mo_isSo_233 rfl (lv_at hl 2 rfl) ?_
    refine lv_iload_n hx hb d_Mo_isSo_234 rfl (lv_at hl 1 rfl) ?_
    refine lv_iload_n hx hb d_Mo_isSo_235 rfl (lv_at hl 4 rfl) ?_
    refine vp_callSi (va_Run.run (va_runV (As := [.int (nI a), .int (nI q)]) (rest := []) ⟨hx, hb, hml, hown, hA⟩ (c_Mo_holds l G L f hB a q (by omega) hq) ⟨callB_of 2 hA (gAW kw_193) rfl rfl rfl (hA _ kw_172) (hA _ kw_194) (by decide +kernel) ⟨Nat.le_of_ble_eq_true rfl, Nat.le_of_ble_eq_true rfl⟩, (hA _ kw_195), (hA _ kw_196)⟩ (pw_preV (ci := 5) hP hK hB.2.2.1 rfl) rfl rfl hl.1 rfl (lv_room (Nat.le_of_ble_eq_true rfl)) d_Mo_isSo_236 ⟨Nat.zero_le _, Nat.zero_le _⟩)) (fun r_23 e_24 => ?_)
    subst e_24
    rcases bcase (mB bf a q) with e0 | e0
    · refine lv_if_eq (tgt := 246) hx hb d_Mo_isSo_239 (by decide) (fun _ => ?_) (fun c9 => absurd (by rw [e0]; rfl) c9)
      refine lv_iconst (v := nI 0) hx hb d_Mo_isSo_246 (by decide) ?_
      refine lv_aload_n hx hb d_Mo_isSo_247 rfl (lv_at hl 2 rfl) ?_
      refine lv_iload hx hb d_Mo_isSo_248 (lv_at hl 0 rfl) ?_
      refine lv_iload_n hx hb d_Mo_isSo_250 rfl (lv_at hl 4 rfl) ?_
      refine vp_callSi (va_Run.run (va_runV (As := [.int (nI b), .int (nI q)]) (rest := [.int (nI 0)]) ⟨hx, hb, hml, hown, hA⟩ (c_Mo_holds l G L f hB b q (by omega) hq) ⟨callB_of 2 hA (gAW kw_193) rfl rfl rfl (hA _ kw_172) (hA _ kw_194) (by decide +kernel) ⟨Nat.le_of_ble_eq_true rfl, Nat.le_of_ble_eq_true rfl⟩, (hA _ kw_195), (hA _ kw_196)⟩ (pw_preV (ci := 5) hP hK hB.2.2.1 rfl) rfl rfl hl.1 rfl (lv_room (Nat.le_of_ble_eq_true rfl)) d_Mo_isSo_251 ⟨Nat.zero_le _, Nat.zero_le _⟩)) (fun r_25 e_26 => ?_)
      subst e_26
      rcases bcase (mB bf b q) with e1 | e1
      · refine lv_if_eq (tgt := 261) hx hb d_Mo_isSo_254 (by decide) (fun _ => ?_) (fun c9 => absurd (by rw [e1]; rfl) c9)
        refine lv_iconst (v := nI 0) hx hb d_Mo_isSo_261 (by decide) ?_
        refine lv_iadd hx hb d_Mo_isSo_262 ?_
        refine lv_aload_n hx hb d_Mo_isSo_263 rfl (lv_at hl 2 rfl) ?_
        refine lv_aload_n hx hb d_Mo_isSo_264 rfl (lv_at hl 2 rfl) ?_
        refine va_get (D := G.1) (ci := 5) (v := .ref tA) (C := R_Mo) (T := T_Mo) (N := 14) hx hb hA in_Mo hown hK.1 (pl_o hP hB.2.2.1) 0 rfl rfl 6 (by decide) (hA _ kw_197) (fun _ h9 => h9) rfl d_Mo_isSo_265 ?_
        refine lv_iload_n hx hb d_Mo_isSo_268 rfl (lv_at hl 3 rfl) ?_
        refine xl_iald hx hb hK.1 (pl_o hP hB.2.2.2.2.2.2.2.1) 0 4 rfl rfl (i := i) (by omega) (by decide) d_Mo_isSo_269 ?_
        refine xv_I (y := nI c_) hoc ?_
        refine lv_iload_n hx hb d_Mo_isSo_270 rfl (lv_at hl 4 rfl) ?_
        refine vp_callSi (va_Run.run (va_runV (As := [.int (nI c_), .int (nI q)]) (rest := [.int ((nI 0) + (nI 0))]) ⟨hx, hb, hml, hown, hA⟩ (c_Mo_holds l G L f hB c_ q (by omega) hq) ⟨callB_of 2 hA (gAW kw_193) rfl rfl rfl (hA _ kw_172) (hA _ kw_194) (by decide +kernel) ⟨Nat.le_of_ble_eq_true rfl, Nat.le_of_ble_eq_true rfl⟩, (hA _ kw_195), (hA _ kw_196)⟩ (pw_preV (ci := 5) hP hK hB.2.2.1 rfl) rfl rfl hl.1 rfl (lv_room (Nat.le_of_ble_eq_true rfl)) d_Mo_isSo_271 ⟨Nat.zero_le _, Nat.zero_le _⟩)) (fun r_27 e_28 => ?_)
        subst e_28
        rcases bcase (mB bf c_ q) with e2 | e2
        · refine lv_if_eq (tgt := 281) hx hb d_Mo_isSo_274 (by decide) (fun _ => ?_) (fun c9 => absurd (by rw [e2]; rfl) c9)
          refine lv_iconst (v := nI 0) hx hb d_Mo_isSo_281 (by decide) ?_
          refine lv_iadd hx hb d_Mo_isSo_282 ?_
          refine lv_iconst (v := nI 2) hx hb d_Mo_isSo_283 (by decide) ?_
          refine lv_icmp_lt (tgt := 291) hx hb d_Mo_isSo_284 (by decide) (fun _ => ?_) (fun c9 => absurd (by decide) c9)
          refine lv_iconst (v := nI 0) hx hb d_Mo_isSo_291 (by decide) ?_
          exact W.zret (v := nI 0) (ty := .boolean) hx hb hr (bI_nar false) (fun t9 h9t h9W => ⟨_, rfl, by rw [hk]; show _ = bI (((mB bf a q && mB bf b q) || (mB bf a q && mB bf c_ q)) || (mB bf b q && mB bf c_ q)); rw [e0, e1, e2]; rfl, h9t⟩) (fun _ h => nomatch h) d_Mo_isSo_292
        · refine lv_if_eq (tgt := 281) hx hb d_Mo_isSo_274 (by decide) (fun c9 => absurd c9 (by rw [e2]; decide)) (fun _ => ?_)
          refine lv_iconst (v := nI 1) hx hb d_Mo_isSo_277 (by decide) ?_
          refine lv_goto (tgt := 282) hx hb d_Mo_isSo_278 (by decide) ?_
          refine lv_iadd hx hb d_Mo_isSo_282 ?_
          refine lv_iconst (v := nI 2) hx hb d_Mo_isSo_283 (by decide) ?_
          refine lv_icmp_lt (tgt := 291) hx hb d_Mo_isSo_284 (by decide) (fun _ => ?_) (fun c9 => absurd (by decide) c9)
          refine lv_iconst (v := nI 0) hx hb d_Mo_isSo_291 (by decide) ?_
          exact W.zret (v := nI 0) (ty := .boolean) hx hb hr (bI_nar false) (fun t9 h9t h9W => ⟨_, rfl, by rw [hk]; show _ = bI (((mB bf a q && mB bf b q) || (mB bf a q && mB bf c_ q)) || (mB bf b q && mB bf c_ q)); rw [e0, e1, e2]; rfl, h9t⟩) (fun _ h => nomatch h) d_Mo_isSo_292
      · refine lv_if_eq (tgt := 261) hx hb d_Mo_isSo_254 (by decide) (fun c9 => absurd c9 (by rw [e1]; decide)) (fun _ => ?_)
        refine lv_iconst (v := nI 1) hx hb d_Mo_isSo_257 (by decide) ?_
        refine lv_goto (tgt := 262) hx hb d_Mo_isSo_258 (by decide) ?_
        refine lv_iadd hx hb d_Mo_isSo_262 ?_
        refine lv_aload_n hx hb d_Mo_isSo_263 rfl (lv_at hl 2 rfl) ?_
        refine lv_aload_n hx hb d_Mo_isSo_264 rfl (lv_at hl 2 rfl) ?_
        refine va_get (D := G.1) (ci := 5) (v := .ref tA) (C := R_Mo) (T := T_Mo) (N := 14) hx hb hA in_Mo hown hK.1 (pl_o hP hB.2.2.1) 0 rfl rfl 6 (by decide) (hA _ kw_197) (fun _ h9 => h9) rfl d_Mo_isSo_265 ?_
        refine lv_iload_n hx hb d_Mo_isSo_268 rfl (lv_at hl 3 rfl) ?_
        refine xl_iald hx hb hK.1 (pl_o hP hB.2.2.2.2.2.2.2.1) 0 4 rfl rfl (i := i) (by omega) (by decide) d_Mo_isSo_269 ?_
        refine xv_I (y := nI c_) hoc ?_
        refine lv_iload_n hx hb d_Mo_isSo_270 rfl (lv_at hl 4 rfl) ?_
        refine vp_callSi (va_Run.run (va_runV (As := [.int (nI c_), .int (nI q)]) (rest := [.int ((nI 0) + (nI 1))]) ⟨hx, hb, hml, hown, hA⟩ (c_Mo_holds l G L f hB c_ q (by omega) hq) ⟨callB_of 2 hA (gAW kw_193) rfl rfl rfl (hA _ kw_172) (hA _ kw_194) (by decide +kernel) ⟨Nat.le_of_ble_eq_true rfl, Nat.le_of_ble_eq_true rfl⟩, (hA _ kw_195), (hA _ kw_196)⟩ (pw_preV (ci := 5) hP hK hB.2.2.1 rfl) rfl rfl hl.1 rfl (lv_room (Nat.le_of_ble_eq_true rfl)) d_Mo_isSo_271 ⟨Nat.zero_le _, Nat.zero_le _⟩)) (fun r_29 e_30 => ?_)
        subst e_30
        rcases bcase (mB bf c_ q) with e2 | e2
        · refine lv_if_eq (tgt := 281) hx hb d_Mo_isSo_274 (by decide) (fun _ => ?_) (fun c9 => absurd (by rw [e2]; rfl) c9)
          refine lv_iconst (v := nI 0) hx hb d_Mo_isSo_281 (by decide) ?_
          refine lv_iadd hx hb d_Mo_isSo_282 ?_
          refine lv_iconst (v := nI 2) hx hb d_Mo_isSo_283 (by decide) ?_
          refine lv_icmp_lt (tgt := 291) hx hb d_Mo_isSo_284 (by decide) (fun _ => ?_) (fun c9 => absurd (by decide) c9)
          refine lv_iconst (v := nI 0) hx hb d_Mo_isSo_291 (by decide) ?_
          exact W.zret (v := nI 0) (ty := .boolean) hx hb hr (bI_nar false) (fun t9 h9t h9W => ⟨_, rfl, by rw [hk]; show _ = bI (((mB bf a q && mB bf b q) || (mB bf a q && mB bf c_ q)) || (mB bf b q && mB bf c_ q)); rw [e0, e1, e2]; rfl, h9t⟩) (fun _ h => nomatch h) d_Mo_isSo_292
        · refine lv_if_eq (tgt := 281) hx hb d_Mo_isSo_274 (by decide) (fun c9 => absurd c9 (by rw [e2]; decide)) (fun _ => ?_)
          refine lv_iconst (v := nI 1) hx hb d_Mo_isSo_277 (by decide) ?_
          refine lv_goto (tgt := 282) hx hb d_Mo_isSo_278 (by decide) ?_
          refine lv_iadd hx hb d_Mo_isSo_282 ?_
          refine lv_iconst (v := nI 2) hx hb d_Mo_isSo_283 (by decide) ?_
          refine lv_icmp_lt (tgt := 291) hx hb d_Mo_isSo_284 (by decide) (fun c9 => absurd c9 (by decide)) (fun _ => ?_)
          refine lv_iconst (v := nI 1) hx hb d_Mo_isSo_287 (by decide) ?_
          refine lv_goto (tgt := 292) hx hb d_Mo_isSo_288 (by decide) ?_
          exact W.zret (v := nI 1) (ty := .boolean) hx hb hr (bI_nar true) (fun t9 h9t h9W => ⟨_, rfl, by rw [hk]; show _ = bI (((mB bf a q && mB bf b q) || (mB bf a q && mB bf c_ q)) || (mB bf b q && mB bf c_ q)); rw [e0, e1, e2]; rfl, h9t⟩) (fun _ h => nomatch h) d_Mo_isSo_292
    · refine lv_if_eq (tgt := 246) hx hb d_Mo_isSo_239 (by decide) (fun c9 => absurd c9 (by rw [e0]; decide)) (fun _ => ?_)
      refine lv_iconst (v := nI 1) hx hb d_Mo_isSo_242 (by decide) ?_
      refine lv_goto (tgt := 247) hx hb d_Mo_isSo_243 (by decide) ?_
      refine lv_aload_n hx hb d_Mo_isSo_247 rfl (lv_at hl 2 rfl) ?_
      refine lv_iload hx hb d_Mo_isSo_248 (lv_at hl 0 rfl) ?_
      refine lv_iload_n hx hb d_Mo_isSo_250 rfl (lv_at hl 4 rfl) ?_
      refine vp_callSi (va_Run.run (va_runV (As := [.int (nI b), .int (nI q)]) (rest := [.int (nI 1)]) ⟨hx, hb, hml, hown, hA⟩ (c_Mo_holds l G L f hB b q (by omega) hq) ⟨callB_of 2 hA (gAW kw_193) rfl rfl rfl (hA _ kw_172) (hA _ kw_194) (by decide +kernel) ⟨Nat.le_of_ble_eq_true rfl, Nat.le_of_ble_eq_true rfl⟩, (hA _ kw_195), (hA _ kw_196)⟩ (pw_preV (ci := 5) hP hK hB.2.2.1 rfl) rfl rfl hl.1 rfl (lv_room (Nat.le_of_ble_eq_true rfl)) d_Mo_isSo_251 ⟨Nat.zero_le _, Nat.zero_le _⟩)) (fun r_31 e_32 => ?_)
      subst e_32
      rcases bcase (mB bf b q) with e1 | e1
      · refine lv_if_eq (tgt := 261) hx hb d_Mo_isSo_254 (by decide) (fun _ => ?_) (fun c9 => absurd (by rw [e1]; rfl) c9)
        refine lv_iconst (v := nI 0) hx hb d_Mo_isSo_261 (by decide) ?_
        refine lv_iadd hx hb d_Mo_isSo_262 ?_
        refine lv_aload_n hx hb d_Mo_isSo_263 rfl (lv_at hl 2 rfl) ?_
        refine lv_aload_n hx hb d_Mo_isSo_264 rfl (lv_at hl 2 rfl) ?_
        refine va_get (D := G.1) (ci := 5) (v := .ref tA) (C := R_Mo) (T := T_Mo) (N := 14) hx hb hA in_Mo hown hK.1 (pl_o hP hB.2.2.1) 0 rfl rfl 6 (by decide) (hA _ kw_197) (fun _ h9 => h9) rfl d_Mo_isSo_265 ?_
        refine lv_iload_n hx hb d_Mo_isSo_268 rfl (lv_at hl 3 rfl) ?_
        refine xl_iald hx hb hK.1 (pl_o hP hB.2.2.2.2.2.2.2.1) 0 4 rfl rfl (i := i) (by omega) (by decide) d_Mo_isSo_269 ?_
        refine xv_I (y := nI c_) hoc ?_
        refine lv_iload_n hx hb d_Mo_isSo_270 rfl (lv_at hl 4 rfl) ?_
        refine vp_callSi (va_Run.run (va_runV (As := [.int (nI c_), .int (nI q)]) (rest := [.int ((nI 1) + (nI 0))]) ⟨hx, hb, hml, hown, hA⟩ (c_Mo_holds l G L f hB c_ q (by omega) hq) ⟨callB_of 2 hA (gAW kw_193) rfl rfl rfl (hA _ kw_172) (hA _ kw_194) (by decide +kernel) ⟨Nat.le_of_ble_eq_true rfl, Nat.le_of_ble_eq_true rfl⟩, (hA _ kw_195), (hA _ kw_196)⟩ (pw_preV (ci := 5) hP hK hB.2.2.1 rfl) rfl rfl hl.1 rfl (lv_room (Nat.le_of_ble_eq_true rfl)) d_Mo_isSo_271 ⟨Nat.zero_le _, Nat.zero_le _⟩)) (fun r_33 e_34 => ?_)
        subst e_34
        rcases bcase (mB bf c_ q) with e2 | e2
        · refine lv_if_eq (tgt := 281) hx hb d_Mo_isSo_274 (by decide) (fun _ => ?_) (fun c9 => absurd (by rw [e2]; rfl) c9)
          refine lv_iconst (v := nI 0) hx hb d_Mo_isSo_281 (by decide) ?_
          refine lv_iadd hx hb d_Mo_isSo_282 ?_
          refine lv_iconst (v := nI 2) hx hb d_Mo_isSo_283 (by decide) ?_
          refine lv_icmp_lt (tgt := 291) hx hb d_Mo_isSo_284 (by decide) (fun _ => ?_) (fun c9 => absurd (by decide) c9)
          refine lv_iconst (v := nI 0) hx hb d_Mo_isSo_291 (by decide) ?_
          exact W.zret (v := nI 0) (ty := .boolean) hx hb hr (bI_nar false) (fun t9 h9t h9W => ⟨_, rfl, by rw [hk]; show _ = bI (((mB bf a q && mB bf b q) || (mB bf a q && mB bf c_ q)) || (mB bf b q && mB bf c_ q)); rw [e0, e1, e2]; rfl, h9t⟩) (fun _ h => nomatch h) d_Mo_isSo_292
        · refine lv_if_eq (tgt := 281) hx hb d_Mo_isSo_274 (by decide) (fun c9 => absurd c9 (by rw [e2]; decide)) (fun _ => ?_)
          refine lv_iconst (v := nI 1) hx hb d_Mo_isSo_277 (by decide) ?_
          refine lv_goto (tgt := 282) hx hb d_Mo_isSo_278 (by decide) ?_
          refine lv_iadd hx hb d_Mo_isSo_282 ?_
          refine lv_iconst (v := nI 2) hx hb d_Mo_isSo_283 (by decide) ?_
          refine lv_icmp_lt (tgt := 291) hx hb d_Mo_isSo_284 (by decide) (fun c9 => absurd c9 (by decide)) (fun _ => ?_)
          refine lv_iconst (v := nI 1) hx hb d_Mo_isSo_287 (by decide) ?_
          refine lv_goto (tgt := 292) hx hb d_Mo_isSo_288 (by decide) ?_
          exact W.zret (v := nI 1) (ty := .boolean) hx hb hr (bI_nar true) (fun t9 h9t h9W => ⟨_, rfl, by rw [hk]; show _ = bI (((mB bf a q && mB bf b q) || (mB bf a q && mB bf c_ q)) || (mB bf b q && mB bf c_ q)); rw [e0, e1, e2]; rfl, h9t⟩) (fun _ h => nomatch h) d_Mo_isSo_292
      · refine lv_if_eq (tgt := 261) hx hb d_Mo_isSo_254 (by decide) (fun c9 => absurd c9 (by rw [e1]; decide)) (fun _ => ?_)
        refine lv_iconst (v := nI 1) hx hb d_Mo_isSo_257 (by decide) ?_
        refine lv_goto (tgt := 262) hx hb d_Mo_isSo_258 (by decide) ?_
        refine lv_iadd hx hb d_Mo_isSo_262 ?_
        refine lv_aload_n hx hb d_Mo_isSo_263 rfl (lv_at hl 2 rfl) ?_
        refine lv_aload_n hx hb d_Mo_isSo_264 rfl (lv_at hl 2 rfl) ?_
        refine va_get (D := G.1) (ci := 5) (v := .ref tA) (C := R_Mo) (T := T_Mo) (N := 14) hx hb hA in_Mo hown hK.1 (pl_o hP hB.2.2.1) 0 rfl rfl 6 (by decide) (hA _ kw_197) (fun _ h9 => h9) rfl d_Mo_isSo_265 ?_
        refine lv_iload_n hx hb d_Mo_isSo_268 rfl (lv_at hl 3 rfl) ?_
        refine xl_iald hx hb hK.1 (pl_o hP hB.2.2.2.2.2.2.2.1) 0 4 rfl rfl (i := i) (by omega) (by decide) d_Mo_isSo_269 ?_
        refine xv_I (y := nI c_) hoc ?_
        refine lv_iload_n hx hb d_Mo_isSo_270 rfl (lv_at hl 4 rfl) ?_
        refine vp_callSi (va_Run.run (va_runV (As := [.int (nI c_), .int (nI q)]) (rest := [.int ((nI 1) + (nI 1))]) ⟨hx, hb, hml, hown, hA⟩ (c_Mo_holds l G L f hB c_ q (by omega) hq) ⟨callB_of 2 hA (gAW kw_193) rfl rfl rfl (hA _ kw_172) (hA _ kw_194) (by decide +kernel) ⟨Nat.le_of_ble_eq_true rfl, Nat.le_of_ble_eq_true rfl⟩, (hA _ kw_195), (hA _ kw_196)⟩ (pw_preV (ci := 5) hP hK hB.2.2.1 rfl) rfl rfl hl.1 rfl (lv_room (Nat.le_of_ble_eq_true rfl)) d_Mo_isSo_271 ⟨Nat.zero_le _, Nat.zero_le _⟩)) (fun r_35 e_36 => ?_)
        subst e_36
        rcases bcase (mB bf c_ q) with e2 | e2
        · refine lv_if_eq (tgt := 281) hx hb d_Mo_isSo_274 (by decide) (fun _ => ?_) (fun c9 => absurd (by rw [e2]; rfl) c9)
          refine lv_iconst (v := nI 0) hx hb d_Mo_isSo_281 (by decide) ?_
          refine lv_iadd hx hb d_Mo_isSo_282 ?_
          refine lv_iconst (v := nI 2) hx hb d_Mo_isSo_283 (by decide) ?_
          refine lv_icmp_lt (tgt := 291) hx hb d_Mo_isSo_284 (by decide) (fun c9 => absurd c9 (by decide)) (fun _ => ?_)
          refine lv_iconst (v := nI 1) hx hb d_Mo_isSo_287 (by decide) ?_
          refine lv_goto (tgt := 292) hx hb d_Mo_isSo_288 (by decide) ?_
          exact W.zret (v := nI 1) (ty := .boolean) hx hb hr (bI_nar true) (fun t9 h9t h9W => ⟨_, rfl, by rw [hk]; show _ = bI (((mB bf a q && mB bf b q) || (mB bf a q && mB bf c_ q)) || (mB bf b q && mB bf c_ q)); rw [e0, e1, e2]; rfl, h9t⟩) (fun _ h => nomatch h) d_Mo_isSo_292
        · refine lv_if_eq (tgt := 281) hx hb d_Mo_isSo_274 (by decide) (fun c9 => absurd c9 (by rw [e2]; decide)) (fun _ => ?_)
          refine lv_iconst (v := nI 1) hx hb d_Mo_isSo_277 (by decide) ?_
          refine lv_goto (tgt := 282) hx hb d_Mo_isSo_278 (by decide) ?_
          refine lv_iadd hx hb d_Mo_isSo_282 ?_
          refine lv_iconst (v := nI 2) hx hb d_Mo_isSo_283 (by decide) ?_
          refine lv_icmp_lt (tgt := 291) hx hb d_Mo_isSo_284 (by decide) (fun c9 => absurd c9 (by decide)) (fun _ => ?_)
          refine lv_iconst (v := nI 1) hx hb d_Mo_isSo_287 (by decide) ?_
          refine lv_goto (tgt := 292) hx hb d_Mo_isSo_288 (by decide) ?_
          exact W.zret (v := nI 1) (ty := .boolean) hx hb hr (bI_nar true) (fun t9 h9t h9W => ⟨_, rfl, by rw [hk]; show _ = bI (((mB bf a q && mB bf b q) || (mB bf a q && mB bf c_ q)) || (mB bf b q && mB bf c_ q)); rw [e0, e1, e2]; rfl, h9t⟩) (fun _ h => nomatch h) d_Mo_isSo_292

set_option maxHeartbeats 4000000 in
set_option maxRecDepth 100000 in
/-- isGood -/
theorem c_Mo_good (l : Launch) (G : GG) (L : List Nat) (f : Nat → va_E) {mo gA kA fA sA tA bA rA dA cA eA cn rn : Nat} {kn : Bool} {gf : Nat → Int32} {kd : Nat → Nat} {ka kb kc bf : Nat → Int32} {rk : Nat → Nat} {dn : Nat → Bool} {rc : Nat → Nat} {xf : Nat → Int32} (hB : MoB G L f mo gA kA fA sA tA bA rA dA cA eA cn rn kn gf kd ka kb kc bf rk dn rc xf) (x0 x1 x2 x3 : Int32) : Met l y_Mo_isGood (.code y_Mo_isGood b_Mo_isGood 5 (some .boolean) :: AW) (RM 2) (va_Pc [.ref mo, .int x0, .int x1, .int x2, .int x3] (PW G L f)) (vp_Si (fun r => r = bI (cOK cn x0 x1 x2 x3))) 0 0 (fun _ => False) := by
  refine Met.ofW (cc := b_Mo_isGood) (maxL := 5) (ret := (some .boolean)) (by decide) rfl ?_
  intro p e s m args below meth c s₁ B hml hv
  obtain ⟨rfl, hP, hK⟩ := hv
  have hx := B.exec
  have hb := B.bytes
  have hr := B.returns
  have hA : ∀ w ∈ AW, w.before _ s = true := fun w h => atoms_spec (ws := (.code y_Mo_isGood b_Mo_isGood 5 (some .boolean) :: AW)) B.pre w (List.mem_cons_of_mem _ h)
  have hown : s.vm.findClass R_Mo = some m.cls := findClass_of_methodNamed B.named
  have hlocks := B.notSynchronized
  have hl := lv_entry ([.ref mo, .int x0, .int x1, .int x2, .int x3]) (n := 5) (Nat.le_of_ble_eq_true rfl)
  rw [lg_entry_eq]
  generalize (lg_sl ([.ref mo, .int x0, .int x1, .int x2, .int x3]) ++ List.replicate (5 - (lg_sl ([.ref mo, .int x0, .int x1, .int x2, .int x3])).length) Slot.unset).toArray = ls at hl ⊢
  have hl : lv_has ls 5 [(0, .ref mo), (1, .int x0), (2, .int x1), (3, .int x2), (4, .int x3)] := hl
  have hc60 := hB.1
  have hr20 := hB.2.1
  rcases k11 x0 with rfl | rfl | rfl | rfl | rfl | rfl | rfl | rfl | rfl | rfl | rfl | hk
  · refine lv_iload_n hx hb d_Mo_isGood_0 rfl (lv_at hl 1 rfl) ?_
    refine lv_tableIn (x := nI 0) (off := 59) (tgt := 60) hx hb d_Mo_isGood_1 (by decide) (by decide) rfl (by decide) ?_
    refine lv_iload_n hx hb d_Mo_isGood_60 rfl (lv_at hl 2 rfl) ?_
    refine lv_iconst (v := nI 0) hx hb d_Mo_isGood_61 (by decide) ?_
    refine lv_bipush (v := nI 7) hx hb d_Mo_isGood_62 (by decide) ?_
    refine vp_callSi (va_Run.run (va_runS (As := [.int x1, .int (nI 0), .int (nI 7)]) (rest := []) ⟨hx, hb, hml, hown, hA⟩ (c_Mo_isIn l G L f x1 (nI 0) (nI 7)) ⟨callB_of 3 hA (gAW kw_171) rfl rfl rfl (hA _ kw_172) (hA _ kw_173) (by decide +kernel) ⟨Nat.le_of_ble_eq_true rfl, Nat.le_of_ble_eq_true rfl⟩, (hA _ kw_174)⟩ (pw_preS hP hK) rfl rfl hl.1 rfl (lv_room (Nat.le_of_ble_eq_true rfl)) d_Mo_isGood_64 ⟨Nat.zero_le _, Nat.zero_le _⟩)) (fun r_1 e_2 => ?_)
    subst e_2
    refine xv_I (y := bI (blw x1 (nI 8))) (congrArg bI (inB_0 (by decide))) ?_
    exact W.zret (v := bI (blw x1 (nI 8))) (ty := .boolean) hx hb hr (bI_nar _) (fun t9 h9t h9W => ⟨_, rfl, by unfold cOK; rw [if_pos rfl], h9t⟩) (fun _ h => nomatch h) d_Mo_isGood_67
  · refine lv_iload_n hx hb d_Mo_isGood_0 rfl (lv_at hl 1 rfl) ?_
    refine lv_tableIn (x := nI 1) (off := 59) (tgt := 60) hx hb d_Mo_isGood_1 (by decide) (by decide) rfl (by decide) ?_
    refine lv_iload_n hx hb d_Mo_isGood_60 rfl (lv_at hl 2 rfl) ?_
    refine lv_iconst (v := nI 0) hx hb d_Mo_isGood_61 (by decide) ?_
    refine lv_bipush (v := nI 7) hx hb d_Mo_isGood_62 (by decide) ?_
    refine vp_callSi (va_Run.run (va_runS (As := [.int x1, .int (nI 0), .int (nI 7)]) (rest := []) ⟨hx, hb, hml, hown, hA⟩ (c_Mo_isIn l G L f x1 (nI 0) (nI 7)) ⟨callB_of 3 hA (gAW kw_171) rfl rfl rfl (hA _ kw_172) (hA _ kw_173) (by decide +kernel) ⟨Nat.le_of_ble_eq_true rfl, Nat.le_of_ble_eq_true rfl⟩, (hA _ kw_174)⟩ (pw_preS hP hK) rfl rfl hl.1 rfl (lv_room (Nat.le_of_ble_eq_true rfl)) d_Mo_isGood_64 ⟨Nat.zero_le _, Nat.zero_le _⟩)) (fun r_3 e_4 => ?_)
    subst e_4
    refine xv_I (y := bI (blw x1 (nI 8))) (congrArg bI (inB_0 (by decide))) ?_
    exact W.zret (v := bI (blw x1 (nI 8))) (ty := .boolean) hx hb hr (bI_nar _) (fun t9 h9t h9W => ⟨_, rfl, by unfold cOK; rw [if_neg (by decide)]; rw [if_pos rfl], h9t⟩) (fun _ h => nomatch h) d_Mo_isGood_67
  · refine lv_iload_n hx hb d_Mo_isGood_0 rfl (lv_at hl 1 rfl) ?_
    refine lv_tableIn (x := nI 2) (off := 67) (tgt := 68) hx hb d_Mo_isGood_1 (by decide) (by decide) rfl (by decide) ?_
    refine lv_iload_n hx hb d_Mo_isGood_68 rfl (lv_at hl 2 rfl) ?_
    refine lv_iconst (v := nI 0) hx hb d_Mo_isGood_69 (by decide) ?_
    refine lv_iconst (v := nI 3) hx hb d_Mo_isGood_70 (by decide) ?_
    refine vp_callSi (va_Run.run (va_runS (As := [.int x1, .int (nI 0), .int (nI 3)]) (rest := []) ⟨hx, hb, hml, hown, hA⟩ (c_Mo_isIn l G L f x1 (nI 0) (nI 3)) ⟨callB_of 3 hA (gAW kw_171) rfl rfl rfl (hA _ kw_172) (hA _ kw_173) (by decide +kernel) ⟨Nat.le_of_ble_eq_true rfl, Nat.le_of_ble_eq_true rfl⟩, (hA _ kw_174)⟩ (pw_preS hP hK) rfl rfl hl.1 rfl (lv_room (Nat.le_of_ble_eq_true rfl)) d_Mo_isGood_71 ⟨Nat.zero_le _, Nat.zero_le _⟩)) (fun r_5 e_6 => ?_)
    subst e_6
    refine xv_I (y := bI (blw x1 (nI 4))) (congrArg bI (inB_0 (by decide))) ?_
    exact W.zret (v := bI (blw x1 (nI 4))) (ty := .boolean) hx hb hr (bI_nar _) (fun t9 h9t h9W => ⟨_, rfl, by unfold cOK; rw [if_neg (by decide)]; rw [if_neg (by decide)]; rw [if_pos rfl], h9t⟩) (fun _ h => nomatch h) d_Mo_isGood_74
  · refine lv_iload_n hx hb d_Mo_isGood_0 rfl (lv_at hl 1 rfl) ?_
    refine lv_tableIn (x := nI 3) (off := 74) (tgt := 75) hx hb d_Mo_isGood_1 (by decide) (by decide) rfl (by decide) ?_
    refine lv_iload_n hx hb d_Mo_isGood_75 rfl (lv_at hl 2 rfl) ?_
    refine lv_iconst (v := nI 0) hx hb d_Mo_isGood_76 (by decide) ?_
    refine lv_iconst (v := nI 5) hx hb d_Mo_isGood_77 (by decide) ?_
    refine vp_callSi (va_Run.run (va_runS (As := [.int x1, .int (nI 0), .int (nI 5)]) (rest := []) ⟨hx, hb, hml, hown, hA⟩ (c_Mo_isIn l G L f x1 (nI 0) (nI 5)) ⟨callB_of 3 hA (gAW kw_171) rfl rfl rfl (hA _ kw_172) (hA _ kw_173) (by decide +kernel) ⟨Nat.le_of_ble_eq_true rfl, Nat.le_of_ble_eq_true rfl⟩, (hA _ kw_174)⟩ (pw_preS hP hK) rfl rfl hl.1 rfl (lv_room (Nat.le_of_ble_eq_true rfl)) d_Mo_isGood_78 ⟨Nat.zero_le _, Nat.zero_le _⟩)) (fun r_7 e_8 => ?_)
    subst e_8
    refine xv_I (y := bI (blw x1 (nI 6))) (congrArg bI (inB_0 (by decide))) ?_
    exact W.zret (v := bI (blw x1 (nI 6))) (ty := .boolean) hx hb hr (bI_nar _) (fun t9 h9t h9W => ⟨_, rfl, by unfold cOK; rw [if_neg (by decide)]; rw [if_neg (by decide)]; rw [if_neg (by decide)]; rw [if_pos rfl], h9t⟩) (fun _ h => nomatch h) d_Mo_isGood_81
  · refine lv_iload_n hx hb d_Mo_isGood_0 rfl (lv_at hl 1 rfl) ?_
    refine lv_tableIn (x := nI 4) (off := 67) (tgt := 68) hx hb d_Mo_isGood_1 (by decide) (by decide) rfl (by decide) ?_
    refine lv_iload_n hx hb d_Mo_isGood_68 rfl (lv_at hl 2 rfl) ?_
    refine lv_iconst (v := nI 0) hx hb d_Mo_isGood_69 (by decide) ?_
    refine lv_iconst (v := nI 3) hx hb d_Mo_isGood_70 (by decide) ?_
    refine vp_callSi (va_Run.run (va_runS (As := [.int x1, .int (nI 0), .int (nI 3)]) (rest := []) ⟨hx, hb, hml, hown, hA⟩ (c_Mo_isIn l G L f x1 (nI 0) (nI 3)) ⟨callB_of 3 hA (gAW kw_171) rfl rfl rfl (hA _ kw_172) (hA _ kw_173) (by decide +kernel) ⟨Nat.le_of_ble_eq_true rfl, Nat.le_of_ble_eq_true rfl⟩, (hA _ kw_174)⟩ (pw_preS hP hK) rfl rfl hl.1 rfl (lv_room (Nat.le_of_ble_eq_true rfl)) d_Mo_isGood_71 ⟨Nat.zero_le _, Nat.zero_le _⟩)) (fun r_9 e_10 => ?_)
    subst e_10
    refine xv_I (y := bI (blw x1 (nI 4))) (congrArg bI (inB_0 (by decide))) ?_
    exact W.zret (v := bI (blw x1 (nI 4))) (ty := .boolean) hx hb hr (bI_nar _) (fun t9 h9t h9W => ⟨_, rfl, by unfold cOK; rw [if_neg (by decide)]; rw [if_neg (by decide)]; rw [if_neg (by decide)]; rw [if_neg (by decide)]; rw [if_pos rfl], h9t⟩) (fun _ h => nomatch h) d_Mo_isGood_74
  · refine lv_iload_n hx hb d_Mo_isGood_0 rfl (lv_at hl 1 rfl) ?_
    refine lv_tableIn (x := nI 5) (off := 81) (tgt := 82) hx hb d_Mo_isGood_1 (by decide) (by decide) rfl (by decide) ?_
    refine lv_iload_n hx hb d_Mo_isGood_82 rfl (lv_at hl 2 rfl) ?_
    refine lv_iconst (v := nI 0) hx hb d_Mo_isGood_83 (by decide) ?_
    refine lv_bipush (v := nI 7) hx hb d_Mo_isGood_84 (by decide) ?_
    refine vp_callSi (va_Run.run (va_runS (As := [.int x1, .int (nI 0), .int (nI 7)]) (rest := []) ⟨hx, hb, hml, hown, hA⟩ (c_Mo_isIn l G L f x1 (nI 0) (nI 7)) ⟨callB_of 3 hA (gAW kw_171) rfl rfl rfl (hA _ kw_172) (hA _ kw_173) (by decide +kernel) ⟨Nat.le_of_ble_eq_true rfl, Nat.le_of_ble_eq_true rfl⟩, (hA _ kw_174)⟩ (pw_preS hP hK) rfl rfl hl.1 rfl (lv_room (Nat.le_of_ble_eq_true rfl)) d_Mo_isGood_86 ⟨Nat.zero_le _, Nat.zero_le _⟩)) (fun r_11 e_12 => ?_)
    subst e_12
    refine xv_I (y := bI (blw x1 (nI 8))) (congrArg bI (inB_0 (by decide))) ?_
    rcases bcase (blw x1 (nI 8)) with hb_0 | hb_0
    · refine lv_if_eq (tgt := 106) hx hb d_Mo_isGood_89 (by decide) (fun _ => ?_) (fun c9 => absurd (by rw [hb_0]; rfl) c9)
      refine lv_iconst (v := nI 0) hx hb d_Mo_isGood_106 (by decide) ?_
      exact W.zret (v := nI 0) (ty := .boolean) hx hb hr (bI_nar false) (fun t9 h9t h9W => ⟨_, rfl, by unfold cOK; rw [if_neg (by decide)]; rw [if_neg (by decide)]; rw [if_neg (by decide)]; rw [if_neg (by decide)]; rw [if_neg (by decide)]; rw [if_pos rfl]; rw [hb_0]; rfl, h9t⟩) (fun _ h => nomatch h) d_Mo_isGood_107
    · refine lv_if_eq (tgt := 106) hx hb d_Mo_isGood_89 (by decide) (fun c9 => absurd c9 (by rw [hb_0]; decide)) (fun _ => ?_)
      refine lv_iload_n hx hb d_Mo_isGood_92 rfl (lv_at hl 3 rfl) ?_
      refine lv_iload_n hx hb d_Mo_isGood_93 rfl (lv_at hl 2 rfl) ?_
      refine lv_bipush (v := nI 7) hx hb d_Mo_isGood_94 (by decide) ?_
      refine vp_callSi (va_Run.run (va_runS (As := [.int x2, .int x1, .int (nI 7)]) (rest := []) ⟨hx, hb, hml, hown, hA⟩ (c_Mo_isIn l G L f x2 x1 (nI 7)) ⟨callB_of 3 hA (gAW kw_171) rfl rfl rfl (hA _ kw_172) (hA _ kw_173) (by decide +kernel) ⟨Nat.le_of_ble_eq_true rfl, Nat.le_of_ble_eq_true rfl⟩, (hA _ kw_174)⟩ (pw_preS hP hK) rfl rfl hl.1 rfl (lv_room (Nat.le_of_ble_eq_true rfl)) d_Mo_isGood_96 ⟨Nat.zero_le _, Nat.zero_le _⟩)) (fun r_13 e_14 => ?_)
      subst e_14
      refine xv_I (y := bI (blw x2 (nI 8) && decide (x1 ≤ x2))) (congrArg bI (inB_5 hb_0)) ?_
      rcases bcase (blw x2 (nI 8) && decide (x1 ≤ x2)) with hb_1 | hb_1
      · refine lv_if_eq (tgt := 106) hx hb d_Mo_isGood_99 (by decide) (fun _ => ?_) (fun c9 => absurd (by rw [hb_1]; rfl) c9)
        refine lv_iconst (v := nI 0) hx hb d_Mo_isGood_106 (by decide) ?_
        exact W.zret (v := nI 0) (ty := .boolean) hx hb hr (bI_nar false) (fun t9 h9t h9W => ⟨_, rfl, by unfold cOK; rw [if_neg (by decide)]; rw [if_neg (by decide)]; rw [if_neg (by decide)]; rw [if_neg (by decide)]; rw [if_neg (by decide)]; rw [if_pos rfl]; rw [hb_0, hb_1]; rfl, h9t⟩) (fun _ h => nomatch h) d_Mo_isGood_107
      · refine lv_if_eq (tgt := 106) hx hb d_Mo_isGood_99 (by decide) (fun c9 => absurd c9 (by rw [hb_1]; decide)) (fun _ => ?_)
        refine lv_iconst (v := nI 1) hx hb d_Mo_isGood_102 (by decide) ?_
        refine lv_goto (tgt := 107) hx hb d_Mo_isGood_103 (by decide) ?_
        exact W.zret (v := nI 1) (ty := .boolean) hx hb hr (bI_nar true) (fun t9 h9t h9W => ⟨_, rfl, by unfold cOK; rw [if_neg (by decide)]; rw [if_neg (by decide)]; rw [if_neg (by decide)]; rw [if_neg (by decide)]; rw [if_neg (by decide)]; rw [if_pos rfl]; rw [hb_0, hb_1]; rfl, h9t⟩) (fun _ h => nomatch h) d_Mo_isGood_107
  · refine lv_iload_n hx hb d_Mo_isGood_0 rfl (lv_at hl 1 rfl) ?_
    refine lv_tableIn (x := nI 6) (off := 107) (tgt := 108) hx hb d_Mo_isGood_1 (by decide) (by decide) rfl (by decide) ?_
    refine lv_aload_n hx hb d_Mo_isGood_108 rfl (lv_at hl 0 rfl) ?_
    refine lv_iload_n hx hb d_Mo_isGood_109 rfl (lv_at hl 2 rfl) ?_
    refine vp_callSi (va_Run.run (va_runV (As := [.int x1]) (rest := []) ⟨hx, hb, hml, hown, hA⟩ (c_Mo_isC l G L f hB x1) ⟨callB_of 1 hA (gAW kw_198) rfl rfl rfl (hA _ kw_172) (hA _ kw_199) (by decide +kernel) ⟨Nat.le_of_ble_eq_true rfl, Nat.le_of_ble_eq_true rfl⟩, (hA _ kw_200), (hA _ kw_201)⟩ (pw_preV (ci := 5) hP hK hB.2.2.1 rfl) rfl rfl hl.1 rfl (lv_room (Nat.le_of_ble_eq_true rfl)) d_Mo_isGood_110 ⟨Nat.zero_le _, Nat.zero_le _⟩)) (fun r_15 e_16 => ?_)
    subst e_16
    exact W.zret (v := bI (blw x1 (nI cn))) (ty := .boolean) hx hb hr (bI_nar _) (fun t9 h9t h9W => ⟨_, rfl, by unfold cOK; rw [if_neg (by decide)]; rw [if_neg (by decide)]; rw [if_neg (by decide)]; rw [if_neg (by decide)]; rw [if_neg (by decide)]; rw [if_neg (by decide)]; rw [if_pos rfl], h9t⟩) (fun _ h => nomatch h) d_Mo_isGood_113
  · refine lv_iload_n hx hb d_Mo_isGood_0 rfl (lv_at hl 1 rfl) ?_
    refine lv_tableIn (x := nI 7) (off := 113) (tgt := 114) hx hb d_Mo_isGood_1 (by decide) (by decide) rfl (by decide) ?_
    refine lv_aload_n hx hb d_Mo_isGood_114 rfl (lv_at hl 0 rfl) ?_
    refine lv_iload_n hx hb d_Mo_isGood_115 rfl (lv_at hl 2 rfl) ?_
    refine vp_callSi (va_Run.run (va_runV (As := [.int x1]) (rest := []) ⟨hx, hb, hml, hown, hA⟩ (c_Mo_isC l G L f hB x1) ⟨callB_of 1 hA (gAW kw_198) rfl rfl rfl (hA _ kw_172) (hA _ kw_199) (by decide +kernel) ⟨Nat.le_of_ble_eq_true rfl, Nat.le_of_ble_eq_true rfl⟩, (hA _ kw_200), (hA _ kw_201)⟩ (pw_preV (ci := 5) hP hK hB.2.2.1 rfl) rfl rfl hl.1 rfl (lv_room (Nat.le_of_ble_eq_true rfl)) d_Mo_isGood_116 ⟨Nat.zero_le _, Nat.zero_le _⟩)) (fun r_17 e_18 => ?_)
    subst e_18
    rcases bcase (blw x1 (nI cn)) with hb_0 | hb_0
    · refine lv_if_eq (tgt := 134) hx hb d_Mo_isGood_119 (by decide) (fun _ => ?_) (fun c9 => absurd (by rw [hb_0]; rfl) c9)
      refine lv_iconst (v := nI 0) hx hb d_Mo_isGood_134 (by decide) ?_
      exact W.zret (v := nI 0) (ty := .boolean) hx hb hr (bI_nar false) (fun t9 h9t h9W => ⟨_, rfl, by unfold cOK; rw [if_neg (by decide)]; rw [if_neg (by decide)]; rw [if_neg (by decide)]; rw [if_neg (by decide)]; rw [if_neg (by decide)]; rw [if_neg (by decide)]; rw [if_neg (by decide)]; rw [if_pos rfl]; rw [hb_0]; rfl, h9t⟩) (fun _ h => nomatch h) d_Mo_isGood_135
    · refine lv_if_eq (tgt := 134) hx hb d_Mo_isGood_119 (by decide) (fun c9 => absurd c9 (by rw [hb_0]; decide)) (fun _ => ?_)
      refine lv_aload_n hx hb d_Mo_isGood_122 rfl (lv_at hl 0 rfl) ?_
      refine lv_iload_n hx hb d_Mo_isGood_123 rfl (lv_at hl 3 rfl) ?_
      refine vp_callSi (va_Run.run (va_runV (As := [.int x2]) (rest := []) ⟨hx, hb, hml, hown, hA⟩ (c_Mo_isC l G L f hB x2) ⟨callB_of 1 hA (gAW kw_198) rfl rfl rfl (hA _ kw_172) (hA _ kw_199) (by decide +kernel) ⟨Nat.le_of_ble_eq_true rfl, Nat.le_of_ble_eq_true rfl⟩, (hA _ kw_200), (hA _ kw_201)⟩ (pw_preV (ci := 5) hP hK hB.2.2.1 rfl) rfl rfl hl.1 rfl (lv_room (Nat.le_of_ble_eq_true rfl)) d_Mo_isGood_124 ⟨Nat.zero_le _, Nat.zero_le _⟩)) (fun r_19 e_20 => ?_)
      subst e_20
      rcases bcase (blw x2 (nI cn)) with hb_1 | hb_1
      · refine lv_if_eq (tgt := 134) hx hb d_Mo_isGood_127 (by decide) (fun _ => ?_) (fun c9 => absurd (by rw [hb_1]; rfl) c9)
        refine lv_iconst (v := nI 0) hx hb d_Mo_isGood_134 (by decide) ?_
        exact W.zret (v := nI 0) (ty := .boolean) hx hb hr (bI_nar false) (fun t9 h9t h9W => ⟨_, rfl, by unfold cOK; rw [if_neg (by decide)]; rw [if_neg (by decide)]; rw [if_neg (by decide)]; rw [if_neg (by decide)]; rw [if_neg (by decide)]; rw [if_neg (by decide)]; rw [if_neg (by decide)]; rw [if_pos rfl]; rw [hb_0, hb_1]; rfl, h9t⟩) (fun _ h => nomatch h) d_Mo_isGood_135
      · refine lv_if_eq (tgt := 134) hx hb d_Mo_isGood_127 (by decide) (fun c9 => absurd c9 (by rw [hb_1]; decide)) (fun _ => ?_)
        refine lv_iconst (v := nI 1) hx hb d_Mo_isGood_130 (by decide) ?_
        refine lv_goto (tgt := 135) hx hb d_Mo_isGood_131 (by decide) ?_
        exact W.zret (v := nI 1) (ty := .boolean) hx hb hr (bI_nar true) (fun t9 h9t h9W => ⟨_, rfl, by unfold cOK; rw [if_neg (by decide)]; rw [if_neg (by decide)]; rw [if_neg (by decide)]; rw [if_neg (by decide)]; rw [if_neg (by decide)]; rw [if_neg (by decide)]; rw [if_neg (by decide)]; rw [if_pos rfl]; rw [hb_0, hb_1]; rfl, h9t⟩) (fun _ h => nomatch h) d_Mo_isGood_135
  · refine lv_iload_n hx hb d_Mo_isGood_0 rfl (lv_at hl 1 rfl) ?_
    refine lv_tableIn (x := nI 8) (off := 113) (tgt := 114) hx hb d_Mo_isGood_1 (by decide) (by decide) rfl (by decide) ?_
    refine lv_aload_n hx hb d_Mo_isGood_114 rfl (lv_at hl 0 rfl) ?_
    refine lv_iload_n hx hb d_Mo_isGood_115 rfl (lv_at hl 2 rfl) ?_
    refine vp_callSi (va_Run.run (va_runV (As := [.int x1]) (rest := []) ⟨hx, hb, hml, hown, hA⟩ (c_Mo_isC l G L f hB x1) ⟨callB_of 1 hA (gAW kw_198) rfl rfl rfl (hA _ kw_172) (hA _ kw_199) (by decide +kernel) ⟨Nat.le_of_ble_eq_true rfl, Nat.le_of_ble_eq_true rfl⟩, (hA _ kw_200), (hA _ kw_201)⟩ (pw_preV (ci := 5) hP hK hB.2.2.1 rfl) rfl rfl hl.1 rfl (lv_room (Nat.le_of_ble_eq_true rfl)) d_Mo_isGood_116 ⟨Nat.zero_le _, Nat.zero_le _⟩)) (fun r_21 e_22 => ?_)
    subst e_22
    rcases bcase (blw x1 (nI cn)) with hb_0 | hb_0
    · refine lv_if_eq (tgt := 134) hx hb d_Mo_isGood_119 (by decide) (fun _ => ?_) (fun c9 => absurd (by rw [hb_0]; rfl) c9)
      refine lv_iconst (v := nI 0) hx hb d_Mo_isGood_134 (by decide) ?_
      exact W.zret (v := nI 0) (ty := .boolean) hx hb hr (bI_nar false) (fun t9 h9t h9W => ⟨_, rfl, by unfold cOK; rw [if_neg (by decide)]; rw [if_neg (by decide)]; rw [if_neg (by decide)]; rw [if_neg (by decide)]; rw [if_neg (by decide)]; rw [if_neg (by decide)]; rw [if_neg (by decide)]; rw [if_neg (by decide)]; rw [if_pos rfl]; rw [hb_0]; rfl, h9t⟩) (fun _ h => nomatch h) d_Mo_isGood_135
    · refine lv_if_eq (tgt := 134) hx hb d_Mo_isGood_119 (by decide) (fun c9 => absurd c9 (by rw [hb_0]; decide)) (fun _ => ?_)
      refine lv_aload_n hx hb d_Mo_isGood_122 rfl (lv_at hl 0 rfl) ?_
      refine lv_iload_n hx hb d_Mo_isGood_123 rfl (lv_at hl 3 rfl) ?_
      refine vp_callSi (va_Run.run (va_runV (As := [.int x2]) (rest := []) ⟨hx, hb, hml, hown, hA⟩ (c_Mo_isC l G L f hB x2) ⟨callB_of 1 hA (gAW kw_198) rfl rfl rfl (hA _ kw_172) (hA _ kw_199) (by decide +kernel) ⟨Nat.le_of_ble_eq_true rfl, Nat.le_of_ble_eq_true rfl⟩, (hA _ kw_200), (hA _ kw_201)⟩ (pw_preV (ci := 5) hP hK hB.2.2.1 rfl) rfl rfl hl.1 rfl (lv_room (Nat.le_of_ble_eq_true rfl)) d_Mo_isGood_124 ⟨Nat.zero_le _, Nat.zero_le _⟩)) (fun r_23 e_24 => ?_)
      subst e_24
      rcases bcase (blw x2 (nI cn)) with hb_1 | hb_1
      · refine lv_if_eq (tgt := 134) hx hb d_Mo_isGood_127 (by decide) (fun _ => ?_) (fun c9 => absurd (by rw [hb_1]; rfl) c9)
        refine lv_iconst (v := nI 0) hx hb d_Mo_isGood_134 (by decide) ?_
        exact W.zret (v := nI 0) (ty := .boolean) hx hb hr (bI_nar false) (fun t9 h9t h9W => ⟨_, rfl, by unfold cOK; rw [if_neg (by decide)]; rw [if_neg (by decide)]; rw [if_neg (by decide)]; rw [if_neg (by decide)]; rw [if_neg (by decide)]; rw [if_neg (by decide)]; rw [if_neg (by decide)]; rw [if_neg (by decide)]; rw [if_pos rfl]; rw [hb_0, hb_1]; rfl, h9t⟩) (fun _ h => nomatch h) d_Mo_isGood_135
      · refine lv_if_eq (tgt := 134) hx hb d_Mo_isGood_127 (by decide) (fun c9 => absurd c9 (by rw [hb_1]; decide)) (fun _ => ?_)
        refine lv_iconst (v := nI 1) hx hb d_Mo_isGood_130 (by decide) ?_
        refine lv_goto (tgt := 135) hx hb d_Mo_isGood_131 (by decide) ?_
        exact W.zret (v := nI 1) (ty := .boolean) hx hb hr (bI_nar true) (fun t9 h9t h9W => ⟨_, rfl, by unfold cOK; rw [if_neg (by decide)]; rw [if_neg (by decide)]; rw [if_neg (by decide)]; rw [if_neg (by decide)]; rw [if_neg (by decide)]; rw [if_neg (by decide)]; rw [if_neg (by decide)]; rw [if_neg (by decide)]; rw [if_pos rfl]; rw [hb_0, hb_1]; rfl, h9t⟩) (fun _ h => nomatch h) d_Mo_isGood_135
  · refine lv_iload_n hx hb d_Mo_isGood_0 rfl (lv_at hl 1 rfl) ?_
    refine lv_tableIn (x := nI 9) (off := 135) (tgt := 136) hx hb d_Mo_isGood_1 (by decide) (by decide) rfl (by decide) ?_
    refine lv_iconst (v := nI 1) hx hb d_Mo_isGood_136 (by decide) ?_
    exact W.zret (v := nI 1) (ty := .boolean) hx hb hr (bI_nar true) (fun t9 h9t h9W => ⟨_, rfl, by unfold cOK; rw [if_neg (by decide)]; rw [if_neg (by decide)]; rw [if_neg (by decide)]; rw [if_neg (by decide)]; rw [if_neg (by decide)]; rw [if_neg (by decide)]; rw [if_neg (by decide)]; rw [if_neg (by decide)]; rw [if_neg (by decide)]; rw [if_pos rfl]; rfl, h9t⟩) (fun _ h => nomatch h) d_Mo_isGood_137
  · refine lv_iload_n hx hb d_Mo_isGood_0 rfl (lv_at hl 1 rfl) ?_
    refine lv_tableIn (x := nI 10) (off := 137) (tgt := 138) hx hb d_Mo_isGood_1 (by decide) (by decide) rfl (by decide) ?_
    refine lv_aload_n hx hb d_Mo_isGood_138 rfl (lv_at hl 0 rfl) ?_
    refine lv_iload_n hx hb d_Mo_isGood_139 rfl (lv_at hl 2 rfl) ?_
    refine vp_callSi (va_Run.run (va_runV (As := [.int x1]) (rest := []) ⟨hx, hb, hml, hown, hA⟩ (c_Mo_isC l G L f hB x1) ⟨callB_of 1 hA (gAW kw_198) rfl rfl rfl (hA _ kw_172) (hA _ kw_199) (by decide +kernel) ⟨Nat.le_of_ble_eq_true rfl, Nat.le_of_ble_eq_true rfl⟩, (hA _ kw_200), (hA _ kw_201)⟩ (pw_preV (ci := 5) hP hK hB.2.2.1 rfl) rfl rfl hl.1 rfl (lv_room (Nat.le_of_ble_eq_true rfl)) d_Mo_isGood_140 ⟨Nat.zero_le _, Nat.zero_le _⟩)) (fun r_25 e_26 => ?_)
    subst e_26
    rcases bcase (blw x1 (nI cn)) with hb_0 | hb_0
    · refine lv_if_eq (tgt := 167) hx hb d_Mo_isGood_143 (by decide) (fun _ => ?_) (fun c9 => absurd (by rw [hb_0]; rfl) c9)
      refine lv_iconst (v := nI 0) hx hb d_Mo_isGood_167 (by decide) ?_
      exact W.zret (v := nI 0) (ty := .boolean) hx hb hr (bI_nar false) (fun t9 h9t h9W => ⟨_, rfl, by unfold cOK; rw [if_neg (by decide)]; rw [if_neg (by decide)]; rw [if_neg (by decide)]; rw [if_neg (by decide)]; rw [if_neg (by decide)]; rw [if_neg (by decide)]; rw [if_neg (by decide)]; rw [if_neg (by decide)]; rw [if_neg (by decide)]; rw [if_neg (by decide)]; rw [if_pos rfl]; rw [hb_0]; rfl, h9t⟩) (fun _ h => nomatch h) d_Mo_isGood_168
    · refine lv_if_eq (tgt := 167) hx hb d_Mo_isGood_143 (by decide) (fun c9 => absurd c9 (by rw [hb_0]; decide)) (fun _ => ?_)
      refine lv_aload_n hx hb d_Mo_isGood_146 rfl (lv_at hl 0 rfl) ?_
      refine lv_iload_n hx hb d_Mo_isGood_147 rfl (lv_at hl 3 rfl) ?_
      refine vp_callSi (va_Run.run (va_runV (As := [.int x2]) (rest := []) ⟨hx, hb, hml, hown, hA⟩ (c_Mo_isC l G L f hB x2) ⟨callB_of 1 hA (gAW kw_198) rfl rfl rfl (hA _ kw_172) (hA _ kw_199) (by decide +kernel) ⟨Nat.le_of_ble_eq_true rfl, Nat.le_of_ble_eq_true rfl⟩, (hA _ kw_200), (hA _ kw_201)⟩ (pw_preV (ci := 5) hP hK hB.2.2.1 rfl) rfl rfl hl.1 rfl (lv_room (Nat.le_of_ble_eq_true rfl)) d_Mo_isGood_148 ⟨Nat.zero_le _, Nat.zero_le _⟩)) (fun r_27 e_28 => ?_)
      subst e_28
      rcases bcase (blw x2 (nI cn)) with hb_1 | hb_1
      · refine lv_if_eq (tgt := 167) hx hb d_Mo_isGood_151 (by decide) (fun _ => ?_) (fun c9 => absurd (by rw [hb_1]; rfl) c9)
        refine lv_iconst (v := nI 0) hx hb d_Mo_isGood_167 (by decide) ?_
        exact W.zret (v := nI 0) (ty := .boolean) hx hb hr (bI_nar false) (fun t9 h9t h9W => ⟨_, rfl, by unfold cOK; rw [if_neg (by decide)]; rw [if_neg (by decide)]; rw [if_neg (by decide)]; rw [if_neg (by decide)]; rw [if_neg (by decide)]; rw [if_neg (by decide)]; rw [if_neg (by decide)]; rw [if_neg (by decide)]; rw [if_neg (by decide)]; rw [if_neg (by decide)]; rw [if_pos rfl]; rw [hb_0, hb_1]; rfl, h9t⟩) (fun _ h => nomatch h) d_Mo_isGood_168
      · refine lv_if_eq (tgt := 167) hx hb d_Mo_isGood_151 (by decide) (fun c9 => absurd c9 (by rw [hb_1]; decide)) (fun _ => ?_)
        refine lv_aload_n hx hb d_Mo_isGood_154 rfl (lv_at hl 0 rfl) ?_
        refine lv_iload hx hb d_Mo_isGood_155 (lv_at hl 4 rfl) ?_
        refine vp_callSi (va_Run.run (va_runV (As := [.int x3]) (rest := []) ⟨hx, hb, hml, hown, hA⟩ (c_Mo_isC l G L f hB x3) ⟨callB_of 1 hA (gAW kw_198) rfl rfl rfl (hA _ kw_172) (hA _ kw_199) (by decide +kernel) ⟨Nat.le_of_ble_eq_true rfl, Nat.le_of_ble_eq_true rfl⟩, (hA _ kw_200), (hA _ kw_201)⟩ (pw_preV (ci := 5) hP hK hB.2.2.1 rfl) rfl rfl hl.1 rfl (lv_room (Nat.le_of_ble_eq_true rfl)) d_Mo_isGood_157 ⟨Nat.zero_le _, Nat.zero_le _⟩)) (fun r_29 e_30 => ?_)
        subst e_30
        rcases bcase (blw x3 (nI cn)) with hb_2 | hb_2
        · refine lv_if_eq (tgt := 167) hx hb d_Mo_isGood_160 (by decide) (fun _ => ?_) (fun c9 => absurd (by rw [hb_2]; rfl) c9)
          refine lv_iconst (v := nI 0) hx hb d_Mo_isGood_167 (by decide) ?_
          exact W.zret (v := nI 0) (ty := .boolean) hx hb hr (bI_nar false) (fun t9 h9t h9W => ⟨_, rfl, by unfold cOK; rw [if_neg (by decide)]; rw [if_neg (by decide)]; rw [if_neg (by decide)]; rw [if_neg (by decide)]; rw [if_neg (by decide)]; rw [if_neg (by decide)]; rw [if_neg (by decide)]; rw [if_neg (by decide)]; rw [if_neg (by decide)]; rw [if_neg (by decide)]; rw [if_pos rfl]; rw [hb_0, hb_1, hb_2]; rfl, h9t⟩) (fun _ h => nomatch h) d_Mo_isGood_168
        · refine lv_if_eq (tgt := 167) hx hb d_Mo_isGood_160 (by decide) (fun c9 => absurd c9 (by rw [hb_2]; decide)) (fun _ => ?_)
          refine lv_iconst (v := nI 1) hx hb d_Mo_isGood_163 (by decide) ?_
          refine lv_goto (tgt := 168) hx hb d_Mo_isGood_164 (by decide) ?_
          exact W.zret (v := nI 1) (ty := .boolean) hx hb hr (bI_nar true) (fun t9 h9t h9W => ⟨_, rfl, by unfold cOK; rw [if_neg (by decide)]; rw [if_neg (by decide)]; rw [if_neg (by decide)]; rw [if_neg (by decide)]; rw [if_neg (by decide)]; rw [if_neg (by decide)]; rw [if_neg (by decide)]; rw [if_neg (by decide)]; rw [if_neg (by decide)]; rw [if_neg (by decide)]; rw [if_pos rfl]; rw [hb_0, hb_1, hb_2]; rfl, h9t⟩) (fun _ h => nomatch h) d_Mo_isGood_168
  · refine lv_iload_n hx hb d_Mo_isGood_0 rfl (lv_at hl 1 rfl) ?_
    refine lv_tableOut (tgt := 169) hx hb d_Mo_isGood_1 hk (by decide) ?_
    refine lv_iconst (v := nI 0) hx hb d_Mo_isGood_169 (by decide) ?_
    exact W.zret (v := nI 0) (ty := .boolean) hx hb hr (bI_nar false) (fun t9 h9t h9W => ⟨_, rfl, by unfold cOK; rw [if_neg (k11_no hk (show 0 < 11 by decide)), if_neg (k11_no hk (show 1 < 11 by decide)), if_neg (k11_no hk (show 2 < 11 by decide)), if_neg (k11_no hk (show 3 < 11 by decide)), if_neg (k11_no hk (show 4 < 11 by decide)), if_neg (k11_no hk (show 5 < 11 by decide)), if_neg (k11_no hk (show 6 < 11 by decide)), if_neg (k11_no hk (show 7 < 11 by decide)), if_neg (k11_no hk (show 8 < 11 by decide)), if_neg (k11_no hk (show 9 < 11 by decide)), if_neg (k11_no hk (show 10 < 11 by decide))]; rfl, h9t⟩) (fun _ h => nomatch h) d_Mo_isGood_170

set_option maxHeartbeats 4000000 in
set_option maxRecDepth 100000 in
/-- firstRank -/
theorem c_Mo_fr (l : Launch) (G : GG) (L : List Nat) (f : Nat → va_E) {mo gA kA fA sA tA bA rA dA cA eA cn rn : Nat} {kn : Bool} {gf : Nat → Int32} {kd : Nat → Nat} {ka kb kc bf : Nat → Int32} {rk : Nat → Nat} {dn : Nat → Bool} {rc : Nat → Nat} {xf : Nat → Int32} (hB : MoB G L f mo gA kA fA sA tA bA rA dA cA eA cn rn kn gf kd ka kb kc bf rk dn rc xf) (hru : ∀ j, j < rn → rk j < 10 ∧ rc j < cn) (q : Nat) (hq : q < 6144) (x : Int32) : Met l y_Mo_firstRank (.code y_Mo_firstRank b_Mo_firstRank 5 (some .int) :: AW) (RM 1) (va_Pc [.ref mo, .int (nI q), .int x] (PW G L f)) (vp_Si (fun r => r = nI (frF (rP bf rc x q) rk rn))) 0 0 (fun _ => False) := by
  refine Met.ofW (cc := b_Mo_firstRank) (maxL := 5) (ret := (some .int)) (by decide) rfl ?_
  intro p e s m args below meth c s₁ B hml hv
  obtain ⟨rfl, hP, hK⟩ := hv
  have hx := B.exec
  have hb := B.bytes
  have hr := B.returns
  have hA : ∀ w ∈ AW, w.before _ s = true := fun w h => atoms_spec (ws := (.code y_Mo_firstRank b_Mo_firstRank 5 (some .int) :: AW)) B.pre w (List.mem_cons_of_mem _ h)
  have hown : s.vm.findClass R_Mo = some m.cls := findClass_of_methodNamed B.named
  have hlocks := B.notSynchronized
  have hl := lv_entry ([.ref mo, .int (nI q), .int x]) (n := 5) (Nat.le_of_ble_eq_true rfl)
  rw [lg_entry_eq]
  generalize (lg_sl ([.ref mo, .int (nI q), .int x]) ++ List.replicate (5 - (lg_sl ([.ref mo, .int (nI q), .int x])).length) Slot.unset).toArray = ls at hl ⊢
  have hl : lv_has ls 5 [(0, .ref mo), (1, .int (nI q)), (2, .int x)] := hl
  have hc60 := hB.1
  have hr20 := hB.2.1
  refine lv_bipush (v := nI 10) hx hb d_Mo_firstRank_0 (by decide) ?_
  refine lv_istore_n (lv' := [(3, .int (nI 10)), (0, .ref mo), (1, .int (nI q)), (2, .int x)]) hx hb d_Mo_firstRank_2 rfl hl (by decide) rfl (fun ls hl => ?_)
  refine lv_iconst (v := nI 0) hx hb d_Mo_firstRank_3 (by decide) ?_
  refine lv_istore (lv' := [(4, .int (nI 0)), (3, .int (nI 10)), (0, .ref mo), (1, .int (nI q)), (2, .int x)]) hx hb d_Mo_firstRank_4 hl (by decide) rfl (fun ls hl => ?_)
  have loop : ∀ (k i : Nat) (ls : Array Slot), i + k = rn → lv_has ls 5 [(0, .ref mo), (1, .int (nI q)), (2, .int x), (3, .int (nI (frF (rP bf rc x q) rk i))), (4, .int (nI i))] → W p l e (headSpec (.code y_Mo_firstRank b_Mo_firstRank 5 (some .int) :: AW) (RM 1)).room s m ([.ref mo, .int (nI q), .int x] : List Value).toArray below meth c s.heap [] 0 0 (MQ below (vp_Si (fun r => r = nI (frF (rP bf rc x q) rk rn))) ([.ref mo, .int (nI q), .int x] : List Value).toArray s 0 0 (fun _ => False)) (F0 m 6 ls []) := by
    intro k
    induction k with
    | zero =>
      intro i  ls hik  hl
      have e9 : i = rn := by omega
      refine lv_iload hx hb d_Mo_firstRank_6 (lv_at hl 4 rfl) ?_
      refine lv_aload_n hx hb d_Mo_firstRank_8 rfl (lv_at hl 0 rfl) ?_
      refine va_get (D := G.1) (ci := 5) (v := .int (nI rn)) (C := R_Mo) (T := T_Mo) (N := 14) hx hb hA in_Mo hown hK.1 (pl_o hP hB.2.2.1) 0 rfl rfl 8 (by decide) (hA _ kw_175) (fun _ h9 => h9) rfl d_Mo_firstRank_9 ?_
      refine lv_icmp_ge (tgt := 61) hx hb d_Mo_firstRank_12 (by decide) (fun _ => ?_) (fun c9 => absurd (nI_le (by omega) (by omega)) c9)
      refine lv_iload_n hx hb d_Mo_firstRank_61 rfl (lv_at hl 3 rfl) ?_
      exact W.iret (v := nI (frF (rP bf rc x q) rk i)) hx hb hr (fun t9 h9t h9W => ⟨_, rfl, by rw [e9], h9t⟩) (fun _ h => nomatch h) d_Mo_firstRank_62
    | succ k ih =>
      intro i  ls hik  hl
      have hri := hru i (by omega)
      have hfl := frF_le (rP bf rc x q) rk i
      refine lv_iload hx hb d_Mo_firstRank_6 (lv_at hl 4 rfl) ?_
      refine lv_aload_n hx hb d_Mo_firstRank_8 rfl (lv_at hl 0 rfl) ?_
      refine va_get (D := G.1) (ci := 5) (v := .int (nI rn)) (C := R_Mo) (T := T_Mo) (N := 14) hx hb hA in_Mo hown hK.1 (pl_o hP hB.2.2.1) 0 rfl rfl 8 (by decide) (hA _ kw_175) (fun _ h9 => h9) rfl d_Mo_firstRank_9 ?_
      refine lv_icmp_ge (tgt := 61) hx hb d_Mo_firstRank_12 (by decide) (fun c9 => absurd c9 (nI_ge (by omega) (by omega))) (fun _ => ?_)
      refine lv_iload hx hb d_Mo_firstRank_15 (lv_at hl 4 rfl) ?_
      refine lv_iload_n hx hb d_Mo_firstRank_17 rfl (lv_at hl 2 rfl) ?_
      by_cases he : nI i = x
      · refine lv_icmp_eq (tgt := 55) hx hb d_Mo_firstRank_18 (by decide) (fun _ => ?_) (fun c9 => absurd he c9)
        refine lv_iinc (v := nI (i + 1)) (lv' := [(4, .int (nI (i + 1))), (0, .ref mo), (1, .int (nI q)), (2, .int x), (3, .int (nI (frF (rP bf rc x q) rk i)))]) hx hb d_Mo_firstRank_55 hl (k := 4) rfl (nI_1 i) (by decide) rfl (fun ls hl => ?_)
        refine lv_goto (tgt := 6) hx hb d_Mo_firstRank_58 (by decide) ?_
        exact ih (i + 1) ls (by omega) (by rw [show frF (rP bf rc x q) rk (i + 1) = _ from frF_f1 (rP_f1 he)]; exact lv_sub hl [1, 2, 3, 4, 0] rfl)
      · refine lv_icmp_eq (tgt := 55) hx hb d_Mo_firstRank_18 (by decide) (fun c9 => absurd c9 he) (fun _ => ?_)
        refine lv_aload_n hx hb d_Mo_firstRank_21 rfl (lv_at hl 0 rfl) ?_
        refine va_get (D := G.1) (ci := 5) (v := .ref rA) (C := R_Mo) (T := T_Mo) (N := 14) hx hb hA in_Mo hown hK.1 (pl_o hP hB.2.2.1) 0 rfl rfl 9 (by decide) (hA _ kw_202) (fun _ h9 => h9) rfl d_Mo_firstRank_22 ?_
        refine lv_iload hx hb d_Mo_firstRank_25 (lv_at hl 4 rfl) ?_
        refine xl_iald hx hb hK.1 (pl_o hP hB.2.2.2.2.2.2.2.2.2.1) 0 4 rfl rfl (i := i) (by omega) (by decide) d_Mo_firstRank_27 ?_
        refine xv_I (y := nI (rk i)) rfl ?_
        refine lv_iload_n hx hb d_Mo_firstRank_28 rfl (lv_at hl 3 rfl) ?_
        by_cases hlt : rk i < frF (rP bf rc x q) rk i
        · refine lv_icmp_ge (tgt := 55) hx hb d_Mo_firstRank_29 (by decide) (fun c9 => absurd c9 (nI_ge (by omega) (by omega))) (fun _ => ?_)
          refine lv_aload_n hx hb d_Mo_firstRank_32 rfl (lv_at hl 0 rfl) ?_
          refine lv_aload_n hx hb d_Mo_firstRank_33 rfl (lv_at hl 0 rfl) ?_
          refine va_get (D := G.1) (ci := 5) (v := .ref cA) (C := R_Mo) (T := T_Mo) (N := 14) hx hb hA in_Mo hown hK.1 (pl_o hP hB.2.2.1) 0 rfl rfl 11 (by decide) (hA _ kw_203) (fun _ h9 => h9) rfl d_Mo_firstRank_34 ?_
          refine lv_iload hx hb d_Mo_firstRank_37 (lv_at hl 4 rfl) ?_
          refine xl_iald hx hb hK.1 (pl_o hP hB.2.2.2.2.2.2.2.2.2.2.2.1) 0 4 rfl rfl (i := i) (by omega) (by decide) d_Mo_firstRank_39 ?_
          refine xv_I (y := nI (rc i)) rfl ?_
          refine lv_iload_n hx hb d_Mo_firstRank_40 rfl (lv_at hl 1 rfl) ?_
          refine vp_callSi (va_Run.run (va_runV (As := [.int (nI (rc i)), .int (nI q)]) (rest := []) ⟨hx, hb, hml, hown, hA⟩ (c_Mo_holds l G L f hB (rc i) q (by omega) hq) ⟨callB_of 2 hA (gAW kw_193) rfl rfl rfl (hA _ kw_172) (hA _ kw_194) (by decide +kernel) ⟨Nat.le_of_ble_eq_true rfl, Nat.le_of_ble_eq_true rfl⟩, (hA _ kw_195), (hA _ kw_196)⟩ (pw_preV (ci := 5) hP hK hB.2.2.1 rfl) rfl rfl hl.1 rfl (lv_room (Nat.le_of_ble_eq_true rfl)) d_Mo_firstRank_41 ⟨Nat.zero_le _, Nat.zero_le _⟩)) (fun r_1 e_2 => ?_)
          subst e_2
          rcases bcase (mB bf (rc i) q) with hh | hh
          · refine lv_if_eq (tgt := 55) hx hb d_Mo_firstRank_44 (by decide) (fun _ => ?_) (fun c9 => absurd (by rw [hh]; rfl) c9)
            refine lv_iinc (v := nI (i + 1)) (lv' := [(4, .int (nI (i + 1))), (0, .ref mo), (1, .int (nI q)), (2, .int x), (3, .int (nI (frF (rP bf rc x q) rk i)))]) hx hb d_Mo_firstRank_55 hl (k := 4) rfl (nI_1 i) (by decide) rfl (fun ls hl => ?_)
            refine lv_goto (tgt := 6) hx hb d_Mo_firstRank_58 (by decide) ?_
            exact ih (i + 1) ls (by omega) (by rw [show frF (rP bf rc x q) rk (i + 1) = _ from frF_f1 (rP_f2 hh)]; exact lv_sub hl [1, 2, 3, 4, 0] rfl)
          · refine lv_if_eq (tgt := 55) hx hb d_Mo_firstRank_44 (by decide) (fun c9 => absurd c9 (by rw [hh]; decide)) (fun _ => ?_)
            refine lv_aload_n hx hb d_Mo_firstRank_47 rfl (lv_at hl 0 rfl) ?_
            refine va_get (D := G.1) (ci := 5) (v := .ref rA) (C := R_Mo) (T := T_Mo) (N := 14) hx hb hA in_Mo hown hK.1 (pl_o hP hB.2.2.1) 0 rfl rfl 9 (by decide) (hA _ kw_202) (fun _ h9 => h9) rfl d_Mo_firstRank_48 ?_
            refine lv_iload hx hb d_Mo_firstRank_51 (lv_at hl 4 rfl) ?_
            refine xl_iald hx hb hK.1 (pl_o hP hB.2.2.2.2.2.2.2.2.2.1) 0 4 rfl rfl (i := i) (by omega) (by decide) d_Mo_firstRank_53 ?_
            refine xv_I (y := nI (rk i)) rfl ?_
            refine lv_istore_n (lv' := [(3, .int (nI (rk i))), (0, .ref mo), (1, .int (nI q)), (2, .int x), (4, .int (nI i))]) hx hb d_Mo_firstRank_54 rfl hl (by decide) rfl (fun ls hl => ?_)
            refine lv_iinc (v := nI (i + 1)) (lv' := [(4, .int (nI (i + 1))), (3, .int (nI (rk i))), (0, .ref mo), (1, .int (nI q)), (2, .int x)]) hx hb d_Mo_firstRank_55 hl (k := 4) rfl (nI_1 i) (by decide) rfl (fun ls hl => ?_)
            refine lv_goto (tgt := 6) hx hb d_Mo_firstRank_58 (by decide) ?_
            exact ih (i + 1) ls (by omega) (by rw [show frF (rP bf rc x q) rk (i + 1) = _ from frF_t (rP_t he hh) hlt]; exact lv_sub hl [2, 3, 4, 1, 0] rfl)
        · refine lv_icmp_ge (tgt := 55) hx hb d_Mo_firstRank_29 (by decide) (fun _ => ?_) (fun c9 => absurd (nI_le (by omega) (by omega)) c9)
          refine lv_iinc (v := nI (i + 1)) (lv' := [(4, .int (nI (i + 1))), (0, .ref mo), (1, .int (nI q)), (2, .int x), (3, .int (nI (frF (rP bf rc x q) rk i)))]) hx hb d_Mo_firstRank_55 hl (k := 4) rfl (nI_1 i) (by decide) rfl (fun ls hl => ?_)
          refine lv_goto (tgt := 6) hx hb d_Mo_firstRank_58 (by decide) ?_
          exact ih (i + 1) ls (by omega) (by rw [show frF (rP bf rc x q) rk (i + 1) = _ from frF_f2 hlt]; exact lv_sub hl [1, 2, 3, 4, 0] rfl)
  exact loop (rn - 0) 0  ls (by omega)  (lv_sub hl [2, 3, 4, 1, 0] rfl)

set_option maxHeartbeats 4000000 in
set_option maxRecDepth 100000 in
/-- decide -/
theorem c_Mo_dec (l : Launch) (G : GG) (L : List Nat) (f : Nat → va_E) {mo gA kA fA sA tA bA rA dA cA eA cn rn : Nat} {kn : Bool} {gf : Nat → Int32} {kd : Nat → Nat} {ka kb kc bf : Nat → Int32} {rk : Nat → Nat} {dn : Nat → Bool} {rc : Nat → Nat} {xf : Nat → Int32} (hB : MoB G L f mo gA kA fA sA tA bA rA dA cA eA cn rn kn gf kd ka kb kc bf rk dn rc xf) (hru : ∀ j, j < rn → rk j < 10 ∧ rc j < cn) (q : Nat) (hq : q < 6144) (x : Int32) : Met l y_Mo_decide (.code y_Mo_decide b_Mo_decide 6 (some .int) :: AW) (RM 2) (va_Pc [.ref mo, .int (nI q), .int x] (PW G L f)) (vp_Si (fun r => r = oI (pick (rP bf rc x q) rk dn rn))) 0 0 (fun _ => False) := by
  refine Met.ofW (cc := b_Mo_decide) (maxL := 6) (ret := (some .int)) (by decide) rfl ?_
  intro p e s m args below meth c s₁ B hml hv
  obtain ⟨rfl, hP, hK⟩ := hv
  have hx := B.exec
  have hb := B.bytes
  have hr := B.returns
  have hA : ∀ w ∈ AW, w.before _ s = true := fun w h => atoms_spec (ws := (.code y_Mo_decide b_Mo_decide 6 (some .int) :: AW)) B.pre w (List.mem_cons_of_mem _ h)
  have hown : s.vm.findClass R_Mo = some m.cls := findClass_of_methodNamed B.named
  have hlocks := B.notSynchronized
  have hl := lv_entry ([.ref mo, .int (nI q), .int x]) (n := 6) (Nat.le_of_ble_eq_true rfl)
  rw [lg_entry_eq]
  generalize (lg_sl ([.ref mo, .int (nI q), .int x]) ++ List.replicate (6 - (lg_sl ([.ref mo, .int (nI q), .int x])).length) Slot.unset).toArray = ls at hl ⊢
  have hl : lv_has ls 6 [(0, .ref mo), (1, .int (nI q)), (2, .int x)] := hl
  have hc60 := hB.1
  have hr20 := hB.2.1
  have hfl := frF_le (rP bf rc x q) rk rn
  refine lv_aload_n hx hb d_Mo_decide_0 rfl (lv_at hl 0 rfl) ?_
  refine lv_iload_n hx hb d_Mo_decide_1 rfl (lv_at hl 1 rfl) ?_
  refine lv_iload_n hx hb d_Mo_decide_2 rfl (lv_at hl 2 rfl) ?_
  refine vp_callSi (va_Run.run (va_runV (As := [.int (nI q), .int x]) (rest := []) ⟨hx, hb, hml, hown, hA⟩ (c_Mo_fr l G L f hB hru q hq x) ⟨callB_of 2 hA (gAW kw_204) rfl rfl rfl (hA _ kw_172) (hA _ kw_205) (by decide +kernel) ⟨Nat.le_of_ble_eq_true rfl, Nat.le_of_ble_eq_true rfl⟩, (hA _ kw_206), (hA _ kw_207)⟩ (pw_preV (ci := 5) hP hK hB.2.2.1 rfl) rfl rfl hl.1 rfl (lv_room (Nat.le_of_ble_eq_true rfl)) d_Mo_decide_3 ⟨Nat.zero_le _, Nat.zero_le _⟩)) (fun r_1 e_2 => ?_)
  subst e_2
  refine lv_istore_n (lv' := [(3, .int (nI (frF (rP bf rc x q) rk rn))), (0, .ref mo), (1, .int (nI q)), (2, .int x)]) hx hb d_Mo_decide_6 rfl hl (by decide) rfl (fun ls hl => ?_)
  refine lv_bipush (v := (-2)) hx hb d_Mo_decide_7 (by decide) ?_
  refine lv_istore (lv' := [(4, .int (-2)), (3, .int (nI (frF (rP bf rc x q) rk rn))), (0, .ref mo), (1, .int (nI q)), (2, .int x)]) hx hb d_Mo_decide_9 hl (by decide) rfl (fun ls hl => ?_)
  refine lv_aload_n hx hb d_Mo_decide_11 rfl (lv_at hl 2 rfl) ?_
  refine va_get (D := G.1) (ci := 5) (v := .int (nI rn)) (C := R_Mo) (T := T_Mo) (N := 14) hx hb hA in_Mo hown hK.1 (pl_o hP hB.2.2.1) 0 rfl rfl 8 (by decide) (hA _ kw_175) (fun _ h9 => h9) rfl d_Mo_decide_12 ?_
  refine lv_iconst (v := nI 1) hx hb d_Mo_decide_15 (by decide) ?_
  refine lv_isub hx hb d_Mo_decide_16 ?_
  refine lv_istore (lv' := [(5, .int ((nI rn) - (nI 1))), (4, .int (-2)), (3, .int (nI (frF (rP bf rc x q) rk rn))), (0, .ref mo), (1, .int (nI q)), (2, .int x)]) hx hb d_Mo_decide_17 hl (by decide) rfl (fun ls hl => ?_)
  have loop : ∀ (k i : Nat) (ls : Array Slot), i + k = rn → lv_has ls 6 [(0, .ref mo), (1, .int (nI q)), (2, .int x), (3, .int (nI (frF (rP bf rc x q) rk rn))), (4, .int (oI (dcF (rP bf rc x q) rk dn (frF (rP bf rc x q) rk rn) rn i))), (5, .int (nI (rn - i) - nI 1))] → W p l e (headSpec (.code y_Mo_decide b_Mo_decide 6 (some .int) :: AW) (RM 2)).room s m ([.ref mo, .int (nI q), .int x] : List Value).toArray below meth c s.heap [] 0 0 (MQ below (vp_Si (fun r => r = oI (pick (rP bf rc x q) rk dn rn))) ([.ref mo, .int (nI q), .int x] : List Value).toArray s 0 0 (fun _ => False)) (F0 m 19 ls []) := by
    intro k
    induction k with
    | zero =>
      intro i  ls hik  hl
      have e9 : i = rn := by omega
      refine lv_iload hx hb d_Mo_decide_19 (lv_at hl 5 rfl) ?_
      refine lv_if_lt (tgt := 93) hx hb d_Mo_decide_21 (by decide) (fun _ => ?_) (fun c9 => absurd (by rw [show rn - i = 0 by omega]; decide) c9)
      refine lv_iload hx hb d_Mo_decide_93 (lv_at hl 4 rfl) ?_
      exact W.iret (v := oI (dcF (rP bf rc x q) rk dn (frF (rP bf rc x q) rk rn) rn i)) hx hb hr (fun t9 h9t h9W => ⟨_, rfl, by rw [e9]; exact congrArg oI (dec_pick (fun j hj => (hru j hj).1)), h9t⟩) (fun _ h => nomatch h) d_Mo_decide_95
    | succ k ih =>
      intro i  ls hik  hl
      have hri := hru (rn - 1 - i) (by omega)
      have hlt_ := dcF_lt (P := (rP bf rc x q)) (rk := rk) (dn := dn) (least := frF (rP bf rc x q) rk rn) (n := rn) i (by omega)
      have hl : lv_has ls 6 [(0, .ref mo), (1, .int (nI q)), (2, .int x), (3, .int (nI (frF (rP bf rc x q) rk rn))), (4, .int (oI (dcF (rP bf rc x q) rk dn (frF (rP bf rc x q) rk rn) rn i))), (5, .int (nI (rn - 1 - i)))] := by rw [← (show nI (rn - i) - nI 1 = nI (rn - 1 - i) from (pk_sub (by omega)).trans (congrArg nI (by omega)))]; exact hl
      refine lv_iload hx hb d_Mo_decide_19 (lv_at hl 5 rfl) ?_
      refine lv_if_lt (tgt := 93) hx hb d_Mo_decide_21 (by decide) (fun c9 => absurd c9 (nI_pos (by omega))) (fun _ => ?_)
      refine lv_iload hx hb d_Mo_decide_24 (lv_at hl 5 rfl) ?_
      refine lv_iload_n hx hb d_Mo_decide_26 rfl (lv_at hl 2 rfl) ?_
      by_cases he : nI (rn - 1 - i) = x
      · refine lv_icmp_eq (tgt := 87) hx hb d_Mo_decide_27 (by decide) (fun _ => ?_) (fun c9 => absurd he c9)
        refine lv_iinc (v := nI (rn - 1 - i) + (-1)) (lv' := [(5, .int (nI (rn - 1 - i) + (-1))), (0, .ref mo), (1, .int (nI q)), (2, .int x), (3, .int (nI (frF (rP bf rc x q) rk rn))), (4, .int (oI (dcF (rP bf rc x q) rk dn (frF (rP bf rc x q) rk rn) rn i)))]) hx hb d_Mo_decide_87 hl (k := 5) rfl rfl (by decide) rfl (fun ls hl => ?_)
        have hl : lv_has ls 6 [(5, .int (nI (rn - (i + 1)) - nI 1)), (0, .ref mo), (1, .int (nI q)), (2, .int x), (3, .int (nI (frF (rP bf rc x q) rk rn))), (4, .int (oI (dcF (rP bf rc x q) rk dn (frF (rP bf rc x q) rk rn) rn i)))] := by rw [← (dc_step (by omega))]; exact hl
        refine lv_goto (tgt := 19) hx hb d_Mo_decide_90 (by decide) ?_
        exact ih (i + 1) ls (by omega) (by rw [show dcF (rP bf rc x q) rk dn (frF (rP bf rc x q) rk rn) rn (i + 1) = _ from dcF_f (by unfold dcC; rw [rP_f1 he]; rfl)]; exact lv_sub hl [1, 2, 3, 4, 5, 0] rfl)
      · refine lv_icmp_eq (tgt := 87) hx hb d_Mo_decide_27 (by decide) (fun c9 => absurd c9 he) (fun _ => ?_)
        refine lv_aload_n hx hb d_Mo_decide_30 rfl (lv_at hl 0 rfl) ?_
        refine va_get (D := G.1) (ci := 5) (v := .ref rA) (C := R_Mo) (T := T_Mo) (N := 14) hx hb hA in_Mo hown hK.1 (pl_o hP hB.2.2.1) 0 rfl rfl 9 (by decide) (hA _ kw_202) (fun _ h9 => h9) rfl d_Mo_decide_31 ?_
        refine lv_iload hx hb d_Mo_decide_34 (lv_at hl 5 rfl) ?_
        refine xl_iald hx hb hK.1 (pl_o hP hB.2.2.2.2.2.2.2.2.2.1) 0 4 rfl rfl (i := (rn - 1 - i)) (by omega) (by decide) d_Mo_decide_36 ?_
        refine xv_I (y := nI (rk (rn - 1 - i))) rfl ?_
        refine lv_iload_n hx hb d_Mo_decide_37 rfl (lv_at hl 3 rfl) ?_
        by_cases hq2 : rk (rn - 1 - i) = frF (rP bf rc x q) rk rn
        · refine lv_icmp_ne (tgt := 87) hx hb d_Mo_decide_38 (by decide) (fun c9 => absurd (congrArg nI hq2) c9) (fun _ => ?_)
          refine lv_aload_n hx hb d_Mo_decide_41 rfl (lv_at hl 0 rfl) ?_
          refine lv_aload_n hx hb d_Mo_decide_42 rfl (lv_at hl 0 rfl) ?_
          refine va_get (D := G.1) (ci := 5) (v := .ref cA) (C := R_Mo) (T := T_Mo) (N := 14) hx hb hA in_Mo hown hK.1 (pl_o hP hB.2.2.1) 0 rfl rfl 11 (by decide) (hA _ kw_203) (fun _ h9 => h9) rfl d_Mo_decide_43 ?_
          refine lv_iload hx hb d_Mo_decide_46 (lv_at hl 5 rfl) ?_
          refine xl_iald hx hb hK.1 (pl_o hP hB.2.2.2.2.2.2.2.2.2.2.2.1) 0 4 rfl rfl (i := (rn - 1 - i)) (by omega) (by decide) d_Mo_decide_48 ?_
          refine xv_I (y := nI (rc (rn - 1 - i))) rfl ?_
          refine lv_iload_n hx hb d_Mo_decide_49 rfl (lv_at hl 1 rfl) ?_
          refine vp_callSi (va_Run.run (va_runV (As := [.int (nI (rc (rn - 1 - i))), .int (nI q)]) (rest := []) ⟨hx, hb, hml, hown, hA⟩ (c_Mo_holds l G L f hB (rc (rn - 1 - i)) q (by omega) hq) ⟨callB_of 2 hA (gAW kw_193) rfl rfl rfl (hA _ kw_172) (hA _ kw_194) (by decide +kernel) ⟨Nat.le_of_ble_eq_true rfl, Nat.le_of_ble_eq_true rfl⟩, (hA _ kw_195), (hA _ kw_196)⟩ (pw_preV (ci := 5) hP hK hB.2.2.1 rfl) rfl rfl hl.1 rfl (lv_room (Nat.le_of_ble_eq_true rfl)) d_Mo_decide_50 ⟨Nat.zero_le _, Nat.zero_le _⟩)) (fun r_3 e_4 => ?_)
          subst e_4
          rcases bcase (mB bf (rc (rn - 1 - i)) q) with hh | hh
          · refine lv_if_eq (tgt := 87) hx hb d_Mo_decide_53 (by decide) (fun _ => ?_) (fun c9 => absurd (by rw [hh]; rfl) c9)
            refine lv_iinc (v := nI (rn - 1 - i) + (-1)) (lv' := [(5, .int (nI (rn - 1 - i) + (-1))), (0, .ref mo), (1, .int (nI q)), (2, .int x), (3, .int (nI (frF (rP bf rc x q) rk rn))), (4, .int (oI (dcF (rP bf rc x q) rk dn (frF (rP bf rc x q) rk rn) rn i)))]) hx hb d_Mo_decide_87 hl (k := 5) rfl rfl (by decide) rfl (fun ls hl => ?_)
            have hl : lv_has ls 6 [(5, .int (nI (rn - (i + 1)) - nI 1)), (0, .ref mo), (1, .int (nI q)), (2, .int x), (3, .int (nI (frF (rP bf rc x q) rk rn))), (4, .int (oI (dcF (rP bf rc x q) rk dn (frF (rP bf rc x q) rk rn) rn i)))] := by rw [← (dc_step (by omega))]; exact hl
            refine lv_goto (tgt := 19) hx hb d_Mo_decide_90 (by decide) ?_
            exact ih (i + 1) ls (by omega) (by rw [show dcF (rP bf rc x q) rk dn (frF (rP bf rc x q) rk rn) rn (i + 1) = _ from dcF_f (by unfold dcC; rw [rP_f2 hh]; rfl)]; exact lv_sub hl [1, 2, 3, 4, 5, 0] rfl)
          · refine lv_if_eq (tgt := 87) hx hb d_Mo_decide_53 (by decide) (fun c9 => absurd c9 (by rw [hh]; decide)) (fun _ => ?_)
            refine lv_aload_n hx hb d_Mo_decide_56 rfl (lv_at hl 0 rfl) ?_
            refine va_get (D := G.1) (ci := 5) (v := .ref dA) (C := R_Mo) (T := T_Mo) (N := 14) hx hb hA in_Mo hown hK.1 (pl_o hP hB.2.2.1) 0 rfl rfl 10 (by decide) (hA _ kw_208) (fun _ h9 => h9) rfl d_Mo_decide_57 ?_
            refine lv_iload hx hb d_Mo_decide_60 (lv_at hl 5 rfl) ?_
            refine xl_zald hx hb hK.1 (pl_o hP hB.2.2.2.2.2.2.2.2.2.2.1) 0 1 rfl rfl (i := (rn - 1 - i)) (by omega) (by decide) d_Mo_decide_62 ?_
            refine xv_I (y := bI (dn (rn - 1 - i))) rfl ?_
            rcases bcase (dn (rn - 1 - i)) with hd | hd
            · refine lv_if_ne (tgt := 83) hx hb d_Mo_decide_63 (by decide) (fun c9 => absurd (by rw [hd]; rfl) c9) (fun _ => ?_)
              rcases ocase (dcF (rP bf rc x q) rk dn (frF (rP bf rc x q) rk rn) rn i) with ho | ⟨m_, ho⟩
              · have hl : lv_has ls 6 [(0, .ref mo), (1, .int (nI q)), (2, .int x), (3, .int (nI (frF (rP bf rc x q) rk rn))), (4, .int (-2)), (5, .int (nI (rn - 1 - i)))] := by rw [← (show oI (dcF (rP bf rc x q) rk dn (frF (rP bf rc x q) rk rn) rn i) = -2 by rw [ho]; rfl)]; exact hl
                refine lv_iload hx hb d_Mo_decide_66 (lv_at hl 4 rfl) ?_
                refine lv_bipush (v := (-2)) hx hb d_Mo_decide_68 (by decide) ?_
                refine lv_icmp_eq (tgt := 83) hx hb d_Mo_decide_70 (by decide) (fun _ => ?_) (fun c9 => absurd rfl c9)
                refine lv_iload hx hb d_Mo_decide_83 (lv_at hl 5 rfl) ?_
                refine lv_istore (lv' := [(4, .int (nI (rn - 1 - i))), (0, .ref mo), (1, .int (nI q)), (2, .int x), (3, .int (nI (frF (rP bf rc x q) rk rn))), (5, .int (nI (rn - 1 - i)))]) hx hb d_Mo_decide_85 hl (by decide) rfl (fun ls hl => ?_)
                refine lv_iinc (v := nI (rn - 1 - i) + (-1)) (lv' := [(5, .int (nI (rn - 1 - i) + (-1))), (4, .int (nI (rn - 1 - i))), (0, .ref mo), (1, .int (nI q)), (2, .int x), (3, .int (nI (frF (rP bf rc x q) rk rn)))]) hx hb d_Mo_decide_87 hl (k := 5) rfl rfl (by decide) rfl (fun ls hl => ?_)
                have hl : lv_has ls 6 [(5, .int (nI (rn - (i + 1)) - nI 1)), (4, .int (nI (rn - 1 - i))), (0, .ref mo), (1, .int (nI q)), (2, .int x), (3, .int (nI (frF (rP bf rc x q) rk rn)))] := by rw [← (dc_step (by omega))]; exact hl
                refine lv_goto (tgt := 19) hx hb d_Mo_decide_90 (by decide) ?_
                exact ih (i + 1) ls (by omega) (by rw [show dcF (rP bf rc x q) rk dn (frF (rP bf rc x q) rk rn) rn (i + 1) = _ from dcF_t (by unfold dcC; rw [rP_t he hh, decide_eq_true hq2, hd, ho]; rfl)]; exact lv_sub hl [2, 3, 4, 5, 1, 0] rfl)
              · have hm_ := hlt_ m_ ho
                have hl : lv_has ls 6 [(0, .ref mo), (1, .int (nI q)), (2, .int x), (3, .int (nI (frF (rP bf rc x q) rk rn))), (4, .int (nI m_)), (5, .int (nI (rn - 1 - i)))] := by rw [← (show oI (dcF (rP bf rc x q) rk dn (frF (rP bf rc x q) rk rn) rn i) = nI m_ by rw [ho]; rfl)]; exact hl
                refine lv_iload hx hb d_Mo_decide_66 (lv_at hl 4 rfl) ?_
                refine lv_bipush (v := (-2)) hx hb d_Mo_decide_68 (by decide) ?_
                refine lv_icmp_eq (tgt := 83) hx hb d_Mo_decide_70 (by decide) (fun c9 => absurd c9 (nI_m2 (by omega))) (fun _ => ?_)
                refine lv_aload_n hx hb d_Mo_decide_73 rfl (lv_at hl 0 rfl) ?_
                refine va_get (D := G.1) (ci := 5) (v := .ref dA) (C := R_Mo) (T := T_Mo) (N := 14) hx hb hA in_Mo hown hK.1 (pl_o hP hB.2.2.1) 0 rfl rfl 10 (by decide) (hA _ kw_208) (fun _ h9 => h9) rfl d_Mo_decide_74 ?_
                refine lv_iload hx hb d_Mo_decide_77 (lv_at hl 4 rfl) ?_
                refine xl_zald hx hb hK.1 (pl_o hP hB.2.2.2.2.2.2.2.2.2.2.1) 0 1 rfl rfl (i := m_) (by omega) (by decide) d_Mo_decide_79 ?_
                refine xv_I (y := bI (dn m_)) rfl ?_
                rcases bcase (dn m_) with hm2 | hm2
                · refine lv_if_ne (tgt := 87) hx hb d_Mo_decide_80 (by decide) (fun c9 => absurd (by rw [hm2]; rfl) c9) (fun _ => ?_)
                  refine lv_iload hx hb d_Mo_decide_83 (lv_at hl 5 rfl) ?_
                  refine lv_istore (lv' := [(4, .int (nI (rn - 1 - i))), (0, .ref mo), (1, .int (nI q)), (2, .int x), (3, .int (nI (frF (rP bf rc x q) rk rn))), (5, .int (nI (rn - 1 - i)))]) hx hb d_Mo_decide_85 hl (by decide) rfl (fun ls hl => ?_)
                  refine lv_iinc (v := nI (rn - 1 - i) + (-1)) (lv' := [(5, .int (nI (rn - 1 - i) + (-1))), (4, .int (nI (rn - 1 - i))), (0, .ref mo), (1, .int (nI q)), (2, .int x), (3, .int (nI (frF (rP bf rc x q) rk rn)))]) hx hb d_Mo_decide_87 hl (k := 5) rfl rfl (by decide) rfl (fun ls hl => ?_)
                  have hl : lv_has ls 6 [(5, .int (nI (rn - (i + 1)) - nI 1)), (4, .int (nI (rn - 1 - i))), (0, .ref mo), (1, .int (nI q)), (2, .int x), (3, .int (nI (frF (rP bf rc x q) rk rn)))] := by rw [← (dc_step (by omega))]; exact hl
                  refine lv_goto (tgt := 19) hx hb d_Mo_decide_90 (by decide) ?_
                  exact ih (i + 1) ls (by omega) (by rw [show dcF (rP bf rc x q) rk dn (frF (rP bf rc x q) rk rn) rn (i + 1) = _ from dcF_t (by unfold dcC; rw [rP_t he hh, decide_eq_true hq2, hd, ho]; unfold alw; simp [hm2])]; exact lv_sub hl [2, 3, 4, 5, 1, 0] rfl)
                · refine lv_if_ne (tgt := 87) hx hb d_Mo_decide_80 (by decide) (fun _ => ?_) (fun c9 => absurd c9 (by rw [hm2]; decide))
                  have hl : lv_has ls 6 [(0, .ref mo), (1, .int (nI q)), (2, .int x), (3, .int (nI (frF (rP bf rc x q) rk rn))), (4, .int (oI (dcF (rP bf rc x q) rk dn (frF (rP bf rc x q) rk rn) rn i))), (5, .int (nI (rn - 1 - i)))] := by rw [← (show nI m_ = oI (dcF (rP bf rc x q) rk dn (frF (rP bf rc x q) rk rn) rn i) by rw [ho]; rfl)]; exact hl
                  refine lv_iinc (v := nI (rn - 1 - i) + (-1)) (lv' := [(5, .int (nI (rn - 1 - i) + (-1))), (0, .ref mo), (1, .int (nI q)), (2, .int x), (3, .int (nI (frF (rP bf rc x q) rk rn))), (4, .int (oI (dcF (rP bf rc x q) rk dn (frF (rP bf rc x q) rk rn) rn i)))]) hx hb d_Mo_decide_87 hl (k := 5) rfl rfl (by decide) rfl (fun ls hl => ?_)
                  have hl : lv_has ls 6 [(5, .int (nI (rn - (i + 1)) - nI 1)), (0, .ref mo), (1, .int (nI q)), (2, .int x), (3, .int (nI (frF (rP bf rc x q) rk rn))), (4, .int (oI (dcF (rP bf rc x q) rk dn (frF (rP bf rc x q) rk rn) rn i)))] := by rw [← (dc_step (by omega))]; exact hl
                  refine lv_goto (tgt := 19) hx hb d_Mo_decide_90 (by decide) ?_
                  exact ih (i + 1) ls (by omega) (by rw [show dcF (rP bf rc x q) rk dn (frF (rP bf rc x q) rk rn) rn (i + 1) = _ from dcF_f (by unfold dcC; rw [rP_t he hh, decide_eq_true hq2, hd, ho]; unfold alw; simp [hm2])]; exact lv_sub hl [1, 2, 3, 4, 5, 0] rfl)
            · refine lv_if_ne (tgt := 83) hx hb d_Mo_decide_63 (by decide) (fun _ => ?_) (fun c9 => absurd c9 (by rw [hd]; decide))
              refine lv_iload hx hb d_Mo_decide_83 (lv_at hl 5 rfl) ?_
              refine lv_istore (lv' := [(4, .int (nI (rn - 1 - i))), (0, .ref mo), (1, .int (nI q)), (2, .int x), (3, .int (nI (frF (rP bf rc x q) rk rn))), (5, .int (nI (rn - 1 - i)))]) hx hb d_Mo_decide_85 hl (by decide) rfl (fun ls hl => ?_)
              refine lv_iinc (v := nI (rn - 1 - i) + (-1)) (lv' := [(5, .int (nI (rn - 1 - i) + (-1))), (4, .int (nI (rn - 1 - i))), (0, .ref mo), (1, .int (nI q)), (2, .int x), (3, .int (nI (frF (rP bf rc x q) rk rn)))]) hx hb d_Mo_decide_87 hl (k := 5) rfl rfl (by decide) rfl (fun ls hl => ?_)
              have hl : lv_has ls 6 [(5, .int (nI (rn - (i + 1)) - nI 1)), (4, .int (nI (rn - 1 - i))), (0, .ref mo), (1, .int (nI q)), (2, .int x), (3, .int (nI (frF (rP bf rc x q) rk rn)))] := by rw [← (dc_step (by omega))]; exact hl
              refine lv_goto (tgt := 19) hx hb d_Mo_decide_90 (by decide) ?_
              exact ih (i + 1) ls (by omega) (by rw [show dcF (rP bf rc x q) rk dn (frF (rP bf rc x q) rk rn) rn (i + 1) = _ from dcF_t (by unfold dcC; rw [rP_t he hh, decide_eq_true hq2, hd]; rfl)]; exact lv_sub hl [2, 3, 4, 5, 1, 0] rfl)
        · refine lv_icmp_ne (tgt := 87) hx hb d_Mo_decide_38 (by decide) (fun _ => ?_) (fun c9 => absurd c9 (fun z => hq2 ((nI_eq (by omega) (by omega)).mp z)))
          refine lv_iinc (v := nI (rn - 1 - i) + (-1)) (lv' := [(5, .int (nI (rn - 1 - i) + (-1))), (0, .ref mo), (1, .int (nI q)), (2, .int x), (3, .int (nI (frF (rP bf rc x q) rk rn))), (4, .int (oI (dcF (rP bf rc x q) rk dn (frF (rP bf rc x q) rk rn) rn i)))]) hx hb d_Mo_decide_87 hl (k := 5) rfl rfl (by decide) rfl (fun ls hl => ?_)
          have hl : lv_has ls 6 [(5, .int (nI (rn - (i + 1)) - nI 1)), (0, .ref mo), (1, .int (nI q)), (2, .int x), (3, .int (nI (frF (rP bf rc x q) rk rn))), (4, .int (oI (dcF (rP bf rc x q) rk dn (frF (rP bf rc x q) rk rn) rn i)))] := by rw [← (dc_step (by omega))]; exact hl
          refine lv_goto (tgt := 19) hx hb d_Mo_decide_90 (by decide) ?_
          exact ih (i + 1) ls (by omega) (by rw [show dcF (rP bf rc x q) rk dn (frF (rP bf rc x q) rk rn) rn (i + 1) = _ from dcF_f (by unfold dcC; rw [decide_eq_false hq2, Bool.false_and, Bool.and_false])]; exact lv_sub hl [1, 2, 3, 4, 5, 0] rfl)
  exact loop (rn - 0) 0  ls (by omega)  (lv_sub hl [3, 4, 5, 2, 1, 0] rfl)

set_option maxHeartbeats 4000000 in
set_option maxRecDepth 100000 in
/-- isAllowed -/
theorem c_Mo_alw (l : Launch) (G : GG) (L : List Nat) (f : Nat → va_E) {mo gA kA fA sA tA bA rA dA cA eA cn rn : Nat} {kn : Bool} {gf : Nat → Int32} {kd : Nat → Nat} {ka kb kc bf : Nat → Int32} {rk : Nat → Nat} {dn : Nat → Bool} {rc : Nat → Nat} {xf : Nat → Int32} (hB : MoB G L f mo gA kA fA sA tA bA rA dA cA eA cn rn kn gf kd ka kb kc bf rk dn rc xf) (op : Option Nat) (hlt : ∀ k, op = some k → k < 20) : Met l y_Mo_isAllowed (.code y_Mo_isAllowed b_Mo_isAllowed 2 (some .boolean) :: AW) (RM 0) (va_Pc [.ref mo, .int (oI op)] (PW G L f)) (vp_Si (fun r => r = bI (alw dn op))) 0 0 (fun _ => False) := by
  refine Met.ofW (cc := b_Mo_isAllowed) (maxL := 2) (ret := (some .boolean)) (by decide) rfl ?_
  intro p e s m args below meth c s₁ B hml hv
  obtain ⟨rfl, hP, hK⟩ := hv
  have hx := B.exec
  have hb := B.bytes
  have hr := B.returns
  have hA : ∀ w ∈ AW, w.before _ s = true := fun w h => atoms_spec (ws := (.code y_Mo_isAllowed b_Mo_isAllowed 2 (some .boolean) :: AW)) B.pre w (List.mem_cons_of_mem _ h)
  have hown : s.vm.findClass R_Mo = some m.cls := findClass_of_methodNamed B.named
  have hlocks := B.notSynchronized
  have hl := lv_entry ([.ref mo, .int (oI op)]) (n := 2) (Nat.le_of_ble_eq_true rfl)
  rw [lg_entry_eq]
  generalize (lg_sl ([.ref mo, .int (oI op)]) ++ List.replicate (2 - (lg_sl ([.ref mo, .int (oI op)])).length) Slot.unset).toArray = ls at hl ⊢
  have hl : lv_has ls 2 [(0, .ref mo), (1, .int (oI op))] := hl
  have hc60 := hB.1
  have hr20 := hB.2.1
  rcases ocase op with ho | ⟨k, ho⟩
  · subst ho
    have hl : lv_has ls 2 [(0, .ref mo), (1, .int (-2))] := hl
    refine lv_iload_n hx hb d_Mo_isAllowed_0 rfl (lv_at hl 1 rfl) ?_
    refine lv_bipush (v := (-2)) hx hb d_Mo_isAllowed_1 (by decide) ?_
    refine lv_icmp_eq (tgt := 19) hx hb d_Mo_isAllowed_3 (by decide) (fun _ => ?_) (fun c9 => absurd rfl c9)
    refine lv_iconst (v := nI 0) hx hb d_Mo_isAllowed_19 (by decide) ?_
    exact W.zret (v := nI 0) (ty := .boolean) hx hb hr (bI_nar false) (fun t9 h9t h9W => ⟨_, rfl, rfl, h9t⟩) (fun _ h => nomatch h) d_Mo_isAllowed_20
  · subst ho
    have hk_ := hlt k rfl
    have hl : lv_has ls 2 [(0, .ref mo), (1, .int (nI k))] := hl
    refine lv_iload_n hx hb d_Mo_isAllowed_0 rfl (lv_at hl 1 rfl) ?_
    refine lv_bipush (v := (-2)) hx hb d_Mo_isAllowed_1 (by decide) ?_
    refine lv_icmp_eq (tgt := 19) hx hb d_Mo_isAllowed_3 (by decide) (fun c9 => absurd c9 (nI_m2 (by omega))) (fun _ => ?_)
    refine lv_aload_n hx hb d_Mo_isAllowed_6 rfl (lv_at hl 0 rfl) ?_
    refine va_get (D := G.1) (ci := 5) (v := .ref dA) (C := R_Mo) (T := T_Mo) (N := 14) hx hb hA in_Mo hown hK.1 (pl_o hP hB.2.2.1) 0 rfl rfl 10 (by decide) (hA _ kw_208) (fun _ h9 => h9) rfl d_Mo_isAllowed_7 ?_
    refine lv_iload_n hx hb d_Mo_isAllowed_10 rfl (lv_at hl 1 rfl) ?_
    refine xl_zald hx hb hK.1 (pl_o hP hB.2.2.2.2.2.2.2.2.2.2.1) 0 1 rfl rfl (i := k) (by omega) (by decide) d_Mo_isAllowed_11 ?_
    refine xv_I (y := bI (dn k)) rfl ?_
    rcases bcase (dn k) with hd | hd
    · refine lv_if_ne (tgt := 19) hx hb d_Mo_isAllowed_12 (by decide) (fun c9 => absurd (by rw [hd]; rfl) c9) (fun _ => ?_)
      refine lv_iconst (v := nI 1) hx hb d_Mo_isAllowed_15 (by decide) ?_
      refine lv_goto (tgt := 20) hx hb d_Mo_isAllowed_16 (by decide) ?_
      exact W.zret (v := nI 1) (ty := .boolean) hx hb hr (bI_nar true) (fun t9 h9t h9W => ⟨_, rfl, by show _ = bI (!dn k); rw [hd]; rfl, h9t⟩) (fun _ h => nomatch h) d_Mo_isAllowed_20
    · refine lv_if_ne (tgt := 19) hx hb d_Mo_isAllowed_12 (by decide) (fun _ => ?_) (fun c9 => absurd c9 (by rw [hd]; decide))
      refine lv_iconst (v := nI 0) hx hb d_Mo_isAllowed_19 (by decide) ?_
      exact W.zret (v := nI 0) (ty := .boolean) hx hb hr (bI_nar false) (fun t9 h9t h9W => ⟨_, rfl, by show _ = bI (!dn k); rw [hd]; rfl, h9t⟩) (fun _ h => nomatch h) d_Mo_isAllowed_20

set_option maxHeartbeats 4000000 in
set_option maxRecDepth 100000 in
/-- wouldDecide -/
theorem c_Mo_would (l : Launch) (G : GG) (L : List Nat) (f : Nat → va_E) {mo gA kA fA sA tA bA rA dA cA eA cn rn : Nat} {kn : Bool} {gf : Nat → Int32} {kd : Nat → Nat} {ka kb kc bf : Nat → Int32} {rk : Nat → Nat} {dn : Nat → Bool} {rc : Nat → Nat} {xf : Nat → Int32} (hB : MoB G L f mo gA kA fA sA tA bA rA dA cA eA cn rn kn gf kd ka kb kc bf rk dn rc xf) (hru : ∀ j, j < rn → rk j < 10 ∧ rc j < cn) (hX : ∀ q, q < 6144 → xf q = oI (pkQ bf rk dn rc rn q)) (r0 : Nat) (b0 : Bool) (q : Nat) (hr0 : r0 < 10) (hq : q < 6144) : Met l y_Mo_wouldDecide (.code y_Mo_wouldDecide b_Mo_wouldDecide 5 (some .boolean) :: AW) (RM 2) (va_Pc [.ref mo, .int (nI r0), .int (bI b0), .int (nI q)] (PW G L f)) (vp_Si (fun r => r = bI (wouldB (frF (rQ bf rc q) rk rn) (alw dn (pkQ bf rk dn rc rn q)) b0 r0))) 0 0 (fun _ => False) := by
  refine Met.ofW (cc := b_Mo_wouldDecide) (maxL := 5) (ret := (some .boolean)) (by decide) rfl ?_
  intro p e s m args below meth c s₁ B hml hv
  obtain ⟨rfl, hP, hK⟩ := hv
  have hx := B.exec
  have hb := B.bytes
  have hr := B.returns
  have hA : ∀ w ∈ AW, w.before _ s = true := fun w h => atoms_spec (ws := (.code y_Mo_wouldDecide b_Mo_wouldDecide 5 (some .boolean) :: AW)) B.pre w (List.mem_cons_of_mem _ h)
  have hown : s.vm.findClass R_Mo = some m.cls := findClass_of_methodNamed B.named
  have hlocks := B.notSynchronized
  have hl := lv_entry ([.ref mo, .int (nI r0), .int (bI b0), .int (nI q)]) (n := 5) (Nat.le_of_ble_eq_true rfl)
  rw [lg_entry_eq]
  generalize (lg_sl ([.ref mo, .int (nI r0), .int (bI b0), .int (nI q)]) ++ List.replicate (5 - (lg_sl ([.ref mo, .int (nI r0), .int (bI b0), .int (nI q)])).length) Slot.unset).toArray = ls at hl ⊢
  have hl : lv_has ls 5 [(0, .ref mo), (1, .int (nI r0)), (2, .int (bI b0)), (3, .int (nI q))] := hl
  have hc60 := hB.1
  have hr20 := hB.2.1
  have hfl := frF_le (rQ bf rc q) rk rn
  refine lv_aload_n hx hb d_Mo_wouldDecide_0 rfl (lv_at hl 0 rfl) ?_
  refine lv_iload_n hx hb d_Mo_wouldDecide_1 rfl (lv_at hl 3 rfl) ?_
  refine lv_bipush (v := (-2)) hx hb d_Mo_wouldDecide_2 (by decide) ?_
  refine vp_callSi (va_Run.run (va_runV (As := [.int (nI q), .int (-2)]) (rest := []) ⟨hx, hb, hml, hown, hA⟩ (c_Mo_fr l G L f hB hru q hq (-2)) ⟨callB_of 2 hA (gAW kw_204) rfl rfl rfl (hA _ kw_172) (hA _ kw_205) (by decide +kernel) ⟨Nat.le_of_ble_eq_true rfl, Nat.le_of_ble_eq_true rfl⟩, (hA _ kw_206), (hA _ kw_207)⟩ (pw_preV (ci := 5) hP hK hB.2.2.1 rfl) rfl rfl hl.1 rfl (lv_room (Nat.le_of_ble_eq_true rfl)) d_Mo_wouldDecide_4 ⟨Nat.zero_le _, Nat.zero_le _⟩)) (fun r_1 e_2 => ?_)
  subst e_2
  refine xv_I (y := nI (frF (rQ bf rc q) rk rn)) (congrArg nI (frF_congr (fun j hj => rP_no (by omega)))) ?_
  refine lv_istore (lv' := [(4, .int (nI (frF (rQ bf rc q) rk rn))), (0, .ref mo), (1, .int (nI r0)), (2, .int (bI b0)), (3, .int (nI q))]) hx hb d_Mo_wouldDecide_7 hl (by decide) rfl (fun ls hl => ?_)
  refine lv_iload_n hx hb d_Mo_wouldDecide_9 rfl (lv_at hl 2 rfl) ?_
  refine lv_iload hx hb d_Mo_wouldDecide_10 (lv_at hl 0 rfl) ?_
  by_cases hlt : r0 < frF (rQ bf rc q) rk rn
  · refine lv_icmp_lt (tgt := 38) hx hb d_Mo_wouldDecide_12 (by decide) (fun _ => ?_) (fun c9 => absurd (nI_lt hlt (by omega)) c9)
    refine lv_iconst (v := nI 1) hx hb d_Mo_wouldDecide_38 (by decide) ?_
    refine lv_goto (tgt := 43) hx hb d_Mo_wouldDecide_39 (by decide) ?_
    exact W.zret (v := nI 1) (ty := .boolean) hx hb hr (bI_nar true) (fun t9 h9t h9W => ⟨_, rfl, by show _ = bI (decide (r0 < frF (rQ bf rc q) rk rn) || (decide (r0 = frF (rQ bf rc q) rk rn) && (b0 && alw dn (pkQ bf rk dn rc rn q)))); rw [decide_eq_true hlt]; rfl, h9t⟩) (fun _ h => nomatch h) d_Mo_wouldDecide_43
  · refine lv_icmp_lt (tgt := 38) hx hb d_Mo_wouldDecide_12 (by decide) (fun c9 => absurd c9 (nI_nlt (by omega) (by omega))) (fun _ => ?_)
    refine lv_iload_n hx hb d_Mo_wouldDecide_15 rfl (lv_at hl 2 rfl) ?_
    refine lv_iload hx hb d_Mo_wouldDecide_16 (lv_at hl 0 rfl) ?_
    by_cases he : r0 = frF (rQ bf rc q) rk rn
    · refine lv_icmp_ne (tgt := 42) hx hb d_Mo_wouldDecide_18 (by decide) (fun c9 => absurd (congrArg nI he) c9) (fun _ => ?_)
      refine lv_iload_n hx hb d_Mo_wouldDecide_21 rfl (lv_at hl 3 rfl) ?_
      rcases bcase b0 with hb0 | hb0
      · refine lv_if_eq (tgt := 42) hx hb d_Mo_wouldDecide_22 (by decide) (fun _ => ?_) (fun c9 => absurd (by rw [hb0]; rfl) c9)
        refine lv_iconst (v := nI 0) hx hb d_Mo_wouldDecide_42 (by decide) ?_
        exact W.zret (v := nI 0) (ty := .boolean) hx hb hr (bI_nar false) (fun t9 h9t h9W => ⟨_, rfl, by show _ = bI (decide (r0 < frF (rQ bf rc q) rk rn) || (decide (r0 = frF (rQ bf rc q) rk rn) && (b0 && alw dn (pkQ bf rk dn rc rn q)))); rw [decide_eq_false hlt, hb0, Bool.false_and, Bool.and_false]; rfl, h9t⟩) (fun _ h => nomatch h) d_Mo_wouldDecide_43
      · refine lv_if_eq (tgt := 42) hx hb d_Mo_wouldDecide_22 (by decide) (fun c9 => absurd c9 (by rw [hb0]; decide)) (fun _ => ?_)
        refine lv_aload_n hx hb d_Mo_wouldDecide_25 rfl (lv_at hl 1 rfl) ?_
        refine lv_aload_n hx hb d_Mo_wouldDecide_26 rfl (lv_at hl 1 rfl) ?_
        refine va_get (D := G.1) (ci := 5) (v := .ref eA) (C := R_Mo) (T := T_Mo) (N := 14) hx hb hA in_Mo hown hK.1 (pl_o hP hB.2.2.1) 0 rfl rfl 12 (by decide) (hA _ kw_209) (fun _ h9 => h9) rfl d_Mo_wouldDecide_27 ?_
        refine lv_iload_n hx hb d_Mo_wouldDecide_30 rfl (lv_at hl 4 rfl) ?_
        refine xl_iald hx hb hK.1 (pl_o hP hB.2.2.2.2.2.2.2.2.2.2.2.2.1) 0 4 rfl rfl (i := q) (by omega) (by decide) d_Mo_wouldDecide_31 ?_
        refine xv_I (y := oI (pkQ bf rk dn rc rn q)) (hX q hq) ?_
        refine vp_callSi (va_Run.run (va_runV (As := [.int (oI (pkQ bf rk dn rc rn q))]) (rest := []) ⟨hx, hb, hml, hown, hA⟩ (c_Mo_alw l G L f hB (pkQ bf rk dn rc rn q) (fun k hk => by have := pkQ_lt hk; omega)) ⟨callB_of 1 hA (gAW kw_210) rfl rfl rfl (hA _ kw_172) (hA _ kw_211) (by decide +kernel) ⟨Nat.le_of_ble_eq_true rfl, Nat.le_of_ble_eq_true rfl⟩, (hA _ kw_212), (hA _ kw_213)⟩ (pw_preV (ci := 5) hP hK hB.2.2.1 rfl) rfl rfl hl.1 rfl (lv_room (Nat.le_of_ble_eq_true rfl)) d_Mo_wouldDecide_32 ⟨Nat.zero_le _, Nat.zero_le _⟩)) (fun r_3 e_4 => ?_)
        subst e_4
        rcases bcase (alw dn (pkQ bf rk dn rc rn q)) with ha | ha
        · refine lv_if_eq (tgt := 42) hx hb d_Mo_wouldDecide_35 (by decide) (fun _ => ?_) (fun c9 => absurd (by rw [ha]; rfl) c9)
          refine lv_iconst (v := nI 0) hx hb d_Mo_wouldDecide_42 (by decide) ?_
          exact W.zret (v := nI 0) (ty := .boolean) hx hb hr (bI_nar false) (fun t9 h9t h9W => ⟨_, rfl, by show _ = bI (decide (r0 < frF (rQ bf rc q) rk rn) || (decide (r0 = frF (rQ bf rc q) rk rn) && (b0 && alw dn (pkQ bf rk dn rc rn q)))); rw [decide_eq_false hlt, ha, Bool.and_false, Bool.and_false]; rfl, h9t⟩) (fun _ h => nomatch h) d_Mo_wouldDecide_43
        · refine lv_if_eq (tgt := 42) hx hb d_Mo_wouldDecide_35 (by decide) (fun c9 => absurd c9 (by rw [ha]; decide)) (fun _ => ?_)
          refine lv_iconst (v := nI 1) hx hb d_Mo_wouldDecide_38 (by decide) ?_
          refine lv_goto (tgt := 43) hx hb d_Mo_wouldDecide_39 (by decide) ?_
          exact W.zret (v := nI 1) (ty := .boolean) hx hb hr (bI_nar true) (fun t9 h9t h9W => ⟨_, rfl, by show _ = bI (decide (r0 < frF (rQ bf rc q) rk rn) || (decide (r0 = frF (rQ bf rc q) rk rn) && (b0 && alw dn (pkQ bf rk dn rc rn q)))); rw [decide_eq_false hlt, decide_eq_true he, hb0, ha]; rfl, h9t⟩) (fun _ h => nomatch h) d_Mo_wouldDecide_43
    · refine lv_icmp_ne (tgt := 42) hx hb d_Mo_wouldDecide_18 (by decide) (fun _ => ?_) (fun c9 => absurd c9 (fun z => he ((nI_eq (by omega) (by omega)).mp z)))
      refine lv_iconst (v := nI 0) hx hb d_Mo_wouldDecide_42 (by decide) ?_
      exact W.zret (v := nI 0) (ty := .boolean) hx hb hr (bI_nar false) (fun t9 h9t h9W => ⟨_, rfl, by show _ = bI (decide (r0 < frF (rQ bf rc q) rk rn) || (decide (r0 = frF (rQ bf rc q) rk rn) && (b0 && alw dn (pkQ bf rk dn rc rn q)))); rw [decide_eq_false hlt, decide_eq_false he]; rfl, h9t⟩) (fun _ h => nomatch h) d_Mo_wouldDecide_43
