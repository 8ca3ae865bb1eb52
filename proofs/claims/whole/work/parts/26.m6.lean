theorem kw_244 : (.methodLink R_Mo 1 objectInit : Cond) ∈ AW := aw_t 320 (by decide +kernel) (by decide +kernel)
theorem kw_245 : (.arrayClass .int : Cond) ∈ AW := aw_t 364 (by decide +kernel) (by decide +kernel)
set_option maxHeartbeats 4000000 in
set_option maxRecDepth 100000 in
/-- RightDeskModel() -/
theorem c_Mo_init (l : Launch) (G : GG) (L : List Nat) (f : Nat → va_E) (sz : Nat) (hN : L.Nodup) {q : Nat} (hq0 : Lk L f q (.inr (5, [.int 0, .null, .int 0, .null, .null, .null, .null, .null, .int 0, .null, .null, .null, .null, .int 0]))) : Met l y_Mo_init (.code y_Mo_init b_Mo_init 1 none :: AW) (RW 1 10 17972) (va_Pc [.ref q] (PZ G L f sz)) (va_Qv (fun u => Kp (fun a => a = q) L f u ∧ ∃ gA kA fA sA tA bA rA dA cA eA, MoB G u.1 u.2 q gA kA fA sA tA bA rA dA cA eA 0 0 false (fun _ => 0) (fun _ => 0) (fun _ => 0) (fun _ => 0) (fun _ => 0) (fun _ => 0) (fun _ => 0) (fun _ => false) (fun _ => 0) (fun _ => 0)) (BZ G (Am L sz)) (Am L sz)) 10 17972 (Am L sz) := by
  refine Met.ofW (cc := b_Mo_init) (maxL := 1) (ret := none) (by decide) rfl ?_
  intro p e s m args below meth c s₁ B hml hv
  obtain ⟨rfl, hsz, hP, hK⟩ := hv
  have hx := B.exec
  have hb := B.bytes
  have hr := B.returns
  have hA : ∀ w ∈ AW, w.before _ s = true := fun w h => atoms_spec (ws := (.code y_Mo_init b_Mo_init 1 none :: AW)) B.pre w (List.mem_cons_of_mem _ h)
  have hown : s.vm.findClass R_Mo = some m.cls := findClass_of_methodNamed B.named
  have hlocks := B.notSynchronized
  have hin : meth.name = "<init>" := (name_of_methodNamed B.named B.method).1
  subst hsz
  have hD : va_D (Am L s.heap.size) (va_pl L f) := pl_D hN (fun _ h => Or.inl h)
  have hA0 : ∀ q, s.heap.size ≤ q → Am L s.heap.size q := fun q h => Or.inr h
  generalize Am L s.heap.size = A at hD hA0 ⊢
  have hS : va_S A s.heap s.heap [] := va_S.rf
  have hkp : Kp (fun a => a = q) L f (L, f) := Kp.rf
  have hl := lv_entry ([.ref q]) (n := 1) (Nat.le_of_ble_eq_true rfl)
  rw [lg_entry_eq]
  generalize (lg_sl ([.ref q]) ++ List.replicate (1 - (lg_sl ([.ref q])).length) Slot.unset).toArray = ls at hl ⊢
  have hl : lv_has ls 1 [(0, .ref q)] := hl
  refine lv_aload_n hx hb d_Mo_init_0 rfl (lv_at hl 0 rfl) ?_
  refine W.objInit hx hb hown (hA _ kw_244) (hA _ kw_109) (hA _ kw_110) rfl (by rw [hml]; exact hl.1) rfl d_Mo_init_1 (Nat.le_of_ble_eq_true rfl) (Nat.le_of_ble_eq_true rfl) ?_
  refine W.eq (g2 := F0 m 4 ls []) rfl ?_
  refine lv_aload_n hx hb d_Mo_init_4 rfl (lv_at hl 0 rfl) ?_
  refine lv_bipush (v := nI 8) hx hb d_Mo_init_5 (by decide) ?_
  refine xw_newa (atype := .int) (ty := .int) (a0 := (8, .inl (fun _ => 0))) hx hb (hA _ kw_245) rfl hK.1 hP hD hS hA0 4 rfl (fun _ => rfl) (by decide) (show (nI 8).toNatClampNeg = 8 by decide) (by decide) (Nat.le_of_ble_eq_true rfl) (Nat.le_of_ble_eq_true rfl) d_Mo_init_7 (fun q_1 H hq_2 hP hD hS => ?_)
  refine W.widen (k := 1) (n := 8) (by omega) (by omega) ?_
  obtain ⟨f_1, ef_1⟩ : ∃ z : Nat → va_E, z = va_up f q_1 (.inl (G.2 4, 8, .inl (fun _ => 0))) := ⟨_, rfl⟩
  obtain ⟨L_1, eL_1⟩ : ∃ z : List Nat, z = L ++ [q_1] := ⟨_, rfl⟩
  rw [← ef_1, ← eL_1] at hP hD
  have hq0 : Lk L_1 f_1 q (.inr (5, [.int 0, .null, .int 0, .null, .null, .null, .null, .null, .int 0, .null, .null, .null, .null, .int 0])) := by rw [ef_1, eL_1]; exact Lk.push hq0 hq_2
  have t_1 : Lk L_1 f_1 q_1 (.inl (G.2 4, 8, .inl (fun _ => 0))) := by rw [ef_1, eL_1]; exact Lk.new
  have hkp : Kp (fun a => a = q) L f (L_1, f_1) := by rw [ef_1, eL_1]; exact hkp.push hq_2
  refine xw_putF (D := G.1) (ci := 5) (v := .ref q_1) (ty := .array .int) (C := R_Mo) (T := T_Mo) (N := 14) (fs' := [.int 0, .ref q_1, .int 0, .null, .null, .null, .null, .null, .int 0, .null, .null, .null, .null, .int 0]) hx hb hA in_Mo ty_Mo tyok_Mo nm_Mo hown hK.1 hP hD hS hq0 rfl 1 (by decide) (hA _ kw_183) (fun _ h9 => h9) rfl hin rfl (by decide +kernel) rfl rfl (Nat.le_of_ble_eq_true rfl) d_Mo_init_9 rfl (fun H locs hP hD hS => ?_)
  obtain ⟨f_2, ef_2⟩ : ∃ z : Nat → va_E, z = va_up f_1 q (.inr (5, [.int 0, .ref q_1, .int 0, .null, .null, .null, .null, .null, .int 0, .null, .null, .null, .null, .int 0])) := ⟨_, rfl⟩
  rw [← ef_2] at hP hD
  have t_1 : Lk L_1 f_2 q_1 (.inl (G.2 4, 8, .inl (fun _ => 0))) := by rw [ef_2]; exact Lk.up t_1 (Ne.symm (Lk.neOA hq0 t_1))
  have hq0 : Lk L_1 f_2 q (.inr (5, [.int 0, .ref q_1, .int 0, .null, .null, .null, .null, .null, .int 0, .null, .null, .null, .null, .int 0])) := by rw [ef_2]; exact Lk.set hq0
  have hkp : Kp (fun a => a = q) L f (L_1, f_2) := by rw [ef_2]; exact hkp.up rfl
  refine lv_aload_n hx hb d_Mo_init_12 rfl (lv_at hl 0 rfl) ?_
  refine lv_bipush (v := nI 60) hx hb d_Mo_init_13 (by decide) ?_
  have k1_q_1 := t_1
  refine xw_newa (atype := .int) (ty := .int) (a0 := (60, .inl (fun _ => 0))) hx hb (hA _ kw_245) rfl hK.1 hP hD hS hA0 4 rfl (fun _ => rfl) (by decide) (show (nI 60).toNatClampNeg = 60 by decide) (by decide) (Nat.le_of_ble_eq_true rfl) (Nat.le_of_ble_eq_true rfl) d_Mo_init_15 (fun q_3 H hq_4 hP hD hS => ?_)
  refine W.widen (k := 2) (n := 68) (by omega) (by omega) ?_
  obtain ⟨f_3, ef_3⟩ : ∃ z : Nat → va_E, z = va_up f_2 q_3 (.inl (G.2 4, 60, .inl (fun _ => 0))) := ⟨_, rfl⟩
  obtain ⟨L_3, eL_3⟩ : ∃ z : List Nat, z = L_1 ++ [q_3] := ⟨_, rfl⟩
  rw [← ef_3, ← eL_3] at hP hD
  have hq0 : Lk L_3 f_3 q (.inr (5, [.int 0, .ref q_1, .int 0, .null, .null, .null, .null, .null, .int 0, .null, .null, .null, .null, .int 0])) := by rw [ef_3, eL_3]; exact Lk.push hq0 hq_4
  have t_1 : Lk L_3 f_3 q_1 (.inl (G.2 4, 8, .inl (fun _ => 0))) := by rw [ef_3, eL_3]; exact Lk.push t_1 hq_4
  have t_2 : Lk L_3 f_3 q_3 (.inl (G.2 4, 60, .inl (fun _ => 0))) := by rw [ef_3, eL_3]; exact Lk.new
  have hkp : Kp (fun a => a = q) L f (L_3, f_3) := by rw [ef_3, eL_3]; exact hkp.push hq_4
  refine xw_putF (D := G.1) (ci := 5) (v := .ref q_3) (ty := .array .int) (C := R_Mo) (T := T_Mo) (N := 14) (fs' := [.int 0, .ref q_1, .int 0, .ref q_3, .null, .null, .null, .null, .int 0, .null, .null, .null, .null, .int 0]) hx hb hA in_Mo ty_Mo tyok_Mo nm_Mo hown hK.1 hP hD hS hq0 rfl 3 (by decide) (hA _ kw_179) (fun _ h9 => h9) rfl hin rfl (by decide +kernel) rfl rfl (Nat.le_of_ble_eq_true rfl) d_Mo_init_17 rfl (fun H locs hP hD hS => ?_)
  obtain ⟨f_4, ef_4⟩ : ∃ z : Nat → va_E, z = va_up f_3 q (.inr (5, [.int 0, .ref q_1, .int 0, .ref q_3, .null, .null, .null, .null, .int 0, .null, .null, .null, .null, .int 0])) := ⟨_, rfl⟩
  rw [← ef_4] at hP hD
  have t_1 : Lk L_3 f_4 q_1 (.inl (G.2 4, 8, .inl (fun _ => 0))) := by rw [ef_4]; exact Lk.up t_1 (Ne.symm (Lk.neOA hq0 t_1))
  have t_2 : Lk L_3 f_4 q_3 (.inl (G.2 4, 60, .inl (fun _ => 0))) := by rw [ef_4]; exact Lk.up t_2 (Ne.symm (Lk.neOA hq0 t_2))
  have hq0 : Lk L_3 f_4 q (.inr (5, [.int 0, .ref q_1, .int 0, .ref q_3, .null, .null, .null, .null, .int 0, .null, .null, .null, .null, .int 0])) := by rw [ef_4]; exact Lk.set hq0
  have hkp : Kp (fun a => a = q) L f (L_3, f_4) := by rw [ef_4]; exact hkp.up rfl
  refine lv_aload_n hx hb d_Mo_init_20 rfl (lv_at hl 0 rfl) ?_
  refine lv_bipush (v := nI 60) hx hb d_Mo_init_21 (by decide) ?_
  have k2_q_1 := t_1
  have k2_q_3 := t_2
  refine xw_newa (atype := .int) (ty := .int) (a0 := (60, .inl (fun _ => 0))) hx hb (hA _ kw_245) rfl hK.1 hP hD hS hA0 4 rfl (fun _ => rfl) (by decide) (show (nI 60).toNatClampNeg = 60 by decide) (by decide) (Nat.le_of_ble_eq_true rfl) (Nat.le_of_ble_eq_true rfl) d_Mo_init_23 (fun q_5 H hq_6 hP hD hS => ?_)
  refine W.widen (k := 3) (n := 128) (by omega) (by omega) ?_
  obtain ⟨f_5, ef_5⟩ : ∃ z : Nat → va_E, z = va_up f_4 q_5 (.inl (G.2 4, 60, .inl (fun _ => 0))) := ⟨_, rfl⟩
  obtain ⟨L_5, eL_5⟩ : ∃ z : List Nat, z = L_3 ++ [q_5] := ⟨_, rfl⟩
  rw [← ef_5, ← eL_5] at hP hD
  have hq0 : Lk L_5 f_5 q (.inr (5, [.int 0, .ref q_1, .int 0, .ref q_3, .null, .null, .null, .null, .int 0, .null, .null, .null, .null, .int 0])) := by rw [ef_5, eL_5]; exact Lk.push hq0 hq_6
  have t_1 : Lk L_5 f_5 q_1 (.inl (G.2 4, 8, .inl (fun _ => 0))) := by rw [ef_5, eL_5]; exact Lk.push t_1 hq_6
  have t_2 : Lk L_5 f_5 q_3 (.inl (G.2 4, 60, .inl (fun _ => 0))) := by rw [ef_5, eL_5]; exact Lk.push t_2 hq_6
  have t_3 : Lk L_5 f_5 q_5 (.inl (G.2 4, 60, .inl (fun _ => 0))) := by rw [ef_5, eL_5]; exact Lk.new
  have hkp : Kp (fun a => a = q) L f (L_5, f_5) := by rw [ef_5, eL_5]; exact hkp.push hq_6
  refine xw_putF (D := G.1) (ci := 5) (v := .ref q_5) (ty := .array .int) (C := R_Mo) (T := T_Mo) (N := 14) (fs' := [.int 0, .ref q_1, .int 0, .ref q_3, .ref q_5, .null, .null, .null, .int 0, .null, .null, .null, .null, .int 0]) hx hb hA in_Mo ty_Mo tyok_Mo nm_Mo hown hK.1 hP hD hS hq0 rfl 4 (by decide) (hA _ kw_177) (fun _ h9 => h9) rfl hin rfl (by decide +kernel) rfl rfl (Nat.le_of_ble_eq_true rfl) d_Mo_init_25 rfl (fun H locs hP hD hS => ?_)
  obtain ⟨f_6, ef_6⟩ : ∃ z : Nat → va_E, z = va_up f_5 q (.inr (5, [.int 0, .ref q_1, .int 0, .ref q_3, .ref q_5, .null, .null, .null, .int 0, .null, .null, .null, .null, .int 0])) := ⟨_, rfl⟩
  rw [← ef_6] at hP hD
  have t_1 : Lk L_5 f_6 q_1 (.inl (G.2 4, 8, .inl (fun _ => 0))) := by rw [ef_6]; exact Lk.up t_1 (Ne.symm (Lk.neOA hq0 t_1))
  have t_2 : Lk L_5 f_6 q_3 (.inl (G.2 4, 60, .inl (fun _ => 0))) := by rw [ef_6]; exact Lk.up t_2 (Ne.symm (Lk.neOA hq0 t_2))
  have t_3 : Lk L_5 f_6 q_5 (.inl (G.2 4, 60, .inl (fun _ => 0))) := by rw [ef_6]; exact Lk.up t_3 (Ne.symm (Lk.neOA hq0 t_3))
  have hq0 : Lk L_5 f_6 q (.inr (5, [.int 0, .ref q_1, .int 0, .ref q_3, .ref q_5, .null, .null, .null, .int 0, .null, .null, .null, .null, .int 0])) := by rw [ef_6]; exact Lk.set hq0
  have hkp : Kp (fun a => a = q) L f (L_5, f_6) := by rw [ef_6]; exact hkp.up rfl
  refine lv_aload_n hx hb d_Mo_init_28 rfl (lv_at hl 0 rfl) ?_
  refine lv_bipush (v := nI 60) hx hb d_Mo_init_29 (by decide) ?_
  have k3_q_1 := t_1
  have k3_q_3 := t_2
  have k3_q_5 := t_3
  refine xw_newa (atype := .int) (ty := .int) (a0 := (60, .inl (fun _ => 0))) hx hb (hA _ kw_245) rfl hK.1 hP hD hS hA0 4 rfl (fun _ => rfl) (by decide) (show (nI 60).toNatClampNeg = 60 by decide) (by decide) (Nat.le_of_ble_eq_true rfl) (Nat.le_of_ble_eq_true rfl) d_Mo_init_31 (fun q_7 H hq_8 hP hD hS => ?_)
  refine W.widen (k := 4) (n := 188) (by omega) (by omega) ?_
  obtain ⟨f_7, ef_7⟩ : ∃ z : Nat → va_E, z = va_up f_6 q_7 (.inl (G.2 4, 60, .inl (fun _ => 0))) := ⟨_, rfl⟩
  obtain ⟨L_7, eL_7⟩ : ∃ z : List Nat, z = L_5 ++ [q_7] := ⟨_, rfl⟩
  rw [← ef_7, ← eL_7] at hP hD
  have hq0 : Lk L_7 f_7 q (.inr (5, [.int 0, .ref q_1, .int 0, .ref q_3, .ref q_5, .null, .null, .null, .int 0, .null, .null, .null, .null, .int 0])) := by rw [ef_7, eL_7]; exact Lk.push hq0 hq_8
  have t_1 : Lk L_7 f_7 q_1 (.inl (G.2 4, 8, .inl (fun _ => 0))) := by rw [ef_7, eL_7]; exact Lk.push t_1 hq_8
  have t_2 : Lk L_7 f_7 q_3 (.inl (G.2 4, 60, .inl (fun _ => 0))) := by rw [ef_7, eL_7]; exact Lk.push t_2 hq_8
  have t_3 : Lk L_7 f_7 q_5 (.inl (G.2 4, 60, .inl (fun _ => 0))) := by rw [ef_7, eL_7]; exact Lk.push t_3 hq_8
  have t_4 : Lk L_7 f_7 q_7 (.inl (G.2 4, 60, .inl (fun _ => 0))) := by rw [ef_7, eL_7]; exact Lk.new
  have hkp : Kp (fun a => a = q) L f (L_7, f_7) := by rw [ef_7, eL_7]; exact hkp.push hq_8
  refine xw_putF (D := G.1) (ci := 5) (v := .ref q_7) (ty := .array .int) (C := R_Mo) (T := T_Mo) (N := 14) (fs' := [.int 0, .ref q_1, .int 0, .ref q_3, .ref q_5, .ref q_7, .null, .null, .int 0, .null, .null, .null, .null, .int 0]) hx hb hA in_Mo ty_Mo tyok_Mo nm_Mo hown hK.1 hP hD hS hq0 rfl 5 (by decide) (hA _ kw_178) (fun _ h9 => h9) rfl hin rfl (by decide +kernel) rfl rfl (Nat.le_of_ble_eq_true rfl) d_Mo_init_33 rfl (fun H locs hP hD hS => ?_)
  obtain ⟨f_8, ef_8⟩ : ∃ z : Nat → va_E, z = va_up f_7 q (.inr (5, [.int 0, .ref q_1, .int 0, .ref q_3, .ref q_5, .ref q_7, .null, .null, .int 0, .null, .null, .null, .null, .int 0])) := ⟨_, rfl⟩
  rw [← ef_8] at hP hD
  have t_1 : Lk L_7 f_8 q_1 (.inl (G.2 4, 8, .inl (fun _ => 0))) := by rw [ef_8]; exact Lk.up t_1 (Ne.symm (Lk.neOA hq0 t_1))
  have t_2 : Lk L_7 f_8 q_3 (.inl (G.2 4, 60, .inl (fun _ => 0))) := by rw [ef_8]; exact Lk.up t_2 (Ne.symm (Lk.neOA hq0 t_2))
  have t_3 : Lk L_7 f_8 q_5 (.inl (G.2 4, 60, .inl (fun _ => 0))) := by rw [ef_8]; exact Lk.up t_3 (Ne.symm (Lk.neOA hq0 t_3))
  have t_4 : Lk L_7 f_8 q_7 (.inl (G.2 4, 60, .inl (fun _ => 0))) := by rw [ef_8]; exact Lk.up t_4 (Ne.symm (Lk.neOA hq0 t_4))
  have hq0 : Lk L_7 f_8 q (.inr (5, [.int 0, .ref q_1, .int 0, .ref q_3, .ref q_5, .ref q_7, .null, .null, .int 0, .null, .null, .null, .null, .int 0])) := by rw [ef_8]; exact Lk.set hq0
  have hkp : Kp (fun a => a = q) L f (L_7, f_8) := by rw [ef_8]; exact hkp.up rfl
  refine lv_aload_n hx hb d_Mo_init_36 rfl (lv_at hl 0 rfl) ?_
  refine lv_bipush (v := nI 60) hx hb d_Mo_init_37 (by decide) ?_
  have k4_q_1 := t_1
  have k4_q_3 := t_2
  have k4_q_5 := t_3
  have k4_q_7 := t_4
  refine xw_newa (atype := .int) (ty := .int) (a0 := (60, .inl (fun _ => 0))) hx hb (hA _ kw_245) rfl hK.1 hP hD hS hA0 4 rfl (fun _ => rfl) (by decide) (show (nI 60).toNatClampNeg = 60 by decide) (by decide) (Nat.le_of_ble_eq_true rfl) (Nat.le_of_ble_eq_true rfl) d_Mo_init_39 (fun q_9 H hq_10 hP hD hS => ?_)
  refine W.widen (k := 5) (n := 248) (by omega) (by omega) ?_
  obtain ⟨f_9, ef_9⟩ : ∃ z : Nat → va_E, z = va_up f_8 q_9 (.inl (G.2 4, 60, .inl (fun _ => 0))) := ⟨_, rfl⟩
  obtain ⟨L_9, eL_9⟩ : ∃ z : List Nat, z = L_7 ++ [q_9] := ⟨_, rfl⟩
  rw [← ef_9, ← eL_9] at hP hD
  have hq0 : Lk L_9 f_9 q (.inr (5, [.int 0, .ref q_1, .int 0, .ref q_3, .ref q_5, .ref q_7, .null, .null, .int 0, .null, .null, .null, .null, .int 0])) := by rw [ef_9, eL_9]; exact Lk.push hq0 hq_10
  have t_1 : Lk L_9 f_9 q_1 (.inl (G.2 4, 8, .inl (fun _ => 0))) := by rw [ef_9, eL_9]; exact Lk.push t_1 hq_10
  have t_2 : Lk L_9 f_9 q_3 (.inl (G.2 4, 60, .inl (fun _ => 0))) := by rw [ef_9, eL_9]; exact Lk.push t_2 hq_10
  have t_3 : Lk L_9 f_9 q_5 (.inl (G.2 4, 60, .inl (fun _ => 0))) := by rw [ef_9, eL_9]; exact Lk.push t_3 hq_10
  have t_4 : Lk L_9 f_9 q_7 (.inl (G.2 4, 60, .inl (fun _ => 0))) := by rw [ef_9, eL_9]; exact Lk.push t_4 hq_10
  have t_5 : Lk L_9 f_9 q_9 (.inl (G.2 4, 60, .inl (fun _ => 0))) := by rw [ef_9, eL_9]; exact Lk.new
  have hkp : Kp (fun a => a = q) L f (L_9, f_9) := by rw [ef_9, eL_9]; exact hkp.push hq_10
  refine xw_putF (D := G.1) (ci := 5) (v := .ref q_9) (ty := .array .int) (C := R_Mo) (T := T_Mo) (N := 14) (fs' := [.int 0, .ref q_1, .int 0, .ref q_3, .ref q_5, .ref q_7, .ref q_9, .null, .int 0, .null, .null, .null, .null, .int 0]) hx hb hA in_Mo ty_Mo tyok_Mo nm_Mo hown hK.1 hP hD hS hq0 rfl 6 (by decide) (hA _ kw_197) (fun _ h9 => h9) rfl hin rfl (by decide +kernel) rfl rfl (Nat.le_of_ble_eq_true rfl) d_Mo_init_41 rfl (fun H locs hP hD hS => ?_)
  obtain ⟨f_10, ef_10⟩ : ∃ z : Nat → va_E, z = va_up f_9 q (.inr (5, [.int 0, .ref q_1, .int 0, .ref q_3, .ref q_5, .ref q_7, .ref q_9, .null, .int 0, .null, .null, .null, .null, .int 0])) := ⟨_, rfl⟩
  rw [← ef_10] at hP hD
  have t_1 : Lk L_9 f_10 q_1 (.inl (G.2 4, 8, .inl (fun _ => 0))) := by rw [ef_10]; exact Lk.up t_1 (Ne.symm (Lk.neOA hq0 t_1))
  have t_2 : Lk L_9 f_10 q_3 (.inl (G.2 4, 60, .inl (fun _ => 0))) := by rw [ef_10]; exact Lk.up t_2 (Ne.symm (Lk.neOA hq0 t_2))
  have t_3 : Lk L_9 f_10 q_5 (.inl (G.2 4, 60, .inl (fun _ => 0))) := by rw [ef_10]; exact Lk.up t_3 (Ne.symm (Lk.neOA hq0 t_3))
  have t_4 : Lk L_9 f_10 q_7 (.inl (G.2 4, 60, .inl (fun _ => 0))) := by rw [ef_10]; exact Lk.up t_4 (Ne.symm (Lk.neOA hq0 t_4))
  have t_5 : Lk L_9 f_10 q_9 (.inl (G.2 4, 60, .inl (fun _ => 0))) := by rw [ef_10]; exact Lk.up t_5 (Ne.symm (Lk.neOA hq0 t_5))
  have hq0 : Lk L_9 f_10 q (.inr (5, [.int 0, .ref q_1, .int 0, .ref q_3, .ref q_5, .ref q_7, .ref q_9, .null, .int 0, .null, .null, .null, .null, .int 0])) := by rw [ef_10]; exact Lk.set hq0
  have hkp : Kp (fun a => a = q) L f (L_9, f_10) := by rw [ef_10]; exact hkp.up rfl
  refine lv_aload_n hx hb d_Mo_init_44 rfl (lv_at hl 0 rfl) ?_
  refine lv_sipush (v := nI 11520) hx hb d_Mo_init_45 (by decide) ?_
  have k5_q_1 := t_1
  have k5_q_3 := t_2
  have k5_q_5 := t_3
  have k5_q_7 := t_4
  have k5_q_9 := t_5
  refine xw_newa (atype := .int) (ty := .int) (a0 := (11520, .inl (fun _ => 0))) hx hb (hA _ kw_245) rfl hK.1 hP hD hS hA0 4 rfl (fun _ => rfl) (by decide) (show (nI 11520).toNatClampNeg = 11520 by decide) (by decide) (Nat.le_of_ble_eq_true rfl) (Nat.le_of_ble_eq_true rfl) d_Mo_init_48 (fun q_11 H hq_12 hP hD hS => ?_)
  refine W.widen (k := 6) (n := 11768) (by omega) (by omega) ?_
  obtain ⟨f_11, ef_11⟩ : ∃ z : Nat → va_E, z = va_up f_10 q_11 (.inl (G.2 4, 11520, .inl (fun _ => 0))) := ⟨_, rfl⟩
  obtain ⟨L_11, eL_11⟩ : ∃ z : List Nat, z = L_9 ++ [q_11] := ⟨_, rfl⟩
  rw [← ef_11, ← eL_11] at hP hD
  have hq0 : Lk L_11 f_11 q (.inr (5, [.int 0, .ref q_1, .int 0, .ref q_3, .ref q_5, .ref q_7, .ref q_9, .null, .int 0, .null, .null, .null, .null, .int 0])) := by rw [ef_11, eL_11]; exact Lk.push hq0 hq_12
  have t_1 : Lk L_11 f_11 q_1 (.inl (G.2 4, 8, .inl (fun _ => 0))) := by rw [ef_11, eL_11]; exact Lk.push t_1 hq_12
  have t_2 : Lk L_11 f_11 q_3 (.inl (G.2 4, 60, .inl (fun _ => 0))) := by rw [ef_11, eL_11]; exact Lk.push t_2 hq_12
  have t_3 : Lk L_11 f_11 q_5 (.inl (G.2 4, 60, .inl (fun _ => 0))) := by rw [ef_11, eL_11]; exact Lk.push t_3 hq_12
  have t_4 : Lk L_11 f_11 q_7 (.inl (G.2 4, 60, .inl (fun _ => 0))) := by rw [ef_11, eL_11]; exact Lk.push t_4 hq_12
  have t_5 : Lk L_11 f_11 q_9 (.inl (G.2 4, 60, .inl (fun _ => 0))) := by rw [ef_11, eL_11]; exact Lk.push t_5 hq_12
  have t_6 : Lk L_11 f_11 q_11 (.inl (G.2 4, 11520, .inl (fun _ => 0))) := by rw [ef_11, eL_11]; exact Lk.new
  have hkp : Kp (fun a => a = q) L f (L_11, f_11) := by rw [ef_11, eL_11]; exact hkp.push hq_12
  refine xw_putF (D := G.1) (ci := 5) (v := .ref q_11) (ty := .array .int) (C := R_Mo) (T := T_Mo) (N := 14) (fs' := [.int 0, .ref q_1, .int 0, .ref q_3, .ref q_5, .ref q_7, .ref q_9, .ref q_11, .int 0, .null, .null, .null, .null, .int 0]) hx hb hA in_Mo ty_Mo tyok_Mo nm_Mo hown hK.1 hP hD hS hq0 rfl 7 (by decide) (hA _ kw_176) (fun _ h9 => h9) rfl hin rfl (by decide +kernel) rfl rfl (Nat.le_of_ble_eq_true rfl) d_Mo_init_50 rfl (fun H locs hP hD hS => ?_)
  obtain ⟨f_12, ef_12⟩ : ∃ z : Nat → va_E, z = va_up f_11 q (.inr (5, [.int 0, .ref q_1, .int 0, .ref q_3, .ref q_5, .ref q_7, .ref q_9, .ref q_11, .int 0, .null, .null, .null, .null, .int 0])) := ⟨_, rfl⟩
  rw [← ef_12] at hP hD
  have t_1 : Lk L_11 f_12 q_1 (.inl (G.2 4, 8, .inl (fun _ => 0))) := by rw [ef_12]; exact Lk.up t_1 (Ne.symm (Lk.neOA hq0 t_1))
  have t_2 : Lk L_11 f_12 q_3 (.inl (G.2 4, 60, .inl (fun _ => 0))) := by rw [ef_12]; exact Lk.up t_2 (Ne.symm (Lk.neOA hq0 t_2))
  have t_3 : Lk L_11 f_12 q_5 (.inl (G.2 4, 60, .inl (fun _ => 0))) := by rw [ef_12]; exact Lk.up t_3 (Ne.symm (Lk.neOA hq0 t_3))
  have t_4 : Lk L_11 f_12 q_7 (.inl (G.2 4, 60, .inl (fun _ => 0))) := by rw [ef_12]; exact Lk.up t_4 (Ne.symm (Lk.neOA hq0 t_4))
  have t_5 : Lk L_11 f_12 q_9 (.inl (G.2 4, 60, .inl (fun _ => 0))) := by rw [ef_12]; exact Lk.up t_5 (Ne.symm (Lk.neOA hq0 t_5))
  have t_6 : Lk L_11 f_12 q_11 (.inl (G.2 4, 11520, .inl (fun _ => 0))) := by rw [ef_12]; exact Lk.up t_6 (Ne.symm (Lk.neOA hq0 t_6))
  have hq0 : Lk L_11 f_12 q (.inr (5, [.int 0, .ref q_1, .int 0, .ref q_3, .ref q_5, .ref q_7, .ref q_9, .ref q_11, .int 0, .null, .null, .null, .null, .int 0])) := by rw [ef_12]; exact Lk.set hq0
  have hkp : Kp (fun a => a = q) L f (L_11, f_12) := by rw [ef_12]; exact hkp.up rfl
  refine lv_aload_n hx hb d_Mo_init_53 rfl (lv_at hl 0 rfl) ?_
  refine lv_bipush (v := nI 20) hx hb d_Mo_init_54 (by decide) ?_
  have k6_q_1 := t_1
  have k6_q_3 := t_2
  have k6_q_5 := t_3
  have k6_q_7 := t_4
  have k6_q_9 := t_5
  have k6_q_11 := t_6
  refine xw_newa (atype := .int) (ty := .int) (a0 := (20, .inl (fun _ => 0))) hx hb (hA _ kw_245) rfl hK.1 hP hD hS hA0 4 rfl (fun _ => rfl) (by decide) (show (nI 20).toNatClampNeg = 20 by decide) (by decide) (Nat.le_of_ble_eq_true rfl) (Nat.le_of_ble_eq_true rfl) d_Mo_init_56 (fun q_13 H hq_14 hP hD hS => ?_)
  refine W.widen (k := 7) (n := 11788) (by omega) (by omega) ?_
  obtain ⟨f_13, ef_13⟩ : ∃ z : Nat → va_E, z = va_up f_12 q_13 (.inl (G.2 4, 20, .inl (fun _ => 0))) := ⟨_, rfl⟩
  obtain ⟨L_13, eL_13⟩ : ∃ z : List Nat, z = L_11 ++ [q_13] := ⟨_, rfl⟩
  rw [← ef_13, ← eL_13] at hP hD
  have hq0 : Lk L_13 f_13 q (.inr (5, [.int 0, .ref q_1, .int 0, .ref q_3, .ref q_5, .ref q_7, .ref q_9, .ref q_11, .int 0, .null, .null, .null, .null, .int 0])) := by rw [ef_13, eL_13]; exact Lk.push hq0 hq_14
  have t_1 : Lk L_13 f_13 q_1 (.inl (G.2 4, 8, .inl (fun _ => 0))) := by rw [ef_13, eL_13]; exact Lk.push t_1 hq_14
  have t_2 : Lk L_13 f_13 q_3 (.inl (G.2 4, 60, .inl (fun _ => 0))) := by rw [ef_13, eL_13]; exact Lk.push t_2 hq_14
  have t_3 : Lk L_13 f_13 q_5 (.inl (G.2 4, 60, .inl (fun _ => 0))) := by rw [ef_13, eL_13]; exact Lk.push t_3 hq_14
  have t_4 : Lk L_13 f_13 q_7 (.inl (G.2 4, 60, .inl (fun _ => 0))) := by rw [ef_13, eL_13]; exact Lk.push t_4 hq_14
  have t_5 : Lk L_13 f_13 q_9 (.inl (G.2 4, 60, .inl (fun _ => 0))) := by rw [ef_13, eL_13]; exact Lk.push t_5 hq_14
  have t_6 : Lk L_13 f_13 q_11 (.inl (G.2 4, 11520, .inl (fun _ => 0))) := by rw [ef_13, eL_13]; exact Lk.push t_6 hq_14
  have t_7 : Lk L_13 f_13 q_13 (.inl (G.2 4, 20, .inl (fun _ => 0))) := by rw [ef_13, eL_13]; exact Lk.new
  have hkp : Kp (fun a => a = q) L f (L_13, f_13) := by rw [ef_13, eL_13]; exact hkp.push hq_14
  refine xw_putF (D := G.1) (ci := 5) (v := .ref q_13) (ty := .array .int) (C := R_Mo) (T := T_Mo) (N := 14) (fs' := [.int 0, .ref q_1, .int 0, .ref q_3, .ref q_5, .ref q_7, .ref q_9, .ref q_11, .int 0, .ref q_13, .null, .null, .null, .int 0]) hx hb hA in_Mo ty_Mo tyok_Mo nm_Mo hown hK.1 hP hD hS hq0 rfl 9 (by decide) (hA _ kw_202) (fun _ h9 => h9) rfl hin rfl (by decide +kernel) rfl rfl (Nat.le_of_ble_eq_true rfl) d_Mo_init_58 rfl (fun H locs hP hD hS => ?_)
  obtain ⟨f_14, ef_14⟩ : ∃ z : Nat → va_E, z = va_up f_13 q (.inr (5, [.int 0, .ref q_1, .int 0, .ref q_3, .ref q_5, .ref q_7, .ref q_9, .ref q_11, .int 0, .ref q_13, .null, .null, .null, .int 0])) := ⟨_, rfl⟩
  rw [← ef_14] at hP hD
  have t_1 : Lk L_13 f_14 q_1 (.inl (G.2 4, 8, .inl (fun _ => 0))) := by rw [ef_14]; exact Lk.up t_1 (Ne.symm (Lk.neOA hq0 t_1))
  have t_2 : Lk L_13 f_14 q_3 (.inl (G.2 4, 60, .inl (fun _ => 0))) := by rw [ef_14]; exact Lk.up t_2 (Ne.symm (Lk.neOA hq0 t_2))
  have t_3 : Lk L_13 f_14 q_5 (.inl (G.2 4, 60, .inl (fun _ => 0))) := by rw [ef_14]; exact Lk.up t_3 (Ne.symm (Lk.neOA hq0 t_3))
  have t_4 : Lk L_13 f_14 q_7 (.inl (G.2 4, 60, .inl (fun _ => 0))) := by rw [ef_14]; exact Lk.up t_4 (Ne.symm (Lk.neOA hq0 t_4))
  have t_5 : Lk L_13 f_14 q_9 (.inl (G.2 4, 60, .inl (fun _ => 0))) := by rw [ef_14]; exact Lk.up t_5 (Ne.symm (Lk.neOA hq0 t_5))
  have t_6 : Lk L_13 f_14 q_11 (.inl (G.2 4, 11520, .inl (fun _ => 0))) := by rw [ef_14]; exact Lk.up t_6 (Ne.symm (Lk.neOA hq0 t_6))
  have t_7 : Lk L_13 f_14 q_13 (.inl (G.2 4, 20, .inl (fun _ => 0))) := by rw [ef_14]; exact Lk.up t_7 (Ne.symm (Lk.neOA hq0 t_7))
  have hq0 : Lk L_13 f_14 q (.inr (5, [.int 0, .ref q_1, .int 0, .ref q_3, .ref q_5, .ref q_7, .ref q_9, .ref q_11, .int 0, .ref q_13, .null, .null, .null, .int 0])) := by rw [ef_14]; exact Lk.set hq0
  have hkp : Kp (fun a => a = q) L f (L_13, f_14) := by rw [ef_14]; exact hkp.up rfl
  refine lv_aload_n hx hb d_Mo_init_61 rfl (lv_at hl 0 rfl) ?_
  refine lv_bipush (v := nI 20) hx hb d_Mo_init_62 (by decide) ?_
  have k7_q_1 := t_1
  have k7_q_3 := t_2
  have k7_q_5 := t_3
  have k7_q_7 := t_4
  have k7_q_9 := t_5
  have k7_q_11 := t_6
  have k7_q_13 := t_7
  refine xw_newa (atype := .boolean) (ty := .boolean) (a0 := (20, .inl (fun _ => 0))) hx hb (hA _ kw_120) rfl hK.1 hP hD hS hA0 1 rfl (fun _ => rfl) (by decide) (show (nI 20).toNatClampNeg = 20 by decide) (by decide) (Nat.le_of_ble_eq_true rfl) (Nat.le_of_ble_eq_true rfl) d_Mo_init_64 (fun q_15 H hq_16 hP hD hS => ?_)
  refine W.widen (k := 8) (n := 11808) (by omega) (by omega) ?_
  obtain ⟨f_15, ef_15⟩ : ∃ z : Nat → va_E, z = va_up f_14 q_15 (.inl (G.2 1, 20, .inl (fun _ => 0))) := ⟨_, rfl⟩
  obtain ⟨L_15, eL_15⟩ : ∃ z : List Nat, z = L_13 ++ [q_15] := ⟨_, rfl⟩
  rw [← ef_15, ← eL_15] at hP hD
  have hq0 : Lk L_15 f_15 q (.inr (5, [.int 0, .ref q_1, .int 0, .ref q_3, .ref q_5, .ref q_7, .ref q_9, .ref q_11, .int 0, .ref q_13, .null, .null, .null, .int 0])) := by rw [ef_15, eL_15]; exact Lk.push hq0 hq_16
  have t_1 : Lk L_15 f_15 q_1 (.inl (G.2 4, 8, .inl (fun _ => 0))) := by rw [ef_15, eL_15]; exact Lk.push t_1 hq_16
  have t_2 : Lk L_15 f_15 q_3 (.inl (G.2 4, 60, .inl (fun _ => 0))) := by rw [ef_15, eL_15]; exact Lk.push t_2 hq_16
  have t_3 : Lk L_15 f_15 q_5 (.inl (G.2 4, 60, .inl (fun _ => 0))) := by rw [ef_15, eL_15]; exact Lk.push t_3 hq_16
  have t_4 : Lk L_15 f_15 q_7 (.inl (G.2 4, 60, .inl (fun _ => 0))) := by rw [ef_15, eL_15]; exact Lk.push t_4 hq_16
  have t_5 : Lk L_15 f_15 q_9 (.inl (G.2 4, 60, .inl (fun _ => 0))) := by rw [ef_15, eL_15]; exact Lk.push t_5 hq_16
  have t_6 : Lk L_15 f_15 q_11 (.inl (G.2 4, 11520, .inl (fun _ => 0))) := by rw [ef_15, eL_15]; exact Lk.push t_6 hq_16
  have t_7 : Lk L_15 f_15 q_13 (.inl (G.2 4, 20, .inl (fun _ => 0))) := by rw [ef_15, eL_15]; exact Lk.push t_7 hq_16
  have t_8 : Lk L_15 f_15 q_15 (.inl (G.2 1, 20, .inl (fun _ => 0))) := by rw [ef_15, eL_15]; exact Lk.new
  have hkp : Kp (fun a => a = q) L f (L_15, f_15) := by rw [ef_15, eL_15]; exact hkp.push hq_16
  refine xw_putF (D := G.1) (ci := 5) (v := .ref q_15) (ty := .array .boolean) (C := R_Mo) (T := T_Mo) (N := 14) (fs' := [.int 0, .ref q_1, .int 0, .ref q_3, .ref q_5, .ref q_7, .ref q_9, .ref q_11, .int 0, .ref q_13, .ref q_15, .null, .null, .int 0]) hx hb hA in_Mo ty_Mo tyok_Mo nm_Mo hown hK.1 hP hD hS hq0 rfl 10 (by decide) (hA _ kw_208) (fun _ h9 => h9) rfl hin rfl (by decide +kernel) rfl rfl (Nat.le_of_ble_eq_true rfl) d_Mo_init_66 rfl (fun H locs hP hD hS => ?_)
  obtain ⟨f_16, ef_16⟩ : ∃ z : Nat → va_E, z = va_up f_15 q (.inr (5, [.int 0, .ref q_1, .int 0, .ref q_3, .ref q_5, .ref q_7, .ref q_9, .ref q_11, .int 0, .ref q_13, .ref q_15, .null, .null, .int 0])) := ⟨_, rfl⟩
  rw [← ef_16] at hP hD
  have t_1 : Lk L_15 f_16 q_1 (.inl (G.2 4, 8, .inl (fun _ => 0))) := by rw [ef_16]; exact Lk.up t_1 (Ne.symm (Lk.neOA hq0 t_1))
  have t_2 : Lk L_15 f_16 q_3 (.inl (G.2 4, 60, .inl (fun _ => 0))) := by rw [ef_16]; exact Lk.up t_2 (Ne.symm (Lk.neOA hq0 t_2))
  have t_3 : Lk L_15 f_16 q_5 (.inl (G.2 4, 60, .inl (fun _ => 0))) := by rw [ef_16]; exact Lk.up t_3 (Ne.symm (Lk.neOA hq0 t_3))
  have t_4 : Lk L_15 f_16 q_7 (.inl (G.2 4, 60, .inl (fun _ => 0))) := by rw [ef_16]; exact Lk.up t_4 (Ne.symm (Lk.neOA hq0 t_4))
  have t_5 : Lk L_15 f_16 q_9 (.inl (G.2 4, 60, .inl (fun _ => 0))) := by rw [ef_16]; exact Lk.up t_5 (Ne.symm (Lk.neOA hq0 t_5))
  have t_6 : Lk L_15 f_16 q_11 (.inl (G.2 4, 11520, .inl (fun _ => 0))) := by rw [ef_16]; exact Lk.up t_6 (Ne.symm (Lk.neOA hq0 t_6))
  have t_7 : Lk L_15 f_16 q_13 (.inl (G.2 4, 20, .inl (fun _ => 0))) := by rw [ef_16]; exact Lk.up t_7 (Ne.symm (Lk.neOA hq0 t_7))
  have t_8 : Lk L_15 f_16 q_15 (.inl (G.2 1, 20, .inl (fun _ => 0))) := by rw [ef_16]; exact Lk.up t_8 (Ne.symm (Lk.neOA hq0 t_8))
  have hq0 : Lk L_15 f_16 q (.inr (5, [.int 0, .ref q_1, .int 0, .ref q_3, .ref q_5, .ref q_7, .ref q_9, .ref q_11, .int 0, .ref q_13, .ref q_15, .null, .null, .int 0])) := by rw [ef_16]; exact Lk.set hq0
  have hkp : Kp (fun a => a = q) L f (L_15, f_16) := by rw [ef_16]; exact hkp.up rfl
  refine lv_aload_n hx hb d_Mo_init_69 rfl (lv_at hl 0 rfl) ?_
  refine lv_bipush (v := nI 20) hx hb d_Mo_init_70 (by decide) ?_
  have k8_q_1 := t_1
  have k8_q_3 := t_2
  have k8_q_5 := t_3
  have k8_q_7 := t_4
  have k8_q_9 := t_5
  have k8_q_11 := t_6
  have k8_q_13 := t_7
  have k8_q_15 := t_8
  refine xw_newa (atype := .int) (ty := .int) (a0 := (20, .inl (fun _ => 0))) hx hb (hA _ kw_245) rfl hK.1 hP hD hS hA0 4 rfl (fun _ => rfl) (by decide) (show (nI 20).toNatClampNeg = 20 by decide) (by decide) (Nat.le_of_ble_eq_true rfl) (Nat.le_of_ble_eq_true rfl) d_Mo_init_72 (fun q_17 H hq_18 hP hD hS => ?_)
  refine W.widen (k := 9) (n := 11828) (by omega) (by omega) ?_
  obtain ⟨f_17, ef_17⟩ : ∃ z : Nat → va_E, z = va_up f_16 q_17 (.inl (G.2 4, 20, .inl (fun _ => 0))) := ⟨_, rfl⟩
  obtain ⟨L_17, eL_17⟩ : ∃ z : List Nat, z = L_15 ++ [q_17] := ⟨_, rfl⟩
  rw [← ef_17, ← eL_17] at hP hD
  have hq0 : Lk L_17 f_17 q (.inr (5, [.int 0, .ref q_1, .int 0, .ref q_3, .ref q_5, .ref q_7, .ref q_9, .ref q_11, .int 0, .ref q_13, .ref q_15, .null, .null, .int 0])) := by rw [ef_17, eL_17]; exact Lk.push hq0 hq_18
  have t_1 : Lk L_17 f_17 q_1 (.inl (G.2 4, 8, .inl (fun _ => 0))) := by rw [ef_17, eL_17]; exact Lk.push t_1 hq_18
  have t_2 : Lk L_17 f_17 q_3 (.inl (G.2 4, 60, .inl (fun _ => 0))) := by rw [ef_17, eL_17]; exact Lk.push t_2 hq_18
  have t_3 : Lk L_17 f_17 q_5 (.inl (G.2 4, 60, .inl (fun _ => 0))) := by rw [ef_17, eL_17]; exact Lk.push t_3 hq_18
  have t_4 : Lk L_17 f_17 q_7 (.inl (G.2 4, 60, .inl (fun _ => 0))) := by rw [ef_17, eL_17]; exact Lk.push t_4 hq_18
  have t_5 : Lk L_17 f_17 q_9 (.inl (G.2 4, 60, .inl (fun _ => 0))) := by rw [ef_17, eL_17]; exact Lk.push t_5 hq_18
  have t_6 : Lk L_17 f_17 q_11 (.inl (G.2 4, 11520, .inl (fun _ => 0))) := by rw [ef_17, eL_17]; exact Lk.push t_6 hq_18
  have t_7 : Lk L_17 f_17 q_13 (.inl (G.2 4, 20, .inl (fun _ => 0))) := by rw [ef_17, eL_17]; exact Lk.push t_7 hq_18
  have t_8 : Lk L_17 f_17 q_15 (.inl (G.2 1, 20, .inl (fun _ => 0))) := by rw [ef_17, eL_17]; exact Lk.push t_8 hq_18
  have t_9 : Lk L_17 f_17 q_17 (.inl (G.2 4, 20, .inl (fun _ => 0))) := by rw [ef_17, eL_17]; exact Lk.new
  have hkp : Kp (fun a => a = q) L f (L_17, f_17) := by rw [ef_17, eL_17]; exact hkp.push hq_18
  refine xw_putF (D := G.1) (ci := 5) (v := .ref q_17) (ty := .array .int) (C := R_Mo) (T := T_Mo) (N := 14) (fs' := [.int 0, .ref q_1, .int 0, .ref q_3, .ref q_5, .ref q_7, .ref q_9, .ref q_11, .int 0, .ref q_13, .ref q_15, .ref q_17, .null, .int 0]) hx hb hA in_Mo ty_Mo tyok_Mo nm_Mo hown hK.1 hP hD hS hq0 rfl 11 (by decide) (hA _ kw_203) (fun _ h9 => h9) rfl hin rfl (by decide +kernel) rfl rfl (Nat.le_of_ble_eq_true rfl) d_Mo_init_74 rfl (fun H locs hP hD hS => ?_)
  obtain ⟨f_18, ef_18⟩ : ∃ z : Nat → va_E, z = va_up f_17 q (.inr (5, [.int 0, .ref q_1, .int 0, .ref q_3, .ref q_5, .ref q_7, .ref q_9, .ref q_11, .int 0, .ref q_13, .ref q_15, .ref q_17, .null, .int 0])) := ⟨_, rfl⟩
  rw [← ef_18] at hP hD
  have t_1 : Lk L_17 f_18 q_1 (.inl (G.2 4, 8, .inl (fun _ => 0))) := by rw [ef_18]; exact Lk.up t_1 (Ne.symm (Lk.neOA hq0 t_1))
  have t_2 : Lk L_17 f_18 q_3 (.inl (G.2 4, 60, .inl (fun _ => 0))) := by rw [ef_18]; exact Lk.up t_2 (Ne.symm (Lk.neOA hq0 t_2))
  have t_3 : Lk L_17 f_18 q_5 (.inl (G.2 4, 60, .inl (fun _ => 0))) := by rw [ef_18]; exact Lk.up t_3 (Ne.symm (Lk.neOA hq0 t_3))
  have t_4 : Lk L_17 f_18 q_7 (.inl (G.2 4, 60, .inl (fun _ => 0))) := by rw [ef_18]; exact Lk.up t_4 (Ne.symm (Lk.neOA hq0 t_4))
  have t_5 : Lk L_17 f_18 q_9 (.inl (G.2 4, 60, .inl (fun _ => 0))) := by rw [ef_18]; exact Lk.up t_5 (Ne.symm (Lk.neOA hq0 t_5))
  have t_6 : Lk L_17 f_18 q_11 (.inl (G.2 4, 11520, .inl (fun _ => 0))) := by rw [ef_18]; exact Lk.up t_6 (Ne.symm (Lk.neOA hq0 t_6))
  have t_7 : Lk L_17 f_18 q_13 (.inl (G.2 4, 20, .inl (fun _ => 0))) := by rw [ef_18]; exact Lk.up t_7 (Ne.symm (Lk.neOA hq0 t_7))
  have t_8 : Lk L_17 f_18 q_15 (.inl (G.2 1, 20, .inl (fun _ => 0))) := by rw [ef_18]; exact Lk.up t_8 (Ne.symm (Lk.neOA hq0 t_8))
  have t_9 : Lk L_17 f_18 q_17 (.inl (G.2 4, 20, .inl (fun _ => 0))) := by rw [ef_18]; exact Lk.up t_9 (Ne.symm (Lk.neOA hq0 t_9))
  have hq0 : Lk L_17 f_18 q (.inr (5, [.int 0, .ref q_1, .int 0, .ref q_3, .ref q_5, .ref q_7, .ref q_9, .ref q_11, .int 0, .ref q_13, .ref q_15, .ref q_17, .null, .int 0])) := by rw [ef_18]; exact Lk.set hq0
  have hkp : Kp (fun a => a = q) L f (L_17, f_18) := by rw [ef_18]; exact hkp.up rfl
  refine lv_aload_n hx hb d_Mo_init_77 rfl (lv_at hl 0 rfl) ?_
  refine lv_sipush (v := nI 6144) hx hb d_Mo_init_78 (by decide) ?_
  have k9_q_1 := t_1
  have k9_q_3 := t_2
  have k9_q_5 := t_3
  have k9_q_7 := t_4
  have k9_q_9 := t_5
  have k9_q_11 := t_6
  have k9_q_13 := t_7
  have k9_q_15 := t_8
  have k9_q_17 := t_9
  refine xw_newa (atype := .int) (ty := .int) (a0 := (6144, .inl (fun _ => 0))) hx hb (hA _ kw_245) rfl hK.1 hP hD hS hA0 4 rfl (fun _ => rfl) (by decide) (show (nI 6144).toNatClampNeg = 6144 by decide) (by decide) (Nat.le_of_ble_eq_true rfl) (Nat.le_of_ble_eq_true rfl) d_Mo_init_81 (fun q_19 H hq_20 hP hD hS => ?_)
  refine W.widen (k := 10) (n := 17972) (by omega) (by omega) ?_
  obtain ⟨f_19, ef_19⟩ : ∃ z : Nat → va_E, z = va_up f_18 q_19 (.inl (G.2 4, 6144, .inl (fun _ => 0))) := ⟨_, rfl⟩
  obtain ⟨L_19, eL_19⟩ : ∃ z : List Nat, z = L_17 ++ [q_19] := ⟨_, rfl⟩
  rw [← ef_19, ← eL_19] at hP hD
  have hq0 : Lk L_19 f_19 q (.inr (5, [.int 0, .ref q_1, .int 0, .ref q_3, .ref q_5, .ref q_7, .ref q_9, .ref q_11, .int 0, .ref q_13, .ref q_15, .ref q_17, .null, .int 0])) := by rw [ef_19, eL_19]; exact Lk.push hq0 hq_20
  have t_1 : Lk L_19 f_19 q_1 (.inl (G.2 4, 8, .inl (fun _ => 0))) := by rw [ef_19, eL_19]; exact Lk.push t_1 hq_20
  have t_2 : Lk L_19 f_19 q_3 (.inl (G.2 4, 60, .inl (fun _ => 0))) := by rw [ef_19, eL_19]; exact Lk.push t_2 hq_20
  have t_3 : Lk L_19 f_19 q_5 (.inl (G.2 4, 60, .inl (fun _ => 0))) := by rw [ef_19, eL_19]; exact Lk.push t_3 hq_20
  have t_4 : Lk L_19 f_19 q_7 (.inl (G.2 4, 60, .inl (fun _ => 0))) := by rw [ef_19, eL_19]; exact Lk.push t_4 hq_20
  have t_5 : Lk L_19 f_19 q_9 (.inl (G.2 4, 60, .inl (fun _ => 0))) := by rw [ef_19, eL_19]; exact Lk.push t_5 hq_20
  have t_6 : Lk L_19 f_19 q_11 (.inl (G.2 4, 11520, .inl (fun _ => 0))) := by rw [ef_19, eL_19]; exact Lk.push t_6 hq_20
  have t_7 : Lk L_19 f_19 q_13 (.inl (G.2 4, 20, .inl (fun _ => 0))) := by rw [ef_19, eL_19]; exact Lk.push t_7 hq_20
  have t_8 : Lk L_19 f_19 q_15 (.inl (G.2 1, 20, .inl (fun _ => 0))) := by rw [ef_19, eL_19]; exact Lk.push t_8 hq_20
  have t_9 : Lk L_19 f_19 q_17 (.inl (G.2 4, 20, .inl (fun _ => 0))) := by rw [ef_19, eL_19]; exact Lk.push t_9 hq_20
  have t_10 : Lk L_19 f_19 q_19 (.inl (G.2 4, 6144, .inl (fun _ => 0))) := by rw [ef_19, eL_19]; exact Lk.new
  have hkp : Kp (fun a => a = q) L f (L_19, f_19) := by rw [ef_19, eL_19]; exact hkp.push hq_20
  refine xw_putF (D := G.1) (ci := 5) (v := .ref q_19) (ty := .array .int) (C := R_Mo) (T := T_Mo) (N := 14) (fs' := [.int 0, .ref q_1, .int 0, .ref q_3, .ref q_5, .ref q_7, .ref q_9, .ref q_11, .int 0, .ref q_13, .ref q_15, .ref q_17, .ref q_19, .int 0]) hx hb hA in_Mo ty_Mo tyok_Mo nm_Mo hown hK.1 hP hD hS hq0 rfl 12 (by decide) (hA _ kw_209) (fun _ h9 => h9) rfl hin rfl (by decide +kernel) rfl rfl (Nat.le_of_ble_eq_true rfl) d_Mo_init_83 rfl (fun H locs hP hD hS => ?_)
  obtain ⟨f_20, ef_20⟩ : ∃ z : Nat → va_E, z = va_up f_19 q (.inr (5, [.int 0, .ref q_1, .int 0, .ref q_3, .ref q_5, .ref q_7, .ref q_9, .ref q_11, .int 0, .ref q_13, .ref q_15, .ref q_17, .ref q_19, .int 0])) := ⟨_, rfl⟩
  rw [← ef_20] at hP hD
  have t_1 : Lk L_19 f_20 q_1 (.inl (G.2 4, 8, .inl (fun _ => 0))) := by rw [ef_20]; exact Lk.up t_1 (Ne.symm (Lk.neOA hq0 t_1))
  have t_2 : Lk L_19 f_20 q_3 (.inl (G.2 4, 60, .inl (fun _ => 0))) := by rw [ef_20]; exact Lk.up t_2 (Ne.symm (Lk.neOA hq0 t_2))
  have t_3 : Lk L_19 f_20 q_5 (.inl (G.2 4, 60, .inl (fun _ => 0))) := by rw [ef_20]; exact Lk.up t_3 (Ne.symm (Lk.neOA hq0 t_3))
  have t_4 : Lk L_19 f_20 q_7 (.inl (G.2 4, 60, .inl (fun _ => 0))) := by rw [ef_20]; exact Lk.up t_4 (Ne.symm (Lk.neOA hq0 t_4))
  have t_5 : Lk L_19 f_20 q_9 (.inl (G.2 4, 60, .inl (fun _ => 0))) := by rw [ef_20]; exact Lk.up t_5 (Ne.symm (Lk.neOA hq0 t_5))
  have t_6 : Lk L_19 f_20 q_11 (.inl (G.2 4, 11520, .inl (fun _ => 0))) := by rw [ef_20]; exact Lk.up t_6 (Ne.symm (Lk.neOA hq0 t_6))
  have t_7 : Lk L_19 f_20 q_13 (.inl (G.2 4, 20, .inl (fun _ => 0))) := by rw [ef_20]; exact Lk.up t_7 (Ne.symm (Lk.neOA hq0 t_7))
  have t_8 : Lk L_19 f_20 q_15 (.inl (G.2 1, 20, .inl (fun _ => 0))) := by rw [ef_20]; exact Lk.up t_8 (Ne.symm (Lk.neOA hq0 t_8))
  have t_9 : Lk L_19 f_20 q_17 (.inl (G.2 4, 20, .inl (fun _ => 0))) := by rw [ef_20]; exact Lk.up t_9 (Ne.symm (Lk.neOA hq0 t_9))
  have t_10 : Lk L_19 f_20 q_19 (.inl (G.2 4, 6144, .inl (fun _ => 0))) := by rw [ef_20]; exact Lk.up t_10 (Ne.symm (Lk.neOA hq0 t_10))
  have hq0 : Lk L_19 f_20 q (.inr (5, [.int 0, .ref q_1, .int 0, .ref q_3, .ref q_5, .ref q_7, .ref q_9, .ref q_11, .int 0, .ref q_13, .ref q_15, .ref q_17, .ref q_19, .int 0])) := by rw [ef_20]; exact Lk.set hq0
  have hkp : Kp (fun a => a = q) L f (L_19, f_20) := by rw [ef_20]; exact hkp.up rfl
  exact W.vret hx hb hr (fun t9 h9t h9W => ⟨⟨(L_19, f_20), rfl, ⟨hkp, q_1, q_3, q_5, q_7, q_9, q_11, q_13, q_15, q_17, q_19, Nat.zero_le _, Nat.zero_le _, hq0, t_1, t_2, t_3, t_4, t_5, t_6, t_7, t_8, t_9, t_10, ⟨Lk.ni k2_q_3 hq_6, Lk.ni k3_q_3 hq_8, Lk.ni k4_q_3 hq_10, Lk.ni k3_q_5 hq_8, Lk.ni k4_q_5 hq_10, Lk.ni k4_q_7 hq_10, Lk.ni k7_q_13 hq_16, Lk.ni k8_q_13 hq_18, Lk.ni k8_q_15 hq_18⟩⟩, by rw [h9t]; exact hP, hD⟩, hS.F h9t⟩) hS.2.2 d_Mo_init_86
