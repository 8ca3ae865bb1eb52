set_option maxHeartbeats 4000000 in
set_option maxRecDepth 100000 in
/-- Condition() -/
theorem c_Co_init (l : Launch) (G : GG) (L : List Nat) (f : Nat → va_E) (sz : Nat) (hN : L.Nodup) {q : Nat} (hq0 : Lk L f q (.inr (0, [.int 0, .int 0, .int 0, .int 0, .null]))) (x1 x2 x3 x4 : Int32) : Met l y_Co_init (.code y_Co_init b_Co_init 5 none :: AW) (RW 1 1 96) (va_Pc [.ref q, .int x1, .int x2, .int x3, .int x4] (PZ G L f sz)) (va_Qv (fun u => Kp (fun a => a = q) L f u ∧ ∃ z, z ∉ L ∧ Lk u.1 u.2 q (.inr (0, [.int x1, .int x2, .int x3, .int x4, .ref z])) ∧ Lk u.1 u.2 z (.inl (G.2 0, 96, .inr (.inl (fun _ => 0))))) (BZ G (Am L sz)) (Am L sz)) 1 96 (Am L sz) := by
  refine Met.ofW (cc := b_Co_init) (maxL := 5) (ret := none) (by decide) rfl ?_
  intro p e s m args below meth c s₁ B hml hv
  obtain ⟨rfl, hsz, hP, hK⟩ := hv
  have hx := B.exec
  have hb := B.bytes
  have hr := B.returns
  have hA : ∀ w ∈ AW, w.before _ s = true := fun w h => atoms_spec (ws := (.code y_Co_init b_Co_init 5 none :: AW)) B.pre w (List.mem_cons_of_mem _ h)
  have hown : s.vm.findClass R_Co = some m.cls := findClass_of_methodNamed B.named
  have hlocks := B.notSynchronized
  have hin : meth.name = "<init>" := (name_of_methodNamed B.named B.method).1
  subst hsz
  have hD : va_D (Am L s.heap.size) (va_pl L f) := pl_D hN (fun _ h => Or.inl h)
  have hA0 : ∀ q, s.heap.size ≤ q → Am L s.heap.size q := fun q h => Or.inr h
  generalize Am L s.heap.size = A at hD hA0 ⊢
  have hS : va_S A s.heap s.heap [] := va_S.rf
  have hkp : Kp (fun a => a = q) L f (L, f) := Kp.rf
  have hl := lv_entry ([.ref q, .int x1, .int x2, .int x3, .int x4]) (n := 5) (Nat.le_of_ble_eq_true rfl)
  rw [lg_entry_eq]
  generalize (lg_sl ([.ref q, .int x1, .int x2, .int x3, .int x4]) ++ List.replicate (5 - (lg_sl ([.ref q, .int x1, .int x2, .int x3, .int x4])).length) Slot.unset).toArray = ls at hl ⊢
  have hl : lv_has ls 5 [(0, .ref q), (1, .int x1), (2, .int x2), (3, .int x3), (4, .int x4)] := hl
  refine lv_aload_n hx hb d_Co_init_0 rfl (lv_at hl 0 rfl) ?_
  refine W.objInit hx hb hown (hA _ kw_108) (hA _ kw_109) (hA _ kw_110) rfl (by rw [hml]; exact hl.1) rfl d_Co_init_1 (Nat.le_of_ble_eq_true rfl) (Nat.le_of_ble_eq_true rfl) ?_
  refine W.eq (g2 := F0 m 4 ls []) rfl ?_
  refine lv_aload_n hx hb d_Co_init_4 rfl (lv_at hl 0 rfl) ?_
  refine lv_iload_n hx hb d_Co_init_5 rfl (lv_at hl 1 rfl) ?_
  refine xw_putF (D := G.1) (ci := 0) (v := .int x1) (ty := .int) (C := R_Co) (T := T_Co) (N := 5) (fs' := [.int x1, .int 0, .int 0, .int 0, .null]) hx hb hA in_Co ty_Co tyok_Co nm_Co hown hK.1 hP hD hS hq0 rfl 0 (by decide) (hA _ kw_111) (fun _ h9 => h9) rfl hin rfl (by decide +kernel) rfl rfl (Nat.le_of_ble_eq_true rfl) d_Co_init_6 rfl (fun H locs hP hD hS => ?_)
  obtain ⟨f_1, ef_1⟩ : ∃ z : Nat → va_E, z = va_up f q (.inr (0, [.int x1, .int 0, .int 0, .int 0, .null])) := ⟨_, rfl⟩
  rw [← ef_1] at hP hD
  have hq0 : Lk L f_1 q (.inr (0, [.int x1, .int 0, .int 0, .int 0, .null])) := by rw [ef_1]; exact Lk.set hq0
  have hkp : Kp (fun a => a = q) L f (L, f_1) := by rw [ef_1]; exact hkp.up rfl
  refine lv_aload_n hx hb d_Co_init_9 rfl (lv_at hl 0 rfl) ?_
  refine lv_iload_n hx hb d_Co_init_10 rfl (lv_at hl 2 rfl) ?_
  refine xw_putF (D := G.1) (ci := 0) (v := .int x2) (ty := .int) (C := R_Co) (T := T_Co) (N := 5) (fs' := [.int x1, .int x2, .int 0, .int 0, .null]) hx hb hA in_Co ty_Co tyok_Co nm_Co hown hK.1 hP hD hS hq0 rfl 1 (by decide) (hA _ kw_112) (fun _ h9 => h9) rfl hin rfl (by decide +kernel) rfl rfl (Nat.le_of_ble_eq_true rfl) d_Co_init_11 rfl (fun H locs hP hD hS => ?_)
  obtain ⟨f_2, ef_2⟩ : ∃ z : Nat → va_E, z = va_up f_1 q (.inr (0, [.int x1, .int x2, .int 0, .int 0, .null])) := ⟨_, rfl⟩
  rw [← ef_2] at hP hD
  have hq0 : Lk L f_2 q (.inr (0, [.int x1, .int x2, .int 0, .int 0, .null])) := by rw [ef_2]; exact Lk.set hq0
  have hkp : Kp (fun a => a = q) L f (L, f_2) := by rw [ef_2]; exact hkp.up rfl
  refine lv_aload_n hx hb d_Co_init_14 rfl (lv_at hl 0 rfl) ?_
  refine lv_iload_n hx hb d_Co_init_15 rfl (lv_at hl 3 rfl) ?_
  refine xw_putF (D := G.1) (ci := 0) (v := .int x3) (ty := .int) (C := R_Co) (T := T_Co) (N := 5) (fs' := [.int x1, .int x2, .int x3, .int 0, .null]) hx hb hA in_Co ty_Co tyok_Co nm_Co hown hK.1 hP hD hS hq0 rfl 2 (by decide) (hA _ kw_113) (fun _ h9 => h9) rfl hin rfl (by decide +kernel) rfl rfl (Nat.le_of_ble_eq_true rfl) d_Co_init_16 rfl (fun H locs hP hD hS => ?_)
  obtain ⟨f_3, ef_3⟩ : ∃ z : Nat → va_E, z = va_up f_2 q (.inr (0, [.int x1, .int x2, .int x3, .int 0, .null])) := ⟨_, rfl⟩
  rw [← ef_3] at hP hD
  have hq0 : Lk L f_3 q (.inr (0, [.int x1, .int x2, .int x3, .int 0, .null])) := by rw [ef_3]; exact Lk.set hq0
  have hkp : Kp (fun a => a = q) L f (L, f_3) := by rw [ef_3]; exact hkp.up rfl
  refine lv_aload_n hx hb d_Co_init_19 rfl (lv_at hl 0 rfl) ?_
  refine lv_iload hx hb d_Co_init_20 (lv_at hl 4 rfl) ?_
  refine xw_putF (D := G.1) (ci := 0) (v := .int x4) (ty := .int) (C := R_Co) (T := T_Co) (N := 5) (fs' := [.int x1, .int x2, .int x3, .int x4, .null]) hx hb hA in_Co ty_Co tyok_Co nm_Co hown hK.1 hP hD hS hq0 rfl 3 (by decide) (hA _ kw_114) (fun _ h9 => h9) rfl hin rfl (by decide +kernel) rfl rfl (Nat.le_of_ble_eq_true rfl) d_Co_init_22 rfl (fun H locs hP hD hS => ?_)
  obtain ⟨f_4, ef_4⟩ : ∃ z : Nat → va_E, z = va_up f_3 q (.inr (0, [.int x1, .int x2, .int x3, .int x4, .null])) := ⟨_, rfl⟩
  rw [← ef_4] at hP hD
  have hq0 : Lk L f_4 q (.inr (0, [.int x1, .int x2, .int x3, .int x4, .null])) := by rw [ef_4]; exact Lk.set hq0
  have hkp : Kp (fun a => a = q) L f (L, f_4) := by rw [ef_4]; exact hkp.up rfl
  refine lv_aload_n hx hb d_Co_init_25 rfl (lv_at hl 0 rfl) ?_
  refine lv_bipush (v := nI 96) hx hb d_Co_init_26 (by decide) ?_
  refine xw_newa (atype := .long) (ty := .long) (a0 := (96, .inr (.inl (fun _ => 0)))) hx hb (hA _ kw_115) rfl hK.1 hP hD hS hA0 0 rfl (fun _ => rfl) (by decide) (show (nI 96).toNatClampNeg = 96 by decide) (by decide) (Nat.le_of_ble_eq_true rfl) (Nat.le_of_ble_eq_true rfl) d_Co_init_28 (fun q_1 H hq_2 hP hD hS => ?_)
  refine W.widen (k := 1) (n := 96) (by omega) (by omega) ?_
  obtain ⟨f_5, ef_5⟩ : ∃ z : Nat → va_E, z = va_up f_4 q_1 (.inl (G.2 0, 96, .inr (.inl (fun _ => 0)))) := ⟨_, rfl⟩
  obtain ⟨L_5, eL_5⟩ : ∃ z : List Nat, z = L ++ [q_1] := ⟨_, rfl⟩
  rw [← ef_5, ← eL_5] at hP hD
  have hq0 : Lk L_5 f_5 q (.inr (0, [.int x1, .int x2, .int x3, .int x4, .null])) := by rw [ef_5, eL_5]; exact Lk.push hq0 hq_2
  have t_1 : Lk L_5 f_5 q_1 (.inl (G.2 0, 96, .inr (.inl (fun _ => 0)))) := by rw [ef_5, eL_5]; exact Lk.new
  have hkp : Kp (fun a => a = q) L f (L_5, f_5) := by rw [ef_5, eL_5]; exact hkp.push hq_2
  refine xw_putF (D := G.1) (ci := 0) (v := .ref q_1) (ty := .array .long) (C := R_Co) (T := T_Co) (N := 5) (fs' := [.int x1, .int x2, .int x3, .int x4, .ref q_1]) hx hb hA in_Co ty_Co tyok_Co nm_Co hown hK.1 hP hD hS hq0 rfl 4 (by decide) (hA _ kw_3) (fun _ h9 => h9) rfl hin rfl (by decide +kernel) rfl rfl (Nat.le_of_ble_eq_true rfl) d_Co_init_30 rfl (fun H locs hP hD hS => ?_)
  have n_3 : q_1 ≠ q := Ne.symm (Lk.neOA hq0 t_1)
  obtain ⟨f_6, ef_6⟩ : ∃ z : Nat → va_E, z = va_up f_5 q (.inr (0, [.int x1, .int x2, .int x3, .int x4, .ref q_1])) := ⟨_, rfl⟩
  rw [← ef_6] at hP hD
  have t_1 : Lk L_5 f_6 q_1 (.inl (G.2 0, 96, .inr (.inl (fun _ => 0)))) := by rw [ef_6]; exact Lk.up t_1 n_3
  have hq0 : Lk L_5 f_6 q (.inr (0, [.int x1, .int x2, .int x3, .int x4, .ref q_1])) := by rw [ef_6]; exact Lk.set hq0
  have hkp : Kp (fun a => a = q) L f (L_5, f_6) := by rw [ef_6]; exact hkp.up rfl
  exact W.vret hx hb hr (fun t9 h9t h9W => ⟨⟨(L_5, f_6), rfl, ⟨hkp, q_1, hq_2, hq0, t_1⟩, by rw [h9t]; exact hP, hD⟩, hS.F h9t⟩) hS.2.2 d_Co_init_33

set_option maxHeartbeats 4000000 in
set_option maxRecDepth 100000 in
/-- Rule() -/
theorem c_Ru_init (l : Launch) (G : GG) (L : List Nat) (f : Nat → va_E) (sz : Nat) (hN : L.Nodup) {q : Nat} (hq0 : Lk L f q (.inr (2, [.int 0, .int 0, .null, .int 0]))) (x1 x2 : Int32) (d3 : Bool) (a4 : Nat) : Met l y_Ru_init (.code y_Ru_init b_Ru_init 5 none :: AW) (RW 1 0 0) (va_Pc [.ref q, .int x1, .int x2, .int (bI d3), .ref a4] (PZ G L f sz)) (va_Qv (fun u => Kp (fun a => a = q) L f u ∧ u.1 = L ∧ Lk u.1 u.2 q (.inr (2, [.int x2, .int (bI d3), .ref a4, .int x1]))) (BZ G (Am L sz)) (Am L sz)) 0 0 (Am L sz) := by
  refine Met.ofW (cc := b_Ru_init) (maxL := 5) (ret := none) (by decide) rfl ?_
  intro p e s m args below meth c s₁ B hml hv
  obtain ⟨rfl, hsz, hP, hK⟩ := hv
  have hx := B.exec
  have hb := B.bytes
  have hr := B.returns
  have hA : ∀ w ∈ AW, w.before _ s = true := fun w h => atoms_spec (ws := (.code y_Ru_init b_Ru_init 5 none :: AW)) B.pre w (List.mem_cons_of_mem _ h)
  have hown : s.vm.findClass R_Ru = some m.cls := findClass_of_methodNamed B.named
  have hlocks := B.notSynchronized
  have hin : meth.name = "<init>" := (name_of_methodNamed B.named B.method).1
  subst hsz
  have hD : va_D (Am L s.heap.size) (va_pl L f) := pl_D hN (fun _ h => Or.inl h)
  have hA0 : ∀ q, s.heap.size ≤ q → Am L s.heap.size q := fun q h => Or.inr h
  generalize Am L s.heap.size = A at hD hA0 ⊢
  have hS : va_S A s.heap s.heap [] := va_S.rf
  have hkp : Kp (fun a => a = q) L f (L, f) := Kp.rf
  have hl := lv_entry ([.ref q, .int x1, .int x2, .int (bI d3), .ref a4]) (n := 5) (Nat.le_of_ble_eq_true rfl)
  rw [lg_entry_eq]
  generalize (lg_sl ([.ref q, .int x1, .int x2, .int (bI d3), .ref a4]) ++ List.replicate (5 - (lg_sl ([.ref q, .int x1, .int x2, .int (bI d3), .ref a4])).length) Slot.unset).toArray = ls at hl ⊢
  have hl : lv_has ls 5 [(0, .ref q), (1, .int x1), (2, .int x2), (3, .int (bI d3)), (4, .ref a4)] := hl
  refine lv_aload_n hx hb d_Ru_init_0 rfl (lv_at hl 0 rfl) ?_
  refine W.objInit hx hb hown (hA _ kw_116) (hA _ kw_109) (hA _ kw_110) rfl (by rw [hml]; exact hl.1) rfl d_Ru_init_1 (Nat.le_of_ble_eq_true rfl) (Nat.le_of_ble_eq_true rfl) ?_
  refine W.eq (g2 := F0 m 4 ls []) rfl ?_
  refine lv_aload_n hx hb d_Ru_init_4 rfl (lv_at hl 0 rfl) ?_
  refine lv_iload_n hx hb d_Ru_init_5 rfl (lv_at hl 1 rfl) ?_
  refine xw_put (D := G.1) (ci := 2) (v := .int x1) (ty := .int) (C := R_Ru) (T := T_Ru) (N := 4) (fs' := [.int 0, .int 0, .null, .int x1]) hx hb hA in_Ru ty_Ru tyok_Ru nm_Ru hown hK.1 hP hD hS hq0 rfl 3 (by decide) (hA _ kw_117) (fun _ h9 => h9) rfl (by decide +kernel) rfl rfl (Nat.le_of_ble_eq_true rfl) d_Ru_init_6 rfl (fun H locs hP hD hS => ?_)
  obtain ⟨f_1, ef_1⟩ : ∃ z : Nat → va_E, z = va_up f q (.inr (2, [.int 0, .int 0, .null, .int x1])) := ⟨_, rfl⟩
  rw [← ef_1] at hP hD
  have hq0 : Lk L f_1 q (.inr (2, [.int 0, .int 0, .null, .int x1])) := by rw [ef_1]; exact Lk.set hq0
  have hkp : Kp (fun a => a = q) L f (L, f_1) := by rw [ef_1]; exact hkp.up rfl
  refine lv_aload_n hx hb d_Ru_init_9 rfl (lv_at hl 0 rfl) ?_
  refine lv_iload_n hx hb d_Ru_init_10 rfl (lv_at hl 2 rfl) ?_
  refine xw_putF (D := G.1) (ci := 2) (v := .int x2) (ty := .int) (C := R_Ru) (T := T_Ru) (N := 4) (fs' := [.int x2, .int 0, .null, .int x1]) hx hb hA in_Ru ty_Ru tyok_Ru nm_Ru hown hK.1 hP hD hS hq0 rfl 0 (by decide) (hA _ kw_14) (fun _ h9 => h9) rfl hin rfl (by decide +kernel) rfl rfl (Nat.le_of_ble_eq_true rfl) d_Ru_init_11 rfl (fun H locs hP hD hS => ?_)
  obtain ⟨f_2, ef_2⟩ : ∃ z : Nat → va_E, z = va_up f_1 q (.inr (2, [.int x2, .int 0, .null, .int x1])) := ⟨_, rfl⟩
  rw [← ef_2] at hP hD
  have hq0 : Lk L f_2 q (.inr (2, [.int x2, .int 0, .null, .int x1])) := by rw [ef_2]; exact Lk.set hq0
  have hkp : Kp (fun a => a = q) L f (L, f_2) := by rw [ef_2]; exact hkp.up rfl
  refine lv_aload_n hx hb d_Ru_init_14 rfl (lv_at hl 0 rfl) ?_
  refine lv_iload_n hx hb d_Ru_init_15 rfl (lv_at hl 3 rfl) ?_
  refine xw_putF (D := G.1) (ci := 2) (v := .int (bI d3)) (ty := .boolean) (C := R_Ru) (T := T_Ru) (N := 4) (fs' := [.int x2, .int (bI d3), .null, .int x1]) hx hb hA in_Ru ty_Ru tyok_Ru nm_Ru hown hK.1 hP hD hS hq0 rfl 1 (by decide) (hA _ kw_15) (fun _ h9 => h9) rfl hin rfl (by decide +kernel) (bI_nar _) (bI_fit _) (Nat.le_of_ble_eq_true rfl) d_Ru_init_16 rfl (fun H locs hP hD hS => ?_)
  obtain ⟨f_3, ef_3⟩ : ∃ z : Nat → va_E, z = va_up f_2 q (.inr (2, [.int x2, .int (bI d3), .null, .int x1])) := ⟨_, rfl⟩
  rw [← ef_3] at hP hD
  have hq0 : Lk L f_3 q (.inr (2, [.int x2, .int (bI d3), .null, .int x1])) := by rw [ef_3]; exact Lk.set hq0
  have hkp : Kp (fun a => a = q) L f (L, f_3) := by rw [ef_3]; exact hkp.up rfl
  refine lv_aload_n hx hb d_Ru_init_19 rfl (lv_at hl 0 rfl) ?_
  refine lv_aload hx hb d_Ru_init_20 (lv_at hl 4 rfl) ?_
  refine xw_putF (D := G.1) (ci := 2) (v := .ref a4) (ty := .object "RightDesk$Condition") (C := R_Ru) (T := T_Ru) (N := 4) (fs' := [.int x2, .int (bI d3), .ref a4, .int x1]) hx hb hA in_Ru ty_Ru tyok_Ru nm_Ru hown hK.1 hP hD hS hq0 rfl 2 (by decide) (hA _ kw_9) (fun _ h9 => h9) rfl hin rfl (by decide +kernel) rfl rfl (Nat.le_of_ble_eq_true rfl) d_Ru_init_22 rfl (fun H locs hP hD hS => ?_)
  obtain ⟨f_4, ef_4⟩ : ∃ z : Nat → va_E, z = va_up f_3 q (.inr (2, [.int x2, .int (bI d3), .ref a4, .int x1])) := ⟨_, rfl⟩
  rw [← ef_4] at hP hD
  have hq0 : Lk L f_4 q (.inr (2, [.int x2, .int (bI d3), .ref a4, .int x1])) := by rw [ef_4]; exact Lk.set hq0
  have hkp : Kp (fun a => a = q) L f (L, f_4) := by rw [ef_4]; exact hkp.up rfl
  exact W.vret hx hb hr (fun t9 h9t h9W => ⟨⟨(L, f_4), rfl, ⟨hkp, rfl, hq0⟩, by rw [h9t]; exact hP, hD⟩, hS.F h9t⟩) hS.2.2 d_Ru_init_25

set_option maxHeartbeats 4000000 in
set_option maxRecDepth 100000 in
/-- ConditionBook() -/
theorem c_Cb_init (l : Launch) (G : GG) (L : List Nat) (f : Nat → va_E) (sz : Nat) (hN : L.Nodup) {q : Nat} (hq0 : Lk L f q (.inr (1, [.null, .null, .int 0]))) : Met l y_Cb_init (.code y_Cb_init b_Cb_init 1 none :: AW) (RW 1 2 124) (va_Pc [.ref q] (PZ G L f sz)) (va_Qv (fun u => Kp (fun a => a = q) L f u ∧ ∃ z1 z2, Lk u.1 u.2 q (.inr (1, [.ref z1, .ref z2, .int (nI 0)])) ∧ Lk u.1 u.2 z1 (.inl (G.2 2, 60, .inr (.inr (.inr (.inr (fun _ => none)))))) ∧ Lk u.1 u.2 z2 (.inl (G.2 1, 64, .inl (fun _ => 0)))) (BZ G (Am L sz)) (Am L sz)) 2 124 (Am L sz) := by
  refine Met.ofW (cc := b_Cb_init) (maxL := 1) (ret := none) (by decide) rfl ?_
  intro p e s m args below meth c s₁ B hml hv
  obtain ⟨rfl, hsz, hP, hK⟩ := hv
  have hx := B.exec
  have hb := B.bytes
  have hr := B.returns
  have hA : ∀ w ∈ AW, w.before _ s = true := fun w h => atoms_spec (ws := (.code y_Cb_init b_Cb_init 1 none :: AW)) B.pre w (List.mem_cons_of_mem _ h)
  have hown : s.vm.findClass R_Cb = some m.cls := findClass_of_methodNamed B.named
  have hlocks := B.notSynchronized
  have hin : meth.name = "<init>" := (name_of_methodNamed B.named B.method).1
  subst hsz
  have hD : va_D (Am L s.heap.size) (va_pl L f) := pl_D hN (fun _ h => Or.inl h)
  have hA0 : ∀ q, s.heap.size ≤ q → Am L s.heap.size q := fun q h => Or.inr h
  generalize Am L s.heap.size = A at hD hA0 ⊢
  have hS : va_S A s.heap s.heap [] := va_S.rf
  have hkp : Kp (fun a => a = q) L f (L, f) := Kp.rf
  have hl := lv_entry ([.ref q]) (n := 1) (Nat.le_of_ble_eq_true rfl)
  rw [lg_entry_eq]
  generalize (lg_sl ([.ref q]) ++ List.replicate (1 - (lg_sl ([.ref q])).length) Slot.unset).toArray = ls at hl ⊢
  have hl : lv_has ls 1 [(0, .ref q)] := hl
  refine lv_aload_n hx hb d_Cb_init_0 rfl (lv_at hl 0 rfl) ?_
  refine W.objInit hx hb hown (hA _ kw_118) (hA _ kw_109) (hA _ kw_110) rfl (by rw [hml]; exact hl.1) rfl d_Cb_init_1 (Nat.le_of_ble_eq_true rfl) (Nat.le_of_ble_eq_true rfl) ?_
  refine W.eq (g2 := F0 m 4 ls []) rfl ?_
  refine lv_aload_n hx hb d_Cb_init_4 rfl (lv_at hl 0 rfl) ?_
  refine lv_bipush (v := nI 60) hx hb d_Cb_init_5 (by decide) ?_
  refine xw_newq (C := "RightDesk$Condition") hx hb hown (hA _ kw_119) hK.2.2.1 hK.1 hP hD hS hA0 2 rfl (by decide) (show (nI 60).toNatClampNeg = 60 by decide) (by decide) (Nat.le_of_ble_eq_true rfl) (Nat.le_of_ble_eq_true rfl) d_Cb_init_7 (fun q_1 H hq_2 hP hD hS => ?_)
  refine W.widen (k := 1) (n := 60) (by omega) (by omega) ?_
  obtain ⟨f_1, ef_1⟩ : ∃ z : Nat → va_E, z = va_up f q_1 (.inl (G.2 2, 60, .inr (.inr (.inr (.inr (fun _ => none)))))) := ⟨_, rfl⟩
  obtain ⟨L_1, eL_1⟩ : ∃ z : List Nat, z = L ++ [q_1] := ⟨_, rfl⟩
  rw [← ef_1, ← eL_1] at hP hD
  have hq0 : Lk L_1 f_1 q (.inr (1, [.null, .null, .int 0])) := by rw [ef_1, eL_1]; exact Lk.push hq0 hq_2
  have t_1 : Lk L_1 f_1 q_1 (.inl (G.2 2, 60, .inr (.inr (.inr (.inr (fun _ => none)))))) := by rw [ef_1, eL_1]; exact Lk.new
  have hkp : Kp (fun a => a = q) L f (L_1, f_1) := by rw [ef_1, eL_1]; exact hkp.push hq_2
  refine xw_putF (D := G.1) (ci := 1) (v := .ref q_1) (ty := .array (.object "RightDesk$Condition")) (C := R_Cb) (T := T_Cb) (N := 3) (fs' := [.ref q_1, .null, .int 0]) hx hb hA in_Cb ty_Cb tyok_Cb nm_Cb hown hK.1 hP hD hS hq0 rfl 0 (by decide) (hA _ kw_7) (fun _ h9 => h9) rfl hin rfl (by decide +kernel) rfl rfl (Nat.le_of_ble_eq_true rfl) d_Cb_init_10 rfl (fun H locs hP hD hS => ?_)
  have n_3 : q_1 ≠ q := Ne.symm (Lk.neOA hq0 t_1)
  obtain ⟨f_2, ef_2⟩ : ∃ z : Nat → va_E, z = va_up f_1 q (.inr (1, [.ref q_1, .null, .int 0])) := ⟨_, rfl⟩
  rw [← ef_2] at hP hD
  have t_1 : Lk L_1 f_2 q_1 (.inl (G.2 2, 60, .inr (.inr (.inr (.inr (fun _ => none)))))) := by rw [ef_2]; exact Lk.up t_1 n_3
  have hq0 : Lk L_1 f_2 q (.inr (1, [.ref q_1, .null, .int 0])) := by rw [ef_2]; exact Lk.set hq0
  have hkp : Kp (fun a => a = q) L f (L_1, f_2) := by rw [ef_2]; exact hkp.up rfl
  refine lv_aload_n hx hb d_Cb_init_13 rfl (lv_at hl 0 rfl) ?_
  refine lv_bipush (v := nI 64) hx hb d_Cb_init_14 (by decide) ?_
  refine xw_newa (atype := .boolean) (ty := .boolean) (a0 := (64, .inl (fun _ => 0))) hx hb (hA _ kw_120) rfl hK.1 hP hD hS hA0 1 rfl (fun _ => rfl) (by decide) (show (nI 64).toNatClampNeg = 64 by decide) (by decide) (Nat.le_of_ble_eq_true rfl) (Nat.le_of_ble_eq_true rfl) d_Cb_init_16 (fun q_4 H hq_5 hP hD hS => ?_)
  refine W.widen (k := 2) (n := 124) (by omega) (by omega) ?_
  obtain ⟨f_3, ef_3⟩ : ∃ z : Nat → va_E, z = va_up f_2 q_4 (.inl (G.2 1, 64, .inl (fun _ => 0))) := ⟨_, rfl⟩
  obtain ⟨L_3, eL_3⟩ : ∃ z : List Nat, z = L_1 ++ [q_4] := ⟨_, rfl⟩
  rw [← ef_3, ← eL_3] at hP hD
  have hq0 : Lk L_3 f_3 q (.inr (1, [.ref q_1, .null, .int 0])) := by rw [ef_3, eL_3]; exact Lk.push hq0 hq_5
  have t_1 : Lk L_3 f_3 q_1 (.inl (G.2 2, 60, .inr (.inr (.inr (.inr (fun _ => none)))))) := by rw [ef_3, eL_3]; exact Lk.push t_1 hq_5
  have t_2 : Lk L_3 f_3 q_4 (.inl (G.2 1, 64, .inl (fun _ => 0))) := by rw [ef_3, eL_3]; exact Lk.new
  have hkp : Kp (fun a => a = q) L f (L_3, f_3) := by rw [ef_3, eL_3]; exact hkp.push hq_5
  refine xw_putF (D := G.1) (ci := 1) (v := .ref q_4) (ty := .array .boolean) (C := R_Cb) (T := T_Cb) (N := 3) (fs' := [.ref q_1, .ref q_4, .int 0]) hx hb hA in_Cb ty_Cb tyok_Cb nm_Cb hown hK.1 hP hD hS hq0 rfl 1 (by decide) (hA _ kw_23) (fun _ h9 => h9) rfl hin rfl (by decide +kernel) rfl rfl (Nat.le_of_ble_eq_true rfl) d_Cb_init_18 rfl (fun H locs hP hD hS => ?_)
  have n_6 : q_1 ≠ q := Ne.symm (Lk.neOA hq0 t_1)
  have n_7 : q_4 ≠ q := Ne.symm (Lk.neOA hq0 t_2)
  obtain ⟨f_4, ef_4⟩ : ∃ z : Nat → va_E, z = va_up f_3 q (.inr (1, [.ref q_1, .ref q_4, .int 0])) := ⟨_, rfl⟩
  rw [← ef_4] at hP hD
  have t_1 : Lk L_3 f_4 q_1 (.inl (G.2 2, 60, .inr (.inr (.inr (.inr (fun _ => none)))))) := by rw [ef_4]; exact Lk.up t_1 n_6
  have t_2 : Lk L_3 f_4 q_4 (.inl (G.2 1, 64, .inl (fun _ => 0))) := by rw [ef_4]; exact Lk.up t_2 n_7
  have hq0 : Lk L_3 f_4 q (.inr (1, [.ref q_1, .ref q_4, .int 0])) := by rw [ef_4]; exact Lk.set hq0
  have hkp : Kp (fun a => a = q) L f (L_3, f_4) := by rw [ef_4]; exact hkp.up rfl
  refine lv_aload_n hx hb d_Cb_init_21 rfl (lv_at hl 0 rfl) ?_
  refine lv_iconst (v := nI 0) hx hb d_Cb_init_22 (by decide) ?_
  refine xw_put (D := G.1) (ci := 1) (v := .int (nI 0)) (ty := .int) (C := R_Cb) (T := T_Cb) (N := 3) (fs' := [.ref q_1, .ref q_4, .int (nI 0)]) hx hb hA in_Cb ty_Cb tyok_Cb nm_Cb hown hK.1 hP hD hS hq0 rfl 2 (by decide) (hA _ kw_24) (fun _ h9 => h9) rfl (by decide +kernel) rfl rfl (Nat.le_of_ble_eq_true rfl) d_Cb_init_23 rfl (fun H locs hP hD hS => ?_)
  have n_8 : q_1 ≠ q := Ne.symm (Lk.neOA hq0 t_1)
  have n_9 : q_4 ≠ q := Ne.symm (Lk.neOA hq0 t_2)
  obtain ⟨f_5, ef_5⟩ : ∃ z : Nat → va_E, z = va_up f_4 q (.inr (1, [.ref q_1, .ref q_4, .int (nI 0)])) := ⟨_, rfl⟩
  rw [← ef_5] at hP hD
  have t_1 : Lk L_3 f_5 q_1 (.inl (G.2 2, 60, .inr (.inr (.inr (.inr (fun _ => none)))))) := by rw [ef_5]; exact Lk.up t_1 n_8
  have t_2 : Lk L_3 f_5 q_4 (.inl (G.2 1, 64, .inl (fun _ => 0))) := by rw [ef_5]; exact Lk.up t_2 n_9
  have hq0 : Lk L_3 f_5 q (.inr (1, [.ref q_1, .ref q_4, .int (nI 0)])) := by rw [ef_5]; exact Lk.set hq0
  have hkp : Kp (fun a => a = q) L f (L_3, f_5) := by rw [ef_5]; exact hkp.up rfl
  exact W.vret hx hb hr (fun t9 h9t h9W => ⟨⟨(L_3, f_5), rfl, ⟨hkp, q_1, q_4, hq0, t_1, t_2⟩, by rw [h9t]; exact hP, hD⟩, hS.F h9t⟩) hS.2.2 d_Cb_init_26

set_option maxHeartbeats 4000000 in
set_option maxRecDepth 100000 in
/-- RuleBook() -/
theorem c_Rb_init (l : Launch) (G : GG) (L : List Nat) (f : Nat → va_E) (sz : Nat) (hN : L.Nodup) {q : Nat} (hq0 : Lk L f q (.inr (3, [.null, .int 0]))) : Met l y_Rb_init (.code y_Rb_init b_Rb_init 1 none :: AW) (RW 1 1 20) (va_Pc [.ref q] (PZ G L f sz)) (va_Qv (fun u => Kp (fun a => a = q) L f u ∧ ∃ z1, Lk u.1 u.2 q (.inr (3, [.ref z1, .int (nI 0)])) ∧ Lk u.1 u.2 z1 (.inl (G.2 3, 20, .inr (.inr (.inr (.inr (fun _ => none))))))) (BZ G (Am L sz)) (Am L sz)) 1 20 (Am L sz) := by
  refine Met.ofW (cc := b_Rb_init) (maxL := 1) (ret := none) (by decide) rfl ?_
  intro p e s m args below meth c s₁ B hml hv
  obtain ⟨rfl, hsz, hP, hK⟩ := hv
  have hx := B.exec
  have hb := B.bytes
  have hr := B.returns
  have hA : ∀ w ∈ AW, w.before _ s = true := fun w h => atoms_spec (ws := (.code y_Rb_init b_Rb_init 1 none :: AW)) B.pre w (List.mem_cons_of_mem _ h)
  have hown : s.vm.findClass R_Rb = some m.cls := findClass_of_methodNamed B.named
  have hlocks := B.notSynchronized
  have hin : meth.name = "<init>" := (name_of_methodNamed B.named B.method).1
  subst hsz
  have hD : va_D (Am L s.heap.size) (va_pl L f) := pl_D hN (fun _ h => Or.inl h)
  have hA0 : ∀ q, s.heap.size ≤ q → Am L s.heap.size q := fun q h => Or.inr h
  generalize Am L s.heap.size = A at hD hA0 ⊢
  have hS : va_S A s.heap s.heap [] := va_S.rf
  have hkp : Kp (fun a => a = q) L f (L, f) := Kp.rf
  have hl := lv_entry ([.ref q]) (n := 1) (Nat.le_of_ble_eq_true rfl)
  rw [lg_entry_eq]
  generalize (lg_sl ([.ref q]) ++ List.replicate (1 - (lg_sl ([.ref q])).length) Slot.unset).toArray = ls at hl ⊢
  have hl : lv_has ls 1 [(0, .ref q)] := hl
  refine lv_aload_n hx hb d_Rb_init_0 rfl (lv_at hl 0 rfl) ?_
  refine W.objInit hx hb hown (hA _ kw_121) (hA _ kw_109) (hA _ kw_110) rfl (by rw [hml]; exact hl.1) rfl d_Rb_init_1 (Nat.le_of_ble_eq_true rfl) (Nat.le_of_ble_eq_true rfl) ?_
  refine W.eq (g2 := F0 m 4 ls []) rfl ?_
  refine lv_aload_n hx hb d_Rb_init_4 rfl (lv_at hl 0 rfl) ?_
  refine lv_bipush (v := nI 20) hx hb d_Rb_init_5 (by decide) ?_
  refine xw_newq (C := "RightDesk$Rule") hx hb hown (hA _ kw_122) hK.2.2.2 hK.1 hP hD hS hA0 3 rfl (by decide) (show (nI 20).toNatClampNeg = 20 by decide) (by decide) (Nat.le_of_ble_eq_true rfl) (Nat.le_of_ble_eq_true rfl) d_Rb_init_7 (fun q_1 H hq_2 hP hD hS => ?_)
  refine W.widen (k := 1) (n := 20) (by omega) (by omega) ?_
  obtain ⟨f_1, ef_1⟩ : ∃ z : Nat → va_E, z = va_up f q_1 (.inl (G.2 3, 20, .inr (.inr (.inr (.inr (fun _ => none)))))) := ⟨_, rfl⟩
  obtain ⟨L_1, eL_1⟩ : ∃ z : List Nat, z = L ++ [q_1] := ⟨_, rfl⟩
  rw [← ef_1, ← eL_1] at hP hD
  have hq0 : Lk L_1 f_1 q (.inr (3, [.null, .int 0])) := by rw [ef_1, eL_1]; exact Lk.push hq0 hq_2
  have t_1 : Lk L_1 f_1 q_1 (.inl (G.2 3, 20, .inr (.inr (.inr (.inr (fun _ => none)))))) := by rw [ef_1, eL_1]; exact Lk.new
  have hkp : Kp (fun a => a = q) L f (L_1, f_1) := by rw [ef_1, eL_1]; exact hkp.push hq_2
  refine xw_putF (D := G.1) (ci := 3) (v := .ref q_1) (ty := .array (.object "RightDesk$Rule")) (C := R_Rb) (T := T_Rb) (N := 2) (fs' := [.ref q_1, .int 0]) hx hb hA in_Rb ty_Rb tyok_Rb nm_Rb hown hK.1 hP hD hS hq0 rfl 0 (by decide) (hA _ kw_8) (fun _ h9 => h9) rfl hin rfl (by decide +kernel) rfl rfl (Nat.le_of_ble_eq_true rfl) d_Rb_init_10 rfl (fun H locs hP hD hS => ?_)
  have n_3 : q_1 ≠ q := Ne.symm (Lk.neOA hq0 t_1)
  obtain ⟨f_2, ef_2⟩ : ∃ z : Nat → va_E, z = va_up f_1 q (.inr (3, [.ref q_1, .int 0])) := ⟨_, rfl⟩
  rw [← ef_2] at hP hD
  have t_1 : Lk L_1 f_2 q_1 (.inl (G.2 3, 20, .inr (.inr (.inr (.inr (fun _ => none)))))) := by rw [ef_2]; exact Lk.up t_1 n_3
  have hq0 : Lk L_1 f_2 q (.inr (3, [.ref q_1, .int 0])) := by rw [ef_2]; exact Lk.set hq0
  have hkp : Kp (fun a => a = q) L f (L_1, f_2) := by rw [ef_2]; exact hkp.up rfl
  refine lv_aload_n hx hb d_Rb_init_13 rfl (lv_at hl 0 rfl) ?_
  refine lv_iconst (v := nI 0) hx hb d_Rb_init_14 (by decide) ?_
  refine xw_put (D := G.1) (ci := 3) (v := .int (nI 0)) (ty := .int) (C := R_Rb) (T := T_Rb) (N := 2) (fs' := [.ref q_1, .int (nI 0)]) hx hb hA in_Rb ty_Rb tyok_Rb nm_Rb hown hK.1 hP hD hS hq0 rfl 1 (by decide) (hA _ kw_59) (fun _ h9 => h9) rfl (by decide +kernel) rfl rfl (Nat.le_of_ble_eq_true rfl) d_Rb_init_15 rfl (fun H locs hP hD hS => ?_)
  have n_4 : q_1 ≠ q := Ne.symm (Lk.neOA hq0 t_1)
  obtain ⟨f_3, ef_3⟩ : ∃ z : Nat → va_E, z = va_up f_2 q (.inr (3, [.ref q_1, .int (nI 0)])) := ⟨_, rfl⟩
  rw [← ef_3] at hP hD
  have t_1 : Lk L_1 f_3 q_1 (.inl (G.2 3, 20, .inr (.inr (.inr (.inr (fun _ => none)))))) := by rw [ef_3]; exact Lk.up t_1 n_4
  have hq0 : Lk L_1 f_3 q (.inr (3, [.ref q_1, .int (nI 0)])) := by rw [ef_3]; exact Lk.set hq0
  have hkp : Kp (fun a => a = q) L f (L_1, f_3) := by rw [ef_3]; exact hkp.up rfl
  exact W.vret hx hb hr (fun t9 h9t h9W => ⟨⟨(L_1, f_3), rfl, ⟨hkp, q_1, hq0, t_1⟩, by rw [h9t]; exact hP, hD⟩, hS.F h9t⟩) hS.2.2 d_Rb_init_18

set_option maxHeartbeats 4000000 in
set_option maxRecDepth 100000 in
/-- Condition.setWord -/
theorem c_Co_setWord (l : Launch) (G : GG) (L : List Nat) (f : Nat → va_E) (sz : Nat) (hN : L.Nodup) {k0 k1 k2 k3 : Int32} {a aw : Nat} {ww : Nat → Int64} (hc : Lk L f a (.inr (0, [.int k0, .int k1, .int k2, .int k3, .ref aw]))) (hw0 : Lk L f aw (.inl (G.2 0, 96, .inr (.inl ww)))) (i : Nat) (hi : i < 96) (v : Int64) : Met l y_Co_setWord (.code y_Co_setWord b_Co_setWord 4 none :: AW) (RW 1 0 0) (va_Pc [.ref a, .int (nI i), .long v] (PZ G L f sz)) (va_Qv (fun u => u.1 = L ∧ u.2 = va_up f aw (.inl (G.2 0, 96, .inr (.inl (vp_updL ww i v))))) (BZ G (Am L sz)) (Am L sz)) 0 0 (Am L sz) := by
  refine Met.ofW (cc := b_Co_setWord) (maxL := 4) (ret := none) (by decide) rfl ?_
  intro p e s m args below meth c s₁ B hml hv
  obtain ⟨rfl, hsz, hP, hK⟩ := hv
  have hx := B.exec
  have hb := B.bytes
  have hr := B.returns
  have hA : ∀ w ∈ AW, w.before _ s = true := fun w h => atoms_spec (ws := (.code y_Co_setWord b_Co_setWord 4 none :: AW)) B.pre w (List.mem_cons_of_mem _ h)
  have hown : s.vm.findClass R_Co = some m.cls := findClass_of_methodNamed B.named
  have hlocks := B.notSynchronized
  subst hsz
  have hD : va_D (Am L s.heap.size) (va_pl L f) := pl_D hN (fun _ h => Or.inl h)
  have hA0 : ∀ q, s.heap.size ≤ q → Am L s.heap.size q := fun q h => Or.inr h
  generalize Am L s.heap.size = A at hD hA0 ⊢
  have hS : va_S A s.heap s.heap [] := va_S.rf
  have hkp : Kp (fun a => a = aw) L f (L, f) := Kp.rf
  have hl := lv_entry ([.ref a, .int (nI i), .long v]) (n := 4) (Nat.le_of_ble_eq_true rfl)
  rw [lg_entry_eq]
  generalize (lg_sl ([.ref a, .int (nI i), .long v]) ++ List.replicate (4 - (lg_sl ([.ref a, .int (nI i), .long v])).length) Slot.unset).toArray = ls at hl ⊢
  have hl : lv_has ls 4 [(0, .ref a), (1, .int (nI i)), (2, .long v)] := hl
  refine lv_iload_n hx hb d_Co_setWord_0 rfl (lv_at hl 1 rfl) ?_
  refine lv_aload_n hx hb d_Co_setWord_1 rfl (lv_at hl 0 rfl) ?_
  refine va_get (D := G.1) (ci := 0) (v := .ref aw) (C := R_Co) (T := T_Co) (N := 5) hx hb hA in_Co hown hK.1 (pl_o hP hc) 0 rfl rfl 4 (by decide) (hA _ kw_3) (fun _ h9 => h9) rfl d_Co_setWord_2 ?_
  refine va_alen (v := nI 96) hx hb hK.1 (pl_o hP hw0) 0 0 rfl rfl rfl d_Co_setWord_5 ?_
  refine vp_callSi (va_Run.run (va_runSN (As := [.int (nI i), .int (nI 96)]) (rest := []) ⟨hx, hb, hml, hown, hA⟩ (c_isBelow l G L f (nI i) (nI 96)) ⟨va_cnB 2 hA (gAW kw_4) rfl rfl rfl (hK.2.1 _ kz_0) (hA _ kw_5) (by decide +kernel) ⟨Nat.le_of_ble_eq_true rfl, Nat.le_of_ble_eq_true rfl⟩, (hA _ kw_6), trivial⟩ (pw_preS hP hK) rfl rfl hl.1 rfl (lv_room (Nat.le_of_ble_eq_true rfl)) d_Co_setWord_6 ⟨Nat.zero_le _, Nat.zero_le _⟩)) (fun r_1 e_2 => ?_)
  subst e_2
  refine lv_if_eq (tgt := 19) hx hb d_Co_setWord_9 (by decide) (fun c9 => absurd c9 (by rw [blw_nI (by decide) (by omega), decide_eq_true hi]; decide)) (fun _ => ?_)
  refine lv_aload_n hx hb d_Co_setWord_12 rfl (lv_at hl 0 rfl) ?_
  refine va_get (D := G.1) (ci := 0) (v := .ref aw) (C := R_Co) (T := T_Co) (N := 5) hx hb hA in_Co hown hK.1 (pl_o hP hc) 0 rfl rfl 4 (by decide) (hA _ kw_3) (fun _ h9 => h9) rfl d_Co_setWord_13 ?_
  refine lv_iload_n hx hb d_Co_setWord_16 rfl (lv_at hl 1 rfl) ?_
  refine lv_lload_n hx hb d_Co_setWord_17 rfl (lv_at hl 2 rfl) ?_
  refine xw_last hx hb hK.1 hP hD hS 0 hw0 rfl (i := i) (x := v) hi (by decide) d_Co_setWord_18 (fun H locs hP hD hS => ?_)
  have n_3 : a ≠ aw := Lk.neOA hc hw0
  obtain ⟨f_1, ef_1⟩ : ∃ z : Nat → va_E, z = va_up f aw (.inl (G.2 0, 96, .inr (.inl (vp_updL ww i v)))) := ⟨_, rfl⟩
  rw [← ef_1] at hP hD
  have hc : Lk L f_1 a (.inr (0, [.int k0, .int k1, .int k2, .int k3, .ref aw])) := by rw [ef_1]; exact Lk.up hc n_3
  have hw0 : Lk L f_1 aw (.inl (G.2 0, 96, .inr (.inl (vp_updL ww i v)))) := by rw [ef_1]; exact Lk.set hw0
  have hkp : Kp (fun a => a = aw) L f (L, f_1) := by rw [ef_1]; exact hkp.up rfl
  exact W.vret hx hb hr (fun t9 h9t h9W => ⟨⟨(L, f_1), rfl, ⟨rfl, ef_1⟩, by rw [h9t]; exact hP, hD⟩, hS.F h9t⟩) hS.2.2 d_Co_setWord_19

set_option maxHeartbeats 4000000 in
set_option maxRecDepth 100000 in
/-- RightDesk() -/
theorem c_De_init (l : Launch) (G : GG) (L : List Nat) (f : Nat → va_E) (sz : Nat) (hN : L.Nodup) {q : Nat} (hq0 : Lk L f q (.inr (4, [.null, .null]))) : Met l y_De_init (.code y_De_init b_De_init 1 none :: AW) (RW 2 5 149) (va_Pc [.ref q] (PZ G L f sz)) (va_Qv (fun u => Kp (fun a => a = q) L f u ∧ ∃ cb mA gA rb rA, Lk u.1 u.2 q (.inr (4, [.ref cb, .ref rb])) ∧ Lk u.1 u.2 cb (.inr (1, [.ref mA, .ref gA, .int (nI 0)])) ∧ Lk u.1 u.2 mA (.inl (G.2 2, 60, .inr (.inr (.inr (.inr (fun _ => none)))))) ∧ Lk u.1 u.2 gA (.inl (G.2 1, 64, .inl (fun _ => 0))) ∧ Lk u.1 u.2 rb (.inr (3, [.ref rA, .int (nI 0)])) ∧ Lk u.1 u.2 rA (.inl (G.2 3, 20, .inr (.inr (.inr (.inr (fun _ => none))))))) (BZ G (Am L sz)) (Am L sz)) 5 149 (Am L sz) := by
  refine Met.ofW (cc := b_De_init) (maxL := 1) (ret := none) (by decide) rfl ?_
  intro p e s m args below meth c s₁ B hml hv
  obtain ⟨rfl, hsz, hP, hK⟩ := hv
  have hx := B.exec
  have hb := B.bytes
  have hr := B.returns
  have hA : ∀ w ∈ AW, w.before _ s = true := fun w h => atoms_spec (ws := (.code y_De_init b_De_init 1 none :: AW)) B.pre w (List.mem_cons_of_mem _ h)
  have hown : s.vm.findClass R_De = some m.cls := findClass_of_methodNamed B.named
  have hlocks := B.notSynchronized
  have hin : meth.name = "<init>" := (name_of_methodNamed B.named B.method).1
  subst hsz
  have hD : va_D (Am L s.heap.size) (va_pl L f) := pl_D hN (fun _ h => Or.inl h)
  have hA0 : ∀ q, s.heap.size ≤ q → Am L s.heap.size q := fun q h => Or.inr h
  generalize Am L s.heap.size = A at hD hA0 ⊢
  have hS : va_S A s.heap s.heap [] := va_S.rf
  have hkp : Kp (fun a => a = q) L f (L, f) := Kp.rf
  have hl := lv_entry ([.ref q]) (n := 1) (Nat.le_of_ble_eq_true rfl)
  rw [lg_entry_eq]
  generalize (lg_sl ([.ref q]) ++ List.replicate (1 - (lg_sl ([.ref q])).length) Slot.unset).toArray = ls at hl ⊢
  have hl : lv_has ls 1 [(0, .ref q)] := hl
  refine lv_aload_n hx hb d_De_init_0 rfl (lv_at hl 0 rfl) ?_
  refine W.objInit hx hb hown (hA _ kw_123) (hA _ kw_109) (hA _ kw_110) rfl (by rw [hml]; exact hl.1) rfl d_De_init_1 (Nat.le_of_ble_eq_true rfl) (Nat.le_of_ble_eq_true rfl) ?_
  refine W.eq (g2 := F0 m 4 ls []) rfl ?_
  refine lv_aload_n hx hb d_De_init_4 rfl (lv_at hl 0 rfl) ?_
  refine xw_new (D := G.1) (ci := 1) (fs := [.null, .null, .int 0]) (C := R_Cb) (T := T_Cb) (N := 3) hx hb hA in_Cb ty_Cb tyok_Cb hown (hA _ kw_124) (hA _ kw_125) (hA _ kw_19) hK.1 hP hD hS hA0 rfl (fun j hj => by rcases (show j = 0 ∨ j = 1 ∨ j = 2 by omega) with rfl | rfl | rfl <;> rfl) (Nat.le_of_ble_eq_true rfl) (Nat.le_of_ble_eq_true rfl) d_De_init_5 (fun q_1 H hq_2 hP hD hS => ?_)
  refine W.widen (k := 1) (n := 3) (by omega) (by omega) ?_
  obtain ⟨f_1, ef_1⟩ : ∃ z : Nat → va_E, z = va_up f q_1 (.inr (1, [.null, .null, .int 0])) := ⟨_, rfl⟩
  obtain ⟨L_1, eL_1⟩ : ∃ z : List Nat, z = L ++ [q_1] := ⟨_, rfl⟩
  rw [← ef_1, ← eL_1] at hP hD
  have hq0 : Lk L_1 f_1 q (.inr (4, [.null, .null])) := by rw [ef_1, eL_1]; exact Lk.push hq0 hq_2
  have t_1 : Lk L_1 f_1 q_1 (.inr (1, [.null, .null, .int 0])) := by rw [ef_1, eL_1]; exact Lk.new
  have hkp : Kp (fun a => a = q) L f (L_1, f_1) := by rw [ef_1, eL_1]; exact hkp.push hq_2
  have hqn1 : q_1 ∉ L := hq_2
  refine lv_dup hx hb d_De_init_8 rfl ?_
  have hFc := am_free hD hS hA0
  refine va_callv (va_runIN (As := []) (rest := [.ref q_1, .ref q]) ⟨hx, hb, hml, hown, hA⟩ (c_Cb_init l G L_1 f_1 H.size (pl_nd hD) t_1) ⟨va_cnB 0 hA (gAW kw_126) rfl rfl rfl (hK.2.1 _ kz_27) (hA _ kw_19) (by decide +kernel) ⟨Nat.le_of_ble_eq_true rfl, Nat.le_of_ble_eq_true rfl⟩, rfl, (hA _ kw_127)⟩ (pz_preS hP hK) rfl rfl hl.1 rfl (lv_room (Nat.le_of_ble_eq_true rfl)) d_De_init_9 ⟨Nat.le_of_ble_eq_true rfl, Nat.le_of_ble_eq_true rfl⟩) hS (fun q _ h => hFc q h) hFc (fun u9 t9 H1 locs ht9 hvm hw hWB hz1 hk1 hS => ?_)
  obtain ⟨L_2, f_2⟩ := u9
  obtain ⟨hP, hD1⟩ := hWB
  rw [ht9] at hP
  have hD := va_Dw hD1 hFc
  clear hD1 hk1 hz1 hFc ht9 hvm
  generalize H1 = H at hP hS ⊢
  dsimp only at hP hD
  obtain ⟨hk1, mA, gA, a1, a2, a3⟩ := hw
  refine W.widen (k := 3) (n := 127) (by omega) (by omega) ?_
  have n_4 : ¬ q = q_1 := Lk.neOO hq0 t_1 (by decide)
  have hq0 : Lk L_2 f_2 q (.inr (4, [.null, .null])) := hk1.k hq0 n_4
  try dsimp only at a1 a2 a3
  have hkp : Kp (fun a => a = q) L f (L_2, f_2) := hkp.call hk1 (fun a ha e => absurd (e ▸ ha) hqn1)
  refine xw_putF (D := G.1) (ci := 4) (v := .ref q_1) (ty := .object "RightDesk$ConditionBook") (C := R_De) (T := T_De) (N := 2) (fs' := [.ref q_1, .null]) hx hb hA in_De ty_De tyok_De nm_De hown hK.1 hP hD hS hq0 rfl 0 (by decide) (hA _ kw_80) (fun _ h9 => h9) rfl hin rfl (by decide +kernel) rfl rfl (Nat.le_of_ble_eq_true rfl) d_De_init_12 rfl (fun H locs hP hD hS => ?_)
  have n_5 : q_1 ≠ q := Lk.neOO a1 hq0 (by decide)
  have n_6 : mA ≠ q := Ne.symm (Lk.neOA hq0 a2)
  have n_7 : gA ≠ q := Ne.symm (Lk.neOA hq0 a3)
  obtain ⟨f_3, ef_3⟩ : ∃ z : Nat → va_E, z = va_up f_2 q (.inr (4, [.ref q_1, .null])) := ⟨_, rfl⟩
  rw [← ef_3] at hP hD
  have a1 : Lk L_2 f_3 q_1 (.inr (1, [.ref mA, .ref gA, .int (nI 0)])) := by rw [ef_3]; exact Lk.up a1 n_5
  have a2 : Lk L_2 f_3 mA (.inl (G.2 2, 60, .inr (.inr (.inr (.inr (fun _ => none)))))) := by rw [ef_3]; exact Lk.up a2 n_6
  have a3 : Lk L_2 f_3 gA (.inl (G.2 1, 64, .inl (fun _ => 0))) := by rw [ef_3]; exact Lk.up a3 n_7
  have hq0 : Lk L_2 f_3 q (.inr (4, [.ref q_1, .null])) := by rw [ef_3]; exact Lk.set hq0
  have hkp : Kp (fun a => a = q) L f (L_2, f_3) := by rw [ef_3]; exact hkp.up rfl
  refine lv_aload_n hx hb d_De_init_15 rfl (lv_at hl 0 rfl) ?_
  have hkq := hkp
  refine xw_new (D := G.1) (ci := 3) (fs := [.null, .int 0]) (C := R_Rb) (T := T_Rb) (N := 2) hx hb hA in_Rb ty_Rb tyok_Rb hown (hA _ kw_128) (hA _ kw_129) (hA _ kw_48) hK.1 hP hD hS hA0 rfl (fun j hj => by rcases (show j = 0 ∨ j = 1 by omega) with rfl | rfl <;> rfl) (Nat.le_of_ble_eq_true rfl) (Nat.le_of_ble_eq_true rfl) d_De_init_16 (fun q_8 H hq_9 hP hD hS => ?_)
  refine W.widen (k := 4) (n := 129) (by omega) (by omega) ?_
  obtain ⟨f_4, ef_4⟩ : ∃ z : Nat → va_E, z = va_up f_3 q_8 (.inr (3, [.null, .int 0])) := ⟨_, rfl⟩
  obtain ⟨L_4, eL_4⟩ : ∃ z : List Nat, z = L_2 ++ [q_8] := ⟨_, rfl⟩
  rw [← ef_4, ← eL_4] at hP hD
  have hq0 : Lk L_4 f_4 q (.inr (4, [.ref q_1, .null])) := by rw [ef_4, eL_4]; exact Lk.push hq0 hq_9
  have a1 : Lk L_4 f_4 q_1 (.inr (1, [.ref mA, .ref gA, .int (nI 0)])) := by rw [ef_4, eL_4]; exact Lk.push a1 hq_9
  have a2 : Lk L_4 f_4 mA (.inl (G.2 2, 60, .inr (.inr (.inr (.inr (fun _ => none)))))) := by rw [ef_4, eL_4]; exact Lk.push a2 hq_9
  have a3 : Lk L_4 f_4 gA (.inl (G.2 1, 64, .inl (fun _ => 0))) := by rw [ef_4, eL_4]; exact Lk.push a3 hq_9
  have t_2 : Lk L_4 f_4 q_8 (.inr (3, [.null, .int 0])) := by rw [ef_4, eL_4]; exact Lk.new
  have hkp : Kp (fun a => a = q) L f (L_4, f_4) := by rw [ef_4, eL_4]; exact hkp.push hq_9
  refine lv_dup hx hb d_De_init_19 rfl ?_
  have hqn2 : ¬ q = q_8 := Lk.neOO hq0 t_2 (by decide)
  have hqn3 : q_8 ∉ L := hkq.notin hq_9 (fun e => hqn2 e.symm)
  have n_10 : ¬ q = q_8 := Lk.neOO hq0 t_2 (by decide)
  have n_11 : ¬ q_1 = q_8 := Lk.neOO a1 t_2 (by decide)
  have n_12 : ¬ mA = q_8 := Ne.symm (Lk.neOA t_2 a2)
  have n_13 : ¬ gA = q_8 := Ne.symm (Lk.neOA t_2 a3)
  have hFc := am_free hD hS hA0
  refine va_callv (va_runIN (As := []) (rest := [.ref q_8, .ref q]) ⟨hx, hb, hml, hown, hA⟩ (c_Rb_init l G L_4 f_4 H.size (pl_nd hD) t_2) ⟨va_cnB 0 hA (gAW kw_130) rfl rfl rfl (hK.2.1 _ kz_28) (hA _ kw_48) (by decide +kernel) ⟨Nat.le_of_ble_eq_true rfl, Nat.le_of_ble_eq_true rfl⟩, rfl, (hA _ kw_131)⟩ (pz_preS hP hK) rfl rfl hl.1 rfl (lv_room (Nat.le_of_ble_eq_true rfl)) d_De_init_20 ⟨Nat.le_of_ble_eq_true rfl, Nat.le_of_ble_eq_true rfl⟩) hS (fun q _ h => hFc q h) hFc (fun u9 t9 H1 locs ht9 hvm hw hWB hz1 hk1 hS => ?_)
  obtain ⟨L_5, f_5⟩ := u9
  obtain ⟨hP, hD1⟩ := hWB
  rw [ht9] at hP
  have hD := va_Dw hD1 hFc
  clear hD1 hk1 hz1 hFc ht9 hvm
  generalize H1 = H at hP hS ⊢
  dsimp only at hP hD
  obtain ⟨hk2, rA, b1, b2⟩ := hw
  refine W.widen (k := 5) (n := 149) (by omega) (by omega) ?_
  have hq0 : Lk L_5 f_5 q (.inr (4, [.ref q_1, .null])) := hk2.k hq0 n_10
  have a1 : Lk L_5 f_5 q_1 (.inr (1, [.ref mA, .ref gA, .int (nI 0)])) := hk2.k a1 n_11
  have a2 : Lk L_5 f_5 mA (.inl (G.2 2, 60, .inr (.inr (.inr (.inr (fun _ => none)))))) := hk2.k a2 n_12
  have a3 : Lk L_5 f_5 gA (.inl (G.2 1, 64, .inl (fun _ => 0))) := hk2.k a3 n_13
  try dsimp only at b1 b2
  have hkp : Kp (fun a => a = q) L f (L_5, f_5) := hkp.call hk2 (fun a ha e => absurd (e ▸ ha) hqn3)
  refine xw_putF (D := G.1) (ci := 4) (v := .ref q_8) (ty := .object "RightDesk$RuleBook") (C := R_De) (T := T_De) (N := 2) (fs' := [.ref q_1, .ref q_8]) hx hb hA in_De ty_De tyok_De nm_De hown hK.1 hP hD hS hq0 rfl 1 (by decide) (hA _ kw_81) (fun _ h9 => h9) rfl hin rfl (by decide +kernel) rfl rfl (Nat.le_of_ble_eq_true rfl) d_De_init_23 rfl (fun H locs hP hD hS => ?_)
  have n_15 : q_1 ≠ q := Lk.neOO a1 hq0 (by decide)
  have n_16 : q_8 ≠ q := Lk.neOO b1 hq0 (by decide)
  have n_17 : mA ≠ q := Ne.symm (Lk.neOA hq0 a2)
  have n_18 : gA ≠ q := Ne.symm (Lk.neOA hq0 a3)
  have n_19 : rA ≠ q := Ne.symm (Lk.neOA hq0 b2)
  obtain ⟨f_6, ef_6⟩ : ∃ z : Nat → va_E, z = va_up f_5 q (.inr (4, [.ref q_1, .ref q_8])) := ⟨_, rfl⟩
  rw [← ef_6] at hP hD
  have a1 : Lk L_5 f_6 q_1 (.inr (1, [.ref mA, .ref gA, .int (nI 0)])) := by rw [ef_6]; exact Lk.up a1 n_15
  have b1 : Lk L_5 f_6 q_8 (.inr (3, [.ref rA, .int (nI 0)])) := by rw [ef_6]; exact Lk.up b1 n_16
  have a2 : Lk L_5 f_6 mA (.inl (G.2 2, 60, .inr (.inr (.inr (.inr (fun _ => none)))))) := by rw [ef_6]; exact Lk.up a2 n_17
  have a3 : Lk L_5 f_6 gA (.inl (G.2 1, 64, .inl (fun _ => 0))) := by rw [ef_6]; exact Lk.up a3 n_18
  have b2 : Lk L_5 f_6 rA (.inl (G.2 3, 20, .inr (.inr (.inr (.inr (fun _ => none)))))) := by rw [ef_6]; exact Lk.up b2 n_19
  have hq0 : Lk L_5 f_6 q (.inr (4, [.ref q_1, .ref q_8])) := by rw [ef_6]; exact Lk.set hq0
  have hkp : Kp (fun a => a = q) L f (L_5, f_6) := by rw [ef_6]; exact hkp.up rfl
  exact W.vret hx hb hr (fun t9 h9t h9W => ⟨⟨(L_5, f_6), rfl, ⟨hkp, q_1, mA, gA, q_8, rA, hq0, a1, a2, a3, b1, b2⟩, by rw [h9t]; exact hP, hD⟩, hS.F h9t⟩) hS.2.2 d_De_init_26
