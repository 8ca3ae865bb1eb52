set_option maxHeartbeats 4000000 in
set_option maxRecDepth 100000 in
/-- conditions -/
theorem c_Mo_conditions (l : Launch) (G : GG) (L : List Nat) (f : Nat → va_E) (sz : Nat) (hN : L.Nodup) {mo gA kA fA sA tA bA rA dA cA eA cn rn : Nat} {kn : Bool} {gf : Nat → Int32} {kd : Nat → Nat} {ka kb kc bf : Nat → Int32} {rk : Nat → Nat} {dn : Nat → Bool} {rc : Nat → Nat} {xf : Nat → Int32} (hB : MoB G L f mo gA kA fA sA tA bA rA dA cA eA cn rn kn gf kd ka kb kc bf rk dn rc xf) (hX : KnI kn xf bf rk dn rc rn) : Met l y_Mo_conditions (.code y_Mo_conditions b_Mo_conditions 1 (some .int) :: AW) (RW 0 0 0) (va_Pc [.ref mo] (PZ G L f sz)) (va_Qi (fun r z => r = nI cn ∧ z.1 = L ∧ Kp (fun a => moE (f a)) L f z ∧ ∃ kn9 xf9, MoB G L z.2 mo gA kA fA sA tA bA rA dA cA eA cn rn kn9 gf kd ka kb kc bf rk dn rc xf9 ∧ KnI kn9 xf9 bf rk dn rc rn) (BZ G (Am L sz)) (Am L sz)) 0 0 (Am L sz) := by
  refine Met.ofW (cc := b_Mo_conditions) (maxL := 1) (ret := (some .int)) (by decide) rfl ?_
  intro p e s m args below meth c s₁ B hml hv
  obtain ⟨rfl, hsz, hP, hK⟩ := hv
  have hx := B.exec
  have hb := B.bytes
  have hr := B.returns
  have hA : ∀ w ∈ AW, w.before _ s = true := fun w h => atoms_spec (ws := (.code y_Mo_conditions b_Mo_conditions 1 (some .int) :: AW)) B.pre w (List.mem_cons_of_mem _ h)
  have hown : s.vm.findClass R_Mo = some m.cls := findClass_of_methodNamed B.named
  have hlocks := B.notSynchronized
  subst hsz
  have hD : va_D (Am L s.heap.size) (va_pl L f) := pl_D hN (fun _ h => Or.inl h)
  have hA0 : ∀ q, s.heap.size ≤ q → Am L s.heap.size q := fun q h => Or.inr h
  generalize Am L s.heap.size = A at hD hA0 ⊢
  have hS : va_S A s.heap s.heap [] := va_S.rf
  have hkp : Kp (fun a => moE (f a)) L f (L, f) := Kp.rf
  have hl := lv_entry ([.ref mo]) (n := 1) (Nat.le_of_ble_eq_true rfl)
  rw [lg_entry_eq]
  generalize (lg_sl ([.ref mo]) ++ List.replicate (1 - (lg_sl ([.ref mo])).length) Slot.unset).toArray = ls at hl ⊢
  have hl : lv_has ls 1 [(0, .ref mo)] := hl
  have hmo : Lk L f mo (.inr (5, [.int (nI 0), .ref gA, .int (nI cn), .ref kA, .ref fA, .ref sA, .ref tA, .ref bA, .int (nI rn), .ref rA, .ref dA, .ref cA, .ref eA, .int (bI kn)])) := hB.2.2.1
  have hgA : Lk L f gA (.inl (G.2 4, 8, .inl gf)) := hB.2.2.2.1
  have hkA : Lk L f kA (.inl (G.2 4, 60, .inl (fun j => nI (kd j)))) := hB.2.2.2.2.1
  have hfA : Lk L f fA (.inl (G.2 4, 60, .inl ka)) := hB.2.2.2.2.2.1
  have hsA : Lk L f sA (.inl (G.2 4, 60, .inl kb)) := hB.2.2.2.2.2.2.1
  have htA : Lk L f tA (.inl (G.2 4, 60, .inl kc)) := hB.2.2.2.2.2.2.2.1
  have hbA : Lk L f bA (.inl (G.2 4, 11520, .inl bf)) := hB.2.2.2.2.2.2.2.2.1
  have hrA : Lk L f rA (.inl (G.2 4, 20, .inl (fun j => nI (rk j)))) := hB.2.2.2.2.2.2.2.2.2.1
  have hdA : Lk L f dA (.inl (G.2 1, 20, .inl (fun j => bI (dn j)))) := hB.2.2.2.2.2.2.2.2.2.2.1
  have hcA : Lk L f cA (.inl (G.2 4, 20, .inl (fun j => nI (rc j)))) := hB.2.2.2.2.2.2.2.2.2.2.2.1
  have heA : Lk L f eA (.inl (G.2 4, 6144, .inl xf)) := hB.2.2.2.2.2.2.2.2.2.2.2.2.1
  refine lv_aload_n hx hb d_Mo_conditions_0 rfl (lv_at hl 0 rfl) ?_
  refine lv_iconst (v := nI 0) hx hb d_Mo_conditions_1 (by decide) ?_
  refine xw_put (D := G.1) (ci := 5) (v := .int (nI 0)) (ty := .int) (C := R_Mo) (T := T_Mo) (N := 14) (fs' := [.int (nI 0), .ref gA, .int (nI cn), .ref kA, .ref fA, .ref sA, .ref tA, .ref bA, .int (nI rn), .ref rA, .ref dA, .ref cA, .ref eA, .int (bI kn)]) hx hb hA in_Mo ty_Mo tyok_Mo nm_Mo hown hK.1 hP hD hS hmo rfl 0 (by decide) (hA _ kw_223) (fun _ h9 => h9) rfl (by decide +kernel) rfl rfl (Nat.le_of_ble_eq_true rfl) d_Mo_conditions_2 rfl (fun H locs hP hD hS => ?_)
  obtain ⟨f_1, ef_1⟩ : ∃ z : Nat → va_E, z = va_up f mo (.inr (5, [.int (nI 0), .ref gA, .int (nI cn), .ref kA, .ref fA, .ref sA, .ref tA, .ref bA, .int (nI rn), .ref rA, .ref dA, .ref cA, .ref eA, .int (bI kn)])) := ⟨_, rfl⟩
  rw [← ef_1] at hP hD
  have hgA : Lk L f_1 gA (.inl (G.2 4, 8, .inl gf)) := by rw [ef_1]; exact Lk.up hgA (Ne.symm (Lk.neOA hmo hgA))
  have hkA : Lk L f_1 kA (.inl (G.2 4, 60, .inl (fun j => nI (kd j)))) := by rw [ef_1]; exact Lk.up hkA (Ne.symm (Lk.neOA hmo hkA))
  have hfA : Lk L f_1 fA (.inl (G.2 4, 60, .inl ka)) := by rw [ef_1]; exact Lk.up hfA (Ne.symm (Lk.neOA hmo hfA))
  have hsA : Lk L f_1 sA (.inl (G.2 4, 60, .inl kb)) := by rw [ef_1]; exact Lk.up hsA (Ne.symm (Lk.neOA hmo hsA))
  have htA : Lk L f_1 tA (.inl (G.2 4, 60, .inl kc)) := by rw [ef_1]; exact Lk.up htA (Ne.symm (Lk.neOA hmo htA))
  have hbA : Lk L f_1 bA (.inl (G.2 4, 11520, .inl bf)) := by rw [ef_1]; exact Lk.up hbA (Ne.symm (Lk.neOA hmo hbA))
  have hrA : Lk L f_1 rA (.inl (G.2 4, 20, .inl (fun j => nI (rk j)))) := by rw [ef_1]; exact Lk.up hrA (Ne.symm (Lk.neOA hmo hrA))
  have hdA : Lk L f_1 dA (.inl (G.2 1, 20, .inl (fun j => bI (dn j)))) := by rw [ef_1]; exact Lk.up hdA (Ne.symm (Lk.neOA hmo hdA))
  have hcA : Lk L f_1 cA (.inl (G.2 4, 20, .inl (fun j => nI (rc j)))) := by rw [ef_1]; exact Lk.up hcA (Ne.symm (Lk.neOA hmo hcA))
  have heA : Lk L f_1 eA (.inl (G.2 4, 6144, .inl xf)) := by rw [ef_1]; exact Lk.up heA (Ne.symm (Lk.neOA hmo heA))
  have hmo : Lk L f_1 mo (.inr (5, [.int (nI 0), .ref gA, .int (nI cn), .ref kA, .ref fA, .ref sA, .ref tA, .ref bA, .int (nI rn), .ref rA, .ref dA, .ref cA, .ref eA, .int (bI kn)])) := by rw [ef_1]; exact Lk.set hmo
  have hkp : Kp (fun a => moE (f a)) L f (L, f_1) := by rw [ef_1]; exact hkp.up (moE_o hB.2.2.1)
  have hB1 : MoB G L f_1 mo gA kA fA sA tA bA rA dA cA eA cn rn kn gf kd ka kb kc bf rk dn rc xf := ⟨hB.1, hB.2.1, hmo, hgA, hkA, hfA, hsA, htA, hbA, hrA, hdA, hcA, heA, hB.2.2.2.2.2.2.2.2.2.2.2.2.2⟩
  have hc60 := hB.1
  have hr20 := hB.2.1
  refine lv_aload_n hx hb d_Mo_conditions_5 rfl (lv_at hl 0 rfl) ?_
  refine va_get (D := G.1) (ci := 5) (v := .int (nI cn)) (C := R_Mo) (T := T_Mo) (N := 14) hx hb hA in_Mo hown hK.1 (pl_o hP hmo) 0 rfl rfl 2 (by decide) (hA _ kw_170) (fun _ h9 => h9) rfl d_Mo_conditions_6 ?_
  exact W.iret (v := nI cn) hx hb hr (fun t9 h9t h9W => ⟨⟨_, (L, f_1), rfl, ⟨rfl, rfl, hkp, kn, xf, hB1, hX⟩, by rw [h9t]; exact hP, hD⟩, hS.F h9t⟩) hS.2.2 d_Mo_conditions_9

set_option maxHeartbeats 4000000 in
set_option maxRecDepth 100000 in
/-- rules -/
theorem c_Mo_rules (l : Launch) (G : GG) (L : List Nat) (f : Nat → va_E) (sz : Nat) (hN : L.Nodup) {mo gA kA fA sA tA bA rA dA cA eA cn rn : Nat} {kn : Bool} {gf : Nat → Int32} {kd : Nat → Nat} {ka kb kc bf : Nat → Int32} {rk : Nat → Nat} {dn : Nat → Bool} {rc : Nat → Nat} {xf : Nat → Int32} (hB : MoB G L f mo gA kA fA sA tA bA rA dA cA eA cn rn kn gf kd ka kb kc bf rk dn rc xf) (hX : KnI kn xf bf rk dn rc rn) : Met l y_Mo_rules (.code y_Mo_rules b_Mo_rules 1 (some .int) :: AW) (RW 0 0 0) (va_Pc [.ref mo] (PZ G L f sz)) (va_Qi (fun r z => r = nI rn ∧ z.1 = L ∧ Kp (fun a => moE (f a)) L f z ∧ ∃ kn9 xf9, MoB G L z.2 mo gA kA fA sA tA bA rA dA cA eA cn rn kn9 gf kd ka kb kc bf rk dn rc xf9 ∧ KnI kn9 xf9 bf rk dn rc rn) (BZ G (Am L sz)) (Am L sz)) 0 0 (Am L sz) := by
  refine Met.ofW (cc := b_Mo_rules) (maxL := 1) (ret := (some .int)) (by decide) rfl ?_
  intro p e s m args below meth c s₁ B hml hv
  obtain ⟨rfl, hsz, hP, hK⟩ := hv
  have hx := B.exec
  have hb := B.bytes
  have hr := B.returns
  have hA : ∀ w ∈ AW, w.before _ s = true := fun w h => atoms_spec (ws := (.code y_Mo_rules b_Mo_rules 1 (some .int) :: AW)) B.pre w (List.mem_cons_of_mem _ h)
  have hown : s.vm.findClass R_Mo = some m.cls := findClass_of_methodNamed B.named
  have hlocks := B.notSynchronized
  subst hsz
  have hD : va_D (Am L s.heap.size) (va_pl L f) := pl_D hN (fun _ h => Or.inl h)
  have hA0 : ∀ q, s.heap.size ≤ q → Am L s.heap.size q := fun q h => Or.inr h
  generalize Am L s.heap.size = A at hD hA0 ⊢
  have hS : va_S A s.heap s.heap [] := va_S.rf
  have hkp : Kp (fun a => moE (f a)) L f (L, f) := Kp.rf
  have hl := lv_entry ([.ref mo]) (n := 1) (Nat.le_of_ble_eq_true rfl)
  rw [lg_entry_eq]
  generalize (lg_sl ([.ref mo]) ++ List.replicate (1 - (lg_sl ([.ref mo])).length) Slot.unset).toArray = ls at hl ⊢
  have hl : lv_has ls 1 [(0, .ref mo)] := hl
  have hmo : Lk L f mo (.inr (5, [.int (nI 0), .ref gA, .int (nI cn), .ref kA, .ref fA, .ref sA, .ref tA, .ref bA, .int (nI rn), .ref rA, .ref dA, .ref cA, .ref eA, .int (bI kn)])) := hB.2.2.1
  have hgA : Lk L f gA (.inl (G.2 4, 8, .inl gf)) := hB.2.2.2.1
  have hkA : Lk L f kA (.inl (G.2 4, 60, .inl (fun j => nI (kd j)))) := hB.2.2.2.2.1
  have hfA : Lk L f fA (.inl (G.2 4, 60, .inl ka)) := hB.2.2.2.2.2.1
  have hsA : Lk L f sA (.inl (G.2 4, 60, .inl kb)) := hB.2.2.2.2.2.2.1
  have htA : Lk L f tA (.inl (G.2 4, 60, .inl kc)) := hB.2.2.2.2.2.2.2.1
  have hbA : Lk L f bA (.inl (G.2 4, 11520, .inl bf)) := hB.2.2.2.2.2.2.2.2.1
  have hrA : Lk L f rA (.inl (G.2 4, 20, .inl (fun j => nI (rk j)))) := hB.2.2.2.2.2.2.2.2.2.1
  have hdA : Lk L f dA (.inl (G.2 1, 20, .inl (fun j => bI (dn j)))) := hB.2.2.2.2.2.2.2.2.2.2.1
  have hcA : Lk L f cA (.inl (G.2 4, 20, .inl (fun j => nI (rc j)))) := hB.2.2.2.2.2.2.2.2.2.2.2.1
  have heA : Lk L f eA (.inl (G.2 4, 6144, .inl xf)) := hB.2.2.2.2.2.2.2.2.2.2.2.2.1
  refine lv_aload_n hx hb d_Mo_rules_0 rfl (lv_at hl 0 rfl) ?_
  refine lv_iconst (v := nI 0) hx hb d_Mo_rules_1 (by decide) ?_
  refine xw_put (D := G.1) (ci := 5) (v := .int (nI 0)) (ty := .int) (C := R_Mo) (T := T_Mo) (N := 14) (fs' := [.int (nI 0), .ref gA, .int (nI cn), .ref kA, .ref fA, .ref sA, .ref tA, .ref bA, .int (nI rn), .ref rA, .ref dA, .ref cA, .ref eA, .int (bI kn)]) hx hb hA in_Mo ty_Mo tyok_Mo nm_Mo hown hK.1 hP hD hS hmo rfl 0 (by decide) (hA _ kw_223) (fun _ h9 => h9) rfl (by decide +kernel) rfl rfl (Nat.le_of_ble_eq_true rfl) d_Mo_rules_2 rfl (fun H locs hP hD hS => ?_)
  obtain ⟨f_1, ef_1⟩ : ∃ z : Nat → va_E, z = va_up f mo (.inr (5, [.int (nI 0), .ref gA, .int (nI cn), .ref kA, .ref fA, .ref sA, .ref tA, .ref bA, .int (nI rn), .ref rA, .ref dA, .ref cA, .ref eA, .int (bI kn)])) := ⟨_, rfl⟩
  rw [← ef_1] at hP hD
  have hgA : Lk L f_1 gA (.inl (G.2 4, 8, .inl gf)) := by rw [ef_1]; exact Lk.up hgA (Ne.symm (Lk.neOA hmo hgA))
  have hkA : Lk L f_1 kA (.inl (G.2 4, 60, .inl (fun j => nI (kd j)))) := by rw [ef_1]; exact Lk.up hkA (Ne.symm (Lk.neOA hmo hkA))
  have hfA : Lk L f_1 fA (.inl (G.2 4, 60, .inl ka)) := by rw [ef_1]; exact Lk.up hfA (Ne.symm (Lk.neOA hmo hfA))
  have hsA : Lk L f_1 sA (.inl (G.2 4, 60, .inl kb)) := by rw [ef_1]; exact Lk.up hsA (Ne.symm (Lk.neOA hmo hsA))
  have htA : Lk L f_1 tA (.inl (G.2 4, 60, .inl kc)) := by rw [ef_1]; exact Lk.up htA (Ne.symm (Lk.neOA hmo htA))
  have hbA : Lk L f_1 bA (.inl (G.2 4, 11520, .inl bf)) := by rw [ef_1]; exact Lk.up hbA (Ne.symm (Lk.neOA hmo hbA))
  have hrA : Lk L f_1 rA (.inl (G.2 4, 20, .inl (fun j => nI (rk j)))) := by rw [ef_1]; exact Lk.up hrA (Ne.symm (Lk.neOA hmo hrA))
  have hdA : Lk L f_1 dA (.inl (G.2 1, 20, .inl (fun j => bI (dn j)))) := by rw [ef_1]; exact Lk.up hdA (Ne.symm (Lk.neOA hmo hdA))
  have hcA : Lk L f_1 cA (.inl (G.2 4, 20, .inl (fun j => nI (rc j)))) := by rw [ef_1]; exact Lk.up hcA (Ne.symm (Lk.neOA hmo hcA))
  have heA : Lk L f_1 eA (.inl (G.2 4, 6144, .inl xf)) := by rw [ef_1]; exact Lk.up heA (Ne.symm (Lk.neOA hmo heA))
  have hmo : Lk L f_1 mo (.inr (5, [.int (nI 0), .ref gA, .int (nI cn), .ref kA, .ref fA, .ref sA, .ref tA, .ref bA, .int (nI rn), .ref rA, .ref dA, .ref cA, .ref eA, .int (bI kn)])) := by rw [ef_1]; exact Lk.set hmo
  have hkp : Kp (fun a => moE (f a)) L f (L, f_1) := by rw [ef_1]; exact hkp.up (moE_o hB.2.2.1)
  have hB1 : MoB G L f_1 mo gA kA fA sA tA bA rA dA cA eA cn rn kn gf kd ka kb kc bf rk dn rc xf := ⟨hB.1, hB.2.1, hmo, hgA, hkA, hfA, hsA, htA, hbA, hrA, hdA, hcA, heA, hB.2.2.2.2.2.2.2.2.2.2.2.2.2⟩
  have hc60 := hB.1
  have hr20 := hB.2.1
  refine lv_aload_n hx hb d_Mo_rules_5 rfl (lv_at hl 0 rfl) ?_
  refine va_get (D := G.1) (ci := 5) (v := .int (nI rn)) (C := R_Mo) (T := T_Mo) (N := 14) hx hb hA in_Mo hown hK.1 (pl_o hP hmo) 0 rfl rfl 8 (by decide) (hA _ kw_175) (fun _ h9 => h9) rfl d_Mo_rules_6 ?_
  exact W.iret (v := nI rn) hx hb hr (fun t9 h9t h9W => ⟨⟨_, (L, f_1), rfl, ⟨rfl, rfl, hkp, kn, xf, hB1, hX⟩, by rw [h9t]; exact hP, hD⟩, hS.F h9t⟩) hS.2.2 d_Mo_rules_9

set_option maxHeartbeats 4000000 in
set_option maxRecDepth 100000 in
/-- asks -/
theorem c_Mo_asks (l : Launch) (G : GG) (L : List Nat) (f : Nat → va_E) (sz : Nat) (hN : L.Nodup) {mo gA kA fA sA tA bA rA dA cA eA cn rn : Nat} {kn : Bool} {gf : Nat → Int32} {kd : Nat → Nat} {ka kb kc bf : Nat → Int32} {rk : Nat → Nat} {dn : Nat → Bool} {rc : Nat → Nat} {xf : Nat → Int32} (hB : MoB G L f mo gA kA fA sA tA bA rA dA cA eA cn rn kn gf kd ka kb kc bf rk dn rc xf) (hX : KnI kn xf bf rk dn rc rn) (x : Int32) : Met l y_Mo_asks (.code y_Mo_asks b_Mo_asks 4 (some .int) :: AW) (RW 2 0 0) (va_Pc [.ref mo, .int x] (PZ G L f sz)) (va_Qi (fun r z => r = onR (fun t => nI (cnt (mB bf t) 6144)) (inN cn x) ∧ z.1 = L ∧ Kp (fun a => moE (f a)) L f z ∧ ∃ kn9 xf9, MoB G L z.2 mo gA kA fA sA tA bA rA dA cA eA cn rn kn9 gf kd ka kb kc bf rk dn rc xf9 ∧ KnI kn9 xf9 bf rk dn rc rn) (BZ G (Am L sz)) (Am L sz)) 0 0 (Am L sz) := by
  refine Met.ofW (cc := b_Mo_asks) (maxL := 4) (ret := (some .int)) (by decide) rfl ?_
  intro p e s m args below meth c s₁ B hml hv
  obtain ⟨rfl, hsz, hP, hK⟩ := hv
  have hx := B.exec
  have hb := B.bytes
  have hr := B.returns
  have hA : ∀ w ∈ AW, w.before _ s = true := fun w h => atoms_spec (ws := (.code y_Mo_asks b_Mo_asks 4 (some .int) :: AW)) B.pre w (List.mem_cons_of_mem _ h)
  have hown : s.vm.findClass R_Mo = some m.cls := findClass_of_methodNamed B.named
  have hlocks := B.notSynchronized
  subst hsz
  have hD : va_D (Am L s.heap.size) (va_pl L f) := pl_D hN (fun _ h => Or.inl h)
  have hA0 : ∀ q, s.heap.size ≤ q → Am L s.heap.size q := fun q h => Or.inr h
  generalize Am L s.heap.size = A at hD hA0 ⊢
  have hS : va_S A s.heap s.heap [] := va_S.rf
  have hkp : Kp (fun a => moE (f a)) L f (L, f) := Kp.rf
  have hl := lv_entry ([.ref mo, .int x]) (n := 4) (Nat.le_of_ble_eq_true rfl)
  rw [lg_entry_eq]
  generalize (lg_sl ([.ref mo, .int x]) ++ List.replicate (4 - (lg_sl ([.ref mo, .int x])).length) Slot.unset).toArray = ls at hl ⊢
  have hl : lv_has ls 4 [(0, .ref mo), (1, .int x)] := hl
  have hmo : Lk L f mo (.inr (5, [.int (nI 0), .ref gA, .int (nI cn), .ref kA, .ref fA, .ref sA, .ref tA, .ref bA, .int (nI rn), .ref rA, .ref dA, .ref cA, .ref eA, .int (bI kn)])) := hB.2.2.1
  have hgA : Lk L f gA (.inl (G.2 4, 8, .inl gf)) := hB.2.2.2.1
  have hkA : Lk L f kA (.inl (G.2 4, 60, .inl (fun j => nI (kd j)))) := hB.2.2.2.2.1
  have hfA : Lk L f fA (.inl (G.2 4, 60, .inl ka)) := hB.2.2.2.2.2.1
  have hsA : Lk L f sA (.inl (G.2 4, 60, .inl kb)) := hB.2.2.2.2.2.2.1
  have htA : Lk L f tA (.inl (G.2 4, 60, .inl kc)) := hB.2.2.2.2.2.2.2.1
  have hbA : Lk L f bA (.inl (G.2 4, 11520, .inl bf)) := hB.2.2.2.2.2.2.2.2.1
  have hrA : Lk L f rA (.inl (G.2 4, 20, .inl (fun j => nI (rk j)))) := hB.2.2.2.2.2.2.2.2.2.1
  have hdA : Lk L f dA (.inl (G.2 1, 20, .inl (fun j => bI (dn j)))) := hB.2.2.2.2.2.2.2.2.2.2.1
  have hcA : Lk L f cA (.inl (G.2 4, 20, .inl (fun j => nI (rc j)))) := hB.2.2.2.2.2.2.2.2.2.2.2.1
  have heA : Lk L f eA (.inl (G.2 4, 6144, .inl xf)) := hB.2.2.2.2.2.2.2.2.2.2.2.2.1
  refine lv_aload_n hx hb d_Mo_asks_0 rfl (lv_at hl 0 rfl) ?_
  refine lv_iconst (v := nI 0) hx hb d_Mo_asks_1 (by decide) ?_
  refine xw_put (D := G.1) (ci := 5) (v := .int (nI 0)) (ty := .int) (C := R_Mo) (T := T_Mo) (N := 14) (fs' := [.int (nI 0), .ref gA, .int (nI cn), .ref kA, .ref fA, .ref sA, .ref tA, .ref bA, .int (nI rn), .ref rA, .ref dA, .ref cA, .ref eA, .int (bI kn)]) hx hb hA in_Mo ty_Mo tyok_Mo nm_Mo hown hK.1 hP hD hS hmo rfl 0 (by decide) (hA _ kw_223) (fun _ h9 => h9) rfl (by decide +kernel) rfl rfl (Nat.le_of_ble_eq_true rfl) d_Mo_asks_2 rfl (fun H locs hP hD hS => ?_)
  obtain ⟨f_1, ef_1⟩ : ∃ z : Nat → va_E, z = va_up f mo (.inr (5, [.int (nI 0), .ref gA, .int (nI cn), .ref kA, .ref fA, .ref sA, .ref tA, .ref bA, .int (nI rn), .ref rA, .ref dA, .ref cA, .ref eA, .int (bI kn)])) := ⟨_, rfl⟩
  rw [← ef_1] at hP hD
  have hgA : Lk L f_1 gA (.inl (G.2 4, 8, .inl gf)) := by rw [ef_1]; exact Lk.up hgA (Ne.symm (Lk.neOA hmo hgA))
  have hkA : Lk L f_1 kA (.inl (G.2 4, 60, .inl (fun j => nI (kd j)))) := by rw [ef_1]; exact Lk.up hkA (Ne.symm (Lk.neOA hmo hkA))
  have hfA : Lk L f_1 fA (.inl (G.2 4, 60, .inl ka)) := by rw [ef_1]; exact Lk.up hfA (Ne.symm (Lk.neOA hmo hfA))
  have hsA : Lk L f_1 sA (.inl (G.2 4, 60, .inl kb)) := by rw [ef_1]; exact Lk.up hsA (Ne.symm (Lk.neOA hmo hsA))
  have htA : Lk L f_1 tA (.inl (G.2 4, 60, .inl kc)) := by rw [ef_1]; exact Lk.up htA (Ne.symm (Lk.neOA hmo htA))
  have hbA : Lk L f_1 bA (.inl (G.2 4, 11520, .inl bf)) := by rw [ef_1]; exact Lk.up hbA (Ne.symm (Lk.neOA hmo hbA))
  have hrA : Lk L f_1 rA (.inl (G.2 4, 20, .inl (fun j => nI (rk j)))) := by rw [ef_1]; exact Lk.up hrA (Ne.symm (Lk.neOA hmo hrA))
  have hdA : Lk L f_1 dA (.inl (G.2 1, 20, .inl (fun j => bI (dn j)))) := by rw [ef_1]; exact Lk.up hdA (Ne.symm (Lk.neOA hmo hdA))
  have hcA : Lk L f_1 cA (.inl (G.2 4, 20, .inl (fun j => nI (rc j)))) := by rw [ef_1]; exact Lk.up hcA (Ne.symm (Lk.neOA hmo hcA))
  have heA : Lk L f_1 eA (.inl (G.2 4, 6144, .inl xf)) := by rw [ef_1]; exact Lk.up heA (Ne.symm (Lk.neOA hmo heA))
  have hmo : Lk L f_1 mo (.inr (5, [.int (nI 0), .ref gA, .int (nI cn), .ref kA, .ref fA, .ref sA, .ref tA, .ref bA, .int (nI rn), .ref rA, .ref dA, .ref cA, .ref eA, .int (bI kn)])) := by rw [ef_1]; exact Lk.set hmo
  have hkp : Kp (fun a => moE (f a)) L f (L, f_1) := by rw [ef_1]; exact hkp.up (moE_o hB.2.2.1)
  have hB1 : MoB G L f_1 mo gA kA fA sA tA bA rA dA cA eA cn rn kn gf kd ka kb kc bf rk dn rc xf := ⟨hB.1, hB.2.1, hmo, hgA, hkA, hfA, hsA, htA, hbA, hrA, hdA, hcA, heA, hB.2.2.2.2.2.2.2.2.2.2.2.2.2⟩
  have hc60 := hB.1
  have hr20 := hB.2.1
  refine lv_aload_n hx hb d_Mo_asks_5 rfl (lv_at hl 0 rfl) ?_
  refine lv_iload_n hx hb d_Mo_asks_6 rfl (lv_at hl 1 rfl) ?_
  refine vp_callSi (va_Run.run (va_runV (As := [.int x]) (rest := []) ⟨hx, hb, hml, hown, hA⟩ (c_Mo_isC l G L f_1 hB1 x) ⟨callB_of 1 hA (gAW kw_198) rfl rfl rfl (hA _ kw_172) (hA _ kw_199) (by decide +kernel) ⟨Nat.le_of_ble_eq_true rfl, Nat.le_of_ble_eq_true rfl⟩, (hA _ kw_200), (hA _ kw_201)⟩ (pw_preV (ci := 5) hP hK hmo rfl) rfl rfl hl.1 rfl (lv_room (Nat.le_of_ble_eq_true rfl)) d_Mo_asks_7 ⟨Nat.zero_le _, Nat.zero_le _⟩)) (fun r_1 e_2 => ?_)
  subst e_2
  rcases bcase (blw x (nI cn)) with hb_0 | hb_0
  · refine lv_if_ne (tgt := 15) hx hb d_Mo_asks_10 (by decide) (fun c9 => absurd (by rw [hb_0]; rfl) c9) (fun _ => ?_)
    refine lv_iconst (v := (-1)) hx hb d_Mo_asks_13 (by decide) ?_
    exact W.iret (v := (-1)) hx hb hr (fun t9 h9t h9W => ⟨⟨_, (L, f_1), rfl, ⟨by rw [inN_f hb_0]; rfl, rfl, hkp, kn, xf, hB1, hX⟩, by rw [h9t]; exact hP, hD⟩, hS.F h9t⟩) hS.2.2 d_Mo_asks_14
  · refine lv_if_ne (tgt := 15) hx hb d_Mo_asks_10 (by decide) (fun _ => ?_) (fun c9 => absurd c9 (by rw [hb_0]; decide))
    obtain ⟨t, ht, rfl⟩ := blw_of (by omega) hb_0
    refine lv_iconst (v := nI 0) hx hb d_Mo_asks_15 (by decide) ?_
    refine lv_istore_n (lv' := [(2, .int (nI 0)), (0, .ref mo), (1, .int (nI t))]) hx hb d_Mo_asks_16 rfl hl (by decide) rfl (fun ls hl => ?_)
    refine lv_iconst (v := nI 0) hx hb d_Mo_asks_17 (by decide) ?_
    refine lv_istore_n (lv' := [(3, .int (nI 0)), (2, .int (nI 0)), (0, .ref mo), (1, .int (nI t))]) hx hb d_Mo_asks_18 rfl hl (by decide) rfl (fun ls hl => ?_)
    have loop : ∀ (k i : Nat) (ls : Array Slot), i + k = 6144 → lv_has ls 4 [(0, .ref mo), (1, .int (nI t)), (2, .int (nI (cnt (mB bf t) i))), (3, .int (nI i))] → W p l e (headSpec (.code y_Mo_asks b_Mo_asks 4 (some .int) :: AW) (RW 2 0 0)).room s m ([.ref mo, .int (nI t)] : List Value).toArray below meth c H locs 0 0 (MQ below (va_Qi (fun r z => r = onR (fun t => nI (cnt (mB bf t) 6144)) (inN cn (nI t)) ∧ z.1 = L ∧ Kp (fun a => moE (f a)) L f z ∧ ∃ kn9 xf9, MoB G L z.2 mo gA kA fA sA tA bA rA dA cA eA cn rn kn9 gf kd ka kb kc bf rk dn rc xf9 ∧ KnI kn9 xf9 bf rk dn rc rn) (BZ G A) A) ([.ref mo, .int (nI t)] : List Value).toArray s 0 0 A) (F0 m 19 ls []) := by
      intro k
      induction k with
      | zero =>
        intro i  ls hik  hl
        refine lv_iload_n hx hb d_Mo_asks_19 rfl (lv_at hl 3 rfl) ?_
        refine lv_sipush (v := nI 6144) hx hb d_Mo_asks_20 (by decide) ?_
        refine lv_icmp_ge (tgt := 49) hx hb d_Mo_asks_23 (by decide) (fun _ => ?_) (fun c9 => absurd (nI_le (by omega) (by omega)) c9)
        refine lv_iload_n hx hb d_Mo_asks_49 rfl (lv_at hl 2 rfl) ?_
        exact W.iret (v := nI (cnt (mB bf t) i)) hx hb hr (fun t9 h9t h9W => ⟨⟨_, (L, f_1), rfl, ⟨by rw [inN_t ht (by omega), show i = 6144 by omega]; rfl, rfl, hkp, kn, xf, hB1, hX⟩, by rw [h9t]; exact hP, hD⟩, hS.F h9t⟩) hS.2.2 d_Mo_asks_50
      | succ k ih =>
        intro i  ls hik  hl
        refine lv_iload_n hx hb d_Mo_asks_19 rfl (lv_at hl 3 rfl) ?_
        refine lv_sipush (v := nI 6144) hx hb d_Mo_asks_20 (by decide) ?_
        refine lv_icmp_ge (tgt := 49) hx hb d_Mo_asks_23 (by decide) (fun c9 => absurd c9 (nI_ge (by omega) (by omega))) (fun _ => ?_)
        refine lv_iload_n hx hb d_Mo_asks_26 rfl (lv_at hl 2 rfl) ?_
        refine lv_aload_n hx hb d_Mo_asks_27 rfl (lv_at hl 0 rfl) ?_
        refine lv_iload_n hx hb d_Mo_asks_28 rfl (lv_at hl 1 rfl) ?_
        refine lv_iload_n hx hb d_Mo_asks_29 rfl (lv_at hl 3 rfl) ?_
        refine vp_callSi (va_Run.run (va_runV (As := [.int (nI t), .int (nI i)]) (rest := [.int (nI (cnt (mB bf t) i))]) ⟨hx, hb, hml, hown, hA⟩ (c_Mo_holds l G L f_1 hB1 t i (by omega) (by omega)) ⟨callB_of 2 hA (gAW kw_193) rfl rfl rfl (hA _ kw_172) (hA _ kw_194) (by decide +kernel) ⟨Nat.le_of_ble_eq_true rfl, Nat.le_of_ble_eq_true rfl⟩, (hA _ kw_195), (hA _ kw_196)⟩ (pw_preV (ci := 5) hP hK hmo rfl) rfl rfl hl.1 rfl (lv_room (Nat.le_of_ble_eq_true rfl)) d_Mo_asks_30 ⟨Nat.zero_le _, Nat.zero_le _⟩)) (fun r_3 e_4 => ?_)
        subst e_4
        rcases bcase (mB bf t i) with hh | hh
        · refine lv_if_eq (tgt := 40) hx hb d_Mo_asks_33 (by decide) (fun _ => ?_) (fun c9 => absurd (by rw [hh]; rfl) c9)
          refine lv_iconst (v := nI 0) hx hb d_Mo_asks_40 (by decide) ?_
          refine lv_iadd hx hb d_Mo_asks_41 ?_
          refine xv_I (y := nI (cnt (mB bf t) (i + 1))) ((nI_add _ _).trans (congrArg nI (cnt_f hh).symm)) ?_
          refine lv_istore_n (lv' := [(2, .int (nI (cnt (mB bf t) (i + 1)))), (0, .ref mo), (1, .int (nI t)), (3, .int (nI i))]) hx hb d_Mo_asks_42 rfl hl (by decide) rfl (fun ls hl => ?_)
          refine lv_iinc (v := nI (i + 1)) (lv' := [(3, .int (nI (i + 1))), (2, .int (nI (cnt (mB bf t) (i + 1)))), (0, .ref mo), (1, .int (nI t))]) hx hb d_Mo_asks_43 hl (k := 3) rfl (nI_1 i) (by decide) rfl (fun ls hl => ?_)
          refine lv_goto (tgt := 19) hx hb d_Mo_asks_46 (by decide) ?_
          exact ih (i + 1)  ls (by omega)  (lv_sub hl [2, 3, 1, 0] rfl)
        · refine lv_if_eq (tgt := 40) hx hb d_Mo_asks_33 (by decide) (fun c9 => absurd c9 (by rw [hh]; decide)) (fun _ => ?_)
          refine lv_iconst (v := nI 1) hx hb d_Mo_asks_36 (by decide) ?_
          refine lv_goto (tgt := 41) hx hb d_Mo_asks_37 (by decide) ?_
          refine lv_iadd hx hb d_Mo_asks_41 ?_
          refine xv_I (y := nI (cnt (mB bf t) (i + 1))) ((nI_add _ _).trans (congrArg nI (cnt_t hh).symm)) ?_
          refine lv_istore_n (lv' := [(2, .int (nI (cnt (mB bf t) (i + 1)))), (0, .ref mo), (1, .int (nI t)), (3, .int (nI i))]) hx hb d_Mo_asks_42 rfl hl (by decide) rfl (fun ls hl => ?_)
          refine lv_iinc (v := nI (i + 1)) (lv' := [(3, .int (nI (i + 1))), (2, .int (nI (cnt (mB bf t) (i + 1)))), (0, .ref mo), (1, .int (nI t))]) hx hb d_Mo_asks_43 hl (k := 3) rfl (nI_1 i) (by decide) rfl (fun ls hl => ?_)
          refine lv_goto (tgt := 19) hx hb d_Mo_asks_46 (by decide) ?_
          exact ih (i + 1)  ls (by omega)  (lv_sub hl [2, 3, 1, 0] rfl)
    exact loop (6144 - 0) 0  ls (by omega)  (lv_sub hl [2, 3, 1, 0] rfl)

set_option maxHeartbeats 4000000 in
set_option maxRecDepth 100000 in
/-- ask -/
theorem c_Mo_ask (l : Launch) (G : GG) (L : List Nat) (f : Nat → va_E) (sz : Nat) (hN : L.Nodup) {mo gA kA fA sA tA bA rA dA cA eA cn rn : Nat} {kn : Bool} {gf : Nat → Int32} {kd : Nat → Nat} {ka kb kc bf : Nat → Int32} {rk : Nat → Nat} {dn : Nat → Bool} {rc : Nat → Nat} {xf : Nat → Int32} (hB : MoB G L f mo gA kA fA sA tA bA rA dA cA eA cn rn kn gf kd ka kb kc bf rk dn rc xf) (hX : KnI kn xf bf rk dn rc rn) (x y : Int32) : Met l y_Mo_ask (.code y_Mo_ask b_Mo_ask 5 (some .int) :: AW) (RW 2 0 0) (va_Pc [.ref mo, .int x, .int y] (PZ G L f sz)) (va_Qi (fun r z => r = onR (fun t => mAR (mB bf t) y 6144 0) (inN cn x) ∧ z.1 = L ∧ Kp (fun a => moE (f a)) L f z ∧ ∃ kn9 xf9, MoB G L z.2 mo gA kA fA sA tA bA rA dA cA eA cn rn kn9 gf kd ka kb kc bf rk dn rc xf9 ∧ KnI kn9 xf9 bf rk dn rc rn) (BZ G (Am L sz)) (Am L sz)) 0 0 (Am L sz) := by
  refine Met.ofW (cc := b_Mo_ask) (maxL := 5) (ret := (some .int)) (by decide) rfl ?_
  intro p e s m args below meth c s₁ B hml hv
  obtain ⟨rfl, hsz, hP, hK⟩ := hv
  have hx := B.exec
  have hb := B.bytes
  have hr := B.returns
  have hA : ∀ w ∈ AW, w.before _ s = true := fun w h => atoms_spec (ws := (.code y_Mo_ask b_Mo_ask 5 (some .int) :: AW)) B.pre w (List.mem_cons_of_mem _ h)
  have hown : s.vm.findClass R_Mo = some m.cls := findClass_of_methodNamed B.named
  have hlocks := B.notSynchronized
  subst hsz
  have hD : va_D (Am L s.heap.size) (va_pl L f) := pl_D hN (fun _ h => Or.inl h)
  have hA0 : ∀ q, s.heap.size ≤ q → Am L s.heap.size q := fun q h => Or.inr h
  generalize Am L s.heap.size = A at hD hA0 ⊢
  have hS : va_S A s.heap s.heap [] := va_S.rf
  have hkp : Kp (fun a => moE (f a)) L f (L, f) := Kp.rf
  have hl := lv_entry ([.ref mo, .int x, .int y]) (n := 5) (Nat.le_of_ble_eq_true rfl)
  rw [lg_entry_eq]
  generalize (lg_sl ([.ref mo, .int x, .int y]) ++ List.replicate (5 - (lg_sl ([.ref mo, .int x, .int y])).length) Slot.unset).toArray = ls at hl ⊢
  have hl : lv_has ls 5 [(0, .ref mo), (1, .int x), (2, .int y)] := hl
  have hmo : Lk L f mo (.inr (5, [.int (nI 0), .ref gA, .int (nI cn), .ref kA, .ref fA, .ref sA, .ref tA, .ref bA, .int (nI rn), .ref rA, .ref dA, .ref cA, .ref eA, .int (bI kn)])) := hB.2.2.1
  have hgA : Lk L f gA (.inl (G.2 4, 8, .inl gf)) := hB.2.2.2.1
  have hkA : Lk L f kA (.inl (G.2 4, 60, .inl (fun j => nI (kd j)))) := hB.2.2.2.2.1
  have hfA : Lk L f fA (.inl (G.2 4, 60, .inl ka)) := hB.2.2.2.2.2.1
  have hsA : Lk L f sA (.inl (G.2 4, 60, .inl kb)) := hB.2.2.2.2.2.2.1
  have htA : Lk L f tA (.inl (G.2 4, 60, .inl kc)) := hB.2.2.2.2.2.2.2.1
  have hbA : Lk L f bA (.inl (G.2 4, 11520, .inl bf)) := hB.2.2.2.2.2.2.2.2.1
  have hrA : Lk L f rA (.inl (G.2 4, 20, .inl (fun j => nI (rk j)))) := hB.2.2.2.2.2.2.2.2.2.1
  have hdA : Lk L f dA (.inl (G.2 1, 20, .inl (fun j => bI (dn j)))) := hB.2.2.2.2.2.2.2.2.2.2.1
  have hcA : Lk L f cA (.inl (G.2 4, 20, .inl (fun j => nI (rc j)))) := hB.2.2.2.2.2.2.2.2.2.2.2.1
  have heA : Lk L f eA (.inl (G.2 4, 6144, .inl xf)) := hB.2.2.2.2.2.2.2.2.2.2.2.2.1
  refine lv_aload_n hx hb d_Mo_ask_0 rfl (lv_at hl 0 rfl) ?_
  refine lv_iconst (v := nI 0) hx hb d_Mo_ask_1 (by decide) ?_
  refine xw_put (D := G.1) (ci := 5) (v := .int (nI 0)) (ty := .int) (C := R_Mo) (T := T_Mo) (N := 14) (fs' := [.int (nI 0), .ref gA, .int (nI cn), .ref kA, .ref fA, .ref sA, .ref tA, .ref bA, .int (nI rn), .ref rA, .ref dA, .ref cA, .ref eA, .int (bI kn)]) hx hb hA in_Mo ty_Mo tyok_Mo nm_Mo hown hK.1 hP hD hS hmo rfl 0 (by decide) (hA _ kw_223) (fun _ h9 => h9) rfl (by decide +kernel) rfl rfl (Nat.le_of_ble_eq_true rfl) d_Mo_ask_2 rfl (fun H locs hP hD hS => ?_)
  obtain ⟨f_1, ef_1⟩ : ∃ z : Nat → va_E, z = va_up f mo (.inr (5, [.int (nI 0), .ref gA, .int (nI cn), .ref kA, .ref fA, .ref sA, .ref tA, .ref bA, .int (nI rn), .ref rA, .ref dA, .ref cA, .ref eA, .int (bI kn)])) := ⟨_, rfl⟩
  rw [← ef_1] at hP hD
  have hgA : Lk L f_1 gA (.inl (G.2 4, 8, .inl gf)) := by rw [ef_1]; exact Lk.up hgA (Ne.symm (Lk.neOA hmo hgA))
  have hkA : Lk L f_1 kA (.inl (G.2 4, 60, .inl (fun j => nI (kd j)))) := by rw [ef_1]; exact Lk.up hkA (Ne.symm (Lk.neOA hmo hkA))
  have hfA : Lk L f_1 fA (.inl (G.2 4, 60, .inl ka)) := by rw [ef_1]; exact Lk.up hfA (Ne.symm (Lk.neOA hmo hfA))
  have hsA : Lk L f_1 sA (.inl (G.2 4, 60, .inl kb)) := by rw [ef_1]; exact Lk.up hsA (Ne.symm (Lk.neOA hmo hsA))
  have htA : Lk L f_1 tA (.inl (G.2 4, 60, .inl kc)) := by rw [ef_1]; exact Lk.up htA (Ne.symm (Lk.neOA hmo htA))
  have hbA : Lk L f_1 bA (.inl (G.2 4, 11520, .inl bf)) := by rw [ef_1]; exact Lk.up hbA (Ne.symm (Lk.neOA hmo hbA))
  have hrA : Lk L f_1 rA (.inl (G.2 4, 20, .inl (fun j => nI (rk j)))) := by rw [ef_1]; exact Lk.up hrA (Ne.symm (Lk.neOA hmo hrA))
  have hdA : Lk L f_1 dA (.inl (G.2 1, 20, .inl (fun j => bI (dn j)))) := by rw [ef_1]; exact Lk.up hdA (Ne.symm (Lk.neOA hmo hdA))
  have hcA : Lk L f_1 cA (.inl (G.2 4, 20, .inl (fun j => nI (rc j)))) := by rw [ef_1]; exact Lk.up hcA (Ne.symm (Lk.neOA hmo hcA))
  have heA : Lk L f_1 eA (.inl (G.2 4, 6144, .inl xf)) := by rw [ef_1]; exact Lk.up heA (Ne.symm (Lk.neOA hmo heA))
  have hmo : Lk L f_1 mo (.inr (5, [.int (nI 0), .ref gA, .int (nI cn), .ref kA, .ref fA, .ref sA, .ref tA, .ref bA, .int (nI rn), .ref rA, .ref dA, .ref cA, .ref eA, .int (bI kn)])) := by rw [ef_1]; exact Lk.set hmo
  have hkp : Kp (fun a => moE (f a)) L f (L, f_1) := by rw [ef_1]; exact hkp.up (moE_o hB.2.2.1)
  have hB1 : MoB G L f_1 mo gA kA fA sA tA bA rA dA cA eA cn rn kn gf kd ka kb kc bf rk dn rc xf := ⟨hB.1, hB.2.1, hmo, hgA, hkA, hfA, hsA, htA, hbA, hrA, hdA, hcA, heA, hB.2.2.2.2.2.2.2.2.2.2.2.2.2⟩
  have hc60 := hB.1
  have hr20 := hB.2.1
  refine lv_aload_n hx hb d_Mo_ask_5 rfl (lv_at hl 0 rfl) ?_
  refine lv_iload_n hx hb d_Mo_ask_6 rfl (lv_at hl 1 rfl) ?_
  refine vp_callSi (va_Run.run (va_runV (As := [.int x]) (rest := []) ⟨hx, hb, hml, hown, hA⟩ (c_Mo_isC l G L f_1 hB1 x) ⟨callB_of 1 hA (gAW kw_198) rfl rfl rfl (hA _ kw_172) (hA _ kw_199) (by decide +kernel) ⟨Nat.le_of_ble_eq_true rfl, Nat.le_of_ble_eq_true rfl⟩, (hA _ kw_200), (hA _ kw_201)⟩ (pw_preV (ci := 5) hP hK hmo rfl) rfl rfl hl.1 rfl (lv_room (Nat.le_of_ble_eq_true rfl)) d_Mo_ask_7 ⟨Nat.zero_le _, Nat.zero_le _⟩)) (fun r_1 e_2 => ?_)
  subst e_2
  rcases bcase (blw x (nI cn)) with hb_0 | hb_0
  · refine lv_if_ne (tgt := 15) hx hb d_Mo_ask_10 (by decide) (fun c9 => absurd (by rw [hb_0]; rfl) c9) (fun _ => ?_)
    refine lv_iconst (v := (-1)) hx hb d_Mo_ask_13 (by decide) ?_
    exact W.iret (v := (-1)) hx hb hr (fun t9 h9t h9W => ⟨⟨_, (L, f_1), rfl, ⟨by rw [inN_f hb_0]; rfl, rfl, hkp, kn, xf, hB1, hX⟩, by rw [h9t]; exact hP, hD⟩, hS.F h9t⟩) hS.2.2 d_Mo_ask_14
  · refine lv_if_ne (tgt := 15) hx hb d_Mo_ask_10 (by decide) (fun _ => ?_) (fun c9 => absurd c9 (by rw [hb_0]; decide))
    obtain ⟨t, ht, rfl⟩ := blw_of (by omega) hb_0
    refine lv_iconst (v := nI 0) hx hb d_Mo_ask_15 (by decide) ?_
    refine lv_istore_n (lv' := [(3, .int (nI 0)), (0, .ref mo), (1, .int (nI t)), (2, .int y)]) hx hb d_Mo_ask_16 rfl hl (by decide) rfl (fun ls hl => ?_)
    refine lv_iconst (v := nI 0) hx hb d_Mo_ask_17 (by decide) ?_
    refine lv_istore (lv' := [(4, .int (nI 0)), (3, .int (nI 0)), (0, .ref mo), (1, .int (nI t)), (2, .int y)]) hx hb d_Mo_ask_18 hl (by decide) rfl (fun ls hl => ?_)
    have loop : ∀ (k i : Nat) (ls : Array Slot), i + k = 6144 → mAR (mB bf t) y 6144 0 = mAR (mB bf t) y k i → lv_has ls 5 [(0, .ref mo), (1, .int (nI t)), (2, .int y), (3, .int (nI (cnt (mB bf t) i))), (4, .int (nI i))] → W p l e (headSpec (.code y_Mo_ask b_Mo_ask 5 (some .int) :: AW) (RW 2 0 0)).room s m ([.ref mo, .int (nI t), .int y] : List Value).toArray below meth c H locs 0 0 (MQ below (va_Qi (fun r z => r = onR (fun t => mAR (mB bf t) y 6144 0) (inN cn (nI t)) ∧ z.1 = L ∧ Kp (fun a => moE (f a)) L f z ∧ ∃ kn9 xf9, MoB G L z.2 mo gA kA fA sA tA bA rA dA cA eA cn rn kn9 gf kd ka kb kc bf rk dn rc xf9 ∧ KnI kn9 xf9 bf rk dn rc rn) (BZ G A) A) ([.ref mo, .int (nI t), .int y] : List Value).toArray s 0 0 A) (F0 m 20 ls []) := by
      intro k
      induction k with
      | zero =>
        intro i  ls hik hres hl
        refine lv_iload hx hb d_Mo_ask_20 (lv_at hl 4 rfl) ?_
        refine lv_sipush (v := nI 6144) hx hb d_Mo_ask_22 (by decide) ?_
        refine lv_icmp_ge (tgt := 55) hx hb d_Mo_ask_25 (by decide) (fun _ => ?_) (fun c9 => absurd (nI_le (by omega) (by omega)) c9)
        refine lv_bipush (v := (-2)) hx hb d_Mo_ask_55 (by decide) ?_
        exact W.iret (v := (-2)) hx hb hr (fun t9 h9t h9W => ⟨⟨_, (L, f_1), rfl, ⟨by rw [inN_t ht (by omega)]; exact hres.symm, rfl, hkp, kn, xf, hB1, hX⟩, by rw [h9t]; exact hP, hD⟩, hS.F h9t⟩) hS.2.2 d_Mo_ask_57
      | succ k ih =>
        intro i  ls hik hres hl
        refine lv_iload hx hb d_Mo_ask_20 (lv_at hl 4 rfl) ?_
        refine lv_sipush (v := nI 6144) hx hb d_Mo_ask_22 (by decide) ?_
        refine lv_icmp_ge (tgt := 55) hx hb d_Mo_ask_25 (by decide) (fun c9 => absurd c9 (nI_ge (by omega) (by omega))) (fun _ => ?_)
        refine lv_aload_n hx hb d_Mo_ask_28 rfl (lv_at hl 0 rfl) ?_
        refine lv_iload_n hx hb d_Mo_ask_29 rfl (lv_at hl 1 rfl) ?_
        refine lv_iload hx hb d_Mo_ask_30 (lv_at hl 4 rfl) ?_
        refine vp_callSi (va_Run.run (va_runV (As := [.int (nI t), .int (nI i)]) (rest := []) ⟨hx, hb, hml, hown, hA⟩ (c_Mo_holds l G L f_1 hB1 t i (by omega) (by omega)) ⟨callB_of 2 hA (gAW kw_193) rfl rfl rfl (hA _ kw_172) (hA _ kw_194) (by decide +kernel) ⟨Nat.le_of_ble_eq_true rfl, Nat.le_of_ble_eq_true rfl⟩, (hA _ kw_195), (hA _ kw_196)⟩ (pw_preV (ci := 5) hP hK hmo rfl) rfl rfl hl.1 rfl (lv_room (Nat.le_of_ble_eq_true rfl)) d_Mo_ask_32 ⟨Nat.zero_le _, Nat.zero_le _⟩)) (fun r_3 e_4 => ?_)
        subst e_4
        rcases bcase (mB bf t i) with hh | hh
        · refine lv_if_eq (tgt := 49) hx hb d_Mo_ask_35 (by decide) (fun _ => ?_) (fun c9 => absurd (by rw [hh]; rfl) c9)
          have hl : lv_has ls 5 [(0, .ref mo), (1, .int (nI t)), (2, .int y), (3, .int (nI (cnt (mB bf t) (i + 1)))), (4, .int (nI i))] := by rw [← (show nI (cnt (mB bf t) i) = nI (cnt (mB bf t) (i + 1)) from congrArg nI (cnt_f hh).symm)]; exact hl
          refine lv_iinc (v := nI (i + 1)) (lv' := [(4, .int (nI (i + 1))), (0, .ref mo), (1, .int (nI t)), (2, .int y), (3, .int (nI (cnt (mB bf t) (i + 1))))]) hx hb d_Mo_ask_49 hl (k := 4) rfl (nI_1 i) (by decide) rfl (fun ls hl => ?_)
          refine lv_goto (tgt := 20) hx hb d_Mo_ask_52 (by decide) ?_
          exact ih (i + 1)  ls (by omega) (hres.trans (if_neg (fun z => by rw [hh] at z; exact absurd z.1 (by decide)))) (lv_sub hl [1, 2, 3, 4, 0] rfl)
        · refine lv_if_eq (tgt := 49) hx hb d_Mo_ask_35 (by decide) (fun c9 => absurd c9 (by rw [hh]; decide)) (fun _ => ?_)
          refine lv_iload_n hx hb d_Mo_ask_38 rfl (lv_at hl 3 rfl) ?_
          refine lv_iload_n hx hb d_Mo_ask_39 rfl (lv_at hl 2 rfl) ?_
          by_cases he : nI (cnt (mB bf t) i) = y
          · refine lv_icmp_ne (tgt := 46) hx hb d_Mo_ask_40 (by decide) (fun c9 => absurd he c9) (fun _ => ?_)
            refine lv_iload hx hb d_Mo_ask_43 (lv_at hl 4 rfl) ?_
            exact W.iret (v := nI i) hx hb hr (fun t9 h9t h9W => ⟨⟨_, (L, f_1), rfl, ⟨by rw [inN_t ht (by omega)]; exact (hres.trans (if_pos ⟨hh, he⟩)).symm, rfl, hkp, kn, xf, hB1, hX⟩, by rw [h9t]; exact hP, hD⟩, hS.F h9t⟩) hS.2.2 d_Mo_ask_45
          · refine lv_icmp_ne (tgt := 46) hx hb d_Mo_ask_40 (by decide) (fun _ => ?_) (fun c9 => absurd c9 he)
            refine lv_iinc (v := nI (cnt (mB bf t) (i + 1))) (lv' := [(3, .int (nI (cnt (mB bf t) (i + 1)))), (0, .ref mo), (1, .int (nI t)), (2, .int y), (4, .int (nI i))]) hx hb d_Mo_ask_46 hl (k := 3) rfl ((nI_1 _).trans (congrArg nI (cnt_t hh).symm)) (by decide) rfl (fun ls hl => ?_)
            refine lv_iinc (v := nI (i + 1)) (lv' := [(4, .int (nI (i + 1))), (3, .int (nI (cnt (mB bf t) (i + 1)))), (0, .ref mo), (1, .int (nI t)), (2, .int y)]) hx hb d_Mo_ask_49 hl (k := 4) rfl (nI_1 i) (by decide) rfl (fun ls hl => ?_)
            refine lv_goto (tgt := 20) hx hb d_Mo_ask_52 (by decide) ?_
            exact ih (i + 1)  ls (by omega) (hres.trans (if_neg (fun z => he z.2))) (lv_sub hl [2, 3, 4, 1, 0] rfl)
    exact loop (6144 - 0) 0  ls (by omega) rfl (lv_sub hl [2, 3, 4, 1, 0] rfl)

set_option maxHeartbeats 4000000 in
set_option maxRecDepth 100000 in
/-- within -/
theorem c_Mo_within (l : Launch) (G : GG) (L : List Nat) (f : Nat → va_E) (sz : Nat) (hN : L.Nodup) {mo gA kA fA sA tA bA rA dA cA eA cn rn : Nat} {kn : Bool} {gf : Nat → Int32} {kd : Nat → Nat} {ka kb kc bf : Nat → Int32} {rk : Nat → Nat} {dn : Nat → Bool} {rc : Nat → Nat} {xf : Nat → Int32} (hB : MoB G L f mo gA kA fA sA tA bA rA dA cA eA cn rn kn gf kd ka kb kc bf rk dn rc xf) (hX : KnI kn xf bf rk dn rc rn) (x y : Int32) : Met l y_Mo_within (.code y_Mo_within b_Mo_within 4 (some .int) :: AW) (RW 2 0 0) (va_Pc [.ref mo, .int x, .int y] (PZ G L f sz)) (va_Qi (fun r z => r = onR (fun t => onR (fun u => mWR (mB bf t) (mB bf u) 6144 0) (inN cn y)) (inN cn x) ∧ z.1 = L ∧ Kp (fun a => moE (f a)) L f z ∧ ∃ kn9 xf9, MoB G L z.2 mo gA kA fA sA tA bA rA dA cA eA cn rn kn9 gf kd ka kb kc bf rk dn rc xf9 ∧ KnI kn9 xf9 bf rk dn rc rn) (BZ G (Am L sz)) (Am L sz)) 0 0 (Am L sz) := by
  refine Met.ofW (cc := b_Mo_within) (maxL := 4) (ret := (some .int)) (by decide) rfl ?_
  intro p e s m args below meth c s₁ B hml hv
  obtain ⟨rfl, hsz, hP, hK⟩ := hv
  have hx := B.exec
  have hb := B.bytes
  have hr := B.returns
  have hA : ∀ w ∈ AW, w.before _ s = true := fun w h => atoms_spec (ws := (.code y_Mo_within b_Mo_within 4 (some .int) :: AW)) B.pre w (List.mem_cons_of_mem _ h)
  have hown : s.vm.findClass R_Mo = some m.cls := findClass_of_methodNamed B.named
  have hlocks := B.notSynchronized
  subst hsz
  have hD : va_D (Am L s.heap.size) (va_pl L f) := pl_D hN (fun _ h => Or.inl h)
  have hA0 : ∀ q, s.heap.size ≤ q → Am L s.heap.size q := fun q h => Or.inr h
  generalize Am L s.heap.size = A at hD hA0 ⊢
  have hS : va_S A s.heap s.heap [] := va_S.rf
  have hkp : Kp (fun a => moE (f a)) L f (L, f) := Kp.rf
  have hl := lv_entry ([.ref mo, .int x, .int y]) (n := 4) (Nat.le_of_ble_eq_true rfl)
  rw [lg_entry_eq]
  generalize (lg_sl ([.ref mo, .int x, .int y]) ++ List.replicate (4 - (lg_sl ([.ref mo, .int x, .int y])).length) Slot.unset).toArray = ls at hl ⊢
  have hl : lv_has ls 4 [(0, .ref mo), (1, .int x), (2, .int y)] := hl
  have hmo : Lk L f mo (.inr (5, [.int (nI 0), .ref gA, .int (nI cn), .ref kA, .ref fA, .ref sA, .ref tA, .ref bA, .int (nI rn), .ref rA, .ref dA, .ref cA, .ref eA, .int (bI kn)])) := hB.2.2.1
  have hgA : Lk L f gA (.inl (G.2 4, 8, .inl gf)) := hB.2.2.2.1
  have hkA : Lk L f kA (.inl (G.2 4, 60, .inl (fun j => nI (kd j)))) := hB.2.2.2.2.1
  have hfA : Lk L f fA (.inl (G.2 4, 60, .inl ka)) := hB.2.2.2.2.2.1
  have hsA : Lk L f sA (.inl (G.2 4, 60, .inl kb)) := hB.2.2.2.2.2.2.1
  have htA : Lk L f tA (.inl (G.2 4, 60, .inl kc)) := hB.2.2.2.2.2.2.2.1
  have hbA : Lk L f bA (.inl (G.2 4, 11520, .inl bf)) := hB.2.2.2.2.2.2.2.2.1
  have hrA : Lk L f rA (.inl (G.2 4, 20, .inl (fun j => nI (rk j)))) := hB.2.2.2.2.2.2.2.2.2.1
  have hdA : Lk L f dA (.inl (G.2 1, 20, .inl (fun j => bI (dn j)))) := hB.2.2.2.2.2.2.2.2.2.2.1
  have hcA : Lk L f cA (.inl (G.2 4, 20, .inl (fun j => nI (rc j)))) := hB.2.2.2.2.2.2.2.2.2.2.2.1
  have heA : Lk L f eA (.inl (G.2 4, 6144, .inl xf)) := hB.2.2.2.2.2.2.2.2.2.2.2.2.1
  refine lv_aload_n hx hb d_Mo_within_0 rfl (lv_at hl 0 rfl) ?_
  refine lv_iconst (v := nI 0) hx hb d_Mo_within_1 (by decide) ?_
  refine xw_put (D := G.1) (ci := 5) (v := .int (nI 0)) (ty := .int) (C := R_Mo) (T := T_Mo) (N := 14) (fs' := [.int (nI 0), .ref gA, .int (nI cn), .ref kA, .ref fA, .ref sA, .ref tA, .ref bA, .int (nI rn), .ref rA, .ref dA, .ref cA, .ref eA, .int (bI kn)]) hx hb hA in_Mo ty_Mo tyok_Mo nm_Mo hown hK.1 hP hD hS hmo rfl 0 (by decide) (hA _ kw_223) (fun _ h9 => h9) rfl (by decide +kernel) rfl rfl (Nat.le_of_ble_eq_true rfl) d_Mo_within_2 rfl (fun H locs hP hD hS => ?_)
  obtain ⟨f_1, ef_1⟩ : ∃ z : Nat → va_E, z = va_up f mo (.inr (5, [.int (nI 0), .ref gA, .int (nI cn), .ref kA, .ref fA, .ref sA, .ref tA, .ref bA, .int (nI rn), .ref rA, .ref dA, .ref cA, .ref eA, .int (bI kn)])) := ⟨_, rfl⟩
  rw [← ef_1] at hP hD
  have hgA : Lk L f_1 gA (.inl (G.2 4, 8, .inl gf)) := by rw [ef_1]; exact Lk.up hgA (Ne.symm (Lk.neOA hmo hgA))
  have hkA : Lk L f_1 kA (.inl (G.2 4, 60, .inl (fun j => nI (kd j)))) := by rw [ef_1]; exact Lk.up hkA (Ne.symm (Lk.neOA hmo hkA))
  have hfA : Lk L f_1 fA (.inl (G.2 4, 60, .inl ka)) := by rw [ef_1]; exact Lk.up hfA (Ne.symm (Lk.neOA hmo hfA))
  have hsA : Lk L f_1 sA (.inl (G.2 4, 60, .inl kb)) := by rw [ef_1]; exact Lk.up hsA (Ne.symm (Lk.neOA hmo hsA))
  have htA : Lk L f_1 tA (.inl (G.2 4, 60, .inl kc)) := by rw [ef_1]; exact Lk.up htA (Ne.symm (Lk.neOA hmo htA))
  have hbA : Lk L f_1 bA (.inl (G.2 4, 11520, .inl bf)) := by rw [ef_1]; exact Lk.up hbA (Ne.symm (Lk.neOA hmo hbA))
  have hrA : Lk L f_1 rA (.inl (G.2 4, 20, .inl (fun j => nI (rk j)))) := by rw [ef_1]; exact Lk.up hrA (Ne.symm (Lk.neOA hmo hrA))
  have hdA : Lk L f_1 dA (.inl (G.2 1, 20, .inl (fun j => bI (dn j)))) := by rw [ef_1]; exact Lk.up hdA (Ne.symm (Lk.neOA hmo hdA))
  have hcA : Lk L f_1 cA (.inl (G.2 4, 20, .inl (fun j => nI (rc j)))) := by rw [ef_1]; exact Lk.up hcA (Ne.symm (Lk.neOA hmo hcA))
  have heA : Lk L f_1 eA (.inl (G.2 4, 6144, .inl xf)) := by rw [ef_1]; exact Lk.up heA (Ne.symm (Lk.neOA hmo heA))
  have hmo : Lk L f_1 mo (.inr (5, [.int (nI 0), .ref gA, .int (nI cn), .ref kA, .ref fA, .ref sA, .ref tA, .ref bA, .int (nI rn), .ref rA, .ref dA, .ref cA, .ref eA, .int (bI kn)])) := by rw [ef_1]; exact Lk.set hmo
  have hkp : Kp (fun a => moE (f a)) L f (L, f_1) := by rw [ef_1]; exact hkp.up (moE_o hB.2.2.1)
  have hB1 : MoB G L f_1 mo gA kA fA sA tA bA rA dA cA eA cn rn kn gf kd ka kb kc bf rk dn rc xf := ⟨hB.1, hB.2.1, hmo, hgA, hkA, hfA, hsA, htA, hbA, hrA, hdA, hcA, heA, hB.2.2.2.2.2.2.2.2.2.2.2.2.2⟩
  have hc60 := hB.1
  have hr20 := hB.2.1
  refine lv_aload_n hx hb d_Mo_within_5 rfl (lv_at hl 0 rfl) ?_
  refine lv_iload_n hx hb d_Mo_within_6 rfl (lv_at hl 1 rfl) ?_
  refine vp_callSi (va_Run.run (va_runV (As := [.int x]) (rest := []) ⟨hx, hb, hml, hown, hA⟩ (c_Mo_isC l G L f_1 hB1 x) ⟨callB_of 1 hA (gAW kw_198) rfl rfl rfl (hA _ kw_172) (hA _ kw_199) (by decide +kernel) ⟨Nat.le_of_ble_eq_true rfl, Nat.le_of_ble_eq_true rfl⟩, (hA _ kw_200), (hA _ kw_201)⟩ (pw_preV (ci := 5) hP hK hmo rfl) rfl rfl hl.1 rfl (lv_room (Nat.le_of_ble_eq_true rfl)) d_Mo_within_7 ⟨Nat.zero_le _, Nat.zero_le _⟩)) (fun r_1 e_2 => ?_)
  subst e_2
  rcases bcase (blw x (nI cn)) with hb_0 | hb_0
  · refine lv_if_eq (tgt := 21) hx hb d_Mo_within_10 (by decide) (fun _ => ?_) (fun c9 => absurd (by rw [hb_0]; rfl) c9)
    refine lv_iconst (v := (-1)) hx hb d_Mo_within_21 (by decide) ?_
    exact W.iret (v := (-1)) hx hb hr (fun t9 h9t h9W => ⟨⟨_, (L, f_1), rfl, ⟨by rw [inN_f hb_0]; rfl, rfl, hkp, kn, xf, hB1, hX⟩, by rw [h9t]; exact hP, hD⟩, hS.F h9t⟩) hS.2.2 d_Mo_within_22
  · refine lv_if_eq (tgt := 21) hx hb d_Mo_within_10 (by decide) (fun c9 => absurd c9 (by rw [hb_0]; decide)) (fun _ => ?_)
    obtain ⟨t, ht, rfl⟩ := blw_of (by omega) hb_0
    refine lv_aload_n hx hb d_Mo_within_13 rfl (lv_at hl 0 rfl) ?_
    refine lv_iload_n hx hb d_Mo_within_14 rfl (lv_at hl 2 rfl) ?_
    refine vp_callSi (va_Run.run (va_runV (As := [.int y]) (rest := []) ⟨hx, hb, hml, hown, hA⟩ (c_Mo_isC l G L f_1 hB1 y) ⟨callB_of 1 hA (gAW kw_198) rfl rfl rfl (hA _ kw_172) (hA _ kw_199) (by decide +kernel) ⟨Nat.le_of_ble_eq_true rfl, Nat.le_of_ble_eq_true rfl⟩, (hA _ kw_200), (hA _ kw_201)⟩ (pw_preV (ci := 5) hP hK hmo rfl) rfl rfl hl.1 rfl (lv_room (Nat.le_of_ble_eq_true rfl)) d_Mo_within_15 ⟨Nat.zero_le _, Nat.zero_le _⟩)) (fun r_3 e_4 => ?_)
    subst e_4
    rcases bcase (blw y (nI cn)) with hb_1 | hb_1
    · refine lv_if_ne (tgt := 23) hx hb d_Mo_within_18 (by decide) (fun c9 => absurd (by rw [hb_1]; rfl) c9) (fun _ => ?_)
      refine lv_iconst (v := (-1)) hx hb d_Mo_within_21 (by decide) ?_
      exact W.iret (v := (-1)) hx hb hr (fun t9 h9t h9W => ⟨⟨_, (L, f_1), rfl, ⟨by rw [inN_t ht (by omega), inN_f hb_1]; rfl, rfl, hkp, kn, xf, hB1, hX⟩, by rw [h9t]; exact hP, hD⟩, hS.F h9t⟩) hS.2.2 d_Mo_within_22
    · refine lv_if_ne (tgt := 23) hx hb d_Mo_within_18 (by decide) (fun _ => ?_) (fun c9 => absurd c9 (by rw [hb_1]; decide))
      obtain ⟨u, hu, rfl⟩ := blw_of (by omega) hb_1
      refine lv_iconst (v := nI 0) hx hb d_Mo_within_23 (by decide) ?_
      refine lv_istore_n (lv' := [(3, .int (nI 0)), (0, .ref mo), (1, .int (nI t)), (2, .int (nI u))]) hx hb d_Mo_within_24 rfl hl (by decide) rfl (fun ls hl => ?_)
      have loop : ∀ (k i : Nat) (ls : Array Slot), i + k = 6144 → mWR (mB bf t) (mB bf u) 6144 0 = mWR (mB bf t) (mB bf u) k i → lv_has ls 4 [(0, .ref mo), (1, .int (nI t)), (2, .int (nI u)), (3, .int (nI i))] → W p l e (headSpec (.code y_Mo_within b_Mo_within 4 (some .int) :: AW) (RW 2 0 0)).room s m ([.ref mo, .int (nI t), .int (nI u)] : List Value).toArray below meth c H locs 0 0 (MQ below (va_Qi (fun r z => r = onR (fun t => onR (fun u => mWR (mB bf t) (mB bf u) 6144 0) (inN cn (nI u))) (inN cn (nI t)) ∧ z.1 = L ∧ Kp (fun a => moE (f a)) L f z ∧ ∃ kn9 xf9, MoB G L z.2 mo gA kA fA sA tA bA rA dA cA eA cn rn kn9 gf kd ka kb kc bf rk dn rc xf9 ∧ KnI kn9 xf9 bf rk dn rc rn) (BZ G A) A) ([.ref mo, .int (nI t), .int (nI u)] : List Value).toArray s 0 0 A) (F0 m 25 ls []) := by
        intro k
        induction k with
        | zero =>
          intro i  ls hik hres hl
          refine lv_iload_n hx hb d_Mo_within_25 rfl (lv_at hl 3 rfl) ?_
          refine lv_sipush (v := nI 6144) hx hb d_Mo_within_26 (by decide) ?_
          refine lv_icmp_ge (tgt := 58) hx hb d_Mo_within_29 (by decide) (fun _ => ?_) (fun c9 => absurd (nI_le (by omega) (by omega)) c9)
          refine lv_iconst (v := nI 1) hx hb d_Mo_within_58 (by decide) ?_
          exact W.iret (v := nI 1) hx hb hr (fun t9 h9t h9W => ⟨⟨_, (L, f_1), rfl, ⟨by rw [inN_t ht (by omega), inN_t hu (by omega)]; exact hres.symm, rfl, hkp, kn, xf, hB1, hX⟩, by rw [h9t]; exact hP, hD⟩, hS.F h9t⟩) hS.2.2 d_Mo_within_59
        | succ k ih =>
          intro i  ls hik hres hl
          refine lv_iload_n hx hb d_Mo_within_25 rfl (lv_at hl 3 rfl) ?_
          refine lv_sipush (v := nI 6144) hx hb d_Mo_within_26 (by decide) ?_
          refine lv_icmp_ge (tgt := 58) hx hb d_Mo_within_29 (by decide) (fun c9 => absurd c9 (nI_ge (by omega) (by omega))) (fun _ => ?_)
          refine lv_aload_n hx hb d_Mo_within_32 rfl (lv_at hl 0 rfl) ?_
          refine lv_iload_n hx hb d_Mo_within_33 rfl (lv_at hl 1 rfl) ?_
          refine lv_iload_n hx hb d_Mo_within_34 rfl (lv_at hl 3 rfl) ?_
          refine vp_callSi (va_Run.run (va_runV (As := [.int (nI t), .int (nI i)]) (rest := []) ⟨hx, hb, hml, hown, hA⟩ (c_Mo_holds l G L f_1 hB1 t i (by omega) (by omega)) ⟨callB_of 2 hA (gAW kw_193) rfl rfl rfl (hA _ kw_172) (hA _ kw_194) (by decide +kernel) ⟨Nat.le_of_ble_eq_true rfl, Nat.le_of_ble_eq_true rfl⟩, (hA _ kw_195), (hA _ kw_196)⟩ (pw_preV (ci := 5) hP hK hmo rfl) rfl rfl hl.1 rfl (lv_room (Nat.le_of_ble_eq_true rfl)) d_Mo_within_35 ⟨Nat.zero_le _, Nat.zero_le _⟩)) (fun r_5 e_6 => ?_)
          subst e_6
          rcases bcase (mB bf t i) with hh | hh
          · refine lv_if_eq (tgt := 52) hx hb d_Mo_within_38 (by decide) (fun _ => ?_) (fun c9 => absurd (by rw [hh]; rfl) c9)
            refine lv_iinc (v := nI (i + 1)) (lv' := [(3, .int (nI (i + 1))), (0, .ref mo), (1, .int (nI t)), (2, .int (nI u))]) hx hb d_Mo_within_52 hl (k := 3) rfl (nI_1 i) (by decide) rfl (fun ls hl => ?_)
            refine lv_goto (tgt := 25) hx hb d_Mo_within_55 (by decide) ?_
            exact ih (i + 1)  ls (by omega) (hres.trans (if_neg (fun z => by rw [hh] at z; exact absurd z.1 (by decide)))) (lv_sub hl [1, 2, 3, 0] rfl)
          · refine lv_if_eq (tgt := 52) hx hb d_Mo_within_38 (by decide) (fun c9 => absurd c9 (by rw [hh]; decide)) (fun _ => ?_)
            refine lv_aload_n hx hb d_Mo_within_41 rfl (lv_at hl 0 rfl) ?_
            refine lv_iload_n hx hb d_Mo_within_42 rfl (lv_at hl 2 rfl) ?_
            refine lv_iload_n hx hb d_Mo_within_43 rfl (lv_at hl 3 rfl) ?_
            refine vp_callSi (va_Run.run (va_runV (As := [.int (nI u), .int (nI i)]) (rest := []) ⟨hx, hb, hml, hown, hA⟩ (c_Mo_holds l G L f_1 hB1 u i (by omega) (by omega)) ⟨callB_of 2 hA (gAW kw_193) rfl rfl rfl (hA _ kw_172) (hA _ kw_194) (by decide +kernel) ⟨Nat.le_of_ble_eq_true rfl, Nat.le_of_ble_eq_true rfl⟩, (hA _ kw_195), (hA _ kw_196)⟩ (pw_preV (ci := 5) hP hK hmo rfl) rfl rfl hl.1 rfl (lv_room (Nat.le_of_ble_eq_true rfl)) d_Mo_within_44 ⟨Nat.zero_le _, Nat.zero_le _⟩)) (fun r_7 e_8 => ?_)
            subst e_8
            rcases bcase (mB bf u i) with h2 | h2
            · refine lv_if_ne (tgt := 52) hx hb d_Mo_within_47 (by decide) (fun c9 => absurd (by rw [h2]; rfl) c9) (fun _ => ?_)
              refine lv_iconst (v := nI 0) hx hb d_Mo_within_50 (by decide) ?_
              exact W.iret (v := nI 0) hx hb hr (fun t9 h9t h9W => ⟨⟨_, (L, f_1), rfl, ⟨by rw [inN_t ht (by omega), inN_t hu (by omega)]; exact (hres.trans (if_pos ⟨hh, h2⟩)).symm, rfl, hkp, kn, xf, hB1, hX⟩, by rw [h9t]; exact hP, hD⟩, hS.F h9t⟩) hS.2.2 d_Mo_within_51
            · refine lv_if_ne (tgt := 52) hx hb d_Mo_within_47 (by decide) (fun _ => ?_) (fun c9 => absurd c9 (by rw [h2]; decide))
              refine lv_iinc (v := nI (i + 1)) (lv' := [(3, .int (nI (i + 1))), (0, .ref mo), (1, .int (nI t)), (2, .int (nI u))]) hx hb d_Mo_within_52 hl (k := 3) rfl (nI_1 i) (by decide) rfl (fun ls hl => ?_)
              refine lv_goto (tgt := 25) hx hb d_Mo_within_55 (by decide) ?_
              exact ih (i + 1)  ls (by omega) (hres.trans (if_neg (fun z => by rw [h2] at z; exact absurd z.2 (by decide)))) (lv_sub hl [1, 2, 3, 0] rfl)
      exact loop (6144 - 0) 0  ls (by omega) rfl (lv_sub hl [1, 2, 3, 0] rfl)
