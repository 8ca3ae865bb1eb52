set_option maxHeartbeats 4000000 in
set_option maxRecDepth 100000 in
/-- condition -/
theorem c_Mo_condition (l : Launch) (G : GG) (L : List Nat) (f : Nat → va_E) (sz : Nat) (hN : L.Nodup) {mo gA kA fA sA tA bA rA dA cA eA cn rn : Nat} {kn : Bool} {gf : Nat → Int32} {kd : Nat → Nat} {ka kb kc bf : Nat → Int32} {rk : Nat → Nat} {dn : Nat → Bool} {rc : Nat → Nat} {xf : Nat → Int32} (hB : MoB G L f mo gA kA fA sA tA bA rA dA cA eA cn rn kn gf kd ka kb kc bf rk dn rc xf) {mm : Nat → Bool} (hG : GrI gf mm) (x1 x2 x3 x4 : Int32) : Met l y_Mo_condition (.code y_Mo_condition b_Mo_condition 5 (some .int) :: AW) (RW 3 0 0) (va_Pc [.ref mo, .int x1, .int x2, .int x3, .int x4] (PZ G L f sz)) (va_Qi (fun r z => z.1 = L ∧ Kp (fun a => moE (f a)) L f z ∧ ((cOK cn x1 x2 x3 x4 = false ∧ r = -1 ∧ MoB G L z.2 mo gA kA fA sA tA bA rA dA cA eA cn rn kn gf kd ka kb kc bf rk dn rc xf) ∨ ∃ k a b c_, x1 = nI k ∧ okC cn k x2 x3 x4 a b c_ ∧ ((cn = 60 ∧ r = -3 ∧ MoB G L z.2 mo gA kA fA sA tA bA rA dA cA eA cn rn kn gf kd ka kb kc bf rk dn rc xf) ∨ (cn < 60 ∧ r = nI cn ∧ ∃ bw, MoB G L z.2 mo gA kA fA sA tA bA rA dA cA eA (cn + 1) rn kn gf (va_up kd cn k) (va_up ka cn x2) (va_up kb cn x3) (va_up kc cn x4) bw rk dn rc xf ∧ (∀ q, q < 6144 → mB bw cn q = cK mm (mB bf) k a b c_ q) ∧ ∀ j, j ≠ cn → ∀ q, q < 6144 → mB bw j q = mB bf j q)))) (BZ G (Am L sz)) (Am L sz)) 0 0 (Am L sz) := by
  refine Met.ofW (cc := b_Mo_condition) (maxL := 5) (ret := (some .int)) (by decide) rfl ?_
  intro p e s m args below meth c s₁ B hml hv
  obtain ⟨rfl, hsz, hP, hK⟩ := hv
  have hx := B.exec
  have hb := B.bytes
  have hr := B.returns
  have hA : ∀ w ∈ AW, w.before _ s = true := fun w h => atoms_spec (ws := (.code y_Mo_condition b_Mo_condition 5 (some .int) :: AW)) B.pre w (List.mem_cons_of_mem _ h)
  have hown : s.vm.findClass R_Mo = some m.cls := findClass_of_methodNamed B.named
  have hlocks := B.notSynchronized
  subst hsz
  have hD : va_D (Am L s.heap.size) (va_pl L f) := pl_D hN (fun _ h => Or.inl h)
  have hA0 : ∀ q, s.heap.size ≤ q → Am L s.heap.size q := fun q h => Or.inr h
  generalize Am L s.heap.size = A at hD hA0 ⊢
  have hS : va_S A s.heap s.heap [] := va_S.rf
  have hkp : Kp (fun a => moE (f a)) L f (L, f) := Kp.rf
  have hl := lv_entry ([.ref mo, .int x1, .int x2, .int x3, .int x4]) (n := 5) (Nat.le_of_ble_eq_true rfl)
  rw [lg_entry_eq]
  generalize (lg_sl ([.ref mo, .int x1, .int x2, .int x3, .int x4]) ++ List.replicate (5 - (lg_sl ([.ref mo, .int x1, .int x2, .int x3, .int x4])).length) Slot.unset).toArray = ls at hl ⊢
  have hl : lv_has ls 5 [(0, .ref mo), (1, .int x1), (2, .int x2), (3, .int x3), (4, .int x4)] := hl
  have hmo : Lk L f mo (.inr (5, [.int (nI 0), .ref gA, .int (nI cn), .ref kA, .ref fA, .ref sA, .ref tA, .ref bA, .int (nI rn), .ref rA, .ref dA, .ref cA, .ref eA, .int (bI kn)])) := hB.2.2.1
  have hgA : Lk L f gA (.inl (G.2 4, 8, .inl gf)) := hB.2.2.2.1
  have hkA : Lk L f kA (.inl (G.2 4, 60, .inl (fun j => nI (kd j)))) := hB.2.2.2.2.1
  have hfA : Lk L f fA (.inl (G.2 4, 60, .inl ka)) := hB.2.2.2.2.2.1
  have hsA : Lk L f sA (.inl (G.2 4, 60, .inl kb)) := hB.2.2.2.2.2.2.1
  have htA : Lk L f tA (.inl (G.2 4, 60, .inl kc)) := hB.2.2.2.2.2.2.2.1
  have hbA : Lk L f bA (.inl (G.2 4, 11520, .inl bf)) := hB.2.2.2.2.2.2.2.2.1
  have hrA : Lk L f rA (.inl (G.2 4, 20, .inl (fun j => nI (rk j)))) := hB.2.2.2.2.2.2.2.2.2.1
  have hdA : Lk L f dA (.inl (G.2 1, 20, .inl (fun j => bI (dn j)))) := hB.2.2.2.2.2.2.2.2.2.2.1
  have hcA : Lk L f cA (.inl (G.2 4, 20, .inl (fun j => nI (rc j)))) := hB.2.2.2.2.2.2.2.2.2.2.2.1
  have heA : Lk L f eA (.inl (G.2 4, 6144, .inl xf)) := hB.2.2.2.2.2.2.2.2.2.2.2.2.1
  refine lv_aload_n hx hb d_Mo_condition_0 rfl (lv_at hl 0 rfl) ?_
  refine lv_iconst (v := nI 0) hx hb d_Mo_condition_1 (by decide) ?_
  refine xw_put (D := G.1) (ci := 5) (v := .int (nI 0)) (ty := .int) (C := R_Mo) (T := T_Mo) (N := 14) (fs' := [.int (nI 0), .ref gA, .int (nI cn), .ref kA, .ref fA, .ref sA, .ref tA, .ref bA, .int (nI rn), .ref rA, .ref dA, .ref cA, .ref eA, .int (bI kn)]) hx hb hA in_Mo ty_Mo tyok_Mo nm_Mo hown hK.1 hP hD hS hmo rfl 0 (by decide) (hA _ kw_223) (fun _ h9 => h9) rfl (by decide +kernel) rfl rfl (Nat.le_of_ble_eq_true rfl) d_Mo_condition_2 rfl (fun H locs hP hD hS => ?_)
  obtain ⟨f_1, ef_1⟩ : ∃ z : Nat → va_E, z = va_up f mo (.inr (5, [.int (nI 0), .ref gA, .int (nI cn), .ref kA, .ref fA, .ref sA, .ref tA, .ref bA, .int (nI rn), .ref rA, .ref dA, .ref cA, .ref eA, .int (bI kn)])) := ⟨_, rfl⟩
  rw [← ef_1] at hP hD
  have hgA : Lk L f_1 gA (.inl (G.2 4, 8, .inl gf)) := by rw [ef_1]; exact Lk.up hgA (Ne.symm (Lk.neOA hmo hgA))
  have hkA : Lk L f_1 kA (.inl (G.2 4, 60, .inl (fun j => nI (kd j)))) := by rw [ef_1]; exact Lk.up hkA (Ne.symm (Lk.neOA hmo hkA))
  have hfA : Lk L f_1 fA (.inl (G.2 4, 60, .inl ka)) := by rw [ef_1]; exact Lk.up hfA (Ne.symm (Lk.neOA hmo hfA))
  have hsA : Lk L f_1 sA (.inl (G.2 4, 60, .inl kb)) := by rw [ef_1]; exact Lk.up hsA (Ne.symm (Lk.neOA hmo hsA))
  have htA : Lk L f_1 tA (.inl (G.2 4, 60, .inl kc)) := by rw [ef_1]; exact Lk.up htA (Ne.symm (Lk.neOA hmo htA))
  have hbA : Lk L f_1 bA (.inl (G.2 4, 11520, .inl bf)) := by rw [ef_1]; exact Lk.up hbA (Ne.symm (Lk.neOA hmo hbA))
  have hrA : Lk L f_1 rA (.inl (G.2 4, 20, .inl (fun j => nI (rk j)))) := by rw [ef_1]; exact Lk.up hrA (Ne.symm (Lk.neOA hmo hrA))
  have hdA : Lk L f_1 dA (.inl (G.2 1, 20, .inl (fun j => bI (dn j)))) := by rw [ef_1]; exact Lk.up hdA (Ne.symm (Lk.neOA hmo hdA))
  have hcA : Lk L f_1 cA (.inl (G.2 4, 20, .inl (fun j => nI (rc j)))) := by rw [ef_1]; exact Lk.up hcA (Ne.symm (Lk.neOA hmo hcA))
  have heA : Lk L f_1 eA (.inl (G.2 4, 6144, .inl xf)) := by rw [ef_1]; exact Lk.up heA (Ne.symm (Lk.neOA hmo heA))
  have hmo : Lk L f_1 mo (.inr (5, [.int (nI 0), .ref gA, .int (nI cn), .ref kA, .ref fA, .ref sA, .ref tA, .ref bA, .int (nI rn), .ref rA, .ref dA, .ref cA, .ref eA, .int (bI kn)])) := by rw [ef_1]; exact Lk.set hmo
  have hkp : Kp (fun a => moE (f a)) L f (L, f_1) := by rw [ef_1]; exact hkp.up (moE_o hB.2.2.1)
  have hB1 : MoB G L f_1 mo gA kA fA sA tA bA rA dA cA eA cn rn kn gf kd ka kb kc bf rk dn rc xf := ⟨hB.1, hB.2.1, hmo, hgA, hkA, hfA, hsA, htA, hbA, hrA, hdA, hcA, heA, hB.2.2.2.2.2.2.2.2.2.2.2.2.2⟩
  have hc60 := hB.1
  have hr20 := hB.2.1
  refine lv_aload_n hx hb d_Mo_condition_5 rfl (lv_at hl 0 rfl) ?_
  refine lv_iload_n hx hb d_Mo_condition_6 rfl (lv_at hl 1 rfl) ?_
  refine lv_iload_n hx hb d_Mo_condition_7 rfl (lv_at hl 2 rfl) ?_
  refine lv_iload_n hx hb d_Mo_condition_8 rfl (lv_at hl 3 rfl) ?_
  refine lv_iload hx hb d_Mo_condition_9 (lv_at hl 4 rfl) ?_
  refine vp_callSi (va_Run.run (va_runV (As := [.int x1, .int x2, .int x3, .int x4]) (rest := []) ⟨hx, hb, hml, hown, hA⟩ (c_Mo_good l G L f_1 hB1 x1 x2 x3 x4) ⟨callB_of 4 hA (gAW kw_228) rfl rfl rfl (hA _ kw_172) (hA _ kw_229) (by decide +kernel) ⟨Nat.le_of_ble_eq_true rfl, Nat.le_of_ble_eq_true rfl⟩, (hA _ kw_230), (hA _ kw_231)⟩ (pw_preV (ci := 5) hP hK hmo rfl) rfl rfl hl.1 rfl (lv_room (Nat.le_of_ble_eq_true rfl)) d_Mo_condition_11 ⟨Nat.zero_le _, Nat.zero_le _⟩)) (fun r_1 e_2 => ?_)
  subst e_2
  rcases bcase (cOK cn x1 x2 x3 x4) with hb_0 | hb_0
  · refine lv_if_ne (tgt := 19) hx hb d_Mo_condition_14 (by decide) (fun c9 => absurd (by rw [hb_0]; rfl) c9) (fun _ => ?_)
    refine lv_iconst (v := (-1)) hx hb d_Mo_condition_17 (by decide) ?_
    exact W.iret (v := (-1)) hx hb hr (fun t9 h9t h9W => ⟨⟨_, (L, f_1), rfl, ⟨rfl, hkp, Or.inl ⟨hb_0, rfl, hB1⟩⟩, by rw [h9t]; exact hP, hD⟩, hS.F h9t⟩) hS.2.2 d_Mo_condition_18
  · refine lv_if_ne (tgt := 19) hx hb d_Mo_condition_14 (by decide) (fun _ => ?_) (fun c9 => absurd c9 (by rw [hb_0]; decide))
    obtain ⟨k, a, b, c_, rfl, ho⟩ := cOK_ok hB.1 hb_0
    refine lv_aload_n hx hb d_Mo_condition_19 rfl (lv_at hl 0 rfl) ?_
    refine va_get (D := G.1) (ci := 5) (v := .int (nI cn)) (C := R_Mo) (T := T_Mo) (N := 14) hx hb hA in_Mo hown hK.1 (pl_o hP hmo) 0 rfl rfl 2 (by decide) (hA _ kw_170) (fun _ h9 => h9) rfl d_Mo_condition_20 ?_
    refine lv_bipush (v := nI 60) hx hb d_Mo_condition_23 (by decide) ?_
    by_cases hf : cn = 60
    · refine lv_icmp_ne (tgt := 31) hx hb d_Mo_condition_25 (by decide) (fun c9 => absurd (congrArg nI hf) c9) (fun _ => ?_)
      refine lv_bipush (v := (-3)) hx hb d_Mo_condition_28 (by decide) ?_
      exact W.iret (v := (-3)) hx hb hr (fun t9 h9t h9W => ⟨⟨_, (L, f_1), rfl, ⟨rfl, hkp, Or.inr ⟨k, a, b, c_, rfl, ho, Or.inl ⟨hf, rfl, hB1⟩⟩⟩, by rw [h9t]; exact hP, hD⟩, hS.F h9t⟩) hS.2.2 d_Mo_condition_30
    · refine lv_icmp_ne (tgt := 31) hx hb d_Mo_condition_25 (by decide) (fun _ => ?_) (fun c9 => absurd c9 (fun z => hf ((nI_eq (by omega) (by omega)).mp z)))
      have hlt : cn < 60 := by omega
      refine lv_aload_n hx hb d_Mo_condition_31 rfl (lv_at hl 0 rfl) ?_
      refine va_get (D := G.1) (ci := 5) (v := .ref kA) (C := R_Mo) (T := T_Mo) (N := 14) hx hb hA in_Mo hown hK.1 (pl_o hP hmo) 0 rfl rfl 3 (by decide) (hA _ kw_179) (fun _ h9 => h9) rfl d_Mo_condition_32 ?_
      refine lv_aload_n hx hb d_Mo_condition_35 rfl (lv_at hl 0 rfl) ?_
      refine va_get (D := G.1) (ci := 5) (v := .int (nI cn)) (C := R_Mo) (T := T_Mo) (N := 14) hx hb hA in_Mo hown hK.1 (pl_o hP hmo) 0 rfl rfl 2 (by decide) (hA _ kw_170) (fun _ h9 => h9) rfl d_Mo_condition_36 ?_
      refine lv_iload_n hx hb d_Mo_condition_39 rfl (lv_at hl 1 rfl) ?_
      refine xw_iast hx hb hK.1 hP hD hS 4 hkA rfl (i := cn) (x := nI k) hlt (by decide) d_Mo_condition_40 (fun H locs hP hD hS => ?_)
      obtain ⟨f_2, ef_2⟩ : ∃ z : Nat → va_E, z = va_up f_1 kA (.inl (G.2 4, 60, .inl (upd (fun j => nI (kd j)) cn (nI k)))) := ⟨_, rfl⟩
      rw [← ef_2] at hP hD
      have hmo : Lk L f_2 mo (.inr (5, [.int (nI 0), .ref gA, .int (nI cn), .ref kA, .ref fA, .ref sA, .ref tA, .ref bA, .int (nI rn), .ref rA, .ref dA, .ref cA, .ref eA, .int (bI kn)])) := by rw [ef_2]; exact Lk.up hmo (Lk.neOA hmo hkA)
      have hgA : Lk L f_2 gA (.inl (G.2 4, 8, .inl gf)) := by rw [ef_2]; exact Lk.up hgA (Lk.neAA hgA hkA (by decide))
      have hfA : Lk L f_2 fA (.inl (G.2 4, 60, .inl ka)) := by rw [ef_2]; exact Lk.up hfA (Ne.symm hB.2.2.2.2.2.2.2.2.2.2.2.2.2.1)
      have hsA : Lk L f_2 sA (.inl (G.2 4, 60, .inl kb)) := by rw [ef_2]; exact Lk.up hsA (Ne.symm hB.2.2.2.2.2.2.2.2.2.2.2.2.2.2.1)
      have htA : Lk L f_2 tA (.inl (G.2 4, 60, .inl kc)) := by rw [ef_2]; exact Lk.up htA (Ne.symm hB.2.2.2.2.2.2.2.2.2.2.2.2.2.2.2.1)
      have hbA : Lk L f_2 bA (.inl (G.2 4, 11520, .inl bf)) := by rw [ef_2]; exact Lk.up hbA (Lk.neAA hbA hkA (by decide))
      have hrA : Lk L f_2 rA (.inl (G.2 4, 20, .inl (fun j => nI (rk j)))) := by rw [ef_2]; exact Lk.up hrA (Lk.neAA hrA hkA (by decide))
      have hdA : Lk L f_2 dA (.inl (G.2 1, 20, .inl (fun j => bI (dn j)))) := by rw [ef_2]; exact Lk.up hdA (Lk.neAA hdA hkA (by decide))
      have hcA : Lk L f_2 cA (.inl (G.2 4, 20, .inl (fun j => nI (rc j)))) := by rw [ef_2]; exact Lk.up hcA (Lk.neAA hcA hkA (by decide))
      have heA : Lk L f_2 eA (.inl (G.2 4, 6144, .inl xf)) := by rw [ef_2]; exact Lk.up heA (Lk.neAA heA hkA (by decide))
      have hkA : Lk L f_2 kA (.inl (G.2 4, 60, .inl (upd (fun j => nI (kd j)) cn (nI k)))) := by rw [ef_2]; exact Lk.set hkA
      have hkp : Kp (fun a => moE (f a)) L f (L, f_2) := by rw [ef_2]; exact hkp.up (moE_a hB.2.2.2.2.1 (by decide))
      have hkA : Lk L f_2 kA (.inl (G.2 4, 60, .inl (fun j => nI (va_up kd cn k j)))) := by have e8 : upd (fun j => nI (kd j)) cn (nI k) = (fun j => nI (va_up kd cn k j)) := upd_nI; rw [← e8]; exact hkA
      refine lv_aload_n hx hb d_Mo_condition_41 rfl (lv_at hl 0 rfl) ?_
      refine va_get (D := G.1) (ci := 5) (v := .ref fA) (C := R_Mo) (T := T_Mo) (N := 14) hx hb hA in_Mo hown hK.1 (pl_o hP hmo) 0 rfl rfl 4 (by decide) (hA _ kw_177) (fun _ h9 => h9) rfl d_Mo_condition_42 ?_
      refine lv_aload_n hx hb d_Mo_condition_45 rfl (lv_at hl 0 rfl) ?_
      refine va_get (D := G.1) (ci := 5) (v := .int (nI cn)) (C := R_Mo) (T := T_Mo) (N := 14) hx hb hA in_Mo hown hK.1 (pl_o hP hmo) 0 rfl rfl 2 (by decide) (hA _ kw_170) (fun _ h9 => h9) rfl d_Mo_condition_46 ?_
      refine lv_iload_n hx hb d_Mo_condition_49 rfl (lv_at hl 2 rfl) ?_
      refine xw_iast hx hb hK.1 hP hD hS 4 hfA rfl (i := cn) (x := x2) hlt (by decide) d_Mo_condition_50 (fun H locs hP hD hS => ?_)
      obtain ⟨f_3, ef_3⟩ : ∃ z : Nat → va_E, z = va_up f_2 fA (.inl (G.2 4, 60, .inl (upd ka cn x2))) := ⟨_, rfl⟩
      rw [← ef_3] at hP hD
      have hmo : Lk L f_3 mo (.inr (5, [.int (nI 0), .ref gA, .int (nI cn), .ref kA, .ref fA, .ref sA, .ref tA, .ref bA, .int (nI rn), .ref rA, .ref dA, .ref cA, .ref eA, .int (bI kn)])) := by rw [ef_3]; exact Lk.up hmo (Lk.neOA hmo hfA)
      have hgA : Lk L f_3 gA (.inl (G.2 4, 8, .inl gf)) := by rw [ef_3]; exact Lk.up hgA (Lk.neAA hgA hfA (by decide))
      have hkA : Lk L f_3 kA (.inl (G.2 4, 60, .inl (fun j => nI (va_up kd cn k j)))) := by rw [ef_3]; exact Lk.up hkA hB.2.2.2.2.2.2.2.2.2.2.2.2.2.1
      have hsA : Lk L f_3 sA (.inl (G.2 4, 60, .inl kb)) := by rw [ef_3]; exact Lk.up hsA (Ne.symm hB.2.2.2.2.2.2.2.2.2.2.2.2.2.2.2.2.1)
      have htA : Lk L f_3 tA (.inl (G.2 4, 60, .inl kc)) := by rw [ef_3]; exact Lk.up htA (Ne.symm hB.2.2.2.2.2.2.2.2.2.2.2.2.2.2.2.2.2.1)
      have hbA : Lk L f_3 bA (.inl (G.2 4, 11520, .inl bf)) := by rw [ef_3]; exact Lk.up hbA (Lk.neAA hbA hfA (by decide))
      have hrA : Lk L f_3 rA (.inl (G.2 4, 20, .inl (fun j => nI (rk j)))) := by rw [ef_3]; exact Lk.up hrA (Lk.neAA hrA hfA (by decide))
      have hdA : Lk L f_3 dA (.inl (G.2 1, 20, .inl (fun j => bI (dn j)))) := by rw [ef_3]; exact Lk.up hdA (Lk.neAA hdA hfA (by decide))
      have hcA : Lk L f_3 cA (.inl (G.2 4, 20, .inl (fun j => nI (rc j)))) := by rw [ef_3]; exact Lk.up hcA (Lk.neAA hcA hfA (by decide))
      have heA : Lk L f_3 eA (.inl (G.2 4, 6144, .inl xf)) := by rw [ef_3]; exact Lk.up heA (Lk.neAA heA hfA (by decide))
      have hfA : Lk L f_3 fA (.inl (G.2 4, 60, .inl (upd ka cn x2))) := by rw [ef_3]; exact Lk.set hfA
      have hkp : Kp (fun a => moE (f a)) L f (L, f_3) := by rw [ef_3]; exact hkp.up (moE_a hB.2.2.2.2.2.1 (by decide))
      have hfA : Lk L f_3 fA (.inl (G.2 4, 60, .inl (va_up ka cn x2))) := by have e8 : upd ka cn x2 = (va_up ka cn x2) := upd_va; rw [← e8]; exact hfA
      refine lv_aload_n hx hb d_Mo_condition_51 rfl (lv_at hl 0 rfl) ?_
      refine va_get (D := G.1) (ci := 5) (v := .ref sA) (C := R_Mo) (T := T_Mo) (N := 14) hx hb hA in_Mo hown hK.1 (pl_o hP hmo) 0 rfl rfl 5 (by decide) (hA _ kw_178) (fun _ h9 => h9) rfl d_Mo_condition_52 ?_
      refine lv_aload_n hx hb d_Mo_condition_55 rfl (lv_at hl 0 rfl) ?_
      refine va_get (D := G.1) (ci := 5) (v := .int (nI cn)) (C := R_Mo) (T := T_Mo) (N := 14) hx hb hA in_Mo hown hK.1 (pl_o hP hmo) 0 rfl rfl 2 (by decide) (hA _ kw_170) (fun _ h9 => h9) rfl d_Mo_condition_56 ?_
      refine lv_iload_n hx hb d_Mo_condition_59 rfl (lv_at hl 3 rfl) ?_
      refine xw_iast hx hb hK.1 hP hD hS 4 hsA rfl (i := cn) (x := x3) hlt (by decide) d_Mo_condition_60 (fun H locs hP hD hS => ?_)
      obtain ⟨f_4, ef_4⟩ : ∃ z : Nat → va_E, z = va_up f_3 sA (.inl (G.2 4, 60, .inl (upd kb cn x3))) := ⟨_, rfl⟩
      rw [← ef_4] at hP hD
      have hmo : Lk L f_4 mo (.inr (5, [.int (nI 0), .ref gA, .int (nI cn), .ref kA, .ref fA, .ref sA, .ref tA, .ref bA, .int (nI rn), .ref rA, .ref dA, .ref cA, .ref eA, .int (bI kn)])) := by rw [ef_4]; exact Lk.up hmo (Lk.neOA hmo hsA)
      have hgA : Lk L f_4 gA (.inl (G.2 4, 8, .inl gf)) := by rw [ef_4]; exact Lk.up hgA (Lk.neAA hgA hsA (by decide))
      have hkA : Lk L f_4 kA (.inl (G.2 4, 60, .inl (fun j => nI (va_up kd cn k j)))) := by rw [ef_4]; exact Lk.up hkA hB.2.2.2.2.2.2.2.2.2.2.2.2.2.2.1
      have hfA : Lk L f_4 fA (.inl (G.2 4, 60, .inl (va_up ka cn x2))) := by rw [ef_4]; exact Lk.up hfA hB.2.2.2.2.2.2.2.2.2.2.2.2.2.2.2.2.1
      have htA : Lk L f_4 tA (.inl (G.2 4, 60, .inl kc)) := by rw [ef_4]; exact Lk.up htA (Ne.symm hB.2.2.2.2.2.2.2.2.2.2.2.2.2.2.2.2.2.2.1)
      have hbA : Lk L f_4 bA (.inl (G.2 4, 11520, .inl bf)) := by rw [ef_4]; exact Lk.up hbA (Lk.neAA hbA hsA (by decide))
      have hrA : Lk L f_4 rA (.inl (G.2 4, 20, .inl (fun j => nI (rk j)))) := by rw [ef_4]; exact Lk.up hrA (Lk.neAA hrA hsA (by decide))
      have hdA : Lk L f_4 dA (.inl (G.2 1, 20, .inl (fun j => bI (dn j)))) := by rw [ef_4]; exact Lk.up hdA (Lk.neAA hdA hsA (by decide))
      have hcA : Lk L f_4 cA (.inl (G.2 4, 20, .inl (fun j => nI (rc j)))) := by rw [ef_4]; exact Lk.up hcA (Lk.neAA hcA hsA (by decide))
      have heA : Lk L f_4 eA (.inl (G.2 4, 6144, .inl xf)) := by rw [ef_4]; exact Lk.up heA (Lk.neAA heA hsA (by decide))
      have hsA : Lk L f_4 sA (.inl (G.2 4, 60, .inl (upd kb cn x3))) := by rw [ef_4]; exact Lk.set hsA
      have hkp : Kp (fun a => moE (f a)) L f (L, f_4) := by rw [ef_4]; exact hkp.up (moE_a hB.2.2.2.2.2.2.1 (by decide))
      have hsA : Lk L f_4 sA (.inl (G.2 4, 60, .inl (va_up kb cn x3))) := by have e8 : upd kb cn x3 = (va_up kb cn x3) := upd_va; rw [← e8]; exact hsA
      refine lv_aload_n hx hb d_Mo_condition_61 rfl (lv_at hl 0 rfl) ?_
      refine va_get (D := G.1) (ci := 5) (v := .ref tA) (C := R_Mo) (T := T_Mo) (N := 14) hx hb hA in_Mo hown hK.1 (pl_o hP hmo) 0 rfl rfl 6 (by decide) (hA _ kw_197) (fun _ h9 => h9) rfl d_Mo_condition_62 ?_
      refine lv_aload_n hx hb d_Mo_condition_65 rfl (lv_at hl 0 rfl) ?_
      refine va_get (D := G.1) (ci := 5) (v := .int (nI cn)) (C := R_Mo) (T := T_Mo) (N := 14) hx hb hA in_Mo hown hK.1 (pl_o hP hmo) 0 rfl rfl 2 (by decide) (hA _ kw_170) (fun _ h9 => h9) rfl d_Mo_condition_66 ?_
      refine lv_iload hx hb d_Mo_condition_69 (lv_at hl 4 rfl) ?_
      refine xw_iast hx hb hK.1 hP hD hS 4 htA rfl (i := cn) (x := x4) hlt (by decide) d_Mo_condition_71 (fun H locs hP hD hS => ?_)
      obtain ⟨f_5, ef_5⟩ : ∃ z : Nat → va_E, z = va_up f_4 tA (.inl (G.2 4, 60, .inl (upd kc cn x4))) := ⟨_, rfl⟩
      rw [← ef_5] at hP hD
      have hmo : Lk L f_5 mo (.inr (5, [.int (nI 0), .ref gA, .int (nI cn), .ref kA, .ref fA, .ref sA, .ref tA, .ref bA, .int (nI rn), .ref rA, .ref dA, .ref cA, .ref eA, .int (bI kn)])) := by rw [ef_5]; exact Lk.up hmo (Lk.neOA hmo htA)
      have hgA : Lk L f_5 gA (.inl (G.2 4, 8, .inl gf)) := by rw [ef_5]; exact Lk.up hgA (Lk.neAA hgA htA (by decide))
      have hkA : Lk L f_5 kA (.inl (G.2 4, 60, .inl (fun j => nI (va_up kd cn k j)))) := by rw [ef_5]; exact Lk.up hkA hB.2.2.2.2.2.2.2.2.2.2.2.2.2.2.2.1
      have hfA : Lk L f_5 fA (.inl (G.2 4, 60, .inl (va_up ka cn x2))) := by rw [ef_5]; exact Lk.up hfA hB.2.2.2.2.2.2.2.2.2.2.2.2.2.2.2.2.2.1
      have hsA : Lk L f_5 sA (.inl (G.2 4, 60, .inl (va_up kb cn x3))) := by rw [ef_5]; exact Lk.up hsA hB.2.2.2.2.2.2.2.2.2.2.2.2.2.2.2.2.2.2.1
      have hbA : Lk L f_5 bA (.inl (G.2 4, 11520, .inl bf)) := by rw [ef_5]; exact Lk.up hbA (Lk.neAA hbA htA (by decide))
      have hrA : Lk L f_5 rA (.inl (G.2 4, 20, .inl (fun j => nI (rk j)))) := by rw [ef_5]; exact Lk.up hrA (Lk.neAA hrA htA (by decide))
      have hdA : Lk L f_5 dA (.inl (G.2 1, 20, .inl (fun j => bI (dn j)))) := by rw [ef_5]; exact Lk.up hdA (Lk.neAA hdA htA (by decide))
      have hcA : Lk L f_5 cA (.inl (G.2 4, 20, .inl (fun j => nI (rc j)))) := by rw [ef_5]; exact Lk.up hcA (Lk.neAA hcA htA (by decide))
      have heA : Lk L f_5 eA (.inl (G.2 4, 6144, .inl xf)) := by rw [ef_5]; exact Lk.up heA (Lk.neAA heA htA (by decide))
      have htA : Lk L f_5 tA (.inl (G.2 4, 60, .inl (upd kc cn x4))) := by rw [ef_5]; exact Lk.set htA
      have hkp : Kp (fun a => moE (f a)) L f (L, f_5) := by rw [ef_5]; exact hkp.up (moE_a hB.2.2.2.2.2.2.2.1 (by decide))
      have htA : Lk L f_5 tA (.inl (G.2 4, 60, .inl (va_up kc cn x4))) := by have e8 : upd kc cn x4 = (va_up kc cn x4) := upd_va; rw [← e8]; exact htA
      have hB2 : MoB G L f_5 mo gA kA fA sA tA bA rA dA cA eA cn rn kn gf (va_up kd cn k) (va_up ka cn x2) (va_up kb cn x3) (va_up kc cn x4) bf rk dn rc xf := ⟨hB.1, hB.2.1, hmo, hgA, hkA, hfA, hsA, htA, hbA, hrA, hdA, hcA, heA, hB.2.2.2.2.2.2.2.2.2.2.2.2.2⟩
      refine lv_aload_n hx hb d_Mo_condition_72 rfl (lv_at hl 0 rfl) ?_
      refine lv_aload_n hx hb d_Mo_condition_73 rfl (lv_at hl 0 rfl) ?_
      refine va_get (D := G.1) (ci := 5) (v := .int (nI cn)) (C := R_Mo) (T := T_Mo) (N := 14) hx hb hA in_Mo hown hK.1 (pl_o hP hmo) 0 rfl rfl 2 (by decide) (hA _ kw_170) (fun _ h9 => h9) rfl d_Mo_condition_74 ?_
      have ho2 : okC cn (va_up kd cn k cn) (va_up ka cn x2 cn) (va_up kb cn x3 cn) (va_up kc cn x4 cn) a b c_ := by rw [va_up_self, va_up_self, va_up_self, va_up_self]; exact ho
      have hFc := am_free hD hS hA0
      refine va_callv (va_runV (As := [.int (nI cn)]) (rest := []) ⟨hx, hb, hml, hown, hA⟩ (c_Mo_make l G L f_5 H.size (pl_nd hD) hB2 hG cn hlt ho2) ⟨callB_of 1 hA (gAW kw_224) rfl rfl rfl (hA _ kw_172) (hA _ kw_225) (by decide +kernel) ⟨Nat.le_of_ble_eq_true rfl, Nat.le_of_ble_eq_true rfl⟩, (hA _ kw_226), (hA _ kw_227)⟩ (pz_preV (ci := 5) hP hK hmo rfl) rfl rfl hl.1 rfl (lv_room (Nat.le_of_ble_eq_true rfl)) d_Mo_condition_77 ⟨Nat.le_of_ble_eq_true rfl, Nat.le_of_ble_eq_true rfl⟩) hS (fun q _ h => hFc q h) hFc (fun u9 t9 H1 locs ht9 hvm hw hWB hz1 hk1 hS => ?_)
      obtain ⟨L_6, f_6⟩ := u9
      obtain ⟨hP, hD1⟩ := hWB
      rw [ht9] at hP
      have hD := va_Dw hD1 hFc
      clear hD1 hk1 hz1 hFc ht9 hvm
      generalize H1 = H at hP hS ⊢
      dsimp only at hP hD
      obtain ⟨hz1, hk1, bw, hBw, hw1, hw2⟩ := hw
      try dsimp only at hz1 hk1 hBw
      replace hz1 := hz1.symm
      subst hz1
      have hkp : Kp (fun a => moE (f a)) L f (L, f_6) := Kp.mo hkp hk1
      have hmo : Lk L f_6 mo (.inr (5, [.int (nI 0), .ref gA, .int (nI cn), .ref kA, .ref fA, .ref sA, .ref tA, .ref bA, .int (nI rn), .ref rA, .ref dA, .ref cA, .ref eA, .int (bI kn)])) := hBw.2.2.1
      have hgA : Lk L f_6 gA (.inl (G.2 4, 8, .inl gf)) := hBw.2.2.2.1
      have hkA : Lk L f_6 kA (.inl (G.2 4, 60, .inl (fun j => nI ((va_up kd cn k) j)))) := hBw.2.2.2.2.1
      have hfA : Lk L f_6 fA (.inl (G.2 4, 60, .inl (va_up ka cn x2))) := hBw.2.2.2.2.2.1
      have hsA : Lk L f_6 sA (.inl (G.2 4, 60, .inl (va_up kb cn x3))) := hBw.2.2.2.2.2.2.1
      have htA : Lk L f_6 tA (.inl (G.2 4, 60, .inl (va_up kc cn x4))) := hBw.2.2.2.2.2.2.2.1
      have hbA : Lk L f_6 bA (.inl (G.2 4, 11520, .inl bw)) := hBw.2.2.2.2.2.2.2.2.1
      have hrA : Lk L f_6 rA (.inl (G.2 4, 20, .inl (fun j => nI (rk j)))) := hBw.2.2.2.2.2.2.2.2.2.1
      have hdA : Lk L f_6 dA (.inl (G.2 1, 20, .inl (fun j => bI (dn j)))) := hBw.2.2.2.2.2.2.2.2.2.2.1
      have hcA : Lk L f_6 cA (.inl (G.2 4, 20, .inl (fun j => nI (rc j)))) := hBw.2.2.2.2.2.2.2.2.2.2.2.1
      have heA : Lk L f_6 eA (.inl (G.2 4, 6144, .inl xf)) := hBw.2.2.2.2.2.2.2.2.2.2.2.2.1
      rw [va_up_self] at hw1
      refine lv_aload_n hx hb d_Mo_condition_80 rfl (lv_at hl 0 rfl) ?_
      refine lv_dup hx hb d_Mo_condition_81 rfl ?_
      refine va_get (D := G.1) (ci := 5) (v := .int (nI cn)) (C := R_Mo) (T := T_Mo) (N := 14) hx hb hA in_Mo hown hK.1 (pl_o hP hmo) 0 rfl rfl 2 (by decide) (hA _ kw_170) (fun _ h9 => h9) rfl d_Mo_condition_82 ?_
      refine lv_iconst (v := nI 1) hx hb d_Mo_condition_85 (by decide) ?_
      refine lv_iadd hx hb d_Mo_condition_86 ?_
      refine xv_I (y := nI (cn + 1)) (nI_add _ _) ?_
      refine xw_put (D := G.1) (ci := 5) (v := .int (nI (cn + 1))) (ty := .int) (C := R_Mo) (T := T_Mo) (N := 14) (fs' := [.int (nI 0), .ref gA, .int (nI (cn + 1)), .ref kA, .ref fA, .ref sA, .ref tA, .ref bA, .int (nI rn), .ref rA, .ref dA, .ref cA, .ref eA, .int (bI kn)]) hx hb hA in_Mo ty_Mo tyok_Mo nm_Mo hown hK.1 hP hD hS hmo rfl 2 (by decide) (hA _ kw_170) (fun _ h9 => h9) rfl (by decide +kernel) rfl rfl (Nat.le_of_ble_eq_true rfl) d_Mo_condition_87 rfl (fun H locs hP hD hS => ?_)
      obtain ⟨f_7, ef_7⟩ : ∃ z : Nat → va_E, z = va_up f_6 mo (.inr (5, [.int (nI 0), .ref gA, .int (nI (cn + 1)), .ref kA, .ref fA, .ref sA, .ref tA, .ref bA, .int (nI rn), .ref rA, .ref dA, .ref cA, .ref eA, .int (bI kn)])) := ⟨_, rfl⟩
      rw [← ef_7] at hP hD
      have hgA : Lk L f_7 gA (.inl (G.2 4, 8, .inl gf)) := by rw [ef_7]; exact Lk.up hgA (Ne.symm (Lk.neOA hmo hgA))
      have hkA : Lk L f_7 kA (.inl (G.2 4, 60, .inl (fun j => nI ((va_up kd cn k) j)))) := by rw [ef_7]; exact Lk.up hkA (Ne.symm (Lk.neOA hmo hkA))
      have hfA : Lk L f_7 fA (.inl (G.2 4, 60, .inl (va_up ka cn x2))) := by rw [ef_7]; exact Lk.up hfA (Ne.symm (Lk.neOA hmo hfA))
      have hsA : Lk L f_7 sA (.inl (G.2 4, 60, .inl (va_up kb cn x3))) := by rw [ef_7]; exact Lk.up hsA (Ne.symm (Lk.neOA hmo hsA))
      have htA : Lk L f_7 tA (.inl (G.2 4, 60, .inl (va_up kc cn x4))) := by rw [ef_7]; exact Lk.up htA (Ne.symm (Lk.neOA hmo htA))
      have hbA : Lk L f_7 bA (.inl (G.2 4, 11520, .inl bw)) := by rw [ef_7]; exact Lk.up hbA (Ne.symm (Lk.neOA hmo hbA))
      have hrA : Lk L f_7 rA (.inl (G.2 4, 20, .inl (fun j => nI (rk j)))) := by rw [ef_7]; exact Lk.up hrA (Ne.symm (Lk.neOA hmo hrA))
      have hdA : Lk L f_7 dA (.inl (G.2 1, 20, .inl (fun j => bI (dn j)))) := by rw [ef_7]; exact Lk.up hdA (Ne.symm (Lk.neOA hmo hdA))
      have hcA : Lk L f_7 cA (.inl (G.2 4, 20, .inl (fun j => nI (rc j)))) := by rw [ef_7]; exact Lk.up hcA (Ne.symm (Lk.neOA hmo hcA))
      have heA : Lk L f_7 eA (.inl (G.2 4, 6144, .inl xf)) := by rw [ef_7]; exact Lk.up heA (Ne.symm (Lk.neOA hmo heA))
      have hmo : Lk L f_7 mo (.inr (5, [.int (nI 0), .ref gA, .int (nI (cn + 1)), .ref kA, .ref fA, .ref sA, .ref tA, .ref bA, .int (nI rn), .ref rA, .ref dA, .ref cA, .ref eA, .int (bI kn)])) := by rw [ef_7]; exact Lk.set hmo
      have hkp : Kp (fun a => moE (f a)) L f (L, f_7) := by rw [ef_7]; exact hkp.up (moE_o hB.2.2.1)
      have hB9 : MoB G L f_7 mo gA kA fA sA tA bA rA dA cA eA (cn + 1) rn kn gf (va_up kd cn k) (va_up ka cn x2) (va_up kb cn x3) (va_up kc cn x4) bw rk dn rc xf := ⟨hlt, hB.2.1, hmo, hgA, hkA, hfA, hsA, htA, hbA, hrA, hdA, hcA, heA, hB.2.2.2.2.2.2.2.2.2.2.2.2.2⟩
      refine lv_aload_n hx hb d_Mo_condition_90 rfl (lv_at hl 0 rfl) ?_
      refine va_get (D := G.1) (ci := 5) (v := .int (nI (cn + 1))) (C := R_Mo) (T := T_Mo) (N := 14) hx hb hA in_Mo hown hK.1 (pl_o hP hmo) 0 rfl rfl 2 (by decide) (hA _ kw_170) (fun _ h9 => h9) rfl d_Mo_condition_91 ?_
      refine lv_iconst (v := nI 1) hx hb d_Mo_condition_94 (by decide) ?_
      refine lv_isub hx hb d_Mo_condition_95 ?_
      refine xv_I (y := nI cn) (nI_pred cn) ?_
      exact W.iret (v := nI cn) hx hb hr (fun t9 h9t h9W => ⟨⟨_, (L, f_7), rfl, ⟨rfl, hkp, Or.inr ⟨k, a, b, c_, rfl, ho, Or.inr ⟨hlt, rfl, bw, hB9, hw1, hw2⟩⟩⟩, by rw [h9t]; exact hP, hD⟩, hS.F h9t⟩) hS.2.2 d_Mo_condition_96

set_option maxHeartbeats 4000000 in
set_option maxRecDepth 100000 in
/-- rule -/
theorem c_Mo_rule (l : Launch) (G : GG) (L : List Nat) (f : Nat → va_E) (sz : Nat) (hN : L.Nodup) {mo gA kA fA sA tA bA rA dA cA eA cn rn : Nat} {kn : Bool} {gf : Nat → Int32} {kd : Nat → Nat} {ka kb kc bf : Nat → Int32} {rk : Nat → Nat} {dn : Nat → Bool} {rc : Nat → Nat} {xf : Nat → Int32} (hB : MoB G L f mo gA kA fA sA tA bA rA dA cA eA cn rn kn gf kd ka kb kc bf rk dn rc xf) (x y : Int32) (b : Bool) : Met l y_Mo_rule (.code y_Mo_rule b_Mo_rule 4 (some .int) :: AW) (RW 2 0 0) (va_Pc [.ref mo, .int x, .int (bI b), .int y] (PZ G L f sz)) (va_Qi (fun r z => z.1 = L ∧ Kp (fun a => moE (f a)) L f z ∧ (((blw y (nI cn) = false ∨ blw x (nI 10) = false) ∧ r = -1 ∧ MoB G L z.2 mo gA kA fA sA tA bA rA dA cA eA cn rn kn gf kd ka kb kc bf rk dn rc xf) ∨ ∃ u t, u < 10 ∧ t < cn ∧ x = nI u ∧ y = nI t ∧ ((rn = 20 ∧ r = -3 ∧ MoB G L z.2 mo gA kA fA sA tA bA rA dA cA eA cn rn kn gf kd ka kb kc bf rk dn rc xf) ∨ (rn < 20 ∧ r = nI rn ∧ MoB G L z.2 mo gA kA fA sA tA bA rA dA cA eA cn (rn + 1) false gf kd ka kb kc bf (va_up rk rn u) (va_up dn rn b) (va_up rc rn t) xf)))) (BZ G (Am L sz)) (Am L sz)) 0 0 (Am L sz) := by
  refine Met.ofW (cc := b_Mo_rule) (maxL := 4) (ret := (some .int)) (by decide) rfl ?_
  intro p e s m args below meth c s₁ B hml hv
  obtain ⟨rfl, hsz, hP, hK⟩ := hv
  have hx := B.exec
  have hb := B.bytes
  have hr := B.returns
  have hA : ∀ w ∈ AW, w.before _ s = true := fun w h => atoms_spec (ws := (.code y_Mo_rule b_Mo_rule 4 (some .int) :: AW)) B.pre w (List.mem_cons_of_mem _ h)
  have hown : s.vm.findClass R_Mo = some m.cls := findClass_of_methodNamed B.named
  have hlocks := B.notSynchronized
  subst hsz
  have hD : va_D (Am L s.heap.size) (va_pl L f) := pl_D hN (fun _ h => Or.inl h)
  have hA0 : ∀ q, s.heap.size ≤ q → Am L s.heap.size q := fun q h => Or.inr h
  generalize Am L s.heap.size = A at hD hA0 ⊢
  have hS : va_S A s.heap s.heap [] := va_S.rf
  have hkp : Kp (fun a => moE (f a)) L f (L, f) := Kp.rf
  have hl := lv_entry ([.ref mo, .int x, .int (bI b), .int y]) (n := 4) (Nat.le_of_ble_eq_true rfl)
  rw [lg_entry_eq]
  generalize (lg_sl ([.ref mo, .int x, .int (bI b), .int y]) ++ List.replicate (4 - (lg_sl ([.ref mo, .int x, .int (bI b), .int y])).length) Slot.unset).toArray = ls at hl ⊢
  have hl : lv_has ls 4 [(0, .ref mo), (1, .int x), (2, .int (bI b)), (3, .int y)] := hl
  have hmo : Lk L f mo (.inr (5, [.int (nI 0), .ref gA, .int (nI cn), .ref kA, .ref fA, .ref sA, .ref tA, .ref bA, .int (nI rn), .ref rA, .ref dA, .ref cA, .ref eA, .int (bI kn)])) := hB.2.2.1
  have hgA : Lk L f gA (.inl (G.2 4, 8, .inl gf)) := hB.2.2.2.1
  have hkA : Lk L f kA (.inl (G.2 4, 60, .inl (fun j => nI (kd j)))) := hB.2.2.2.2.1
  have hfA : Lk L f fA (.inl (G.2 4, 60, .inl ka)) := hB.2.2.2.2.2.1
  have hsA : Lk L f sA (.inl (G.2 4, 60, .inl kb)) := hB.2.2.2.2.2.2.1
  have htA : Lk L f tA (.inl (G.2 4, 60, .inl kc)) := hB.2.2.2.2.2.2.2.1
  have hbA : Lk L f bA (.inl (G.2 4, 11520, .inl bf)) := hB.2.2.2.2.2.2.2.2.1
  have hrA : Lk L f rA (.inl (G.2 4, 20, .inl (fun j => nI (rk j)))) := hB.2.2.2.2.2.2.2.2.2.1
  have hdA : Lk L f dA (.inl (G.2 1, 20, .inl (fun j => bI (dn j)))) := hB.2.2.2.2.2.2.2.2.2.2.1
  have hcA : Lk L f cA (.inl (G.2 4, 20, .inl (fun j => nI (rc j)))) := hB.2.2.2.2.2.2.2.2.2.2.2.1
  have heA : Lk L f eA (.inl (G.2 4, 6144, .inl xf)) := hB.2.2.2.2.2.2.2.2.2.2.2.2.1
  refine lv_aload_n hx hb d_Mo_rule_0 rfl (lv_at hl 0 rfl) ?_
  refine lv_iconst (v := nI 0) hx hb d_Mo_rule_1 (by decide) ?_
  refine xw_put (D := G.1) (ci := 5) (v := .int (nI 0)) (ty := .int) (C := R_Mo) (T := T_Mo) (N := 14) (fs' := [.int (nI 0), .ref gA, .int (nI cn), .ref kA, .ref fA, .ref sA, .ref tA, .ref bA, .int (nI rn), .ref rA, .ref dA, .ref cA, .ref eA, .int (bI kn)]) hx hb hA in_Mo ty_Mo tyok_Mo nm_Mo hown hK.1 hP hD hS hmo rfl 0 (by decide) (hA _ kw_223) (fun _ h9 => h9) rfl (by decide +kernel) rfl rfl (Nat.le_of_ble_eq_true rfl) d_Mo_rule_2 rfl (fun H locs hP hD hS => ?_)
  obtain ⟨f_1, ef_1⟩ : ∃ z : Nat → va_E, z = va_up f mo (.inr (5, [.int (nI 0), .ref gA, .int (nI cn), .ref kA, .ref fA, .ref sA, .ref tA, .ref bA, .int (nI rn), .ref rA, .ref dA, .ref cA, .ref eA, .int (bI kn)])) := ⟨_, rfl⟩
  rw [← ef_1] at hP hD
  have hgA : Lk L f_1 gA (.inl (G.2 4, 8, .inl gf)) := by rw [ef_1]; exact Lk.up hgA (Ne.symm (Lk.neOA hmo hgA))
  have hkA : Lk L f_1 kA (.inl (G.2 4, 60, .inl (fun j => nI (kd j)))) := by rw [ef_1]; exact Lk.up hkA (Ne.symm (Lk.neOA hmo hkA))
  have hfA : Lk L f_1 fA (.inl (G.2 4, 60, .inl ka)) := by rw [ef_1]; exact Lk.up hfA (Ne.symm (Lk.neOA hmo hfA))
  have hsA : Lk L f_1 sA (.inl (G.2 4, 60, .inl kb)) := by rw [ef_1]; exact Lk.up hsA (Ne.symm (Lk.neOA hmo hsA))
  have htA : Lk L f_1 tA (.inl (G.2 4, 60, .inl kc)) := by rw [ef_1]; exact Lk.up htA (Ne.symm (Lk.neOA hmo htA))
  have hbA : Lk L f_1 bA (.inl (G.2 4, 11520, .inl bf)) := by rw [ef_1]; exact Lk.up hbA (Ne.symm (Lk.neOA hmo hbA))
  have hrA : Lk L f_1 rA (.inl (G.2 4, 20, .inl (fun j => nI (rk j)))) := by rw [ef_1]; exact Lk.up hrA (Ne.symm (Lk.neOA hmo hrA))
  have hdA : Lk L f_1 dA (.inl (G.2 1, 20, .inl (fun j => bI (dn j)))) := by rw [ef_1]; exact Lk.up hdA (Ne.symm (Lk.neOA hmo hdA))
  have hcA : Lk L f_1 cA (.inl (G.2 4, 20, .inl (fun j => nI (rc j)))) := by rw [ef_1]; exact Lk.up hcA (Ne.symm (Lk.neOA hmo hcA))
  have heA : Lk L f_1 eA (.inl (G.2 4, 6144, .inl xf)) := by rw [ef_1]; exact Lk.up heA (Ne.symm (Lk.neOA hmo heA))
  have hmo : Lk L f_1 mo (.inr (5, [.int (nI 0), .ref gA, .int (nI cn), .ref kA, .ref fA, .ref sA, .ref tA, .ref bA, .int (nI rn), .ref rA, .ref dA, .ref cA, .ref eA, .int (bI kn)])) := by rw [ef_1]; exact Lk.set hmo
  have hkp : Kp (fun a => moE (f a)) L f (L, f_1) := by rw [ef_1]; exact hkp.up (moE_o hB.2.2.1)
  have hB1 : MoB G L f_1 mo gA kA fA sA tA bA rA dA cA eA cn rn kn gf kd ka kb kc bf rk dn rc xf := ⟨hB.1, hB.2.1, hmo, hgA, hkA, hfA, hsA, htA, hbA, hrA, hdA, hcA, heA, hB.2.2.2.2.2.2.2.2.2.2.2.2.2⟩
  have hc60 := hB.1
  have hr20 := hB.2.1
  refine lv_iload_n hx hb d_Mo_rule_5 rfl (lv_at hl 1 rfl) ?_
  refine lv_iconst (v := nI 0) hx hb d_Mo_rule_6 (by decide) ?_
  refine lv_bipush (v := nI 9) hx hb d_Mo_rule_7 (by decide) ?_
  refine vp_callSi (va_Run.run (va_runS (As := [.int x, .int (nI 0), .int (nI 9)]) (rest := []) ⟨hx, hb, hml, hown, hA⟩ (c_Mo_isIn l G L f_1 x (nI 0) (nI 9)) ⟨callB_of 3 hA (gAW kw_171) rfl rfl rfl (hA _ kw_172) (hA _ kw_173) (by decide +kernel) ⟨Nat.le_of_ble_eq_true rfl, Nat.le_of_ble_eq_true rfl⟩, (hA _ kw_174)⟩ (pw_preS hP hK) rfl rfl hl.1 rfl (lv_room (Nat.le_of_ble_eq_true rfl)) d_Mo_rule_9 ⟨Nat.zero_le _, Nat.zero_le _⟩)) (fun r_1 e_2 => ?_)
  subst e_2
  refine xv_I (y := bI (blw x (nI 10))) (congrArg bI (inB_0 (by decide))) ?_
  rcases bcase (blw x (nI 10)) with hb_0 | hb_0
  · refine lv_if_eq (tgt := 23) hx hb d_Mo_rule_12 (by decide) (fun _ => ?_) (fun c9 => absurd (by rw [hb_0]; rfl) c9)
    refine lv_iconst (v := (-1)) hx hb d_Mo_rule_23 (by decide) ?_
    exact W.iret (v := (-1)) hx hb hr (fun t9 h9t h9W => ⟨⟨_, (L, f_1), rfl, ⟨rfl, hkp, Or.inl ⟨Or.inr hb_0, rfl, hB1⟩⟩, by rw [h9t]; exact hP, hD⟩, hS.F h9t⟩) hS.2.2 d_Mo_rule_24
  · refine lv_if_eq (tgt := 23) hx hb d_Mo_rule_12 (by decide) (fun c9 => absurd c9 (by rw [hb_0]; decide)) (fun _ => ?_)
    obtain ⟨u, hu, rfl⟩ := blw_of (by omega) hb_0
    refine lv_aload_n hx hb d_Mo_rule_15 rfl (lv_at hl 0 rfl) ?_
    refine lv_iload_n hx hb d_Mo_rule_16 rfl (lv_at hl 3 rfl) ?_
    refine vp_callSi (va_Run.run (va_runV (As := [.int y]) (rest := []) ⟨hx, hb, hml, hown, hA⟩ (c_Mo_isC l G L f_1 hB1 y) ⟨callB_of 1 hA (gAW kw_198) rfl rfl rfl (hA _ kw_172) (hA _ kw_199) (by decide +kernel) ⟨Nat.le_of_ble_eq_true rfl, Nat.le_of_ble_eq_true rfl⟩, (hA _ kw_200), (hA _ kw_201)⟩ (pw_preV (ci := 5) hP hK hmo rfl) rfl rfl hl.1 rfl (lv_room (Nat.le_of_ble_eq_true rfl)) d_Mo_rule_17 ⟨Nat.zero_le _, Nat.zero_le _⟩)) (fun r_3 e_4 => ?_)
    subst e_4
    rcases bcase (blw y (nI cn)) with hb_1 | hb_1
    · refine lv_if_ne (tgt := 25) hx hb d_Mo_rule_20 (by decide) (fun c9 => absurd (by rw [hb_1]; rfl) c9) (fun _ => ?_)
      refine lv_iconst (v := (-1)) hx hb d_Mo_rule_23 (by decide) ?_
      exact W.iret (v := (-1)) hx hb hr (fun t9 h9t h9W => ⟨⟨_, (L, f_1), rfl, ⟨rfl, hkp, Or.inl ⟨Or.inl hb_1, rfl, hB1⟩⟩, by rw [h9t]; exact hP, hD⟩, hS.F h9t⟩) hS.2.2 d_Mo_rule_24
    · refine lv_if_ne (tgt := 25) hx hb d_Mo_rule_20 (by decide) (fun _ => ?_) (fun c9 => absurd c9 (by rw [hb_1]; decide))
      obtain ⟨t, ht, rfl⟩ := blw_of (by omega) hb_1
      refine lv_aload_n hx hb d_Mo_rule_25 rfl (lv_at hl 0 rfl) ?_
      refine va_get (D := G.1) (ci := 5) (v := .int (nI rn)) (C := R_Mo) (T := T_Mo) (N := 14) hx hb hA in_Mo hown hK.1 (pl_o hP hmo) 0 rfl rfl 8 (by decide) (hA _ kw_175) (fun _ h9 => h9) rfl d_Mo_rule_26 ?_
      refine lv_bipush (v := nI 20) hx hb d_Mo_rule_29 (by decide) ?_
      by_cases hf : rn = 20
      · refine lv_icmp_ne (tgt := 37) hx hb d_Mo_rule_31 (by decide) (fun c9 => absurd (congrArg nI hf) c9) (fun _ => ?_)
        refine lv_bipush (v := (-3)) hx hb d_Mo_rule_34 (by decide) ?_
        exact W.iret (v := (-3)) hx hb hr (fun t9 h9t h9W => ⟨⟨_, (L, f_1), rfl, ⟨rfl, hkp, Or.inr ⟨u, t, hu, ht, rfl, rfl, Or.inl ⟨hf, rfl, hB1⟩⟩⟩, by rw [h9t]; exact hP, hD⟩, hS.F h9t⟩) hS.2.2 d_Mo_rule_36
      · refine lv_icmp_ne (tgt := 37) hx hb d_Mo_rule_31 (by decide) (fun _ => ?_) (fun c9 => absurd c9 (fun z => hf ((nI_eq (by omega) (by omega)).mp z)))
        have hlt : rn < 20 := by omega
        refine lv_aload_n hx hb d_Mo_rule_37 rfl (lv_at hl 0 rfl) ?_
        refine va_get (D := G.1) (ci := 5) (v := .ref rA) (C := R_Mo) (T := T_Mo) (N := 14) hx hb hA in_Mo hown hK.1 (pl_o hP hmo) 0 rfl rfl 9 (by decide) (hA _ kw_202) (fun _ h9 => h9) rfl d_Mo_rule_38 ?_
        refine lv_aload_n hx hb d_Mo_rule_41 rfl (lv_at hl 0 rfl) ?_
        refine va_get (D := G.1) (ci := 5) (v := .int (nI rn)) (C := R_Mo) (T := T_Mo) (N := 14) hx hb hA in_Mo hown hK.1 (pl_o hP hmo) 0 rfl rfl 8 (by decide) (hA _ kw_175) (fun _ h9 => h9) rfl d_Mo_rule_42 ?_
        refine lv_iload_n hx hb d_Mo_rule_45 rfl (lv_at hl 1 rfl) ?_
        refine xw_iast hx hb hK.1 hP hD hS 4 hrA rfl (i := rn) (x := nI u) hlt (by decide) d_Mo_rule_46 (fun H locs hP hD hS => ?_)
        obtain ⟨f_2, ef_2⟩ : ∃ z : Nat → va_E, z = va_up f_1 rA (.inl (G.2 4, 20, .inl (upd (fun j => nI (rk j)) rn (nI u)))) := ⟨_, rfl⟩
        rw [← ef_2] at hP hD
        have hmo : Lk L f_2 mo (.inr (5, [.int (nI 0), .ref gA, .int (nI cn), .ref kA, .ref fA, .ref sA, .ref tA, .ref bA, .int (nI rn), .ref rA, .ref dA, .ref cA, .ref eA, .int (bI kn)])) := by rw [ef_2]; exact Lk.up hmo (Lk.neOA hmo hrA)
        have hgA : Lk L f_2 gA (.inl (G.2 4, 8, .inl gf)) := by rw [ef_2]; exact Lk.up hgA (Lk.neAA hgA hrA (by decide))
        have hkA : Lk L f_2 kA (.inl (G.2 4, 60, .inl (fun j => nI (kd j)))) := by rw [ef_2]; exact Lk.up hkA (Lk.neAA hkA hrA (by decide))
        have hfA : Lk L f_2 fA (.inl (G.2 4, 60, .inl ka)) := by rw [ef_2]; exact Lk.up hfA (Lk.neAA hfA hrA (by decide))
        have hsA : Lk L f_2 sA (.inl (G.2 4, 60, .inl kb)) := by rw [ef_2]; exact Lk.up hsA (Lk.neAA hsA hrA (by decide))
        have htA : Lk L f_2 tA (.inl (G.2 4, 60, .inl kc)) := by rw [ef_2]; exact Lk.up htA (Lk.neAA htA hrA (by decide))
        have hbA : Lk L f_2 bA (.inl (G.2 4, 11520, .inl bf)) := by rw [ef_2]; exact Lk.up hbA (Lk.neAA hbA hrA (by decide))
        have hdA : Lk L f_2 dA (.inl (G.2 1, 20, .inl (fun j => bI (dn j)))) := by rw [ef_2]; exact Lk.up hdA (Ne.symm hB.2.2.2.2.2.2.2.2.2.2.2.2.2.2.2.2.2.2.2.1)
        have hcA : Lk L f_2 cA (.inl (G.2 4, 20, .inl (fun j => nI (rc j)))) := by rw [ef_2]; exact Lk.up hcA (Ne.symm hB.2.2.2.2.2.2.2.2.2.2.2.2.2.2.2.2.2.2.2.2.1)
        have heA : Lk L f_2 eA (.inl (G.2 4, 6144, .inl xf)) := by rw [ef_2]; exact Lk.up heA (Lk.neAA heA hrA (by decide))
        have hrA : Lk L f_2 rA (.inl (G.2 4, 20, .inl (upd (fun j => nI (rk j)) rn (nI u)))) := by rw [ef_2]; exact Lk.set hrA
        have hkp : Kp (fun a => moE (f a)) L f (L, f_2) := by rw [ef_2]; exact hkp.up (moE_a hB.2.2.2.2.2.2.2.2.2.1 (by decide))
        have hrA : Lk L f_2 rA (.inl (G.2 4, 20, .inl (fun j => nI (va_up rk rn u j)))) := by have e8 : upd (fun j => nI (rk j)) rn (nI u) = (fun j => nI (va_up rk rn u j)) := upd_nI; rw [← e8]; exact hrA
        refine lv_aload_n hx hb d_Mo_rule_47 rfl (lv_at hl 0 rfl) ?_
        refine va_get (D := G.1) (ci := 5) (v := .ref dA) (C := R_Mo) (T := T_Mo) (N := 14) hx hb hA in_Mo hown hK.1 (pl_o hP hmo) 0 rfl rfl 10 (by decide) (hA _ kw_208) (fun _ h9 => h9) rfl d_Mo_rule_48 ?_
        refine lv_aload_n hx hb d_Mo_rule_51 rfl (lv_at hl 0 rfl) ?_
        refine va_get (D := G.1) (ci := 5) (v := .int (nI rn)) (C := R_Mo) (T := T_Mo) (N := 14) hx hb hA in_Mo hown hK.1 (pl_o hP hmo) 0 rfl rfl 8 (by decide) (hA _ kw_175) (fun _ h9 => h9) rfl d_Mo_rule_52 ?_
        refine lv_iload_n hx hb d_Mo_rule_55 rfl (lv_at hl 2 rfl) ?_
        refine xw_zast hx hb hK.1 hP hD hS 1 hdA rfl (i := rn) (x := bI b) hlt (by decide) (bI_vp _) d_Mo_rule_56 (fun H locs hP hD hS => ?_)
        obtain ⟨f_3, ef_3⟩ : ∃ z : Nat → va_E, z = va_up f_2 dA (.inl (G.2 1, 20, .inl (upd (fun j => bI (dn j)) rn (bI b)))) := ⟨_, rfl⟩
        rw [← ef_3] at hP hD
        have hmo : Lk L f_3 mo (.inr (5, [.int (nI 0), .ref gA, .int (nI cn), .ref kA, .ref fA, .ref sA, .ref tA, .ref bA, .int (nI rn), .ref rA, .ref dA, .ref cA, .ref eA, .int (bI kn)])) := by rw [ef_3]; exact Lk.up hmo (Lk.neOA hmo hdA)
        have hgA : Lk L f_3 gA (.inl (G.2 4, 8, .inl gf)) := by rw [ef_3]; exact Lk.up hgA (Lk.neAA hgA hdA (by decide))
        have hkA : Lk L f_3 kA (.inl (G.2 4, 60, .inl (fun j => nI (kd j)))) := by rw [ef_3]; exact Lk.up hkA (Lk.neAA hkA hdA (by decide))
        have hfA : Lk L f_3 fA (.inl (G.2 4, 60, .inl ka)) := by rw [ef_3]; exact Lk.up hfA (Lk.neAA hfA hdA (by decide))
        have hsA : Lk L f_3 sA (.inl (G.2 4, 60, .inl kb)) := by rw [ef_3]; exact Lk.up hsA (Lk.neAA hsA hdA (by decide))
        have htA : Lk L f_3 tA (.inl (G.2 4, 60, .inl kc)) := by rw [ef_3]; exact Lk.up htA (Lk.neAA htA hdA (by decide))
        have hbA : Lk L f_3 bA (.inl (G.2 4, 11520, .inl bf)) := by rw [ef_3]; exact Lk.up hbA (Lk.neAA hbA hdA (by decide))
        have hrA : Lk L f_3 rA (.inl (G.2 4, 20, .inl (fun j => nI (va_up rk rn u j)))) := by rw [ef_3]; exact Lk.up hrA hB.2.2.2.2.2.2.2.2.2.2.2.2.2.2.2.2.2.2.2.1
        have hcA : Lk L f_3 cA (.inl (G.2 4, 20, .inl (fun j => nI (rc j)))) := by rw [ef_3]; exact Lk.up hcA (Ne.symm hB.2.2.2.2.2.2.2.2.2.2.2.2.2.2.2.2.2.2.2.2.2)
        have heA : Lk L f_3 eA (.inl (G.2 4, 6144, .inl xf)) := by rw [ef_3]; exact Lk.up heA (Lk.neAA heA hdA (by decide))
        have hdA : Lk L f_3 dA (.inl (G.2 1, 20, .inl (upd (fun j => bI (dn j)) rn (bI b)))) := by rw [ef_3]; exact Lk.set hdA
        have hkp : Kp (fun a => moE (f a)) L f (L, f_3) := by rw [ef_3]; exact hkp.up (moE_a hB.2.2.2.2.2.2.2.2.2.2.1 (by decide))
        have hdA : Lk L f_3 dA (.inl (G.2 1, 20, .inl (fun j => bI (va_up dn rn b j)))) := by have e8 : upd (fun j => bI (dn j)) rn (bI b) = (fun j => bI (va_up dn rn b j)) := upd_bI; rw [← e8]; exact hdA
        refine lv_aload_n hx hb d_Mo_rule_57 rfl (lv_at hl 0 rfl) ?_
        refine va_get (D := G.1) (ci := 5) (v := .ref cA) (C := R_Mo) (T := T_Mo) (N := 14) hx hb hA in_Mo hown hK.1 (pl_o hP hmo) 0 rfl rfl 11 (by decide) (hA _ kw_203) (fun _ h9 => h9) rfl d_Mo_rule_58 ?_
        refine lv_aload_n hx hb d_Mo_rule_61 rfl (lv_at hl 0 rfl) ?_
        refine va_get (D := G.1) (ci := 5) (v := .int (nI rn)) (C := R_Mo) (T := T_Mo) (N := 14) hx hb hA in_Mo hown hK.1 (pl_o hP hmo) 0 rfl rfl 8 (by decide) (hA _ kw_175) (fun _ h9 => h9) rfl d_Mo_rule_62 ?_
        refine lv_iload_n hx hb d_Mo_rule_65 rfl (lv_at hl 3 rfl) ?_
        refine xw_iast hx hb hK.1 hP hD hS 4 hcA rfl (i := rn) (x := nI t) hlt (by decide) d_Mo_rule_66 (fun H locs hP hD hS => ?_)
        obtain ⟨f_4, ef_4⟩ : ∃ z : Nat → va_E, z = va_up f_3 cA (.inl (G.2 4, 20, .inl (upd (fun j => nI (rc j)) rn (nI t)))) := ⟨_, rfl⟩
        rw [← ef_4] at hP hD
        have hmo : Lk L f_4 mo (.inr (5, [.int (nI 0), .ref gA, .int (nI cn), .ref kA, .ref fA, .ref sA, .ref tA, .ref bA, .int (nI rn), .ref rA, .ref dA, .ref cA, .ref eA, .int (bI kn)])) := by rw [ef_4]; exact Lk.up hmo (Lk.neOA hmo hcA)
        have hgA : Lk L f_4 gA (.inl (G.2 4, 8, .inl gf)) := by rw [ef_4]; exact Lk.up hgA (Lk.neAA hgA hcA (by decide))
        have hkA : Lk L f_4 kA (.inl (G.2 4, 60, .inl (fun j => nI (kd j)))) := by rw [ef_4]; exact Lk.up hkA (Lk.neAA hkA hcA (by decide))
        have hfA : Lk L f_4 fA (.inl (G.2 4, 60, .inl ka)) := by rw [ef_4]; exact Lk.up hfA (Lk.neAA hfA hcA (by decide))
        have hsA : Lk L f_4 sA (.inl (G.2 4, 60, .inl kb)) := by rw [ef_4]; exact Lk.up hsA (Lk.neAA hsA hcA (by decide))
        have htA : Lk L f_4 tA (.inl (G.2 4, 60, .inl kc)) := by rw [ef_4]; exact Lk.up htA (Lk.neAA htA hcA (by decide))
        have hbA : Lk L f_4 bA (.inl (G.2 4, 11520, .inl bf)) := by rw [ef_4]; exact Lk.up hbA (Lk.neAA hbA hcA (by decide))
        have hrA : Lk L f_4 rA (.inl (G.2 4, 20, .inl (fun j => nI (va_up rk rn u j)))) := by rw [ef_4]; exact Lk.up hrA hB.2.2.2.2.2.2.2.2.2.2.2.2.2.2.2.2.2.2.2.2.1
        have hdA : Lk L f_4 dA (.inl (G.2 1, 20, .inl (fun j => bI (va_up dn rn b j)))) := by rw [ef_4]; exact Lk.up hdA hB.2.2.2.2.2.2.2.2.2.2.2.2.2.2.2.2.2.2.2.2.2
        have heA : Lk L f_4 eA (.inl (G.2 4, 6144, .inl xf)) := by rw [ef_4]; exact Lk.up heA (Lk.neAA heA hcA (by decide))
        have hcA : Lk L f_4 cA (.inl (G.2 4, 20, .inl (upd (fun j => nI (rc j)) rn (nI t)))) := by rw [ef_4]; exact Lk.set hcA
        have hkp : Kp (fun a => moE (f a)) L f (L, f_4) := by rw [ef_4]; exact hkp.up (moE_a hB.2.2.2.2.2.2.2.2.2.2.2.1 (by decide))
        have hcA : Lk L f_4 cA (.inl (G.2 4, 20, .inl (fun j => nI (va_up rc rn t j)))) := by have e8 : upd (fun j => nI (rc j)) rn (nI t) = (fun j => nI (va_up rc rn t j)) := upd_nI; rw [← e8]; exact hcA
        refine lv_aload_n hx hb d_Mo_rule_67 rfl (lv_at hl 0 rfl) ?_
        refine lv_dup hx hb d_Mo_rule_68 rfl ?_
        refine va_get (D := G.1) (ci := 5) (v := .int (nI rn)) (C := R_Mo) (T := T_Mo) (N := 14) hx hb hA in_Mo hown hK.1 (pl_o hP hmo) 0 rfl rfl 8 (by decide) (hA _ kw_175) (fun _ h9 => h9) rfl d_Mo_rule_69 ?_
        refine lv_iconst (v := nI 1) hx hb d_Mo_rule_72 (by decide) ?_
        refine lv_iadd hx hb d_Mo_rule_73 ?_
        refine xv_I (y := nI (rn + 1)) (nI_add _ _) ?_
        refine xw_put (D := G.1) (ci := 5) (v := .int (nI (rn + 1))) (ty := .int) (C := R_Mo) (T := T_Mo) (N := 14) (fs' := [.int (nI 0), .ref gA, .int (nI cn), .ref kA, .ref fA, .ref sA, .ref tA, .ref bA, .int (nI (rn + 1)), .ref rA, .ref dA, .ref cA, .ref eA, .int (bI kn)]) hx hb hA in_Mo ty_Mo tyok_Mo nm_Mo hown hK.1 hP hD hS hmo rfl 8 (by decide) (hA _ kw_175) (fun _ h9 => h9) rfl (by decide +kernel) rfl rfl (Nat.le_of_ble_eq_true rfl) d_Mo_rule_74 rfl (fun H locs hP hD hS => ?_)
        obtain ⟨f_5, ef_5⟩ : ∃ z : Nat → va_E, z = va_up f_4 mo (.inr (5, [.int (nI 0), .ref gA, .int (nI cn), .ref kA, .ref fA, .ref sA, .ref tA, .ref bA, .int (nI (rn + 1)), .ref rA, .ref dA, .ref cA, .ref eA, .int (bI kn)])) := ⟨_, rfl⟩
        rw [← ef_5] at hP hD
        have hgA : Lk L f_5 gA (.inl (G.2 4, 8, .inl gf)) := by rw [ef_5]; exact Lk.up hgA (Ne.symm (Lk.neOA hmo hgA))
        have hkA : Lk L f_5 kA (.inl (G.2 4, 60, .inl (fun j => nI (kd j)))) := by rw [ef_5]; exact Lk.up hkA (Ne.symm (Lk.neOA hmo hkA))
        have hfA : Lk L f_5 fA (.inl (G.2 4, 60, .inl ka)) := by rw [ef_5]; exact Lk.up hfA (Ne.symm (Lk.neOA hmo hfA))
        have hsA : Lk L f_5 sA (.inl (G.2 4, 60, .inl kb)) := by rw [ef_5]; exact Lk.up hsA (Ne.symm (Lk.neOA hmo hsA))
        have htA : Lk L f_5 tA (.inl (G.2 4, 60, .inl kc)) := by rw [ef_5]; exact Lk.up htA (Ne.symm (Lk.neOA hmo htA))
        have hbA : Lk L f_5 bA (.inl (G.2 4, 11520, .inl bf)) := by rw [ef_5]; exact Lk.up hbA (Ne.symm (Lk.neOA hmo hbA))
        have hrA : Lk L f_5 rA (.inl (G.2 4, 20, .inl (fun j => nI (va_up rk rn u j)))) := by rw [ef_5]; exact Lk.up hrA (Ne.symm (Lk.neOA hmo hrA))
        have hdA : Lk L f_5 dA (.inl (G.2 1, 20, .inl (fun j => bI (va_up dn rn b j)))) := by rw [ef_5]; exact Lk.up hdA (Ne.symm (Lk.neOA hmo hdA))
        have hcA : Lk L f_5 cA (.inl (G.2 4, 20, .inl (fun j => nI (va_up rc rn t j)))) := by rw [ef_5]; exact Lk.up hcA (Ne.symm (Lk.neOA hmo hcA))
        have heA : Lk L f_5 eA (.inl (G.2 4, 6144, .inl xf)) := by rw [ef_5]; exact Lk.up heA (Ne.symm (Lk.neOA hmo heA))
        have hmo : Lk L f_5 mo (.inr (5, [.int (nI 0), .ref gA, .int (nI cn), .ref kA, .ref fA, .ref sA, .ref tA, .ref bA, .int (nI (rn + 1)), .ref rA, .ref dA, .ref cA, .ref eA, .int (bI kn)])) := by rw [ef_5]; exact Lk.set hmo
        have hkp : Kp (fun a => moE (f a)) L f (L, f_5) := by rw [ef_5]; exact hkp.up (moE_o hB.2.2.1)
        refine lv_aload_n hx hb d_Mo_rule_77 rfl (lv_at hl 0 rfl) ?_
        refine lv_iconst (v := nI 0) hx hb d_Mo_rule_78 (by decide) ?_
        refine xw_put (D := G.1) (ci := 5) (v := .int (nI 0)) (ty := .boolean) (C := R_Mo) (T := T_Mo) (N := 14) (fs' := [.int (nI 0), .ref gA, .int (nI cn), .ref kA, .ref fA, .ref sA, .ref tA, .ref bA, .int (nI (rn + 1)), .ref rA, .ref dA, .ref cA, .ref eA, .int (nI 0)]) hx hb hA in_Mo ty_Mo tyok_Mo nm_Mo hown hK.1 hP hD hS hmo rfl 13 (by decide) (hA _ kw_218) (fun _ h9 => h9) rfl (by decide +kernel) rfl rfl (Nat.le_of_ble_eq_true rfl) d_Mo_rule_79 rfl (fun H locs hP hD hS => ?_)
        obtain ⟨f_6, ef_6⟩ : ∃ z : Nat → va_E, z = va_up f_5 mo (.inr (5, [.int (nI 0), .ref gA, .int (nI cn), .ref kA, .ref fA, .ref sA, .ref tA, .ref bA, .int (nI (rn + 1)), .ref rA, .ref dA, .ref cA, .ref eA, .int (nI 0)])) := ⟨_, rfl⟩
        rw [← ef_6] at hP hD
        have hgA : Lk L f_6 gA (.inl (G.2 4, 8, .inl gf)) := by rw [ef_6]; exact Lk.up hgA (Ne.symm (Lk.neOA hmo hgA))
        have hkA : Lk L f_6 kA (.inl (G.2 4, 60, .inl (fun j => nI (kd j)))) := by rw [ef_6]; exact Lk.up hkA (Ne.symm (Lk.neOA hmo hkA))
        have hfA : Lk L f_6 fA (.inl (G.2 4, 60, .inl ka)) := by rw [ef_6]; exact Lk.up hfA (Ne.symm (Lk.neOA hmo hfA))
        have hsA : Lk L f_6 sA (.inl (G.2 4, 60, .inl kb)) := by rw [ef_6]; exact Lk.up hsA (Ne.symm (Lk.neOA hmo hsA))
        have htA : Lk L f_6 tA (.inl (G.2 4, 60, .inl kc)) := by rw [ef_6]; exact Lk.up htA (Ne.symm (Lk.neOA hmo htA))
        have hbA : Lk L f_6 bA (.inl (G.2 4, 11520, .inl bf)) := by rw [ef_6]; exact Lk.up hbA (Ne.symm (Lk.neOA hmo hbA))
        have hrA : Lk L f_6 rA (.inl (G.2 4, 20, .inl (fun j => nI (va_up rk rn u j)))) := by rw [ef_6]; exact Lk.up hrA (Ne.symm (Lk.neOA hmo hrA))
        have hdA : Lk L f_6 dA (.inl (G.2 1, 20, .inl (fun j => bI (va_up dn rn b j)))) := by rw [ef_6]; exact Lk.up hdA (Ne.symm (Lk.neOA hmo hdA))
        have hcA : Lk L f_6 cA (.inl (G.2 4, 20, .inl (fun j => nI (va_up rc rn t j)))) := by rw [ef_6]; exact Lk.up hcA (Ne.symm (Lk.neOA hmo hcA))
        have heA : Lk L f_6 eA (.inl (G.2 4, 6144, .inl xf)) := by rw [ef_6]; exact Lk.up heA (Ne.symm (Lk.neOA hmo heA))
        have hmo : Lk L f_6 mo (.inr (5, [.int (nI 0), .ref gA, .int (nI cn), .ref kA, .ref fA, .ref sA, .ref tA, .ref bA, .int (nI (rn + 1)), .ref rA, .ref dA, .ref cA, .ref eA, .int (nI 0)])) := by rw [ef_6]; exact Lk.set hmo
        have hkp : Kp (fun a => moE (f a)) L f (L, f_6) := by rw [ef_6]; exact hkp.up (moE_o hB.2.2.1)
        have hB9 : MoB G L f_6 mo gA kA fA sA tA bA rA dA cA eA cn (rn + 1) false gf kd ka kb kc bf (va_up rk rn u) (va_up dn rn b) (va_up rc rn t) xf := ⟨hB.1, hlt, hmo, hgA, hkA, hfA, hsA, htA, hbA, hrA, hdA, hcA, heA, hB.2.2.2.2.2.2.2.2.2.2.2.2.2⟩
        refine lv_aload_n hx hb d_Mo_rule_82 rfl (lv_at hl 0 rfl) ?_
        refine va_get (D := G.1) (ci := 5) (v := .int (nI (rn + 1))) (C := R_Mo) (T := T_Mo) (N := 14) hx hb hA in_Mo hown hK.1 (pl_o hP hmo) 0 rfl rfl 8 (by decide) (hA _ kw_175) (fun _ h9 => h9) rfl d_Mo_rule_83 ?_
        refine lv_iconst (v := nI 1) hx hb d_Mo_rule_86 (by decide) ?_
        refine lv_isub hx hb d_Mo_rule_87 ?_
        refine xv_I (y := nI rn) (nI_pred rn) ?_
        exact W.iret (v := nI rn) hx hb hr (fun t9 h9t h9W => ⟨⟨_, (L, f_6), rfl, ⟨rfl, hkp, Or.inr ⟨u, t, hu, ht, rfl, rfl, Or.inr ⟨hlt, rfl, hB9⟩⟩⟩, by rw [h9t]; exact hP, hD⟩, hS.F h9t⟩) hS.2.2 d_Mo_rule_88

set_option maxHeartbeats 4000000 in
set_option maxRecDepth 100000 in
/-- drop -/
theorem c_Mo_drop (l : Launch) (G : GG) (L : List Nat) (f : Nat → va_E) (sz : Nat) (hN : L.Nodup) {mo gA kA fA sA tA bA rA dA cA eA cn rn : Nat} {kn : Bool} {gf : Nat → Int32} {kd : Nat → Nat} {ka kb kc bf : Nat → Int32} {rk : Nat → Nat} {dn : Nat → Bool} {rc : Nat → Nat} {xf : Nat → Int32} (hB : MoB G L f mo gA kA fA sA tA bA rA dA cA eA cn rn kn gf kd ka kb kc bf rk dn rc xf) (x : Int32) : Met l y_Mo_drop (.code y_Mo_drop b_Mo_drop 3 (some .int) :: AW) (RW 2 0 0) (va_Pc [.ref mo, .int x] (PZ G L f sz)) (va_Qi (fun r z => z.1 = L ∧ Kp (fun a => moE (f a)) L f z ∧ ((blw x (nI rn) = false ∧ r = -1 ∧ MoB G L z.2 mo gA kA fA sA tA bA rA dA cA eA cn rn kn gf kd ka kb kc bf rk dn rc xf) ∨ ∃ m9 p9, m9 < rn ∧ x = nI m9 ∧ p9 + 1 = rn ∧ r = nI p9 ∧ MoB G L z.2 mo gA kA fA sA tA bA rA dA cA eA cn p9 false gf kd ka kb kc bf (shM m9 p9 rk) (shM m9 p9 dn) (shM m9 p9 rc) xf)) (BZ G (Am L sz)) (Am L sz)) 0 0 (Am L sz) := by
  refine Met.ofW (cc := b_Mo_drop) (maxL := 3) (ret := (some .int)) (by decide) rfl ?_
  intro p e s m args below meth c s₁ B hml hv
  obtain ⟨rfl, hsz, hP, hK⟩ := hv
  have hx := B.exec
  have hb := B.bytes
  have hr := B.returns
  have hA : ∀ w ∈ AW, w.before _ s = true := fun w h => atoms_spec (ws := (.code y_Mo_drop b_Mo_drop 3 (some .int) :: AW)) B.pre w (List.mem_cons_of_mem _ h)
  have hown : s.vm.findClass R_Mo = some m.cls := findClass_of_methodNamed B.named
  have hlocks := B.notSynchronized
  subst hsz
  have hD : va_D (Am L s.heap.size) (va_pl L f) := pl_D hN (fun _ h => Or.inl h)
  have hA0 : ∀ q, s.heap.size ≤ q → Am L s.heap.size q := fun q h => Or.inr h
  generalize Am L s.heap.size = A at hD hA0 ⊢
  have hS : va_S A s.heap s.heap [] := va_S.rf
  have hkp : Kp (fun a => moE (f a)) L f (L, f) := Kp.rf
  have hl := lv_entry ([.ref mo, .int x]) (n := 3) (Nat.le_of_ble_eq_true rfl)
  rw [lg_entry_eq]
  generalize (lg_sl ([.ref mo, .int x]) ++ List.replicate (3 - (lg_sl ([.ref mo, .int x])).length) Slot.unset).toArray = ls at hl ⊢
  have hl : lv_has ls 3 [(0, .ref mo), (1, .int x)] := hl
  have hmo : Lk L f mo (.inr (5, [.int (nI 0), .ref gA, .int (nI cn), .ref kA, .ref fA, .ref sA, .ref tA, .ref bA, .int (nI rn), .ref rA, .ref dA, .ref cA, .ref eA, .int (bI kn)])) := hB.2.2.1
  have hgA : Lk L f gA (.inl (G.2 4, 8, .inl gf)) := hB.2.2.2.1
  have hkA : Lk L f kA (.inl (G.2 4, 60, .inl (fun j => nI (kd j)))) := hB.2.2.2.2.1
  have hfA : Lk L f fA (.inl (G.2 4, 60, .inl ka)) := hB.2.2.2.2.2.1
  have hsA : Lk L f sA (.inl (G.2 4, 60, .inl kb)) := hB.2.2.2.2.2.2.1
  have htA : Lk L f tA (.inl (G.2 4, 60, .inl kc)) := hB.2.2.2.2.2.2.2.1
  have hbA : Lk L f bA (.inl (G.2 4, 11520, .inl bf)) := hB.2.2.2.2.2.2.2.2.1
  have hrA : Lk L f rA (.inl (G.2 4, 20, .inl (fun j => nI (rk j)))) := hB.2.2.2.2.2.2.2.2.2.1
  have hdA : Lk L f dA (.inl (G.2 1, 20, .inl (fun j => bI (dn j)))) := hB.2.2.2.2.2.2.2.2.2.2.1
  have hcA : Lk L f cA (.inl (G.2 4, 20, .inl (fun j => nI (rc j)))) := hB.2.2.2.2.2.2.2.2.2.2.2.1
  have heA : Lk L f eA (.inl (G.2 4, 6144, .inl xf)) := hB.2.2.2.2.2.2.2.2.2.2.2.2.1
  refine lv_aload_n hx hb d_Mo_drop_0 rfl (lv_at hl 0 rfl) ?_
  refine lv_iconst (v := nI 0) hx hb d_Mo_drop_1 (by decide) ?_
  refine xw_put (D := G.1) (ci := 5) (v := .int (nI 0)) (ty := .int) (C := R_Mo) (T := T_Mo) (N := 14) (fs' := [.int (nI 0), .ref gA, .int (nI cn), .ref kA, .ref fA, .ref sA, .ref tA, .ref bA, .int (nI rn), .ref rA, .ref dA, .ref cA, .ref eA, .int (bI kn)]) hx hb hA in_Mo ty_Mo tyok_Mo nm_Mo hown hK.1 hP hD hS hmo rfl 0 (by decide) (hA _ kw_223) (fun _ h9 => h9) rfl (by decide +kernel) rfl rfl (Nat.le_of_ble_eq_true rfl) d_Mo_drop_2 rfl (fun H locs hP hD hS => ?_)
  obtain ⟨f_1, ef_1⟩ : ∃ z : Nat → va_E, z = va_up f mo (.inr (5, [.int (nI 0), .ref gA, .int (nI cn), .ref kA, .ref fA, .ref sA, .ref tA, .ref bA, .int (nI rn), .ref rA, .ref dA, .ref cA, .ref eA, .int (bI kn)])) := ⟨_, rfl⟩
  rw [← ef_1] at hP hD
  have hgA : Lk L f_1 gA (.inl (G.2 4, 8, .inl gf)) := by rw [ef_1]; exact Lk.up hgA (Ne.symm (Lk.neOA hmo hgA))
  have hkA : Lk L f_1 kA (.inl (G.2 4, 60, .inl (fun j => nI (kd j)))) := by rw [ef_1]; exact Lk.up hkA (Ne.symm (Lk.neOA hmo hkA))
  have hfA : Lk L f_1 fA (.inl (G.2 4, 60, .inl ka)) := by rw [ef_1]; exact Lk.up hfA (Ne.symm (Lk.neOA hmo hfA))
  have hsA : Lk L f_1 sA (.inl (G.2 4, 60, .inl kb)) := by rw [ef_1]; exact Lk.up hsA (Ne.symm (Lk.neOA hmo hsA))
  have htA : Lk L f_1 tA (.inl (G.2 4, 60, .inl kc)) := by rw [ef_1]; exact Lk.up htA (Ne.symm (Lk.neOA hmo htA))
  have hbA : Lk L f_1 bA (.inl (G.2 4, 11520, .inl bf)) := by rw [ef_1]; exact Lk.up hbA (Ne.symm (Lk.neOA hmo hbA))
  have hrA : Lk L f_1 rA (.inl (G.2 4, 20, .inl (fun j => nI (rk j)))) := by rw [ef_1]; exact Lk.up hrA (Ne.symm (Lk.neOA hmo hrA))
  have hdA : Lk L f_1 dA (.inl (G.2 1, 20, .inl (fun j => bI (dn j)))) := by rw [ef_1]; exact Lk.up hdA (Ne.symm (Lk.neOA hmo hdA))
  have hcA : Lk L f_1 cA (.inl (G.2 4, 20, .inl (fun j => nI (rc j)))) := by rw [ef_1]; exact Lk.up hcA (Ne.symm (Lk.neOA hmo hcA))
  have heA : Lk L f_1 eA (.inl (G.2 4, 6144, .inl xf)) := by rw [ef_1]; exact Lk.up heA (Ne.symm (Lk.neOA hmo heA))
  have hmo : Lk L f_1 mo (.inr (5, [.int (nI 0), .ref gA, .int (nI cn), .ref kA, .ref fA, .ref sA, .ref tA, .ref bA, .int (nI rn), .ref rA, .ref dA, .ref cA, .ref eA, .int (bI kn)])) := by rw [ef_1]; exact Lk.set hmo
  have hkp : Kp (fun a => moE (f a)) L f (L, f_1) := by rw [ef_1]; exact hkp.up (moE_o hB.2.2.1)
  have hB1 : MoB G L f_1 mo gA kA fA sA tA bA rA dA cA eA cn rn kn gf kd ka kb kc bf rk dn rc xf := ⟨hB.1, hB.2.1, hmo, hgA, hkA, hfA, hsA, htA, hbA, hrA, hdA, hcA, heA, hB.2.2.2.2.2.2.2.2.2.2.2.2.2⟩
  have hc60 := hB.1
  have hr20 := hB.2.1
  refine lv_aload_n hx hb d_Mo_drop_5 rfl (lv_at hl 0 rfl) ?_
  refine lv_iload_n hx hb d_Mo_drop_6 rfl (lv_at hl 1 rfl) ?_
  refine vp_callSi (va_Run.run (va_runV (As := [.int x]) (rest := []) ⟨hx, hb, hml, hown, hA⟩ (c_Mo_isR l G L f_1 hB1 x) ⟨callB_of 1 hA (gAW kw_232) rfl rfl rfl (hA _ kw_172) (hA _ kw_233) (by decide +kernel) ⟨Nat.le_of_ble_eq_true rfl, Nat.le_of_ble_eq_true rfl⟩, (hA _ kw_234), (hA _ kw_235)⟩ (pw_preV (ci := 5) hP hK hmo rfl) rfl rfl hl.1 rfl (lv_room (Nat.le_of_ble_eq_true rfl)) d_Mo_drop_7 ⟨Nat.zero_le _, Nat.zero_le _⟩)) (fun r_1 e_2 => ?_)
  subst e_2
  rcases bcase (blw x (nI rn)) with hb_0 | hb_0
  · refine lv_if_ne (tgt := 15) hx hb d_Mo_drop_10 (by decide) (fun c9 => absurd (by rw [hb_0]; rfl) c9) (fun _ => ?_)
    refine lv_iconst (v := (-1)) hx hb d_Mo_drop_13 (by decide) ?_
    exact W.iret (v := (-1)) hx hb hr (fun t9 h9t h9W => ⟨⟨_, (L, f_1), rfl, ⟨rfl, hkp, Or.inl ⟨hb_0, rfl, hB1⟩⟩, by rw [h9t]; exact hP, hD⟩, hS.F h9t⟩) hS.2.2 d_Mo_drop_14
  · refine lv_if_ne (tgt := 15) hx hb d_Mo_drop_10 (by decide) (fun _ => ?_) (fun c9 => absurd c9 (by rw [hb_0]; decide))
    obtain ⟨m_, hm_, rfl⟩ := blw_of (by omega) hb_0
    refine lv_iload_n hx hb d_Mo_drop_15 rfl (lv_at hl 1 rfl) ?_
    refine lv_iconst (v := nI 1) hx hb d_Mo_drop_16 (by decide) ?_
    refine lv_iadd hx hb d_Mo_drop_17 ?_
    refine xv_I (y := nI (m_ + 1)) (nI_add _ _) ?_
    refine lv_istore_n (lv' := [(2, .int (nI (m_ + 1))), (0, .ref mo), (1, .int (nI m_))]) hx hb d_Mo_drop_18 rfl hl (by decide) rfl (fun ls hl => ?_)
    have loopo : ∀ (ko p_ : Nat) (H : Heap) (locs : List Loc) (fv : Nat → va_E) (ls : Array Slot), p_ + ko = (rn - 1) → m_ ≤ p_ → MoB G L fv mo gA kA fA sA tA bA rA dA cA eA cn rn kn gf kd ka kb kc bf (shM m_ p_ rk) (shM m_ p_ dn) (shM m_ p_ rc) xf → Kp (fun a => moE (f a)) L f (L, fv) → va_P G.1 vwCl (va_pl L fv) H → va_D A (va_pl L fv) → va_S A s.heap H locs → lv_has ls 3 [(0, .ref mo), (2, .int (nI (p_ + 1)))] → W p l e (headSpec (.code y_Mo_drop b_Mo_drop 3 (some .int) :: AW) (RW 2 0 0)).room s m ([.ref mo, .int (nI m_)] : List Value).toArray below meth c H locs 0 0 (MQ below (va_Qi (fun r z => z.1 = L ∧ Kp (fun a => moE (f a)) L f z ∧ ((blw (nI m_) (nI rn) = false ∧ r = -1 ∧ MoB G L z.2 mo gA kA fA sA tA bA rA dA cA eA cn rn kn gf kd ka kb kc bf rk dn rc xf) ∨ ∃ m9 p9, m9 < rn ∧ (nI m_) = nI m9 ∧ p9 + 1 = rn ∧ r = nI p9 ∧ MoB G L z.2 mo gA kA fA sA tA bA rA dA cA eA cn p9 false gf kd ka kb kc bf (shM m9 p9 rk) (shM m9 p9 dn) (shM m9 p9 rc) xf)) (BZ G A) A) ([.ref mo, .int (nI m_)] : List Value).toArray s 0 0 A) (F0 m 19 ls []) := by
      intro ko
      induction ko with
      | zero =>
        intro p_ H locs fv  ls hiko hmp hBv hkp hP hD hS hl
        have hmo : Lk L fv mo (.inr (5, [.int (nI 0), .ref gA, .int (nI cn), .ref kA, .ref fA, .ref sA, .ref tA, .ref bA, .int (nI rn), .ref rA, .ref dA, .ref cA, .ref eA, .int (bI kn)])) := hBv.2.2.1
        have hgA : Lk L fv gA (.inl (G.2 4, 8, .inl gf)) := hBv.2.2.2.1
        have hkA : Lk L fv kA (.inl (G.2 4, 60, .inl (fun j => nI (kd j)))) := hBv.2.2.2.2.1
        have hfA : Lk L fv fA (.inl (G.2 4, 60, .inl ka)) := hBv.2.2.2.2.2.1
        have hsA : Lk L fv sA (.inl (G.2 4, 60, .inl kb)) := hBv.2.2.2.2.2.2.1
        have htA : Lk L fv tA (.inl (G.2 4, 60, .inl kc)) := hBv.2.2.2.2.2.2.2.1
        have hbA : Lk L fv bA (.inl (G.2 4, 11520, .inl bf)) := hBv.2.2.2.2.2.2.2.2.1
        have hrA : Lk L fv rA (.inl (G.2 4, 20, .inl (fun j => nI ((shM m_ p_ rk) j)))) := hBv.2.2.2.2.2.2.2.2.2.1
        have hdA : Lk L fv dA (.inl (G.2 1, 20, .inl (fun j => bI ((shM m_ p_ dn) j)))) := hBv.2.2.2.2.2.2.2.2.2.2.1
        have hcA : Lk L fv cA (.inl (G.2 4, 20, .inl (fun j => nI ((shM m_ p_ rc) j)))) := hBv.2.2.2.2.2.2.2.2.2.2.2.1
        have heA : Lk L fv eA (.inl (G.2 4, 6144, .inl xf)) := hBv.2.2.2.2.2.2.2.2.2.2.2.2.1
        refine lv_iload_n hx hb d_Mo_drop_19 rfl (lv_at hl 1 rfl) ?_
        refine lv_aload_n hx hb d_Mo_drop_20 rfl (lv_at hl 0 rfl) ?_
        refine va_get (D := G.1) (ci := 5) (v := .int (nI rn)) (C := R_Mo) (T := T_Mo) (N := 14) hx hb hA in_Mo hown hK.1 (pl_o hP hmo) 0 rfl rfl 8 (by decide) (hA _ kw_175) (fun _ h9 => h9) rfl d_Mo_drop_21 ?_
        refine lv_icmp_ge (tgt := 75) hx hb d_Mo_drop_24 (by decide) (fun _ => ?_) (fun c9 => absurd (nI_le (by omega) (by omega)) c9)
        refine lv_aload_n hx hb d_Mo_drop_75 rfl (lv_at hl 0 rfl) ?_
        refine lv_dup hx hb d_Mo_drop_76 rfl ?_
        refine va_get (D := G.1) (ci := 5) (v := .int (nI rn)) (C := R_Mo) (T := T_Mo) (N := 14) hx hb hA in_Mo hown hK.1 (pl_o hP hmo) 0 rfl rfl 8 (by decide) (hA _ kw_175) (fun _ h9 => h9) rfl d_Mo_drop_77 ?_
        refine lv_iconst (v := nI 1) hx hb d_Mo_drop_80 (by decide) ?_
        refine lv_isub hx hb d_Mo_drop_81 ?_
        refine xv_I (y := nI p_) ((pk_sub (by omega)).trans (congrArg nI (by omega))) ?_
        refine xw_put (D := G.1) (ci := 5) (v := .int (nI p_)) (ty := .int) (C := R_Mo) (T := T_Mo) (N := 14) (fs' := [.int (nI 0), .ref gA, .int (nI cn), .ref kA, .ref fA, .ref sA, .ref tA, .ref bA, .int (nI p_), .ref rA, .ref dA, .ref cA, .ref eA, .int (bI kn)]) hx hb hA in_Mo ty_Mo tyok_Mo nm_Mo hown hK.1 hP hD hS hmo rfl 8 (by decide) (hA _ kw_175) (fun _ h9 => h9) rfl (by decide +kernel) rfl rfl (Nat.le_of_ble_eq_true rfl) d_Mo_drop_82 rfl (fun H locs hP hD hS => ?_)
        obtain ⟨f_2, ef_2⟩ : ∃ z : Nat → va_E, z = va_up fv mo (.inr (5, [.int (nI 0), .ref gA, .int (nI cn), .ref kA, .ref fA, .ref sA, .ref tA, .ref bA, .int (nI p_), .ref rA, .ref dA, .ref cA, .ref eA, .int (bI kn)])) := ⟨_, rfl⟩
        rw [← ef_2] at hP hD
        have hgA : Lk L f_2 gA (.inl (G.2 4, 8, .inl gf)) := by rw [ef_2]; exact Lk.up hgA (Ne.symm (Lk.neOA hmo hgA))
        have hkA : Lk L f_2 kA (.inl (G.2 4, 60, .inl (fun j => nI (kd j)))) := by rw [ef_2]; exact Lk.up hkA (Ne.symm (Lk.neOA hmo hkA))
        have hfA : Lk L f_2 fA (.inl (G.2 4, 60, .inl ka)) := by rw [ef_2]; exact Lk.up hfA (Ne.symm (Lk.neOA hmo hfA))
        have hsA : Lk L f_2 sA (.inl (G.2 4, 60, .inl kb)) := by rw [ef_2]; exact Lk.up hsA (Ne.symm (Lk.neOA hmo hsA))
        have htA : Lk L f_2 tA (.inl (G.2 4, 60, .inl kc)) := by rw [ef_2]; exact Lk.up htA (Ne.symm (Lk.neOA hmo htA))
        have hbA : Lk L f_2 bA (.inl (G.2 4, 11520, .inl bf)) := by rw [ef_2]; exact Lk.up hbA (Ne.symm (Lk.neOA hmo hbA))
        have hrA : Lk L f_2 rA (.inl (G.2 4, 20, .inl (fun j => nI ((shM m_ p_ rk) j)))) := by rw [ef_2]; exact Lk.up hrA (Ne.symm (Lk.neOA hmo hrA))
        have hdA : Lk L f_2 dA (.inl (G.2 1, 20, .inl (fun j => bI ((shM m_ p_ dn) j)))) := by rw [ef_2]; exact Lk.up hdA (Ne.symm (Lk.neOA hmo hdA))
        have hcA : Lk L f_2 cA (.inl (G.2 4, 20, .inl (fun j => nI ((shM m_ p_ rc) j)))) := by rw [ef_2]; exact Lk.up hcA (Ne.symm (Lk.neOA hmo hcA))
        have heA : Lk L f_2 eA (.inl (G.2 4, 6144, .inl xf)) := by rw [ef_2]; exact Lk.up heA (Ne.symm (Lk.neOA hmo heA))
        have hmo : Lk L f_2 mo (.inr (5, [.int (nI 0), .ref gA, .int (nI cn), .ref kA, .ref fA, .ref sA, .ref tA, .ref bA, .int (nI p_), .ref rA, .ref dA, .ref cA, .ref eA, .int (bI kn)])) := by rw [ef_2]; exact Lk.set hmo
        have hkp : Kp (fun a => moE (f a)) L f (L, f_2) := by rw [ef_2]; exact hkp.up (moE_o hB.2.2.1)
        refine lv_aload_n hx hb d_Mo_drop_85 rfl (lv_at hl 0 rfl) ?_
        refine lv_iconst (v := nI 0) hx hb d_Mo_drop_86 (by decide) ?_
        refine xw_put (D := G.1) (ci := 5) (v := .int (nI 0)) (ty := .boolean) (C := R_Mo) (T := T_Mo) (N := 14) (fs' := [.int (nI 0), .ref gA, .int (nI cn), .ref kA, .ref fA, .ref sA, .ref tA, .ref bA, .int (nI p_), .ref rA, .ref dA, .ref cA, .ref eA, .int (nI 0)]) hx hb hA in_Mo ty_Mo tyok_Mo nm_Mo hown hK.1 hP hD hS hmo rfl 13 (by decide) (hA _ kw_218) (fun _ h9 => h9) rfl (by decide +kernel) rfl rfl (Nat.le_of_ble_eq_true rfl) d_Mo_drop_87 rfl (fun H locs hP hD hS => ?_)
        obtain ⟨f_3, ef_3⟩ : ∃ z : Nat → va_E, z = va_up f_2 mo (.inr (5, [.int (nI 0), .ref gA, .int (nI cn), .ref kA, .ref fA, .ref sA, .ref tA, .ref bA, .int (nI p_), .ref rA, .ref dA, .ref cA, .ref eA, .int (nI 0)])) := ⟨_, rfl⟩
        rw [← ef_3] at hP hD
        have hgA : Lk L f_3 gA (.inl (G.2 4, 8, .inl gf)) := by rw [ef_3]; exact Lk.up hgA (Ne.symm (Lk.neOA hmo hgA))
        have hkA : Lk L f_3 kA (.inl (G.2 4, 60, .inl (fun j => nI (kd j)))) := by rw [ef_3]; exact Lk.up hkA (Ne.symm (Lk.neOA hmo hkA))
        have hfA : Lk L f_3 fA (.inl (G.2 4, 60, .inl ka)) := by rw [ef_3]; exact Lk.up hfA (Ne.symm (Lk.neOA hmo hfA))
        have hsA : Lk L f_3 sA (.inl (G.2 4, 60, .inl kb)) := by rw [ef_3]; exact Lk.up hsA (Ne.symm (Lk.neOA hmo hsA))
        have htA : Lk L f_3 tA (.inl (G.2 4, 60, .inl kc)) := by rw [ef_3]; exact Lk.up htA (Ne.symm (Lk.neOA hmo htA))
        have hbA : Lk L f_3 bA (.inl (G.2 4, 11520, .inl bf)) := by rw [ef_3]; exact Lk.up hbA (Ne.symm (Lk.neOA hmo hbA))
        have hrA : Lk L f_3 rA (.inl (G.2 4, 20, .inl (fun j => nI ((shM m_ p_ rk) j)))) := by rw [ef_3]; exact Lk.up hrA (Ne.symm (Lk.neOA hmo hrA))
        have hdA : Lk L f_3 dA (.inl (G.2 1, 20, .inl (fun j => bI ((shM m_ p_ dn) j)))) := by rw [ef_3]; exact Lk.up hdA (Ne.symm (Lk.neOA hmo hdA))
        have hcA : Lk L f_3 cA (.inl (G.2 4, 20, .inl (fun j => nI ((shM m_ p_ rc) j)))) := by rw [ef_3]; exact Lk.up hcA (Ne.symm (Lk.neOA hmo hcA))
        have heA : Lk L f_3 eA (.inl (G.2 4, 6144, .inl xf)) := by rw [ef_3]; exact Lk.up heA (Ne.symm (Lk.neOA hmo heA))
        have hmo : Lk L f_3 mo (.inr (5, [.int (nI 0), .ref gA, .int (nI cn), .ref kA, .ref fA, .ref sA, .ref tA, .ref bA, .int (nI p_), .ref rA, .ref dA, .ref cA, .ref eA, .int (nI 0)])) := by rw [ef_3]; exact Lk.set hmo
        have hkp : Kp (fun a => moE (f a)) L f (L, f_3) := by rw [ef_3]; exact hkp.up (moE_o hB.2.2.1)
        have hB9 : MoB G L f_3 mo gA kA fA sA tA bA rA dA cA eA cn p_ false gf kd ka kb kc bf (shM m_ p_ rk) (shM m_ p_ dn) (shM m_ p_ rc) xf := ⟨hB.1, by omega, hmo, hgA, hkA, hfA, hsA, htA, hbA, hrA, hdA, hcA, heA, hB.2.2.2.2.2.2.2.2.2.2.2.2.2⟩
        refine lv_aload_n hx hb d_Mo_drop_90 rfl (lv_at hl 0 rfl) ?_
        refine va_get (D := G.1) (ci := 5) (v := .int (nI p_)) (C := R_Mo) (T := T_Mo) (N := 14) hx hb hA in_Mo hown hK.1 (pl_o hP hmo) 0 rfl rfl 8 (by decide) (hA _ kw_175) (fun _ h9 => h9) rfl d_Mo_drop_91 ?_
        exact W.iret (v := nI p_) hx hb hr (fun t9 h9t h9W => ⟨⟨_, (L, f_3), rfl, ⟨rfl, hkp, Or.inr ⟨m_, p_, hm_, rfl, by omega, rfl, hB9⟩⟩, by rw [h9t]; exact hP, hD⟩, hS.F h9t⟩) hS.2.2 d_Mo_drop_94
      | succ ko iho =>
        intro p_ H locs fv  ls hiko hmp hBv hkp hP hD hS hl
        have hmo : Lk L fv mo (.inr (5, [.int (nI 0), .ref gA, .int (nI cn), .ref kA, .ref fA, .ref sA, .ref tA, .ref bA, .int (nI rn), .ref rA, .ref dA, .ref cA, .ref eA, .int (bI kn)])) := hBv.2.2.1
        have hgA : Lk L fv gA (.inl (G.2 4, 8, .inl gf)) := hBv.2.2.2.1
        have hkA : Lk L fv kA (.inl (G.2 4, 60, .inl (fun j => nI (kd j)))) := hBv.2.2.2.2.1
        have hfA : Lk L fv fA (.inl (G.2 4, 60, .inl ka)) := hBv.2.2.2.2.2.1
        have hsA : Lk L fv sA (.inl (G.2 4, 60, .inl kb)) := hBv.2.2.2.2.2.2.1
        have htA : Lk L fv tA (.inl (G.2 4, 60, .inl kc)) := hBv.2.2.2.2.2.2.2.1
        have hbA : Lk L fv bA (.inl (G.2 4, 11520, .inl bf)) := hBv.2.2.2.2.2.2.2.2.1
        have hrA : Lk L fv rA (.inl (G.2 4, 20, .inl (fun j => nI ((shM m_ p_ rk) j)))) := hBv.2.2.2.2.2.2.2.2.2.1
        have hdA : Lk L fv dA (.inl (G.2 1, 20, .inl (fun j => bI ((shM m_ p_ dn) j)))) := hBv.2.2.2.2.2.2.2.2.2.2.1
        have hcA : Lk L fv cA (.inl (G.2 4, 20, .inl (fun j => nI ((shM m_ p_ rc) j)))) := hBv.2.2.2.2.2.2.2.2.2.2.2.1
        have heA : Lk L fv eA (.inl (G.2 4, 6144, .inl xf)) := hBv.2.2.2.2.2.2.2.2.2.2.2.2.1
        refine lv_iload_n hx hb d_Mo_drop_19 rfl (lv_at hl 1 rfl) ?_
        refine lv_aload_n hx hb d_Mo_drop_20 rfl (lv_at hl 0 rfl) ?_
        refine va_get (D := G.1) (ci := 5) (v := .int (nI rn)) (C := R_Mo) (T := T_Mo) (N := 14) hx hb hA in_Mo hown hK.1 (pl_o hP hmo) 0 rfl rfl 8 (by decide) (hA _ kw_175) (fun _ h9 => h9) rfl d_Mo_drop_21 ?_
        refine lv_icmp_ge (tgt := 75) hx hb d_Mo_drop_24 (by decide) (fun c9 => absurd c9 (nI_ge (by omega) (by omega))) (fun _ => ?_)
        refine lv_aload_n hx hb d_Mo_drop_27 rfl (lv_at hl 0 rfl) ?_
        refine va_get (D := G.1) (ci := 5) (v := .ref rA) (C := R_Mo) (T := T_Mo) (N := 14) hx hb hA in_Mo hown hK.1 (pl_o hP hmo) 0 rfl rfl 9 (by decide) (hA _ kw_202) (fun _ h9 => h9) rfl d_Mo_drop_28 ?_
        refine lv_iload_n hx hb d_Mo_drop_31 rfl (lv_at hl 1 rfl) ?_
        refine lv_iconst (v := nI 1) hx hb d_Mo_drop_32 (by decide) ?_
        refine lv_isub hx hb d_Mo_drop_33 ?_
        refine xv_I (y := nI p_) (nI_pred p_) ?_
        refine lv_aload_n hx hb d_Mo_drop_34 rfl (lv_at hl 0 rfl) ?_
        refine va_get (D := G.1) (ci := 5) (v := .ref rA) (C := R_Mo) (T := T_Mo) (N := 14) hx hb hA in_Mo hown hK.1 (pl_o hP hmo) 0 rfl rfl 9 (by decide) (hA _ kw_202) (fun _ h9 => h9) rfl d_Mo_drop_35 ?_
        refine lv_iload_n hx hb d_Mo_drop_38 rfl (lv_at hl 1 rfl) ?_
        refine xl_iald hx hb hK.1 (pl_o hP hrA) 0 4 rfl rfl (i := (p_ + 1)) (by omega) (by decide) d_Mo_drop_39 ?_
        refine xv_I (y := nI (rk (p_ + 1))) (congrArg nI shM_at) ?_
        refine xw_iast hx hb hK.1 hP hD hS 4 hrA rfl (i := p_) (x := nI (rk (p_ + 1))) (by omega) (by decide) d_Mo_drop_40 (fun H locs hP hD hS => ?_)
        obtain ⟨f_4, ef_4⟩ : ∃ z : Nat → va_E, z = va_up fv rA (.inl (G.2 4, 20, .inl (upd (fun j => nI ((shM m_ p_ rk) j)) p_ (nI (rk (p_ + 1)))))) := ⟨_, rfl⟩
        rw [← ef_4] at hP hD
        have hmo : Lk L f_4 mo (.inr (5, [.int (nI 0), .ref gA, .int (nI cn), .ref kA, .ref fA, .ref sA, .ref tA, .ref bA, .int (nI rn), .ref rA, .ref dA, .ref cA, .ref eA, .int (bI kn)])) := by rw [ef_4]; exact Lk.up hmo (Lk.neOA hmo hrA)
        have hgA : Lk L f_4 gA (.inl (G.2 4, 8, .inl gf)) := by rw [ef_4]; exact Lk.up hgA (Lk.neAA hgA hrA (by decide))
        have hkA : Lk L f_4 kA (.inl (G.2 4, 60, .inl (fun j => nI (kd j)))) := by rw [ef_4]; exact Lk.up hkA (Lk.neAA hkA hrA (by decide))
        have hfA : Lk L f_4 fA (.inl (G.2 4, 60, .inl ka)) := by rw [ef_4]; exact Lk.up hfA (Lk.neAA hfA hrA (by decide))
        have hsA : Lk L f_4 sA (.inl (G.2 4, 60, .inl kb)) := by rw [ef_4]; exact Lk.up hsA (Lk.neAA hsA hrA (by decide))
        have htA : Lk L f_4 tA (.inl (G.2 4, 60, .inl kc)) := by rw [ef_4]; exact Lk.up htA (Lk.neAA htA hrA (by decide))
        have hbA : Lk L f_4 bA (.inl (G.2 4, 11520, .inl bf)) := by rw [ef_4]; exact Lk.up hbA (Lk.neAA hbA hrA (by decide))
        have hdA : Lk L f_4 dA (.inl (G.2 1, 20, .inl (fun j => bI ((shM m_ p_ dn) j)))) := by rw [ef_4]; exact Lk.up hdA (Ne.symm hB.2.2.2.2.2.2.2.2.2.2.2.2.2.2.2.2.2.2.2.1)
        have hcA : Lk L f_4 cA (.inl (G.2 4, 20, .inl (fun j => nI ((shM m_ p_ rc) j)))) := by rw [ef_4]; exact Lk.up hcA (Ne.symm hB.2.2.2.2.2.2.2.2.2.2.2.2.2.2.2.2.2.2.2.2.1)
        have heA : Lk L f_4 eA (.inl (G.2 4, 6144, .inl xf)) := by rw [ef_4]; exact Lk.up heA (Lk.neAA heA hrA (by decide))
        have hrA : Lk L f_4 rA (.inl (G.2 4, 20, .inl (upd (fun j => nI ((shM m_ p_ rk) j)) p_ (nI (rk (p_ + 1)))))) := by rw [ef_4]; exact Lk.set hrA
        have hkp : Kp (fun a => moE (f a)) L f (L, f_4) := by rw [ef_4]; exact hkp.up (moE_a hB.2.2.2.2.2.2.2.2.2.1 (by decide))
        have hrA : Lk L f_4 rA (.inl (G.2 4, 20, .inl (fun j => nI (shM m_ (p_ + 1) rk j)))) := by have e8 : upd (fun j => nI ((shM m_ p_ rk) j)) p_ (nI (rk (p_ + 1))) = (fun j => nI (shM m_ (p_ + 1) rk j)) := (by rw [upd_nI, shM_s hmp]); rw [← e8]; exact hrA
        refine lv_aload_n hx hb d_Mo_drop_41 rfl (lv_at hl 0 rfl) ?_
        refine va_get (D := G.1) (ci := 5) (v := .ref dA) (C := R_Mo) (T := T_Mo) (N := 14) hx hb hA in_Mo hown hK.1 (pl_o hP hmo) 0 rfl rfl 10 (by decide) (hA _ kw_208) (fun _ h9 => h9) rfl d_Mo_drop_42 ?_
        refine lv_iload_n hx hb d_Mo_drop_45 rfl (lv_at hl 1 rfl) ?_
        refine lv_iconst (v := nI 1) hx hb d_Mo_drop_46 (by decide) ?_
        refine lv_isub hx hb d_Mo_drop_47 ?_
        refine xv_I (y := nI p_) (nI_pred p_) ?_
        refine lv_aload_n hx hb d_Mo_drop_48 rfl (lv_at hl 0 rfl) ?_
        refine va_get (D := G.1) (ci := 5) (v := .ref dA) (C := R_Mo) (T := T_Mo) (N := 14) hx hb hA in_Mo hown hK.1 (pl_o hP hmo) 0 rfl rfl 10 (by decide) (hA _ kw_208) (fun _ h9 => h9) rfl d_Mo_drop_49 ?_
        refine lv_iload_n hx hb d_Mo_drop_52 rfl (lv_at hl 1 rfl) ?_
        refine xl_zald hx hb hK.1 (pl_o hP hdA) 0 1 rfl rfl (i := (p_ + 1)) (by omega) (by decide) d_Mo_drop_53 ?_
        refine xv_I (y := bI (dn (p_ + 1))) (congrArg bI shM_at) ?_
        refine xw_zast hx hb hK.1 hP hD hS 1 hdA rfl (i := p_) (x := bI (dn (p_ + 1))) (by omega) (by decide) (bI_vp _) d_Mo_drop_54 (fun H locs hP hD hS => ?_)
        obtain ⟨f_5, ef_5⟩ : ∃ z : Nat → va_E, z = va_up f_4 dA (.inl (G.2 1, 20, .inl (upd (fun j => bI ((shM m_ p_ dn) j)) p_ (bI (dn (p_ + 1)))))) := ⟨_, rfl⟩
        rw [← ef_5] at hP hD
        have hmo : Lk L f_5 mo (.inr (5, [.int (nI 0), .ref gA, .int (nI cn), .ref kA, .ref fA, .ref sA, .ref tA, .ref bA, .int (nI rn), .ref rA, .ref dA, .ref cA, .ref eA, .int (bI kn)])) := by rw [ef_5]; exact Lk.up hmo (Lk.neOA hmo hdA)
        have hgA : Lk L f_5 gA (.inl (G.2 4, 8, .inl gf)) := by rw [ef_5]; exact Lk.up hgA (Lk.neAA hgA hdA (by decide))
        have hkA : Lk L f_5 kA (.inl (G.2 4, 60, .inl (fun j => nI (kd j)))) := by rw [ef_5]; exact Lk.up hkA (Lk.neAA hkA hdA (by decide))
        have hfA : Lk L f_5 fA (.inl (G.2 4, 60, .inl ka)) := by rw [ef_5]; exact Lk.up hfA (Lk.neAA hfA hdA (by decide))
        have hsA : Lk L f_5 sA (.inl (G.2 4, 60, .inl kb)) := by rw [ef_5]; exact Lk.up hsA (Lk.neAA hsA hdA (by decide))
        have htA : Lk L f_5 tA (.inl (G.2 4, 60, .inl kc)) := by rw [ef_5]; exact Lk.up htA (Lk.neAA htA hdA (by decide))
        have hbA : Lk L f_5 bA (.inl (G.2 4, 11520, .inl bf)) := by rw [ef_5]; exact Lk.up hbA (Lk.neAA hbA hdA (by decide))
        have hrA : Lk L f_5 rA (.inl (G.2 4, 20, .inl (fun j => nI (shM m_ (p_ + 1) rk j)))) := by rw [ef_5]; exact Lk.up hrA hB.2.2.2.2.2.2.2.2.2.2.2.2.2.2.2.2.2.2.2.1
        have hcA : Lk L f_5 cA (.inl (G.2 4, 20, .inl (fun j => nI ((shM m_ p_ rc) j)))) := by rw [ef_5]; exact Lk.up hcA (Ne.symm hB.2.2.2.2.2.2.2.2.2.2.2.2.2.2.2.2.2.2.2.2.2)
        have heA : Lk L f_5 eA (.inl (G.2 4, 6144, .inl xf)) := by rw [ef_5]; exact Lk.up heA (Lk.neAA heA hdA (by decide))
        have hdA : Lk L f_5 dA (.inl (G.2 1, 20, .inl (upd (fun j => bI ((shM m_ p_ dn) j)) p_ (bI (dn (p_ + 1)))))) := by rw [ef_5]; exact Lk.set hdA
        have hkp : Kp (fun a => moE (f a)) L f (L, f_5) := by rw [ef_5]; exact hkp.up (moE_a hB.2.2.2.2.2.2.2.2.2.2.1 (by decide))
        have hdA : Lk L f_5 dA (.inl (G.2 1, 20, .inl (fun j => bI (shM m_ (p_ + 1) dn j)))) := by have e8 : upd (fun j => bI ((shM m_ p_ dn) j)) p_ (bI (dn (p_ + 1))) = (fun j => bI (shM m_ (p_ + 1) dn j)) := (by rw [upd_bI, shM_s hmp]); rw [← e8]; exact hdA
        refine lv_aload_n hx hb d_Mo_drop_55 rfl (lv_at hl 0 rfl) ?_
        refine va_get (D := G.1) (ci := 5) (v := .ref cA) (C := R_Mo) (T := T_Mo) (N := 14) hx hb hA in_Mo hown hK.1 (pl_o hP hmo) 0 rfl rfl 11 (by decide) (hA _ kw_203) (fun _ h9 => h9) rfl d_Mo_drop_56 ?_
        refine lv_iload_n hx hb d_Mo_drop_59 rfl (lv_at hl 1 rfl) ?_
        refine lv_iconst (v := nI 1) hx hb d_Mo_drop_60 (by decide) ?_
        refine lv_isub hx hb d_Mo_drop_61 ?_
        refine xv_I (y := nI p_) (nI_pred p_) ?_
        refine lv_aload_n hx hb d_Mo_drop_62 rfl (lv_at hl 0 rfl) ?_
        refine va_get (D := G.1) (ci := 5) (v := .ref cA) (C := R_Mo) (T := T_Mo) (N := 14) hx hb hA in_Mo hown hK.1 (pl_o hP hmo) 0 rfl rfl 11 (by decide) (hA _ kw_203) (fun _ h9 => h9) rfl d_Mo_drop_63 ?_
        refine lv_iload_n hx hb d_Mo_drop_66 rfl (lv_at hl 1 rfl) ?_
        refine xl_iald hx hb hK.1 (pl_o hP hcA) 0 4 rfl rfl (i := (p_ + 1)) (by omega) (by decide) d_Mo_drop_67 ?_
        refine xv_I (y := nI (rc (p_ + 1))) (congrArg nI shM_at) ?_
        refine xw_iast hx hb hK.1 hP hD hS 4 hcA rfl (i := p_) (x := nI (rc (p_ + 1))) (by omega) (by decide) d_Mo_drop_68 (fun H locs hP hD hS => ?_)
        obtain ⟨f_6, ef_6⟩ : ∃ z : Nat → va_E, z = va_up f_5 cA (.inl (G.2 4, 20, .inl (upd (fun j => nI ((shM m_ p_ rc) j)) p_ (nI (rc (p_ + 1)))))) := ⟨_, rfl⟩
        rw [← ef_6] at hP hD
        have hmo : Lk L f_6 mo (.inr (5, [.int (nI 0), .ref gA, .int (nI cn), .ref kA, .ref fA, .ref sA, .ref tA, .ref bA, .int (nI rn), .ref rA, .ref dA, .ref cA, .ref eA, .int (bI kn)])) := by rw [ef_6]; exact Lk.up hmo (Lk.neOA hmo hcA)
        have hgA : Lk L f_6 gA (.inl (G.2 4, 8, .inl gf)) := by rw [ef_6]; exact Lk.up hgA (Lk.neAA hgA hcA (by decide))
        have hkA : Lk L f_6 kA (.inl (G.2 4, 60, .inl (fun j => nI (kd j)))) := by rw [ef_6]; exact Lk.up hkA (Lk.neAA hkA hcA (by decide))
        have hfA : Lk L f_6 fA (.inl (G.2 4, 60, .inl ka)) := by rw [ef_6]; exact Lk.up hfA (Lk.neAA hfA hcA (by decide))
        have hsA : Lk L f_6 sA (.inl (G.2 4, 60, .inl kb)) := by rw [ef_6]; exact Lk.up hsA (Lk.neAA hsA hcA (by decide))
        have htA : Lk L f_6 tA (.inl (G.2 4, 60, .inl kc)) := by rw [ef_6]; exact Lk.up htA (Lk.neAA htA hcA (by decide))
        have hbA : Lk L f_6 bA (.inl (G.2 4, 11520, .inl bf)) := by rw [ef_6]; exact Lk.up hbA (Lk.neAA hbA hcA (by decide))
        have hrA : Lk L f_6 rA (.inl (G.2 4, 20, .inl (fun j => nI (shM m_ (p_ + 1) rk j)))) := by rw [ef_6]; exact Lk.up hrA hB.2.2.2.2.2.2.2.2.2.2.2.2.2.2.2.2.2.2.2.2.1
        have hdA : Lk L f_6 dA (.inl (G.2 1, 20, .inl (fun j => bI (shM m_ (p_ + 1) dn j)))) := by rw [ef_6]; exact Lk.up hdA hB.2.2.2.2.2.2.2.2.2.2.2.2.2.2.2.2.2.2.2.2.2
        have heA : Lk L f_6 eA (.inl (G.2 4, 6144, .inl xf)) := by rw [ef_6]; exact Lk.up heA (Lk.neAA heA hcA (by decide))
        have hcA : Lk L f_6 cA (.inl (G.2 4, 20, .inl (upd (fun j => nI ((shM m_ p_ rc) j)) p_ (nI (rc (p_ + 1)))))) := by rw [ef_6]; exact Lk.set hcA
        have hkp : Kp (fun a => moE (f a)) L f (L, f_6) := by rw [ef_6]; exact hkp.up (moE_a hB.2.2.2.2.2.2.2.2.2.2.2.1 (by decide))
        have hcA : Lk L f_6 cA (.inl (G.2 4, 20, .inl (fun j => nI (shM m_ (p_ + 1) rc j)))) := by have e8 : upd (fun j => nI ((shM m_ p_ rc) j)) p_ (nI (rc (p_ + 1))) = (fun j => nI (shM m_ (p_ + 1) rc j)) := (by rw [upd_nI, shM_s hmp]); rw [← e8]; exact hcA
        have hB2 : MoB G L f_6 mo gA kA fA sA tA bA rA dA cA eA cn rn kn gf kd ka kb kc bf (shM m_ (p_ + 1) rk) (shM m_ (p_ + 1) dn) (shM m_ (p_ + 1) rc) xf := ⟨hB.1, hB.2.1, hmo, hgA, hkA, hfA, hsA, htA, hbA, hrA, hdA, hcA, heA, hB.2.2.2.2.2.2.2.2.2.2.2.2.2⟩
        refine lv_iinc (v := nI ((p_ + 1) + 1)) (lv' := [(2, .int (nI ((p_ + 1) + 1))), (0, .ref mo)]) hx hb d_Mo_drop_69 hl (k := 1) rfl (nI_1 (p_ + 1)) (by decide) rfl (fun ls hl => ?_)
        refine lv_goto (tgt := 19) hx hb d_Mo_drop_72 (by decide) ?_
        exact iho (p_ + 1) H locs f_6  ls (by omega) (Nat.le_succ_of_le hmp) hB2 hkp hP hD hS (lv_sub hl [1, 0] rfl)
    exact loopo ((rn - 1) - m_) m_ H locs f_1  ls (by omega) (Nat.le_refl _) (by rw [shM_0, shM_0, shM_0]; exact hB1) hkp hP hD hS (lv_sub hl [1, 0] rfl)
