set_option maxHeartbeats 4000000 in
set_option maxRecDepth 100000 in
/-- RuleBook.add -/
theorem c_Rb_add (l : Launch) (G : GG) (L : List Nat) (f : Nat → va_E) (sz : Nat) (hN : L.Nodup) {cb mA gA cn : Nat} {ad wa kd : Nat → Nat} {ka kb kc : Nat → Int32} {wd : Nat → Nat → Int64} {mm : Nat → Bool} (hC : CoB G L f cb mA gA cn ad wa kd ka kb kc wd mm) {rb rA n : Nat} {rad rc rk nu : Nat → Nat} {dn : Nat → Bool} (hR : RuB0 G L f rb rA n rad rc rk nu dn ad) (hrc : ∀ q, q < n → rc q < cn) (r0 c0 : Nat) (d0 : Bool) (hr0 : r0 < 10) : Met l y_Rb_add (.code y_Rb_add b_Rb_add 7 (some .int) :: AW) (RW 3 1 4) (va_Pc [.ref rb, .int (nI r0), .int (bI d0), .ref (ad c0)] (PZ G L f sz)) (va_Qi (fun r u => (n = 20 ∧ r = -3 ∧ u = (L, f)) ∨ (n < 20 ∧ r = nI n ∧ ∃ fr pl, fr ∉ L ∧ fst0 (isPl n r0 d0 rk dn) 20 0 = some pl ∧ pl ≤ n ∧ Kp (fun a => a = rb ∨ a = rA) L f u ∧ RuB0 G u.1 u.2 rb rA (n + 1) (insA rad pl fr) (insA rc pl c0) (insA rk pl r0) (insA nu pl n) (insA dn pl d0) ad)) (BZ G (Am L sz)) (Am L sz)) 1 4 (Am L sz) := by
  refine Met.ofW (cc := b_Rb_add) (maxL := 7) (ret := (some .int)) (by decide) rfl ?_
  intro p e s m args below meth c s₁ B hml hv
  obtain ⟨rfl, hsz, hP, hK⟩ := hv
  have hx := B.exec
  have hb := B.bytes
  have hr := B.returns
  have hA : ∀ w ∈ AW, w.before _ s = true := fun w h => atoms_spec (ws := (.code y_Rb_add b_Rb_add 7 (some .int) :: AW)) B.pre w (List.mem_cons_of_mem _ h)
  have hown : s.vm.findClass R_Rb = some m.cls := findClass_of_methodNamed B.named
  have hlocks := B.notSynchronized
  subst hsz
  have hD : va_D (Am L s.heap.size) (va_pl L f) := pl_D hN (fun _ h => Or.inl h)
  have hA0 : ∀ q, s.heap.size ≤ q → Am L s.heap.size q := fun q h => Or.inr h
  generalize Am L s.heap.size = A at hD hA0 ⊢
  have hS : va_S A s.heap s.heap [] := va_S.rf
  have hkp : Kp (fun _ => False) L f (L, f) := Kp.rf
  have hl := lv_entry ([.ref rb, .int (nI r0), .int (bI d0), .ref (ad c0)]) (n := 7) (Nat.le_of_ble_eq_true rfl)
  rw [lg_entry_eq]
  generalize (lg_sl ([.ref rb, .int (nI r0), .int (bI d0), .ref (ad c0)]) ++ List.replicate (7 - (lg_sl ([.ref rb, .int (nI r0), .int (bI d0), .ref (ad c0)])).length) Slot.unset).toArray = ls at hl ⊢
  have hl : lv_has ls 7 [(0, .ref rb), (1, .int (nI r0)), (2, .int (bI d0)), (3, .ref (ad c0))] := hl
  have hn20 := hR.1
  have hrb : Lk L f rb (.inr (3, [.ref rA, .int (nI n)])) := hR.2.1
  have hrA : Lk L f rA (.inl (G.2 3, 20, .inr (.inr (.inr (.inr (upto n rad)))))) := hR.2.2.1
  refine lv_aload_n hx hb d_Rb_add_0 rfl (lv_at hl 0 rfl) ?_
  refine va_get (D := G.1) (ci := 3) (v := .int (nI n)) (C := R_Rb) (T := T_Rb) (N := 2) hx hb hA in_Rb hown hK.1 (pl_o hP hrb) 0 rfl rfl 1 (by decide) (hA _ kw_59) (fun _ h9 => h9) rfl d_Rb_add_1 ?_
  refine lv_aload_n hx hb d_Rb_add_4 rfl (lv_at hl 0 rfl) ?_
  refine va_get (D := G.1) (ci := 3) (v := .ref rA) (C := R_Rb) (T := T_Rb) (N := 2) hx hb hA in_Rb hown hK.1 (pl_o hP hrb) 0 rfl rfl 0 (by decide) (hA _ kw_8) (fun _ h9 => h9) rfl d_Rb_add_5 ?_
  refine va_alen (v := nI 20) hx hb hK.1 (pl_o hP hrA) 0 3 rfl rfl rfl d_Rb_add_8 ?_
  refine vp_callSi (va_Run.run (va_runSN (As := [.int (nI n), .int (nI 20)]) (rest := []) ⟨hx, hb, hml, hown, hA⟩ (c_isBelow l G L f (nI n) (nI 20)) ⟨va_cnB 2 hA (gAW kw_4) rfl rfl rfl (hK.2.1 _ kz_2) (hA _ kw_5) (by decide +kernel) ⟨Nat.le_of_ble_eq_true rfl, Nat.le_of_ble_eq_true rfl⟩, (hA _ kw_6), trivial⟩ (pw_preS hP hK) rfl rfl hl.1 rfl (lv_room (Nat.le_of_ble_eq_true rfl)) d_Rb_add_9 ⟨Nat.zero_le _, Nat.zero_le _⟩)) (fun r_1 e_2 => ?_)
  subst e_2
  by_cases hlt : n < 20
  · refine lv_if_ne (tgt := 18) hx hb d_Rb_add_12 (by decide) (fun _ => ?_) (fun c9 => absurd c9 (by rw [blw_nI (by decide) (by omega), decide_eq_true hlt]; decide))
    refine xw_new (D := G.1) (ci := 2) (fs := [.int 0, .int 0, .null, .int 0]) (C := R_Ru) (T := T_Ru) (N := 4) hx hb hA in_Ru ty_Ru tyok_Ru hown (hA _ kw_147) (hA _ kw_148) (hA _ kw_53) hK.1 hP hD hS hA0 rfl (fun j hj => by rcases (show j = 0 ∨ j = 1 ∨ j = 2 ∨ j = 3 by omega) with rfl | rfl | rfl | rfl <;> rfl) (Nat.le_of_ble_eq_true rfl) (Nat.le_of_ble_eq_true rfl) d_Rb_add_18 (fun q_3 H hq_4 hP hD hS => ?_)
    refine W.widen (k := 1) (n := 4) (by omega) (by omega) ?_
    obtain ⟨f_1, ef_1⟩ : ∃ z : Nat → va_E, z = va_up f q_3 (.inr (2, [.int 0, .int 0, .null, .int 0])) := ⟨_, rfl⟩
    obtain ⟨L_1, eL_1⟩ : ∃ z : List Nat, z = L ++ [q_3] := ⟨_, rfl⟩
    rw [← ef_1, ← eL_1] at hP hD
    have hrb : Lk L_1 f_1 rb (.inr (3, [.ref rA, .int (nI n)])) := by rw [ef_1, eL_1]; exact Lk.push hrb hq_4
    have hrA : Lk L_1 f_1 rA (.inl (G.2 3, 20, .inr (.inr (.inr (.inr (upto n rad)))))) := by rw [ef_1, eL_1]; exact Lk.push hrA hq_4
    have t_1 : Lk L_1 f_1 q_3 (.inr (2, [.int 0, .int 0, .null, .int 0])) := by rw [ef_1, eL_1]; exact Lk.new
    have hkp : Kp (fun _ => False) L f (L_1, f_1) := by rw [ef_1, eL_1]; exact hkp.push hq_4
    have hfL : q_3 ∉ L := hq_4
    refine lv_dup hx hb d_Rb_add_21 rfl ?_
    refine lv_aload_n hx hb d_Rb_add_22 rfl (lv_at hl 0 rfl) ?_
    refine va_get (D := G.1) (ci := 3) (v := .int (nI n)) (C := R_Rb) (T := T_Rb) (N := 2) hx hb hA in_Rb hown hK.1 (pl_o hP hrb) 0 rfl rfl 1 (by decide) (hA _ kw_59) (fun _ h9 => h9) rfl d_Rb_add_23 ?_
    refine lv_iload_n hx hb d_Rb_add_26 rfl (lv_at hl 1 rfl) ?_
    refine lv_iload_n hx hb d_Rb_add_27 rfl (lv_at hl 2 rfl) ?_
    refine lv_aload_n hx hb d_Rb_add_28 rfl (lv_at hl 3 rfl) ?_
    have n_5 : ¬ rb = q_3 := Lk.neOO hrb t_1 (by decide)
    have n_6 : ¬ rA = q_3 := Ne.symm (Lk.neOA t_1 hrA)
    have hFc := am_free hD hS hA0
    refine va_callv (va_runIN (As := [.int (nI n), .int (nI r0), .int (bI d0), .ref (ad c0)]) (rest := [.ref q_3]) ⟨hx, hb, hml, hown, hA⟩ (c_Ru_init l G L_1 f_1 H.size (pl_nd hD) t_1 (nI n) (nI r0) d0 (ad c0)) ⟨va_cnB 4 hA (gAW kw_149) rfl rfl rfl (hK.2.1 _ kz_31) (hA _ kw_53) (by decide +kernel) ⟨Nat.le_of_ble_eq_true rfl, Nat.le_of_ble_eq_true rfl⟩, rfl, (hA _ kw_150)⟩ (pz_preS hP hK) rfl rfl hl.1 rfl (lv_room (Nat.le_of_ble_eq_true rfl)) d_Rb_add_29 ⟨Nat.le_of_ble_eq_true rfl, Nat.le_of_ble_eq_true rfl⟩) hS (fun q _ h => hFc q h) hFc (fun u9 t9 H1 locs ht9 hvm hw hWB hz1 hk1 hS => ?_)
    obtain ⟨L_2, f_2⟩ := u9
    obtain ⟨hP, hD1⟩ := hWB
    rw [ht9] at hP
    have hD := va_Dw hD1 hFc
    clear hD1 hk1 hz1 hFc ht9 hvm
    generalize H1 = H at hP hS ⊢
    dsimp only at hP hD
    obtain ⟨hk1, hu1, a1⟩ := hw
    have hrb : Lk L_2 f_2 rb (.inr (3, [.ref rA, .int (nI n)])) := hk1.k hrb n_5
    have hrA : Lk L_2 f_2 rA (.inl (G.2 3, 20, .inr (.inr (.inr (.inr (upto n rad)))))) := hk1.k hrA n_6
    try dsimp only at hu1 a1
    have hkp : Kp (fun _ => False) L f (L_2, f_2) := hkp.call hk1 (fun a ha e => absurd (e ▸ ha) hfL)
    have hC1 : CoB G L_2 f_2 cb mA gA cn ad wa kd ka kb kc wd mm := hC.keep hkp (fun _ _ _ _ z => z)
    have hR1 : RuB0 G L_2 f_2 rb rA n rad rc rk nu dn ad := hR.keep hkp (fun _ _ _ _ z => z)
    refine lv_astore (lv' := [(4, .ref q_3), (0, .ref rb), (1, .int (nI r0)), (2, .int (bI d0)), (3, .ref (ad c0))]) hx hb d_Rb_add_32 hl (by decide) rfl (fun ls hl => ?_)
    refine lv_aload_n hx hb d_Rb_add_34 rfl (lv_at hl 1 rfl) ?_
    refine lv_aload hx hb d_Rb_add_35 (lv_at hl 0 rfl) ?_
    refine vp_callSi (va_Run.run (va_runV (As := [.ref q_3]) (rest := []) ⟨hx, hb, hml, hown, hA⟩ (c_Rb_placeFor l G L_2 f_2 (RuB_of hC1 hR1 hrc) a1 hr0) ⟨callB_of 1 hA (gAW kw_151) rfl rfl rfl (hA _ kw_48) (hA _ kw_152) (by decide +kernel) ⟨Nat.le_of_ble_eq_true rfl, Nat.le_of_ble_eq_true rfl⟩, (hA _ kw_153), (hA _ kw_154)⟩ (pw_preV (ci := 3) hP hK hrb rfl) rfl rfl hl.1 rfl (lv_room (Nat.le_of_ble_eq_true rfl)) d_Rb_add_37 ⟨Nat.le_of_ble_eq_true rfl, Nat.le_of_ble_eq_true rfl⟩)) (fun r_8 e_9 => ?_)
    subst e_9
    obtain ⟨pl, hpl, hpn⟩ : ∃ pl, fst0 (isPl n r0 d0 rk dn) 20 0 = some pl ∧ pl ≤ n := isPl_some hlt
    refine xv_I (y := nI pl) (by rw [hpl]; rfl) ?_
    refine lv_istore (lv' := [(5, .int (nI pl)), (4, .ref q_3), (0, .ref rb), (1, .int (nI r0)), (2, .int (bI d0)), (3, .ref (ad c0))]) hx hb d_Rb_add_40 hl (by decide) rfl (fun ls hl => ?_)
    refine lv_aload_n hx hb d_Rb_add_42 rfl (lv_at hl 2 rfl) ?_
    refine va_get (D := G.1) (ci := 3) (v := .ref rA) (C := R_Rb) (T := T_Rb) (N := 2) hx hb hA in_Rb hown hK.1 (pl_o hP hrb) 0 rfl rfl 0 (by decide) (hA _ kw_8) (fun _ h9 => h9) rfl d_Rb_add_43 ?_
    refine va_alen (v := nI 20) hx hb hK.1 (pl_o hP hrA) 0 3 rfl rfl rfl d_Rb_add_46 ?_
    refine lv_iconst (v := nI 1) hx hb d_Rb_add_47 (by decide) ?_
    refine lv_isub hx hb d_Rb_add_48 ?_
    refine xv_I (y := nI 19) (by decide) ?_
    refine lv_istore (lv' := [(6, .int (nI 19)), (5, .int (nI pl)), (4, .ref q_3), (0, .ref rb), (1, .int (nI r0)), (2, .int (bI d0)), (3, .ref (ad c0))]) hx hb d_Rb_add_49 hl (by decide) rfl (fun ls hl => ?_)
    have loop : ∀ (kk : Nat) (H : Heap) (locs : List Loc) (ls : Array Slot), pl + kk < 20 → va_P G.1 vwCl (va_pl L_2 (va_up f_2 rA (.inl (G.2 3, 20, .inr (.inr (.inr (.inr (shU (pl + kk) (upto n rad))))))))) H → va_D A (va_pl L_2 (va_up f_2 rA (.inl (G.2 3, 20, .inr (.inr (.inr (.inr (shU (pl + kk) (upto n rad))))))))) → va_S A s.heap H locs → lv_has ls 7 [(0, .ref rb), (4, .ref q_3), (5, .int (nI pl)), (6, .int (nI (pl + kk)))] → W p l e (headSpec (.code y_Rb_add b_Rb_add 7 (some .int) :: AW) (RW 3 1 4)).room s m ([.ref rb, .int (nI r0), .int (bI d0), .ref (ad c0)] : List Value).toArray below meth c H locs 1 4 (MQ below (va_Qi (fun r u => (n = 20 ∧ r = -3 ∧ u = (L, f)) ∨ (n < 20 ∧ r = nI n ∧ ∃ fr pl, fr ∉ L ∧ fst0 (isPl n r0 d0 rk dn) 20 0 = some pl ∧ pl ≤ n ∧ Kp (fun a => a = rb ∨ a = rA) L f u ∧ RuB0 G u.1 u.2 rb rA (n + 1) (insA rad pl fr) (insA rc pl c0) (insA rk pl r0) (insA nu pl n) (insA dn pl d0) ad)) (BZ G A) A) ([.ref rb, .int (nI r0), .int (bI d0), .ref (ad c0)] : List Value).toArray s 1 4 A) (F0 m 51 ls []) := by
      intro kk
      induction kk with
      | zero =>
        intro H locs ls hlt2 hP hD hS hl
        have hrb : Lk L_2 (va_up f_2 rA (.inl (G.2 3, 20, .inr (.inr (.inr (.inr (shU (pl + 0) (upto n rad)))))))) rb (.inr (3, [.ref rA, .int (nI n)])) := Lk.up hrb (Lk.neOA hrb hrA)
        have a1_ : Lk L_2 (va_up f_2 rA (.inl (G.2 3, 20, .inr (.inr (.inr (.inr (shU (pl + 0) (upto n rad)))))))) q_3 (.inr (2, [.int (nI r0), .int (bI d0), .ref (ad c0), .int (nI n)])) := Lk.up a1 (Lk.neOA a1 hrA)
        have hrA_ : Lk L_2 (va_up f_2 rA (.inl (G.2 3, 20, .inr (.inr (.inr (.inr (shU (pl + 0) (upto n rad)))))))) rA (.inl (G.2 3, 20, .inr (.inr (.inr (.inr (shU (pl + 0) (upto n rad))))))) := Lk.set hrA
        have hkp : Kp (fun a => a = rb ∨ a = rA) L f (L_2, (va_up f_2 rA (.inl (G.2 3, 20, .inr (.inr (.inr (.inr (shU (pl + 0) (upto n rad))))))))) := Kp.up (hkp.mono (fun _ z => z.elim)) (Or.inr rfl)
        refine lv_iload hx hb d_Rb_add_51 (lv_at hl 3 rfl) ?_
        by_cases hp0 : pl = 0
        · refine lv_if_le (tgt := 85) hx hb d_Rb_add_53 (by decide) (fun _ => ?_) (fun c9 => absurd (by rw [hp0]; decide) c9)
          refine lv_iload hx hb d_Rb_add_85 (lv_at hl 2 rfl) ?_
          refine lv_aload_n hx hb d_Rb_add_87 rfl (lv_at hl 0 rfl) ?_
          refine va_get (D := G.1) (ci := 3) (v := .ref rA) (C := R_Rb) (T := T_Rb) (N := 2) hx hb hA in_Rb hown hK.1 (pl_o hP hrb) 0 rfl rfl 0 (by decide) (hA _ kw_8) (fun _ h9 => h9) rfl d_Rb_add_88 ?_
          refine va_alen (v := nI 20) hx hb hK.1 (pl_o hP hrA_) 0 3 rfl rfl rfl d_Rb_add_91 ?_
          refine vp_callSi (va_Run.run (va_runSN (As := [.int (nI pl), .int (nI 20)]) (rest := []) ⟨hx, hb, hml, hown, hA⟩ (c_isBelow l G L_2 (va_up f_2 rA (.inl (G.2 3, 20, .inr (.inr (.inr (.inr (shU (pl + 0) (upto n rad)))))))) (nI pl) (nI 20)) ⟨va_cnB 2 hA (gAW kw_4) rfl rfl rfl (hK.2.1 _ kz_2) (hA _ kw_5) (by decide +kernel) ⟨Nat.le_of_ble_eq_true rfl, Nat.le_of_ble_eq_true rfl⟩, (hA _ kw_6), trivial⟩ (pw_preS hP hK) rfl rfl hl.1 rfl (lv_room (Nat.le_of_ble_eq_true rfl)) d_Rb_add_92 ⟨Nat.le_of_ble_eq_true rfl, Nat.le_of_ble_eq_true rfl⟩)) (fun r_10 e_11 => ?_)
          subst e_11
          refine lv_if_eq (tgt := 107) hx hb d_Rb_add_95 (by decide) (fun c9 => absurd c9 (by rw [blw_nI (by decide) (by omega), decide_eq_true (show pl < 20 by omega)]; decide)) (fun _ => ?_)
          refine lv_aload_n hx hb d_Rb_add_98 rfl (lv_at hl 0 rfl) ?_
          refine va_get (D := G.1) (ci := 3) (v := .ref rA) (C := R_Rb) (T := T_Rb) (N := 2) hx hb hA in_Rb hown hK.1 (pl_o hP hrb) 0 rfl rfl 0 (by decide) (hA _ kw_8) (fun _ h9 => h9) rfl d_Rb_add_99 ?_
          refine lv_iload hx hb d_Rb_add_102 (lv_at hl 2 rfl) ?_
          refine lv_aload hx hb d_Rb_add_104 (lv_at hl 1 rfl) ?_
          refine xw_astq hx hb hK.1 hP hD hS 3 2 hrA_ rfl a1_ rfl (i := pl) (by omega) (by decide) d_Rb_add_106 (fun H locs hP hD hS => ?_)
          have n_12 : rb ≠ rA := Lk.neOA hrb hrA_
          have n_13 : q_3 ≠ rA := Lk.neOA a1_ hrA_
          obtain ⟨f_3, ef_3⟩ : ∃ z : Nat → va_E, z = va_up (va_up f_2 rA (.inl (G.2 3, 20, .inr (.inr (.inr (.inr (shU (pl + 0) (upto n rad)))))))) rA (.inl (G.2 3, 20, .inr (.inr (.inr (.inr (va_up (shU (pl + 0) (upto n rad)) pl (some q_3))))))) := ⟨_, rfl⟩
          rw [← ef_3] at hP hD
          have hrb : Lk L_2 f_3 rb (.inr (3, [.ref rA, .int (nI n)])) := by rw [ef_3]; exact Lk.up hrb n_12
          have a1_ : Lk L_2 f_3 q_3 (.inr (2, [.int (nI r0), .int (bI d0), .ref (ad c0), .int (nI n)])) := by rw [ef_3]; exact Lk.up a1_ n_13
          have hrA_ : Lk L_2 f_3 rA (.inl (G.2 3, 20, .inr (.inr (.inr (.inr (va_up (shU (pl + 0) (upto n rad)) pl (some q_3))))))) := by rw [ef_3]; exact Lk.set hrA_
          have hkp : Kp (fun a => a = rb ∨ a = rA) L f (L_2, f_3) := by rw [ef_3]; exact hkp.up (Or.inr rfl)
          refine lv_aload_n hx hb d_Rb_add_107 rfl (lv_at hl 0 rfl) ?_
          refine lv_dup hx hb d_Rb_add_108 rfl ?_
          refine va_get (D := G.1) (ci := 3) (v := .int (nI n)) (C := R_Rb) (T := T_Rb) (N := 2) hx hb hA in_Rb hown hK.1 (pl_o hP hrb) 0 rfl rfl 1 (by decide) (hA _ kw_59) (fun _ h9 => h9) rfl d_Rb_add_109 ?_
          refine lv_iconst (v := nI 1) hx hb d_Rb_add_112 (by decide) ?_
          refine lv_iadd hx hb d_Rb_add_113 ?_
          refine xv_I (y := nI (n + 1)) (nI_1 n) ?_
          refine xw_put (D := G.1) (ci := 3) (v := .int (nI (n + 1))) (ty := .int) (C := R_Rb) (T := T_Rb) (N := 2) (fs' := [.ref rA, .int (nI (n + 1))]) hx hb hA in_Rb ty_Rb tyok_Rb nm_Rb hown hK.1 hP hD hS hrb rfl 1 (by decide) (hA _ kw_59) (fun _ h9 => h9) rfl (by decide +kernel) rfl rfl (Nat.le_of_ble_eq_true rfl) d_Rb_add_114 rfl (fun H locs hP hD hS => ?_)
          have n_14 : q_3 ≠ rb := Lk.neOO a1_ hrb (by decide)
          have n_15 : rA ≠ rb := Ne.symm (Lk.neOA hrb hrA_)
          obtain ⟨f_4, ef_4⟩ : ∃ z : Nat → va_E, z = va_up f_3 rb (.inr (3, [.ref rA, .int (nI (n + 1))])) := ⟨_, rfl⟩
          rw [← ef_4] at hP hD
          have a1_ : Lk L_2 f_4 q_3 (.inr (2, [.int (nI r0), .int (bI d0), .ref (ad c0), .int (nI n)])) := by rw [ef_4]; exact Lk.up a1_ n_14
          have hrA_ : Lk L_2 f_4 rA (.inl (G.2 3, 20, .inr (.inr (.inr (.inr (va_up (shU (pl + 0) (upto n rad)) pl (some q_3))))))) := by rw [ef_4]; exact Lk.up hrA_ n_15
          have hrb : Lk L_2 f_4 rb (.inr (3, [.ref rA, .int (nI (n + 1))])) := by rw [ef_4]; exact Lk.set hrb
          have hkp : Kp (fun a => a = rb ∨ a = rA) L f (L_2, f_4) := by rw [ef_4]; exact hkp.up (Or.inl rfl)
          refine lv_aload hx hb d_Rb_add_117 (lv_at hl 1 rfl) ?_
          refine va_getN (D := G.1) (ci := 2) (v := .int (nI n)) (C := R_Ru) (T := T_Ru) (N := 4) hx hb hA in_Ru hown hK.1 (pl_o hP a1_) 0 rfl rfl 3 (by decide) (va_Nw.use rfl (hK.2.1 _ kz_11)) (fun _ h9 => h9) rfl d_Rb_add_119 ?_
          exact W.iret (v := nI n) hx hb hr (fun t9 h9t h9W => ⟨⟨_, (L_2, f_4), rfl, Or.inr ⟨hlt, rfl, q_3, pl, hfL, hpl, hpn, hkp, RuB0_ins hR hlt hpn hr0 hkp hrb hrA_ a1_⟩, by rw [h9t]; exact hP, hD⟩, hS.F h9t⟩) hS.2.2 d_Rb_add_122
        · refine lv_if_le (tgt := 85) hx hb d_Rb_add_53 (by decide) (fun c9 => absurd c9 (fun z => absurd ((nI_leI (b := 0) (by omega) (by decide)).mp z) (by omega))) (fun _ => ?_)
          refine lv_iload hx hb d_Rb_add_56 (lv_at hl 3 rfl) ?_
          refine lv_iload hx hb d_Rb_add_58 (lv_at hl 2 rfl) ?_
          refine lv_icmp_le (tgt := 85) hx hb d_Rb_add_60 (by decide) (fun _ => ?_) (fun c9 => absurd (nI_le (by omega) (by omega)) c9)
          refine lv_iload hx hb d_Rb_add_85 (lv_at hl 2 rfl) ?_
          refine lv_aload_n hx hb d_Rb_add_87 rfl (lv_at hl 0 rfl) ?_
          refine va_get (D := G.1) (ci := 3) (v := .ref rA) (C := R_Rb) (T := T_Rb) (N := 2) hx hb hA in_Rb hown hK.1 (pl_o hP hrb) 0 rfl rfl 0 (by decide) (hA _ kw_8) (fun _ h9 => h9) rfl d_Rb_add_88 ?_
          refine va_alen (v := nI 20) hx hb hK.1 (pl_o hP hrA_) 0 3 rfl rfl rfl d_Rb_add_91 ?_
          refine vp_callSi (va_Run.run (va_runSN (As := [.int (nI pl), .int (nI 20)]) (rest := []) ⟨hx, hb, hml, hown, hA⟩ (c_isBelow l G L_2 (va_up f_2 rA (.inl (G.2 3, 20, .inr (.inr (.inr (.inr (shU (pl + 0) (upto n rad)))))))) (nI pl) (nI 20)) ⟨va_cnB 2 hA (gAW kw_4) rfl rfl rfl (hK.2.1 _ kz_2) (hA _ kw_5) (by decide +kernel) ⟨Nat.le_of_ble_eq_true rfl, Nat.le_of_ble_eq_true rfl⟩, (hA _ kw_6), trivial⟩ (pw_preS hP hK) rfl rfl hl.1 rfl (lv_room (Nat.le_of_ble_eq_true rfl)) d_Rb_add_92 ⟨Nat.le_of_ble_eq_true rfl, Nat.le_of_ble_eq_true rfl⟩)) (fun r_16 e_17 => ?_)
          subst e_17
          refine lv_if_eq (tgt := 107) hx hb d_Rb_add_95 (by decide) (fun c9 => absurd c9 (by rw [blw_nI (by decide) (by omega), decide_eq_true (show pl < 20 by omega)]; decide)) (fun _ => ?_)
          refine lv_aload_n hx hb d_Rb_add_98 rfl (lv_at hl 0 rfl) ?_
          refine va_get (D := G.1) (ci := 3) (v := .ref rA) (C := R_Rb) (T := T_Rb) (N := 2) hx hb hA in_Rb hown hK.1 (pl_o hP hrb) 0 rfl rfl 0 (by decide) (hA _ kw_8) (fun _ h9 => h9) rfl d_Rb_add_99 ?_
          refine lv_iload hx hb d_Rb_add_102 (lv_at hl 2 rfl) ?_
          refine lv_aload hx hb d_Rb_add_104 (lv_at hl 1 rfl) ?_
          refine xw_astq hx hb hK.1 hP hD hS 3 2 hrA_ rfl a1_ rfl (i := pl) (by omega) (by decide) d_Rb_add_106 (fun H locs hP hD hS => ?_)
          have n_18 : rb ≠ rA := Lk.neOA hrb hrA_
          have n_19 : q_3 ≠ rA := Lk.neOA a1_ hrA_
          obtain ⟨f_5, ef_5⟩ : ∃ z : Nat → va_E, z = va_up (va_up f_2 rA (.inl (G.2 3, 20, .inr (.inr (.inr (.inr (shU (pl + 0) (upto n rad)))))))) rA (.inl (G.2 3, 20, .inr (.inr (.inr (.inr (va_up (shU (pl + 0) (upto n rad)) pl (some q_3))))))) := ⟨_, rfl⟩
          rw [← ef_5] at hP hD
          have hrb : Lk L_2 f_5 rb (.inr (3, [.ref rA, .int (nI n)])) := by rw [ef_5]; exact Lk.up hrb n_18
          have a1_ : Lk L_2 f_5 q_3 (.inr (2, [.int (nI r0), .int (bI d0), .ref (ad c0), .int (nI n)])) := by rw [ef_5]; exact Lk.up a1_ n_19
          have hrA_ : Lk L_2 f_5 rA (.inl (G.2 3, 20, .inr (.inr (.inr (.inr (va_up (shU (pl + 0) (upto n rad)) pl (some q_3))))))) := by rw [ef_5]; exact Lk.set hrA_
          have hkp : Kp (fun a => a = rb ∨ a = rA) L f (L_2, f_5) := by rw [ef_5]; exact hkp.up (Or.inr rfl)
          refine lv_aload_n hx hb d_Rb_add_107 rfl (lv_at hl 0 rfl) ?_
          refine lv_dup hx hb d_Rb_add_108 rfl ?_
          refine va_get (D := G.1) (ci := 3) (v := .int (nI n)) (C := R_Rb) (T := T_Rb) (N := 2) hx hb hA in_Rb hown hK.1 (pl_o hP hrb) 0 rfl rfl 1 (by decide) (hA _ kw_59) (fun _ h9 => h9) rfl d_Rb_add_109 ?_
          refine lv_iconst (v := nI 1) hx hb d_Rb_add_112 (by decide) ?_
          refine lv_iadd hx hb d_Rb_add_113 ?_
          refine xv_I (y := nI (n + 1)) (nI_1 n) ?_
          refine xw_put (D := G.1) (ci := 3) (v := .int (nI (n + 1))) (ty := .int) (C := R_Rb) (T := T_Rb) (N := 2) (fs' := [.ref rA, .int (nI (n + 1))]) hx hb hA in_Rb ty_Rb tyok_Rb nm_Rb hown hK.1 hP hD hS hrb rfl 1 (by decide) (hA _ kw_59) (fun _ h9 => h9) rfl (by decide +kernel) rfl rfl (Nat.le_of_ble_eq_true rfl) d_Rb_add_114 rfl (fun H locs hP hD hS => ?_)
          have n_20 : q_3 ≠ rb := Lk.neOO a1_ hrb (by decide)
          have n_21 : rA ≠ rb := Ne.symm (Lk.neOA hrb hrA_)
          obtain ⟨f_6, ef_6⟩ : ∃ z : Nat → va_E, z = va_up f_5 rb (.inr (3, [.ref rA, .int (nI (n + 1))])) := ⟨_, rfl⟩
          rw [← ef_6] at hP hD
          have a1_ : Lk L_2 f_6 q_3 (.inr (2, [.int (nI r0), .int (bI d0), .ref (ad c0), .int (nI n)])) := by rw [ef_6]; exact Lk.up a1_ n_20
          have hrA_ : Lk L_2 f_6 rA (.inl (G.2 3, 20, .inr (.inr (.inr (.inr (va_up (shU (pl + 0) (upto n rad)) pl (some q_3))))))) := by rw [ef_6]; exact Lk.up hrA_ n_21
          have hrb : Lk L_2 f_6 rb (.inr (3, [.ref rA, .int (nI (n + 1))])) := by rw [ef_6]; exact Lk.set hrb
          have hkp : Kp (fun a => a = rb ∨ a = rA) L f (L_2, f_6) := by rw [ef_6]; exact hkp.up (Or.inl rfl)
          refine lv_aload hx hb d_Rb_add_117 (lv_at hl 1 rfl) ?_
          refine va_getN (D := G.1) (ci := 2) (v := .int (nI n)) (C := R_Ru) (T := T_Ru) (N := 4) hx hb hA in_Ru hown hK.1 (pl_o hP a1_) 0 rfl rfl 3 (by decide) (va_Nw.use rfl (hK.2.1 _ kz_11)) (fun _ h9 => h9) rfl d_Rb_add_119 ?_
          exact W.iret (v := nI n) hx hb hr (fun t9 h9t h9W => ⟨⟨_, (L_2, f_6), rfl, Or.inr ⟨hlt, rfl, q_3, pl, hfL, hpl, hpn, hkp, RuB0_ins hR hlt hpn hr0 hkp hrb hrA_ a1_⟩, by rw [h9t]; exact hP, hD⟩, hS.F h9t⟩) hS.2.2 d_Rb_add_122
      | succ kk ih =>
        intro H locs ls hlt2 hP hD hS hl
        have hrb : Lk L_2 (va_up f_2 rA (.inl (G.2 3, 20, .inr (.inr (.inr (.inr (shU (pl + (kk + 1)) (upto n rad)))))))) rb (.inr (3, [.ref rA, .int (nI n)])) := Lk.up hrb (Lk.neOA hrb hrA)
        have a1_ : Lk L_2 (va_up f_2 rA (.inl (G.2 3, 20, .inr (.inr (.inr (.inr (shU (pl + (kk + 1)) (upto n rad)))))))) q_3 (.inr (2, [.int (nI r0), .int (bI d0), .ref (ad c0), .int (nI n)])) := Lk.up a1 (Lk.neOA a1 hrA)
        have hrA_ : Lk L_2 (va_up f_2 rA (.inl (G.2 3, 20, .inr (.inr (.inr (.inr (shU (pl + (kk + 1)) (upto n rad)))))))) rA (.inl (G.2 3, 20, .inr (.inr (.inr (.inr (shU (pl + (kk + 1)) (upto n rad))))))) := Lk.set hrA
        have hkp : Kp (fun a => a = rb ∨ a = rA) L f (L_2, (va_up f_2 rA (.inl (G.2 3, 20, .inr (.inr (.inr (.inr (shU (pl + (kk + 1)) (upto n rad))))))))) := Kp.up (hkp.mono (fun _ z => z.elim)) (Or.inr rfl)
        refine lv_iload hx hb d_Rb_add_51 (lv_at hl 3 rfl) ?_
        refine lv_if_le (tgt := 85) hx hb d_Rb_add_53 (by decide) (fun c9 => absurd c9 (fun z => absurd ((nI_leI (b := 0) (by omega) (by decide)).mp z) (by omega))) (fun _ => ?_)
        refine lv_iload hx hb d_Rb_add_56 (lv_at hl 3 rfl) ?_
        refine lv_iload hx hb d_Rb_add_58 (lv_at hl 2 rfl) ?_
        refine lv_icmp_le (tgt := 85) hx hb d_Rb_add_60 (by decide) (fun c9 => absurd c9 (fun z => absurd ((nI_leI (by omega) (by omega)).mp z) (by omega))) (fun _ => ?_)
        refine lv_aload_n hx hb d_Rb_add_63 rfl (lv_at hl 0 rfl) ?_
        refine va_get (D := G.1) (ci := 3) (v := .ref rA) (C := R_Rb) (T := T_Rb) (N := 2) hx hb hA in_Rb hown hK.1 (pl_o hP hrb) 0 rfl rfl 0 (by decide) (hA _ kw_8) (fun _ h9 => h9) rfl d_Rb_add_64 ?_
        refine lv_iload hx hb d_Rb_add_67 (lv_at hl 3 rfl) ?_
        refine lv_aload_n hx hb d_Rb_add_69 rfl (lv_at hl 0 rfl) ?_
        refine va_get (D := G.1) (ci := 3) (v := .ref rA) (C := R_Rb) (T := T_Rb) (N := 2) hx hb hA in_Rb hown hK.1 (pl_o hP hrb) 0 rfl rfl 0 (by decide) (hA _ kw_8) (fun _ h9 => h9) rfl d_Rb_add_70 ?_
        refine lv_iload hx hb d_Rb_add_73 (lv_at hl 3 rfl) ?_
        refine lv_iconst (v := nI 1) hx hb d_Rb_add_75 (by decide) ?_
        refine lv_isub hx hb d_Rb_add_76 ?_
        refine xv_I (y := nI (pl + kk)) ((pk_sub (by omega)).trans (congrArg nI (by omega))) ?_
        refine xl_aldq hx hb hK.1 (pl_o hP hrA_) 0 3 rfl rfl (i := (pl + kk)) (by omega) (by decide) d_Rb_add_77 ?_
        refine xv_Q (y := upto n rad (pl + kk)) (shU_at (by omega) _) ?_
        by_cases hin : pl + kk < n
        · refine xv_R (a := rad (pl + kk)) (upto_t hin) ?_
          have hrq : Lk L_2 (va_up f_2 rA (.inl (G.2 3, 20, .inr (.inr (.inr (.inr (shU (pl + (kk + 1)) (upto n rad)))))))) (rad (pl + kk)) (.inr (2, [.int (nI (rk (pl + kk))), .int (bI (dn (pl + kk))), .ref (ad (rc (pl + kk))), .int (nI (nu (pl + kk)))])) := Lk.up (hR1.2.2.2 _ hin).2.2 (Lk.neOA (hR1.2.2.2 _ hin).2.2 hrA)
          refine xw_astq hx hb hK.1 hP hD hS 3 2 hrA_ rfl hrq rfl (i := pl + kk + 1) (by omega) (by decide) d_Rb_add_78 (fun H locs hP hD hS => ?_)
          rw [bx_uu, ← upto_t (ad := rad) hin, show pl + (kk + 1) = pl + kk + 1 from rfl, shU_s (by omega)] at hP hD
          refine lv_iinc (v := nI (pl + kk)) (lv' := [(6, .int (nI (pl + kk))), (0, .ref rb), (4, .ref q_3), (5, .int (nI pl))]) hx hb d_Rb_add_79 hl (k := 3) rfl (pk_m1 (pl + kk)) (by decide) rfl (fun ls hl => ?_)
          refine lv_goto (tgt := 51) hx hb d_Rb_add_82 (by decide) ?_
          exact ih H locs ls (by omega) hP hD hS (lv_sub hl [1, 2, 3, 0] rfl)
        · refine xv_N (upto_f (by omega)) ?_
          refine xw_astqN (C := "RightDesk$Rule") hx hb hK.1 hP hD hS 3 hrA_ rfl (i := pl + kk + 1) (by omega) (by decide) d_Rb_add_78 (fun H locs hP hD hS => ?_)
          rw [bx_uu, ← upto_f (ad := rad) (show n ≤ pl + kk by omega), show pl + (kk + 1) = pl + kk + 1 from rfl, shU_s (by omega)] at hP hD
          refine lv_iinc (v := nI (pl + kk)) (lv' := [(6, .int (nI (pl + kk))), (0, .ref rb), (4, .ref q_3), (5, .int (nI pl))]) hx hb d_Rb_add_79 hl (k := 3) rfl (pk_m1 (pl + kk)) (by decide) rfl (fun ls hl => ?_)
          refine lv_goto (tgt := 51) hx hb d_Rb_add_82 (by decide) ?_
          exact ih H locs ls (by omega) hP hD hS (lv_sub hl [1, 2, 3, 0] rfl)
    have e0 : f_2 = va_up f_2 rA (.inl (G.2 3, 20, .inr (.inr (.inr (.inr (shU 19 (upto n rad))))))) := va_up_id (by rw [hrA.2, ← shU_0])
    rw [e0, show (19 : Nat) = pl + (19 - pl) by omega] at hP hD
    have hl : lv_has ls 7 [(6, .int (nI (pl + (19 - pl)))), (5, .int (nI pl)), (4, .ref q_3), (0, .ref rb), (1, .int (nI r0)), (2, .int (bI d0)), (3, .ref (ad c0))] := by rw [show pl + (19 - pl) = 19 by omega]; exact hl
    exact loop (19 - pl) H locs ls (by omega) hP hD hS (lv_sub hl [3, 2, 1, 0] rfl)
  · refine lv_if_ne (tgt := 18) hx hb d_Rb_add_12 (by decide) (fun c9 => absurd (by rw [blw_nI (by decide) (by omega), decide_eq_false hlt]; rfl) c9) (fun _ => ?_)
    refine lv_bipush (v := (-3)) hx hb d_Rb_add_15 (by decide) ?_
    refine W.widen (k := 1) (n := 4) (by omega) (by omega) ?_
    exact W.iret (v := (-3)) hx hb hr (fun t9 h9t h9W => ⟨⟨_, (L, f), rfl, Or.inl ⟨by omega, rfl, rfl⟩, by rw [h9t]; exact hP, hD⟩, hS.F h9t⟩) hS.2.2 d_Rb_add_17

set_option maxHeartbeats 4000000 in
set_option maxRecDepth 100000 in
/-- RuleBook.remove -/
theorem c_Rb_rem (l : Launch) (G : GG) (L : List Nat) (f : Nat → va_E) (sz : Nat) (hN : L.Nodup) {ad : Nat → Nat} {rb rA n : Nat} {rad rc rk nu : Nat → Nat} {dn : Nat → Bool} (hR : RuB0 G L f rb rA n rad rc rk nu dn ad) (hI : inj n rad) (pl no : Nat) (hp_ : pl < n) (hno : no < 20) : Met l y_Rb_remove (.code y_Rb_remove b_Rb_remove 5 (some .int) :: AW) (RW 2 0 0) (va_Pc [.ref rb, .int (nI pl), .int (nI no)] (PZ G L f sz)) (va_Qi (fun r u => r = nI (n - 1) ∧ u.1 = L ∧ Kp (fun a => a = rb ∨ a = rA ∨ ∃ q, q < n ∧ a = rad q) L f u ∧ RuB0 G L u.2 rb rA (n - 1) (delA rad pl) (delA rc pl) (delA rk pl) (decK no 20 (delA nu pl)) (delA dn pl) ad) (BZ G (Am L sz)) (Am L sz)) 0 0 (Am L sz) := by
  refine Met.ofW (cc := b_Rb_remove) (maxL := 5) (ret := (some .int)) (by decide) rfl ?_
  intro p e s m args below meth c s₁ B hml hv
  obtain ⟨rfl, hsz, hP, hK⟩ := hv
  have hx := B.exec
  have hb := B.bytes
  have hr := B.returns
  have hA : ∀ w ∈ AW, w.before _ s = true := fun w h => atoms_spec (ws := (.code y_Rb_remove b_Rb_remove 5 (some .int) :: AW)) B.pre w (List.mem_cons_of_mem _ h)
  have hown : s.vm.findClass R_Rb = some m.cls := findClass_of_methodNamed B.named
  have hlocks := B.notSynchronized
  subst hsz
  have hD : va_D (Am L s.heap.size) (va_pl L f) := pl_D hN (fun _ h => Or.inl h)
  have hA0 : ∀ q, s.heap.size ≤ q → Am L s.heap.size q := fun q h => Or.inr h
  generalize Am L s.heap.size = A at hD hA0 ⊢
  have hS : va_S A s.heap s.heap [] := va_S.rf
  have hkp : Kp (fun a => a = rb ∨ a = rA) L f (L, f) := Kp.rf
  have hl := lv_entry ([.ref rb, .int (nI pl), .int (nI no)]) (n := 5) (Nat.le_of_ble_eq_true rfl)
  rw [lg_entry_eq]
  generalize (lg_sl ([.ref rb, .int (nI pl), .int (nI no)]) ++ List.replicate (5 - (lg_sl ([.ref rb, .int (nI pl), .int (nI no)])).length) Slot.unset).toArray = ls at hl ⊢
  have hl : lv_has ls 5 [(0, .ref rb), (1, .int (nI pl)), (2, .int (nI no))] := hl
  have hn20 := hR.1
  have hrb : Lk L f rb (.inr (3, [.ref rA, .int (nI n)])) := hR.2.1
  have hrA : Lk L f rA (.inl (G.2 3, 20, .inr (.inr (.inr (.inr (upto n rad)))))) := hR.2.2.1
  refine lv_iload_n hx hb d_Rb_remove_0 rfl (lv_at hl 1 rfl) ?_
  refine lv_aload_n hx hb d_Rb_remove_1 rfl (lv_at hl 0 rfl) ?_
  refine va_get (D := G.1) (ci := 3) (v := .ref rA) (C := R_Rb) (T := T_Rb) (N := 2) hx hb hA in_Rb hown hK.1 (pl_o hP hrb) 0 rfl rfl 0 (by decide) (hA _ kw_8) (fun _ h9 => h9) rfl d_Rb_remove_2 ?_
  refine va_alen (v := nI 20) hx hb hK.1 (pl_o hP hrA) 0 3 rfl rfl rfl d_Rb_remove_5 ?_
  refine vp_callSi (va_Run.run (va_runSN (As := [.int (nI pl), .int (nI 20)]) (rest := []) ⟨hx, hb, hml, hown, hA⟩ (c_isBelow l G L f (nI pl) (nI 20)) ⟨va_cnB 2 hA (gAW kw_4) rfl rfl rfl (hK.2.1 _ kz_2) (hA _ kw_5) (by decide +kernel) ⟨Nat.le_of_ble_eq_true rfl, Nat.le_of_ble_eq_true rfl⟩, (hA _ kw_6), trivial⟩ (pw_preS hP hK) rfl rfl hl.1 rfl (lv_room (Nat.le_of_ble_eq_true rfl)) d_Rb_remove_6 ⟨Nat.zero_le _, Nat.zero_le _⟩)) (fun r_1 e_2 => ?_)
  subst e_2
  refine lv_if_eq (tgt := 68) hx hb d_Rb_remove_9 (by decide) (fun c9 => absurd c9 (by rw [blw_nI (by decide) (by omega), decide_eq_true (show pl < 20 by omega)]; decide)) (fun _ => ?_)
  refine lv_iload_n hx hb d_Rb_remove_12 rfl (lv_at hl 1 rfl) ?_
  refine lv_istore_n (lv' := [(3, .int (nI pl)), (0, .ref rb), (1, .int (nI pl)), (2, .int (nI no))]) hx hb d_Rb_remove_13 rfl hl (by decide) rfl (fun ls hl => ?_)
  have loop : ∀ (kk j : Nat) (H : Heap) (locs : List Loc) (ls : Array Slot), j + kk = 19 → pl ≤ j → va_P G.1 vwCl (va_pl L (va_up f rA (.inl (G.2 3, 20, .inr (.inr (.inr (.inr (shD pl j (upto n rad))))))))) H → va_D A (va_pl L (va_up f rA (.inl (G.2 3, 20, .inr (.inr (.inr (.inr (shD pl j (upto n rad))))))))) → va_S A s.heap H locs → lv_has ls 5 [(0, .ref rb), (2, .int (nI no)), (3, .int (nI j))] → W p l e (headSpec (.code y_Rb_remove b_Rb_remove 5 (some .int) :: AW) (RW 2 0 0)).room s m ([.ref rb, .int (nI pl), .int (nI no)] : List Value).toArray below meth c H locs 0 0 (MQ below (va_Qi (fun r u => r = nI (n - 1) ∧ u.1 = L ∧ Kp (fun a => a = rb ∨ a = rA ∨ ∃ q, q < n ∧ a = rad q) L f u ∧ RuB0 G L u.2 rb rA (n - 1) (delA rad pl) (delA rc pl) (delA rk pl) (decK no 20 (delA nu pl)) (delA dn pl) ad) (BZ G A) A) ([.ref rb, .int (nI pl), .int (nI no)] : List Value).toArray s 0 0 A) (F0 m 14 ls []) := by
    intro kk
    induction kk with
    | zero =>
      intro j H locs ls hik hpj hP hD hS hl
      have hrb : Lk L (va_up f rA (.inl (G.2 3, 20, .inr (.inr (.inr (.inr (shD pl j (upto n rad)))))))) rb (.inr (3, [.ref rA, .int (nI n)])) := Lk.up hrb (Lk.neOA hrb hrA)
      have hrA_ : Lk L (va_up f rA (.inl (G.2 3, 20, .inr (.inr (.inr (.inr (shD pl j (upto n rad)))))))) rA (.inl (G.2 3, 20, .inr (.inr (.inr (.inr (shD pl j (upto n rad))))))) := Lk.set hrA
      obtain rfl : j = 19 := by omega
      refine lv_iload_n hx hb d_Rb_remove_14 rfl (lv_at hl 2 rfl) ?_
      refine lv_aload_n hx hb d_Rb_remove_15 rfl (lv_at hl 0 rfl) ?_
      refine va_get (D := G.1) (ci := 3) (v := .ref rA) (C := R_Rb) (T := T_Rb) (N := 2) hx hb hA in_Rb hown hK.1 (pl_o hP hrb) 0 rfl rfl 0 (by decide) (hA _ kw_8) (fun _ h9 => h9) rfl d_Rb_remove_16 ?_
      refine va_alen (v := nI 20) hx hb hK.1 (pl_o hP hrA_) 0 3 rfl rfl rfl d_Rb_remove_19 ?_
      refine lv_iconst (v := nI 1) hx hb d_Rb_remove_20 (by decide) ?_
      refine lv_isub hx hb d_Rb_remove_21 ?_
      refine xv_I (y := nI 19) (by decide) ?_
      refine lv_icmp_ge (tgt := 45) hx hb d_Rb_remove_22 (by decide) (fun _ => ?_) (fun c9 => absurd (nI_le (by omega) (by omega)) c9)
      have hkp : Kp (fun a => a = rb ∨ a = rA) L f (L, (va_up f rA (.inl (G.2 3, 20, .inr (.inr (.inr (.inr (shD pl 19 (upto n rad))))))))) := Kp.up Kp.rf (Or.inr rfl)
      refine lv_aload_n hx hb d_Rb_remove_45 rfl (lv_at hl 0 rfl) ?_
      refine va_get (D := G.1) (ci := 3) (v := .ref rA) (C := R_Rb) (T := T_Rb) (N := 2) hx hb hA in_Rb hown hK.1 (pl_o hP hrb) 0 rfl rfl 0 (by decide) (hA _ kw_8) (fun _ h9 => h9) rfl d_Rb_remove_46 ?_
      refine lv_aload_n hx hb d_Rb_remove_49 rfl (lv_at hl 0 rfl) ?_
      refine va_get (D := G.1) (ci := 3) (v := .ref rA) (C := R_Rb) (T := T_Rb) (N := 2) hx hb hA in_Rb hown hK.1 (pl_o hP hrb) 0 rfl rfl 0 (by decide) (hA _ kw_8) (fun _ h9 => h9) rfl d_Rb_remove_50 ?_
      refine va_alen (v := nI 20) hx hb hK.1 (pl_o hP hrA_) 0 3 rfl rfl rfl d_Rb_remove_53 ?_
      refine lv_iconst (v := nI 1) hx hb d_Rb_remove_54 (by decide) ?_
      refine lv_isub hx hb d_Rb_remove_55 ?_
      refine xv_I (y := nI 19) (by decide) ?_
      refine lv_null hx hb d_Rb_remove_56 ?_
      refine xw_astqN hx hb hK.1 hP hD hS 3 hrA_ rfl (i := 19) (by omega) (by decide) d_Rb_remove_57 (fun H locs hP hD hS => ?_)
      have n_3 : rb ≠ rA := Lk.neOA hrb hrA_
      obtain ⟨f_1, ef_1⟩ : ∃ z : Nat → va_E, z = va_up (va_up f rA (.inl (G.2 3, 20, .inr (.inr (.inr (.inr (shD pl 19 (upto n rad)))))))) rA (.inl (G.2 3, 20, .inr (.inr (.inr (.inr (va_up (shD pl 19 (upto n rad)) 19 none)))))) := ⟨_, rfl⟩
      rw [← ef_1] at hP hD
      have hrb : Lk L f_1 rb (.inr (3, [.ref rA, .int (nI n)])) := by rw [ef_1]; exact Lk.up hrb n_3
      have hrA_ : Lk L f_1 rA (.inl (G.2 3, 20, .inr (.inr (.inr (.inr (va_up (shD pl 19 (upto n rad)) 19 none)))))) := by rw [ef_1]; exact Lk.set hrA_
      have hkp : Kp (fun a => a = rb ∨ a = rA) L f (L, f_1) := by rw [ef_1]; exact hkp.up (Or.inr rfl)
      refine lv_aload_n hx hb d_Rb_remove_58 rfl (lv_at hl 0 rfl) ?_
      refine lv_dup hx hb d_Rb_remove_59 rfl ?_
      refine va_get (D := G.1) (ci := 3) (v := .int (nI n)) (C := R_Rb) (T := T_Rb) (N := 2) hx hb hA in_Rb hown hK.1 (pl_o hP hrb) 0 rfl rfl 1 (by decide) (hA _ kw_59) (fun _ h9 => h9) rfl d_Rb_remove_60 ?_
      refine lv_iconst (v := nI 1) hx hb d_Rb_remove_63 (by decide) ?_
      refine lv_isub hx hb d_Rb_remove_64 ?_
      refine xv_I (y := nI (n - 1)) (pk_sub (by omega)) ?_
      refine xw_put (D := G.1) (ci := 3) (v := .int (nI (n - 1))) (ty := .int) (C := R_Rb) (T := T_Rb) (N := 2) (fs' := [.ref rA, .int (nI (n - 1))]) hx hb hA in_Rb ty_Rb tyok_Rb nm_Rb hown hK.1 hP hD hS hrb rfl 1 (by decide) (hA _ kw_59) (fun _ h9 => h9) rfl (by decide +kernel) rfl rfl (Nat.le_of_ble_eq_true rfl) d_Rb_remove_65 rfl (fun H locs hP hD hS => ?_)
      have n_4 : rA ≠ rb := Ne.symm (Lk.neOA hrb hrA_)
      obtain ⟨f_2, ef_2⟩ : ∃ z : Nat → va_E, z = va_up f_1 rb (.inr (3, [.ref rA, .int (nI (n - 1))])) := ⟨_, rfl⟩
      rw [← ef_2] at hP hD
      have hrA_ : Lk L f_2 rA (.inl (G.2 3, 20, .inr (.inr (.inr (.inr (va_up (shD pl 19 (upto n rad)) 19 none)))))) := by rw [ef_2]; exact Lk.up hrA_ n_4
      have hrb : Lk L f_2 rb (.inr (3, [.ref rA, .int (nI (n - 1))])) := by rw [ef_2]; exact Lk.set hrb
      have hkp : Kp (fun a => a = rb ∨ a = rA) L f (L, f_2) := by rw [ef_2]; exact hkp.up (Or.inl rfl)
      have hR1 := RuB0_del hR hp_ hkp hrb hrA_
      have hkp : Kp (fun a => a = rb ∨ a = rA ∨ ∃ q, q < n ∧ a = rad q) L f (L, f_2) := hkp.mono (fun a z => z.elim Or.inl (fun y => Or.inr (Or.inl y)))
      refine lv_iconst (v := nI 0) hx hb d_Rb_remove_68 (by decide) ?_
      refine lv_istore_n (lv' := [(3, .int (nI 0)), (0, .ref rb), (2, .int (nI no))]) hx hb d_Rb_remove_69 rfl hl (by decide) rfl (fun ls hl => ?_)
      have loop2 : ∀ (kk j : Nat) (H : Heap) (locs : List Loc) (fv : Nat → va_E) (ls : Array Slot), j + kk = 20 → RuB0 G L fv rb rA (n - 1) (delA rad pl) (delA rc pl) (delA rk pl) (decK no j (delA nu pl)) (delA dn pl) ad → Kp (fun a => a = rb ∨ a = rA ∨ ∃ q, q < n ∧ a = rad q) L f (L, fv) → va_P G.1 vwCl (va_pl L fv) H → va_D A (va_pl L fv) → va_S A s.heap H locs → lv_has ls 5 [(0, .ref rb), (2, .int (nI no)), (3, .int (nI j))] → W p l e (headSpec (.code y_Rb_remove b_Rb_remove 5 (some .int) :: AW) (RW 2 0 0)).room s m ([.ref rb, .int (nI pl), .int (nI no)] : List Value).toArray below meth c H locs 0 0 (MQ below (va_Qi (fun r u => r = nI (n - 1) ∧ u.1 = L ∧ Kp (fun a => a = rb ∨ a = rA ∨ ∃ q, q < n ∧ a = rad q) L f u ∧ RuB0 G L u.2 rb rA (n - 1) (delA rad pl) (delA rc pl) (delA rk pl) (decK no 20 (delA nu pl)) (delA dn pl) ad) (BZ G A) A) ([.ref rb, .int (nI pl), .int (nI no)] : List Value).toArray s 0 0 A) (F0 m 70 ls []) := by
        intro kk
        induction kk with
        | zero =>
          intro j H locs fv ls hik2 hRv hkp hP hD hS hl
          have hrb : Lk L fv rb (.inr (3, [.ref rA, .int (nI (n - 1))])) := hRv.2.1
          have hrA : Lk L fv rA (.inl (G.2 3, 20, .inr (.inr (.inr (.inr (upto (n - 1) (delA rad pl))))))) := hRv.2.2.1
          refine lv_iload_n hx hb d_Rb_remove_70 rfl (lv_at hl 2 rfl) ?_
          refine lv_aload_n hx hb d_Rb_remove_71 rfl (lv_at hl 0 rfl) ?_
          refine va_get (D := G.1) (ci := 3) (v := .ref rA) (C := R_Rb) (T := T_Rb) (N := 2) hx hb hA in_Rb hown hK.1 (pl_o hP hrb) 0 rfl rfl 0 (by decide) (hA _ kw_8) (fun _ h9 => h9) rfl d_Rb_remove_72 ?_
          refine va_alen (v := nI 20) hx hb hK.1 (pl_o hP hrA) 0 3 rfl rfl rfl d_Rb_remove_75 ?_
          refine lv_icmp_ge (tgt := 117) hx hb d_Rb_remove_76 (by decide) (fun _ => ?_) (fun c9 => absurd (nI_le (by omega) (by omega)) c9)
          refine lv_aload_n hx hb d_Rb_remove_117 rfl (lv_at hl 0 rfl) ?_
          refine va_get (D := G.1) (ci := 3) (v := .int (nI (n - 1))) (C := R_Rb) (T := T_Rb) (N := 2) hx hb hA in_Rb hown hK.1 (pl_o hP hrb) 0 rfl rfl 1 (by decide) (hA _ kw_59) (fun _ h9 => h9) rfl d_Rb_remove_118 ?_
          exact W.iret (v := nI (n - 1)) hx hb hr (fun t9 h9t h9W => ⟨⟨_, (L, fv), rfl, ⟨rfl, rfl, hkp, by rw [show j = 20 by omega] at hRv; exact hRv⟩, by rw [h9t]; exact hP, hD⟩, hS.F h9t⟩) hS.2.2 d_Rb_remove_121
        | succ kk ih2 =>
          intro j H locs fv ls hik2 hRv hkp hP hD hS hl
          have hrb : Lk L fv rb (.inr (3, [.ref rA, .int (nI (n - 1))])) := hRv.2.1
          have hrA : Lk L fv rA (.inl (G.2 3, 20, .inr (.inr (.inr (.inr (upto (n - 1) (delA rad pl))))))) := hRv.2.2.1
          refine lv_iload_n hx hb d_Rb_remove_70 rfl (lv_at hl 2 rfl) ?_
          refine lv_aload_n hx hb d_Rb_remove_71 rfl (lv_at hl 0 rfl) ?_
          refine va_get (D := G.1) (ci := 3) (v := .ref rA) (C := R_Rb) (T := T_Rb) (N := 2) hx hb hA in_Rb hown hK.1 (pl_o hP hrb) 0 rfl rfl 0 (by decide) (hA _ kw_8) (fun _ h9 => h9) rfl d_Rb_remove_72 ?_
          refine va_alen (v := nI 20) hx hb hK.1 (pl_o hP hrA) 0 3 rfl rfl rfl d_Rb_remove_75 ?_
          refine lv_icmp_ge (tgt := 117) hx hb d_Rb_remove_76 (by decide) (fun c9 => absurd c9 (nI_ge (by omega) (by omega))) (fun _ => ?_)
          refine lv_aload_n hx hb d_Rb_remove_79 rfl (lv_at hl 0 rfl) ?_
          refine lv_iload_n hx hb d_Rb_remove_80 rfl (lv_at hl 2 rfl) ?_
          refine va_csq (va_Run.run (va_runV (As := [.int (nI j)]) (rest := []) ⟨hx, hb, hml, hown, hA⟩ (c_Rb_at l G L fv hRv.2.1 hRv.2.2.1 (nI j)) ⟨callB_of 1 hA (gAW kw_47) rfl rfl rfl (hA _ kw_48) (hA _ kw_49) (by decide +kernel) ⟨Nat.le_of_ble_eq_true rfl, Nat.le_of_ble_eq_true rfl⟩, (hA _ kw_50), (hA _ kw_51)⟩ (pw_preV (ci := 3) hP hK hrb rfl) rfl rfl hl.1 rfl (lv_room (Nat.le_of_ble_eq_true rfl)) d_Rb_remove_81 ⟨Nat.zero_le _, Nat.zero_le _⟩)) (fun r_5 e_6 => ?_)
          subst e_6
          by_cases hj : j < n - 1
          · refine xv_R (a := delA rad pl j) (oAt_t (by decide) (by omega) hj) ?_
            have hru : Lk L fv (delA rad pl j) (.inr (2, [.int (nI (delA rk pl j)), .int (bI (delA dn pl j)), .ref (ad (delA rc pl j)), .int (nI (decK no j (delA nu pl) j))])) := (hRv.2.2.2 j hj).2.2
            have hnu20 := (hRv.2.2.2 j hj).2.1
            refine lv_astore (lv' := [(4, .ref (delA rad pl j)), (0, .ref rb), (2, .int (nI no)), (3, .int (nI j))]) hx hb d_Rb_remove_84 hl (by decide) rfl (fun ls hl => ?_)
            refine lv_aload hx hb d_Rb_remove_86 (lv_at hl 0 rfl) ?_
            refine lv_ifnull hx hb d_Rb_remove_88 ?_
            refine lv_aload hx hb d_Rb_remove_91 (lv_at hl 0 rfl) ?_
            refine va_getN (D := G.1) (ci := 2) (v := .int (nI (decK no j (delA nu pl) j))) (C := R_Ru) (T := T_Ru) (N := 4) hx hb hA in_Ru hown hK.1 (pl_o hP hru) 0 rfl rfl 3 (by decide) (va_Nw.use rfl (hK.2.1 _ kz_11)) (fun _ h9 => h9) rfl d_Rb_remove_93 ?_
            refine lv_iload_n hx hb d_Rb_remove_96 rfl (lv_at hl 2 rfl) ?_
            by_cases hgt : no < decK no j (delA nu pl) j
            · refine lv_icmp_le (tgt := 111) hx hb d_Rb_remove_97 (by decide) (fun c9 => absurd c9 (fun z => absurd ((nI_leI (by omega) (by omega)).mp z) (by omega))) (fun _ => ?_)
              refine lv_aload hx hb d_Rb_remove_100 (lv_at hl 0 rfl) ?_
              refine lv_dup hx hb d_Rb_remove_102 rfl ?_
              refine va_getN (D := G.1) (ci := 2) (v := .int (nI (decK no j (delA nu pl) j))) (C := R_Ru) (T := T_Ru) (N := 4) hx hb hA in_Ru hown hK.1 (pl_o hP hru) 0 rfl rfl 3 (by decide) (va_Nw.use rfl (hK.2.1 _ kz_11)) (fun _ h9 => h9) rfl d_Rb_remove_103 ?_
              refine lv_iconst (v := nI 1) hx hb d_Rb_remove_106 (by decide) ?_
              refine lv_isub hx hb d_Rb_remove_107 ?_
              refine xv_I (y := nI (dec1 no (decK no j (delA nu pl) j))) ((pk_sub (by omega)).trans (congrArg nI (if_pos hgt).symm)) ?_
              refine xw_putN (D := G.1) (ci := 2) (v := .int (nI (dec1 no (decK no j (delA nu pl) j)))) (ty := .int) (C := R_Ru) (T := T_Ru) (N := 4) (fs' := [.int (nI (delA rk pl j)), .int (bI (delA dn pl j)), .ref (ad (delA rc pl j)), .int (nI (dec1 no (decK no j (delA nu pl) j)))]) hx hb hA in_Ru ty_Ru tyok_Ru nm_Ru hown hK.1 hP hD hS hru rfl 3 (by decide) (va_Nw.use rfl (hK.2.1 _ kz_11)) (fun _ h9 => h9) rfl (by decide +kernel) rfl rfl (Nat.le_of_ble_eq_true rfl) d_Rb_remove_108 rfl (fun H locs hP hD hS => ?_)
              have n_7 : rb ≠ (delA rad pl j) := Lk.neOO hrb hru (by decide)
              have n_8 : rA ≠ (delA rad pl j) := Ne.symm (Lk.neOA hru hrA)
              obtain ⟨f_3, ef_3⟩ : ∃ z : Nat → va_E, z = va_up fv (delA rad pl j) (.inr (2, [.int (nI (delA rk pl j)), .int (bI (delA dn pl j)), .ref (ad (delA rc pl j)), .int (nI (dec1 no (decK no j (delA nu pl) j)))])) := ⟨_, rfl⟩
              rw [← ef_3] at hP hD
              have hrb : Lk L f_3 rb (.inr (3, [.ref rA, .int (nI (n - 1))])) := by rw [ef_3]; exact Lk.up hrb n_7
              have hrA : Lk L f_3 rA (.inl (G.2 3, 20, .inr (.inr (.inr (.inr (upto (n - 1) (delA rad pl))))))) := by rw [ef_3]; exact Lk.up hrA n_8
              have hru : Lk L f_3 (delA rad pl j) (.inr (2, [.int (nI (delA rk pl j)), .int (bI (delA dn pl j)), .ref (ad (delA rc pl j)), .int (nI (dec1 no (decK no j (delA nu pl) j)))])) := by rw [ef_3]; exact Lk.set hru
              have hkp : Kp (fun a => a = rb ∨ a = rA ∨ ∃ q, q < n ∧ a = rad q) L f (L, f_3) := by rw [ef_3]; exact hkp.up (Or.inr (Or.inr (delA_mem hj hp_)))
              refine lv_iinc (v := nI (j + 1)) (lv' := [(3, .int (nI (j + 1))), (4, .ref (delA rad pl j)), (0, .ref rb), (2, .int (nI no))]) hx hb d_Rb_remove_111 hl (k := 3) rfl (nI_1 j) (by decide) rfl (fun ls hl => ?_)
              refine lv_goto (tgt := 70) hx hb d_Rb_remove_114 (by decide) ?_
              exact ih2 (j + 1) H locs _ ls (by omega) (by rw [ef_3, ← decK_s, ← decK_at (x := no) (nu := delA nu pl)]; exact RuB0_setnu hRv (inj_del hI hp_) hj (by unfold dec1; split <;> omega)) hkp hP hD hS (lv_sub hl [2, 3, 0] rfl)
            · refine lv_icmp_le (tgt := 111) hx hb d_Rb_remove_97 (by decide) (fun _ => ?_) (fun c9 => absurd (nI_le (by omega) (by omega)) c9)
              refine lv_iinc (v := nI (j + 1)) (lv' := [(3, .int (nI (j + 1))), (4, .ref (delA rad pl j)), (0, .ref rb), (2, .int (nI no))]) hx hb d_Rb_remove_111 hl (k := 3) rfl (nI_1 j) (by decide) rfl (fun ls hl => ?_)
              refine lv_goto (tgt := 70) hx hb d_Rb_remove_114 (by decide) ?_
              exact ih2 (j + 1) H locs _ ls (by omega) (by rw [← decK_same (by rw [decK_at] at hgt; exact hgt)]; exact hRv) hkp hP hD hS (lv_sub hl [2, 3, 0] rfl)
          · refine xv_N (oAt_f (by decide) (by omega) (by omega)) ?_
            refine lv_astoreN (lv' := [(4, .null), (0, .ref rb), (2, .int (nI no)), (3, .int (nI j))]) hx hb d_Rb_remove_84 hl (by decide) rfl (fun ls hl => ?_)
            refine lv_aloadN hx hb d_Rb_remove_86 (lv_at hl 0 rfl) ?_
            refine lv_ifnullN (tgt := 111) hx hb d_Rb_remove_88 (by decide) ?_
            refine lv_iinc (v := nI (j + 1)) (lv' := [(3, .int (nI (j + 1))), (4, .null), (0, .ref rb), (2, .int (nI no))]) hx hb d_Rb_remove_111 hl (k := 3) rfl (nI_1 j) (by decide) rfl (fun ls hl => ?_)
            refine lv_goto (tgt := 70) hx hb d_Rb_remove_114 (by decide) ?_
            exact ih2 (j + 1) H locs _ ls (by omega) (RuB0_nuc hRv (fun q hq => by unfold decK; rw [if_pos (show q < j by omega), if_pos (show q < j + 1 by omega)])) hkp hP hD hS (lv_sub hl [2, 3, 0] rfl)
      rw [decK_0 no (delA nu pl)] at hR1
      exact loop2 20 0 H locs f_2 ls (by omega) hR1 hkp hP hD hS (lv_sub hl [1, 2, 0] rfl)
    | succ kk ih =>
      intro j H locs ls hik hpj hP hD hS hl
      have hrb : Lk L (va_up f rA (.inl (G.2 3, 20, .inr (.inr (.inr (.inr (shD pl j (upto n rad)))))))) rb (.inr (3, [.ref rA, .int (nI n)])) := Lk.up hrb (Lk.neOA hrb hrA)
      have hrA_ : Lk L (va_up f rA (.inl (G.2 3, 20, .inr (.inr (.inr (.inr (shD pl j (upto n rad)))))))) rA (.inl (G.2 3, 20, .inr (.inr (.inr (.inr (shD pl j (upto n rad))))))) := Lk.set hrA
      refine lv_iload_n hx hb d_Rb_remove_14 rfl (lv_at hl 2 rfl) ?_
      refine lv_aload_n hx hb d_Rb_remove_15 rfl (lv_at hl 0 rfl) ?_
      refine va_get (D := G.1) (ci := 3) (v := .ref rA) (C := R_Rb) (T := T_Rb) (N := 2) hx hb hA in_Rb hown hK.1 (pl_o hP hrb) 0 rfl rfl 0 (by decide) (hA _ kw_8) (fun _ h9 => h9) rfl d_Rb_remove_16 ?_
      refine va_alen (v := nI 20) hx hb hK.1 (pl_o hP hrA_) 0 3 rfl rfl rfl d_Rb_remove_19 ?_
      refine lv_iconst (v := nI 1) hx hb d_Rb_remove_20 (by decide) ?_
      refine lv_isub hx hb d_Rb_remove_21 ?_
      refine xv_I (y := nI 19) (by decide) ?_
      refine lv_icmp_ge (tgt := 45) hx hb d_Rb_remove_22 (by decide) (fun c9 => absurd c9 (nI_ge (by omega) (by omega))) (fun _ => ?_)
      refine lv_aload_n hx hb d_Rb_remove_25 rfl (lv_at hl 0 rfl) ?_
      refine va_get (D := G.1) (ci := 3) (v := .ref rA) (C := R_Rb) (T := T_Rb) (N := 2) hx hb hA in_Rb hown hK.1 (pl_o hP hrb) 0 rfl rfl 0 (by decide) (hA _ kw_8) (fun _ h9 => h9) rfl d_Rb_remove_26 ?_
      refine lv_iload_n hx hb d_Rb_remove_29 rfl (lv_at hl 2 rfl) ?_
      refine lv_aload_n hx hb d_Rb_remove_30 rfl (lv_at hl 0 rfl) ?_
      refine va_get (D := G.1) (ci := 3) (v := .ref rA) (C := R_Rb) (T := T_Rb) (N := 2) hx hb hA in_Rb hown hK.1 (pl_o hP hrb) 0 rfl rfl 0 (by decide) (hA _ kw_8) (fun _ h9 => h9) rfl d_Rb_remove_31 ?_
      refine lv_iload_n hx hb d_Rb_remove_34 rfl (lv_at hl 2 rfl) ?_
      refine lv_iconst (v := nI 1) hx hb d_Rb_remove_35 (by decide) ?_
      refine lv_iadd hx hb d_Rb_remove_36 ?_
      refine xv_I (y := nI (j + 1)) (nI_1 j) ?_
      refine xl_aldq hx hb hK.1 (pl_o hP hrA_) 0 3 rfl rfl (i := (j + 1)) (by omega) (by decide) d_Rb_remove_37 ?_
      refine xv_Q (y := upto n rad (j + 1)) (shD_at (by omega) _) ?_
      by_cases hin : j + 1 < n
      · refine xv_R (a := rad (j + 1)) (upto_t hin) ?_
        have hrq : Lk L (va_up f rA (.inl (G.2 3, 20, .inr (.inr (.inr (.inr (shD pl j (upto n rad)))))))) (rad (j + 1)) (.inr (2, [.int (nI (rk (j + 1))), .int (bI (dn (j + 1))), .ref (ad (rc (j + 1))), .int (nI (nu (j + 1)))])) := Lk.up (hR.2.2.2 _ hin).2.2 (Lk.neOA (hR.2.2.2 _ hin).2.2 hrA)
        refine xw_astq hx hb hK.1 hP hD hS 3 2 hrA_ rfl hrq rfl (i := j) (by omega) (by decide) d_Rb_remove_38 (fun H locs hP hD hS => ?_)
        rw [bx_uu, ← upto_t (ad := rad) hin, shD_s hpj] at hP hD
        refine lv_iinc (v := nI (j + 1)) (lv' := [(3, .int (nI (j + 1))), (0, .ref rb), (2, .int (nI no))]) hx hb d_Rb_remove_39 hl (k := 2) rfl (nI_1 j) (by decide) rfl (fun ls hl => ?_)
        refine lv_goto (tgt := 14) hx hb d_Rb_remove_42 (by decide) ?_
        exact ih (j + 1) H locs ls (by omega) (by omega) hP hD hS (lv_sub hl [1, 2, 0] rfl)
      · refine xv_N (upto_f (by omega)) ?_
        refine xw_astqN (C := "RightDesk$Rule") hx hb hK.1 hP hD hS 3 hrA_ rfl (i := j) (by omega) (by decide) d_Rb_remove_38 (fun H locs hP hD hS => ?_)
        rw [bx_uu, ← upto_f (ad := rad) (show n ≤ j + 1 by omega), shD_s hpj] at hP hD
        refine lv_iinc (v := nI (j + 1)) (lv' := [(3, .int (nI (j + 1))), (0, .ref rb), (2, .int (nI no))]) hx hb d_Rb_remove_39 hl (k := 2) rfl (nI_1 j) (by decide) rfl (fun ls hl => ?_)
        refine lv_goto (tgt := 14) hx hb d_Rb_remove_42 (by decide) ?_
        exact ih (j + 1) H locs ls (by omega) (by omega) hP hD hS (lv_sub hl [1, 2, 0] rfl)
  have e0 : f = (va_up f rA (.inl (G.2 3, 20, .inr (.inr (.inr (.inr (shD pl pl (upto n rad)))))))) := va_up_id (by rw [hrA.2, ← shD_0])
  rw [e0] at hP hD
  exact loop (19 - pl) pl s.heap [] ls (by omega) (Nat.le_refl _) hP hD hS (lv_sub hl [1, 3, 0] rfl)
