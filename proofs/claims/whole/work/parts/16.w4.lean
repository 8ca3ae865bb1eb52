set_option maxHeartbeats 4000000 in
set_option maxRecDepth 100000 in
/-- member -/
theorem c_De_member (l : Launch) (G : GG) (L : List Nat) (f : Nat → va_E) (sz : Nat) (hN : L.Nodup) {x0 cb rb : Nat} (hx0 : Lk L f x0 (.inr (4, [.ref cb, .ref rb]))) {mA gA n : Nat} {ad wa kd : Nat → Nat} {ka kb kc : Nat → Int32} {wd : Nat → Nat → Int64} {mm : Nat → Bool} (hB : CoB G L f cb mA gA n ad wa kd ka kb kc wd mm) {ca cbb ccc : Nat → Nat} (hO : OkN n kd ka kb kc ca cbb ccc) (hI : inj n wa) (hW : OkW n kd ca cbb ccc wd mm) (x y : Int32) (b : Bool) : Met l y_De_member (.code y_De_member b_De_member 4 (some .int) :: AW) (RW 7 0 0) (va_Pc [.ref x0, .int x, .int y, .int (bI b)] (PZ G L f sz)) (va_Qi (fun r z => ((blw x (nI 8) = false ∨ blw y (nI 8) = false) ∧ r = -1 ∧ z = (L, f)) ∨ ∃ u v, u < 8 ∧ v < 8 ∧ x = nI u ∧ y = nI v ∧ ((mm (u * 8 + v) = b ∧ r = nI 0 ∧ z = (L, f)) ∨ (¬ mm (u * 8 + v) = b ∧ r = nI 1 ∧ z.1 = L ∧ ∃ wv, CoB G L z.2 cb mA gA n ad wa kd ka kb kc wv (va_up mm (u * 8 + v) b) ∧ OkW n kd ca cbb ccc wv (va_up mm (u * 8 + v) b) ∧ Kp (fun x => x = gA ∨ ∃ i, i < n ∧ x = wa i) L f z))) (BZ G (Am L sz)) (Am L sz)) 0 0 (Am L sz) := by
  refine Met.ofW (cc := b_De_member) (maxL := 4) (ret := (some .int)) (by decide) rfl ?_
  intro p e s m args below meth c s₁ B hml hv
  obtain ⟨rfl, hsz, hP, hK⟩ := hv
  have hx := B.exec
  have hb := B.bytes
  have hr := B.returns
  have hA : ∀ w ∈ AW, w.before _ s = true := fun w h => atoms_spec (ws := (.code y_De_member b_De_member 4 (some .int) :: AW)) B.pre w (List.mem_cons_of_mem _ h)
  have hown : s.vm.findClass R_De = some m.cls := findClass_of_methodNamed B.named
  have hlocks := B.notSynchronized
  subst hsz
  have hD : va_D (Am L s.heap.size) (va_pl L f) := pl_D hN (fun _ h => Or.inl h)
  have hA0 : ∀ q, s.heap.size ≤ q → Am L s.heap.size q := fun q h => Or.inr h
  generalize Am L s.heap.size = A at hD hA0 ⊢
  have hS : va_S A s.heap s.heap [] := va_S.rf
  have hkp : Kp (fun x => x = gA ∨ ∃ i, i < n ∧ x = wa i) L f (L, f) := Kp.rf
  have hl := lv_entry ([.ref x0, .int x, .int y, .int (bI b)]) (n := 4) (Nat.le_of_ble_eq_true rfl)
  rw [lg_entry_eq]
  generalize (lg_sl ([.ref x0, .int x, .int y, .int (bI b)]) ++ List.replicate (4 - (lg_sl ([.ref x0, .int x, .int y, .int (bI b)])).length) Slot.unset).toArray = ls at hl ⊢
  have hl : lv_has ls 4 [(0, .ref x0), (1, .int x), (2, .int y), (3, .int (bI b))] := hl
  have hcb : Lk L f cb (.inr (1, [.ref mA, .ref gA, .int (nI n)])) := hB.2.1
  refine lv_iload_n hx hb d_De_member_0 rfl (lv_at hl 1 rfl) ?_
  refine lv_bipush (v := nI 8) hx hb d_De_member_1 (by decide) ?_
  refine vp_callSi (va_Run.run (va_runS (As := [.int x, .int (nI 8)]) (rest := []) ⟨hx, hb, hml, hown, hA⟩ (c_isBelow l G L f x (nI 8)) ⟨callB_of 2 hA (gAW kw_4) rfl rfl rfl (hA _ kw_5) (hA _ kw_96) (by decide +kernel) ⟨Nat.le_of_ble_eq_true rfl, Nat.le_of_ble_eq_true rfl⟩, (hA _ kw_6)⟩ (pw_preS hP hK) rfl rfl hl.1 rfl (lv_room (Nat.le_of_ble_eq_true rfl)) d_De_member_3 ⟨Nat.zero_le _, Nat.zero_le _⟩)) (fun r_1 e_2 => ?_)
  subst e_2
  rcases bcase (blw x (nI 8)) with hb_0 | hb_0
  · refine lv_if_eq (tgt := 18) hx hb d_De_member_6 (by decide) (fun _ => ?_) (fun c9 => absurd (by rw [hb_0]; rfl) c9)
    refine lv_iconst (v := (-1)) hx hb d_De_member_18 (by decide) ?_
    exact W.iret (v := (-1)) hx hb hr (fun t9 h9t h9W => ⟨⟨_, (L, f), rfl, Or.inl ⟨Or.inl hb_0, rfl, rfl⟩, by rw [h9t]; exact hP, hD⟩, hS.F h9t⟩) hS.2.2 d_De_member_19
  · refine lv_if_eq (tgt := 18) hx hb d_De_member_6 (by decide) (fun c9 => absurd c9 (by rw [hb_0]; decide)) (fun _ => ?_)
    obtain ⟨u, hu, rfl⟩ := blw_of (by decide) hb_0
    refine lv_iload_n hx hb d_De_member_9 rfl (lv_at hl 2 rfl) ?_
    refine lv_bipush (v := nI 8) hx hb d_De_member_10 (by decide) ?_
    refine vp_callSi (va_Run.run (va_runS (As := [.int y, .int (nI 8)]) (rest := []) ⟨hx, hb, hml, hown, hA⟩ (c_isBelow l G L f y (nI 8)) ⟨callB_of 2 hA (gAW kw_4) rfl rfl rfl (hA _ kw_5) (hA _ kw_96) (by decide +kernel) ⟨Nat.le_of_ble_eq_true rfl, Nat.le_of_ble_eq_true rfl⟩, (hA _ kw_6)⟩ (pw_preS hP hK) rfl rfl hl.1 rfl (lv_room (Nat.le_of_ble_eq_true rfl)) d_De_member_12 ⟨Nat.zero_le _, Nat.zero_le _⟩)) (fun r_3 e_4 => ?_)
    subst e_4
    rcases bcase (blw y (nI 8)) with hb_1 | hb_1
    · refine lv_if_ne (tgt := 20) hx hb d_De_member_15 (by decide) (fun c9 => absurd (by rw [hb_1]; rfl) c9) (fun _ => ?_)
      refine lv_iconst (v := (-1)) hx hb d_De_member_18 (by decide) ?_
      exact W.iret (v := (-1)) hx hb hr (fun t9 h9t h9W => ⟨⟨_, (L, f), rfl, Or.inl ⟨Or.inr hb_1, rfl, rfl⟩, by rw [h9t]; exact hP, hD⟩, hS.F h9t⟩) hS.2.2 d_De_member_19
    · refine lv_if_ne (tgt := 20) hx hb d_De_member_15 (by decide) (fun _ => ?_) (fun c9 => absurd c9 (by rw [hb_1]; decide))
      obtain ⟨v, hv, rfl⟩ := blw_of (by decide) hb_1
      refine lv_aload_n hx hb d_De_member_20 rfl (lv_at hl 0 rfl) ?_
      refine va_get (D := G.1) (ci := 4) (v := .ref cb) (C := R_De) (T := T_De) (N := 2) hx hb hA in_De hown hK.1 (pl_o hP hx0) 0 rfl rfl 0 (by decide) (hA _ kw_80) (fun _ h9 => h9) rfl d_De_member_21 ?_
      refine lv_iload_n hx hb d_De_member_24 rfl (lv_at hl 1 rfl) ?_
      refine lv_iload_n hx hb d_De_member_25 rfl (lv_at hl 2 rfl) ?_
      refine lv_iload_n hx hb d_De_member_26 rfl (lv_at hl 3 rfl) ?_
      have hFc := am_free hD hS hA0
      refine va_calli (va_runVN (As := [.int (nI u), .int (nI v), .int (bI b)]) (rest := []) ⟨hx, hb, hml, hown, hA⟩ (c_Cb_setM l G L f s.heap.size (pl_nd hD) hB hO hI hW u v b hu hv) ⟨va_cnB 3 hA (gAW kw_155) rfl rfl rfl (hK.2.1 _ kz_32) (hA _ kw_19) (by decide +kernel) ⟨Nat.le_of_ble_eq_true rfl, Nat.le_of_ble_eq_true rfl⟩, (hA _ kw_156), (hA _ kw_157)⟩ (pz_preV (ci := 1) hP hK hcb rfl) rfl rfl hl.1 rfl (lv_room (Nat.le_of_ble_eq_true rfl)) d_De_member_27 ⟨Nat.le_of_ble_eq_true rfl, Nat.le_of_ble_eq_true rfl⟩) hS (fun q _ h => hFc q h) hFc (fun r_5 u9 t9 H1 locs ht9 hvm hw hWB hz1 hk1 hS => ?_)
      obtain ⟨L_1, f_1⟩ := u9
      obtain ⟨hP, hD1⟩ := hWB
      rw [ht9] at hP
      have hD := va_Dw hD1 hFc
      clear hD1 hk1 hz1 hFc ht9 hvm
      generalize H1 = H at hP hS ⊢
      dsimp only at hP hD
      rcases hw with ⟨hs, hrr, hz⟩ | ⟨hs, hrr, hz1, wv, hBv, hOk, hk1⟩
      · try dsimp only at hz
        cases hz
        subst hrr
        refine lv_if_eq (tgt := 37) hx hb d_De_member_30 (by decide) (fun _ => ?_) (fun c9 => absurd rfl c9)
        refine lv_iconst (v := nI 0) hx hb d_De_member_37 (by decide) ?_
        exact W.iret (v := nI 0) hx hb hr (fun t9 h9t h9W => ⟨⟨_, (L, f), rfl, Or.inr ⟨u, v, hu, hv, rfl, rfl, Or.inl ⟨hs, rfl, rfl⟩⟩, by rw [h9t]; exact hP, hD⟩, hS.F h9t⟩) hS.2.2 d_De_member_38
      · try dsimp only at hz1 hBv hk1
        subst hrr
        refine lv_if_eq (tgt := 37) hx hb d_De_member_30 (by decide) (fun c9 => absurd c9 (by decide)) (fun _ => ?_)
        refine lv_iconst (v := nI 1) hx hb d_De_member_33 (by decide) ?_
        refine lv_goto (tgt := 38) hx hb d_De_member_34 (by decide) ?_
        exact W.iret (v := nI 1) hx hb hr (fun t9 h9t h9W => ⟨⟨_, (L_1, f_1), rfl, Or.inr ⟨u, v, hu, hv, rfl, rfl, Or.inr ⟨hs, rfl, hz1, wv, hBv, hOk, hk1⟩⟩, by rw [h9t]; exact hP, hD⟩, hS.F h9t⟩) hS.2.2 d_De_member_38

set_option maxHeartbeats 4000000 in
set_option maxRecDepth 100000 in
/-- condition -/
theorem c_De_condition (l : Launch) (G : GG) (L : List Nat) (f : Nat → va_E) (sz : Nat) (hN : L.Nodup) {x0 cb rb : Nat} (hx0 : Lk L f x0 (.inr (4, [.ref cb, .ref rb]))) {mA gA n : Nat} {ad wa kd : Nat → Nat} {ka kb kc : Nat → Int32} {wd : Nat → Nat → Int64} {mm : Nat → Bool} (hB : CoB G L f cb mA gA n ad wa kd ka kb kc wd mm) (x1 x2 x3 x4 : Int32) : Met l y_De_condition (.code y_De_condition b_De_condition 5 (some .int) :: AW) (RW 6 2 101) (va_Pc [.ref x0, .int x1, .int x2, .int x3, .int x4] (PZ G L f sz)) (va_Qi (fun r u => (cOK n x1 x2 x3 x4 = false ∧ r = -1 ∧ u = (L, f)) ∨ ∃ k a b c_, x1 = nI k ∧ okC n k x2 x3 x4 a b c_ ∧ ((n = 60 ∧ r = -3 ∧ u = (L, f)) ∨ (n < 60 ∧ r = nI n ∧ ∃ q zw g, q ∉ L ∧ zw ∉ L ∧ q ≠ zw ∧ Kp (fun a => a = cb ∨ a = mA) L f u ∧ (∀ j, j < 96 → g j = wrd mm wd k a b c_ j) ∧ CoB G u.1 u.2 cb mA gA (n + 1) (va_up ad n q) (va_up wa n zw) (va_up kd n k) (va_up ka n x2) (va_up kb n x3) (va_up kc n x4) (va_up wd n g) mm))) (BZ G (Am L sz)) (Am L sz)) 2 101 (Am L sz) := by
  refine Met.ofW (cc := b_De_condition) (maxL := 5) (ret := (some .int)) (by decide) rfl ?_
  intro p e s m args below meth c s₁ B hml hv
  obtain ⟨rfl, hsz, hP, hK⟩ := hv
  have hx := B.exec
  have hb := B.bytes
  have hr := B.returns
  have hA : ∀ w ∈ AW, w.before _ s = true := fun w h => atoms_spec (ws := (.code y_De_condition b_De_condition 5 (some .int) :: AW)) B.pre w (List.mem_cons_of_mem _ h)
  have hown : s.vm.findClass R_De = some m.cls := findClass_of_methodNamed B.named
  have hlocks := B.notSynchronized
  subst hsz
  have hD : va_D (Am L s.heap.size) (va_pl L f) := pl_D hN (fun _ h => Or.inl h)
  have hA0 : ∀ q, s.heap.size ≤ q → Am L s.heap.size q := fun q h => Or.inr h
  generalize Am L s.heap.size = A at hD hA0 ⊢
  have hS : va_S A s.heap s.heap [] := va_S.rf
  have hkp : Kp (fun a => a = cb ∨ a = mA) L f (L, f) := Kp.rf
  have hl := lv_entry ([.ref x0, .int x1, .int x2, .int x3, .int x4]) (n := 5) (Nat.le_of_ble_eq_true rfl)
  rw [lg_entry_eq]
  generalize (lg_sl ([.ref x0, .int x1, .int x2, .int x3, .int x4]) ++ List.replicate (5 - (lg_sl ([.ref x0, .int x1, .int x2, .int x3, .int x4])).length) Slot.unset).toArray = ls at hl ⊢
  have hl : lv_has ls 5 [(0, .ref x0), (1, .int x1), (2, .int x2), (3, .int x3), (4, .int x4)] := hl
  have hcb : Lk L f cb (.inr (1, [.ref mA, .ref gA, .int (nI n)])) := hB.2.1
  refine lv_aload_n hx hb d_De_condition_0 rfl (lv_at hl 0 rfl) ?_
  refine va_get (D := G.1) (ci := 4) (v := .ref cb) (C := R_De) (T := T_De) (N := 2) hx hb hA in_De hown hK.1 (pl_o hP hx0) 0 rfl rfl 0 (by decide) (hA _ kw_80) (fun _ h9 => h9) rfl d_De_condition_1 ?_
  refine lv_iload_n hx hb d_De_condition_4 rfl (lv_at hl 1 rfl) ?_
  refine lv_iload_n hx hb d_De_condition_5 rfl (lv_at hl 2 rfl) ?_
  refine lv_iload_n hx hb d_De_condition_6 rfl (lv_at hl 3 rfl) ?_
  refine lv_iload hx hb d_De_condition_7 (lv_at hl 4 rfl) ?_
  refine vp_callSi (va_Run.run (va_runVN (As := [.int x1, .int x2, .int x3, .int x4]) (rest := []) ⟨hx, hb, hml, hown, hA⟩ (c_Cb_can l G L f hB x1 x2 x3 x4) ⟨va_cnB 4 hA (gAW kw_158) rfl rfl rfl (hK.2.1 _ kz_33) (hA _ kw_19) (by decide +kernel) ⟨Nat.le_of_ble_eq_true rfl, Nat.le_of_ble_eq_true rfl⟩, (hA _ kw_159), (hA _ kw_160)⟩ (pw_preV (ci := 1) hP hK hcb rfl) rfl rfl hl.1 rfl (lv_room (Nat.le_of_ble_eq_true rfl)) d_De_condition_9 ⟨Nat.zero_le _, Nat.zero_le _⟩)) (fun r_1 e_2 => ?_)
  subst e_2
  rcases bcase (cOK n x1 x2 x3 x4) with hb_0 | hb_0
  · refine lv_if_ne (tgt := 17) hx hb d_De_condition_12 (by decide) (fun c9 => absurd (by rw [hb_0]; rfl) c9) (fun _ => ?_)
    refine lv_iconst (v := (-1)) hx hb d_De_condition_15 (by decide) ?_
    refine W.widen (k := 2) (n := 101) (by omega) (by omega) ?_
    exact W.iret (v := (-1)) hx hb hr (fun t9 h9t h9W => ⟨⟨_, (L, f), rfl, Or.inl ⟨hb_0, rfl, rfl⟩, by rw [h9t]; exact hP, hD⟩, hS.F h9t⟩) hS.2.2 d_De_condition_16
  · refine lv_if_ne (tgt := 17) hx hb d_De_condition_12 (by decide) (fun _ => ?_) (fun c9 => absurd c9 (by rw [hb_0]; decide))
    obtain ⟨k, a, b, c_, rfl, ho⟩ := cOK_ok hB.1 hb_0
    refine lv_aload_n hx hb d_De_condition_17 rfl (lv_at hl 0 rfl) ?_
    refine va_get (D := G.1) (ci := 4) (v := .ref cb) (C := R_De) (T := T_De) (N := 2) hx hb hA in_De hown hK.1 (pl_o hP hx0) 0 rfl rfl 0 (by decide) (hA _ kw_80) (fun _ h9 => h9) rfl d_De_condition_18 ?_
    refine lv_iload_n hx hb d_De_condition_21 rfl (lv_at hl 1 rfl) ?_
    refine lv_iload_n hx hb d_De_condition_22 rfl (lv_at hl 2 rfl) ?_
    refine lv_iload_n hx hb d_De_condition_23 rfl (lv_at hl 3 rfl) ?_
    refine lv_iload hx hb d_De_condition_24 (lv_at hl 4 rfl) ?_
    have hFc := am_free hD hS hA0
    refine va_calli (va_runVN (As := [.int (nI k), .int x2, .int x3, .int x4]) (rest := []) ⟨hx, hb, hml, hown, hA⟩ (c_Cb_add l G L f s.heap.size (pl_nd hD) hB ho) ⟨va_cnB 4 hA (gAW kw_161) rfl rfl rfl (hK.2.1 _ kz_34) (hA _ kw_19) (by decide +kernel) ⟨Nat.le_of_ble_eq_true rfl, Nat.le_of_ble_eq_true rfl⟩, (hA _ kw_162), (hA _ kw_163)⟩ (pz_preV (ci := 1) hP hK hcb rfl) rfl rfl hl.1 rfl (lv_room (Nat.le_of_ble_eq_true rfl)) d_De_condition_26 ⟨Nat.le_of_ble_eq_true rfl, Nat.le_of_ble_eq_true rfl⟩) hS (fun q _ h => hFc q h) hFc (fun r_3 u9 t9 H1 locs ht9 hvm hw hWB hz1 hk1 hS => ?_)
    obtain ⟨L_1, f_1⟩ := u9
    obtain ⟨hP, hD1⟩ := hWB
    rw [ht9] at hP
    have hD := va_Dw hD1 hFc
    clear hD1 hk1 hz1 hFc ht9 hvm
    generalize H1 = H at hP hS ⊢
    dsimp only at hP hD
    refine W.widen (k := 2) (n := 101) (by omega) (by omega) ?_
    exact W.iret (v := r_3) hx hb hr (fun t9 h9t h9W => ⟨⟨_, (L_1, f_1), rfl, Or.inr ⟨k, a, b, c_, rfl, ho, hw⟩, by rw [h9t]; exact hP, hD⟩, hS.F h9t⟩) hS.2.2 d_De_condition_29

set_option maxHeartbeats 4000000 in
set_option maxRecDepth 100000 in
/-- rule -/
theorem c_De_rule (l : Launch) (G : GG) (L : List Nat) (f : Nat → va_E) (sz : Nat) (hN : L.Nodup) {x0 cb rb : Nat} (hx0 : Lk L f x0 (.inr (4, [.ref cb, .ref rb]))) {mA gA n : Nat} {ad wa kd : Nat → Nat} {ka kb kc : Nat → Int32} {wd : Nat → Nat → Int64} {mm : Nat → Bool} (hB : CoB G L f cb mA gA n ad wa kd ka kb kc wd mm) {rA rn : Nat} {rad rc rk nu : Nat → Nat} {dn : Nat → Bool} (hR : RuB0 G L f rb rA rn rad rc rk nu dn ad) (hrc : ∀ q, q < rn → rc q < n) (x y : Int32) (b : Bool) : Met l y_De_rule (.code y_De_rule b_De_rule 5 (some .int) :: AW) (RW 4 1 4) (va_Pc [.ref x0, .int x, .int (bI b), .int y] (PZ G L f sz)) (va_Qi (fun r z => ((blw y (nI n) = false ∨ blw x (nI 10) = false) ∧ r = -1 ∧ z = (L, f)) ∨ ∃ u t, u < 10 ∧ t < n ∧ x = nI u ∧ y = nI t ∧ ((rn = 20 ∧ r = -3 ∧ z = (L, f)) ∨ (rn < 20 ∧ r = nI rn ∧ ∃ fr pl, fr ∉ L ∧ fst0 (isPl rn u b rk dn) 20 0 = some pl ∧ pl ≤ rn ∧ Kp (fun a => a = rb ∨ a = rA) L f z ∧ RuB0 G z.1 z.2 rb rA (rn + 1) (insA rad pl fr) (insA rc pl t) (insA rk pl u) (insA nu pl rn) (insA dn pl b) ad))) (BZ G (Am L sz)) (Am L sz)) 1 4 (Am L sz) := by
  refine Met.ofW (cc := b_De_rule) (maxL := 5) (ret := (some .int)) (by decide) rfl ?_
  intro p e s m args below meth c s₁ B hml hv
  obtain ⟨rfl, hsz, hP, hK⟩ := hv
  have hx := B.exec
  have hb := B.bytes
  have hr := B.returns
  have hA : ∀ w ∈ AW, w.before _ s = true := fun w h => atoms_spec (ws := (.code y_De_rule b_De_rule 5 (some .int) :: AW)) B.pre w (List.mem_cons_of_mem _ h)
  have hown : s.vm.findClass R_De = some m.cls := findClass_of_methodNamed B.named
  have hlocks := B.notSynchronized
  subst hsz
  have hD : va_D (Am L s.heap.size) (va_pl L f) := pl_D hN (fun _ h => Or.inl h)
  have hA0 : ∀ q, s.heap.size ≤ q → Am L s.heap.size q := fun q h => Or.inr h
  generalize Am L s.heap.size = A at hD hA0 ⊢
  have hS : va_S A s.heap s.heap [] := va_S.rf
  have hkp : Kp (fun a => a = rb ∨ a = rA) L f (L, f) := Kp.rf
  have hl := lv_entry ([.ref x0, .int x, .int (bI b), .int y]) (n := 5) (Nat.le_of_ble_eq_true rfl)
  rw [lg_entry_eq]
  generalize (lg_sl ([.ref x0, .int x, .int (bI b), .int y]) ++ List.replicate (5 - (lg_sl ([.ref x0, .int x, .int (bI b), .int y])).length) Slot.unset).toArray = ls at hl ⊢
  have hl : lv_has ls 5 [(0, .ref x0), (1, .int x), (2, .int (bI b)), (3, .int y)] := hl
  have hcb : Lk L f cb (.inr (1, [.ref mA, .ref gA, .int (nI n)])) := hB.2.1
  have hrb : Lk L f rb (.inr (3, [.ref rA, .int (nI rn)])) := hR.2.1
  have hcn := hB.1
  rcases at60 (ad := ad) hcn y with ⟨t, ht, rfl⟩ | ⟨hnb, hno⟩
  · refine lv_aload_n hx hb d_De_rule_0 rfl (lv_at hl 0 rfl) ?_
    refine va_get (D := G.1) (ci := 4) (v := .ref cb) (C := R_De) (T := T_De) (N := 2) hx hb hA in_De hown hK.1 (pl_o hP hx0) 0 rfl rfl 0 (by decide) (hA _ kw_80) (fun _ h9 => h9) rfl d_De_rule_1 ?_
    refine lv_iload_n hx hb d_De_rule_4 rfl (lv_at hl 3 rfl) ?_
    refine va_csq (va_Run.run (va_runVN (As := [.int (nI t)]) (rest := []) ⟨hx, hb, hml, hown, hA⟩ (c_Cb_at l G L f hB.2.1 hB.2.2.1 (nI t)) ⟨va_cnB 1 hA (gAW kw_18) rfl rfl rfl (hK.2.1 _ kz_18) (hA _ kw_19) (by decide +kernel) ⟨Nat.le_of_ble_eq_true rfl, Nat.le_of_ble_eq_true rfl⟩, (hA _ kw_21), (hA _ kw_22)⟩ (pw_preV (ci := 1) hP hK hcb rfl) rfl rfl hl.1 rfl (lv_room (Nat.le_of_ble_eq_true rfl)) d_De_rule_5 ⟨Nat.zero_le _, Nat.zero_le _⟩)) (fun r_1 e_2 => ?_)
    subst e_2
    refine xv_R (a := ad t) (oAt_t (by decide) hcn ht) ?_
    refine lv_astore (lv' := [(4, .ref (ad t)), (0, .ref x0), (1, .int x), (2, .int (bI b)), (3, .int (nI t))]) hx hb d_De_rule_8 hl (by decide) rfl (fun ls hl => ?_)
    refine lv_aload hx hb d_De_rule_10 (lv_at hl 0 rfl) ?_
    refine lv_ifnull hx hb d_De_rule_12 ?_
    refine lv_iload_n hx hb d_De_rule_15 rfl (lv_at hl 2 rfl) ?_
    refine lv_bipush (v := nI 10) hx hb d_De_rule_16 (by decide) ?_
    refine vp_callSi (va_Run.run (va_runS (As := [.int x, .int (nI 10)]) (rest := []) ⟨hx, hb, hml, hown, hA⟩ (c_isBelow l G L f x (nI 10)) ⟨callB_of 2 hA (gAW kw_4) rfl rfl rfl (hA _ kw_5) (hA _ kw_96) (by decide +kernel) ⟨Nat.le_of_ble_eq_true rfl, Nat.le_of_ble_eq_true rfl⟩, (hA _ kw_6)⟩ (pw_preS hP hK) rfl rfl hl.1 rfl (lv_room (Nat.le_of_ble_eq_true rfl)) d_De_rule_18 ⟨Nat.zero_le _, Nat.zero_le _⟩)) (fun r_3 e_4 => ?_)
    subst e_4
    rcases bcase (blw x (nI 10)) with hb_0 | hb_0
    · refine lv_if_ne (tgt := 26) hx hb d_De_rule_21 (by decide) (fun c9 => absurd (by rw [hb_0]; rfl) c9) (fun _ => ?_)
      refine lv_iconst (v := (-1)) hx hb d_De_rule_24 (by decide) ?_
      refine W.widen (k := 1) (n := 4) (by omega) (by omega) ?_
      exact W.iret (v := (-1)) hx hb hr (fun t9 h9t h9W => ⟨⟨_, (L, f), rfl, Or.inl ⟨Or.inr hb_0, rfl, rfl⟩, by rw [h9t]; exact hP, hD⟩, hS.F h9t⟩) hS.2.2 d_De_rule_25
    · refine lv_if_ne (tgt := 26) hx hb d_De_rule_21 (by decide) (fun _ => ?_) (fun c9 => absurd c9 (by rw [hb_0]; decide))
      obtain ⟨u, hu, rfl⟩ := blw_of (by decide) hb_0
      refine lv_aload_n hx hb d_De_rule_26 rfl (lv_at hl 1 rfl) ?_
      refine va_get (D := G.1) (ci := 4) (v := .ref rb) (C := R_De) (T := T_De) (N := 2) hx hb hA in_De hown hK.1 (pl_o hP hx0) 0 rfl rfl 1 (by decide) (hA _ kw_81) (fun _ h9 => h9) rfl d_De_rule_27 ?_
      refine lv_iload_n hx hb d_De_rule_30 rfl (lv_at hl 2 rfl) ?_
      refine lv_iload_n hx hb d_De_rule_31 rfl (lv_at hl 3 rfl) ?_
      refine lv_aload hx hb d_De_rule_32 (lv_at hl 0 rfl) ?_
      have hFc := am_free hD hS hA0
      refine va_calli (va_runVN (As := [.int (nI u), .int (bI b), .ref (ad t)]) (rest := []) ⟨hx, hb, hml, hown, hA⟩ (c_Rb_add l G L f s.heap.size (pl_nd hD) hB hR hrc u t b hu) ⟨va_cnB 3 hA (gAW kw_164) rfl rfl rfl (hK.2.1 _ kz_35) (hA _ kw_48) (by decide +kernel) ⟨Nat.le_of_ble_eq_true rfl, Nat.le_of_ble_eq_true rfl⟩, (hA _ kw_165), (hA _ kw_166)⟩ (pz_preV (ci := 3) hP hK hrb rfl) rfl rfl hl.1 rfl (lv_room (Nat.le_of_ble_eq_true rfl)) d_De_rule_34 ⟨Nat.le_of_ble_eq_true rfl, Nat.le_of_ble_eq_true rfl⟩) hS (fun q _ h => hFc q h) hFc (fun r_5 u9 t9 H1 locs ht9 hvm hw hWB hz1 hk1 hS => ?_)
      obtain ⟨L_1, f_1⟩ := u9
      obtain ⟨hP, hD1⟩ := hWB
      rw [ht9] at hP
      have hD := va_Dw hD1 hFc
      clear hD1 hk1 hz1 hFc ht9 hvm
      generalize H1 = H at hP hS ⊢
      dsimp only at hP hD
      refine W.widen (k := 1) (n := 4) (by omega) (by omega) ?_
      exact W.iret (v := r_5) hx hb hr (fun t9 h9t h9W => ⟨⟨_, (L_1, f_1), rfl, Or.inr ⟨u, t, hu, ht, rfl, rfl, hw⟩, by rw [h9t]; exact hP, hD⟩, hS.F h9t⟩) hS.2.2 d_De_rule_37
  · refine lv_aload_n hx hb d_De_rule_0 rfl (lv_at hl 0 rfl) ?_
    refine va_get (D := G.1) (ci := 4) (v := .ref cb) (C := R_De) (T := T_De) (N := 2) hx hb hA in_De hown hK.1 (pl_o hP hx0) 0 rfl rfl 0 (by decide) (hA _ kw_80) (fun _ h9 => h9) rfl d_De_rule_1 ?_
    refine lv_iload_n hx hb d_De_rule_4 rfl (lv_at hl 3 rfl) ?_
    refine va_csq (va_Run.run (va_runVN (As := [.int y]) (rest := []) ⟨hx, hb, hml, hown, hA⟩ (c_Cb_at l G L f hB.2.1 hB.2.2.1 y) ⟨va_cnB 1 hA (gAW kw_18) rfl rfl rfl (hK.2.1 _ kz_18) (hA _ kw_19) (by decide +kernel) ⟨Nat.le_of_ble_eq_true rfl, Nat.le_of_ble_eq_true rfl⟩, (hA _ kw_21), (hA _ kw_22)⟩ (pw_preV (ci := 1) hP hK hcb rfl) rfl rfl hl.1 rfl (lv_room (Nat.le_of_ble_eq_true rfl)) d_De_rule_5 ⟨Nat.zero_le _, Nat.zero_le _⟩)) (fun r_6 e_7 => ?_)
    subst e_7
    refine xv_N hno ?_
    refine lv_astoreN (lv' := [(4, .null), (0, .ref x0), (1, .int x), (2, .int (bI b)), (3, .int y)]) hx hb d_De_rule_8 hl (by decide) rfl (fun ls hl => ?_)
    refine lv_aloadN hx hb d_De_rule_10 (lv_at hl 0 rfl) ?_
    refine lv_ifnullN (tgt := 24) hx hb d_De_rule_12 (by decide) ?_
    refine lv_iconst (v := (-1)) hx hb d_De_rule_24 (by decide) ?_
    refine W.widen (k := 1) (n := 4) (by omega) (by omega) ?_
    exact W.iret (v := (-1)) hx hb hr (fun t9 h9t h9W => ⟨⟨_, (L, f), rfl, Or.inl ⟨Or.inl hnb, rfl, rfl⟩, by rw [h9t]; exact hP, hD⟩, hS.F h9t⟩) hS.2.2 d_De_rule_25

set_option maxHeartbeats 4000000 in
set_option maxRecDepth 100000 in
/-- drop -/
theorem c_De_drop (l : Launch) (G : GG) (L : List Nat) (f : Nat → va_E) (sz : Nat) (hN : L.Nodup) {x0 cb rb : Nat} (hx0 : Lk L f x0 (.inr (4, [.ref cb, .ref rb]))) {mA gA n : Nat} {ad wa kd : Nat → Nat} {ka kb kc : Nat → Int32} {wd : Nat → Nat → Int64} {mm : Nat → Bool} (hB : CoB G L f cb mA gA n ad wa kd ka kb kc wd mm) {rA rn : Nat} {rad rc rk nu : Nat → Nat} {dn : Nat → Bool} (hR : RuB0 G L f rb rA rn rad rc rk nu dn ad) (hrc : ∀ q, q < rn → rc q < n) (hI : inj rn rad) (x : Int32) : Met l y_De_drop (.code y_De_drop b_De_drop 3 (some .int) :: AW) (RW 3 0 0) (va_Pc [.ref x0, .int x] (PZ G L f sz)) (va_Qi (fun r z => (fst0 (isNo rn nu x) 20 0 = none ∧ r = -1 ∧ z = (L, f)) ∨ ∃ q, fst0 (isNo rn nu x) 20 0 = some q ∧ q < rn ∧ r = nI (rn - 1) ∧ z.1 = L ∧ Kp (fun a => a = rb ∨ a = rA ∨ ∃ q, q < rn ∧ a = rad q) L f z ∧ RuB0 G L z.2 rb rA (rn - 1) (delA rad q) (delA rc q) (delA rk q) (decK (nu q) 20 (delA nu q)) (delA dn q) ad) (BZ G (Am L sz)) (Am L sz)) 0 0 (Am L sz) := by
  refine Met.ofW (cc := b_De_drop) (maxL := 3) (ret := (some .int)) (by decide) rfl ?_
  intro p e s m args below meth c s₁ B hml hv
  obtain ⟨rfl, hsz, hP, hK⟩ := hv
  have hx := B.exec
  have hb := B.bytes
  have hr := B.returns
  have hA : ∀ w ∈ AW, w.before _ s = true := fun w h => atoms_spec (ws := (.code y_De_drop b_De_drop 3 (some .int) :: AW)) B.pre w (List.mem_cons_of_mem _ h)
  have hown : s.vm.findClass R_De = some m.cls := findClass_of_methodNamed B.named
  have hlocks := B.notSynchronized
  subst hsz
  have hD : va_D (Am L s.heap.size) (va_pl L f) := pl_D hN (fun _ h => Or.inl h)
  have hA0 : ∀ q, s.heap.size ≤ q → Am L s.heap.size q := fun q h => Or.inr h
  generalize Am L s.heap.size = A at hD hA0 ⊢
  have hS : va_S A s.heap s.heap [] := va_S.rf
  have hkp : Kp (fun a => a = rb ∨ a = rA ∨ ∃ q, q < rn ∧ a = rad q) L f (L, f) := Kp.rf
  have hl := lv_entry ([.ref x0, .int x]) (n := 3) (Nat.le_of_ble_eq_true rfl)
  rw [lg_entry_eq]
  generalize (lg_sl ([.ref x0, .int x]) ++ List.replicate (3 - (lg_sl ([.ref x0, .int x])).length) Slot.unset).toArray = ls at hl ⊢
  have hl : lv_has ls 3 [(0, .ref x0), (1, .int x)] := hl
  have hrb : Lk L f rb (.inr (3, [.ref rA, .int (nI rn)])) := hR.2.1
  have hrn := hR.1
  refine lv_aload_n hx hb d_De_drop_0 rfl (lv_at hl 0 rfl) ?_
  refine va_get (D := G.1) (ci := 4) (v := .ref rb) (C := R_De) (T := T_De) (N := 2) hx hb hA in_De hown hK.1 (pl_o hP hx0) 0 rfl rfl 1 (by decide) (hA _ kw_81) (fun _ h9 => h9) rfl d_De_drop_1 ?_
  refine lv_iload_n hx hb d_De_drop_4 rfl (lv_at hl 1 rfl) ?_
  refine vp_callSi (va_Run.run (va_runVN (As := [.int x]) (rest := []) ⟨hx, hb, hml, hown, hA⟩ (c_Rb_placeOf l G L f (RuB_of hB hR hrc) x) ⟨va_cnB 1 hA (gAW kw_90) rfl rfl rfl (hK.2.1 _ kz_20) (hA _ kw_48) (by decide +kernel) ⟨Nat.le_of_ble_eq_true rfl, Nat.le_of_ble_eq_true rfl⟩, (hA _ kw_91), (hA _ kw_92)⟩ (pw_preV (ci := 3) hP hK hrb rfl) rfl rfl hl.1 rfl (lv_room (Nat.le_of_ble_eq_true rfl)) d_De_drop_5 ⟨Nat.zero_le _, Nat.zero_le _⟩)) (fun r_1 e_2 => ?_)
  subst e_2
  rcases ocase (fst0 (isNo rn nu x) 20 0) with hf | ⟨q, hf⟩
  · refine xv_I (y := (-1)) (by rw [hf]; rfl) ?_
    refine lv_istore_n (lv' := [(2, .int (-1)), (0, .ref x0), (1, .int x)]) hx hb d_De_drop_8 rfl hl (by decide) rfl (fun ls hl => ?_)
    refine lv_iload_n hx hb d_De_drop_9 rfl (lv_at hl 0 rfl) ?_
    refine lv_iconst (v := (-1)) hx hb d_De_drop_10 (by decide) ?_
    refine lv_icmp_ne (tgt := 16) hx hb d_De_drop_11 (by decide) (fun c9 => absurd rfl c9) (fun _ => ?_)
    refine lv_iconst (v := (-1)) hx hb d_De_drop_14 (by decide) ?_
    exact W.iret (v := (-1)) hx hb hr (fun t9 h9t h9W => ⟨⟨_, (L, f), rfl, Or.inl ⟨hf, rfl, rfl⟩, by rw [h9t]; exact hP, hD⟩, hS.F h9t⟩) hS.2.2 d_De_drop_15
  · have hq : q < rn ∧ nI (nu q) = x := of_decide_eq_true (fst0_t hf).1
    have hnq := (hR.2.2.2 q hq.1).2.1
    obtain ⟨hq, rfl⟩ := hq
    refine xv_I (y := nI q) (by rw [hf]; rfl) ?_
    refine lv_istore_n (lv' := [(2, .int (nI q)), (0, .ref x0), (1, .int (nI (nu q)))]) hx hb d_De_drop_8 rfl hl (by decide) rfl (fun ls hl => ?_)
    refine lv_iload_n hx hb d_De_drop_9 rfl (lv_at hl 0 rfl) ?_
    refine lv_iconst (v := (-1)) hx hb d_De_drop_10 (by decide) ?_
    refine lv_icmp_ne (tgt := 16) hx hb d_De_drop_11 (by decide) (fun _ => ?_) (fun c9 => absurd c9 (nI_m1 (by omega)))
    refine lv_aload_n hx hb d_De_drop_16 rfl (lv_at hl 1 rfl) ?_
    refine va_get (D := G.1) (ci := 4) (v := .ref rb) (C := R_De) (T := T_De) (N := 2) hx hb hA in_De hown hK.1 (pl_o hP hx0) 0 rfl rfl 1 (by decide) (hA _ kw_81) (fun _ h9 => h9) rfl d_De_drop_17 ?_
    refine lv_iload_n hx hb d_De_drop_20 rfl (lv_at hl 0 rfl) ?_
    refine lv_iload_n hx hb d_De_drop_21 rfl (lv_at hl 2 rfl) ?_
    have hFc := am_free hD hS hA0
    refine va_calli (va_runVN (As := [.int (nI q), .int (nI (nu q))]) (rest := []) ⟨hx, hb, hml, hown, hA⟩ (c_Rb_rem l G L f s.heap.size (pl_nd hD) hR hI q (nu q) hq hnq) ⟨va_cnB 2 hA (gAW kw_167) rfl rfl rfl (hK.2.1 _ kz_36) (hA _ kw_48) (by decide +kernel) ⟨Nat.le_of_ble_eq_true rfl, Nat.le_of_ble_eq_true rfl⟩, (hA _ kw_168), (hA _ kw_169)⟩ (pz_preV (ci := 3) hP hK hrb rfl) rfl rfl hl.1 rfl (lv_room (Nat.le_of_ble_eq_true rfl)) d_De_drop_22 ⟨Nat.le_of_ble_eq_true rfl, Nat.le_of_ble_eq_true rfl⟩) hS (fun q _ h => hFc q h) hFc (fun r_3 u9 t9 H1 locs ht9 hvm hw hWB hz1 hk1 hS => ?_)
    obtain ⟨L_1, f_1⟩ := u9
    obtain ⟨hP, hD1⟩ := hWB
    rw [ht9] at hP
    have hD := va_Dw hD1 hFc
    clear hD1 hk1 hz1 hFc ht9 hvm
    generalize H1 = H at hP hS ⊢
    dsimp only at hP hD
    obtain ⟨hrr, hz1, hk1, hR1⟩ := hw
    try dsimp only at hz1 hR1
    exact W.iret (v := r_3) hx hb hr (fun t9 h9t h9W => ⟨⟨_, (L_1, f_1), rfl, Or.inr ⟨q, hf, hq, hrr, hz1, hk1, hR1⟩, by rw [h9t]; exact hP, hD⟩, hS.F h9t⟩) hS.2.2 d_De_drop_25
