theorem lq_1 {a : Nat} (h : a ≤ 600000) : a ≤ room_1.cells := h
theorem lq_2 {a : Nat} (h : a ≤ 7302250) : a ≤ room_1.slots := h
set_option maxHeartbeats 4000000 in
set_option maxRecDepth 100000 in
theorem op_0 {p : Program} {l : Launch} {e : Env} {s : State} {m : MethodId} {below : List Frame} {meth : Method} {c : Code} {b Ls : Nat} {xs : Nat → Int32} (hL : Ls ≤ 3584) (C0 : lw_At p s m meth c b Ls xs) {G : GG} (hK : KK G s) {A : Nat → Prop} (hA0 : ∀ q, s.heap.size ≤ q → A q) (hbA : ¬ A b) {x0 mo i : Nat} (hi : 7 * i + 7 ≤ Ls) {L : List Nat} {f : Nat → va_E} {H : Heap} {locs : List Loc} {ls : Array Slot} (hP : va_P G.1 vwCl (va_pl L f) H) (hD : va_D A (va_pl L f)) (hS : va_S A s.heap H locs) (hDI : DI G L f x0 mo) (hl : lv_has ls 4 [(0, .ref b), (1, .ref x0), (2, .ref mo), (3, .int (nI (7 * i)))]) (kk : ∀ (H : Heap) (locs : List Loc) (L : List Nat) (f : Nat → va_E) (ls : Array Slot), va_P G.1 vwCl (va_pl L f) H → va_D A (va_pl L f) → va_S A s.heap H locs → DI G L f x0 mo → lv_has ls 4 [(0, .ref b), (1, .ref x0), (2, .ref mo), (3, .int (nI (7 * i)))] → W p l e room_1 s m #[Value.ref b] below meth c H locs (18 + 2 * (i + 1)) (18200 + 101 * (i + 1)) (lw_Z below #[Value.ref b] s) (F0 m 670 ls [])) : W p l e room_1 s m #[Value.ref b] below meth c H locs (18 + 2 * i) (18200 + 101 * i) (lw_Z below #[Value.ref b] s) (F0 m 112 ls []) := by
  obtain ⟨hx, hb, hr, hml, hown0, hts, hXs, hbl, hlocks, hgv⟩ := C0
  have hown : s.vm.findClass R_La = some m.cls := hown0
  have hA : ∀ w ∈ AW, w.before #[Value.ref b] s = true := fun w hw => hts w (List.mem_filter.mp hw).1
  obtain ⟨n, rn, kd, ka, kb, kc, ca, cbb, ccc, mm, nu, rk, dn, rc, RK, DN, RC, ⟨cb, rb, mA, gA, rA, ad, wa, wd, rad, hx0, hCo, hRu, hI1, hI2, hW⟩, ⟨g2, kA, fA, sA, tA, bA, r2A, dA, cA, eA, kn, gf, bf, xf, hMo, hG, hBi, hX⟩, hO, hRow, hru⟩ := hDI
  have hn60 := hMo.1
  have hr20 := hMo.2.1
  have hrc : ∀ q, q < rn → rc q < n := fun q hq => by
    have a := hRow.1 q hq
    rw [a.2.2.2]
    exact (hru _ a.1).2
  have hAB : ∀ j, j < n → ∀ q, q < 6144 → aB (wd j) q = mB bf j q := fun j hj q hq => (aB_hold hO hW hn60 hq (j + 1) j (by omega) hj).trans (BiI_hold hO hn60 hBi hq (j + 1) j (by omega) hj).symm
  have hT : Tie rn (fun q => wd (rc q)) nu rk dn rc bf RK DN RC := ⟨hRow, fun q hq r hr => hAB (rc q) (hrc q hq) r hr, hr20, fun j hj => (hru j hj).1⟩
  have hRB := RuB_of hCo hRu hrc
  refine lv_aload_n hx hb d_law_112 rfl (lv_at hl 1 rfl) ?_
  refine lv_aload_n hx hb d_law_113 rfl (lv_at hl 0 rfl) ?_
  refine lv_iload_n hx hb d_law_114 rfl (lv_at hl 3 rfl) ?_
  refine lv_iconst (v := nI 1) hx hb d_law_115 (by decide) ?_
  refine lv_iadd hx hb d_law_116 ?_
  refine xv_I (y := nI (7 * i + 1)) (nI_add _ _) ?_
  refine va_sld hx hb hXs hbl hbA hS (vp_in_nI (show (7 * i + 1) < Ls by omega) (by omega)) d_law_117 ?_
  refine xv_I (y := xs (7 * i + 1)) (congrArg xs (nI_clamp (by omega))) ?_
  refine lv_aload_n hx hb d_law_118 rfl (lv_at hl 0 rfl) ?_
  refine lv_iload_n hx hb d_law_119 rfl (lv_at hl 3 rfl) ?_
  refine lv_iconst (v := nI 2) hx hb d_law_120 (by decide) ?_
  refine lv_iadd hx hb d_law_121 ?_
  refine xv_I (y := nI (7 * i + 2)) (nI_add _ _) ?_
  refine va_sld hx hb hXs hbl hbA hS (vp_in_nI (show (7 * i + 2) < Ls by omega) (by omega)) d_law_122 ?_
  refine xv_I (y := xs (7 * i + 2)) (congrArg xs (nI_clamp (by omega))) ?_
  refine lv_aload_n hx hb d_law_123 rfl (lv_at hl 0 rfl) ?_
  refine lv_iload_n hx hb d_law_124 rfl (lv_at hl 3 rfl) ?_
  refine lv_iconst (v := nI 3) hx hb d_law_125 (by decide) ?_
  refine lv_iadd hx hb d_law_126 ?_
  refine xv_I (y := nI (7 * i + 3)) (nI_add _ _) ?_
  refine va_sld hx hb hXs hbl hbA hS (vp_in_nI (show (7 * i + 3) < Ls by omega) (by omega)) d_law_127 ?_
  refine xv_I (y := xs (7 * i + 3)) (congrArg xs (nI_clamp (by omega))) ?_
  by_cases hz2 : xs (7 * i + 3) = 0
  · refine lv_if_eq (tgt := 135) hx hb d_law_128 (by decide) (fun _ => ?_) (fun c9 => absurd hz2 c9)
    refine lv_iconst (v := nI 0) hx hb d_law_135 (by decide) ?_
    refine xv_I (y := bI false) rfl ?_
    have hFc := am_free hD hS hA0
    refine va_calli (va_runV (As := [.int (xs (7 * i + 1)), .int (xs (7 * i + 2)), .int (bI false)]) (rest := []) ⟨hx, hb, hml, hown, hA⟩ (c_De_member l G L f H.size (pl_nd hD) hx0 hCo hO hI1 hW (xs (7 * i + 1)) (xs (7 * i + 2)) false) ⟨callB_of 3 hA (gAW kw_246) rfl rfl rfl (hA _ kw_5) (hA _ kw_247) (by decide +kernel) ⟨Nat.le_of_ble_eq_true rfl, Nat.le_of_ble_eq_true rfl⟩, (hA _ kw_248), (hA _ kw_249)⟩ (pz_preV (ci := 4) hP hK hx0 rfl) rfl rfl hl.1 rfl (lv_room (Nat.le_of_ble_eq_true rfl)) d_law_136 ⟨lq_1 (by omega), lq_2 (by omega)⟩) hS (fun q _ h => hFc q h) hFc (fun r_1 u9 t9 H1 locs ht9 hvm hw hWB hz1 hk1 hS => ?_)
    obtain ⟨L_1, f_1⟩ := u9
    obtain ⟨hP, hD1⟩ := hWB
    rw [ht9] at hP
    have hD := va_Dw hD1 hFc
    clear hD1 hk1 hz1 hFc ht9 hvm
    generalize H1 = H at hP hS ⊢
    dsimp only at hP hD
    have hw1 := hw
    have hMo1 := hMo.km (km_member (x0 := x0) (ca := ca) (cbb := cbb) (ccc := ccc) hCo hRu hw1)
    refine lv_aload_n hx hb d_law_139 rfl (lv_at hl 2 rfl) ?_
    refine lv_aload_n hx hb d_law_140 rfl (lv_at hl 0 rfl) ?_
    refine lv_iload_n hx hb d_law_141 rfl (lv_at hl 3 rfl) ?_
    refine lv_iconst (v := nI 1) hx hb d_law_142 (by decide) ?_
    refine lv_iadd hx hb d_law_143 ?_
    refine xv_I (y := nI (7 * i + 1)) (nI_add _ _) ?_
    refine va_sld hx hb hXs hbl hbA hS (vp_in_nI (show (7 * i + 1) < Ls by omega) (by omega)) d_law_144 ?_
    refine xv_I (y := xs (7 * i + 1)) (congrArg xs (nI_clamp (by omega))) ?_
    refine lv_aload_n hx hb d_law_145 rfl (lv_at hl 0 rfl) ?_
    refine lv_iload_n hx hb d_law_146 rfl (lv_at hl 3 rfl) ?_
    refine lv_iconst (v := nI 2) hx hb d_law_147 (by decide) ?_
    refine lv_iadd hx hb d_law_148 ?_
    refine xv_I (y := nI (7 * i + 2)) (nI_add _ _) ?_
    refine va_sld hx hb hXs hbl hbA hS (vp_in_nI (show (7 * i + 2) < Ls by omega) (by omega)) d_law_149 ?_
    refine xv_I (y := xs (7 * i + 2)) (congrArg xs (nI_clamp (by omega))) ?_
    refine lv_aload_n hx hb d_law_150 rfl (lv_at hl 0 rfl) ?_
    refine lv_iload_n hx hb d_law_151 rfl (lv_at hl 3 rfl) ?_
    refine lv_iconst (v := nI 3) hx hb d_law_152 (by decide) ?_
    refine lv_iadd hx hb d_law_153 ?_
    refine xv_I (y := nI (7 * i + 3)) (nI_add _ _) ?_
    refine va_sld hx hb hXs hbl hbA hS (vp_in_nI (show (7 * i + 3) < Ls by omega) (by omega)) d_law_154 ?_
    refine xv_I (y := xs (7 * i + 3)) (congrArg xs (nI_clamp (by omega))) ?_
    refine lv_if_eq (tgt := 162) hx hb d_law_155 (by decide) (fun _ => ?_) (fun c9 => absurd hz2 c9)
    refine lv_iconst (v := nI 0) hx hb d_law_162 (by decide) ?_
    refine xv_I (y := bI false) rfl ?_
    have hFc := am_free hD hS hA0
    refine va_calli (va_runV (As := [.int (xs (7 * i + 1)), .int (xs (7 * i + 2)), .int (bI false)]) (rest := [.int r_1]) ⟨hx, hb, hml, hown, hA⟩ (c_Mo_member l G L_1 f_1 H.size (pl_nd hD) hMo1 hG hO (xs (7 * i + 1)) (xs (7 * i + 2)) false) ⟨callB_of 3 hA (gAW kw_250) rfl rfl rfl (hA _ kw_172) (hA _ kw_251) (by decide +kernel) ⟨Nat.le_of_ble_eq_true rfl, Nat.le_of_ble_eq_true rfl⟩, (hA _ kw_252), (hA _ kw_253)⟩ (pz_preV (ci := 5) hP hK hMo1.2.2.1 rfl) rfl rfl hl.1 rfl (lv_room (Nat.le_of_ble_eq_true rfl)) d_law_163 ⟨lq_1 (by omega), lq_2 (by omega)⟩) hS (fun q _ h => hFc q h) hFc (fun r_2 u9 t9 H1 locs ht9 hvm hw hWB hz1 hk1 hS => ?_)
    obtain ⟨L_2, f_2⟩ := u9
    obtain ⟨hP, hD1⟩ := hWB
    rw [ht9] at hP
    have hD := va_Dw hD1 hFc
    clear hD1 hk1 hz1 hFc ht9 hvm
    generalize H1 = H at hP hS ⊢
    dsimp only at hP hD
    obtain ⟨hrr, hD9⟩ := st_member hx0 hCo hRu hI1 hI2 hW hMo hG hBi hX hO hRow hru  hw1 hw
    refine lv_icmp_eq (tgt := 670) hx hb d_law_166 (by decide) (fun _ => ?_) (fun c9 => absurd hrr c9)
    refine W.widen (k := 18 + 2 * (i + 1)) (n := 18200 + 101 * (i + 1)) (by omega) (by omega) ?_
    exact kk H locs L_2 f_2 ls hP hD hS hD9 hl
  · refine lv_if_eq (tgt := 135) hx hb d_law_128 (by decide) (fun c9 => absurd c9 hz2) (fun _ => ?_)
    refine lv_iconst (v := nI 1) hx hb d_law_131 (by decide) ?_
    refine xv_I (y := bI true) rfl ?_
    refine lv_goto (tgt := 136) hx hb d_law_132 (by decide) ?_
    have hFc := am_free hD hS hA0
    refine va_calli (va_runV (As := [.int (xs (7 * i + 1)), .int (xs (7 * i + 2)), .int (bI true)]) (rest := []) ⟨hx, hb, hml, hown, hA⟩ (c_De_member l G L f H.size (pl_nd hD) hx0 hCo hO hI1 hW (xs (7 * i + 1)) (xs (7 * i + 2)) true) ⟨callB_of 3 hA (gAW kw_246) rfl rfl rfl (hA _ kw_5) (hA _ kw_247) (by decide +kernel) ⟨Nat.le_of_ble_eq_true rfl, Nat.le_of_ble_eq_true rfl⟩, (hA _ kw_248), (hA _ kw_249)⟩ (pz_preV (ci := 4) hP hK hx0 rfl) rfl rfl hl.1 rfl (lv_room (Nat.le_of_ble_eq_true rfl)) d_law_136 ⟨lq_1 (by omega), lq_2 (by omega)⟩) hS (fun q _ h => hFc q h) hFc (fun r_3 u9 t9 H1 locs ht9 hvm hw hWB hz1 hk1 hS => ?_)
    obtain ⟨L_3, f_3⟩ := u9
    obtain ⟨hP, hD1⟩ := hWB
    rw [ht9] at hP
    have hD := va_Dw hD1 hFc
    clear hD1 hk1 hz1 hFc ht9 hvm
    generalize H1 = H at hP hS ⊢
    dsimp only at hP hD
    have hw1 := hw
    have hMo1 := hMo.km (km_member (x0 := x0) (ca := ca) (cbb := cbb) (ccc := ccc) hCo hRu hw1)
    refine lv_aload_n hx hb d_law_139 rfl (lv_at hl 2 rfl) ?_
    refine lv_aload_n hx hb d_law_140 rfl (lv_at hl 0 rfl) ?_
    refine lv_iload_n hx hb d_law_141 rfl (lv_at hl 3 rfl) ?_
    refine lv_iconst (v := nI 1) hx hb d_law_142 (by decide) ?_
    refine lv_iadd hx hb d_law_143 ?_
    refine xv_I (y := nI (7 * i + 1)) (nI_add _ _) ?_
    refine va_sld hx hb hXs hbl hbA hS (vp_in_nI (show (7 * i + 1) < Ls by omega) (by omega)) d_law_144 ?_
    refine xv_I (y := xs (7 * i + 1)) (congrArg xs (nI_clamp (by omega))) ?_
    refine lv_aload_n hx hb d_law_145 rfl (lv_at hl 0 rfl) ?_
    refine lv_iload_n hx hb d_law_146 rfl (lv_at hl 3 rfl) ?_
    refine lv_iconst (v := nI 2) hx hb d_law_147 (by decide) ?_
    refine lv_iadd hx hb d_law_148 ?_
    refine xv_I (y := nI (7 * i + 2)) (nI_add _ _) ?_
    refine va_sld hx hb hXs hbl hbA hS (vp_in_nI (show (7 * i + 2) < Ls by omega) (by omega)) d_law_149 ?_
    refine xv_I (y := xs (7 * i + 2)) (congrArg xs (nI_clamp (by omega))) ?_
    refine lv_aload_n hx hb d_law_150 rfl (lv_at hl 0 rfl) ?_
    refine lv_iload_n hx hb d_law_151 rfl (lv_at hl 3 rfl) ?_
    refine lv_iconst (v := nI 3) hx hb d_law_152 (by decide) ?_
    refine lv_iadd hx hb d_law_153 ?_
    refine xv_I (y := nI (7 * i + 3)) (nI_add _ _) ?_
    refine va_sld hx hb hXs hbl hbA hS (vp_in_nI (show (7 * i + 3) < Ls by omega) (by omega)) d_law_154 ?_
    refine xv_I (y := xs (7 * i + 3)) (congrArg xs (nI_clamp (by omega))) ?_
    refine lv_if_eq (tgt := 162) hx hb d_law_155 (by decide) (fun c9 => absurd c9 hz2) (fun _ => ?_)
    refine lv_iconst (v := nI 1) hx hb d_law_158 (by decide) ?_
    refine xv_I (y := bI true) rfl ?_
    refine lv_goto (tgt := 163) hx hb d_law_159 (by decide) ?_
    have hFc := am_free hD hS hA0
    refine va_calli (va_runV (As := [.int (xs (7 * i + 1)), .int (xs (7 * i + 2)), .int (bI true)]) (rest := [.int r_3]) ⟨hx, hb, hml, hown, hA⟩ (c_Mo_member l G L_3 f_3 H.size (pl_nd hD) hMo1 hG hO (xs (7 * i + 1)) (xs (7 * i + 2)) true) ⟨callB_of 3 hA (gAW kw_250) rfl rfl rfl (hA _ kw_172) (hA _ kw_251) (by decide +kernel) ⟨Nat.le_of_ble_eq_true rfl, Nat.le_of_ble_eq_true rfl⟩, (hA _ kw_252), (hA _ kw_253)⟩ (pz_preV (ci := 5) hP hK hMo1.2.2.1 rfl) rfl rfl hl.1 rfl (lv_room (Nat.le_of_ble_eq_true rfl)) d_law_163 ⟨lq_1 (by omega), lq_2 (by omega)⟩) hS (fun q _ h => hFc q h) hFc (fun r_4 u9 t9 H1 locs ht9 hvm hw hWB hz1 hk1 hS => ?_)
    obtain ⟨L_4, f_4⟩ := u9
    obtain ⟨hP, hD1⟩ := hWB
    rw [ht9] at hP
    have hD := va_Dw hD1 hFc
    clear hD1 hk1 hz1 hFc ht9 hvm
    generalize H1 = H at hP hS ⊢
    dsimp only at hP hD
    obtain ⟨hrr, hD9⟩ := st_member hx0 hCo hRu hI1 hI2 hW hMo hG hBi hX hO hRow hru  hw1 hw
    refine lv_icmp_eq (tgt := 670) hx hb d_law_166 (by decide) (fun _ => ?_) (fun c9 => absurd hrr c9)
    refine W.widen (k := 18 + 2 * (i + 1)) (n := 18200 + 101 * (i + 1)) (by omega) (by omega) ?_
    exact kk H locs L_4 f_4 ls hP hD hS hD9 hl

set_option maxHeartbeats 4000000 in
set_option maxRecDepth 100000 in
theorem op_1 {p : Program} {l : Launch} {e : Env} {s : State} {m : MethodId} {below : List Frame} {meth : Method} {c : Code} {b Ls : Nat} {xs : Nat → Int32} (hL : Ls ≤ 3584) (C0 : lw_At p s m meth c b Ls xs) {G : GG} (hK : KK G s) {A : Nat → Prop} (hA0 : ∀ q, s.heap.size ≤ q → A q) (hbA : ¬ A b) {x0 mo i : Nat} (hi : 7 * i + 7 ≤ Ls) {L : List Nat} {f : Nat → va_E} {H : Heap} {locs : List Loc} {ls : Array Slot} (hP : va_P G.1 vwCl (va_pl L f) H) (hD : va_D A (va_pl L f)) (hS : va_S A s.heap H locs) (hDI : DI G L f x0 mo) (hl : lv_has ls 4 [(0, .ref b), (1, .ref x0), (2, .ref mo), (3, .int (nI (7 * i)))]) (kk : ∀ (H : Heap) (locs : List Loc) (L : List Nat) (f : Nat → va_E) (ls : Array Slot), va_P G.1 vwCl (va_pl L f) H → va_D A (va_pl L f) → va_S A s.heap H locs → DI G L f x0 mo → lv_has ls 4 [(0, .ref b), (1, .ref x0), (2, .ref mo), (3, .int (nI (7 * i)))] → W p l e room_1 s m #[Value.ref b] below meth c H locs (18 + 2 * (i + 1)) (18200 + 101 * (i + 1)) (lw_Z below #[Value.ref b] s) (F0 m 670 ls [])) : W p l e room_1 s m #[Value.ref b] below meth c H locs (18 + 2 * i) (18200 + 101 * i) (lw_Z below #[Value.ref b] s) (F0 m 171 ls []) := by
  obtain ⟨hx, hb, hr, hml, hown0, hts, hXs, hbl, hlocks, hgv⟩ := C0
  have hown : s.vm.findClass R_La = some m.cls := hown0
  have hA : ∀ w ∈ AW, w.before #[Value.ref b] s = true := fun w hw => hts w (List.mem_filter.mp hw).1
  obtain ⟨n, rn, kd, ka, kb, kc, ca, cbb, ccc, mm, nu, rk, dn, rc, RK, DN, RC, ⟨cb, rb, mA, gA, rA, ad, wa, wd, rad, hx0, hCo, hRu, hI1, hI2, hW⟩, ⟨g2, kA, fA, sA, tA, bA, r2A, dA, cA, eA, kn, gf, bf, xf, hMo, hG, hBi, hX⟩, hO, hRow, hru⟩ := hDI
  have hn60 := hMo.1
  have hr20 := hMo.2.1
  have hrc : ∀ q, q < rn → rc q < n := fun q hq => by
    have a := hRow.1 q hq
    rw [a.2.2.2]
    exact (hru _ a.1).2
  have hAB : ∀ j, j < n → ∀ q, q < 6144 → aB (wd j) q = mB bf j q := fun j hj q hq => (aB_hold hO hW hn60 hq (j + 1) j (by omega) hj).trans (BiI_hold hO hn60 hBi hq (j + 1) j (by omega) hj).symm
  have hT : Tie rn (fun q => wd (rc q)) nu rk dn rc bf RK DN RC := ⟨hRow, fun q hq r hr => hAB (rc q) (hrc q hq) r hr, hr20, fun j hj => (hru j hj).1⟩
  have hRB := RuB_of hCo hRu hrc
  refine lv_aload_n hx hb d_law_171 rfl (lv_at hl 1 rfl) ?_
  refine lv_aload_n hx hb d_law_172 rfl (lv_at hl 0 rfl) ?_
  refine lv_iload_n hx hb d_law_173 rfl (lv_at hl 3 rfl) ?_
  refine lv_iconst (v := nI 1) hx hb d_law_174 (by decide) ?_
  refine lv_iadd hx hb d_law_175 ?_
  refine xv_I (y := nI (7 * i + 1)) (nI_add _ _) ?_
  refine va_sld hx hb hXs hbl hbA hS (vp_in_nI (show (7 * i + 1) < Ls by omega) (by omega)) d_law_176 ?_
  refine xv_I (y := xs (7 * i + 1)) (congrArg xs (nI_clamp (by omega))) ?_
  refine lv_aload_n hx hb d_law_177 rfl (lv_at hl 0 rfl) ?_
  refine lv_iload_n hx hb d_law_178 rfl (lv_at hl 3 rfl) ?_
  refine lv_iconst (v := nI 2) hx hb d_law_179 (by decide) ?_
  refine lv_iadd hx hb d_law_180 ?_
  refine xv_I (y := nI (7 * i + 2)) (nI_add _ _) ?_
  refine va_sld hx hb hXs hbl hbA hS (vp_in_nI (show (7 * i + 2) < Ls by omega) (by omega)) d_law_181 ?_
  refine xv_I (y := xs (7 * i + 2)) (congrArg xs (nI_clamp (by omega))) ?_
  refine lv_aload_n hx hb d_law_182 rfl (lv_at hl 0 rfl) ?_
  refine lv_iload_n hx hb d_law_183 rfl (lv_at hl 3 rfl) ?_
  refine lv_iconst (v := nI 3) hx hb d_law_184 (by decide) ?_
  refine lv_iadd hx hb d_law_185 ?_
  refine xv_I (y := nI (7 * i + 3)) (nI_add _ _) ?_
  refine va_sld hx hb hXs hbl hbA hS (vp_in_nI (show (7 * i + 3) < Ls by omega) (by omega)) d_law_186 ?_
  refine xv_I (y := xs (7 * i + 3)) (congrArg xs (nI_clamp (by omega))) ?_
  refine lv_aload_n hx hb d_law_187 rfl (lv_at hl 0 rfl) ?_
  refine lv_iload_n hx hb d_law_188 rfl (lv_at hl 3 rfl) ?_
  refine lv_iconst (v := nI 4) hx hb d_law_189 (by decide) ?_
  refine lv_iadd hx hb d_law_190 ?_
  refine xv_I (y := nI (7 * i + 4)) (nI_add _ _) ?_
  refine va_sld hx hb hXs hbl hbA hS (vp_in_nI (show (7 * i + 4) < Ls by omega) (by omega)) d_law_191 ?_
  refine xv_I (y := xs (7 * i + 4)) (congrArg xs (nI_clamp (by omega))) ?_
  have hFc := am_free hD hS hA0
  refine va_calli (va_runV (As := [.int (xs (7 * i + 1)), .int (xs (7 * i + 2)), .int (xs (7 * i + 3)), .int (xs (7 * i + 4))]) (rest := []) ⟨hx, hb, hml, hown, hA⟩ (c_De_condition l G L f H.size (pl_nd hD) hx0 hCo (xs (7 * i + 1)) (xs (7 * i + 2)) (xs (7 * i + 3)) (xs (7 * i + 4))) ⟨callB_of 4 hA (gAW kw_254) rfl rfl rfl (hA _ kw_5) (hA _ kw_255) (by decide +kernel) ⟨Nat.le_of_ble_eq_true rfl, Nat.le_of_ble_eq_true rfl⟩, (hA _ kw_256), (hA _ kw_257)⟩ (pz_preV (ci := 4) hP hK hx0 rfl) rfl rfl hl.1 rfl (lv_room (Nat.le_of_ble_eq_true rfl)) d_law_192 ⟨lq_1 (by omega), lq_2 (by omega)⟩) hS (fun q _ h => hFc q h) hFc (fun r_1 u9 t9 H1 locs ht9 hvm hw hWB hz1 hk1 hS => ?_)
  obtain ⟨L_1, f_1⟩ := u9
  obtain ⟨hP, hD1⟩ := hWB
  rw [ht9] at hP
  have hD := va_Dw hD1 hFc
  clear hD1 hk1 hz1 hFc ht9 hvm
  generalize H1 = H at hP hS ⊢
  dsimp only at hP hD
  have hw1 := hw
  have hMo1 := hMo.km (km_condition (x0 := x0) (ca := ca) (cbb := cbb) (ccc := ccc) hCo hRu hw1)
  refine lv_aload_n hx hb d_law_195 rfl (lv_at hl 2 rfl) ?_
  refine lv_aload_n hx hb d_law_196 rfl (lv_at hl 0 rfl) ?_
  refine lv_iload_n hx hb d_law_197 rfl (lv_at hl 3 rfl) ?_
  refine lv_iconst (v := nI 1) hx hb d_law_198 (by decide) ?_
  refine lv_iadd hx hb d_law_199 ?_
  refine xv_I (y := nI (7 * i + 1)) (nI_add _ _) ?_
  refine va_sld hx hb hXs hbl hbA hS (vp_in_nI (show (7 * i + 1) < Ls by omega) (by omega)) d_law_200 ?_
  refine xv_I (y := xs (7 * i + 1)) (congrArg xs (nI_clamp (by omega))) ?_
  refine lv_aload_n hx hb d_law_201 rfl (lv_at hl 0 rfl) ?_
  refine lv_iload_n hx hb d_law_202 rfl (lv_at hl 3 rfl) ?_
  refine lv_iconst (v := nI 2) hx hb d_law_203 (by decide) ?_
  refine lv_iadd hx hb d_law_204 ?_
  refine xv_I (y := nI (7 * i + 2)) (nI_add _ _) ?_
  refine va_sld hx hb hXs hbl hbA hS (vp_in_nI (show (7 * i + 2) < Ls by omega) (by omega)) d_law_205 ?_
  refine xv_I (y := xs (7 * i + 2)) (congrArg xs (nI_clamp (by omega))) ?_
  refine lv_aload_n hx hb d_law_206 rfl (lv_at hl 0 rfl) ?_
  refine lv_iload_n hx hb d_law_207 rfl (lv_at hl 3 rfl) ?_
  refine lv_iconst (v := nI 3) hx hb d_law_208 (by decide) ?_
  refine lv_iadd hx hb d_law_209 ?_
  refine xv_I (y := nI (7 * i + 3)) (nI_add _ _) ?_
  refine va_sld hx hb hXs hbl hbA hS (vp_in_nI (show (7 * i + 3) < Ls by omega) (by omega)) d_law_210 ?_
  refine xv_I (y := xs (7 * i + 3)) (congrArg xs (nI_clamp (by omega))) ?_
  refine lv_aload_n hx hb d_law_211 rfl (lv_at hl 0 rfl) ?_
  refine lv_iload_n hx hb d_law_212 rfl (lv_at hl 3 rfl) ?_
  refine lv_iconst (v := nI 4) hx hb d_law_213 (by decide) ?_
  refine lv_iadd hx hb d_law_214 ?_
  refine xv_I (y := nI (7 * i + 4)) (nI_add _ _) ?_
  refine va_sld hx hb hXs hbl hbA hS (vp_in_nI (show (7 * i + 4) < Ls by omega) (by omega)) d_law_215 ?_
  refine xv_I (y := xs (7 * i + 4)) (congrArg xs (nI_clamp (by omega))) ?_
  have hFc := am_free hD hS hA0
  refine va_calli (va_runV (As := [.int (xs (7 * i + 1)), .int (xs (7 * i + 2)), .int (xs (7 * i + 3)), .int (xs (7 * i + 4))]) (rest := [.int r_1]) ⟨hx, hb, hml, hown, hA⟩ (c_Mo_condition l G L_1 f_1 H.size (pl_nd hD) hMo1 hG (xs (7 * i + 1)) (xs (7 * i + 2)) (xs (7 * i + 3)) (xs (7 * i + 4))) ⟨callB_of 4 hA (gAW kw_258) rfl rfl rfl (hA _ kw_172) (hA _ kw_259) (by decide +kernel) ⟨Nat.le_of_ble_eq_true rfl, Nat.le_of_ble_eq_true rfl⟩, (hA _ kw_260), (hA _ kw_261)⟩ (pz_preV (ci := 5) hP hK hMo1.2.2.1 rfl) rfl rfl hl.1 rfl (lv_room (Nat.le_of_ble_eq_true rfl)) d_law_216 ⟨lq_1 (by omega), lq_2 (by omega)⟩) hS (fun q _ h => hFc q h) hFc (fun r_2 u9 t9 H1 locs ht9 hvm hw hWB hz1 hk1 hS => ?_)
  obtain ⟨L_2, f_2⟩ := u9
  obtain ⟨hP, hD1⟩ := hWB
  rw [ht9] at hP
  have hD := va_Dw hD1 hFc
  clear hD1 hk1 hz1 hFc ht9 hvm
  generalize H1 = H at hP hS ⊢
  dsimp only at hP hD
  obtain ⟨hrr, hD9⟩ := st_condition hx0 hCo hRu hI1 hI2 hW hMo hG hBi hX hO hRow hru  hw1 hw
  refine lv_icmp_eq (tgt := 670) hx hb d_law_219 (by decide) (fun _ => ?_) (fun c9 => absurd hrr c9)
  refine W.widen (k := 18 + 2 * (i + 1)) (n := 18200 + 101 * (i + 1)) (by omega) (by omega) ?_
  exact kk H locs L_2 f_2 ls hP hD hS hD9 hl

set_option maxHeartbeats 4000000 in
set_option maxRecDepth 100000 in
theorem op_2 {p : Program} {l : Launch} {e : Env} {s : State} {m : MethodId} {below : List Frame} {meth : Method} {c : Code} {b Ls : Nat} {xs : Nat → Int32} (hL : Ls ≤ 3584) (C0 : lw_At p s m meth c b Ls xs) {G : GG} (hK : KK G s) {A : Nat → Prop} (hA0 : ∀ q, s.heap.size ≤ q → A q) (hbA : ¬ A b) {x0 mo i : Nat} (hi : 7 * i + 7 ≤ Ls) {L : List Nat} {f : Nat → va_E} {H : Heap} {locs : List Loc} {ls : Array Slot} (hP : va_P G.1 vwCl (va_pl L f) H) (hD : va_D A (va_pl L f)) (hS : va_S A s.heap H locs) (hDI : DI G L f x0 mo) (hl : lv_has ls 4 [(0, .ref b), (1, .ref x0), (2, .ref mo), (3, .int (nI (7 * i)))]) (kk : ∀ (H : Heap) (locs : List Loc) (L : List Nat) (f : Nat → va_E) (ls : Array Slot), va_P G.1 vwCl (va_pl L f) H → va_D A (va_pl L f) → va_S A s.heap H locs → DI G L f x0 mo → lv_has ls 4 [(0, .ref b), (1, .ref x0), (2, .ref mo), (3, .int (nI (7 * i)))] → W p l e room_1 s m #[Value.ref b] below meth c H locs (18 + 2 * (i + 1)) (18200 + 101 * (i + 1)) (lw_Z below #[Value.ref b] s) (F0 m 670 ls [])) : W p l e room_1 s m #[Value.ref b] below meth c H locs (18 + 2 * i) (18200 + 101 * i) (lw_Z below #[Value.ref b] s) (F0 m 224 ls []) := by
  obtain ⟨hx, hb, hr, hml, hown0, hts, hXs, hbl, hlocks, hgv⟩ := C0
  have hown : s.vm.findClass R_La = some m.cls := hown0
  have hA : ∀ w ∈ AW, w.before #[Value.ref b] s = true := fun w hw => hts w (List.mem_filter.mp hw).1
  obtain ⟨n, rn, kd, ka, kb, kc, ca, cbb, ccc, mm, nu, rk, dn, rc, RK, DN, RC, ⟨cb, rb, mA, gA, rA, ad, wa, wd, rad, hx0, hCo, hRu, hI1, hI2, hW⟩, ⟨g2, kA, fA, sA, tA, bA, r2A, dA, cA, eA, kn, gf, bf, xf, hMo, hG, hBi, hX⟩, hO, hRow, hru⟩ := hDI
  have hn60 := hMo.1
  have hr20 := hMo.2.1
  have hrc : ∀ q, q < rn → rc q < n := fun q hq => by
    have a := hRow.1 q hq
    rw [a.2.2.2]
    exact (hru _ a.1).2
  have hAB : ∀ j, j < n → ∀ q, q < 6144 → aB (wd j) q = mB bf j q := fun j hj q hq => (aB_hold hO hW hn60 hq (j + 1) j (by omega) hj).trans (BiI_hold hO hn60 hBi hq (j + 1) j (by omega) hj).symm
  have hT : Tie rn (fun q => wd (rc q)) nu rk dn rc bf RK DN RC := ⟨hRow, fun q hq r hr => hAB (rc q) (hrc q hq) r hr, hr20, fun j hj => (hru j hj).1⟩
  have hRB := RuB_of hCo hRu hrc
  refine lv_aload_n hx hb d_law_224 rfl (lv_at hl 1 rfl) ?_
  refine lv_aload_n hx hb d_law_225 rfl (lv_at hl 0 rfl) ?_
  refine lv_iload_n hx hb d_law_226 rfl (lv_at hl 3 rfl) ?_
  refine lv_iconst (v := nI 1) hx hb d_law_227 (by decide) ?_
  refine lv_iadd hx hb d_law_228 ?_
  refine xv_I (y := nI (7 * i + 1)) (nI_add _ _) ?_
  refine va_sld hx hb hXs hbl hbA hS (vp_in_nI (show (7 * i + 1) < Ls by omega) (by omega)) d_law_229 ?_
  refine xv_I (y := xs (7 * i + 1)) (congrArg xs (nI_clamp (by omega))) ?_
  refine lv_aload_n hx hb d_law_230 rfl (lv_at hl 0 rfl) ?_
  refine lv_iload_n hx hb d_law_231 rfl (lv_at hl 3 rfl) ?_
  refine lv_iconst (v := nI 2) hx hb d_law_232 (by decide) ?_
  refine lv_iadd hx hb d_law_233 ?_
  refine xv_I (y := nI (7 * i + 2)) (nI_add _ _) ?_
  refine va_sld hx hb hXs hbl hbA hS (vp_in_nI (show (7 * i + 2) < Ls by omega) (by omega)) d_law_234 ?_
  refine xv_I (y := xs (7 * i + 2)) (congrArg xs (nI_clamp (by omega))) ?_
  by_cases hz1 : xs (7 * i + 2) = 0
  · refine lv_if_eq (tgt := 242) hx hb d_law_235 (by decide) (fun _ => ?_) (fun c9 => absurd hz1 c9)
    refine lv_iconst (v := nI 0) hx hb d_law_242 (by decide) ?_
    refine xv_I (y := bI false) rfl ?_
    refine lv_aload_n hx hb d_law_243 rfl (lv_at hl 0 rfl) ?_
    refine lv_iload_n hx hb d_law_244 rfl (lv_at hl 3 rfl) ?_
    refine lv_iconst (v := nI 3) hx hb d_law_245 (by decide) ?_
    refine lv_iadd hx hb d_law_246 ?_
    refine xv_I (y := nI (7 * i + 3)) (nI_add _ _) ?_
    refine va_sld hx hb hXs hbl hbA hS (vp_in_nI (show (7 * i + 3) < Ls by omega) (by omega)) d_law_247 ?_
    refine xv_I (y := xs (7 * i + 3)) (congrArg xs (nI_clamp (by omega))) ?_
    have hFc := am_free hD hS hA0
    refine va_calli (va_runV (As := [.int (xs (7 * i + 1)), .int (bI false), .int (xs (7 * i + 3))]) (rest := []) ⟨hx, hb, hml, hown, hA⟩ (c_De_rule l G L f H.size (pl_nd hD) hx0 hCo hRu hrc (xs (7 * i + 1)) (xs (7 * i + 3)) false) ⟨callB_of 3 hA (gAW kw_262) rfl rfl rfl (hA _ kw_5) (hA _ kw_263) (by decide +kernel) ⟨Nat.le_of_ble_eq_true rfl, Nat.le_of_ble_eq_true rfl⟩, (hA _ kw_264), (hA _ kw_265)⟩ (pz_preV (ci := 4) hP hK hx0 rfl) rfl rfl hl.1 rfl (lv_room (Nat.le_of_ble_eq_true rfl)) d_law_248 ⟨lq_1 (by omega), lq_2 (by omega)⟩) hS (fun q _ h => hFc q h) hFc (fun r_1 u9 t9 H1 locs ht9 hvm hw hWB hz1 hk1 hS => ?_)
    obtain ⟨L_1, f_1⟩ := u9
    obtain ⟨hP, hD1⟩ := hWB
    rw [ht9] at hP
    have hD := va_Dw hD1 hFc
    clear hD1 hk1 hz1 hFc ht9 hvm
    generalize H1 = H at hP hS ⊢
    dsimp only at hP hD
    have hw1 := hw
    have hMo1 := hMo.km (km_rule (x0 := x0) (ca := ca) (cbb := cbb) (ccc := ccc) hCo hRu hw1)
    refine lv_aload_n hx hb d_law_251 rfl (lv_at hl 2 rfl) ?_
    refine lv_aload_n hx hb d_law_252 rfl (lv_at hl 0 rfl) ?_
    refine lv_iload_n hx hb d_law_253 rfl (lv_at hl 3 rfl) ?_
    refine lv_iconst (v := nI 1) hx hb d_law_254 (by decide) ?_
    refine lv_iadd hx hb d_law_255 ?_
    refine xv_I (y := nI (7 * i + 1)) (nI_add _ _) ?_
    refine va_sld hx hb hXs hbl hbA hS (vp_in_nI (show (7 * i + 1) < Ls by omega) (by omega)) d_law_256 ?_
    refine xv_I (y := xs (7 * i + 1)) (congrArg xs (nI_clamp (by omega))) ?_
    refine lv_aload_n hx hb d_law_257 rfl (lv_at hl 0 rfl) ?_
    refine lv_iload_n hx hb d_law_258 rfl (lv_at hl 3 rfl) ?_
    refine lv_iconst (v := nI 2) hx hb d_law_259 (by decide) ?_
    refine lv_iadd hx hb d_law_260 ?_
    refine xv_I (y := nI (7 * i + 2)) (nI_add _ _) ?_
    refine va_sld hx hb hXs hbl hbA hS (vp_in_nI (show (7 * i + 2) < Ls by omega) (by omega)) d_law_261 ?_
    refine xv_I (y := xs (7 * i + 2)) (congrArg xs (nI_clamp (by omega))) ?_
    refine lv_if_eq (tgt := 269) hx hb d_law_262 (by decide) (fun _ => ?_) (fun c9 => absurd hz1 c9)
    refine lv_iconst (v := nI 0) hx hb d_law_269 (by decide) ?_
    refine xv_I (y := bI false) rfl ?_
    refine lv_aload_n hx hb d_law_270 rfl (lv_at hl 0 rfl) ?_
    refine lv_iload_n hx hb d_law_271 rfl (lv_at hl 3 rfl) ?_
    refine lv_iconst (v := nI 3) hx hb d_law_272 (by decide) ?_
    refine lv_iadd hx hb d_law_273 ?_
    refine xv_I (y := nI (7 * i + 3)) (nI_add _ _) ?_
    refine va_sld hx hb hXs hbl hbA hS (vp_in_nI (show (7 * i + 3) < Ls by omega) (by omega)) d_law_274 ?_
    refine xv_I (y := xs (7 * i + 3)) (congrArg xs (nI_clamp (by omega))) ?_
    have hFc := am_free hD hS hA0
    refine va_calli (va_runV (As := [.int (xs (7 * i + 1)), .int (bI false), .int (xs (7 * i + 3))]) (rest := [.int r_1]) ⟨hx, hb, hml, hown, hA⟩ (c_Mo_rule l G L_1 f_1 H.size (pl_nd hD) hMo1 (xs (7 * i + 1)) (xs (7 * i + 3)) false) ⟨callB_of 3 hA (gAW kw_266) rfl rfl rfl (hA _ kw_172) (hA _ kw_267) (by decide +kernel) ⟨Nat.le_of_ble_eq_true rfl, Nat.le_of_ble_eq_true rfl⟩, (hA _ kw_268), (hA _ kw_269)⟩ (pz_preV (ci := 5) hP hK hMo1.2.2.1 rfl) rfl rfl hl.1 rfl (lv_room (Nat.le_of_ble_eq_true rfl)) d_law_275 ⟨lq_1 (by omega), lq_2 (by omega)⟩) hS (fun q _ h => hFc q h) hFc (fun r_2 u9 t9 H1 locs ht9 hvm hw hWB hz1 hk1 hS => ?_)
    obtain ⟨L_2, f_2⟩ := u9
    obtain ⟨hP, hD1⟩ := hWB
    rw [ht9] at hP
    have hD := va_Dw hD1 hFc
    clear hD1 hk1 hz1 hFc ht9 hvm
    generalize H1 = H at hP hS ⊢
    dsimp only at hP hD
    obtain ⟨hrr, hD9⟩ := st_rule hx0 hCo hRu hI1 hI2 hW hMo hG hBi hX hO hRow hru  hw1 hw
    refine lv_icmp_eq (tgt := 670) hx hb d_law_278 (by decide) (fun _ => ?_) (fun c9 => absurd hrr c9)
    refine W.widen (k := 18 + 2 * (i + 1)) (n := 18200 + 101 * (i + 1)) (by omega) (by omega) ?_
    exact kk H locs L_2 f_2 ls hP hD hS hD9 hl
  · refine lv_if_eq (tgt := 242) hx hb d_law_235 (by decide) (fun c9 => absurd c9 hz1) (fun _ => ?_)
    refine lv_iconst (v := nI 1) hx hb d_law_238 (by decide) ?_
    refine xv_I (y := bI true) rfl ?_
    refine lv_goto (tgt := 243) hx hb d_law_239 (by decide) ?_
    refine lv_aload_n hx hb d_law_243 rfl (lv_at hl 0 rfl) ?_
    refine lv_iload_n hx hb d_law_244 rfl (lv_at hl 3 rfl) ?_
    refine lv_iconst (v := nI 3) hx hb d_law_245 (by decide) ?_
    refine lv_iadd hx hb d_law_246 ?_
    refine xv_I (y := nI (7 * i + 3)) (nI_add _ _) ?_
    refine va_sld hx hb hXs hbl hbA hS (vp_in_nI (show (7 * i + 3) < Ls by omega) (by omega)) d_law_247 ?_
    refine xv_I (y := xs (7 * i + 3)) (congrArg xs (nI_clamp (by omega))) ?_
    have hFc := am_free hD hS hA0
    refine va_calli (va_runV (As := [.int (xs (7 * i + 1)), .int (bI true), .int (xs (7 * i + 3))]) (rest := []) ⟨hx, hb, hml, hown, hA⟩ (c_De_rule l G L f H.size (pl_nd hD) hx0 hCo hRu hrc (xs (7 * i + 1)) (xs (7 * i + 3)) true) ⟨callB_of 3 hA (gAW kw_262) rfl rfl rfl (hA _ kw_5) (hA _ kw_263) (by decide +kernel) ⟨Nat.le_of_ble_eq_true rfl, Nat.le_of_ble_eq_true rfl⟩, (hA _ kw_264), (hA _ kw_265)⟩ (pz_preV (ci := 4) hP hK hx0 rfl) rfl rfl hl.1 rfl (lv_room (Nat.le_of_ble_eq_true rfl)) d_law_248 ⟨lq_1 (by omega), lq_2 (by omega)⟩) hS (fun q _ h => hFc q h) hFc (fun r_3 u9 t9 H1 locs ht9 hvm hw hWB hz1 hk1 hS => ?_)
    obtain ⟨L_3, f_3⟩ := u9
    obtain ⟨hP, hD1⟩ := hWB
    rw [ht9] at hP
    have hD := va_Dw hD1 hFc
    clear hD1 hk1 hz1 hFc ht9 hvm
    generalize H1 = H at hP hS ⊢
    dsimp only at hP hD
    have hw1 := hw
    have hMo1 := hMo.km (km_rule (x0 := x0) (ca := ca) (cbb := cbb) (ccc := ccc) hCo hRu hw1)
    refine lv_aload_n hx hb d_law_251 rfl (lv_at hl 2 rfl) ?_
    refine lv_aload_n hx hb d_law_252 rfl (lv_at hl 0 rfl) ?_
    refine lv_iload_n hx hb d_law_253 rfl (lv_at hl 3 rfl) ?_
    refine lv_iconst (v := nI 1) hx hb d_law_254 (by decide) ?_
    refine lv_iadd hx hb d_law_255 ?_
    refine xv_I (y := nI (7 * i + 1)) (nI_add _ _) ?_
    refine va_sld hx hb hXs hbl hbA hS (vp_in_nI (show (7 * i + 1) < Ls by omega) (by omega)) d_law_256 ?_
    refine xv_I (y := xs (7 * i + 1)) (congrArg xs (nI_clamp (by omega))) ?_
    refine lv_aload_n hx hb d_law_257 rfl (lv_at hl 0 rfl) ?_
    refine lv_iload_n hx hb d_law_258 rfl (lv_at hl 3 rfl) ?_
    refine lv_iconst (v := nI 2) hx hb d_law_259 (by decide) ?_
    refine lv_iadd hx hb d_law_260 ?_
    refine xv_I (y := nI (7 * i + 2)) (nI_add _ _) ?_
    refine va_sld hx hb hXs hbl hbA hS (vp_in_nI (show (7 * i + 2) < Ls by omega) (by omega)) d_law_261 ?_
    refine xv_I (y := xs (7 * i + 2)) (congrArg xs (nI_clamp (by omega))) ?_
    refine lv_if_eq (tgt := 269) hx hb d_law_262 (by decide) (fun c9 => absurd c9 hz1) (fun _ => ?_)
    refine lv_iconst (v := nI 1) hx hb d_law_265 (by decide) ?_
    refine xv_I (y := bI true) rfl ?_
    refine lv_goto (tgt := 270) hx hb d_law_266 (by decide) ?_
    refine lv_aload_n hx hb d_law_270 rfl (lv_at hl 0 rfl) ?_
    refine lv_iload_n hx hb d_law_271 rfl (lv_at hl 3 rfl) ?_
    refine lv_iconst (v := nI 3) hx hb d_law_272 (by decide) ?_
    refine lv_iadd hx hb d_law_273 ?_
    refine xv_I (y := nI (7 * i + 3)) (nI_add _ _) ?_
    refine va_sld hx hb hXs hbl hbA hS (vp_in_nI (show (7 * i + 3) < Ls by omega) (by omega)) d_law_274 ?_
    refine xv_I (y := xs (7 * i + 3)) (congrArg xs (nI_clamp (by omega))) ?_
    have hFc := am_free hD hS hA0
    refine va_calli (va_runV (As := [.int (xs (7 * i + 1)), .int (bI true), .int (xs (7 * i + 3))]) (rest := [.int r_3]) ⟨hx, hb, hml, hown, hA⟩ (c_Mo_rule l G L_3 f_3 H.size (pl_nd hD) hMo1 (xs (7 * i + 1)) (xs (7 * i + 3)) true) ⟨callB_of 3 hA (gAW kw_266) rfl rfl rfl (hA _ kw_172) (hA _ kw_267) (by decide +kernel) ⟨Nat.le_of_ble_eq_true rfl, Nat.le_of_ble_eq_true rfl⟩, (hA _ kw_268), (hA _ kw_269)⟩ (pz_preV (ci := 5) hP hK hMo1.2.2.1 rfl) rfl rfl hl.1 rfl (lv_room (Nat.le_of_ble_eq_true rfl)) d_law_275 ⟨lq_1 (by omega), lq_2 (by omega)⟩) hS (fun q _ h => hFc q h) hFc (fun r_4 u9 t9 H1 locs ht9 hvm hw hWB hz1 hk1 hS => ?_)
    obtain ⟨L_4, f_4⟩ := u9
    obtain ⟨hP, hD1⟩ := hWB
    rw [ht9] at hP
    have hD := va_Dw hD1 hFc
    clear hD1 hk1 hz1 hFc ht9 hvm
    generalize H1 = H at hP hS ⊢
    dsimp only at hP hD
    obtain ⟨hrr, hD9⟩ := st_rule hx0 hCo hRu hI1 hI2 hW hMo hG hBi hX hO hRow hru  hw1 hw
    refine lv_icmp_eq (tgt := 670) hx hb d_law_278 (by decide) (fun _ => ?_) (fun c9 => absurd hrr c9)
    refine W.widen (k := 18 + 2 * (i + 1)) (n := 18200 + 101 * (i + 1)) (by omega) (by omega) ?_
    exact kk H locs L_4 f_4 ls hP hD hS hD9 hl

set_option maxHeartbeats 4000000 in
set_option maxRecDepth 100000 in
theorem op_3 {p : Program} {l : Launch} {e : Env} {s : State} {m : MethodId} {below : List Frame} {meth : Method} {c : Code} {b Ls : Nat} {xs : Nat → Int32} (hL : Ls ≤ 3584) (C0 : lw_At p s m meth c b Ls xs) {G : GG} (hK : KK G s) {A : Nat → Prop} (hA0 : ∀ q, s.heap.size ≤ q → A q) (hbA : ¬ A b) {x0 mo i : Nat} (hi : 7 * i + 7 ≤ Ls) {L : List Nat} {f : Nat → va_E} {H : Heap} {locs : List Loc} {ls : Array Slot} (hP : va_P G.1 vwCl (va_pl L f) H) (hD : va_D A (va_pl L f)) (hS : va_S A s.heap H locs) (hDI : DI G L f x0 mo) (hl : lv_has ls 4 [(0, .ref b), (1, .ref x0), (2, .ref mo), (3, .int (nI (7 * i)))]) (kk : ∀ (H : Heap) (locs : List Loc) (L : List Nat) (f : Nat → va_E) (ls : Array Slot), va_P G.1 vwCl (va_pl L f) H → va_D A (va_pl L f) → va_S A s.heap H locs → DI G L f x0 mo → lv_has ls 4 [(0, .ref b), (1, .ref x0), (2, .ref mo), (3, .int (nI (7 * i)))] → W p l e room_1 s m #[Value.ref b] below meth c H locs (18 + 2 * (i + 1)) (18200 + 101 * (i + 1)) (lw_Z below #[Value.ref b] s) (F0 m 670 ls [])) : W p l e room_1 s m #[Value.ref b] below meth c H locs (18 + 2 * i) (18200 + 101 * i) (lw_Z below #[Value.ref b] s) (F0 m 283 ls []) := by
  obtain ⟨hx, hb, hr, hml, hown0, hts, hXs, hbl, hlocks, hgv⟩ := C0
  have hown : s.vm.findClass R_La = some m.cls := hown0
  have hA : ∀ w ∈ AW, w.before #[Value.ref b] s = true := fun w hw => hts w (List.mem_filter.mp hw).1
  obtain ⟨n, rn, kd, ka, kb, kc, ca, cbb, ccc, mm, nu, rk, dn, rc, RK, DN, RC, ⟨cb, rb, mA, gA, rA, ad, wa, wd, rad, hx0, hCo, hRu, hI1, hI2, hW⟩, ⟨g2, kA, fA, sA, tA, bA, r2A, dA, cA, eA, kn, gf, bf, xf, hMo, hG, hBi, hX⟩, hO, hRow, hru⟩ := hDI
  have hn60 := hMo.1
  have hr20 := hMo.2.1
  have hrc : ∀ q, q < rn → rc q < n := fun q hq => by
    have a := hRow.1 q hq
    rw [a.2.2.2]
    exact (hru _ a.1).2
  have hAB : ∀ j, j < n → ∀ q, q < 6144 → aB (wd j) q = mB bf j q := fun j hj q hq => (aB_hold hO hW hn60 hq (j + 1) j (by omega) hj).trans (BiI_hold hO hn60 hBi hq (j + 1) j (by omega) hj).symm
  have hT : Tie rn (fun q => wd (rc q)) nu rk dn rc bf RK DN RC := ⟨hRow, fun q hq r hr => hAB (rc q) (hrc q hq) r hr, hr20, fun j hj => (hru j hj).1⟩
  have hRB := RuB_of hCo hRu hrc
  refine lv_aload_n hx hb d_law_283 rfl (lv_at hl 1 rfl) ?_
  refine lv_aload_n hx hb d_law_284 rfl (lv_at hl 0 rfl) ?_
  refine lv_iload_n hx hb d_law_285 rfl (lv_at hl 3 rfl) ?_
  refine lv_iconst (v := nI 1) hx hb d_law_286 (by decide) ?_
  refine lv_iadd hx hb d_law_287 ?_
  refine xv_I (y := nI (7 * i + 1)) (nI_add _ _) ?_
  refine va_sld hx hb hXs hbl hbA hS (vp_in_nI (show (7 * i + 1) < Ls by omega) (by omega)) d_law_288 ?_
  refine xv_I (y := xs (7 * i + 1)) (congrArg xs (nI_clamp (by omega))) ?_
  have hFc := am_free hD hS hA0
  refine va_calli (va_runV (As := [.int (xs (7 * i + 1))]) (rest := []) ⟨hx, hb, hml, hown, hA⟩ (c_De_drop l G L f H.size (pl_nd hD) hx0 hCo hRu hrc hI2 (xs (7 * i + 1))) ⟨callB_of 1 hA (gAW kw_270) rfl rfl rfl (hA _ kw_5) (hA _ kw_271) (by decide +kernel) ⟨Nat.le_of_ble_eq_true rfl, Nat.le_of_ble_eq_true rfl⟩, (hA _ kw_272), (hA _ kw_273)⟩ (pz_preV (ci := 4) hP hK hx0 rfl) rfl rfl hl.1 rfl (lv_room (Nat.le_of_ble_eq_true rfl)) d_law_289 ⟨lq_1 (by omega), lq_2 (by omega)⟩) hS (fun q _ h => hFc q h) hFc (fun r_1 u9 t9 H1 locs ht9 hvm hw hWB hz1 hk1 hS => ?_)
  obtain ⟨L_1, f_1⟩ := u9
  obtain ⟨hP, hD1⟩ := hWB
  rw [ht9] at hP
  have hD := va_Dw hD1 hFc
  clear hD1 hk1 hz1 hFc ht9 hvm
  generalize H1 = H at hP hS ⊢
  dsimp only at hP hD
  have hw1 := hw
  have hMo1 := hMo.km (km_drop (x0 := x0) (ca := ca) (cbb := cbb) (ccc := ccc) hCo hRu hw1)
  refine lv_aload_n hx hb d_law_292 rfl (lv_at hl 2 rfl) ?_
  refine lv_aload_n hx hb d_law_293 rfl (lv_at hl 0 rfl) ?_
  refine lv_iload_n hx hb d_law_294 rfl (lv_at hl 3 rfl) ?_
  refine lv_iconst (v := nI 1) hx hb d_law_295 (by decide) ?_
  refine lv_iadd hx hb d_law_296 ?_
  refine xv_I (y := nI (7 * i + 1)) (nI_add _ _) ?_
  refine va_sld hx hb hXs hbl hbA hS (vp_in_nI (show (7 * i + 1) < Ls by omega) (by omega)) d_law_297 ?_
  refine xv_I (y := xs (7 * i + 1)) (congrArg xs (nI_clamp (by omega))) ?_
  have hFc := am_free hD hS hA0
  refine va_calli (va_runV (As := [.int (xs (7 * i + 1))]) (rest := [.int r_1]) ⟨hx, hb, hml, hown, hA⟩ (c_Mo_drop l G L_1 f_1 H.size (pl_nd hD) hMo1 (xs (7 * i + 1))) ⟨callB_of 1 hA (gAW kw_274) rfl rfl rfl (hA _ kw_172) (hA _ kw_275) (by decide +kernel) ⟨Nat.le_of_ble_eq_true rfl, Nat.le_of_ble_eq_true rfl⟩, (hA _ kw_276), (hA _ kw_277)⟩ (pz_preV (ci := 5) hP hK hMo1.2.2.1 rfl) rfl rfl hl.1 rfl (lv_room (Nat.le_of_ble_eq_true rfl)) d_law_298 ⟨lq_1 (by omega), lq_2 (by omega)⟩) hS (fun q _ h => hFc q h) hFc (fun r_2 u9 t9 H1 locs ht9 hvm hw hWB hz1 hk1 hS => ?_)
  obtain ⟨L_2, f_2⟩ := u9
  obtain ⟨hP, hD1⟩ := hWB
  rw [ht9] at hP
  have hD := va_Dw hD1 hFc
  clear hD1 hk1 hz1 hFc ht9 hvm
  generalize H1 = H at hP hS ⊢
  dsimp only at hP hD
  obtain ⟨hrr, hD9⟩ := st_drop hx0 hCo hRu hI1 hI2 hW hMo hG hBi hX hO hRow hru hT hw1 hw
  refine lv_icmp_eq (tgt := 670) hx hb d_law_301 (by decide) (fun _ => ?_) (fun c9 => absurd hrr c9)
  refine W.widen (k := 18 + 2 * (i + 1)) (n := 18200 + 101 * (i + 1)) (by omega) (by omega) ?_
  exact kk H locs L_2 f_2 ls hP hD hS hD9 hl

set_option maxHeartbeats 4000000 in
set_option maxRecDepth 100000 in
theorem op_4 {p : Program} {l : Launch} {e : Env} {s : State} {m : MethodId} {below : List Frame} {meth : Method} {c : Code} {b Ls : Nat} {xs : Nat → Int32} (hL : Ls ≤ 3584) (C0 : lw_At p s m meth c b Ls xs) {G : GG} (hK : KK G s) {A : Nat → Prop} (hA0 : ∀ q, s.heap.size ≤ q → A q) (hbA : ¬ A b) {x0 mo i : Nat} (hi : 7 * i + 7 ≤ Ls) {L : List Nat} {f : Nat → va_E} {H : Heap} {locs : List Loc} {ls : Array Slot} (hP : va_P G.1 vwCl (va_pl L f) H) (hD : va_D A (va_pl L f)) (hS : va_S A s.heap H locs) (hDI : DI G L f x0 mo) (hl : lv_has ls 4 [(0, .ref b), (1, .ref x0), (2, .ref mo), (3, .int (nI (7 * i)))]) (kk : ∀ (H : Heap) (locs : List Loc) (L : List Nat) (f : Nat → va_E) (ls : Array Slot), va_P G.1 vwCl (va_pl L f) H → va_D A (va_pl L f) → va_S A s.heap H locs → DI G L f x0 mo → lv_has ls 4 [(0, .ref b), (1, .ref x0), (2, .ref mo), (3, .int (nI (7 * i)))] → W p l e room_1 s m #[Value.ref b] below meth c H locs (18 + 2 * (i + 1)) (18200 + 101 * (i + 1)) (lw_Z below #[Value.ref b] s) (F0 m 670 ls [])) : W p l e room_1 s m #[Value.ref b] below meth c H locs (18 + 2 * i) (18200 + 101 * i) (lw_Z below #[Value.ref b] s) (F0 m 306 ls []) := by
  obtain ⟨hx, hb, hr, hml, hown0, hts, hXs, hbl, hlocks, hgv⟩ := C0
  have hown : s.vm.findClass R_La = some m.cls := hown0
  have hA : ∀ w ∈ AW, w.before #[Value.ref b] s = true := fun w hw => hts w (List.mem_filter.mp hw).1
  obtain ⟨n, rn, kd, ka, kb, kc, ca, cbb, ccc, mm, nu, rk, dn, rc, RK, DN, RC, ⟨cb, rb, mA, gA, rA, ad, wa, wd, rad, hx0, hCo, hRu, hI1, hI2, hW⟩, ⟨g2, kA, fA, sA, tA, bA, r2A, dA, cA, eA, kn, gf, bf, xf, hMo, hG, hBi, hX⟩, hO, hRow, hru⟩ := hDI
  have hn60 := hMo.1
  have hr20 := hMo.2.1
  have hrc : ∀ q, q < rn → rc q < n := fun q hq => by
    have a := hRow.1 q hq
    rw [a.2.2.2]
    exact (hru _ a.1).2
  have hAB : ∀ j, j < n → ∀ q, q < 6144 → aB (wd j) q = mB bf j q := fun j hj q hq => (aB_hold hO hW hn60 hq (j + 1) j (by omega) hj).trans (BiI_hold hO hn60 hBi hq (j + 1) j (by omega) hj).symm
  have hT : Tie rn (fun q => wd (rc q)) nu rk dn rc bf RK DN RC := ⟨hRow, fun q hq r hr => hAB (rc q) (hrc q hq) r hr, hr20, fun j hj => (hru j hj).1⟩
  have hRB := RuB_of hCo hRu hrc
  refine lv_aload_n hx hb d_law_306 rfl (lv_at hl 1 rfl) ?_
  refine lv_aload_n hx hb d_law_307 rfl (lv_at hl 0 rfl) ?_
  refine lv_iload_n hx hb d_law_308 rfl (lv_at hl 3 rfl) ?_
  refine lv_iconst (v := nI 1) hx hb d_law_309 (by decide) ?_
  refine lv_iadd hx hb d_law_310 ?_
  refine xv_I (y := nI (7 * i + 1)) (nI_add _ _) ?_
  refine va_sld hx hb hXs hbl hbA hS (vp_in_nI (show (7 * i + 1) < Ls by omega) (by omega)) d_law_311 ?_
  refine xv_I (y := xs (7 * i + 1)) (congrArg xs (nI_clamp (by omega))) ?_
  refine lv_aload_n hx hb d_law_312 rfl (lv_at hl 0 rfl) ?_
  refine lv_iload_n hx hb d_law_313 rfl (lv_at hl 3 rfl) ?_
  refine lv_iconst (v := nI 2) hx hb d_law_314 (by decide) ?_
  refine lv_iadd hx hb d_law_315 ?_
  refine xv_I (y := nI (7 * i + 2)) (nI_add _ _) ?_
  refine va_sld hx hb hXs hbl hbA hS (vp_in_nI (show (7 * i + 2) < Ls by omega) (by omega)) d_law_316 ?_
  refine xv_I (y := xs (7 * i + 2)) (congrArg xs (nI_clamp (by omega))) ?_
  refine lv_aload_n hx hb d_law_317 rfl (lv_at hl 0 rfl) ?_
  refine lv_iload_n hx hb d_law_318 rfl (lv_at hl 3 rfl) ?_
  refine lv_iconst (v := nI 3) hx hb d_law_319 (by decide) ?_
  refine lv_iadd hx hb d_law_320 ?_
  refine xv_I (y := nI (7 * i + 3)) (nI_add _ _) ?_
  refine va_sld hx hb hXs hbl hbA hS (vp_in_nI (show (7 * i + 3) < Ls by omega) (by omega)) d_law_321 ?_
  refine xv_I (y := xs (7 * i + 3)) (congrArg xs (nI_clamp (by omega))) ?_
  refine lv_aload_n hx hb d_law_322 rfl (lv_at hl 0 rfl) ?_
  refine lv_iload_n hx hb d_law_323 rfl (lv_at hl 3 rfl) ?_
  refine lv_iconst (v := nI 4) hx hb d_law_324 (by decide) ?_
  refine lv_iadd hx hb d_law_325 ?_
  refine xv_I (y := nI (7 * i + 4)) (nI_add _ _) ?_
  refine va_sld hx hb hXs hbl hbA hS (vp_in_nI (show (7 * i + 4) < Ls by omega) (by omega)) d_law_326 ?_
  refine xv_I (y := xs (7 * i + 4)) (congrArg xs (nI_clamp (by omega))) ?_
  refine lv_aload_n hx hb d_law_327 rfl (lv_at hl 0 rfl) ?_
  refine lv_iload_n hx hb d_law_328 rfl (lv_at hl 3 rfl) ?_
  refine lv_iconst (v := nI 5) hx hb d_law_329 (by decide) ?_
  refine lv_iadd hx hb d_law_330 ?_
  refine xv_I (y := nI (7 * i + 5)) (nI_add _ _) ?_
  refine va_sld hx hb hXs hbl hbA hS (vp_in_nI (show (7 * i + 5) < Ls by omega) (by omega)) d_law_331 ?_
  refine xv_I (y := xs (7 * i + 5)) (congrArg xs (nI_clamp (by omega))) ?_
  refine lv_aload_n hx hb d_law_332 rfl (lv_at hl 0 rfl) ?_
  refine lv_iload_n hx hb d_law_333 rfl (lv_at hl 3 rfl) ?_
  refine lv_bipush (v := nI 6) hx hb d_law_334 (by decide) ?_
  refine lv_iadd hx hb d_law_336 ?_
  refine xv_I (y := nI (7 * i + 6)) (nI_add _ _) ?_
  refine va_sld hx hb hXs hbl hbA hS (vp_in_nI (show (7 * i + 6) < Ls by omega) (by omega)) d_law_337 ?_
  refine xv_I (y := xs (7 * i + 6)) (congrArg xs (nI_clamp (by omega))) ?_
  refine vp_callSi (va_Run.run (va_runV (As := [.int (xs (7 * i + 1)), .int (xs (7 * i + 2)), .int (xs (7 * i + 3)), .int (xs (7 * i + 4)), .int (xs (7 * i + 5)), .int (xs (7 * i + 6))]) (rest := []) ⟨hx, hb, hml, hown, hA⟩ (c_De_may l G L f hx0 hRB (xs (7 * i + 1)) (xs (7 * i + 2)) (xs (7 * i + 3)) (xs (7 * i + 4)) (xs (7 * i + 5)) (xs (7 * i + 6))) ⟨callB_of 6 hA (gAW kw_278) rfl rfl rfl (hA _ kw_5) (hA _ kw_279) (by decide +kernel) ⟨Nat.le_of_ble_eq_true rfl, Nat.le_of_ble_eq_true rfl⟩, (hA _ kw_280), (hA _ kw_281)⟩ (pw_preV (ci := 4) hP hK hx0 rfl) rfl rfl hl.1 rfl (lv_room (Nat.le_of_ble_eq_true rfl)) d_law_338 ⟨lq_1 (by omega), lq_2 (by omega)⟩)) (fun r_1 e_2 => ?_)
  subst e_2
  refine lv_aload_n hx hb d_law_341 rfl (lv_at hl 2 rfl) ?_
  refine lv_aload_n hx hb d_law_342 rfl (lv_at hl 0 rfl) ?_
  refine lv_iload_n hx hb d_law_343 rfl (lv_at hl 3 rfl) ?_
  refine lv_iconst (v := nI 1) hx hb d_law_344 (by decide) ?_
  refine lv_iadd hx hb d_law_345 ?_
  refine xv_I (y := nI (7 * i + 1)) (nI_add _ _) ?_
  refine va_sld hx hb hXs hbl hbA hS (vp_in_nI (show (7 * i + 1) < Ls by omega) (by omega)) d_law_346 ?_
  refine xv_I (y := xs (7 * i + 1)) (congrArg xs (nI_clamp (by omega))) ?_
  refine lv_aload_n hx hb d_law_347 rfl (lv_at hl 0 rfl) ?_
  refine lv_iload_n hx hb d_law_348 rfl (lv_at hl 3 rfl) ?_
  refine lv_iconst (v := nI 2) hx hb d_law_349 (by decide) ?_
  refine lv_iadd hx hb d_law_350 ?_
  refine xv_I (y := nI (7 * i + 2)) (nI_add _ _) ?_
  refine va_sld hx hb hXs hbl hbA hS (vp_in_nI (show (7 * i + 2) < Ls by omega) (by omega)) d_law_351 ?_
  refine xv_I (y := xs (7 * i + 2)) (congrArg xs (nI_clamp (by omega))) ?_
  refine lv_aload_n hx hb d_law_352 rfl (lv_at hl 0 rfl) ?_
  refine lv_iload_n hx hb d_law_353 rfl (lv_at hl 3 rfl) ?_
  refine lv_iconst (v := nI 3) hx hb d_law_354 (by decide) ?_
  refine lv_iadd hx hb d_law_355 ?_
  refine xv_I (y := nI (7 * i + 3)) (nI_add _ _) ?_
  refine va_sld hx hb hXs hbl hbA hS (vp_in_nI (show (7 * i + 3) < Ls by omega) (by omega)) d_law_356 ?_
  refine xv_I (y := xs (7 * i + 3)) (congrArg xs (nI_clamp (by omega))) ?_
  refine lv_aload_n hx hb d_law_357 rfl (lv_at hl 0 rfl) ?_
  refine lv_iload_n hx hb d_law_358 rfl (lv_at hl 3 rfl) ?_
  refine lv_iconst (v := nI 4) hx hb d_law_359 (by decide) ?_
  refine lv_iadd hx hb d_law_360 ?_
  refine xv_I (y := nI (7 * i + 4)) (nI_add _ _) ?_
  refine va_sld hx hb hXs hbl hbA hS (vp_in_nI (show (7 * i + 4) < Ls by omega) (by omega)) d_law_361 ?_
  refine xv_I (y := xs (7 * i + 4)) (congrArg xs (nI_clamp (by omega))) ?_
  refine lv_aload_n hx hb d_law_362 rfl (lv_at hl 0 rfl) ?_
  refine lv_iload_n hx hb d_law_363 rfl (lv_at hl 3 rfl) ?_
  refine lv_iconst (v := nI 5) hx hb d_law_364 (by decide) ?_
  refine lv_iadd hx hb d_law_365 ?_
  refine xv_I (y := nI (7 * i + 5)) (nI_add _ _) ?_
  refine va_sld hx hb hXs hbl hbA hS (vp_in_nI (show (7 * i + 5) < Ls by omega) (by omega)) d_law_366 ?_
  refine xv_I (y := xs (7 * i + 5)) (congrArg xs (nI_clamp (by omega))) ?_
  refine lv_aload_n hx hb d_law_367 rfl (lv_at hl 0 rfl) ?_
  refine lv_iload_n hx hb d_law_368 rfl (lv_at hl 3 rfl) ?_
  refine lv_bipush (v := nI 6) hx hb d_law_369 (by decide) ?_
  refine lv_iadd hx hb d_law_371 ?_
  refine xv_I (y := nI (7 * i + 6)) (nI_add _ _) ?_
  refine va_sld hx hb hXs hbl hbA hS (vp_in_nI (show (7 * i + 6) < Ls by omega) (by omega)) d_law_372 ?_
  refine xv_I (y := xs (7 * i + 6)) (congrArg xs (nI_clamp (by omega))) ?_
  have hFc := am_free hD hS hA0
  refine va_calli (va_runV (As := [.int (xs (7 * i + 1)), .int (xs (7 * i + 2)), .int (xs (7 * i + 3)), .int (xs (7 * i + 4)), .int (xs (7 * i + 5)), .int (xs (7 * i + 6))]) (rest := [.int (onR (fun u => onR (fun gr => onR (fun pr => onR (fun kl => onR (fun v => onR (fun wh => mayR nu dn wh (fst0 (hit (fun q => wd (rc q)) (aNo u gr pr kl v)) rn 0)) (inN 2 (xs (7 * i + 6)))) (inN 8 (xs (7 * i + 5)))) (inN 4 (xs (7 * i + 4)))) (inN 6 (xs (7 * i + 3)))) (inN 4 (xs (7 * i + 2)))) (inN 8 (xs (7 * i + 1))))]) ⟨hx, hb, hml, hown, hA⟩ (c_Mo_may l G L f H.size (pl_nd hD) hMo hru hX (xs (7 * i + 1)) (xs (7 * i + 2)) (xs (7 * i + 3)) (xs (7 * i + 4)) (xs (7 * i + 5)) (xs (7 * i + 6))) ⟨callB_of 6 hA (gAW kw_282) rfl rfl rfl (hA _ kw_172) (hA _ kw_283) (by decide +kernel) ⟨Nat.le_of_ble_eq_true rfl, Nat.le_of_ble_eq_true rfl⟩, (hA _ kw_284), (hA _ kw_285)⟩ (pz_preV (ci := 5) hP hK hMo.2.2.1 rfl) rfl rfl hl.1 rfl (lv_room (Nat.le_of_ble_eq_true rfl)) d_law_373 ⟨lq_1 (by omega), lq_2 (by omega)⟩) hS (fun q _ h => hFc q h) hFc (fun r_3 u9 t9 H1 locs ht9 hvm hw hWB hz1 hk1 hS => ?_)
  obtain ⟨L_1, f_1⟩ := u9
  obtain ⟨hP, hD1⟩ := hWB
  rw [ht9] at hP
  have hD := va_Dw hD1 hFc
  clear hD1 hk1 hz1 hFc ht9 hvm
  generalize H1 = H at hP hS ⊢
  dsimp only at hP hD
  obtain ⟨hr2, hz1, hk1, kn9, xf9, hB9, hX9⟩ := hw
  dsimp only at hz1 hB9
  replace hz1 := hz1.symm
  subst hz1
  refine lv_icmp_eq (tgt := 670) hx hb d_law_376 (by decide) (fun _ => ?_) (fun c9 => absurd ((tie_may hT (xs (7 * i + 1)) (xs (7 * i + 2)) (xs (7 * i + 3)) (xs (7 * i + 4)) (xs (7 * i + 5)) (xs (7 * i + 6))).trans hr2.symm) c9)
  refine W.widen (k := 18 + 2 * (i + 1)) (n := 18200 + 101 * (i + 1)) (by omega) (by omega) ?_
  exact kk H locs L f_1 ls hP hD hS (⟨n, rn, kd, ka, kb, kc, ca, cbb, ccc, mm, nu, rk, dn, rc, RK, DN, RC, ClI.kc (L := L) (f := f) ⟨cb, rb, mA, gA, rA, ad, wa, wd, rad, hx0, hCo, hRu, hI1, hI2, hW⟩ (KC.of hk1), ⟨g2, kA, fA, sA, tA, bA, r2A, dA, cA, eA, kn9, gf, bf, xf9, hB9, hG, hBi, hX9⟩, hO, hRow, hru⟩) hl

set_option maxHeartbeats 4000000 in
set_option maxRecDepth 100000 in
theorem op_5 {p : Program} {l : Launch} {e : Env} {s : State} {m : MethodId} {below : List Frame} {meth : Method} {c : Code} {b Ls : Nat} {xs : Nat → Int32} (hL : Ls ≤ 3584) (C0 : lw_At p s m meth c b Ls xs) {G : GG} (hK : KK G s) {A : Nat → Prop} (hA0 : ∀ q, s.heap.size ≤ q → A q) (hbA : ¬ A b) {x0 mo i : Nat} (hi : 7 * i + 7 ≤ Ls) {L : List Nat} {f : Nat → va_E} {H : Heap} {locs : List Loc} {ls : Array Slot} (hP : va_P G.1 vwCl (va_pl L f) H) (hD : va_D A (va_pl L f)) (hS : va_S A s.heap H locs) (hDI : DI G L f x0 mo) (hl : lv_has ls 4 [(0, .ref b), (1, .ref x0), (2, .ref mo), (3, .int (nI (7 * i)))]) (kk : ∀ (H : Heap) (locs : List Loc) (L : List Nat) (f : Nat → va_E) (ls : Array Slot), va_P G.1 vwCl (va_pl L f) H → va_D A (va_pl L f) → va_S A s.heap H locs → DI G L f x0 mo → lv_has ls 4 [(0, .ref b), (1, .ref x0), (2, .ref mo), (3, .int (nI (7 * i)))] → W p l e room_1 s m #[Value.ref b] below meth c H locs (18 + 2 * (i + 1)) (18200 + 101 * (i + 1)) (lw_Z below #[Value.ref b] s) (F0 m 670 ls [])) : W p l e room_1 s m #[Value.ref b] below meth c H locs (18 + 2 * i) (18200 + 101 * i) (lw_Z below #[Value.ref b] s) (F0 m 381 ls []) := by
  obtain ⟨hx, hb, hr, hml, hown0, hts, hXs, hbl, hlocks, hgv⟩ := C0
  have hown : s.vm.findClass R_La = some m.cls := hown0
  have hA : ∀ w ∈ AW, w.before #[Value.ref b] s = true := fun w hw => hts w (List.mem_filter.mp hw).1
  obtain ⟨n, rn, kd, ka, kb, kc, ca, cbb, ccc, mm, nu, rk, dn, rc, RK, DN, RC, ⟨cb, rb, mA, gA, rA, ad, wa, wd, rad, hx0, hCo, hRu, hI1, hI2, hW⟩, ⟨g2, kA, fA, sA, tA, bA, r2A, dA, cA, eA, kn, gf, bf, xf, hMo, hG, hBi, hX⟩, hO, hRow, hru⟩ := hDI
  have hn60 := hMo.1
  have hr20 := hMo.2.1
  have hrc : ∀ q, q < rn → rc q < n := fun q hq => by
    have a := hRow.1 q hq
    rw [a.2.2.2]
    exact (hru _ a.1).2
  have hAB : ∀ j, j < n → ∀ q, q < 6144 → aB (wd j) q = mB bf j q := fun j hj q hq => (aB_hold hO hW hn60 hq (j + 1) j (by omega) hj).trans (BiI_hold hO hn60 hBi hq (j + 1) j (by omega) hj).symm
  have hT : Tie rn (fun q => wd (rc q)) nu rk dn rc bf RK DN RC := ⟨hRow, fun q hq r hr => hAB (rc q) (hrc q hq) r hr, hr20, fun j hj => (hru j hj).1⟩
  have hRB := RuB_of hCo hRu hrc
  refine lv_aload_n hx hb d_law_381 rfl (lv_at hl 1 rfl) ?_
  refine lv_aload_n hx hb d_law_382 rfl (lv_at hl 0 rfl) ?_
  refine lv_iload_n hx hb d_law_383 rfl (lv_at hl 3 rfl) ?_
  refine lv_iconst (v := nI 1) hx hb d_law_384 (by decide) ?_
  refine lv_iadd hx hb d_law_385 ?_
  refine xv_I (y := nI (7 * i + 1)) (nI_add _ _) ?_
  refine va_sld hx hb hXs hbl hbA hS (vp_in_nI (show (7 * i + 1) < Ls by omega) (by omega)) d_law_386 ?_
  refine xv_I (y := xs (7 * i + 1)) (congrArg xs (nI_clamp (by omega))) ?_
  refine vp_callSi (va_Run.run (va_runV (As := [.int (xs (7 * i + 1))]) (rest := []) ⟨hx, hb, hml, hown, hA⟩ (c_De_asks l G L f hx0 hCo (xs (7 * i + 1))) ⟨callB_of 1 hA (gAW kw_286) rfl rfl rfl (hA _ kw_5) (hA _ kw_287) (by decide +kernel) ⟨Nat.le_of_ble_eq_true rfl, Nat.le_of_ble_eq_true rfl⟩, (hA _ kw_288), (hA _ kw_289)⟩ (pw_preV (ci := 4) hP hK hx0 rfl) rfl rfl hl.1 rfl (lv_room (Nat.le_of_ble_eq_true rfl)) d_law_387 ⟨lq_1 (by omega), lq_2 (by omega)⟩)) (fun r_1 e_2 => ?_)
  subst e_2
  refine lv_aload_n hx hb d_law_390 rfl (lv_at hl 2 rfl) ?_
  refine lv_aload_n hx hb d_law_391 rfl (lv_at hl 0 rfl) ?_
  refine lv_iload_n hx hb d_law_392 rfl (lv_at hl 3 rfl) ?_
  refine lv_iconst (v := nI 1) hx hb d_law_393 (by decide) ?_
  refine lv_iadd hx hb d_law_394 ?_
  refine xv_I (y := nI (7 * i + 1)) (nI_add _ _) ?_
  refine va_sld hx hb hXs hbl hbA hS (vp_in_nI (show (7 * i + 1) < Ls by omega) (by omega)) d_law_395 ?_
  refine xv_I (y := xs (7 * i + 1)) (congrArg xs (nI_clamp (by omega))) ?_
  have hFc := am_free hD hS hA0
  refine va_calli (va_runV (As := [.int (xs (7 * i + 1))]) (rest := [.int (onR (fun t => nI (sumP (wd t) 96)) (inN n (xs (7 * i + 1))))]) ⟨hx, hb, hml, hown, hA⟩ (c_Mo_asks l G L f H.size (pl_nd hD) hMo hX (xs (7 * i + 1))) ⟨callB_of 1 hA (gAW kw_290) rfl rfl rfl (hA _ kw_172) (hA _ kw_291) (by decide +kernel) ⟨Nat.le_of_ble_eq_true rfl, Nat.le_of_ble_eq_true rfl⟩, (hA _ kw_292), (hA _ kw_293)⟩ (pz_preV (ci := 5) hP hK hMo.2.2.1 rfl) rfl rfl hl.1 rfl (lv_room (Nat.le_of_ble_eq_true rfl)) d_law_396 ⟨lq_1 (by omega), lq_2 (by omega)⟩) hS (fun q _ h => hFc q h) hFc (fun r_3 u9 t9 H1 locs ht9 hvm hw hWB hz1 hk1 hS => ?_)
  obtain ⟨L_1, f_1⟩ := u9
  obtain ⟨hP, hD1⟩ := hWB
  rw [ht9] at hP
  have hD := va_Dw hD1 hFc
  clear hD1 hk1 hz1 hFc ht9 hvm
  generalize H1 = H at hP hS ⊢
  dsimp only at hP hD
  obtain ⟨hr2, hz1, hk1, kn9, xf9, hB9, hX9⟩ := hw
  dsimp only at hz1 hB9
  replace hz1 := hz1.symm
  subst hz1
  refine lv_icmp_eq (tgt := 670) hx hb d_law_399 (by decide) (fun _ => ?_) (fun c9 => absurd ((tie_asks hn60 hAB (xs (7 * i + 1))).trans hr2.symm) c9)
  refine W.widen (k := 18 + 2 * (i + 1)) (n := 18200 + 101 * (i + 1)) (by omega) (by omega) ?_
  exact kk H locs L f_1 ls hP hD hS (⟨n, rn, kd, ka, kb, kc, ca, cbb, ccc, mm, nu, rk, dn, rc, RK, DN, RC, ClI.kc (L := L) (f := f) ⟨cb, rb, mA, gA, rA, ad, wa, wd, rad, hx0, hCo, hRu, hI1, hI2, hW⟩ (KC.of hk1), ⟨g2, kA, fA, sA, tA, bA, r2A, dA, cA, eA, kn9, gf, bf, xf9, hB9, hG, hBi, hX9⟩, hO, hRow, hru⟩) hl

set_option maxHeartbeats 4000000 in
set_option maxRecDepth 100000 in
theorem op_6 {p : Program} {l : Launch} {e : Env} {s : State} {m : MethodId} {below : List Frame} {meth : Method} {c : Code} {b Ls : Nat} {xs : Nat → Int32} (hL : Ls ≤ 3584) (C0 : lw_At p s m meth c b Ls xs) {G : GG} (hK : KK G s) {A : Nat → Prop} (hA0 : ∀ q, s.heap.size ≤ q → A q) (hbA : ¬ A b) {x0 mo i : Nat} (hi : 7 * i + 7 ≤ Ls) {L : List Nat} {f : Nat → va_E} {H : Heap} {locs : List Loc} {ls : Array Slot} (hP : va_P G.1 vwCl (va_pl L f) H) (hD : va_D A (va_pl L f)) (hS : va_S A s.heap H locs) (hDI : DI G L f x0 mo) (hl : lv_has ls 4 [(0, .ref b), (1, .ref x0), (2, .ref mo), (3, .int (nI (7 * i)))]) (kk : ∀ (H : Heap) (locs : List Loc) (L : List Nat) (f : Nat → va_E) (ls : Array Slot), va_P G.1 vwCl (va_pl L f) H → va_D A (va_pl L f) → va_S A s.heap H locs → DI G L f x0 mo → lv_has ls 4 [(0, .ref b), (1, .ref x0), (2, .ref mo), (3, .int (nI (7 * i)))] → W p l e room_1 s m #[Value.ref b] below meth c H locs (18 + 2 * (i + 1)) (18200 + 101 * (i + 1)) (lw_Z below #[Value.ref b] s) (F0 m 670 ls [])) : W p l e room_1 s m #[Value.ref b] below meth c H locs (18 + 2 * i) (18200 + 101 * i) (lw_Z below #[Value.ref b] s) (F0 m 404 ls []) := by
  obtain ⟨hx, hb, hr, hml, hown0, hts, hXs, hbl, hlocks, hgv⟩ := C0
  have hown : s.vm.findClass R_La = some m.cls := hown0
  have hA : ∀ w ∈ AW, w.before #[Value.ref b] s = true := fun w hw => hts w (List.mem_filter.mp hw).1
  obtain ⟨n, rn, kd, ka, kb, kc, ca, cbb, ccc, mm, nu, rk, dn, rc, RK, DN, RC, ⟨cb, rb, mA, gA, rA, ad, wa, wd, rad, hx0, hCo, hRu, hI1, hI2, hW⟩, ⟨g2, kA, fA, sA, tA, bA, r2A, dA, cA, eA, kn, gf, bf, xf, hMo, hG, hBi, hX⟩, hO, hRow, hru⟩ := hDI
  have hn60 := hMo.1
  have hr20 := hMo.2.1
  have hrc : ∀ q, q < rn → rc q < n := fun q hq => by
    have a := hRow.1 q hq
    rw [a.2.2.2]
    exact (hru _ a.1).2
  have hAB : ∀ j, j < n → ∀ q, q < 6144 → aB (wd j) q = mB bf j q := fun j hj q hq => (aB_hold hO hW hn60 hq (j + 1) j (by omega) hj).trans (BiI_hold hO hn60 hBi hq (j + 1) j (by omega) hj).symm
  have hT : Tie rn (fun q => wd (rc q)) nu rk dn rc bf RK DN RC := ⟨hRow, fun q hq r hr => hAB (rc q) (hrc q hq) r hr, hr20, fun j hj => (hru j hj).1⟩
  have hRB := RuB_of hCo hRu hrc
  refine lv_aload_n hx hb d_law_404 rfl (lv_at hl 1 rfl) ?_
  refine lv_aload_n hx hb d_law_405 rfl (lv_at hl 0 rfl) ?_
  refine lv_iload_n hx hb d_law_406 rfl (lv_at hl 3 rfl) ?_
  refine lv_iconst (v := nI 1) hx hb d_law_407 (by decide) ?_
  refine lv_iadd hx hb d_law_408 ?_
  refine xv_I (y := nI (7 * i + 1)) (nI_add _ _) ?_
  refine va_sld hx hb hXs hbl hbA hS (vp_in_nI (show (7 * i + 1) < Ls by omega) (by omega)) d_law_409 ?_
  refine xv_I (y := xs (7 * i + 1)) (congrArg xs (nI_clamp (by omega))) ?_
  refine lv_aload_n hx hb d_law_410 rfl (lv_at hl 0 rfl) ?_
  refine lv_iload_n hx hb d_law_411 rfl (lv_at hl 3 rfl) ?_
  refine lv_iconst (v := nI 2) hx hb d_law_412 (by decide) ?_
  refine lv_iadd hx hb d_law_413 ?_
  refine xv_I (y := nI (7 * i + 2)) (nI_add _ _) ?_
  refine va_sld hx hb hXs hbl hbA hS (vp_in_nI (show (7 * i + 2) < Ls by omega) (by omega)) d_law_414 ?_
  refine xv_I (y := xs (7 * i + 2)) (congrArg xs (nI_clamp (by omega))) ?_
  refine vp_callSi (va_Run.run (va_runV (As := [.int (xs (7 * i + 1)), .int (xs (7 * i + 2))]) (rest := []) ⟨hx, hb, hml, hown, hA⟩ (c_De_ask l G L f hx0 hCo (xs (7 * i + 1)) (xs (7 * i + 2))) ⟨callB_of 2 hA (gAW kw_294) rfl rfl rfl (hA _ kw_5) (hA _ kw_295) (by decide +kernel) ⟨Nat.le_of_ble_eq_true rfl, Nat.le_of_ble_eq_true rfl⟩, (hA _ kw_296), (hA _ kw_297)⟩ (pw_preV (ci := 4) hP hK hx0 rfl) rfl rfl hl.1 rfl (lv_room (Nat.le_of_ble_eq_true rfl)) d_law_415 ⟨lq_1 (by omega), lq_2 (by omega)⟩)) (fun r_1 e_2 => ?_)
  subst e_2
  refine lv_aload_n hx hb d_law_418 rfl (lv_at hl 2 rfl) ?_
  refine lv_aload_n hx hb d_law_419 rfl (lv_at hl 0 rfl) ?_
  refine lv_iload_n hx hb d_law_420 rfl (lv_at hl 3 rfl) ?_
  refine lv_iconst (v := nI 1) hx hb d_law_421 (by decide) ?_
  refine lv_iadd hx hb d_law_422 ?_
  refine xv_I (y := nI (7 * i + 1)) (nI_add _ _) ?_
  refine va_sld hx hb hXs hbl hbA hS (vp_in_nI (show (7 * i + 1) < Ls by omega) (by omega)) d_law_423 ?_
  refine xv_I (y := xs (7 * i + 1)) (congrArg xs (nI_clamp (by omega))) ?_
  refine lv_aload_n hx hb d_law_424 rfl (lv_at hl 0 rfl) ?_
  refine lv_iload_n hx hb d_law_425 rfl (lv_at hl 3 rfl) ?_
  refine lv_iconst (v := nI 2) hx hb d_law_426 (by decide) ?_
  refine lv_iadd hx hb d_law_427 ?_
  refine xv_I (y := nI (7 * i + 2)) (nI_add _ _) ?_
  refine va_sld hx hb hXs hbl hbA hS (vp_in_nI (show (7 * i + 2) < Ls by omega) (by omega)) d_law_428 ?_
  refine xv_I (y := xs (7 * i + 2)) (congrArg xs (nI_clamp (by omega))) ?_
  have hFc := am_free hD hS hA0
  refine va_calli (va_runV (As := [.int (xs (7 * i + 1)), .int (xs (7 * i + 2))]) (rest := [.int (onR (fun t => askY (wd t) (xs (7 * i + 2))) (inN n (xs (7 * i + 1))))]) ⟨hx, hb, hml, hown, hA⟩ (c_Mo_ask l G L f H.size (pl_nd hD) hMo hX (xs (7 * i + 1)) (xs (7 * i + 2))) ⟨callB_of 2 hA (gAW kw_298) rfl rfl rfl (hA _ kw_172) (hA _ kw_299) (by decide +kernel) ⟨Nat.le_of_ble_eq_true rfl, Nat.le_of_ble_eq_true rfl⟩, (hA _ kw_300), (hA _ kw_301)⟩ (pz_preV (ci := 5) hP hK hMo.2.2.1 rfl) rfl rfl hl.1 rfl (lv_room (Nat.le_of_ble_eq_true rfl)) d_law_429 ⟨lq_1 (by omega), lq_2 (by omega)⟩) hS (fun q _ h => hFc q h) hFc (fun r_3 u9 t9 H1 locs ht9 hvm hw hWB hz1 hk1 hS => ?_)
  obtain ⟨L_1, f_1⟩ := u9
  obtain ⟨hP, hD1⟩ := hWB
  rw [ht9] at hP
  have hD := va_Dw hD1 hFc
  clear hD1 hk1 hz1 hFc ht9 hvm
  generalize H1 = H at hP hS ⊢
  dsimp only at hP hD
  obtain ⟨hr2, hz1, hk1, kn9, xf9, hB9, hX9⟩ := hw
  dsimp only at hz1 hB9
  replace hz1 := hz1.symm
  subst hz1
  refine lv_icmp_eq (tgt := 670) hx hb d_law_432 (by decide) (fun _ => ?_) (fun c9 => absurd ((tie_ask hn60 hAB (xs (7 * i + 1)) (xs (7 * i + 2))).trans hr2.symm) c9)
  refine W.widen (k := 18 + 2 * (i + 1)) (n := 18200 + 101 * (i + 1)) (by omega) (by omega) ?_
  exact kk H locs L f_1 ls hP hD hS (⟨n, rn, kd, ka, kb, kc, ca, cbb, ccc, mm, nu, rk, dn, rc, RK, DN, RC, ClI.kc (L := L) (f := f) ⟨cb, rb, mA, gA, rA, ad, wa, wd, rad, hx0, hCo, hRu, hI1, hI2, hW⟩ (KC.of hk1), ⟨g2, kA, fA, sA, tA, bA, r2A, dA, cA, eA, kn9, gf, bf, xf9, hB9, hG, hBi, hX9⟩, hO, hRow, hru⟩) hl

set_option maxHeartbeats 4000000 in
set_option maxRecDepth 100000 in
theorem op_7 {p : Program} {l : Launch} {e : Env} {s : State} {m : MethodId} {below : List Frame} {meth : Method} {c : Code} {b Ls : Nat} {xs : Nat → Int32} (hL : Ls ≤ 3584) (C0 : lw_At p s m meth c b Ls xs) {G : GG} (hK : KK G s) {A : Nat → Prop} (hA0 : ∀ q, s.heap.size ≤ q → A q) (hbA : ¬ A b) {x0 mo i : Nat} (hi : 7 * i + 7 ≤ Ls) {L : List Nat} {f : Nat → va_E} {H : Heap} {locs : List Loc} {ls : Array Slot} (hP : va_P G.1 vwCl (va_pl L f) H) (hD : va_D A (va_pl L f)) (hS : va_S A s.heap H locs) (hDI : DI G L f x0 mo) (hl : lv_has ls 4 [(0, .ref b), (1, .ref x0), (2, .ref mo), (3, .int (nI (7 * i)))]) (kk : ∀ (H : Heap) (locs : List Loc) (L : List Nat) (f : Nat → va_E) (ls : Array Slot), va_P G.1 vwCl (va_pl L f) H → va_D A (va_pl L f) → va_S A s.heap H locs → DI G L f x0 mo → lv_has ls 4 [(0, .ref b), (1, .ref x0), (2, .ref mo), (3, .int (nI (7 * i)))] → W p l e room_1 s m #[Value.ref b] below meth c H locs (18 + 2 * (i + 1)) (18200 + 101 * (i + 1)) (lw_Z below #[Value.ref b] s) (F0 m 670 ls [])) : W p l e room_1 s m #[Value.ref b] below meth c H locs (18 + 2 * i) (18200 + 101 * i) (lw_Z below #[Value.ref b] s) (F0 m 437 ls []) := by
  obtain ⟨hx, hb, hr, hml, hown0, hts, hXs, hbl, hlocks, hgv⟩ := C0
  have hown : s.vm.findClass R_La = some m.cls := hown0
  have hA : ∀ w ∈ AW, w.before #[Value.ref b] s = true := fun w hw => hts w (List.mem_filter.mp hw).1
  obtain ⟨n, rn, kd, ka, kb, kc, ca, cbb, ccc, mm, nu, rk, dn, rc, RK, DN, RC, ⟨cb, rb, mA, gA, rA, ad, wa, wd, rad, hx0, hCo, hRu, hI1, hI2, hW⟩, ⟨g2, kA, fA, sA, tA, bA, r2A, dA, cA, eA, kn, gf, bf, xf, hMo, hG, hBi, hX⟩, hO, hRow, hru⟩ := hDI
  have hn60 := hMo.1
  have hr20 := hMo.2.1
  have hrc : ∀ q, q < rn → rc q < n := fun q hq => by
    have a := hRow.1 q hq
    rw [a.2.2.2]
    exact (hru _ a.1).2
  have hAB : ∀ j, j < n → ∀ q, q < 6144 → aB (wd j) q = mB bf j q := fun j hj q hq => (aB_hold hO hW hn60 hq (j + 1) j (by omega) hj).trans (BiI_hold hO hn60 hBi hq (j + 1) j (by omega) hj).symm
  have hT : Tie rn (fun q => wd (rc q)) nu rk dn rc bf RK DN RC := ⟨hRow, fun q hq r hr => hAB (rc q) (hrc q hq) r hr, hr20, fun j hj => (hru j hj).1⟩
  have hRB := RuB_of hCo hRu hrc
  refine lv_aload_n hx hb d_law_437 rfl (lv_at hl 1 rfl) ?_
  refine lv_aload_n hx hb d_law_438 rfl (lv_at hl 0 rfl) ?_
  refine lv_iload_n hx hb d_law_439 rfl (lv_at hl 3 rfl) ?_
  refine lv_iconst (v := nI 1) hx hb d_law_440 (by decide) ?_
  refine lv_iadd hx hb d_law_441 ?_
  refine xv_I (y := nI (7 * i + 1)) (nI_add _ _) ?_
  refine va_sld hx hb hXs hbl hbA hS (vp_in_nI (show (7 * i + 1) < Ls by omega) (by omega)) d_law_442 ?_
  refine xv_I (y := xs (7 * i + 1)) (congrArg xs (nI_clamp (by omega))) ?_
  refine lv_aload_n hx hb d_law_443 rfl (lv_at hl 0 rfl) ?_
  refine lv_iload_n hx hb d_law_444 rfl (lv_at hl 3 rfl) ?_
  refine lv_iconst (v := nI 2) hx hb d_law_445 (by decide) ?_
  refine lv_iadd hx hb d_law_446 ?_
  refine xv_I (y := nI (7 * i + 2)) (nI_add _ _) ?_
  refine va_sld hx hb hXs hbl hbA hS (vp_in_nI (show (7 * i + 2) < Ls by omega) (by omega)) d_law_447 ?_
  refine xv_I (y := xs (7 * i + 2)) (congrArg xs (nI_clamp (by omega))) ?_
  refine vp_callSi (va_Run.run (va_runV (As := [.int (xs (7 * i + 1)), .int (xs (7 * i + 2))]) (rest := []) ⟨hx, hb, hml, hown, hA⟩ (c_De_within l G L f hx0 hCo (xs (7 * i + 1)) (xs (7 * i + 2))) ⟨callB_of 2 hA (gAW kw_302) rfl rfl rfl (hA _ kw_5) (hA _ kw_303) (by decide +kernel) ⟨Nat.le_of_ble_eq_true rfl, Nat.le_of_ble_eq_true rfl⟩, (hA _ kw_304), (hA _ kw_305)⟩ (pw_preV (ci := 4) hP hK hx0 rfl) rfl rfl hl.1 rfl (lv_room (Nat.le_of_ble_eq_true rfl)) d_law_448 ⟨lq_1 (by omega), lq_2 (by omega)⟩)) (fun r_1 e_2 => ?_)
  subst e_2
  refine lv_aload_n hx hb d_law_451 rfl (lv_at hl 2 rfl) ?_
  refine lv_aload_n hx hb d_law_452 rfl (lv_at hl 0 rfl) ?_
  refine lv_iload_n hx hb d_law_453 rfl (lv_at hl 3 rfl) ?_
  refine lv_iconst (v := nI 1) hx hb d_law_454 (by decide) ?_
  refine lv_iadd hx hb d_law_455 ?_
  refine xv_I (y := nI (7 * i + 1)) (nI_add _ _) ?_
  refine va_sld hx hb hXs hbl hbA hS (vp_in_nI (show (7 * i + 1) < Ls by omega) (by omega)) d_law_456 ?_
  refine xv_I (y := xs (7 * i + 1)) (congrArg xs (nI_clamp (by omega))) ?_
  refine lv_aload_n hx hb d_law_457 rfl (lv_at hl 0 rfl) ?_
  refine lv_iload_n hx hb d_law_458 rfl (lv_at hl 3 rfl) ?_
  refine lv_iconst (v := nI 2) hx hb d_law_459 (by decide) ?_
  refine lv_iadd hx hb d_law_460 ?_
  refine xv_I (y := nI (7 * i + 2)) (nI_add _ _) ?_
  refine va_sld hx hb hXs hbl hbA hS (vp_in_nI (show (7 * i + 2) < Ls by omega) (by omega)) d_law_461 ?_
  refine xv_I (y := xs (7 * i + 2)) (congrArg xs (nI_clamp (by omega))) ?_
  have hFc := am_free hD hS hA0
  refine va_calli (va_runV (As := [.int (xs (7 * i + 1)), .int (xs (7 * i + 2))]) (rest := [.int (onR (fun t => onR (fun u => winR (wd t) (wd u) 96 0) (inN n (xs (7 * i + 2)))) (inN n (xs (7 * i + 1))))]) ⟨hx, hb, hml, hown, hA⟩ (c_Mo_within l G L f H.size (pl_nd hD) hMo hX (xs (7 * i + 1)) (xs (7 * i + 2))) ⟨callB_of 2 hA (gAW kw_306) rfl rfl rfl (hA _ kw_172) (hA _ kw_307) (by decide +kernel) ⟨Nat.le_of_ble_eq_true rfl, Nat.le_of_ble_eq_true rfl⟩, (hA _ kw_308), (hA _ kw_309)⟩ (pz_preV (ci := 5) hP hK hMo.2.2.1 rfl) rfl rfl hl.1 rfl (lv_room (Nat.le_of_ble_eq_true rfl)) d_law_462 ⟨lq_1 (by omega), lq_2 (by omega)⟩) hS (fun q _ h => hFc q h) hFc (fun r_3 u9 t9 H1 locs ht9 hvm hw hWB hz1 hk1 hS => ?_)
  obtain ⟨L_1, f_1⟩ := u9
  obtain ⟨hP, hD1⟩ := hWB
  rw [ht9] at hP
  have hD := va_Dw hD1 hFc
  clear hD1 hk1 hz1 hFc ht9 hvm
  generalize H1 = H at hP hS ⊢
  dsimp only at hP hD
  obtain ⟨hr2, hz1, hk1, kn9, xf9, hB9, hX9⟩ := hw
  dsimp only at hz1 hB9
  replace hz1 := hz1.symm
  subst hz1
  refine lv_icmp_eq (tgt := 670) hx hb d_law_465 (by decide) (fun _ => ?_) (fun c9 => absurd ((tie_within hn60 hAB (xs (7 * i + 1)) (xs (7 * i + 2))).trans hr2.symm) c9)
  refine W.widen (k := 18 + 2 * (i + 1)) (n := 18200 + 101 * (i + 1)) (by omega) (by omega) ?_
  exact kk H locs L f_1 ls hP hD hS (⟨n, rn, kd, ka, kb, kc, ca, cbb, ccc, mm, nu, rk, dn, rc, RK, DN, RC, ClI.kc (L := L) (f := f) ⟨cb, rb, mA, gA, rA, ad, wa, wd, rad, hx0, hCo, hRu, hI1, hI2, hW⟩ (KC.of hk1), ⟨g2, kA, fA, sA, tA, bA, r2A, dA, cA, eA, kn9, gf, bf, xf9, hB9, hG, hBi, hX9⟩, hO, hRow, hru⟩) hl

set_option maxHeartbeats 4000000 in
set_option maxRecDepth 100000 in
theorem op_8 {p : Program} {l : Launch} {e : Env} {s : State} {m : MethodId} {below : List Frame} {meth : Method} {c : Code} {b Ls : Nat} {xs : Nat → Int32} (hL : Ls ≤ 3584) (C0 : lw_At p s m meth c b Ls xs) {G : GG} (hK : KK G s) {A : Nat → Prop} (hA0 : ∀ q, s.heap.size ≤ q → A q) (hbA : ¬ A b) {x0 mo i : Nat} (hi : 7 * i + 7 ≤ Ls) {L : List Nat} {f : Nat → va_E} {H : Heap} {locs : List Loc} {ls : Array Slot} (hP : va_P G.1 vwCl (va_pl L f) H) (hD : va_D A (va_pl L f)) (hS : va_S A s.heap H locs) (hDI : DI G L f x0 mo) (hl : lv_has ls 4 [(0, .ref b), (1, .ref x0), (2, .ref mo), (3, .int (nI (7 * i)))]) (kk : ∀ (H : Heap) (locs : List Loc) (L : List Nat) (f : Nat → va_E) (ls : Array Slot), va_P G.1 vwCl (va_pl L f) H → va_D A (va_pl L f) → va_S A s.heap H locs → DI G L f x0 mo → lv_has ls 4 [(0, .ref b), (1, .ref x0), (2, .ref mo), (3, .int (nI (7 * i)))] → W p l e room_1 s m #[Value.ref b] below meth c H locs (18 + 2 * (i + 1)) (18200 + 101 * (i + 1)) (lw_Z below #[Value.ref b] s) (F0 m 670 ls [])) : W p l e room_1 s m #[Value.ref b] below meth c H locs (18 + 2 * i) (18200 + 101 * i) (lw_Z below #[Value.ref b] s) (F0 m 470 ls []) := by
  obtain ⟨hx, hb, hr, hml, hown0, hts, hXs, hbl, hlocks, hgv⟩ := C0
  have hown : s.vm.findClass R_La = some m.cls := hown0
  have hA : ∀ w ∈ AW, w.before #[Value.ref b] s = true := fun w hw => hts w (List.mem_filter.mp hw).1
  obtain ⟨n, rn, kd, ka, kb, kc, ca, cbb, ccc, mm, nu, rk, dn, rc, RK, DN, RC, ⟨cb, rb, mA, gA, rA, ad, wa, wd, rad, hx0, hCo, hRu, hI1, hI2, hW⟩, ⟨g2, kA, fA, sA, tA, bA, r2A, dA, cA, eA, kn, gf, bf, xf, hMo, hG, hBi, hX⟩, hO, hRow, hru⟩ := hDI
  have hn60 := hMo.1
  have hr20 := hMo.2.1
  have hrc : ∀ q, q < rn → rc q < n := fun q hq => by
    have a := hRow.1 q hq
    rw [a.2.2.2]
    exact (hru _ a.1).2
  have hAB : ∀ j, j < n → ∀ q, q < 6144 → aB (wd j) q = mB bf j q := fun j hj q hq => (aB_hold hO hW hn60 hq (j + 1) j (by omega) hj).trans (BiI_hold hO hn60 hBi hq (j + 1) j (by omega) hj).symm
  have hT : Tie rn (fun q => wd (rc q)) nu rk dn rc bf RK DN RC := ⟨hRow, fun q hq r hr => hAB (rc q) (hrc q hq) r hr, hr20, fun j hj => (hru j hj).1⟩
  have hRB := RuB_of hCo hRu hrc
  refine lv_aload_n hx hb d_law_470 rfl (lv_at hl 1 rfl) ?_
  refine lv_aload_n hx hb d_law_471 rfl (lv_at hl 0 rfl) ?_
  refine lv_iload_n hx hb d_law_472 rfl (lv_at hl 3 rfl) ?_
  refine lv_iconst (v := nI 1) hx hb d_law_473 (by decide) ?_
  refine lv_iadd hx hb d_law_474 ?_
  refine xv_I (y := nI (7 * i + 1)) (nI_add _ _) ?_
  refine va_sld hx hb hXs hbl hbA hS (vp_in_nI (show (7 * i + 1) < Ls by omega) (by omega)) d_law_475 ?_
  refine xv_I (y := xs (7 * i + 1)) (congrArg xs (nI_clamp (by omega))) ?_
  refine vp_callSi (va_Run.run (va_runV (As := [.int (xs (7 * i + 1))]) (rest := []) ⟨hx, hb, hml, hown, hA⟩ (c_De_decides l G L f hx0 hRB (xs (7 * i + 1))) ⟨callB_of 1 hA (gAW kw_310) rfl rfl rfl (hA _ kw_5) (hA _ kw_311) (by decide +kernel) ⟨Nat.le_of_ble_eq_true rfl, Nat.le_of_ble_eq_true rfl⟩, (hA _ kw_312), (hA _ kw_313)⟩ (pw_preV (ci := 4) hP hK hx0 rfl) rfl rfl hl.1 rfl (lv_room (Nat.le_of_ble_eq_true rfl)) d_law_476 ⟨lq_1 (by omega), lq_2 (by omega)⟩)) (fun r_1 e_2 => ?_)
  subst e_2
  refine lv_aload_n hx hb d_law_479 rfl (lv_at hl 2 rfl) ?_
  refine lv_aload_n hx hb d_law_480 rfl (lv_at hl 0 rfl) ?_
  refine lv_iload_n hx hb d_law_481 rfl (lv_at hl 3 rfl) ?_
  refine lv_iconst (v := nI 1) hx hb d_law_482 (by decide) ?_
  refine lv_iadd hx hb d_law_483 ?_
  refine xv_I (y := nI (7 * i + 1)) (nI_add _ _) ?_
  refine va_sld hx hb hXs hbl hbA hS (vp_in_nI (show (7 * i + 1) < Ls by omega) (by omega)) d_law_484 ?_
  refine xv_I (y := xs (7 * i + 1)) (congrArg xs (nI_clamp (by omega))) ?_
  have hFc := am_free hD hS hA0
  refine va_calli (va_runV (As := [.int (xs (7 * i + 1))]) (rest := [.int (onR (fun q => nI (sumP (fun j => deF (fun q => wd (rc q)) j q 0 ((fun q => wd (rc q)) q j)) 96)) (fst0 (isNo rn nu (xs (7 * i + 1))) 20 0))]) ⟨hx, hb, hml, hown, hA⟩ (c_Mo_decides l G L f H.size (pl_nd hD) hMo hru hX (xs (7 * i + 1))) ⟨callB_of 1 hA (gAW kw_314) rfl rfl rfl (hA _ kw_172) (hA _ kw_315) (by decide +kernel) ⟨Nat.le_of_ble_eq_true rfl, Nat.le_of_ble_eq_true rfl⟩, (hA _ kw_316), (hA _ kw_317)⟩ (pz_preV (ci := 5) hP hK hMo.2.2.1 rfl) rfl rfl hl.1 rfl (lv_room (Nat.le_of_ble_eq_true rfl)) d_law_485 ⟨lq_1 (by omega), lq_2 (by omega)⟩) hS (fun q _ h => hFc q h) hFc (fun r_3 u9 t9 H1 locs ht9 hvm hw hWB hz1 hk1 hS => ?_)
  obtain ⟨L_1, f_1⟩ := u9
  obtain ⟨hP, hD1⟩ := hWB
  rw [ht9] at hP
  have hD := va_Dw hD1 hFc
  clear hD1 hk1 hz1 hFc ht9 hvm
  generalize H1 = H at hP hS ⊢
  dsimp only at hP hD
  obtain ⟨hr2, hz1, hk1, kn9, xf9, hB9, hX9⟩ := hw
  dsimp only at hz1 hB9
  replace hz1 := hz1.symm
  subst hz1
  refine lv_icmp_eq (tgt := 670) hx hb d_law_488 (by decide) (fun _ => ?_) (fun c9 => absurd ((tie_decides hT (xs (7 * i + 1))).trans hr2.symm) c9)
  refine W.widen (k := 18 + 2 * (i + 1)) (n := 18200 + 101 * (i + 1)) (by omega) (by omega) ?_
  exact kk H locs L f_1 ls hP hD hS (⟨n, rn, kd, ka, kb, kc, ca, cbb, ccc, mm, nu, rk, dn, rc, RK, DN, RC, ClI.kc (L := L) (f := f) ⟨cb, rb, mA, gA, rA, ad, wa, wd, rad, hx0, hCo, hRu, hI1, hI2, hW⟩ (KC.of hk1), ⟨g2, kA, fA, sA, tA, bA, r2A, dA, cA, eA, kn9, gf, bf, xf9, hB9, hG, hBi, hX9⟩, hO, hRow, hru⟩) hl

set_option maxHeartbeats 4000000 in
set_option maxRecDepth 100000 in
theorem op_9 {p : Program} {l : Launch} {e : Env} {s : State} {m : MethodId} {below : List Frame} {meth : Method} {c : Code} {b Ls : Nat} {xs : Nat → Int32} (hL : Ls ≤ 3584) (C0 : lw_At p s m meth c b Ls xs) {G : GG} (hK : KK G s) {A : Nat → Prop} (hA0 : ∀ q, s.heap.size ≤ q → A q) (hbA : ¬ A b) {x0 mo i : Nat} (hi : 7 * i + 7 ≤ Ls) {L : List Nat} {f : Nat → va_E} {H : Heap} {locs : List Loc} {ls : Array Slot} (hP : va_P G.1 vwCl (va_pl L f) H) (hD : va_D A (va_pl L f)) (hS : va_S A s.heap H locs) (hDI : DI G L f x0 mo) (hl : lv_has ls 4 [(0, .ref b), (1, .ref x0), (2, .ref mo), (3, .int (nI (7 * i)))]) (kk : ∀ (H : Heap) (locs : List Loc) (L : List Nat) (f : Nat → va_E) (ls : Array Slot), va_P G.1 vwCl (va_pl L f) H → va_D A (va_pl L f) → va_S A s.heap H locs → DI G L f x0 mo → lv_has ls 4 [(0, .ref b), (1, .ref x0), (2, .ref mo), (3, .int (nI (7 * i)))] → W p l e room_1 s m #[Value.ref b] below meth c H locs (18 + 2 * (i + 1)) (18200 + 101 * (i + 1)) (lw_Z below #[Value.ref b] s) (F0 m 670 ls [])) : W p l e room_1 s m #[Value.ref b] below meth c H locs (18 + 2 * i) (18200 + 101 * i) (lw_Z below #[Value.ref b] s) (F0 m 493 ls []) := by
  obtain ⟨hx, hb, hr, hml, hown0, hts, hXs, hbl, hlocks, hgv⟩ := C0
  have hown : s.vm.findClass R_La = some m.cls := hown0
  have hA : ∀ w ∈ AW, w.before #[Value.ref b] s = true := fun w hw => hts w (List.mem_filter.mp hw).1
  obtain ⟨n, rn, kd, ka, kb, kc, ca, cbb, ccc, mm, nu, rk, dn, rc, RK, DN, RC, ⟨cb, rb, mA, gA, rA, ad, wa, wd, rad, hx0, hCo, hRu, hI1, hI2, hW⟩, ⟨g2, kA, fA, sA, tA, bA, r2A, dA, cA, eA, kn, gf, bf, xf, hMo, hG, hBi, hX⟩, hO, hRow, hru⟩ := hDI
  have hn60 := hMo.1
  have hr20 := hMo.2.1
  have hrc : ∀ q, q < rn → rc q < n := fun q hq => by
    have a := hRow.1 q hq
    rw [a.2.2.2]
    exact (hru _ a.1).2
  have hAB : ∀ j, j < n → ∀ q, q < 6144 → aB (wd j) q = mB bf j q := fun j hj q hq => (aB_hold hO hW hn60 hq (j + 1) j (by omega) hj).trans (BiI_hold hO hn60 hBi hq (j + 1) j (by omega) hj).symm
  have hT : Tie rn (fun q => wd (rc q)) nu rk dn rc bf RK DN RC := ⟨hRow, fun q hq r hr => hAB (rc q) (hrc q hq) r hr, hr20, fun j hj => (hru j hj).1⟩
  have hRB := RuB_of hCo hRu hrc
  refine lv_aload_n hx hb d_law_493 rfl (lv_at hl 1 rfl) ?_
  refine lv_aload_n hx hb d_law_494 rfl (lv_at hl 0 rfl) ?_
  refine lv_iload_n hx hb d_law_495 rfl (lv_at hl 3 rfl) ?_
  refine lv_iconst (v := nI 1) hx hb d_law_496 (by decide) ?_
  refine lv_iadd hx hb d_law_497 ?_
  refine xv_I (y := nI (7 * i + 1)) (nI_add _ _) ?_
  refine va_sld hx hb hXs hbl hbA hS (vp_in_nI (show (7 * i + 1) < Ls by omega) (by omega)) d_law_498 ?_
  refine xv_I (y := xs (7 * i + 1)) (congrArg xs (nI_clamp (by omega))) ?_
  refine lv_aload_n hx hb d_law_499 rfl (lv_at hl 0 rfl) ?_
  refine lv_iload_n hx hb d_law_500 rfl (lv_at hl 3 rfl) ?_
  refine lv_iconst (v := nI 2) hx hb d_law_501 (by decide) ?_
  refine lv_iadd hx hb d_law_502 ?_
  refine xv_I (y := nI (7 * i + 2)) (nI_add _ _) ?_
  refine va_sld hx hb hXs hbl hbA hS (vp_in_nI (show (7 * i + 2) < Ls by omega) (by omega)) d_law_503 ?_
  refine xv_I (y := xs (7 * i + 2)) (congrArg xs (nI_clamp (by omega))) ?_
  refine vp_callSi (va_Run.run (va_runV (As := [.int (xs (7 * i + 1)), .int (xs (7 * i + 2))]) (rest := []) ⟨hx, hb, hml, hown, hA⟩ (c_De_sees l G L f hx0 hRB (xs (7 * i + 1)) (xs (7 * i + 2))) ⟨callB_of 2 hA (gAW kw_318) rfl rfl rfl (hA _ kw_5) (hA _ kw_319) (by decide +kernel) ⟨Nat.le_of_ble_eq_true rfl, Nat.le_of_ble_eq_true rfl⟩, (hA _ kw_320), (hA _ kw_321)⟩ (pw_preV (ci := 4) hP hK hx0 rfl) rfl rfl hl.1 rfl (lv_room (Nat.le_of_ble_eq_true rfl)) d_law_504 ⟨lq_1 (by omega), lq_2 (by omega)⟩)) (fun r_1 e_2 => ?_)
  subst e_2
  refine lv_aload_n hx hb d_law_507 rfl (lv_at hl 2 rfl) ?_
  refine lv_aload_n hx hb d_law_508 rfl (lv_at hl 0 rfl) ?_
  refine lv_iload_n hx hb d_law_509 rfl (lv_at hl 3 rfl) ?_
  refine lv_iconst (v := nI 1) hx hb d_law_510 (by decide) ?_
  refine lv_iadd hx hb d_law_511 ?_
  refine xv_I (y := nI (7 * i + 1)) (nI_add _ _) ?_
  refine va_sld hx hb hXs hbl hbA hS (vp_in_nI (show (7 * i + 1) < Ls by omega) (by omega)) d_law_512 ?_
  refine xv_I (y := xs (7 * i + 1)) (congrArg xs (nI_clamp (by omega))) ?_
  refine lv_aload_n hx hb d_law_513 rfl (lv_at hl 0 rfl) ?_
  refine lv_iload_n hx hb d_law_514 rfl (lv_at hl 3 rfl) ?_
  refine lv_iconst (v := nI 2) hx hb d_law_515 (by decide) ?_
  refine lv_iadd hx hb d_law_516 ?_
  refine xv_I (y := nI (7 * i + 2)) (nI_add _ _) ?_
  refine va_sld hx hb hXs hbl hbA hS (vp_in_nI (show (7 * i + 2) < Ls by omega) (by omega)) d_law_517 ?_
  refine xv_I (y := xs (7 * i + 2)) (congrArg xs (nI_clamp (by omega))) ?_
  have hFc := am_free hD hS hA0
  refine va_calli (va_runV (As := [.int (xs (7 * i + 1)), .int (xs (7 * i + 2))]) (rest := [.int (onR (fun u => onR (fun v => nI (sumP (fun i => vfR v v 8 &&& alF (fun q => wd (rc q)) dn (u * 12 + i) rn 0 (-1) 0) 12)) (inN 8 (xs (7 * i + 2)))) (inN 8 (xs (7 * i + 1))))]) ⟨hx, hb, hml, hown, hA⟩ (c_Mo_sees l G L f H.size (pl_nd hD) hMo hru hX (xs (7 * i + 1)) (xs (7 * i + 2))) ⟨callB_of 2 hA (gAW kw_322) rfl rfl rfl (hA _ kw_172) (hA _ kw_323) (by decide +kernel) ⟨Nat.le_of_ble_eq_true rfl, Nat.le_of_ble_eq_true rfl⟩, (hA _ kw_324), (hA _ kw_325)⟩ (pz_preV (ci := 5) hP hK hMo.2.2.1 rfl) rfl rfl hl.1 rfl (lv_room (Nat.le_of_ble_eq_true rfl)) d_law_518 ⟨lq_1 (by omega), lq_2 (by omega)⟩) hS (fun q _ h => hFc q h) hFc (fun r_3 u9 t9 H1 locs ht9 hvm hw hWB hz1 hk1 hS => ?_)
  obtain ⟨L_1, f_1⟩ := u9
  obtain ⟨hP, hD1⟩ := hWB
  rw [ht9] at hP
  have hD := va_Dw hD1 hFc
  clear hD1 hk1 hz1 hFc ht9 hvm
  generalize H1 = H at hP hS ⊢
  dsimp only at hP hD
  obtain ⟨hr2, hz1, hk1, kn9, xf9, hB9, hX9⟩ := hw
  dsimp only at hz1 hB9
  replace hz1 := hz1.symm
  subst hz1
  refine lv_icmp_eq (tgt := 670) hx hb d_law_521 (by decide) (fun _ => ?_) (fun c9 => absurd ((tie_sees hT (xs (7 * i + 1)) (xs (7 * i + 2))).trans hr2.symm) c9)
  refine W.widen (k := 18 + 2 * (i + 1)) (n := 18200 + 101 * (i + 1)) (by omega) (by omega) ?_
  exact kk H locs L f_1 ls hP hD hS (⟨n, rn, kd, ka, kb, kc, ca, cbb, ccc, mm, nu, rk, dn, rc, RK, DN, RC, ClI.kc (L := L) (f := f) ⟨cb, rb, mA, gA, rA, ad, wa, wd, rad, hx0, hCo, hRu, hI1, hI2, hW⟩ (KC.of hk1), ⟨g2, kA, fA, sA, tA, bA, r2A, dA, cA, eA, kn9, gf, bf, xf9, hB9, hG, hBi, hX9⟩, hO, hRow, hru⟩) hl

set_option maxHeartbeats 4000000 in
set_option maxRecDepth 100000 in
theorem op_10 {p : Program} {l : Launch} {e : Env} {s : State} {m : MethodId} {below : List Frame} {meth : Method} {c : Code} {b Ls : Nat} {xs : Nat → Int32} (hL : Ls ≤ 3584) (C0 : lw_At p s m meth c b Ls xs) {G : GG} (hK : KK G s) {A : Nat → Prop} (hA0 : ∀ q, s.heap.size ≤ q → A q) (hbA : ¬ A b) {x0 mo i : Nat} (hi : 7 * i + 7 ≤ Ls) {L : List Nat} {f : Nat → va_E} {H : Heap} {locs : List Loc} {ls : Array Slot} (hP : va_P G.1 vwCl (va_pl L f) H) (hD : va_D A (va_pl L f)) (hS : va_S A s.heap H locs) (hDI : DI G L f x0 mo) (hl : lv_has ls 4 [(0, .ref b), (1, .ref x0), (2, .ref mo), (3, .int (nI (7 * i)))]) (kk : ∀ (H : Heap) (locs : List Loc) (L : List Nat) (f : Nat → va_E) (ls : Array Slot), va_P G.1 vwCl (va_pl L f) H → va_D A (va_pl L f) → va_S A s.heap H locs → DI G L f x0 mo → lv_has ls 4 [(0, .ref b), (1, .ref x0), (2, .ref mo), (3, .int (nI (7 * i)))] → W p l e room_1 s m #[Value.ref b] below meth c H locs (18 + 2 * (i + 1)) (18200 + 101 * (i + 1)) (lw_Z below #[Value.ref b] s) (F0 m 670 ls [])) : W p l e room_1 s m #[Value.ref b] below meth c H locs (18 + 2 * i) (18200 + 101 * i) (lw_Z below #[Value.ref b] s) (F0 m 526 ls []) := by
  obtain ⟨hx, hb, hr, hml, hown0, hts, hXs, hbl, hlocks, hgv⟩ := C0
  have hown : s.vm.findClass R_La = some m.cls := hown0
  have hA : ∀ w ∈ AW, w.before #[Value.ref b] s = true := fun w hw => hts w (List.mem_filter.mp hw).1
  obtain ⟨n, rn, kd, ka, kb, kc, ca, cbb, ccc, mm, nu, rk, dn, rc, RK, DN, RC, ⟨cb, rb, mA, gA, rA, ad, wa, wd, rad, hx0, hCo, hRu, hI1, hI2, hW⟩, ⟨g2, kA, fA, sA, tA, bA, r2A, dA, cA, eA, kn, gf, bf, xf, hMo, hG, hBi, hX⟩, hO, hRow, hru⟩ := hDI
  have hn60 := hMo.1
  have hr20 := hMo.2.1
  have hrc : ∀ q, q < rn → rc q < n := fun q hq => by
    have a := hRow.1 q hq
    rw [a.2.2.2]
    exact (hru _ a.1).2
  have hAB : ∀ j, j < n → ∀ q, q < 6144 → aB (wd j) q = mB bf j q := fun j hj q hq => (aB_hold hO hW hn60 hq (j + 1) j (by omega) hj).trans (BiI_hold hO hn60 hBi hq (j + 1) j (by omega) hj).symm
  have hT : Tie rn (fun q => wd (rc q)) nu rk dn rc bf RK DN RC := ⟨hRow, fun q hq r hr => hAB (rc q) (hrc q hq) r hr, hr20, fun j hj => (hru j hj).1⟩
  have hRB := RuB_of hCo hRu hrc
  refine lv_aload_n hx hb d_law_526 rfl (lv_at hl 1 rfl) ?_
  refine lv_aload_n hx hb d_law_527 rfl (lv_at hl 0 rfl) ?_
  refine lv_iload_n hx hb d_law_528 rfl (lv_at hl 3 rfl) ?_
  refine lv_iconst (v := nI 1) hx hb d_law_529 (by decide) ?_
  refine lv_iadd hx hb d_law_530 ?_
  refine xv_I (y := nI (7 * i + 1)) (nI_add _ _) ?_
  refine va_sld hx hb hXs hbl hbA hS (vp_in_nI (show (7 * i + 1) < Ls by omega) (by omega)) d_law_531 ?_
  refine xv_I (y := xs (7 * i + 1)) (congrArg xs (nI_clamp (by omega))) ?_
  refine vp_callSi (va_Run.run (va_runV (As := [.int (xs (7 * i + 1))]) (rest := []) ⟨hx, hb, hml, hown, hA⟩ (c_De_matters l G L f hx0 hRB (xs (7 * i + 1))) ⟨callB_of 1 hA (gAW kw_326) rfl rfl rfl (hA _ kw_5) (hA _ kw_327) (by decide +kernel) ⟨Nat.le_of_ble_eq_true rfl, Nat.le_of_ble_eq_true rfl⟩, (hA _ kw_328), (hA _ kw_329)⟩ (pw_preV (ci := 4) hP hK hx0 rfl) rfl rfl hl.1 rfl (lv_room (Nat.le_of_ble_eq_true rfl)) d_law_532 ⟨lq_1 (by omega), lq_2 (by omega)⟩)) (fun r_1 e_2 => ?_)
  subst e_2
  refine lv_aload_n hx hb d_law_535 rfl (lv_at hl 2 rfl) ?_
  refine lv_aload_n hx hb d_law_536 rfl (lv_at hl 0 rfl) ?_
  refine lv_iload_n hx hb d_law_537 rfl (lv_at hl 3 rfl) ?_
  refine lv_iconst (v := nI 1) hx hb d_law_538 (by decide) ?_
  refine lv_iadd hx hb d_law_539 ?_
  refine xv_I (y := nI (7 * i + 1)) (nI_add _ _) ?_
  refine va_sld hx hb hXs hbl hbA hS (vp_in_nI (show (7 * i + 1) < Ls by omega) (by omega)) d_law_540 ?_
  refine xv_I (y := xs (7 * i + 1)) (congrArg xs (nI_clamp (by omega))) ?_
  have hFc := am_free hD hS hA0
  refine va_calli (va_runV (As := [.int (xs (7 * i + 1))]) (rest := [.int (onR (fun q => nI (sumP (tuF (fun q => wd (rc q)) dn rn q) 96)) (fst0 (isNo rn nu (xs (7 * i + 1))) 20 0))]) ⟨hx, hb, hml, hown, hA⟩ (c_Mo_matters l G L f H.size (pl_nd hD) hMo hru hX (xs (7 * i + 1))) ⟨callB_of 1 hA (gAW kw_330) rfl rfl rfl (hA _ kw_172) (hA _ kw_331) (by decide +kernel) ⟨Nat.le_of_ble_eq_true rfl, Nat.le_of_ble_eq_true rfl⟩, (hA _ kw_332), (hA _ kw_333)⟩ (pz_preV (ci := 5) hP hK hMo.2.2.1 rfl) rfl rfl hl.1 rfl (lv_room (Nat.le_of_ble_eq_true rfl)) d_law_541 ⟨lq_1 (by omega), lq_2 (by omega)⟩) hS (fun q _ h => hFc q h) hFc (fun r_3 u9 t9 H1 locs ht9 hvm hw hWB hz1 hk1 hS => ?_)
  obtain ⟨L_1, f_1⟩ := u9
  obtain ⟨hP, hD1⟩ := hWB
  rw [ht9] at hP
  have hD := va_Dw hD1 hFc
  clear hD1 hk1 hz1 hFc ht9 hvm
  generalize H1 = H at hP hS ⊢
  dsimp only at hP hD
  obtain ⟨hr2, hz1, hk1, kn9, xf9, hB9, hX9⟩ := hw
  dsimp only at hz1 hB9
  replace hz1 := hz1.symm
  subst hz1
  refine lv_icmp_eq (tgt := 670) hx hb d_law_544 (by decide) (fun _ => ?_) (fun c9 => absurd ((tie_matters hT (xs (7 * i + 1))).trans hr2.symm) c9)
  refine W.widen (k := 18 + 2 * (i + 1)) (n := 18200 + 101 * (i + 1)) (by omega) (by omega) ?_
  exact kk H locs L f_1 ls hP hD hS (⟨n, rn, kd, ka, kb, kc, ca, cbb, ccc, mm, nu, rk, dn, rc, RK, DN, RC, ClI.kc (L := L) (f := f) ⟨cb, rb, mA, gA, rA, ad, wa, wd, rad, hx0, hCo, hRu, hI1, hI2, hW⟩ (KC.of hk1), ⟨g2, kA, fA, sA, tA, bA, r2A, dA, cA, eA, kn9, gf, bf, xf9, hB9, hG, hBi, hX9⟩, hO, hRow, hru⟩) hl

set_option maxHeartbeats 4000000 in
set_option maxRecDepth 100000 in
theorem op_11 {p : Program} {l : Launch} {e : Env} {s : State} {m : MethodId} {below : List Frame} {meth : Method} {c : Code} {b Ls : Nat} {xs : Nat → Int32} (hL : Ls ≤ 3584) (C0 : lw_At p s m meth c b Ls xs) {G : GG} (hK : KK G s) {A : Nat → Prop} (hA0 : ∀ q, s.heap.size ≤ q → A q) (hbA : ¬ A b) {x0 mo i : Nat} (hi : 7 * i + 7 ≤ Ls) {L : List Nat} {f : Nat → va_E} {H : Heap} {locs : List Loc} {ls : Array Slot} (hP : va_P G.1 vwCl (va_pl L f) H) (hD : va_D A (va_pl L f)) (hS : va_S A s.heap H locs) (hDI : DI G L f x0 mo) (hl : lv_has ls 4 [(0, .ref b), (1, .ref x0), (2, .ref mo), (3, .int (nI (7 * i)))]) (kk : ∀ (H : Heap) (locs : List Loc) (L : List Nat) (f : Nat → va_E) (ls : Array Slot), va_P G.1 vwCl (va_pl L f) H → va_D A (va_pl L f) → va_S A s.heap H locs → DI G L f x0 mo → lv_has ls 4 [(0, .ref b), (1, .ref x0), (2, .ref mo), (3, .int (nI (7 * i)))] → W p l e room_1 s m #[Value.ref b] below meth c H locs (18 + 2 * (i + 1)) (18200 + 101 * (i + 1)) (lw_Z below #[Value.ref b] s) (F0 m 670 ls [])) : W p l e room_1 s m #[Value.ref b] below meth c H locs (18 + 2 * i) (18200 + 101 * i) (lw_Z below #[Value.ref b] s) (F0 m 549 ls []) := by
  obtain ⟨hx, hb, hr, hml, hown0, hts, hXs, hbl, hlocks, hgv⟩ := C0
  have hown : s.vm.findClass R_La = some m.cls := hown0
  have hA : ∀ w ∈ AW, w.before #[Value.ref b] s = true := fun w hw => hts w (List.mem_filter.mp hw).1
  obtain ⟨n, rn, kd, ka, kb, kc, ca, cbb, ccc, mm, nu, rk, dn, rc, RK, DN, RC, ⟨cb, rb, mA, gA, rA, ad, wa, wd, rad, hx0, hCo, hRu, hI1, hI2, hW⟩, ⟨g2, kA, fA, sA, tA, bA, r2A, dA, cA, eA, kn, gf, bf, xf, hMo, hG, hBi, hX⟩, hO, hRow, hru⟩ := hDI
  have hn60 := hMo.1
  have hr20 := hMo.2.1
  have hrc : ∀ q, q < rn → rc q < n := fun q hq => by
    have a := hRow.1 q hq
    rw [a.2.2.2]
    exact (hru _ a.1).2
  have hAB : ∀ j, j < n → ∀ q, q < 6144 → aB (wd j) q = mB bf j q := fun j hj q hq => (aB_hold hO hW hn60 hq (j + 1) j (by omega) hj).trans (BiI_hold hO hn60 hBi hq (j + 1) j (by omega) hj).symm
  have hT : Tie rn (fun q => wd (rc q)) nu rk dn rc bf RK DN RC := ⟨hRow, fun q hq r hr => hAB (rc q) (hrc q hq) r hr, hr20, fun j hj => (hru j hj).1⟩
  have hRB := RuB_of hCo hRu hrc
  refine lv_aload_n hx hb d_law_549 rfl (lv_at hl 1 rfl) ?_
  refine lv_aload_n hx hb d_law_550 rfl (lv_at hl 0 rfl) ?_
  refine lv_iload_n hx hb d_law_551 rfl (lv_at hl 3 rfl) ?_
  refine lv_iconst (v := nI 1) hx hb d_law_552 (by decide) ?_
  refine lv_iadd hx hb d_law_553 ?_
  refine xv_I (y := nI (7 * i + 1)) (nI_add _ _) ?_
  refine va_sld hx hb hXs hbl hbA hS (vp_in_nI (show (7 * i + 1) < Ls by omega) (by omega)) d_law_554 ?_
  refine xv_I (y := xs (7 * i + 1)) (congrArg xs (nI_clamp (by omega))) ?_
  by_cases hz0 : xs (7 * i + 1) = 0
  · refine lv_if_eq (tgt := 562) hx hb d_law_555 (by decide) (fun _ => ?_) (fun c9 => absurd hz0 c9)
    refine lv_iconst (v := nI 0) hx hb d_law_562 (by decide) ?_
    refine xv_I (y := bI false) rfl ?_
    refine lv_aload_n hx hb d_law_563 rfl (lv_at hl 0 rfl) ?_
    refine lv_iload_n hx hb d_law_564 rfl (lv_at hl 3 rfl) ?_
    refine lv_iconst (v := nI 2) hx hb d_law_565 (by decide) ?_
    refine lv_iadd hx hb d_law_566 ?_
    refine xv_I (y := nI (7 * i + 2)) (nI_add _ _) ?_
    refine va_sld hx hb hXs hbl hbA hS (vp_in_nI (show (7 * i + 2) < Ls by omega) (by omega)) d_law_567 ?_
    refine xv_I (y := xs (7 * i + 2)) (congrArg xs (nI_clamp (by omega))) ?_
    refine vp_callSi (va_Run.run (va_runV (As := [.int (bI false), .int (xs (7 * i + 2))]) (rest := []) ⟨hx, hb, hml, hown, hA⟩ (c_De_idle l G L f hx0 hCo hRB false (xs (7 * i + 2))) ⟨callB_of 2 hA (gAW kw_334) rfl rfl rfl (hA _ kw_5) (hA _ kw_335) (by decide +kernel) ⟨Nat.le_of_ble_eq_true rfl, Nat.le_of_ble_eq_true rfl⟩, (hA _ kw_336), (hA _ kw_337)⟩ (pw_preV (ci := 4) hP hK hx0 rfl) rfl rfl hl.1 rfl (lv_room (Nat.le_of_ble_eq_true rfl)) d_law_568 ⟨lq_1 (by omega), lq_2 (by omega)⟩)) (fun r_1 e_2 => ?_)
    subst e_2
    refine lv_aload_n hx hb d_law_571 rfl (lv_at hl 2 rfl) ?_
    refine lv_aload_n hx hb d_law_572 rfl (lv_at hl 0 rfl) ?_
    refine lv_iload_n hx hb d_law_573 rfl (lv_at hl 3 rfl) ?_
    refine lv_iconst (v := nI 1) hx hb d_law_574 (by decide) ?_
    refine lv_iadd hx hb d_law_575 ?_
    refine xv_I (y := nI (7 * i + 1)) (nI_add _ _) ?_
    refine va_sld hx hb hXs hbl hbA hS (vp_in_nI (show (7 * i + 1) < Ls by omega) (by omega)) d_law_576 ?_
    refine xv_I (y := xs (7 * i + 1)) (congrArg xs (nI_clamp (by omega))) ?_
    refine lv_if_eq (tgt := 584) hx hb d_law_577 (by decide) (fun _ => ?_) (fun c9 => absurd hz0 c9)
    refine lv_iconst (v := nI 0) hx hb d_law_584 (by decide) ?_
    refine xv_I (y := bI false) rfl ?_
    refine lv_aload_n hx hb d_law_585 rfl (lv_at hl 0 rfl) ?_
    refine lv_iload_n hx hb d_law_586 rfl (lv_at hl 3 rfl) ?_
    refine lv_iconst (v := nI 2) hx hb d_law_587 (by decide) ?_
    refine lv_iadd hx hb d_law_588 ?_
    refine xv_I (y := nI (7 * i + 2)) (nI_add _ _) ?_
    refine va_sld hx hb hXs hbl hbA hS (vp_in_nI (show (7 * i + 2) < Ls by omega) (by omega)) d_law_589 ?_
    refine xv_I (y := xs (7 * i + 2)) (congrArg xs (nI_clamp (by omega))) ?_
    have hFc := am_free hD hS hA0
    refine va_calli (va_runV (As := [.int (bI false), .int (xs (7 * i + 2))]) (rest := [.int (onR (fun t => nI (maxR (fun j => idF (fun q => wd (rc q)) rk dn false j rn 0 (wd t j) 0) 96)) (inN n (xs (7 * i + 2))))]) ⟨hx, hb, hml, hown, hA⟩ (c_Mo_idle l G L f H.size (pl_nd hD) hMo hru hX false (xs (7 * i + 2))) ⟨callB_of 2 hA (gAW kw_338) rfl rfl rfl (hA _ kw_172) (hA _ kw_339) (by decide +kernel) ⟨Nat.le_of_ble_eq_true rfl, Nat.le_of_ble_eq_true rfl⟩, (hA _ kw_340), (hA _ kw_341)⟩ (pz_preV (ci := 5) hP hK hMo.2.2.1 rfl) rfl rfl hl.1 rfl (lv_room (Nat.le_of_ble_eq_true rfl)) d_law_590 ⟨lq_1 (by omega), lq_2 (by omega)⟩) hS (fun q _ h => hFc q h) hFc (fun r_3 u9 t9 H1 locs ht9 hvm hw hWB hz1 hk1 hS => ?_)
    obtain ⟨L_1, f_1⟩ := u9
    obtain ⟨hP, hD1⟩ := hWB
    rw [ht9] at hP
    have hD := va_Dw hD1 hFc
    clear hD1 hk1 hz1 hFc ht9 hvm
    generalize H1 = H at hP hS ⊢
    dsimp only at hP hD
    obtain ⟨hr2, hz1, hk1, kn9, xf9, hB9, hX9⟩ := hw
    dsimp only at hz1 hB9
    replace hz1 := hz1.symm
    subst hz1
    refine lv_icmp_eq (tgt := 670) hx hb d_law_593 (by decide) (fun _ => ?_) (fun c9 => absurd ((tie_idle hT hn60 hAB false (xs (7 * i + 2))).trans hr2.symm) c9)
    refine W.widen (k := 18 + 2 * (i + 1)) (n := 18200 + 101 * (i + 1)) (by omega) (by omega) ?_
    exact kk H locs L f_1 ls hP hD hS (⟨n, rn, kd, ka, kb, kc, ca, cbb, ccc, mm, nu, rk, dn, rc, RK, DN, RC, ClI.kc (L := L) (f := f) ⟨cb, rb, mA, gA, rA, ad, wa, wd, rad, hx0, hCo, hRu, hI1, hI2, hW⟩ (KC.of hk1), ⟨g2, kA, fA, sA, tA, bA, r2A, dA, cA, eA, kn9, gf, bf, xf9, hB9, hG, hBi, hX9⟩, hO, hRow, hru⟩) hl
  · refine lv_if_eq (tgt := 562) hx hb d_law_555 (by decide) (fun c9 => absurd c9 hz0) (fun _ => ?_)
    refine lv_iconst (v := nI 1) hx hb d_law_558 (by decide) ?_
    refine xv_I (y := bI true) rfl ?_
    refine lv_goto (tgt := 563) hx hb d_law_559 (by decide) ?_
    refine lv_aload_n hx hb d_law_563 rfl (lv_at hl 0 rfl) ?_
    refine lv_iload_n hx hb d_law_564 rfl (lv_at hl 3 rfl) ?_
    refine lv_iconst (v := nI 2) hx hb d_law_565 (by decide) ?_
    refine lv_iadd hx hb d_law_566 ?_
    refine xv_I (y := nI (7 * i + 2)) (nI_add _ _) ?_
    refine va_sld hx hb hXs hbl hbA hS (vp_in_nI (show (7 * i + 2) < Ls by omega) (by omega)) d_law_567 ?_
    refine xv_I (y := xs (7 * i + 2)) (congrArg xs (nI_clamp (by omega))) ?_
    refine vp_callSi (va_Run.run (va_runV (As := [.int (bI true), .int (xs (7 * i + 2))]) (rest := []) ⟨hx, hb, hml, hown, hA⟩ (c_De_idle l G L f hx0 hCo hRB true (xs (7 * i + 2))) ⟨callB_of 2 hA (gAW kw_334) rfl rfl rfl (hA _ kw_5) (hA _ kw_335) (by decide +kernel) ⟨Nat.le_of_ble_eq_true rfl, Nat.le_of_ble_eq_true rfl⟩, (hA _ kw_336), (hA _ kw_337)⟩ (pw_preV (ci := 4) hP hK hx0 rfl) rfl rfl hl.1 rfl (lv_room (Nat.le_of_ble_eq_true rfl)) d_law_568 ⟨lq_1 (by omega), lq_2 (by omega)⟩)) (fun r_4 e_5 => ?_)
    subst e_5
    refine lv_aload_n hx hb d_law_571 rfl (lv_at hl 2 rfl) ?_
    refine lv_aload_n hx hb d_law_572 rfl (lv_at hl 0 rfl) ?_
    refine lv_iload_n hx hb d_law_573 rfl (lv_at hl 3 rfl) ?_
    refine lv_iconst (v := nI 1) hx hb d_law_574 (by decide) ?_
    refine lv_iadd hx hb d_law_575 ?_
    refine xv_I (y := nI (7 * i + 1)) (nI_add _ _) ?_
    refine va_sld hx hb hXs hbl hbA hS (vp_in_nI (show (7 * i + 1) < Ls by omega) (by omega)) d_law_576 ?_
    refine xv_I (y := xs (7 * i + 1)) (congrArg xs (nI_clamp (by omega))) ?_
    refine lv_if_eq (tgt := 584) hx hb d_law_577 (by decide) (fun c9 => absurd c9 hz0) (fun _ => ?_)
    refine lv_iconst (v := nI 1) hx hb d_law_580 (by decide) ?_
    refine xv_I (y := bI true) rfl ?_
    refine lv_goto (tgt := 585) hx hb d_law_581 (by decide) ?_
    refine lv_aload_n hx hb d_law_585 rfl (lv_at hl 0 rfl) ?_
    refine lv_iload_n hx hb d_law_586 rfl (lv_at hl 3 rfl) ?_
    refine lv_iconst (v := nI 2) hx hb d_law_587 (by decide) ?_
    refine lv_iadd hx hb d_law_588 ?_
    refine xv_I (y := nI (7 * i + 2)) (nI_add _ _) ?_
    refine va_sld hx hb hXs hbl hbA hS (vp_in_nI (show (7 * i + 2) < Ls by omega) (by omega)) d_law_589 ?_
    refine xv_I (y := xs (7 * i + 2)) (congrArg xs (nI_clamp (by omega))) ?_
    have hFc := am_free hD hS hA0
    refine va_calli (va_runV (As := [.int (bI true), .int (xs (7 * i + 2))]) (rest := [.int (onR (fun t => nI (maxR (fun j => idF (fun q => wd (rc q)) rk dn true j rn 0 (wd t j) 0) 96)) (inN n (xs (7 * i + 2))))]) ⟨hx, hb, hml, hown, hA⟩ (c_Mo_idle l G L f H.size (pl_nd hD) hMo hru hX true (xs (7 * i + 2))) ⟨callB_of 2 hA (gAW kw_338) rfl rfl rfl (hA _ kw_172) (hA _ kw_339) (by decide +kernel) ⟨Nat.le_of_ble_eq_true rfl, Nat.le_of_ble_eq_true rfl⟩, (hA _ kw_340), (hA _ kw_341)⟩ (pz_preV (ci := 5) hP hK hMo.2.2.1 rfl) rfl rfl hl.1 rfl (lv_room (Nat.le_of_ble_eq_true rfl)) d_law_590 ⟨lq_1 (by omega), lq_2 (by omega)⟩) hS (fun q _ h => hFc q h) hFc (fun r_6 u9 t9 H1 locs ht9 hvm hw hWB hz1 hk1 hS => ?_)
    obtain ⟨L_2, f_2⟩ := u9
    obtain ⟨hP, hD1⟩ := hWB
    rw [ht9] at hP
    have hD := va_Dw hD1 hFc
    clear hD1 hk1 hz1 hFc ht9 hvm
    generalize H1 = H at hP hS ⊢
    dsimp only at hP hD
    obtain ⟨hr2, hz1, hk1, kn9, xf9, hB9, hX9⟩ := hw
    dsimp only at hz1 hB9
    replace hz1 := hz1.symm
    subst hz1
    refine lv_icmp_eq (tgt := 670) hx hb d_law_593 (by decide) (fun _ => ?_) (fun c9 => absurd ((tie_idle hT hn60 hAB true (xs (7 * i + 2))).trans hr2.symm) c9)
    refine W.widen (k := 18 + 2 * (i + 1)) (n := 18200 + 101 * (i + 1)) (by omega) (by omega) ?_
    exact kk H locs L f_2 ls hP hD hS (⟨n, rn, kd, ka, kb, kc, ca, cbb, ccc, mm, nu, rk, dn, rc, RK, DN, RC, ClI.kc (L := L) (f := f) ⟨cb, rb, mA, gA, rA, ad, wa, wd, rad, hx0, hCo, hRu, hI1, hI2, hW⟩ (KC.of hk1), ⟨g2, kA, fA, sA, tA, bA, r2A, dA, cA, eA, kn9, gf, bf, xf9, hB9, hG, hBi, hX9⟩, hO, hRow, hru⟩) hl

set_option maxHeartbeats 4000000 in
set_option maxRecDepth 100000 in
theorem op_12 {p : Program} {l : Launch} {e : Env} {s : State} {m : MethodId} {below : List Frame} {meth : Method} {c : Code} {b Ls : Nat} {xs : Nat → Int32} (hL : Ls ≤ 3584) (C0 : lw_At p s m meth c b Ls xs) {G : GG} (hK : KK G s) {A : Nat → Prop} (hA0 : ∀ q, s.heap.size ≤ q → A q) (hbA : ¬ A b) {x0 mo i : Nat} (hi : 7 * i + 7 ≤ Ls) {L : List Nat} {f : Nat → va_E} {H : Heap} {locs : List Loc} {ls : Array Slot} (hP : va_P G.1 vwCl (va_pl L f) H) (hD : va_D A (va_pl L f)) (hS : va_S A s.heap H locs) (hDI : DI G L f x0 mo) (hl : lv_has ls 4 [(0, .ref b), (1, .ref x0), (2, .ref mo), (3, .int (nI (7 * i)))]) (kk : ∀ (H : Heap) (locs : List Loc) (L : List Nat) (f : Nat → va_E) (ls : Array Slot), va_P G.1 vwCl (va_pl L f) H → va_D A (va_pl L f) → va_S A s.heap H locs → DI G L f x0 mo → lv_has ls 4 [(0, .ref b), (1, .ref x0), (2, .ref mo), (3, .int (nI (7 * i)))] → W p l e room_1 s m #[Value.ref b] below meth c H locs (18 + 2 * (i + 1)) (18200 + 101 * (i + 1)) (lw_Z below #[Value.ref b] s) (F0 m 670 ls [])) : W p l e room_1 s m #[Value.ref b] below meth c H locs (18 + 2 * i) (18200 + 101 * i) (lw_Z below #[Value.ref b] s) (F0 m 598 ls []) := by
  obtain ⟨hx, hb, hr, hml, hown0, hts, hXs, hbl, hlocks, hgv⟩ := C0
  have hown : s.vm.findClass R_La = some m.cls := hown0
  have hA : ∀ w ∈ AW, w.before #[Value.ref b] s = true := fun w hw => hts w (List.mem_filter.mp hw).1
  obtain ⟨n, rn, kd, ka, kb, kc, ca, cbb, ccc, mm, nu, rk, dn, rc, RK, DN, RC, ⟨cb, rb, mA, gA, rA, ad, wa, wd, rad, hx0, hCo, hRu, hI1, hI2, hW⟩, ⟨g2, kA, fA, sA, tA, bA, r2A, dA, cA, eA, kn, gf, bf, xf, hMo, hG, hBi, hX⟩, hO, hRow, hru⟩ := hDI
  have hn60 := hMo.1
  have hr20 := hMo.2.1
  have hrc : ∀ q, q < rn → rc q < n := fun q hq => by
    have a := hRow.1 q hq
    rw [a.2.2.2]
    exact (hru _ a.1).2
  have hAB : ∀ j, j < n → ∀ q, q < 6144 → aB (wd j) q = mB bf j q := fun j hj q hq => (aB_hold hO hW hn60 hq (j + 1) j (by omega) hj).trans (BiI_hold hO hn60 hBi hq (j + 1) j (by omega) hj).symm
  have hT : Tie rn (fun q => wd (rc q)) nu rk dn rc bf RK DN RC := ⟨hRow, fun q hq r hr => hAB (rc q) (hrc q hq) r hr, hr20, fun j hj => (hru j hj).1⟩
  have hRB := RuB_of hCo hRu hrc
  refine lv_aload_n hx hb d_law_598 rfl (lv_at hl 1 rfl) ?_
  refine lv_aload_n hx hb d_law_599 rfl (lv_at hl 0 rfl) ?_
  refine lv_iload_n hx hb d_law_600 rfl (lv_at hl 3 rfl) ?_
  refine lv_iconst (v := nI 1) hx hb d_law_601 (by decide) ?_
  refine lv_iadd hx hb d_law_602 ?_
  refine xv_I (y := nI (7 * i + 1)) (nI_add _ _) ?_
  refine va_sld hx hb hXs hbl hbA hS (vp_in_nI (show (7 * i + 1) < Ls by omega) (by omega)) d_law_603 ?_
  refine xv_I (y := xs (7 * i + 1)) (congrArg xs (nI_clamp (by omega))) ?_
  refine lv_aload_n hx hb d_law_604 rfl (lv_at hl 0 rfl) ?_
  refine lv_iload_n hx hb d_law_605 rfl (lv_at hl 3 rfl) ?_
  refine lv_iconst (v := nI 2) hx hb d_law_606 (by decide) ?_
  refine lv_iadd hx hb d_law_607 ?_
  refine xv_I (y := nI (7 * i + 2)) (nI_add _ _) ?_
  refine va_sld hx hb hXs hbl hbA hS (vp_in_nI (show (7 * i + 2) < Ls by omega) (by omega)) d_law_608 ?_
  refine xv_I (y := xs (7 * i + 2)) (congrArg xs (nI_clamp (by omega))) ?_
  refine vp_callSi (va_Run.run (va_runV (As := [.int (xs (7 * i + 1)), .int (xs (7 * i + 2))]) (rest := []) ⟨hx, hb, hml, hown, hA⟩ (c_De_apart l G L f hx0 hRB (xs (7 * i + 1)) (xs (7 * i + 2))) ⟨callB_of 2 hA (gAW kw_342) rfl rfl rfl (hA _ kw_5) (hA _ kw_343) (by decide +kernel) ⟨Nat.le_of_ble_eq_true rfl, Nat.le_of_ble_eq_true rfl⟩, (hA _ kw_344), (hA _ kw_345)⟩ (pw_preV (ci := 4) hP hK hx0 rfl) rfl rfl hl.1 rfl (lv_room (Nat.le_of_ble_eq_true rfl)) d_law_609 ⟨lq_1 (by omega), lq_2 (by omega)⟩)) (fun r_1 e_2 => ?_)
  subst e_2
  refine lv_aload_n hx hb d_law_612 rfl (lv_at hl 2 rfl) ?_
  refine lv_aload_n hx hb d_law_613 rfl (lv_at hl 0 rfl) ?_
  refine lv_iload_n hx hb d_law_614 rfl (lv_at hl 3 rfl) ?_
  refine lv_iconst (v := nI 1) hx hb d_law_615 (by decide) ?_
  refine lv_iadd hx hb d_law_616 ?_
  refine xv_I (y := nI (7 * i + 1)) (nI_add _ _) ?_
  refine va_sld hx hb hXs hbl hbA hS (vp_in_nI (show (7 * i + 1) < Ls by omega) (by omega)) d_law_617 ?_
  refine xv_I (y := xs (7 * i + 1)) (congrArg xs (nI_clamp (by omega))) ?_
  refine lv_aload_n hx hb d_law_618 rfl (lv_at hl 0 rfl) ?_
  refine lv_iload_n hx hb d_law_619 rfl (lv_at hl 3 rfl) ?_
  refine lv_iconst (v := nI 2) hx hb d_law_620 (by decide) ?_
  refine lv_iadd hx hb d_law_621 ?_
  refine xv_I (y := nI (7 * i + 2)) (nI_add _ _) ?_
  refine va_sld hx hb hXs hbl hbA hS (vp_in_nI (show (7 * i + 2) < Ls by omega) (by omega)) d_law_622 ?_
  refine xv_I (y := xs (7 * i + 2)) (congrArg xs (nI_clamp (by omega))) ?_
  have hFc := am_free hD hS hA0
  refine va_calli (va_runV (As := [.int (xs (7 * i + 1)), .int (xs (7 * i + 2))]) (rest := [.int (onR (fun u => onR (fun v => apR (fun i => alF (fun q => wd (rc q)) dn (u * 12 + i) rn 0 (-1) 0 ^^^ alF (fun q => wd (rc q)) dn (v * 12 + i) rn 0 (-1) 0) u 12 0) (inN 8 (xs (7 * i + 2)))) (inN 8 (xs (7 * i + 1))))]) ⟨hx, hb, hml, hown, hA⟩ (c_Mo_apart l G L f H.size (pl_nd hD) hMo hru hX (xs (7 * i + 1)) (xs (7 * i + 2))) ⟨callB_of 2 hA (gAW kw_346) rfl rfl rfl (hA _ kw_172) (hA _ kw_347) (by decide +kernel) ⟨Nat.le_of_ble_eq_true rfl, Nat.le_of_ble_eq_true rfl⟩, (hA _ kw_348), (hA _ kw_349)⟩ (pz_preV (ci := 5) hP hK hMo.2.2.1 rfl) rfl rfl hl.1 rfl (lv_room (Nat.le_of_ble_eq_true rfl)) d_law_623 ⟨lq_1 (by omega), lq_2 (by omega)⟩) hS (fun q _ h => hFc q h) hFc (fun r_3 u9 t9 H1 locs ht9 hvm hw hWB hz1 hk1 hS => ?_)
  obtain ⟨L_1, f_1⟩ := u9
  obtain ⟨hP, hD1⟩ := hWB
  rw [ht9] at hP
  have hD := va_Dw hD1 hFc
  clear hD1 hk1 hz1 hFc ht9 hvm
  generalize H1 = H at hP hS ⊢
  dsimp only at hP hD
  obtain ⟨hr2, hz1, hk1, kn9, xf9, hB9, hX9⟩ := hw
  dsimp only at hz1 hB9
  replace hz1 := hz1.symm
  subst hz1
  refine lv_icmp_eq (tgt := 670) hx hb d_law_626 (by decide) (fun _ => ?_) (fun c9 => absurd ((tie_apart hT (xs (7 * i + 1)) (xs (7 * i + 2))).trans hr2.symm) c9)
  refine W.widen (k := 18 + 2 * (i + 1)) (n := 18200 + 101 * (i + 1)) (by omega) (by omega) ?_
  exact kk H locs L f_1 ls hP hD hS (⟨n, rn, kd, ka, kb, kc, ca, cbb, ccc, mm, nu, rk, dn, rc, RK, DN, RC, ClI.kc (L := L) (f := f) ⟨cb, rb, mA, gA, rA, ad, wa, wd, rad, hx0, hCo, hRu, hI1, hI2, hW⟩ (KC.of hk1), ⟨g2, kA, fA, sA, tA, bA, r2A, dA, cA, eA, kn9, gf, bf, xf9, hB9, hG, hBi, hX9⟩, hO, hRow, hru⟩) hl

set_option maxHeartbeats 4000000 in
set_option maxRecDepth 100000 in
theorem op_13 {p : Program} {l : Launch} {e : Env} {s : State} {m : MethodId} {below : List Frame} {meth : Method} {c : Code} {b Ls : Nat} {xs : Nat → Int32} (hL : Ls ≤ 3584) (C0 : lw_At p s m meth c b Ls xs) {G : GG} (hK : KK G s) {A : Nat → Prop} (hA0 : ∀ q, s.heap.size ≤ q → A q) (hbA : ¬ A b) {x0 mo i : Nat} (hi : 7 * i + 7 ≤ Ls) {L : List Nat} {f : Nat → va_E} {H : Heap} {locs : List Loc} {ls : Array Slot} (hP : va_P G.1 vwCl (va_pl L f) H) (hD : va_D A (va_pl L f)) (hS : va_S A s.heap H locs) (hDI : DI G L f x0 mo) (hl : lv_has ls 4 [(0, .ref b), (1, .ref x0), (2, .ref mo), (3, .int (nI (7 * i)))]) (kk : ∀ (H : Heap) (locs : List Loc) (L : List Nat) (f : Nat → va_E) (ls : Array Slot), va_P G.1 vwCl (va_pl L f) H → va_D A (va_pl L f) → va_S A s.heap H locs → DI G L f x0 mo → lv_has ls 4 [(0, .ref b), (1, .ref x0), (2, .ref mo), (3, .int (nI (7 * i)))] → W p l e room_1 s m #[Value.ref b] below meth c H locs (18 + 2 * (i + 1)) (18200 + 101 * (i + 1)) (lw_Z below #[Value.ref b] s) (F0 m 670 ls [])) : W p l e room_1 s m #[Value.ref b] below meth c H locs (18 + 2 * i) (18200 + 101 * i) (lw_Z below #[Value.ref b] s) (F0 m 631 ls []) := by
  obtain ⟨hx, hb, hr, hml, hown0, hts, hXs, hbl, hlocks, hgv⟩ := C0
  have hown : s.vm.findClass R_La = some m.cls := hown0
  have hA : ∀ w ∈ AW, w.before #[Value.ref b] s = true := fun w hw => hts w (List.mem_filter.mp hw).1
  obtain ⟨n, rn, kd, ka, kb, kc, ca, cbb, ccc, mm, nu, rk, dn, rc, RK, DN, RC, ⟨cb, rb, mA, gA, rA, ad, wa, wd, rad, hx0, hCo, hRu, hI1, hI2, hW⟩, ⟨g2, kA, fA, sA, tA, bA, r2A, dA, cA, eA, kn, gf, bf, xf, hMo, hG, hBi, hX⟩, hO, hRow, hru⟩ := hDI
  have hn60 := hMo.1
  have hr20 := hMo.2.1
  have hrc : ∀ q, q < rn → rc q < n := fun q hq => by
    have a := hRow.1 q hq
    rw [a.2.2.2]
    exact (hru _ a.1).2
  have hAB : ∀ j, j < n → ∀ q, q < 6144 → aB (wd j) q = mB bf j q := fun j hj q hq => (aB_hold hO hW hn60 hq (j + 1) j (by omega) hj).trans (BiI_hold hO hn60 hBi hq (j + 1) j (by omega) hj).symm
  have hT : Tie rn (fun q => wd (rc q)) nu rk dn rc bf RK DN RC := ⟨hRow, fun q hq r hr => hAB (rc q) (hrc q hq) r hr, hr20, fun j hj => (hru j hj).1⟩
  have hRB := RuB_of hCo hRu hrc
  refine lv_aload_n hx hb d_law_631 rfl (lv_at hl 1 rfl) ?_
  refine vp_callSi (va_Run.run (va_runV (As := []) (rest := []) ⟨hx, hb, hml, hown, hA⟩ (c_De_allowed l G L f hx0 hRB) ⟨callB_of 0 hA (gAW kw_350) rfl rfl rfl (hA _ kw_5) (hA _ kw_351) (by decide +kernel) ⟨Nat.le_of_ble_eq_true rfl, Nat.le_of_ble_eq_true rfl⟩, (hA _ kw_352), (hA _ kw_353)⟩ (pw_preV (ci := 4) hP hK hx0 rfl) rfl rfl hl.1 rfl (lv_room (Nat.le_of_ble_eq_true rfl)) d_law_632 ⟨lq_1 (by omega), lq_2 (by omega)⟩)) (fun r_1 e_2 => ?_)
  subst e_2
  refine lv_aload_n hx hb d_law_635 rfl (lv_at hl 2 rfl) ?_
  have hFc := am_free hD hS hA0
  refine va_calli (va_runV (As := []) (rest := [.int (nI (sumP (fun j => alF (fun q => wd (rc q)) dn j rn 0 (-1) 0) 96))]) ⟨hx, hb, hml, hown, hA⟩ (c_Mo_allowed l G L f H.size (pl_nd hD) hMo hru hX) ⟨callB_of 0 hA (gAW kw_354) rfl rfl rfl (hA _ kw_172) (hA _ kw_355) (by decide +kernel) ⟨Nat.le_of_ble_eq_true rfl, Nat.le_of_ble_eq_true rfl⟩, (hA _ kw_356), (hA _ kw_357)⟩ (pz_preV (ci := 5) hP hK hMo.2.2.1 rfl) rfl rfl hl.1 rfl (lv_room (Nat.le_of_ble_eq_true rfl)) d_law_636 ⟨lq_1 (by omega), lq_2 (by omega)⟩) hS (fun q _ h => hFc q h) hFc (fun r_3 u9 t9 H1 locs ht9 hvm hw hWB hz1 hk1 hS => ?_)
  obtain ⟨L_1, f_1⟩ := u9
  obtain ⟨hP, hD1⟩ := hWB
  rw [ht9] at hP
  have hD := va_Dw hD1 hFc
  clear hD1 hk1 hz1 hFc ht9 hvm
  generalize H1 = H at hP hS ⊢
  dsimp only at hP hD
  obtain ⟨hr2, hz1, hk1, kn9, xf9, hB9, hX9⟩ := hw
  dsimp only at hz1 hB9
  replace hz1 := hz1.symm
  subst hz1
  refine lv_icmp_eq (tgt := 670) hx hb d_law_639 (by decide) (fun _ => ?_) (fun c9 => absurd ((tie_allowed hT).trans hr2.symm) c9)
  refine W.widen (k := 18 + 2 * (i + 1)) (n := 18200 + 101 * (i + 1)) (by omega) (by omega) ?_
  exact kk H locs L f_1 ls hP hD hS (⟨n, rn, kd, ka, kb, kc, ca, cbb, ccc, mm, nu, rk, dn, rc, RK, DN, RC, ClI.kc (L := L) (f := f) ⟨cb, rb, mA, gA, rA, ad, wa, wd, rad, hx0, hCo, hRu, hI1, hI2, hW⟩ (KC.of hk1), ⟨g2, kA, fA, sA, tA, bA, r2A, dA, cA, eA, kn9, gf, bf, xf9, hB9, hG, hBi, hX9⟩, hO, hRow, hru⟩) hl

set_option maxHeartbeats 4000000 in
set_option maxRecDepth 100000 in
theorem op_14 {p : Program} {l : Launch} {e : Env} {s : State} {m : MethodId} {below : List Frame} {meth : Method} {c : Code} {b Ls : Nat} {xs : Nat → Int32} (hL : Ls ≤ 3584) (C0 : lw_At p s m meth c b Ls xs) {G : GG} (hK : KK G s) {A : Nat → Prop} (hA0 : ∀ q, s.heap.size ≤ q → A q) (hbA : ¬ A b) {x0 mo i : Nat} (hi : 7 * i + 7 ≤ Ls) {L : List Nat} {f : Nat → va_E} {H : Heap} {locs : List Loc} {ls : Array Slot} (hP : va_P G.1 vwCl (va_pl L f) H) (hD : va_D A (va_pl L f)) (hS : va_S A s.heap H locs) (hDI : DI G L f x0 mo) (hl : lv_has ls 4 [(0, .ref b), (1, .ref x0), (2, .ref mo), (3, .int (nI (7 * i)))]) (kk : ∀ (H : Heap) (locs : List Loc) (L : List Nat) (f : Nat → va_E) (ls : Array Slot), va_P G.1 vwCl (va_pl L f) H → va_D A (va_pl L f) → va_S A s.heap H locs → DI G L f x0 mo → lv_has ls 4 [(0, .ref b), (1, .ref x0), (2, .ref mo), (3, .int (nI (7 * i)))] → W p l e room_1 s m #[Value.ref b] below meth c H locs (18 + 2 * (i + 1)) (18200 + 101 * (i + 1)) (lw_Z below #[Value.ref b] s) (F0 m 670 ls [])) : W p l e room_1 s m #[Value.ref b] below meth c H locs (18 + 2 * i) (18200 + 101 * i) (lw_Z below #[Value.ref b] s) (F0 m 644 ls []) := by
  obtain ⟨hx, hb, hr, hml, hown0, hts, hXs, hbl, hlocks, hgv⟩ := C0
  have hown : s.vm.findClass R_La = some m.cls := hown0
  have hA : ∀ w ∈ AW, w.before #[Value.ref b] s = true := fun w hw => hts w (List.mem_filter.mp hw).1
  obtain ⟨n, rn, kd, ka, kb, kc, ca, cbb, ccc, mm, nu, rk, dn, rc, RK, DN, RC, ⟨cb, rb, mA, gA, rA, ad, wa, wd, rad, hx0, hCo, hRu, hI1, hI2, hW⟩, ⟨g2, kA, fA, sA, tA, bA, r2A, dA, cA, eA, kn, gf, bf, xf, hMo, hG, hBi, hX⟩, hO, hRow, hru⟩ := hDI
  have hn60 := hMo.1
  have hr20 := hMo.2.1
  have hrc : ∀ q, q < rn → rc q < n := fun q hq => by
    have a := hRow.1 q hq
    rw [a.2.2.2]
    exact (hru _ a.1).2
  have hAB : ∀ j, j < n → ∀ q, q < 6144 → aB (wd j) q = mB bf j q := fun j hj q hq => (aB_hold hO hW hn60 hq (j + 1) j (by omega) hj).trans (BiI_hold hO hn60 hBi hq (j + 1) j (by omega) hj).symm
  have hT : Tie rn (fun q => wd (rc q)) nu rk dn rc bf RK DN RC := ⟨hRow, fun q hq r hr => hAB (rc q) (hrc q hq) r hr, hr20, fun j hj => (hru j hj).1⟩
  have hRB := RuB_of hCo hRu hrc
  refine lv_aload_n hx hb d_law_644 rfl (lv_at hl 1 rfl) ?_
  refine vp_callSi (va_Run.run (va_runV (As := []) (rest := []) ⟨hx, hb, hml, hown, hA⟩ (c_De_conditions l G L f hx0 hCo) ⟨callB_of 0 hA (gAW kw_358) rfl rfl rfl (hA _ kw_5) (hA _ kw_359) (by decide +kernel) ⟨Nat.le_of_ble_eq_true rfl, Nat.le_of_ble_eq_true rfl⟩, (hA _ kw_360), (hA _ kw_361)⟩ (pw_preV (ci := 4) hP hK hx0 rfl) rfl rfl hl.1 rfl (lv_room (Nat.le_of_ble_eq_true rfl)) d_law_645 ⟨lq_1 (by omega), lq_2 (by omega)⟩)) (fun r_1 e_2 => ?_)
  subst e_2
  refine lv_aload_n hx hb d_law_648 rfl (lv_at hl 2 rfl) ?_
  have hFc := am_free hD hS hA0
  refine va_calli (va_runV (As := []) (rest := [.int (nI n)]) ⟨hx, hb, hml, hown, hA⟩ (c_Mo_conditions l G L f H.size (pl_nd hD) hMo hX) ⟨callB_of 0 hA (gAW kw_362) rfl rfl rfl (hA _ kw_172) (hA _ kw_363) (by decide +kernel) ⟨Nat.le_of_ble_eq_true rfl, Nat.le_of_ble_eq_true rfl⟩, (hA _ kw_364), (hA _ kw_365)⟩ (pz_preV (ci := 5) hP hK hMo.2.2.1 rfl) rfl rfl hl.1 rfl (lv_room (Nat.le_of_ble_eq_true rfl)) d_law_649 ⟨lq_1 (by omega), lq_2 (by omega)⟩) hS (fun q _ h => hFc q h) hFc (fun r_3 u9 t9 H1 locs ht9 hvm hw hWB hz1 hk1 hS => ?_)
  obtain ⟨L_1, f_1⟩ := u9
  obtain ⟨hP, hD1⟩ := hWB
  rw [ht9] at hP
  have hD := va_Dw hD1 hFc
  clear hD1 hk1 hz1 hFc ht9 hvm
  generalize H1 = H at hP hS ⊢
  dsimp only at hP hD
  obtain ⟨hr2, hz1, hk1, kn9, xf9, hB9, hX9⟩ := hw
  dsimp only at hz1 hB9
  replace hz1 := hz1.symm
  subst hz1
  refine lv_icmp_eq (tgt := 670) hx hb d_law_652 (by decide) (fun _ => ?_) (fun c9 => absurd ((Eq.refl (nI n)).trans hr2.symm) c9)
  refine W.widen (k := 18 + 2 * (i + 1)) (n := 18200 + 101 * (i + 1)) (by omega) (by omega) ?_
  exact kk H locs L f_1 ls hP hD hS (⟨n, rn, kd, ka, kb, kc, ca, cbb, ccc, mm, nu, rk, dn, rc, RK, DN, RC, ClI.kc (L := L) (f := f) ⟨cb, rb, mA, gA, rA, ad, wa, wd, rad, hx0, hCo, hRu, hI1, hI2, hW⟩ (KC.of hk1), ⟨g2, kA, fA, sA, tA, bA, r2A, dA, cA, eA, kn9, gf, bf, xf9, hB9, hG, hBi, hX9⟩, hO, hRow, hru⟩) hl

set_option maxHeartbeats 4000000 in
set_option maxRecDepth 100000 in
theorem op_15 {p : Program} {l : Launch} {e : Env} {s : State} {m : MethodId} {below : List Frame} {meth : Method} {c : Code} {b Ls : Nat} {xs : Nat → Int32} (hL : Ls ≤ 3584) (C0 : lw_At p s m meth c b Ls xs) {G : GG} (hK : KK G s) {A : Nat → Prop} (hA0 : ∀ q, s.heap.size ≤ q → A q) (hbA : ¬ A b) {x0 mo i : Nat} (hi : 7 * i + 7 ≤ Ls) {L : List Nat} {f : Nat → va_E} {H : Heap} {locs : List Loc} {ls : Array Slot} (hP : va_P G.1 vwCl (va_pl L f) H) (hD : va_D A (va_pl L f)) (hS : va_S A s.heap H locs) (hDI : DI G L f x0 mo) (hl : lv_has ls 4 [(0, .ref b), (1, .ref x0), (2, .ref mo), (3, .int (nI (7 * i)))]) (kk : ∀ (H : Heap) (locs : List Loc) (L : List Nat) (f : Nat → va_E) (ls : Array Slot), va_P G.1 vwCl (va_pl L f) H → va_D A (va_pl L f) → va_S A s.heap H locs → DI G L f x0 mo → lv_has ls 4 [(0, .ref b), (1, .ref x0), (2, .ref mo), (3, .int (nI (7 * i)))] → W p l e room_1 s m #[Value.ref b] below meth c H locs (18 + 2 * (i + 1)) (18200 + 101 * (i + 1)) (lw_Z below #[Value.ref b] s) (F0 m 670 ls [])) : W p l e room_1 s m #[Value.ref b] below meth c H locs (18 + 2 * i) (18200 + 101 * i) (lw_Z below #[Value.ref b] s) (F0 m 657 ls []) := by
  obtain ⟨hx, hb, hr, hml, hown0, hts, hXs, hbl, hlocks, hgv⟩ := C0
  have hown : s.vm.findClass R_La = some m.cls := hown0
  have hA : ∀ w ∈ AW, w.before #[Value.ref b] s = true := fun w hw => hts w (List.mem_filter.mp hw).1
  obtain ⟨n, rn, kd, ka, kb, kc, ca, cbb, ccc, mm, nu, rk, dn, rc, RK, DN, RC, ⟨cb, rb, mA, gA, rA, ad, wa, wd, rad, hx0, hCo, hRu, hI1, hI2, hW⟩, ⟨g2, kA, fA, sA, tA, bA, r2A, dA, cA, eA, kn, gf, bf, xf, hMo, hG, hBi, hX⟩, hO, hRow, hru⟩ := hDI
  have hn60 := hMo.1
  have hr20 := hMo.2.1
  have hrc : ∀ q, q < rn → rc q < n := fun q hq => by
    have a := hRow.1 q hq
    rw [a.2.2.2]
    exact (hru _ a.1).2
  have hAB : ∀ j, j < n → ∀ q, q < 6144 → aB (wd j) q = mB bf j q := fun j hj q hq => (aB_hold hO hW hn60 hq (j + 1) j (by omega) hj).trans (BiI_hold hO hn60 hBi hq (j + 1) j (by omega) hj).symm
  have hT : Tie rn (fun q => wd (rc q)) nu rk dn rc bf RK DN RC := ⟨hRow, fun q hq r hr => hAB (rc q) (hrc q hq) r hr, hr20, fun j hj => (hru j hj).1⟩
  have hRB := RuB_of hCo hRu hrc
  refine lv_aload_n hx hb d_law_657 rfl (lv_at hl 1 rfl) ?_
  refine vp_callSi (va_Run.run (va_runV (As := []) (rest := []) ⟨hx, hb, hml, hown, hA⟩ (c_De_rules l G L f hx0 hRB) ⟨callB_of 0 hA (gAW kw_366) rfl rfl rfl (hA _ kw_5) (hA _ kw_367) (by decide +kernel) ⟨Nat.le_of_ble_eq_true rfl, Nat.le_of_ble_eq_true rfl⟩, (hA _ kw_368), (hA _ kw_369)⟩ (pw_preV (ci := 4) hP hK hx0 rfl) rfl rfl hl.1 rfl (lv_room (Nat.le_of_ble_eq_true rfl)) d_law_658 ⟨lq_1 (by omega), lq_2 (by omega)⟩)) (fun r_1 e_2 => ?_)
  subst e_2
  refine lv_aload_n hx hb d_law_661 rfl (lv_at hl 2 rfl) ?_
  have hFc := am_free hD hS hA0
  refine va_calli (va_runV (As := []) (rest := [.int (nI rn)]) ⟨hx, hb, hml, hown, hA⟩ (c_Mo_rules l G L f H.size (pl_nd hD) hMo hX) ⟨callB_of 0 hA (gAW kw_370) rfl rfl rfl (hA _ kw_172) (hA _ kw_371) (by decide +kernel) ⟨Nat.le_of_ble_eq_true rfl, Nat.le_of_ble_eq_true rfl⟩, (hA _ kw_372), (hA _ kw_373)⟩ (pz_preV (ci := 5) hP hK hMo.2.2.1 rfl) rfl rfl hl.1 rfl (lv_room (Nat.le_of_ble_eq_true rfl)) d_law_662 ⟨lq_1 (by omega), lq_2 (by omega)⟩) hS (fun q _ h => hFc q h) hFc (fun r_3 u9 t9 H1 locs ht9 hvm hw hWB hz1 hk1 hS => ?_)
  obtain ⟨L_1, f_1⟩ := u9
  obtain ⟨hP, hD1⟩ := hWB
  rw [ht9] at hP
  have hD := va_Dw hD1 hFc
  clear hD1 hk1 hz1 hFc ht9 hvm
  generalize H1 = H at hP hS ⊢
  dsimp only at hP hD
  obtain ⟨hr2, hz1, hk1, kn9, xf9, hB9, hX9⟩ := hw
  dsimp only at hz1 hB9
  replace hz1 := hz1.symm
  subst hz1
  refine lv_icmp_eq (tgt := 670) hx hb d_law_665 (by decide) (fun _ => ?_) (fun c9 => absurd ((Eq.refl (nI rn)).trans hr2.symm) c9)
  refine W.widen (k := 18 + 2 * (i + 1)) (n := 18200 + 101 * (i + 1)) (by omega) (by omega) ?_
  exact kk H locs L f_1 ls hP hD hS (⟨n, rn, kd, ka, kb, kc, ca, cbb, ccc, mm, nu, rk, dn, rc, RK, DN, RC, ClI.kc (L := L) (f := f) ⟨cb, rb, mA, gA, rA, ad, wa, wd, rad, hx0, hCo, hRu, hI1, hI2, hW⟩ (KC.of hk1), ⟨g2, kA, fA, sA, tA, bA, r2A, dA, cA, eA, kn9, gf, bf, xf9, hB9, hG, hBi, hX9⟩, hO, hRow, hru⟩) hl
