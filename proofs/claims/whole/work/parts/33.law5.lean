theorem kw_374 : (.instantiable R_De 2 : Cond) ∈ AW := aw_t 10 (by decide +kernel) (by decide +kernel)
theorem kw_375 : (.instantiable R_Mo 14 : Cond) ∈ AW := aw_t 316 (by decide +kernel) (by decide +kernel)
theorem kw_376 : (.classLink R_La 7 R_De : Cond) ∈ AW := aw_t 9 (by decide +kernel) (by decide +kernel)
theorem kw_377 : (.code y_De_init b_De_init 1 none : Cond) ∈ AW := aw_t 13 (by decide +kernel) (by decide +kernel)
theorem kw_378 : (.methodLink R_La 9 y_De_init : Cond) ∈ AW := aw_t 11 (by decide +kernel) (by decide +kernel)
theorem kw_379 : (.instanceMethod y_De_init : Cond) ∈ AW := aw_t 12 (by decide +kernel) (by decide +kernel)
theorem kw_380 : (.classLink R_La 10 R_Mo : Cond) ∈ AW := aw_t 315 (by decide +kernel) (by decide +kernel)
theorem kw_381 : (.code y_Mo_init b_Mo_init 1 none : Cond) ∈ AW := aw_t 319 (by decide +kernel) (by decide +kernel)
theorem kw_382 : (.methodLink R_La 12 y_Mo_init : Cond) ∈ AW := aw_t 317 (by decide +kernel) (by decide +kernel)
theorem kw_383 : (.instanceMethod y_Mo_init : Cond) ∈ AW := aw_t 318 (by decide +kernel) (by decide +kernel)
theorem lp_gt {i Ls : Nat} (hL : Ls ≤ 3584) (hi : i ≤ 600) (h : ¬ 7 * i + 7 ≤ Ls) : nI Ls - nI 7 < nI (7 * i) := by
  rw [Int32.lt_iff_toInt_lt, pk_sub_toInt (by omega) (by omega), nI_toInt (by omega)]
  omega
theorem lp_le {i Ls : Nat} (hL : Ls ≤ 3584) (h : 7 * i + 7 ≤ Ls) : ¬ nI Ls - nI 7 < nI (7 * i) := by
  rw [Int32.lt_iff_toInt_lt, pk_sub_toInt (by omega) (by omega), nI_toInt (by omega)]
  omega
theorem upto_0 (ad : Nat → Nat) : upto 0 ad = fun _ => none := by
  funext i
  exact upto_f (Nat.zero_le i)
theorem arr_p {A : Array Value} {s : State} {ty : FieldType} (h : (Cond.arrayClass ty).before A s = true) : ∃ cA, ArrOfT s cA ty ∧ s.vm.findClass ("[" ++ ty.toString) = some cA := by
  obtain ⟨cA, kA, comp, h1, h2, h3⟩ := Cond.arrayClass_spec h
  exact ⟨cA, fun n z => ⟨fun k h => (by cases h), kA, h2, comp, h3⟩, h1⟩
theorem arr_o {A : Array Value} {s : State} {C : String} (h : (Cond.arrayOver (.object C)).before A s = true) : ∃ cA, ArrOfT s cA (.object C) ∧ va_RA s cA (.object C) := by
  obtain ⟨comp, cA, kA, h1, h2, h3, h4, h5⟩ := Cond.arrayOver_spec h
  exact ⟨cA, fun n z => ⟨fun k h => (by cases h), kA, h3, comp, h4⟩, kA, comp, h3, h4, h1, h5⟩

theorem kk_start {s : State} {b : Nat} (hts : ∀ w ∈ lw_tbl, w.before #[Value.ref b] s = true) : ∃ G : GG, KK G s := by
  have hA : ∀ w ∈ AW, w.before #[Value.ref b] s = true := fun w hw => hts w (List.mem_filter.mp hw).1
  obtain ⟨c0, i0, k0⟩ := u_known (C := R_Co) (T := T_Co) (N := 5) (n := 5) hA in_Co (hA _ kw_133)
  obtain ⟨c1, i1, k1⟩ := u_known (C := R_Cb) (T := T_Cb) (N := 3) (n := 3) hA in_Cb (hA _ kw_125)
  obtain ⟨c2, i2, k2⟩ := u_known (C := R_Ru) (T := T_Ru) (N := 4) (n := 4) hA in_Ru (hA _ kw_148)
  obtain ⟨c3, i3, k3⟩ := u_known (C := R_Rb) (T := T_Rb) (N := 2) (n := 2) hA in_Rb (hA _ kw_129)
  obtain ⟨c4, i4, k4⟩ := u_known (C := R_De) (T := T_De) (N := 2) (n := 2) hA in_De (hA _ kw_374)
  obtain ⟨c5, i5, k5⟩ := u_known (C := R_Mo) (T := T_Mo) (N := 14) (n := 14) hA in_Mo (hA _ kw_375)
  obtain ⟨a0, y0, z0⟩ := arr_p (hA _ kw_115)
  obtain ⟨a1, y1, z1⟩ := arr_p (hA _ kw_120)
  obtain ⟨a4, y4, z4⟩ := arr_p (hA _ kw_245)
  have o2 : (Cond.arrayOver (.object "RightDesk$Condition")).before #[Value.ref b] s = true := hts _ (List.mem_append_right _ (List.mem_of_getElem? (i := 24) (by decide +kernel)))
  obtain ⟨a2, y2, z2⟩ := arr_o o2
  have o3 : (Cond.arrayOver (.object "RightDesk$Rule")).before #[Value.ref b] s = true := hts _ (List.mem_append_right _ (List.mem_of_getElem? (i := 44) (by decide +kernel)))
  obtain ⟨a3, y3, z3⟩ := arr_o o3
  refine ⟨((fun k => match k with | 0 => c0 | 1 => c1 | 2 => c2 | 3 => c3 | 4 => c4 | _ => c5, fun k => match k with | 0 => i0 | 1 => i1 | 2 => i2 | 3 => i3 | 4 => i4 | _ => i5), fun k => match k with | 0 => a0 | 1 => a1 | 2 => a2 | 3 => a3 | _ => a4), ⟨fun k q hq => ?_, fun k q hq => ?_⟩, fun w hw => va_Nw.of (nest_tab (gNest_all w hw)) (hts w (List.mem_append_right _ (gNest_tbl w hw))), va_AO.of o2, va_AO.of o3⟩
  · match k, hq with
    | 0, hq => cases hq; exact k0
    | 1, hq => cases hq; exact k1
    | 2, hq => cases hq; exact k2
    | 3, hq => cases hq; exact k3
    | 4, hq => cases hq; exact k4
    | 5, hq => cases hq; exact k5
    | k + 6, hq => simp [vwCl] at hq
  · match k, hq with
    | 0, hq => cases hq; exact ⟨y0, z0⟩
    | 1, hq => cases hq; exact ⟨y1, z1⟩
    | 2, hq => cases hq; exact ⟨y2, z2⟩
    | 3, hq => cases hq; exact ⟨y3, z3⟩
    | 4, hq => cases hq; exact ⟨y4, z4⟩
    | k + 5, hq => simp [gTys] at hq

set_option maxHeartbeats 4000000 in
set_option maxRecDepth 100000 in
theorem law_end {p : Program} {l : Launch} {e : Env} {s : State} {m : MethodId} {below : List Frame} {meth : Method} {c : Code} {b Ls : Nat} {xs : Nat → Int32} (hL : Ls ≤ 3584) (C0 : lw_At p s m meth c b Ls xs) {x0 mo i : Nat} {H : Heap} {locs : List Loc} {ls : Array Slot} (hS : va_S (fun q : Nat => s.heap.size ≤ q) s.heap H locs) (hi : ¬ 7 * i + 7 ≤ Ls) (hi2 : i ≤ 600) (hl : lv_has ls 4 [(0, .ref b), (1, .ref x0), (2, .ref mo), (3, .int (nI (7 * i)))]) : W p l e room_1 s m #[Value.ref b] below meth c H locs (18 + 2 * i) (18200 + 101 * i) (lw_Z below #[Value.ref b] s) (F0 m 18 ls []) := by
  obtain ⟨hx, hb, hr, hml, hown0, hts, hXs, hbl, hlocks, hgv⟩ := C0
  have hown : s.vm.findClass R_La = some m.cls := hown0
  have hA : ∀ w ∈ AW, w.before #[Value.ref b] s = true := fun w hw => hts w (List.mem_filter.mp hw).1
  have hbA : ¬ (fun q : Nat => s.heap.size ≤ q) b := Nat.not_le.mpr hbl
  refine lv_iload_n hx hb d_law_18 rfl (lv_at hl 3 rfl) ?_
  refine lv_aload_n hx hb d_law_19 rfl (lv_at hl 0 rfl) ?_
  refine va_slen hx hb hXs hbl hbA hS d_law_20 ?_
  refine xv_I (y := nI Ls) rfl ?_
  refine lv_bipush (v := nI 7) hx hb d_law_21 (by decide) ?_
  refine lv_isub hx hb d_law_23 ?_
  refine lv_icmp_gt (tgt := 676) hx hb d_law_24 (by decide) (fun _ => ?_) (fun c9 => absurd (lp_gt hL hi2 hi) c9)
  refine lv_iconst (v := 1) hx hb d_law_676 (by decide) ?_
  refine va_forget (fun q hq => hS.2.2 q hq) ?_
  refine W.widen (k := 600000) (n := 7302250) (by omega) (by omega) ?_
  exact lw_ret hx hb hr hlocks d_law_677

set_option maxHeartbeats 4000000 in
set_option maxRecDepth 100000 in
theorem law_step {p : Program} {l : Launch} {e : Env} {s : State} {m : MethodId} {below : List Frame} {meth : Method} {c : Code} {b Ls : Nat} {xs : Nat → Int32} (hL : Ls ≤ 3584) (C0 : lw_At p s m meth c b Ls xs) {G : GG} (hK : KK G s) {A : Nat → Prop} (hA0 : ∀ q, s.heap.size ≤ q → A q) (hbA : ¬ A b) {x0 mo i : Nat} (hi : 7 * i + 7 ≤ Ls) {L : List Nat} {f : Nat → va_E} {H : Heap} {locs : List Loc} {ls : Array Slot} (hP : va_P G.1 vwCl (va_pl L f) H) (hD : va_D A (va_pl L f)) (hS : va_S A s.heap H locs) (hDI : DI G L f x0 mo) (hl : lv_has ls 4 [(0, .ref b), (1, .ref x0), (2, .ref mo), (3, .int (nI (7 * i)))]) (kk : ∀ (H : Heap) (locs : List Loc) (L : List Nat) (f : Nat → va_E) (ls : Array Slot), va_P G.1 vwCl (va_pl L f) H → va_D A (va_pl L f) → va_S A s.heap H locs → DI G L f x0 mo → lv_has ls 4 [(0, .ref b), (1, .ref x0), (2, .ref mo), (3, .int (nI (7 * (i + 1))))] → W p l e room_1 s m #[Value.ref b] below meth c H locs (18 + 2 * (i + 1)) (18200 + 101 * (i + 1)) (lw_Z below #[Value.ref b] s) (F0 m 18 ls [])) : W p l e room_1 s m #[Value.ref b] below meth c H locs (18 + 2 * i) (18200 + 101 * i) (lw_Z below #[Value.ref b] s) (F0 m 18 ls []) := by
  obtain ⟨hx, hb, hr, hml, hown0, hts, hXs, hbl, hlocks, hgv⟩ := id C0
  have hown : s.vm.findClass R_La = some m.cls := hown0
  have hA : ∀ w ∈ AW, w.before #[Value.ref b] s = true := fun w hw => hts w (List.mem_filter.mp hw).1
  have kk2 : ∀ (H : Heap) (locs : List Loc) (L : List Nat) (f : Nat → va_E) (ls : Array Slot), va_P G.1 vwCl (va_pl L f) H → va_D A (va_pl L f) → va_S A s.heap H locs → DI G L f x0 mo → lv_has ls 4 [(0, .ref b), (1, .ref x0), (2, .ref mo), (3, .int (nI (7 * i)))] → W p l e room_1 s m #[Value.ref b] below meth c H locs (18 + 2 * (i + 1)) (18200 + 101 * (i + 1)) (lw_Z below #[Value.ref b] s) (F0 m 670 ls []) := by
    intro H locs L f ls hP hD hS hDI hl
    refine lv_iinc (v := nI (7 * (i + 1))) (lv' := [(3, .int (nI (7 * (i + 1)))), (0, .ref b), (1, .ref x0), (2, .ref mo)]) hx hb d_law_670 hl (k := 3) rfl (nI_add (7 * i) 7) (by decide) rfl (fun ls hl => ?_)
    refine lv_goto (tgt := 18) hx hb d_law_673 (by decide) ?_
    exact kk H locs L f ls hP hD hS hDI (lv_sub hl [1, 2, 3, 0] rfl)
  refine lv_iload_n hx hb d_law_18 rfl (lv_at hl 3 rfl) ?_
  refine lv_aload_n hx hb d_law_19 rfl (lv_at hl 0 rfl) ?_
  refine va_slen hx hb hXs hbl hbA hS d_law_20 ?_
  refine xv_I (y := nI Ls) rfl ?_
  refine lv_bipush (v := nI 7) hx hb d_law_21 (by decide) ?_
  refine lv_isub hx hb d_law_23 ?_
  refine lv_icmp_gt (tgt := 676) hx hb d_law_24 (by decide) (fun c9 => absurd c9 (lp_le hL hi)) (fun _ => ?_)
  refine lv_aload_n hx hb d_law_27 rfl (lv_at hl 0 rfl) ?_
  refine lv_iload_n hx hb d_law_28 rfl (lv_at hl 3 rfl) ?_
  refine va_sld hx hb hXs hbl hbA hS (vp_in_nI (show (7 * i) < Ls by omega) (by omega)) d_law_29 ?_
  refine xv_I (y := xs (7 * i)) (congrArg xs (nI_clamp (by omega))) ?_
  refine lv_bipush (v := nI 15) hx hb d_law_30 (by decide) ?_
  refine lv_iand hx hb d_law_32 ?_
  obtain ⟨j, hj, ej⟩ := pk_andE (xs (7 * i)) (m := nI 15) 4 (by decide)
  refine xv_I (y := nI j) ej ?_
  have hj : j < 16 := hj
  rcases (show j = 0 ∨ j = 1 ∨ j = 2 ∨ j = 3 ∨ j = 4 ∨ j = 5 ∨ j = 6 ∨ j = 7 ∨ j = 8 ∨ j = 9 ∨ j = 10 ∨ j = 11 ∨ j = 12 ∨ j = 13 ∨ j = 14 ∨ j = 15 by omega) with rfl | rfl | rfl | rfl | rfl | rfl | rfl | rfl | rfl | rfl | rfl | rfl | rfl | rfl | rfl | rfl
  · refine lv_tableIn (x := nI 0) (off := 79) (tgt := 112) hx hb d_law_33 (by decide) (by decide) rfl (by decide) ?_
    exact op_0 hL C0 hK hA0 hbA hi hP hD hS hDI hl kk2
  · refine lv_tableIn (x := nI 1) (off := 138) (tgt := 171) hx hb d_law_33 (by decide) (by decide) rfl (by decide) ?_
    exact op_1 hL C0 hK hA0 hbA hi hP hD hS hDI hl kk2
  · refine lv_tableIn (x := nI 2) (off := 191) (tgt := 224) hx hb d_law_33 (by decide) (by decide) rfl (by decide) ?_
    exact op_2 hL C0 hK hA0 hbA hi hP hD hS hDI hl kk2
  · refine lv_tableIn (x := nI 3) (off := 250) (tgt := 283) hx hb d_law_33 (by decide) (by decide) rfl (by decide) ?_
    exact op_3 hL C0 hK hA0 hbA hi hP hD hS hDI hl kk2
  · refine lv_tableIn (x := nI 4) (off := 273) (tgt := 306) hx hb d_law_33 (by decide) (by decide) rfl (by decide) ?_
    exact op_4 hL C0 hK hA0 hbA hi hP hD hS hDI hl kk2
  · refine lv_tableIn (x := nI 5) (off := 348) (tgt := 381) hx hb d_law_33 (by decide) (by decide) rfl (by decide) ?_
    exact op_5 hL C0 hK hA0 hbA hi hP hD hS hDI hl kk2
  · refine lv_tableIn (x := nI 6) (off := 371) (tgt := 404) hx hb d_law_33 (by decide) (by decide) rfl (by decide) ?_
    exact op_6 hL C0 hK hA0 hbA hi hP hD hS hDI hl kk2
  · refine lv_tableIn (x := nI 7) (off := 404) (tgt := 437) hx hb d_law_33 (by decide) (by decide) rfl (by decide) ?_
    exact op_7 hL C0 hK hA0 hbA hi hP hD hS hDI hl kk2
  · refine lv_tableIn (x := nI 8) (off := 437) (tgt := 470) hx hb d_law_33 (by decide) (by decide) rfl (by decide) ?_
    exact op_8 hL C0 hK hA0 hbA hi hP hD hS hDI hl kk2
  · refine lv_tableIn (x := nI 9) (off := 460) (tgt := 493) hx hb d_law_33 (by decide) (by decide) rfl (by decide) ?_
    exact op_9 hL C0 hK hA0 hbA hi hP hD hS hDI hl kk2
  · refine lv_tableIn (x := nI 10) (off := 493) (tgt := 526) hx hb d_law_33 (by decide) (by decide) rfl (by decide) ?_
    exact op_10 hL C0 hK hA0 hbA hi hP hD hS hDI hl kk2
  · refine lv_tableIn (x := nI 11) (off := 516) (tgt := 549) hx hb d_law_33 (by decide) (by decide) rfl (by decide) ?_
    exact op_11 hL C0 hK hA0 hbA hi hP hD hS hDI hl kk2
  · refine lv_tableIn (x := nI 12) (off := 565) (tgt := 598) hx hb d_law_33 (by decide) (by decide) rfl (by decide) ?_
    exact op_12 hL C0 hK hA0 hbA hi hP hD hS hDI hl kk2
  · refine lv_tableIn (x := nI 13) (off := 598) (tgt := 631) hx hb d_law_33 (by decide) (by decide) rfl (by decide) ?_
    exact op_13 hL C0 hK hA0 hbA hi hP hD hS hDI hl kk2
  · refine lv_tableIn (x := nI 14) (off := 611) (tgt := 644) hx hb d_law_33 (by decide) (by decide) rfl (by decide) ?_
    exact op_14 hL C0 hK hA0 hbA hi hP hD hS hDI hl kk2
  · refine lv_tableIn (x := nI 15) (off := 624) (tgt := 657) hx hb d_law_33 (by decide) (by decide) rfl (by decide) ?_
    exact op_15 hL C0 hK hA0 hbA hi hP hD hS hDI hl kk2

set_option maxHeartbeats 4000000 in
set_option maxRecDepth 100000 in
theorem law_loop {p : Program} {l : Launch} {e : Env} {s : State} {m : MethodId} {below : List Frame} {meth : Method} {c : Code} {b Ls : Nat} {xs : Nat → Int32} (hL : Ls ≤ 3584) (C0 : lw_At p s m meth c b Ls xs) {G : GG} (hK : KK G s) {x0 mo : Nat} :
    ∀ (k i : Nat), i + k = 513 → ∀ (H : Heap) (locs : List Loc) (L : List Nat) (f : Nat → va_E) (ls : Array Slot), va_P G.1 vwCl (va_pl L f) H → va_D (fun q : Nat => s.heap.size ≤ q) (va_pl L f) → va_S (fun q : Nat => s.heap.size ≤ q) s.heap H locs → DI G L f x0 mo → lv_has ls 4 [(0, .ref b), (1, .ref x0), (2, .ref mo), (3, .int (nI (7 * i)))] → W p l e room_1 s m #[Value.ref b] below meth c H locs (18 + 2 * i) (18200 + 101 * i) (lw_Z below #[Value.ref b] s) (F0 m 18 ls []) := by
  intro k
  induction k with
  | zero =>
    intro i hik H locs L f ls hP hD hS hDI hl
    exact law_end hL C0 hS (by omega) (by omega) hl
  | succ k ih =>
    intro i hik H locs L f ls hP hD hS hDI hl
    by_cases hi : 7 * i + 7 ≤ Ls
    · exact law_step hL C0 hK (fun _ h => h) (Nat.not_le.mpr C0.2.2.2.2.2.2.2.1) hi hP hD hS hDI hl (fun H locs L f ls hP hD hS hDI hl => ih (i + 1) (by omega) H locs L f ls hP hD hS hDI hl)
    · exact law_end hL C0 hS hi (by omega) hl

theorem st_0 {G : GG} {L : List Nat} {f : Nat → va_E} {x0 cb rb mA gA rA mo g2 kA fA sA tA bA r2A dA cA eA : Nat} (d1 : Lk L f x0 (.inr (4, [.ref cb, .ref rb]))) (d2 : Lk L f cb (.inr (1, [.ref mA, .ref gA, .int (nI 0)]))) (d3 : Lk L f mA (.inl (G.2 2, 60, .inr (.inr (.inr (.inr (fun _ => none))))))) (d4 : Lk L f gA (.inl (G.2 1, 64, .inl (fun _ => 0)))) (d5 : Lk L f rb (.inr (3, [.ref rA, .int (nI 0)]))) (d6 : Lk L f rA (.inl (G.2 3, 20, .inr (.inr (.inr (.inr (fun _ => none)))))))
    (hMo : MoB G L f mo g2 kA fA sA tA bA r2A dA cA eA 0 0 false (fun _ => 0) (fun _ => 0) (fun _ => 0) (fun _ => 0) (fun _ => 0) (fun _ => 0) (fun _ => 0) (fun _ => false) (fun _ => 0) (fun _ => 0)) : DI G L f x0 mo := by
  refine ⟨0, 0, fun _ => 0, fun _ => 0, fun _ => 0, fun _ => 0, fun _ => 0, fun _ => 0, fun _ => 0, fun _ => false, fun _ => 0, fun _ => 0, fun _ => false, fun _ => 0, fun _ => 0, fun _ => false, fun _ => 0, ?_, ?_, ?_⟩
  · refine ⟨cb, rb, mA, gA, rA, fun _ => 0, fun _ => 0, fun _ _ => 0, fun _ => 0, d1, ⟨Nat.zero_le _, d2, by rw [upto_0]; exact d3, d4, fun i h => absurd h (Nat.not_lt_zero i)⟩, ⟨Nat.zero_le _, d5, by rw [upto_0]; exact d6, fun i h => absurd h (Nat.not_lt_zero i)⟩, fun i _ h => absurd h (Nat.not_lt_zero i), fun i _ h => absurd h (Nat.not_lt_zero i), fun i h => absurd h (Nat.not_lt_zero i)⟩
  · exact ⟨g2, kA, fA, sA, tA, bA, r2A, dA, cA, eA, false, fun _ => 0, fun _ => 0, fun _ => 0, hMo, fun _ _ g hg => iB_0 g (by omega), fun i h => absurd h (Nat.not_lt_zero i), KnI_no⟩
  · exact ⟨fun i h => absurd h (Nat.not_lt_zero i), ⟨fun i h => absurd h (Nat.not_lt_zero i), fun i h => absurd h (Nat.not_lt_zero i), fun _ q _ h => absurd h (Nat.not_lt_zero q)⟩, fun i h => absurd h (Nat.not_lt_zero i)⟩

set_option maxHeartbeats 4000000 in
set_option maxRecDepth 100000 in
theorem whole_start {p : Program} {e : Env} {s : State} {m : MethodId} {below : List Frame} {meth : Method} {c : Code} (l : Launch) {b L : Nat} {xs : Nat → Int32} (hL : L ≤ 3584) (C0 : lw_At p s m meth c b L xs) : W p l e room_1 s m #[Value.ref b] below meth c s.heap [] 0 0 (lw_Z below #[Value.ref b] s) (entryFrame m ([Value.ref b] : List Value).toArray 4) := by
  obtain ⟨Ls, hLs⟩ : ∃ z, z = L := ⟨_, rfl⟩
  subst hLs
  obtain ⟨hx, hb, hr, hml, hown0, hts, hXs, hbl, hlocks, hgv⟩ := id C0
  have hown : s.vm.findClass R_La = some m.cls := hown0
  have hA : ∀ w ∈ AW, w.before #[Value.ref b] s = true := fun w hw => hts w (List.mem_filter.mp hw).1
  have hA0 : ∀ q : Nat, s.heap.size ≤ q → (fun q : Nat => s.heap.size ≤ q) q := fun _ h => h
  have hbA : ¬ (fun q : Nat => s.heap.size ≤ q) b := Nat.not_le.mpr hbl
  obtain ⟨G, hK⟩ := kk_start hts
  obtain ⟨L, hLe⟩ : ∃ z : List Nat, z = [] := ⟨_, rfl⟩
  obtain ⟨f, hfe⟩ : ∃ z : Nat → va_E, z = fun _ => .inr (0, []) := ⟨_, rfl⟩
  have hS : va_S (fun q : Nat => s.heap.size ≤ q) s.heap s.heap [] := va_S.rf
  have hP : va_P G.1 vwCl (va_pl L f) s.heap := by rw [hLe]; exact fun k q h => by simp [va_pl] at h
  have hD : va_D (fun q : Nat => s.heap.size ≤ q) (va_pl L f) := by rw [hLe]; exact ⟨fun i j p q h => by simp [va_pl] at h, fun k q h => by simp [va_pl] at h⟩
  have hl := lv_entry ([.ref b]) (n := 4) (Nat.le_of_ble_eq_true rfl)
  rw [lg_entry_eq]
  generalize (lg_sl ([.ref b]) ++ List.replicate (4 - (lg_sl ([.ref b])).length) Slot.unset).toArray = ls at hl ⊢
  have hl : lv_has ls 4 [(0, .ref b)] := hl
  refine xw_new (D := G.1) (ci := 4) (fs := [.null, .null]) (C := R_De) (T := T_De) (N := 2) hx hb hA in_De ty_De tyok_De hown (hA _ kw_376) (hA _ kw_374) (hA _ kw_5) hK.1 hP hD hS hA0 rfl (fun j hj => by rcases (show j = 0 ∨ j = 1 by omega) with rfl | rfl <;> rfl) (Nat.le_of_ble_eq_true rfl) (Nat.le_of_ble_eq_true rfl) d_law_0 (fun q_1 H hq_2 hP hD hS => ?_)
  refine W.widen (k := 1) (n := 2) (by omega) (by omega) ?_
  obtain ⟨f_1, ef_1⟩ : ∃ z : Nat → va_E, z = va_up f q_1 (.inr (4, [.null, .null])) := ⟨_, rfl⟩
  obtain ⟨L_1, eL_1⟩ : ∃ z : List Nat, z = L ++ [q_1] := ⟨_, rfl⟩
  rw [← ef_1, ← eL_1] at hP hD
  have t_1 : Lk L_1 f_1 q_1 (.inr (4, [.null, .null])) := by rw [ef_1, eL_1]; exact Lk.new
  refine lv_dup hx hb d_law_3 rfl ?_
  have hFc := am_free hD hS hA0
  refine va_callv (va_runI (As := []) (rest := [.ref q_1]) ⟨hx, hb, hml, hown, hA⟩ (c_De_init l G L_1 f_1 H.size (pl_nd hD) t_1) ⟨callB_of 0 hA (gAW kw_377) rfl rfl rfl (hA _ kw_5) (hA _ kw_378) (by decide +kernel) ⟨Nat.le_of_ble_eq_true rfl, Nat.le_of_ble_eq_true rfl⟩, rfl, (hA _ kw_379)⟩ (pz_preS hP hK) rfl rfl hl.1 rfl (lv_room (Nat.le_of_ble_eq_true rfl)) d_law_4 ⟨Nat.le_of_ble_eq_true rfl, Nat.le_of_ble_eq_true rfl⟩) hS (fun q _ h => hFc q h) hFc (fun u9 t9 H1 locs ht9 hvm hw hWB hz1 hk1 hS => ?_)
  obtain ⟨L_2, f_2⟩ := u9
  obtain ⟨hP, hD1⟩ := hWB
  rw [ht9] at hP
  have hD := va_Dw hD1 hFc
  clear hD1 hk1 hz1 hFc ht9 hvm
  generalize H1 = H at hP hS ⊢
  dsimp only at hP hD
  obtain ⟨hkd, cb, mA, gA, rb, rA, d1, d2, d3, d4, d5, d6⟩ := hw
  refine W.widen (k := 6) (n := 151) (by omega) (by omega) ?_
  dsimp only at d1 d2 d3 d4 d5 d6
  refine lv_astore_n (lv' := [(1, .ref q_1), (0, .ref b)]) hx hb d_law_7 rfl hl (by decide) rfl (fun ls hl => ?_)
  refine xw_new (D := G.1) (ci := 5) (fs := [.int 0, .null, .int 0, .null, .null, .null, .null, .null, .int 0, .null, .null, .null, .null, .int 0]) (C := R_Mo) (T := T_Mo) (N := 14) hx hb hA in_Mo ty_Mo tyok_Mo hown (hA _ kw_380) (hA _ kw_375) (hA _ kw_172) hK.1 hP hD hS hA0 rfl (fun j hj => by rcases (show j = 0 ∨ j = 1 ∨ j = 2 ∨ j = 3 ∨ j = 4 ∨ j = 5 ∨ j = 6 ∨ j = 7 ∨ j = 8 ∨ j = 9 ∨ j = 10 ∨ j = 11 ∨ j = 12 ∨ j = 13 by omega) with rfl | rfl | rfl | rfl | rfl | rfl | rfl | rfl | rfl | rfl | rfl | rfl | rfl | rfl <;> rfl) (Nat.le_of_ble_eq_true rfl) (Nat.le_of_ble_eq_true rfl) d_law_8 (fun q_4 H hq_5 hP hD hS => ?_)
  refine W.widen (k := 7) (n := 165) (by omega) (by omega) ?_
  obtain ⟨f_3, ef_3⟩ : ∃ z : Nat → va_E, z = va_up f_2 q_4 (.inr (5, [.int 0, .null, .int 0, .null, .null, .null, .null, .null, .int 0, .null, .null, .null, .null, .int 0])) := ⟨_, rfl⟩
  obtain ⟨L_3, eL_3⟩ : ∃ z : List Nat, z = L_2 ++ [q_4] := ⟨_, rfl⟩
  rw [← ef_3, ← eL_3] at hP hD
  have d1 : Lk L_3 f_3 q_1 (.inr (4, [.ref cb, .ref rb])) := by rw [ef_3, eL_3]; exact Lk.push d1 hq_5
  have d2 : Lk L_3 f_3 cb (.inr (1, [.ref mA, .ref gA, .int (nI 0)])) := by rw [ef_3, eL_3]; exact Lk.push d2 hq_5
  have d5 : Lk L_3 f_3 rb (.inr (3, [.ref rA, .int (nI 0)])) := by rw [ef_3, eL_3]; exact Lk.push d5 hq_5
  have d3 : Lk L_3 f_3 mA (.inl (G.2 2, 60, .inr (.inr (.inr (.inr (fun _ => none)))))) := by rw [ef_3, eL_3]; exact Lk.push d3 hq_5
  have d4 : Lk L_3 f_3 gA (.inl (G.2 1, 64, .inl (fun _ => 0))) := by rw [ef_3, eL_3]; exact Lk.push d4 hq_5
  have d6 : Lk L_3 f_3 rA (.inl (G.2 3, 20, .inr (.inr (.inr (.inr (fun _ => none)))))) := by rw [ef_3, eL_3]; exact Lk.push d6 hq_5
  have t_2 : Lk L_3 f_3 q_4 (.inr (5, [.int 0, .null, .int 0, .null, .null, .null, .null, .null, .int 0, .null, .null, .null, .null, .int 0])) := by rw [ef_3, eL_3]; exact Lk.new
  refine lv_dup hx hb d_law_11 rfl ?_
  have n_6 : ¬ q_1 = q_4 := Lk.neOO d1 t_2 (by decide)
  have n_7 : ¬ cb = q_4 := Lk.neOO d2 t_2 (by decide)
  have n_8 : ¬ mA = q_4 := Ne.symm (Lk.neOA t_2 d3)
  have n_9 : ¬ gA = q_4 := Ne.symm (Lk.neOA t_2 d4)
  have n_10 : ¬ rb = q_4 := Lk.neOO d5 t_2 (by decide)
  have n_11 : ¬ rA = q_4 := Ne.symm (Lk.neOA t_2 d6)
  have hFc := am_free hD hS hA0
  refine va_callv (va_runI (As := []) (rest := [.ref q_4]) ⟨hx, hb, hml, hown, hA⟩ (c_Mo_init l G L_3 f_3 H.size (pl_nd hD) t_2) ⟨callB_of 0 hA (gAW kw_381) rfl rfl rfl (hA _ kw_172) (hA _ kw_382) (by decide +kernel) ⟨Nat.le_of_ble_eq_true rfl, Nat.le_of_ble_eq_true rfl⟩, rfl, (hA _ kw_383)⟩ (pz_preS hP hK) rfl rfl hl.1 rfl (lv_room (Nat.le_of_ble_eq_true rfl)) d_law_12 ⟨Nat.le_of_ble_eq_true rfl, Nat.le_of_ble_eq_true rfl⟩) hS (fun q _ h => hFc q h) hFc (fun u9 t9 H1 locs ht9 hvm hw hWB hz1 hk1 hS => ?_)
  obtain ⟨L_4, f_4⟩ := u9
  obtain ⟨hP, hD1⟩ := hWB
  rw [ht9] at hP
  have hD := va_Dw hD1 hFc
  clear hD1 hk1 hz1 hFc ht9 hvm
  generalize H1 = H at hP hS ⊢
  dsimp only at hP hD
  obtain ⟨hkm, g2, kA, fA, sA, tA, bA, r2A, dA, cA, eA, hMo⟩ := hw
  refine W.widen (k := 17) (n := 18137) (by omega) (by omega) ?_
  dsimp only at hMo
  have d1 : Lk L_4 f_4 q_1 (.inr (4, [.ref cb, .ref rb])) := hkm.k d1 n_6
  have d2 : Lk L_4 f_4 cb (.inr (1, [.ref mA, .ref gA, .int (nI 0)])) := hkm.k d2 n_7
  have d5 : Lk L_4 f_4 rb (.inr (3, [.ref rA, .int (nI 0)])) := hkm.k d5 n_10
  have d3 : Lk L_4 f_4 mA (.inl (G.2 2, 60, .inr (.inr (.inr (.inr (fun _ => none)))))) := hkm.k d3 n_8
  have d4 : Lk L_4 f_4 gA (.inl (G.2 1, 64, .inl (fun _ => 0))) := hkm.k d4 n_9
  have d6 : Lk L_4 f_4 rA (.inl (G.2 3, 20, .inr (.inr (.inr (.inr (fun _ => none)))))) := hkm.k d6 n_11
  refine lv_astore_n (lv' := [(2, .ref q_4), (1, .ref q_1), (0, .ref b)]) hx hb d_law_15 rfl hl (by decide) rfl (fun ls hl => ?_)
  refine lv_iconst (v := nI 0) hx hb d_law_16 (by decide) ?_
  refine lv_istore_n (lv' := [(3, .int (nI 0)), (2, .ref q_4), (1, .ref q_1), (0, .ref b)]) hx hb d_law_17 rfl hl (by decide) rfl (fun ls hl => ?_)
  refine W.widen (k := 18 + 2 * 0) (n := 18200 + 101 * 0) (by omega) (by omega) ?_
  exact law_loop hL C0 hK 513 0 rfl H locs L_4 f_4 ls hP hD hS (st_0 d1 d2 d3 d4 d5 d6 hMo) (lv_sub hl [3, 2, 1, 0] rfl)
set_option maxHeartbeats 4000000 in
theorem lw_walk (l : Launch) (b : Addr) (xs : List Int32) : MetFree l x (headSpec (Jvm.Cond.code x code maxLocals ret :: tables_1) room_1) (lw_P b xs) (fun _ _ _ _ _ => True) lw_Q := by
  refine MetFree.of_bodyS (code := code) (maxLocals := maxLocals) (ret := ret) (by decide) ?_ ?_
  · intro args s m h hn
    obtain ⟨meth, c, h1, h2, h3, h4, h5, h6, -, -⟩ := Cond.code_spec hn (atoms_spec (ws := Jvm.Cond.code x code maxLocals ret :: tables_1) h _ List.mem_cons_self)
    exact ⟨meth, c, h1, h2, h3, h4, h5, h6⟩
  · intro p e s m args below meth c s₁ B hml0 hP _
    obtain ⟨rfl, hx, hbd, hgv⟩ := hP
    obtain ⟨scr, harrAt, hlist, hof, hsmall⟩ := hx
    obtain ⟨hcb, hkn, -, -⟩ := State.arrayAt?_spec harrAt
    have hown : s.vm.findClass R_law = some m.cls := findClass_of_methodNamed B.named
    have hts0 : ∀ c ∈ (Jvm.Cond.code x code maxLocals ret :: tables_1), c.before #[Value.ref b] s = true := atoms_spec (ws := Jvm.Cond.code x code maxLocals ret :: tables_1) B.pre
    have hts : ∀ w ∈ lw_tbl, w.before #[Value.ref b] s = true := k2_hts_sels lw_privs (fun w hw => hts0 w (List.mem_cons_of_mem _ hw)) lw_privs_ok
    have hml : c.maxLocals = 4 := B.maxLocals_eq (hts0 _ List.mem_cons_self)
    have X₀ : Stand p l e room_1 s m #[Value.ref b] below meth c s₁ [] 0 0 := Stand.of_body B
    have hh0 : s₁.heap = s.heap := by rw [B.state]; rfl
    have hsz : scr.slots.size = xs.length := by rw [← Array.length_toList, hlist, List.length_map]
    have hval : ∀ j : Nat, j < xs.length → scr.slots[j]? = some (.int (xs.getD j 0)) := fun j hj => by
      rw [← Array.getElem?_toList, hlist]
      simp [hj]
    have hbl : b < s.heap.size := (Array.getElem?_eq_some_iff.mp hcb).1
    have hX : va_X b xs.length (fun j => xs.getD j 0) s s.heap := ⟨scr, hcb, hof, hkn, hsz, hval⟩
    have K : W p l e room_1 s m #[Value.ref b] below meth c s₁.heap [] 0 0 (lw_Z below #[Value.ref b] s) (entryFrame m ([Value.ref b] : List Value).toArray 4) := by
      rw [hh0]
      exact whole_start l hbd ⟨B.exec, B.bytes, B.returns, hml, hown, hts, hX, hbl, B.notSynchronized, hgv⟩
    obtain ⟨t, a1, o, b1, b2, b3⟩ := K s₁ rfl X₀
    exact ⟨t, o, a1, b1, b2, b3⟩
theorem lw_pre_spec {args : Array Value} {s : State} (h : (Jvm.Cond.and given_1 narrow_1).before args s = true) (hr : rest_1_c.before args s = true) : ∃ (b : Addr) (xs : List Int32), lw_P b xs args s := by
  have hs := flat_of_before _ h
  have hq := flat_of_before _ hr
  have hc : (Cond.count 1).before args s = true := hs _ (by decide +kernel)
  have harr : (Cond.arrayOf (.arg 0) .int).before args s = true := hs _ (by decide +kernel)
  have hle : (Cond.le (.length (.arg 0)) (.int 3584)).before args s = true := hs _ (by decide +kernel)
  have hlen : (Cond.isInt (.length (.arg 0))).before args s = true := hq _ (by decide +kernel)
  have hall : (Cond.all (.arg 0) (.isInt (.elem (.arg 0) (.index 0)))).before args s = true := hq _ (by decide +kernel)
  obtain ⟨b, xs, hb, hx⟩ := State.ints_of_pre rfl harr hlen hall
  have hsm : xs.length < 2 ^ 31 := hx.choose_spec.2.2.2
  have hev : (Term.length (.arg 0)).eval args s none [] s = some (.int xs.length.toInt32) := hx.length_eval hb
  have hv := Cond.le_ints hev (show (Term.int 3584).eval args s none [] s = some (.int 3584) from rfl)
  have hd : xs.length.toInt32 ≤ 3584 := by
    simpa [Cond.before, Cond.holds, hv] using hle
  have hN : xs.length ≤ 3584 := (Int32.ofNat_le_ofNat hsm (by decide)).mp (show Int32.ofNat xs.length ≤ Int32.ofNat 3584 from hd)
  exact ⟨b, xs, Cond.one_arg hc (show args[0]? = some (.ref b) from hb), hx, hN, h⟩
theorem lw_comes (l : Launch) : Comes l x (Jvm.Cond.code x code maxLocals ret :: tables_1) room_1 (fun tb e args s => Calls_1 tb e args s ∧ rest_1 tb e args s ∧ Pre_1 tb e args s)
    (fun _ _ args s o t => lw_Q args s o t) := by
  intro p e ha hc hk s m args below hf hfit hheap happ hpre
  obtain ⟨b, xs, hP⟩ := lw_pre_spec hpre.2.2 hpre.2.1
  obtain ⟨k, o, h1, h2, h3, hQ⟩ := lw_walk l b xs p e ha hc hk s m args below hf ((Spec.applies_iff_loose hf).mp happ).1 hP trivial
  exact ⟨k, o, h1, h2, h3, hQ⟩
theorem lw_frame {s t : State} {o : Outcome} {args : Array Value} (h : Framed s o t [] 600000 7302250) :
    Framed s o t (fieldLocs frame_1_writes args s ++ arrayLocs frame_1_arrays args s ++ staticLocs frame_1_statics s) 600000 7302250 := h
theorem lw_limb (L : Cond) (hL : ∀ (args : Array Value) (s t : State), L.after args s (.returned (some (.int 1))) t = true) :
    ArmFor flags0 classFile x code maxLocals ret World_1 tables_1 room_1 Calls_1 rest_1 Pre_1
      (fun tb e a s o t => postC L tb e a s o t ∧ Framed s o t (fieldLocs frame_1_writes a s ++ arrayLocs frame_1_arrays a s ++ staticLocs frame_1_statics s) 600000 7302250) := by
  intro l _ _ _ p e ha hc hk s m args below hf hfit hheap happ hpre
  obtain ⟨k, o, h1, h2, h3, rfl, hF⟩ := lw_comes l p e ha hc hk s m args below hf hfit hheap happ hpre
  exact ⟨k, _, h1, h2, h3, hL args s _, lw_frame hF⟩
theorem i_vc : Claimed_1_1 ∧ Claimed_1_2 := ⟨lw_limb limb_1_1 (fun args s t => by simp [limb_1_1, Cond.after, Cond.holds, Cond.value]), lw_limb limb_1_2 (fun args s t => Cond.after_iff.mpr (by
  first | (rw [show limb_1_2 = Cond.eq .result (.int 1) from rfl, Cond.eq_ints (x := 1) (y := 1) rfl rfl]; simp; done) | (simp [limb_1_2, Cond.value, Term.eval]; done)))⟩
