set_option maxHeartbeats 4000000 in
set_option maxRecDepth 100000 in
/-- ConditionBook.add -/
theorem c_Cb_add (l : Launch) (G : GG) (L : List Nat) (f : Nat → va_E) (sz : Nat) (hN : L.Nodup) {cb mA gA n : Nat} {ad wa kd : Nat → Nat} {ka kb kc : Nat → Int32} {wd : Nat → Nat → Int64} {mm : Nat → Bool} (hB : CoB G L f cb mA gA n ad wa kd ka kb kc wd mm) {k a b c_ : Nat} {xa xb xc : Int32} (ho : okC n k xa xb xc a b c_) : Met l y_Cb_add (.code y_Cb_add b_Cb_add 7 (some .int) :: AW) (RW 5 2 101) (va_Pc [.ref cb, .int (nI k), .int xa, .int xb, .int xc] (PZ G L f sz)) (va_Qi (fun r u => (n = 60 ∧ r = -3 ∧ u = (L, f)) ∨ (n < 60 ∧ r = nI n ∧ ∃ q zw g, q ∉ L ∧ zw ∉ L ∧ q ≠ zw ∧ Kp (fun a => a = cb ∨ a = mA) L f u ∧ (∀ j, j < 96 → g j = wrd mm wd k a b c_ j) ∧ CoB G u.1 u.2 cb mA gA (n + 1) (va_up ad n q) (va_up wa n zw) (va_up kd n k) (va_up ka n xa) (va_up kb n xb) (va_up kc n xc) (va_up wd n g) mm)) (BZ G (Am L sz)) (Am L sz)) 2 101 (Am L sz) := by
  refine Met.ofW (cc := b_Cb_add) (maxL := 7) (ret := (some .int)) (by decide) rfl ?_
  intro p e s m args below meth c s₁ B hml hv
  obtain ⟨rfl, hsz, hP, hK⟩ := hv
  have hx := B.exec
  have hb := B.bytes
  have hr := B.returns
  have hA : ∀ w ∈ AW, w.before _ s = true := fun w h => atoms_spec (ws := (.code y_Cb_add b_Cb_add 7 (some .int) :: AW)) B.pre w (List.mem_cons_of_mem _ h)
  have hown : s.vm.findClass R_Cb = some m.cls := findClass_of_methodNamed B.named
  have hlocks := B.notSynchronized
  subst hsz
  have hD : va_D (Am L s.heap.size) (va_pl L f) := pl_D hN (fun _ h => Or.inl h)
  have hA0 : ∀ q, s.heap.size ≤ q → Am L s.heap.size q := fun q h => Or.inr h
  generalize Am L s.heap.size = A at hD hA0 ⊢
  have hS : va_S A s.heap s.heap [] := va_S.rf
  have hkp : Kp (fun _ => False) L f (L, f) := Kp.rf
  have hl := lv_entry ([.ref cb, .int (nI k), .int xa, .int xb, .int xc]) (n := 7) (Nat.le_of_ble_eq_true rfl)
  rw [lg_entry_eq]
  generalize (lg_sl ([.ref cb, .int (nI k), .int xa, .int xb, .int xc]) ++ List.replicate (7 - (lg_sl ([.ref cb, .int (nI k), .int xa, .int xb, .int xc])).length) Slot.unset).toArray = ls at hl ⊢
  have hl : lv_has ls 7 [(0, .ref cb), (1, .int (nI k)), (2, .int xa), (3, .int xb), (4, .int xc)] := hl
  have hcb : Lk L f cb (.inr (1, [.ref mA, .ref gA, .int (nI n)])) := hB.2.1
  have hmA : Lk L f mA (.inl (G.2 2, 60, .inr (.inr (.inr (.inr (upto n ad)))))) := hB.2.2.1
  have hn60 := hB.1
  refine lv_aload_n hx hb d_Cb_add_0 rfl (lv_at hl 0 rfl) ?_
  refine va_get (D := G.1) (ci := 1) (v := .int (nI n)) (C := R_Cb) (T := T_Cb) (N := 3) hx hb hA in_Cb hown hK.1 (pl_o hP hcb) 0 rfl rfl 2 (by decide) (hA _ kw_24) (fun _ h9 => h9) rfl d_Cb_add_1 ?_
  refine lv_aload_n hx hb d_Cb_add_4 rfl (lv_at hl 0 rfl) ?_
  refine va_get (D := G.1) (ci := 1) (v := .ref mA) (C := R_Cb) (T := T_Cb) (N := 3) hx hb hA in_Cb hown hK.1 (pl_o hP hcb) 0 rfl rfl 0 (by decide) (hA _ kw_7) (fun _ h9 => h9) rfl d_Cb_add_5 ?_
  refine va_alen (v := nI 60) hx hb hK.1 (pl_o hP hmA) 0 2 rfl rfl rfl d_Cb_add_8 ?_
  refine vp_callSi (va_Run.run (va_runSN (As := [.int (nI n), .int (nI 60)]) (rest := []) ⟨hx, hb, hml, hown, hA⟩ (c_isBelow l G L f (nI n) (nI 60)) ⟨va_cnB 2 hA (gAW kw_4) rfl rfl rfl (hK.2.1 _ kz_1) (hA _ kw_5) (by decide +kernel) ⟨Nat.le_of_ble_eq_true rfl, Nat.le_of_ble_eq_true rfl⟩, (hA _ kw_6), trivial⟩ (pw_preS hP hK) rfl rfl hl.1 rfl (lv_room (Nat.le_of_ble_eq_true rfl)) d_Cb_add_9 ⟨Nat.zero_le _, Nat.zero_le _⟩)) (fun r_1 e_2 => ?_)
  subst e_2
  by_cases hlt : n < 60
  · refine lv_if_ne (tgt := 18) hx hb d_Cb_add_12 (by decide) (fun _ => ?_) (fun c9 => absurd c9 (by rw [blw_nI (by decide) (by omega), decide_eq_true hlt]; decide))
    refine xw_new (D := G.1) (ci := 0) (fs := [.int 0, .int 0, .int 0, .int 0, .null]) (C := R_Co) (T := T_Co) (N := 5) hx hb hA in_Co ty_Co tyok_Co hown (hA _ kw_132) (hA _ kw_133) (hA _ kw_11) hK.1 hP hD hS hA0 rfl (fun j hj => by rcases (show j = 0 ∨ j = 1 ∨ j = 2 ∨ j = 3 ∨ j = 4 by omega) with rfl | rfl | rfl | rfl | rfl <;> rfl) (Nat.le_of_ble_eq_true rfl) (Nat.le_of_ble_eq_true rfl) d_Cb_add_18 (fun q_3 H hq_4 hP hD hS => ?_)
    refine W.widen (k := 1) (n := 5) (by omega) (by omega) ?_
    obtain ⟨f_1, ef_1⟩ : ∃ z : Nat → va_E, z = va_up f q_3 (.inr (0, [.int 0, .int 0, .int 0, .int 0, .null])) := ⟨_, rfl⟩
    obtain ⟨L_1, eL_1⟩ : ∃ z : List Nat, z = L ++ [q_3] := ⟨_, rfl⟩
    rw [← ef_1, ← eL_1] at hP hD
    have hcb : Lk L_1 f_1 cb (.inr (1, [.ref mA, .ref gA, .int (nI n)])) := by rw [ef_1, eL_1]; exact Lk.push hcb hq_4
    have hmA : Lk L_1 f_1 mA (.inl (G.2 2, 60, .inr (.inr (.inr (.inr (upto n ad)))))) := by rw [ef_1, eL_1]; exact Lk.push hmA hq_4
    have t_1 : Lk L_1 f_1 q_3 (.inr (0, [.int 0, .int 0, .int 0, .int 0, .null])) := by rw [ef_1, eL_1]; exact Lk.new
    have hkp : Kp (fun _ => False) L f (L_1, f_1) := by rw [ef_1, eL_1]; exact hkp.push hq_4
    have hqL : q_3 ∉ L := hq_4
    have hB1 : CoB G L_1 f_1 cb mA gA n ad wa kd ka kb kc wd mm := by rw [ef_1, eL_1]; exact hB.keep (Kp.push Kp.rf hq_4) (fun _ _ _ _ z => z)
    refine lv_dup hx hb d_Cb_add_21 rfl ?_
    refine lv_iload_n hx hb d_Cb_add_22 rfl (lv_at hl 1 rfl) ?_
    refine lv_iload_n hx hb d_Cb_add_23 rfl (lv_at hl 2 rfl) ?_
    refine lv_iload_n hx hb d_Cb_add_24 rfl (lv_at hl 3 rfl) ?_
    refine lv_iload hx hb d_Cb_add_25 (lv_at hl 4 rfl) ?_
    have n_5 : ¬ cb = q_3 := Lk.neOO hcb t_1 (by decide)
    have n_6 : ¬ mA = q_3 := Ne.symm (Lk.neOA t_1 hmA)
    have hsq : ∀ a e, Lk L_1 f_1 a e → cT e = true → a ∈ L → ¬ a = q_3 := fun a e _ _ h z => hqL (z ▸ h)
    have hFc := am_free hD hS hA0
    have hkz := hkp
    refine va_callv (va_runIN (As := [.int (nI k), .int xa, .int xb, .int xc]) (rest := [.ref q_3]) ⟨hx, hb, hml, hown, hA⟩ (c_Co_init l G L_1 f_1 H.size (pl_nd hD) t_1 (nI k) xa xb xc) ⟨va_cnB 4 hA (gAW kw_134) rfl rfl rfl (hK.2.1 _ kz_29) (hA _ kw_11) (by decide +kernel) ⟨Nat.le_of_ble_eq_true rfl, Nat.le_of_ble_eq_true rfl⟩, rfl, (hA _ kw_135)⟩ (pz_preS hP hK) rfl rfl hl.1 rfl (lv_room (Nat.le_of_ble_eq_true rfl)) d_Cb_add_27 ⟨Nat.le_of_ble_eq_true rfl, Nat.le_of_ble_eq_true rfl⟩) hS (fun q _ h => hFc q h) hFc (fun u9 t9 H1 locs ht9 hvm hw hWB hz1 hk1 hS => ?_)
    obtain ⟨L_2, f_2⟩ := u9
    obtain ⟨hP, hD1⟩ := hWB
    rw [ht9] at hP
    have hD := va_Dw hD1 hFc
    clear hD1 hk1 hz1 hFc ht9 hvm
    generalize H1 = H at hP hS ⊢
    dsimp only at hP hD
    obtain ⟨hk1, zw, hzn, a1, a2⟩ := hw
    refine W.widen (k := 2) (n := 101) (by omega) (by omega) ?_
    have hcb : Lk L_2 f_2 cb (.inr (1, [.ref mA, .ref gA, .int (nI n)])) := hk1.k hcb n_5
    have hmA : Lk L_2 f_2 mA (.inl (G.2 2, 60, .inr (.inr (.inr (.inr (upto n ad)))))) := hk1.k hmA n_6
    try dsimp only at a1 a2
    have hkp : Kp (fun _ => False) L f (L_2, f_2) := hkp.call hk1 (fun a ha e => absurd (e ▸ ha) hqL)
    have hB2 : CoB G L_2 f_2 cb mA gA n ad wa kd ka kb kc wd mm := by
      refine hB.keep hkp (fun _ _ _ _ z => z)
    have hzL : zw ∉ L := hkz.notin hzn (fun z => z)
    refine lv_astore (lv' := [(5, .ref q_3), (0, .ref cb), (1, .int (nI k)), (2, .int xa), (3, .int xb), (4, .int xc)]) hx hb d_Cb_add_30 hl (by decide) rfl (fun ls hl => ?_)
    refine lv_iconst (v := nI 0) hx hb d_Cb_add_32 (by decide) ?_
    refine lv_istore (lv' := [(6, .int (nI 0)), (5, .ref q_3), (0, .ref cb), (1, .int (nI k)), (2, .int xa), (3, .int xb), (4, .int xc)]) hx hb d_Cb_add_33 hl (by decide) rfl (fun ls hl => ?_)
    have loop : ∀ (kk i : Nat) (H : Heap) (locs : List Loc) (g : Nat → Int64) (ls : Array Slot), i + kk = 96 → (∀ j, j < i → g j = wrd mm wd k a b c_ j) → va_P G.1 vwCl (va_pl L_2 (va_up f_2 zw (.inl (G.2 0, 96, .inr (.inl g))))) H → va_D A (va_pl L_2 (va_up f_2 zw (.inl (G.2 0, 96, .inr (.inl g))))) → va_S A s.heap H locs → lv_has ls 7 [(0, .ref cb), (5, .ref q_3), (6, .int (nI i))] → W p l e (headSpec (.code y_Cb_add b_Cb_add 7 (some .int) :: AW) (RW 5 2 101)).room s m ([.ref cb, .int (nI k), .int xa, .int xb, .int xc] : List Value).toArray below meth c H locs 2 101 (MQ below (va_Qi (fun r u => (n = 60 ∧ r = -3 ∧ u = (L, f)) ∨ (n < 60 ∧ r = nI n ∧ ∃ q zw g, q ∉ L ∧ zw ∉ L ∧ q ≠ zw ∧ Kp (fun a => a = cb ∨ a = mA) L f u ∧ (∀ j, j < 96 → g j = wrd mm wd k a b c_ j) ∧ CoB G u.1 u.2 cb mA gA (n + 1) (va_up ad n q) (va_up wa n zw) (va_up kd n k) (va_up ka n xa) (va_up kb n xb) (va_up kc n xc) (va_up wd n g) mm)) (BZ G A) A) ([.ref cb, .int (nI k), .int xa, .int xb, .int xc] : List Value).toArray s 2 101 A) (F0 m 35 ls []) := by
      intro kk
      induction kk with
      | zero =>
        intro i H locs g ls hik hg hP hD hS hl
        have hcb : Lk L_2 (va_up f_2 zw (.inl (G.2 0, 96, .inr (.inl g)))) cb (.inr (1, [.ref mA, .ref gA, .int (nI n)])) := Lk.up hcb (Lk.neOA hcb a2)
        have hmA : Lk L_2 (va_up f_2 zw (.inl (G.2 0, 96, .inr (.inl g)))) mA (.inl (G.2 2, 60, .inr (.inr (.inr (.inr (upto n ad)))))) := Lk.up hmA (Lk.neAA hmA a2 (by decide))
        have a1_ : Lk L_2 (va_up f_2 zw (.inl (G.2 0, 96, .inr (.inl g)))) q_3 (.inr (0, [.int (nI k), .int xa, .int xb, .int xc, .ref zw])) := Lk.up a1 (Lk.neOA a1 a2)
        have a2_ : Lk L_2 (va_up f_2 zw (.inl (G.2 0, 96, .inr (.inl g)))) zw (.inl (G.2 0, 96, .inr (.inl g))) := Lk.set a2
        have hB3 : CoB G L_2 (va_up f_2 zw (.inl (G.2 0, 96, .inr (.inl g)))) cb mA gA n ad wa kd ka kb kc wd mm := hB.keep (Kp.upF hkp hzL) (fun _ _ _ _ z => z)
        have hkp : Kp (fun _ => False) L f (L_2, (va_up f_2 zw (.inl (G.2 0, 96, .inr (.inl g))))) := Kp.upF hkp hzL
        refine lv_iload hx hb d_Cb_add_35 (lv_at hl 2 rfl) ?_
        refine lv_bipush (v := nI 96) hx hb d_Cb_add_37 (by decide) ?_
        refine lv_icmp_ge (tgt := 63) hx hb d_Cb_add_39 (by decide) (fun _ => ?_) (fun c9 => absurd (nI_le (by omega) (by omega)) c9)
        have hkp : Kp (fun a => a = cb ∨ a = mA) L f (L_2, (va_up f_2 zw (.inl (G.2 0, 96, .inr (.inl g))))) := hkp.mono (fun _ z => z.elim)
        refine lv_aload_n hx hb d_Cb_add_63 rfl (lv_at hl 0 rfl) ?_
        refine va_get (D := G.1) (ci := 1) (v := .ref mA) (C := R_Cb) (T := T_Cb) (N := 3) hx hb hA in_Cb hown hK.1 (pl_o hP hcb) 0 rfl rfl 0 (by decide) (hA _ kw_7) (fun _ h9 => h9) rfl d_Cb_add_64 ?_
        refine lv_aload_n hx hb d_Cb_add_67 rfl (lv_at hl 0 rfl) ?_
        refine va_get (D := G.1) (ci := 1) (v := .int (nI n)) (C := R_Cb) (T := T_Cb) (N := 3) hx hb hA in_Cb hown hK.1 (pl_o hP hcb) 0 rfl rfl 2 (by decide) (hA _ kw_24) (fun _ h9 => h9) rfl d_Cb_add_68 ?_
        refine lv_aload hx hb d_Cb_add_71 (lv_at hl 1 rfl) ?_
        refine xw_astq hx hb hK.1 hP hD hS 2 0 hmA rfl a1_ rfl (i := n) (by omega) (by decide) d_Cb_add_73 (fun H locs hP hD hS => ?_)
        have n_8 : cb ≠ mA := Lk.neOA hcb hmA
        have n_9 : q_3 ≠ mA := Lk.neOA a1_ hmA
        have n_10 : zw ≠ mA := Lk.neAA a2_ hmA (by decide)
        obtain ⟨f_4, ef_4⟩ : ∃ z : Nat → va_E, z = va_up (va_up f_2 zw (.inl (G.2 0, 96, .inr (.inl g)))) mA (.inl (G.2 2, 60, .inr (.inr (.inr (.inr (va_up (upto n ad) n (some q_3))))))) := ⟨_, rfl⟩
        rw [← ef_4] at hP hD
        have hcb : Lk L_2 f_4 cb (.inr (1, [.ref mA, .ref gA, .int (nI n)])) := by rw [ef_4]; exact Lk.up hcb n_8
        have a1_ : Lk L_2 f_4 q_3 (.inr (0, [.int (nI k), .int xa, .int xb, .int xc, .ref zw])) := by rw [ef_4]; exact Lk.up a1_ n_9
        have a2_ : Lk L_2 f_4 zw (.inl (G.2 0, 96, .inr (.inl g))) := by rw [ef_4]; exact Lk.up a2_ n_10
        have hmA : Lk L_2 f_4 mA (.inl (G.2 2, 60, .inr (.inr (.inr (.inr (va_up (upto n ad) n (some q_3))))))) := by rw [ef_4]; exact Lk.set hmA
        have hkp : Kp (fun a => a = cb ∨ a = mA) L f (L_2, f_4) := by rw [ef_4]; exact hkp.up (Or.inr rfl)
        refine lv_aload_n hx hb d_Cb_add_74 rfl (lv_at hl 0 rfl) ?_
        refine lv_dup hx hb d_Cb_add_75 rfl ?_
        refine va_get (D := G.1) (ci := 1) (v := .int (nI n)) (C := R_Cb) (T := T_Cb) (N := 3) hx hb hA in_Cb hown hK.1 (pl_o hP hcb) 0 rfl rfl 2 (by decide) (hA _ kw_24) (fun _ h9 => h9) rfl d_Cb_add_76 ?_
        refine lv_iconst (v := nI 1) hx hb d_Cb_add_79 (by decide) ?_
        refine lv_iadd hx hb d_Cb_add_80 ?_
        refine xv_I (y := nI (n + 1)) (nI_1 n) ?_
        refine xw_put (D := G.1) (ci := 1) (v := .int (nI (n + 1))) (ty := .int) (C := R_Cb) (T := T_Cb) (N := 3) (fs' := [.ref mA, .ref gA, .int (nI (n + 1))]) hx hb hA in_Cb ty_Cb tyok_Cb nm_Cb hown hK.1 hP hD hS hcb rfl 2 (by decide) (hA _ kw_24) (fun _ h9 => h9) rfl (by decide +kernel) rfl rfl (Nat.le_of_ble_eq_true rfl) d_Cb_add_81 rfl (fun H locs hP hD hS => ?_)
        have n_11 : q_3 ≠ cb := Lk.neOO a1_ hcb (by decide)
        have n_12 : mA ≠ cb := Ne.symm (Lk.neOA hcb hmA)
        have n_13 : zw ≠ cb := Ne.symm (Lk.neOA hcb a2_)
        obtain ⟨f_5, ef_5⟩ : ∃ z : Nat → va_E, z = va_up f_4 cb (.inr (1, [.ref mA, .ref gA, .int (nI (n + 1))])) := ⟨_, rfl⟩
        rw [← ef_5] at hP hD
        have a1_ : Lk L_2 f_5 q_3 (.inr (0, [.int (nI k), .int xa, .int xb, .int xc, .ref zw])) := by rw [ef_5]; exact Lk.up a1_ n_11
        have hmA : Lk L_2 f_5 mA (.inl (G.2 2, 60, .inr (.inr (.inr (.inr (va_up (upto n ad) n (some q_3))))))) := by rw [ef_5]; exact Lk.up hmA n_12
        have a2_ : Lk L_2 f_5 zw (.inl (G.2 0, 96, .inr (.inl g))) := by rw [ef_5]; exact Lk.up a2_ n_13
        have hcb : Lk L_2 f_5 cb (.inr (1, [.ref mA, .ref gA, .int (nI (n + 1))])) := by rw [ef_5]; exact Lk.set hcb
        have hkp : Kp (fun a => a = cb ∨ a = mA) L f (L_2, f_5) := by rw [ef_5]; exact hkp.up (Or.inl rfl)
        refine lv_aload_n hx hb d_Cb_add_84 rfl (lv_at hl 0 rfl) ?_
        refine va_get (D := G.1) (ci := 1) (v := .int (nI (n + 1))) (C := R_Cb) (T := T_Cb) (N := 3) hx hb hA in_Cb hown hK.1 (pl_o hP hcb) 0 rfl rfl 2 (by decide) (hA _ kw_24) (fun _ h9 => h9) rfl d_Cb_add_85 ?_
        refine lv_iconst (v := nI 1) hx hb d_Cb_add_88 (by decide) ?_
        refine lv_isub hx hb d_Cb_add_89 ?_
        refine xv_I (y := nI n) (nI_pred n) ?_
        have hg96 : ∀ j, j < 96 → g j = wrd mm wd k a b c_ j := fun j hj => hg j (by omega)
        exact W.iret (v := nI n) hx hb hr (fun t9 h9t h9W => ⟨⟨_, (L_2, f_5), rfl, Or.inr ⟨hlt, rfl, q_3, zw, g, hqL, hzL, Lk.neOA a1_ a2_, hkp, hg96, CoB_snoc hB hlt hkp hcb hmA a1_ a2_⟩, by rw [h9t]; exact hP, hD⟩, hS.F h9t⟩) hS.2.2 d_Cb_add_90
      | succ kk ih =>
        intro i H locs g ls hik hg hP hD hS hl
        have hcb : Lk L_2 (va_up f_2 zw (.inl (G.2 0, 96, .inr (.inl g)))) cb (.inr (1, [.ref mA, .ref gA, .int (nI n)])) := Lk.up hcb (Lk.neOA hcb a2)
        have hmA : Lk L_2 (va_up f_2 zw (.inl (G.2 0, 96, .inr (.inl g)))) mA (.inl (G.2 2, 60, .inr (.inr (.inr (.inr (upto n ad)))))) := Lk.up hmA (Lk.neAA hmA a2 (by decide))
        have a1_ : Lk L_2 (va_up f_2 zw (.inl (G.2 0, 96, .inr (.inl g)))) q_3 (.inr (0, [.int (nI k), .int xa, .int xb, .int xc, .ref zw])) := Lk.up a1 (Lk.neOA a1 a2)
        have a2_ : Lk L_2 (va_up f_2 zw (.inl (G.2 0, 96, .inr (.inl g)))) zw (.inl (G.2 0, 96, .inr (.inl g))) := Lk.set a2
        have hB3 : CoB G L_2 (va_up f_2 zw (.inl (G.2 0, 96, .inr (.inl g)))) cb mA gA n ad wa kd ka kb kc wd mm := hB.keep (Kp.upF hkp hzL) (fun _ _ _ _ z => z)
        have hkp : Kp (fun _ => False) L f (L_2, (va_up f_2 zw (.inl (G.2 0, 96, .inr (.inl g))))) := Kp.upF hkp hzL
        refine lv_iload hx hb d_Cb_add_35 (lv_at hl 2 rfl) ?_
        refine lv_bipush (v := nI 96) hx hb d_Cb_add_37 (by decide) ?_
        refine lv_icmp_ge (tgt := 63) hx hb d_Cb_add_39 (by decide) (fun c9 => absurd c9 (nI_ge (by omega) (by omega))) (fun _ => ?_)
        refine lv_aload hx hb d_Cb_add_42 (lv_at hl 1 rfl) ?_
        refine lv_iload hx hb d_Cb_add_44 (lv_at hl 2 rfl) ?_
        refine lv_aload_n hx hb d_Cb_add_46 rfl (lv_at hl 0 rfl) ?_
        refine lv_aload hx hb d_Cb_add_47 (lv_at hl 1 rfl) ?_
        refine lv_iload hx hb d_Cb_add_49 (lv_at hl 2 rfl) ?_
        refine vp_callSl (va_Run.run (va_runV (As := [.ref q_3, .int (nI i)]) (rest := [.int (nI i), .ref q_3]) ⟨hx, hb, hml, hown, hA⟩ (c_Cb_work l G L_2 (va_up f_2 zw (.inl (G.2 0, 96, .inr (.inl g)))) hB3 a1_ ho i (by omega)) ⟨callB_of 2 hA (gAW kw_136) rfl rfl rfl (hA _ kw_19) (hA _ kw_137) (by decide +kernel) ⟨Nat.le_of_ble_eq_true rfl, Nat.le_of_ble_eq_true rfl⟩, (hA _ kw_138), (hA _ kw_139)⟩ (pw_preV (ci := 1) hP hK hcb rfl) rfl rfl hl.1 rfl (lv_room (Nat.le_of_ble_eq_true rfl)) d_Cb_add_51 ⟨Nat.le_of_ble_eq_true rfl, Nat.le_of_ble_eq_true rfl⟩)) (fun r_14 e_15 => ?_)
        subst e_15
        have hFc := am_free hD hS hA0
        refine va_callv (va_runVN (As := [.int (nI i), .long (wrd mm wd k a b c_ i)]) (rest := []) ⟨hx, hb, hml, hown, hA⟩ (c_Co_setWord l G L_2 (va_up f_2 zw (.inl (G.2 0, 96, .inr (.inl g)))) H.size (pl_nd hD) a1_ a2_ i (by omega) (wrd mm wd k a b c_ i)) ⟨va_cnB 2 hA (gAW kw_140) rfl rfl rfl (hK.2.1 _ kz_30) (hA _ kw_11) (by decide +kernel) ⟨Nat.le_of_ble_eq_true rfl, Nat.le_of_ble_eq_true rfl⟩, (hA _ kw_141), (hA _ kw_142)⟩ (pz_preV (ci := 0) hP hK a1_ rfl) rfl rfl hl.1 rfl (lv_room (Nat.le_of_ble_eq_true rfl)) d_Cb_add_54 ⟨Nat.le_of_ble_eq_true rfl, Nat.le_of_ble_eq_true rfl⟩) hS (fun q _ h => hFc q h) hFc (fun u9 t9 H1 locs ht9 hvm hw hWB hz1 hk1 hS => ?_)
        obtain ⟨L_6, f_6⟩ := u9
        obtain ⟨hP, hD1⟩ := hWB
        rw [ht9] at hP
        have hD := va_Dw hD1 hFc
        clear hD1 hk1 hz1 hFc ht9 hvm
        generalize H1 = H at hP hS ⊢
        dsimp only at hP hD
        obtain ⟨hu1, hu2⟩ := hw
        try dsimp only at hu1 hu2
        replace hu1 := hu1.symm
        subst hu1
        rw [bx_uu] at hu2
        subst hu2
        refine lv_iinc (v := nI (i + 1)) (lv' := [(6, .int (nI (i + 1))), (0, .ref cb), (5, .ref q_3)]) hx hb d_Cb_add_57 hl (k := 2) rfl (nI_1 i) (by decide) rfl (fun ls hl => ?_)
        refine lv_goto (tgt := 35) hx hb d_Cb_add_60 (by decide) ?_
        refine ih (i + 1) H locs _ ls (by omega) (fun j hj => ?_) hP hD hS (lv_sub hl [1, 2, 0] rfl)
        by_cases hji : j = i
        · subst hji; exact if_pos rfl
        · exact (if_neg hji).trans (hg j (by omega))
    have e0 : f_2 = va_up f_2 zw (.inl (G.2 0, 96, .inr (.inl (fun _ => 0)))) := va_up_id a2.2
    rw [e0] at hP hD
    exact loop 96 0 H locs (fun _ => 0) ls (by omega) (fun j hj => by omega) hP hD hS (lv_sub hl [2, 1, 0] rfl)
  · refine lv_if_ne (tgt := 18) hx hb d_Cb_add_12 (by decide) (fun c9 => absurd (by rw [blw_nI (by decide) (by omega), decide_eq_false hlt]; rfl) c9) (fun _ => ?_)
    refine lv_bipush (v := (-3)) hx hb d_Cb_add_15 (by decide) ?_
    refine W.widen (k := 2) (n := 101) (by omega) (by omega) ?_
    exact W.iret (v := (-3)) hx hb hr (fun t9 h9t h9W => ⟨⟨_, (L, f), rfl, Or.inl ⟨by omega, rfl, rfl⟩, by rw [h9t]; exact hP, hD⟩, hS.F h9t⟩) hS.2.2 d_Cb_add_17

set_option maxHeartbeats 4000000 in
set_option maxRecDepth 100000 in
/-- workOutAgain -/
theorem c_Cb_again (l : Launch) (G : GG) (L : List Nat) (f : Nat → va_E) (sz : Nat) (hN : L.Nodup) {cb mA gA n : Nat} {ad wa kd : Nat → Nat} {ka kb kc : Nat → Int32} {wd : Nat → Nat → Int64} {mm : Nat → Bool} (hB : CoB G L f cb mA gA n ad wa kd ka kb kc wd mm) {ca cbb ccc : Nat → Nat} (hO : OkN n kd ka kb kc ca cbb ccc) (hI : inj n wa) (u : Nat) (hu : u < 8) (hW : ∀ i, i < n → ∀ w, w < 96 → w / 12 ≠ u → wd i w = wrd mm wd (kd i) (ca i) (cbb i) (ccc i) w) : Met l y_Cb_workOutAgain (.code y_Cb_workOutAgain b_Cb_workOutAgain 6 none :: AW) (RW 5 0 0) (va_Pc [.ref cb, .int (nI u)] (PZ G L f sz)) (va_Qv (fun v => v.1 = L ∧ ∃ wv, CoB G L v.2 cb mA gA n ad wa kd ka kb kc wv mm ∧ OkW n kd ca cbb ccc wv mm ∧ Kp (fun x => ∃ i, i < n ∧ x = wa i) L f v) (BZ G (Am L sz)) (Am L sz)) 0 0 (Am L sz) := by
  refine Met.ofW (cc := b_Cb_workOutAgain) (maxL := 6) (ret := none) (by decide) rfl ?_
  intro p e s m args below meth c s₁ B hml hv
  obtain ⟨rfl, hsz, hP, hK⟩ := hv
  have hx := B.exec
  have hb := B.bytes
  have hr := B.returns
  have hA : ∀ w ∈ AW, w.before _ s = true := fun w h => atoms_spec (ws := (.code y_Cb_workOutAgain b_Cb_workOutAgain 6 none :: AW)) B.pre w (List.mem_cons_of_mem _ h)
  have hown : s.vm.findClass R_Cb = some m.cls := findClass_of_methodNamed B.named
  have hlocks := B.notSynchronized
  subst hsz
  have hD : va_D (Am L s.heap.size) (va_pl L f) := pl_D hN (fun _ h => Or.inl h)
  have hA0 : ∀ q, s.heap.size ≤ q → Am L s.heap.size q := fun q h => Or.inr h
  generalize Am L s.heap.size = A at hD hA0 ⊢
  have hS : va_S A s.heap s.heap [] := va_S.rf
  have hkp : Kp (fun x => ∃ i, i < n ∧ x = wa i) L f (L, f) := Kp.rf
  have hl := lv_entry ([.ref cb, .int (nI u)]) (n := 6) (Nat.le_of_ble_eq_true rfl)
  rw [lg_entry_eq]
  generalize (lg_sl ([.ref cb, .int (nI u)]) ++ List.replicate (6 - (lg_sl ([.ref cb, .int (nI u)])).length) Slot.unset).toArray = ls at hl ⊢
  have hl : lv_has ls 6 [(0, .ref cb), (1, .int (nI u))] := hl
  have hn60 := hB.1
  refine lv_iconst (v := nI 0) hx hb d_Cb_workOutAgain_0 (by decide) ?_
  refine lv_istore_n (lv' := [(2, .int (nI 0)), (0, .ref cb), (1, .int (nI u))]) hx hb d_Cb_workOutAgain_1 rfl hl (by decide) rfl (fun ls hl => ?_)
  have outer : ∀ (ko i : Nat) (H : Heap) (locs : List Loc) (fv : Nat → va_E) (wv : Nat → Nat → Int64) (ls : Array Slot), i + ko = 60 → OkP n kd ca cbb ccc wv mm u i 0 → CoB G L fv cb mA gA n ad wa kd ka kb kc wv mm → Kp (fun x => ∃ i, i < n ∧ x = wa i) L f (L, fv) → va_P G.1 vwCl (va_pl L fv) H → va_D A (va_pl L fv) → va_S A s.heap H locs → lv_has ls 6 [(0, .ref cb), (1, .int (nI u)), (2, .int (nI i))] → W p l e (headSpec (.code y_Cb_workOutAgain b_Cb_workOutAgain 6 none :: AW) (RW 5 0 0)).room s m ([.ref cb, .int (nI u)] : List Value).toArray below meth c H locs 0 0 (MQ below (va_Qv (fun v => v.1 = L ∧ ∃ wv, CoB G L v.2 cb mA gA n ad wa kd ka kb kc wv mm ∧ OkW n kd ca cbb ccc wv mm ∧ Kp (fun x => ∃ i, i < n ∧ x = wa i) L f v) (BZ G A) A) ([.ref cb, .int (nI u)] : List Value).toArray s 0 0 A) (F0 m 2 ls []) := by
    intro ko
    induction ko with
    | zero =>
      intro i H locs fv wv ls hik hOk hBv hkp hP hD hS hl
      have hcb : Lk L fv cb (.inr (1, [.ref mA, .ref gA, .int (nI n)])) := hBv.2.1
      refine lv_iload_n hx hb d_Cb_workOutAgain_2 rfl (lv_at hl 2 rfl) ?_
      refine lv_bipush (v := nI 60) hx hb d_Cb_workOutAgain_3 (by decide) ?_
      refine lv_icmp_ge (tgt := 63) hx hb d_Cb_workOutAgain_5 (by decide) (fun _ => ?_) (fun c9 => absurd (nI_le (by omega) (by omega)) c9)
      exact W.vret hx hb hr (fun t9 h9t h9W => ⟨⟨(L, fv), rfl, ⟨rfl, wv, hBv, OkP_end hOk (by omega), hkp⟩, by rw [h9t]; exact hP, hD⟩, hS.F h9t⟩) hS.2.2 d_Cb_workOutAgain_63
    | succ ko iho =>
      intro i H locs fv wv ls hik hOk hBv hkp hP hD hS hl
      have hcb : Lk L fv cb (.inr (1, [.ref mA, .ref gA, .int (nI n)])) := hBv.2.1
      refine lv_iload_n hx hb d_Cb_workOutAgain_2 rfl (lv_at hl 2 rfl) ?_
      refine lv_bipush (v := nI 60) hx hb d_Cb_workOutAgain_3 (by decide) ?_
      refine lv_icmp_ge (tgt := 63) hx hb d_Cb_workOutAgain_5 (by decide) (fun c9 => absurd c9 (nI_ge (by omega) (by omega))) (fun _ => ?_)
      refine lv_aload_n hx hb d_Cb_workOutAgain_8 rfl (lv_at hl 0 rfl) ?_
      refine lv_iload_n hx hb d_Cb_workOutAgain_9 rfl (lv_at hl 2 rfl) ?_
      refine va_csq (va_Run.run (va_runV (As := [.int (nI i)]) (rest := []) ⟨hx, hb, hml, hown, hA⟩ (c_Cb_at l G L fv hBv.2.1 hBv.2.2.1 (nI i)) ⟨callB_of 1 hA (gAW kw_18) rfl rfl rfl (hA _ kw_19) (hA _ kw_20) (by decide +kernel) ⟨Nat.le_of_ble_eq_true rfl, Nat.le_of_ble_eq_true rfl⟩, (hA _ kw_21), (hA _ kw_22)⟩ (pw_preV (ci := 1) hP hK hcb rfl) rfl rfl hl.1 rfl (lv_room (Nat.le_of_ble_eq_true rfl)) d_Cb_workOutAgain_10 ⟨Nat.zero_le _, Nat.zero_le _⟩)) (fun r_1 e_2 => ?_)
      subst e_2
      by_cases hin : i < n
      · refine xv_R (a := ad i) (oAt_t (by decide) hn60 hin) ?_
        refine lv_astore_n (lv' := [(3, .ref (ad i)), (0, .ref cb), (1, .int (nI u)), (2, .int (nI i))]) hx hb d_Cb_workOutAgain_13 rfl hl (by decide) rfl (fun ls hl => ?_)
        refine lv_aload_n hx hb d_Cb_workOutAgain_14 rfl (lv_at hl 0 rfl) ?_
        refine lv_ifnonnull (tgt := 19) hx hb d_Cb_workOutAgain_15 (by decide) ?_
        refine lv_iconst (v := nI 0) hx hb d_Cb_workOutAgain_19 (by decide) ?_
        refine lv_istore (lv' := [(4, .int (nI 0)), (3, .ref (ad i)), (0, .ref cb), (1, .int (nI u)), (2, .int (nI i))]) hx hb d_Cb_workOutAgain_20 hl (by decide) rfl (fun ls hl => ?_)
        have inner : ∀ (ki t : Nat) (H : Heap) (locs : List Loc) (fv : Nat → va_E) (wv : Nat → Nat → Int64) (ls : Array Slot), t + ki = 12 → OkP n kd ca cbb ccc wv mm u i t → CoB G L fv cb mA gA n ad wa kd ka kb kc wv mm → Kp (fun x => ∃ i, i < n ∧ x = wa i) L f (L, fv) → va_P G.1 vwCl (va_pl L fv) H → va_D A (va_pl L fv) → va_S A s.heap H locs → lv_has ls 6 [(0, .ref cb), (1, .int (nI u)), (2, .int (nI i)), (3, .ref (ad i)), (4, .int (nI t))] → W p l e (headSpec (.code y_Cb_workOutAgain b_Cb_workOutAgain 6 none :: AW) (RW 5 0 0)).room s m ([.ref cb, .int (nI u)] : List Value).toArray below meth c H locs 0 0 (MQ below (va_Qv (fun v => v.1 = L ∧ ∃ wv, CoB G L v.2 cb mA gA n ad wa kd ka kb kc wv mm ∧ OkW n kd ca cbb ccc wv mm ∧ Kp (fun x => ∃ i, i < n ∧ x = wa i) L f v) (BZ G A) A) ([.ref cb, .int (nI u)] : List Value).toArray s 0 0 A) (F0 m 22 ls []) := by
          intro ki
          induction ki with
          | zero =>
            intro t H locs fv wv ls hik2 hOk hBv hkp hP hD hS hl
            have hcb : Lk L fv cb (.inr (1, [.ref mA, .ref gA, .int (nI n)])) := hBv.2.1
            have hco : Lk L fv (ad i) (.inr (0, [.int (nI (kd i)), .int (ka i), .int (kb i), .int (kc i), .ref (wa i)])) := (hBv.2.2.2.2 i hin).1
            have hwo : Lk L fv (wa i) (.inl (G.2 0, 96, .inr (.inl (wv i)))) := (hBv.2.2.2.2 i hin).2
            obtain rfl : t = 12 := by omega
            refine lv_iload hx hb d_Cb_workOutAgain_22 (lv_at hl 4 rfl) ?_
            refine lv_bipush (v := nI 12) hx hb d_Cb_workOutAgain_24 (by decide) ?_
            refine lv_icmp_ge (tgt := 57) hx hb d_Cb_workOutAgain_26 (by decide) (fun _ => ?_) (fun c9 => absurd (nI_le (by omega) (by omega)) c9)
            refine lv_iinc (v := nI (i + 1)) (lv' := [(2, .int (nI (i + 1))), (0, .ref cb), (1, .int (nI u)), (3, .ref (ad i)), (4, .int (nI 12))]) hx hb d_Cb_workOutAgain_57 hl (k := 2) rfl (nI_1 i) (by decide) rfl (fun ls hl => ?_)
            refine lv_goto (tgt := 2) hx hb d_Cb_workOutAgain_60 (by decide) ?_
            exact iho (i + 1) H locs fv wv ls (by omega) (OkP_next hOk) hBv hkp hP hD hS (lv_sub hl [1, 2, 0] rfl)
          | succ ki ihi =>
            intro t H locs fv wv ls hik2 hOk hBv hkp hP hD hS hl
            have hcb : Lk L fv cb (.inr (1, [.ref mA, .ref gA, .int (nI n)])) := hBv.2.1
            have hco : Lk L fv (ad i) (.inr (0, [.int (nI (kd i)), .int (ka i), .int (kb i), .int (kc i), .ref (wa i)])) := (hBv.2.2.2.2 i hin).1
            have hwo : Lk L fv (wa i) (.inl (G.2 0, 96, .inr (.inl (wv i)))) := (hBv.2.2.2.2 i hin).2
            refine lv_iload hx hb d_Cb_workOutAgain_22 (lv_at hl 4 rfl) ?_
            refine lv_bipush (v := nI 12) hx hb d_Cb_workOutAgain_24 (by decide) ?_
            refine lv_icmp_ge (tgt := 57) hx hb d_Cb_workOutAgain_26 (by decide) (fun c9 => absurd c9 (nI_ge (by omega) (by omega))) (fun _ => ?_)
            refine lv_iload_n hx hb d_Cb_workOutAgain_29 rfl (lv_at hl 1 rfl) ?_
            refine lv_bipush (v := nI 12) hx hb d_Cb_workOutAgain_30 (by decide) ?_
            refine lv_imul hx hb d_Cb_workOutAgain_32 ?_
            refine xv_I (y := nI (u * 12)) (pk_mul _ _) ?_
            refine lv_iload hx hb d_Cb_workOutAgain_33 (lv_at hl 4 rfl) ?_
            refine lv_iadd hx hb d_Cb_workOutAgain_35 ?_
            refine xv_I (y := nI (u * 12 + t)) (nI_add _ _) ?_
            refine lv_istore (lv' := [(5, .int (nI (u * 12 + t))), (0, .ref cb), (1, .int (nI u)), (2, .int (nI i)), (3, .ref (ad i)), (4, .int (nI t))]) hx hb d_Cb_workOutAgain_36 hl (by decide) rfl (fun ls hl => ?_)
            refine lv_aload_n hx hb d_Cb_workOutAgain_38 rfl (lv_at hl 4 rfl) ?_
            refine lv_iload hx hb d_Cb_workOutAgain_39 (lv_at hl 0 rfl) ?_
            refine lv_aload_n hx hb d_Cb_workOutAgain_41 rfl (lv_at hl 1 rfl) ?_
            refine lv_aload_n hx hb d_Cb_workOutAgain_42 rfl (lv_at hl 4 rfl) ?_
            refine lv_iload hx hb d_Cb_workOutAgain_43 (lv_at hl 0 rfl) ?_
            refine vp_callSl (va_Run.run (va_runV (As := [.ref (ad i), .int (nI (u * 12 + t))]) (rest := [.int (nI (u * 12 + t)), .ref (ad i)]) ⟨hx, hb, hml, hown, hA⟩ (c_Cb_work l G L fv hBv hco (okC_mono (hO i hin) (by omega)) (u * 12 + t) (by omega)) ⟨callB_of 2 hA (gAW kw_136) rfl rfl rfl (hA _ kw_19) (hA _ kw_137) (by decide +kernel) ⟨Nat.le_of_ble_eq_true rfl, Nat.le_of_ble_eq_true rfl⟩, (hA _ kw_138), (hA _ kw_139)⟩ (pw_preV (ci := 1) hP hK hcb rfl) rfl rfl hl.1 rfl (lv_room (Nat.le_of_ble_eq_true rfl)) d_Cb_workOutAgain_45 ⟨Nat.zero_le _, Nat.zero_le _⟩)) (fun r_3 e_4 => ?_)
            subst e_4
            have hFc := am_free hD hS hA0
            refine va_callv (va_runVN (As := [.int (nI (u * 12 + t)), .long (wrd mm wv (kd i) (ca i) (cbb i) (ccc i) (u * 12 + t))]) (rest := []) ⟨hx, hb, hml, hown, hA⟩ (c_Co_setWord l G L fv H.size (pl_nd hD) hco hwo (u * 12 + t) (by omega) (wrd mm wv (kd i) (ca i) (cbb i) (ccc i) (u * 12 + t))) ⟨va_cnB 2 hA (gAW kw_140) rfl rfl rfl (hK.2.1 _ kz_30) (hA _ kw_11) (by decide +kernel) ⟨Nat.le_of_ble_eq_true rfl, Nat.le_of_ble_eq_true rfl⟩, (hA _ kw_141), (hA _ kw_142)⟩ (pz_preV (ci := 0) hP hK hco rfl) rfl rfl hl.1 rfl (lv_room (Nat.le_of_ble_eq_true rfl)) d_Cb_workOutAgain_48 ⟨Nat.le_of_ble_eq_true rfl, Nat.le_of_ble_eq_true rfl⟩) hS (fun q _ h => hFc q h) hFc (fun u9 t9 H1 locs ht9 hvm hw hWB hz1 hk1 hS => ?_)
            obtain ⟨L_1, f_1⟩ := u9
            obtain ⟨hP, hD1⟩ := hWB
            rw [ht9] at hP
            have hD := va_Dw hD1 hFc
            clear hD1 hk1 hz1 hFc ht9 hvm
            generalize H1 = H at hP hS ⊢
            dsimp only at hP hD
            obtain ⟨hu1, hu2⟩ := hw
            try dsimp only at hu1 hu2
            replace hu1 := hu1.symm
            subst hu1
            subst hu2
            refine lv_iinc (v := nI (t + 1)) (lv' := [(4, .int (nI (t + 1))), (5, .int (nI (u * 12 + t))), (0, .ref cb), (1, .int (nI u)), (2, .int (nI i)), (3, .ref (ad i))]) hx hb d_Cb_workOutAgain_51 hl (k := 5) rfl (nI_1 t) (by decide) rfl (fun ls hl => ?_)
            refine lv_goto (tgt := 22) hx hb d_Cb_workOutAgain_54 (by decide) ?_
            exact ihi (t + 1) H locs _ _ ls (by omega) (OkP_step hO hOk hin hu (by omega)) (CoB_setw hBv hI hin _) (Kp.up hkp ⟨i, hin, rfl⟩) hP hD hS (lv_sub hl [2, 3, 4, 5, 0] rfl)
        exact inner 12 0 H locs fv wv ls (by omega) hOk hBv hkp hP hD hS (lv_sub hl [2, 3, 4, 1, 0] rfl)
      · refine xv_N (oAt_f (by decide) (by omega) (by omega)) ?_
        refine lv_astore_nN (lv' := [(3, .null), (0, .ref cb), (1, .int (nI u)), (2, .int (nI i))]) hx hb d_Cb_workOutAgain_13 rfl hl (by decide) rfl (fun ls hl => ?_)
        refine lv_aload_nN hx hb d_Cb_workOutAgain_14 rfl (lv_at hl 0 rfl) ?_
        refine lv_ifnonnullN hx hb d_Cb_workOutAgain_15 ?_
        exact W.vret hx hb hr (fun t9 h9t h9W => ⟨⟨(L, fv), rfl, ⟨rfl, wv, hBv, OkP_end hOk (by omega), hkp⟩, by rw [h9t]; exact hP, hD⟩, hS.F h9t⟩) hS.2.2 d_Cb_workOutAgain_18
  exact outer 60 0 s.heap [] f wd ls (by omega) (fun j hj w hw hc => hW j hj w hw (by omega)) hB Kp.rf hP hD hS (lv_sub hl [1, 2, 0] rfl)

set_option maxHeartbeats 4000000 in
set_option maxRecDepth 100000 in
/-- setMember -/
theorem c_Cb_setM (l : Launch) (G : GG) (L : List Nat) (f : Nat → va_E) (sz : Nat) (hN : L.Nodup) {cb mA gA n : Nat} {ad wa kd : Nat → Nat} {ka kb kc : Nat → Int32} {wd : Nat → Nat → Int64} {mm : Nat → Bool} (hB : CoB G L f cb mA gA n ad wa kd ka kb kc wd mm) {ca cbb ccc : Nat → Nat} (hO : OkN n kd ka kb kc ca cbb ccc) (hI : inj n wa) (hW : OkW n kd ca cbb ccc wd mm) (u v : Nat) (b : Bool) (hu : u < 8) (hv_ : v < 8) : Met l y_Cb_setMember (.code y_Cb_setMember b_Cb_setMember 5 (some .boolean) :: AW) (RW 6 0 0) (va_Pc [.ref cb, .int (nI u), .int (nI v), .int (bI b)] (PZ G L f sz)) (va_Qi (fun r z => (mm (u * 8 + v) = b ∧ r = bI false ∧ z = (L, f)) ∨ (¬ mm (u * 8 + v) = b ∧ r = bI true ∧ z.1 = L ∧ ∃ wv, CoB G L z.2 cb mA gA n ad wa kd ka kb kc wv (va_up mm (u * 8 + v) b) ∧ OkW n kd ca cbb ccc wv (va_up mm (u * 8 + v) b) ∧ Kp (fun x => x = gA ∨ ∃ i, i < n ∧ x = wa i) L f z)) (BZ G (Am L sz)) (Am L sz)) 0 0 (Am L sz) := by
  refine Met.ofW (cc := b_Cb_setMember) (maxL := 5) (ret := (some .boolean)) (by decide) rfl ?_
  intro p e s m args below meth c s₁ B hml hv
  obtain ⟨rfl, hsz, hP, hK⟩ := hv
  have hx := B.exec
  have hb := B.bytes
  have hr := B.returns
  have hA : ∀ w ∈ AW, w.before _ s = true := fun w h => atoms_spec (ws := (.code y_Cb_setMember b_Cb_setMember 5 (some .boolean) :: AW)) B.pre w (List.mem_cons_of_mem _ h)
  have hown : s.vm.findClass R_Cb = some m.cls := findClass_of_methodNamed B.named
  have hlocks := B.notSynchronized
  subst hsz
  have hD : va_D (Am L s.heap.size) (va_pl L f) := pl_D hN (fun _ h => Or.inl h)
  have hA0 : ∀ q, s.heap.size ≤ q → Am L s.heap.size q := fun q h => Or.inr h
  generalize Am L s.heap.size = A at hD hA0 ⊢
  have hS : va_S A s.heap s.heap [] := va_S.rf
  have hkp : Kp (fun x => x = gA ∨ ∃ i, i < n ∧ x = wa i) L f (L, f) := Kp.rf
  have hl := lv_entry ([.ref cb, .int (nI u), .int (nI v), .int (bI b)]) (n := 5) (Nat.le_of_ble_eq_true rfl)
  rw [lg_entry_eq]
  generalize (lg_sl ([.ref cb, .int (nI u), .int (nI v), .int (bI b)]) ++ List.replicate (5 - (lg_sl ([.ref cb, .int (nI u), .int (nI v), .int (bI b)])).length) Slot.unset).toArray = ls at hl ⊢
  have hl : lv_has ls 5 [(0, .ref cb), (1, .int (nI u)), (2, .int (nI v)), (3, .int (bI b))] := hl
  have hcb : Lk L f cb (.inr (1, [.ref mA, .ref gA, .int (nI n)])) := hB.2.1
  have hgA : Lk L f gA (.inl (G.2 1, 64, .inl (fun k => bI (mm k)))) := hB.2.2.2.1
  refine lv_aload_n hx hb d_Cb_setMember_0 rfl (lv_at hl 0 rfl) ?_
  refine lv_iload_n hx hb d_Cb_setMember_1 rfl (lv_at hl 1 rfl) ?_
  refine lv_iload_n hx hb d_Cb_setMember_2 rfl (lv_at hl 2 rfl) ?_
  refine vp_callSi (va_Run.run (va_runV (As := [.int (nI u), .int (nI v)]) (rest := []) ⟨hx, hb, hml, hown, hA⟩ (c_Cb_isM l G L f hB u v hu hv_) ⟨callB_of 2 hA (gAW kw_33) rfl rfl rfl (hA _ kw_19) (hA _ kw_34) (by decide +kernel) ⟨Nat.le_of_ble_eq_true rfl, Nat.le_of_ble_eq_true rfl⟩, (hA _ kw_35), (hA _ kw_36)⟩ (pw_preV (ci := 1) hP hK hcb rfl) rfl rfl hl.1 rfl (lv_room (Nat.le_of_ble_eq_true rfl)) d_Cb_setMember_3 ⟨Nat.zero_le _, Nat.zero_le _⟩)) (fun r_1 e_2 => ?_)
  subst e_2
  refine lv_iload_n hx hb d_Cb_setMember_6 rfl (lv_at hl 3 rfl) ?_
  by_cases hs : mm (u * 8 + v) = b
  · refine lv_icmp_ne (tgt := 12) hx hb d_Cb_setMember_7 (by decide) (fun c9 => absurd (congrArg bI hs) c9) (fun _ => ?_)
    refine lv_iconst (v := nI 0) hx hb d_Cb_setMember_10 (by decide) ?_
    exact W.zret (v := nI 0) (ty := .boolean) hx hb hr (bI_nar false) (fun t9 h9t h9W => ⟨⟨_, (L, f), rfl, Or.inl ⟨hs, rfl, rfl⟩, by rw [h9t]; exact hP, hD⟩, hS.F h9t⟩) hS.2.2 d_Cb_setMember_11
  · refine lv_icmp_ne (tgt := 12) hx hb d_Cb_setMember_7 (by decide) (fun _ => ?_) (fun c9 => absurd c9 (fun z => hs (bI_inj z)))
    refine lv_iload_n hx hb d_Cb_setMember_12 rfl (lv_at hl 1 rfl) ?_
    refine lv_bipush (v := nI 8) hx hb d_Cb_setMember_13 (by decide) ?_
    refine lv_imul hx hb d_Cb_setMember_15 ?_
    refine xv_I (y := nI (u * 8)) (pk_mul u 8) ?_
    refine lv_iload_n hx hb d_Cb_setMember_16 rfl (lv_at hl 2 rfl) ?_
    refine lv_iadd hx hb d_Cb_setMember_17 ?_
    refine xv_I (y := nI (u * 8 + v)) (nI_add _ _) ?_
    refine lv_istore (lv' := [(4, .int (nI (u * 8 + v))), (0, .ref cb), (1, .int (nI u)), (2, .int (nI v)), (3, .int (bI b))]) hx hb d_Cb_setMember_18 hl (by decide) rfl (fun ls hl => ?_)
    refine lv_iload hx hb d_Cb_setMember_20 (lv_at hl 0 rfl) ?_
    refine lv_aload_n hx hb d_Cb_setMember_22 rfl (lv_at hl 1 rfl) ?_
    refine va_get (D := G.1) (ci := 1) (v := .ref gA) (C := R_Cb) (T := T_Cb) (N := 3) hx hb hA in_Cb hown hK.1 (pl_o hP hcb) 0 rfl rfl 1 (by decide) (hA _ kw_23) (fun _ h9 => h9) rfl d_Cb_setMember_23 ?_
    refine va_alen (v := nI 64) hx hb hK.1 (pl_o hP hgA) 0 1 rfl rfl rfl d_Cb_setMember_26 ?_
    refine vp_callSi (va_Run.run (va_runSN (As := [.int (nI (u * 8 + v)), .int (nI 64)]) (rest := []) ⟨hx, hb, hml, hown, hA⟩ (c_isBelow l G L f (nI (u * 8 + v)) (nI 64)) ⟨va_cnB 2 hA (gAW kw_4) rfl rfl rfl (hK.2.1 _ kz_1) (hA _ kw_5) (by decide +kernel) ⟨Nat.le_of_ble_eq_true rfl, Nat.le_of_ble_eq_true rfl⟩, (hA _ kw_6), trivial⟩ (pw_preS hP hK) rfl rfl hl.1 rfl (lv_room (Nat.le_of_ble_eq_true rfl)) d_Cb_setMember_27 ⟨Nat.zero_le _, Nat.zero_le _⟩)) (fun r_3 e_4 => ?_)
    subst e_4
    refine lv_if_eq (tgt := 41) hx hb d_Cb_setMember_30 (by decide) (fun c9 => absurd c9 (by rw [blw_nI (by decide) (by omega), decide_eq_true (show u * 8 + v < 64 by omega)]; decide)) (fun _ => ?_)
    refine lv_aload_n hx hb d_Cb_setMember_33 rfl (lv_at hl 1 rfl) ?_
    refine va_get (D := G.1) (ci := 1) (v := .ref gA) (C := R_Cb) (T := T_Cb) (N := 3) hx hb hA in_Cb hown hK.1 (pl_o hP hcb) 0 rfl rfl 1 (by decide) (hA _ kw_23) (fun _ h9 => h9) rfl d_Cb_setMember_34 ?_
    refine lv_iload hx hb d_Cb_setMember_37 (lv_at hl 0 rfl) ?_
    refine lv_iload_n hx hb d_Cb_setMember_39 rfl (lv_at hl 4 rfl) ?_
    refine xw_zast hx hb hK.1 hP hD hS 1 hgA rfl (i := (u * 8 + v)) (x := bI b) (by omega) (by decide) (bI_vp _) d_Cb_setMember_40 (fun H locs hP hD hS => ?_)
    have n_5 : cb ≠ gA := Lk.neOA hcb hgA
    obtain ⟨f_1, ef_1⟩ : ∃ z : Nat → va_E, z = va_up f gA (.inl (G.2 1, 64, .inl (upd (fun k => bI (mm k)) (u * 8 + v) (bI b)))) := ⟨_, rfl⟩
    rw [← ef_1] at hP hD
    have hcb : Lk L f_1 cb (.inr (1, [.ref mA, .ref gA, .int (nI n)])) := by rw [ef_1]; exact Lk.up hcb n_5
    have hgA : Lk L f_1 gA (.inl (G.2 1, 64, .inl (upd (fun k => bI (mm k)) (u * 8 + v) (bI b)))) := by rw [ef_1]; exact Lk.set hgA
    have hkp : Kp (fun x => x = gA ∨ ∃ i, i < n ∧ x = wa i) L f (L, f_1) := by rw [ef_1]; exact hkp.up (Or.inl rfl)
    have hB1 : CoB G L f_1 cb mA gA n ad wa kd ka kb kc wd (va_up mm (u * 8 + v) b) := by rw [ef_1]; exact CoB_setm hB (u * 8 + v) b
    refine lv_aload_n hx hb d_Cb_setMember_41 rfl (lv_at hl 1 rfl) ?_
    refine lv_iload_n hx hb d_Cb_setMember_42 rfl (lv_at hl 2 rfl) ?_
    have hFc := am_free hD hS hA0
    refine va_callv (va_runV (As := [.int (nI u)]) (rest := []) ⟨hx, hb, hml, hown, hA⟩ (c_Cb_again l G L f_1 H.size (pl_nd hD) hB1 hO hI u hu (fun i hi w hw hne => (hW i hi w hw).trans (wrd_mm (fun h1 => (va_up_ne mm b (by have := (hO i hi).2.2.2.2.2.1 h1; omega)).symm)))) ⟨callB_of 1 hA (gAW kw_143) rfl rfl rfl (hA _ kw_19) (hA _ kw_144) (by decide +kernel) ⟨Nat.le_of_ble_eq_true rfl, Nat.le_of_ble_eq_true rfl⟩, (hA _ kw_145), (hA _ kw_146)⟩ (pz_preV (ci := 1) hP hK hcb rfl) rfl rfl hl.1 rfl (lv_room (Nat.le_of_ble_eq_true rfl)) d_Cb_setMember_43 ⟨Nat.le_of_ble_eq_true rfl, Nat.le_of_ble_eq_true rfl⟩) hS (fun q _ h => hFc q h) hFc (fun u9 t9 H1 locs ht9 hvm hw hWB hz1 hk1 hS => ?_)
    obtain ⟨L_2, f_2⟩ := u9
    obtain ⟨hP, hD1⟩ := hWB
    rw [ht9] at hP
    have hD := va_Dw hD1 hFc
    clear hD1 hk1 hz1 hFc ht9 hvm
    generalize H1 = H at hP hS ⊢
    dsimp only at hP hD
    obtain ⟨hu1, wv, hBv, hOk, hk1⟩ := hw
    try dsimp only at hu1 hBv hk1
    replace hu1 := hu1.symm
    subst hu1
    have hkp : Kp (fun x => x = gA ∨ ∃ i, i < n ∧ x = wa i) L f (L, f_2) := hkp.call hk1 (fun a _ z => Or.inr z)
    refine lv_iconst (v := nI 1) hx hb d_Cb_setMember_46 (by decide) ?_
    exact W.zret (v := nI 1) (ty := .boolean) hx hb hr (bI_nar true) (fun t9 h9t h9W => ⟨⟨_, (L, f_2), rfl, Or.inr ⟨hs, rfl, rfl, wv, hBv, hOk, hkp⟩, by rw [h9t]; exact hP, hD⟩, hS.F h9t⟩) hS.2.2 d_Cb_setMember_47
