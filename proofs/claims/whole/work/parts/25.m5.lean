set_option maxHeartbeats 4000000 in
set_option maxRecDepth 100000 in
/-- decides -/
theorem c_Mo_decides (l : Launch) (G : GG) (L : List Nat) (f : Nat → va_E) (sz : Nat) (hN : L.Nodup) {mo gA kA fA sA tA bA rA dA cA eA cn rn : Nat} {kn : Bool} {gf : Nat → Int32} {kd : Nat → Nat} {ka kb kc bf : Nat → Int32} {rk : Nat → Nat} {dn : Nat → Bool} {rc : Nat → Nat} {xf : Nat → Int32} (hB : MoB G L f mo gA kA fA sA tA bA rA dA cA eA cn rn kn gf kd ka kb kc bf rk dn rc xf) (hru : ∀ j, j < rn → rk j < 10 ∧ rc j < cn) (hX : KnI kn xf bf rk dn rc rn) (x : Int32) : Met l y_Mo_decides (.code y_Mo_decides b_Mo_decides 4 (some .int) :: AW) (RW 4 0 0) (va_Pc [.ref mo, .int x] (PZ G L f sz)) (va_Qi (fun r z => r = onR (fun t => nI (cnt (fun q => decide (pkQ bf rk dn rc rn q = some t)) 6144)) (inN rn x) ∧ z.1 = L ∧ Kp (fun a => moE (f a)) L f z ∧ ∃ kn9 xf9, MoB G L z.2 mo gA kA fA sA tA bA rA dA cA eA cn rn kn9 gf kd ka kb kc bf rk dn rc xf9 ∧ KnI kn9 xf9 bf rk dn rc rn) (BZ G (Am L sz)) (Am L sz)) 0 0 (Am L sz) := by
  refine Met.ofW (cc := b_Mo_decides) (maxL := 4) (ret := (some .int)) (by decide) rfl ?_
  intro p e s m args below meth c s₁ B hml hv
  obtain ⟨rfl, hsz, hP, hK⟩ := hv
  have hx := B.exec
  have hb := B.bytes
  have hr := B.returns
  have hA : ∀ w ∈ AW, w.before _ s = true := fun w h => atoms_spec (ws := (.code y_Mo_decides b_Mo_decides 4 (some .int) :: AW)) B.pre w (List.mem_cons_of_mem _ h)
  have hown : s.vm.findClass R_Mo = some m.cls := findClass_of_methodNamed B.named
  have hlocks := B.notSynchronized
  subst hsz
  have hD : va_D (Am L s.heap.size) (va_pl L f) := pl_D hN (fun _ h => Or.inl h)
  have hA0 : ∀ q, s.heap.size ≤ q → Am L s.heap.size q := fun q h => Or.inr h
  generalize Am L s.heap.size = A at hD hA0 ⊢
  have hS : va_S A s.heap s.heap [] := va_S.rf
  have hkp : Kp (fun a => moE (f a)) L f (L, f) := Kp.rf
  have hl := lv_entry ([.ref mo, .int x]) (n := 4) (Nat.le_of_ble_eq_true rfl)
  rw [lg_entry_eq]
  generalize (lg_sl ([.ref mo, .int x]) ++ List.replicate (4 - (lg_sl ([.ref mo, .int x])).length) Slot.unset).toArray = ls at hl ⊢
  have hl : lv_has ls 4 [(0, .ref mo), (1, .int x)] := hl
  have hmo : Lk L f mo (.inr (5, [.int (nI 0), .ref gA, .int (nI cn), .ref kA, .ref fA, .ref sA, .ref tA, .ref bA, .int (nI rn), .ref rA, .ref dA, .ref cA, .ref eA, .int (bI kn)])) := hB.2.2.1
  have hgA : Lk L f gA (.inl (G.2 4, 8, .inl gf)) := hB.2.2.2.1
  have hkA : Lk L f kA (.inl (G.2 4, 60, .inl (fun j => nI (kd j)))) := hB.2.2.2.2.1
  have hfA : Lk L f fA (.inl (G.2 4, 60, .inl ka)) := hB.2.2.2.2.2.1
  have hsA : Lk L f sA (.inl (G.2 4, 60, .inl kb)) := hB.2.2.2.2.2.2.1
  have htA : Lk L f tA (.inl (G.2 4, 60, .inl kc)) := hB.2.2.2.2.2.2.2.1
  have hbA : Lk L f bA (.inl (G.2 4, 11520, .inl bf)) := hB.2.2.2.2.2.2.2.2.1
  have hrA : Lk L f rA (.inl (G.2 4, 20, .inl (fun j => nI (rk j)))) := hB.2.2.2.2.2.2.2.2.2.1
  have hdA : Lk L f dA (.inl (G.2 1, 20, .inl (fun j => bI (dn j)))) := hB.2.2.2.2.2.2.2.2.2.2.1
  have hcA : Lk L f cA (.inl (G.2 4, 20, .inl (fun j => nI (rc j)))) := hB.2.2.2.2.2.2.2.2.2.2.2.1
  have heA : Lk L f eA (.inl (G.2 4, 6144, .inl xf)) := hB.2.2.2.2.2.2.2.2.2.2.2.2.1
  refine lv_aload_n hx hb d_Mo_decides_0 rfl (lv_at hl 0 rfl) ?_
  refine lv_iconst (v := nI 0) hx hb d_Mo_decides_1 (by decide) ?_
  refine xw_put (D := G.1) (ci := 5) (v := .int (nI 0)) (ty := .int) (C := R_Mo) (T := T_Mo) (N := 14) (fs' := [.int (nI 0), .ref gA, .int (nI cn), .ref kA, .ref fA, .ref sA, .ref tA, .ref bA, .int (nI rn), .ref rA, .ref dA, .ref cA, .ref eA, .int (bI kn)]) hx hb hA in_Mo ty_Mo tyok_Mo nm_Mo hown hK.1 hP hD hS hmo rfl 0 (by decide) (hA _ kw_223) (fun _ h9 => h9) rfl (by decide +kernel) rfl rfl (Nat.le_of_ble_eq_true rfl) d_Mo_decides_2 rfl (fun H locs hP hD hS => ?_)
  obtain ⟨f_1, ef_1⟩ : ∃ z : Nat → va_E, z = va_up f mo (.inr (5, [.int (nI 0), .ref gA, .int (nI cn), .ref kA, .ref fA, .ref sA, .ref tA, .ref bA, .int (nI rn), .ref rA, .ref dA, .ref cA, .ref eA, .int (bI kn)])) := ⟨_, rfl⟩
  rw [← ef_1] at hP hD
  have hgA : Lk L f_1 gA (.inl (G.2 4, 8, .inl gf)) := by rw [ef_1]; exact Lk.up hgA (Ne.symm (Lk.neOA hmo hgA))
  have hkA : Lk L f_1 kA (.inl (G.2 4, 60, .inl (fun j => nI (kd j)))) := by rw [ef_1]; exact Lk.up hkA (Ne.symm (Lk.neOA hmo hkA))
  have hfA : Lk L f_1 fA (.inl (G.2 4, 60, .inl ka)) := by rw [ef_1]; exact Lk.up hfA (Ne.symm (Lk.neOA hmo hfA))
  have hsA : Lk L f_1 sA (.inl (G.2 4, 60, .inl kb)) := by rw [ef_1]; exact Lk.up hsA (Ne.symm (Lk.neOA hmo hsA))
  have htA : Lk L f_1 tA (.inl (G.2 4, 60, .inl kc)) := by rw [ef_1]; exact Lk.up htA (Ne.symm (Lk.neOA hmo htA))
  have hbA : Lk L f_1 bA (.inl (G.2 4, 11520, .inl bf)) := by rw [ef_1]; exact Lk.up hbA (Ne.symm (Lk.neOA hmo hbA))
  have hrA : Lk L f_1 rA (.inl (G.2 4, 20, .inl (fun j => nI (rk j)))) := by rw [ef_1]; exact Lk.up hrA (Ne.symm (Lk.neOA hmo hrA))
  have hdA : Lk L f_1 dA (.inl (G.2 1, 20, .inl (fun j => bI (dn j)))) := by rw [ef_1]; exact Lk.up hdA (Ne.symm (Lk.neOA hmo hdA))
  have hcA : Lk L f_1 cA (.inl (G.2 4, 20, .inl (fun j => nI (rc j)))) := by rw [ef_1]; exact Lk.up hcA (Ne.symm (Lk.neOA hmo hcA))
  have heA : Lk L f_1 eA (.inl (G.2 4, 6144, .inl xf)) := by rw [ef_1]; exact Lk.up heA (Ne.symm (Lk.neOA hmo heA))
  have hmo : Lk L f_1 mo (.inr (5, [.int (nI 0), .ref gA, .int (nI cn), .ref kA, .ref fA, .ref sA, .ref tA, .ref bA, .int (nI rn), .ref rA, .ref dA, .ref cA, .ref eA, .int (bI kn)])) := by rw [ef_1]; exact Lk.set hmo
  have hkp : Kp (fun a => moE (f a)) L f (L, f_1) := by rw [ef_1]; exact hkp.up (moE_o hB.2.2.1)
  have hB1 : MoB G L f_1 mo gA kA fA sA tA bA rA dA cA eA cn rn kn gf kd ka kb kc bf rk dn rc xf := ⟨hB.1, hB.2.1, hmo, hgA, hkA, hfA, hsA, htA, hbA, hrA, hdA, hcA, heA, hB.2.2.2.2.2.2.2.2.2.2.2.2.2⟩
  have hc60 := hB.1
  have hr20 := hB.2.1
  refine lv_aload_n hx hb d_Mo_decides_5 rfl (lv_at hl 0 rfl) ?_
  refine lv_iload_n hx hb d_Mo_decides_6 rfl (lv_at hl 1 rfl) ?_
  refine vp_callSi (va_Run.run (va_runV (As := [.int x]) (rest := []) ⟨hx, hb, hml, hown, hA⟩ (c_Mo_isR l G L f_1 hB1 x) ⟨callB_of 1 hA (gAW kw_232) rfl rfl rfl (hA _ kw_172) (hA _ kw_233) (by decide +kernel) ⟨Nat.le_of_ble_eq_true rfl, Nat.le_of_ble_eq_true rfl⟩, (hA _ kw_234), (hA _ kw_235)⟩ (pw_preV (ci := 5) hP hK hmo rfl) rfl rfl hl.1 rfl (lv_room (Nat.le_of_ble_eq_true rfl)) d_Mo_decides_7 ⟨Nat.zero_le _, Nat.zero_le _⟩)) (fun r_1 e_2 => ?_)
  subst e_2
  rcases bcase (blw x (nI rn)) with hb_0 | hb_0
  · refine lv_if_ne (tgt := 15) hx hb d_Mo_decides_10 (by decide) (fun c9 => absurd (by rw [hb_0]; rfl) c9) (fun _ => ?_)
    refine lv_iconst (v := (-1)) hx hb d_Mo_decides_13 (by decide) ?_
    exact W.iret (v := (-1)) hx hb hr (fun t9 h9t h9W => ⟨⟨_, (L, f_1), rfl, ⟨by rw [inN_f hb_0]; rfl, rfl, hkp, kn, xf, hB1, hX⟩, by rw [h9t]; exact hP, hD⟩, hS.F h9t⟩) hS.2.2 d_Mo_decides_14
  · refine lv_if_ne (tgt := 15) hx hb d_Mo_decides_10 (by decide) (fun _ => ?_) (fun c9 => absurd c9 (by rw [hb_0]; decide))
    obtain ⟨t, ht, rfl⟩ := blw_of (by omega) hb_0
    refine lv_aload_n hx hb d_Mo_decides_15 rfl (lv_at hl 0 rfl) ?_
    have hFc := am_free hD hS hA0
    refine va_callv (va_runV (As := []) (rest := []) ⟨hx, hb, hml, hown, hA⟩ (c_Mo_know l G L f_1 H.size (pl_nd hD) hB1 hru hX) ⟨callB_of 0 hA (gAW kw_236) rfl rfl rfl (hA _ kw_172) (hA _ kw_237) (by decide +kernel) ⟨Nat.le_of_ble_eq_true rfl, Nat.le_of_ble_eq_true rfl⟩, (hA _ kw_238), (hA _ kw_239)⟩ (pz_preV (ci := 5) hP hK hmo rfl) rfl rfl hl.1 rfl (lv_room (Nat.le_of_ble_eq_true rfl)) d_Mo_decides_16 ⟨Nat.le_of_ble_eq_true rfl, Nat.le_of_ble_eq_true rfl⟩) hS (fun q _ h => hFc q h) hFc (fun u9 t9 H1 locs ht9 hvm hw hWB hz1 hk1 hS => ?_)
    obtain ⟨L_2, f_2⟩ := u9
    obtain ⟨hP, hD1⟩ := hWB
    rw [ht9] at hP
    have hD := va_Dw hD1 hFc
    clear hD1 hk1 hz1 hFc ht9 hvm
    generalize H1 = H at hP hS ⊢
    dsimp only at hP hD
    obtain ⟨hz1, hk1, xw, hBw, hX1⟩ := hw
    try dsimp only at hz1 hk1 hBw
    replace hz1 := hz1.symm
    subst hz1
    have hkp : Kp (fun a => moE (f a)) L f (L, f_2) := Kp.mo hkp hk1
    have hmo : Lk L f_2 mo (.inr (5, [.int (nI 0), .ref gA, .int (nI cn), .ref kA, .ref fA, .ref sA, .ref tA, .ref bA, .int (nI rn), .ref rA, .ref dA, .ref cA, .ref eA, .int (bI true)])) := hBw.2.2.1
    have hgA : Lk L f_2 gA (.inl (G.2 4, 8, .inl gf)) := hBw.2.2.2.1
    have hkA : Lk L f_2 kA (.inl (G.2 4, 60, .inl (fun j => nI (kd j)))) := hBw.2.2.2.2.1
    have hfA : Lk L f_2 fA (.inl (G.2 4, 60, .inl ka)) := hBw.2.2.2.2.2.1
    have hsA : Lk L f_2 sA (.inl (G.2 4, 60, .inl kb)) := hBw.2.2.2.2.2.2.1
    have htA : Lk L f_2 tA (.inl (G.2 4, 60, .inl kc)) := hBw.2.2.2.2.2.2.2.1
    have hbA : Lk L f_2 bA (.inl (G.2 4, 11520, .inl bf)) := hBw.2.2.2.2.2.2.2.2.1
    have hrA : Lk L f_2 rA (.inl (G.2 4, 20, .inl (fun j => nI (rk j)))) := hBw.2.2.2.2.2.2.2.2.2.1
    have hdA : Lk L f_2 dA (.inl (G.2 1, 20, .inl (fun j => bI (dn j)))) := hBw.2.2.2.2.2.2.2.2.2.2.1
    have hcA : Lk L f_2 cA (.inl (G.2 4, 20, .inl (fun j => nI (rc j)))) := hBw.2.2.2.2.2.2.2.2.2.2.2.1
    have heA : Lk L f_2 eA (.inl (G.2 4, 6144, .inl xw)) := hBw.2.2.2.2.2.2.2.2.2.2.2.2.1
    refine lv_iconst (v := nI 0) hx hb d_Mo_decides_19 (by decide) ?_
    refine lv_istore_n (lv' := [(2, .int (nI 0)), (0, .ref mo), (1, .int (nI t))]) hx hb d_Mo_decides_20 rfl hl (by decide) rfl (fun ls hl => ?_)
    refine lv_iconst (v := nI 0) hx hb d_Mo_decides_21 (by decide) ?_
    refine lv_istore_n (lv' := [(3, .int (nI 0)), (2, .int (nI 0)), (0, .ref mo), (1, .int (nI t))]) hx hb d_Mo_decides_22 rfl hl (by decide) rfl (fun ls hl => ?_)
    have loop : ∀ (k i : Nat) (ls : Array Slot), i + k = 6144 → lv_has ls 4 [(0, .ref mo), (1, .int (nI t)), (2, .int (nI (cnt (fun q => decide (pkQ bf rk dn rc rn q = some t)) i))), (3, .int (nI i))] → W p l e (headSpec (.code y_Mo_decides b_Mo_decides 4 (some .int) :: AW) (RW 4 0 0)).room s m ([.ref mo, .int (nI t)] : List Value).toArray below meth c H locs 0 0 (MQ below (va_Qi (fun r z => r = onR (fun t => nI (cnt (fun q => decide (pkQ bf rk dn rc rn q = some t)) 6144)) (inN rn (nI t)) ∧ z.1 = L ∧ Kp (fun a => moE (f a)) L f z ∧ ∃ kn9 xf9, MoB G L z.2 mo gA kA fA sA tA bA rA dA cA eA cn rn kn9 gf kd ka kb kc bf rk dn rc xf9 ∧ KnI kn9 xf9 bf rk dn rc rn) (BZ G A) A) ([.ref mo, .int (nI t)] : List Value).toArray s 0 0 A) (F0 m 23 ls []) := by
      intro k
      induction k with
      | zero =>
        intro i  ls hik  hl
        refine lv_iload_n hx hb d_Mo_decides_23 rfl (lv_at hl 3 rfl) ?_
        refine lv_sipush (v := nI 6144) hx hb d_Mo_decides_24 (by decide) ?_
        refine lv_icmp_ge (tgt := 54) hx hb d_Mo_decides_27 (by decide) (fun _ => ?_) (fun c9 => absurd (nI_le (by omega) (by omega)) c9)
        refine lv_iload_n hx hb d_Mo_decides_54 rfl (lv_at hl 2 rfl) ?_
        exact W.iret (v := nI (cnt (fun q => decide (pkQ bf rk dn rc rn q = some t)) i)) hx hb hr (fun t9 h9t h9W => ⟨⟨_, (L, f_2), rfl, ⟨by rw [inN_t ht (by omega), show i = 6144 by omega]; rfl, rfl, hkp, true, xw, hBw, fun _ => hX1⟩, by rw [h9t]; exact hP, hD⟩, hS.F h9t⟩) hS.2.2 d_Mo_decides_55
      | succ k ih =>
        intro i  ls hik  hl
        refine lv_iload_n hx hb d_Mo_decides_23 rfl (lv_at hl 3 rfl) ?_
        refine lv_sipush (v := nI 6144) hx hb d_Mo_decides_24 (by decide) ?_
        refine lv_icmp_ge (tgt := 54) hx hb d_Mo_decides_27 (by decide) (fun c9 => absurd c9 (nI_ge (by omega) (by omega))) (fun _ => ?_)
        refine lv_iload_n hx hb d_Mo_decides_30 rfl (lv_at hl 2 rfl) ?_
        refine lv_aload_n hx hb d_Mo_decides_31 rfl (lv_at hl 0 rfl) ?_
        refine va_get (D := G.1) (ci := 5) (v := .ref eA) (C := R_Mo) (T := T_Mo) (N := 14) hx hb hA in_Mo hown hK.1 (pl_o hP hmo) 0 rfl rfl 12 (by decide) (hA _ kw_209) (fun _ h9 => h9) rfl d_Mo_decides_32 ?_
        refine lv_iload_n hx hb d_Mo_decides_35 rfl (lv_at hl 3 rfl) ?_
        refine xl_iald hx hb hK.1 (pl_o hP heA) 0 4 rfl rfl (i := i) (by omega) (by decide) d_Mo_decides_36 ?_
        refine xv_I (y := oI (pkQ bf rk dn rc rn i)) (hX1 i (by omega)) ?_
        refine lv_iload_n hx hb d_Mo_decides_37 rfl (lv_at hl 1 rfl) ?_
        by_cases he : pkQ bf rk dn rc rn i = some t
        · refine lv_icmp_ne (tgt := 45) hx hb d_Mo_decides_38 (by decide) (fun c9 => absurd ((oI_eq (by omega) (fun k9 hk9 => by have := pkQ_lt hk9; omega)).mpr he) c9) (fun _ => ?_)
          refine lv_iconst (v := nI 1) hx hb d_Mo_decides_41 (by decide) ?_
          refine lv_goto (tgt := 46) hx hb d_Mo_decides_42 (by decide) ?_
          refine lv_iadd hx hb d_Mo_decides_46 ?_
          refine xv_I (y := nI (cnt (fun q => decide (pkQ bf rk dn rc rn q = some t)) (i + 1))) ((nI_add _ _).trans (congrArg nI (cnt_t (decide_eq_true he)).symm)) ?_
          refine lv_istore_n (lv' := [(2, .int (nI (cnt (fun q => decide (pkQ bf rk dn rc rn q = some t)) (i + 1)))), (0, .ref mo), (1, .int (nI t)), (3, .int (nI i))]) hx hb d_Mo_decides_47 rfl hl (by decide) rfl (fun ls hl => ?_)
          refine lv_iinc (v := nI (i + 1)) (lv' := [(3, .int (nI (i + 1))), (2, .int (nI (cnt (fun q => decide (pkQ bf rk dn rc rn q = some t)) (i + 1)))), (0, .ref mo), (1, .int (nI t))]) hx hb d_Mo_decides_48 hl (k := 3) rfl (nI_1 i) (by decide) rfl (fun ls hl => ?_)
          refine lv_goto (tgt := 23) hx hb d_Mo_decides_51 (by decide) ?_
          exact ih (i + 1)  ls (by omega)  (lv_sub hl [2, 3, 1, 0] rfl)
        · refine lv_icmp_ne (tgt := 45) hx hb d_Mo_decides_38 (by decide) (fun _ => ?_) (fun c9 => absurd c9 (fun z => he ((oI_eq (by omega) (fun k9 hk9 => by have := pkQ_lt hk9; omega)).mp z)))
          refine lv_iconst (v := nI 0) hx hb d_Mo_decides_45 (by decide) ?_
          refine lv_iadd hx hb d_Mo_decides_46 ?_
          refine xv_I (y := nI (cnt (fun q => decide (pkQ bf rk dn rc rn q = some t)) (i + 1))) ((nI_add _ _).trans (congrArg nI (cnt_f (decide_eq_false he)).symm)) ?_
          refine lv_istore_n (lv' := [(2, .int (nI (cnt (fun q => decide (pkQ bf rk dn rc rn q = some t)) (i + 1)))), (0, .ref mo), (1, .int (nI t)), (3, .int (nI i))]) hx hb d_Mo_decides_47 rfl hl (by decide) rfl (fun ls hl => ?_)
          refine lv_iinc (v := nI (i + 1)) (lv' := [(3, .int (nI (i + 1))), (2, .int (nI (cnt (fun q => decide (pkQ bf rk dn rc rn q = some t)) (i + 1)))), (0, .ref mo), (1, .int (nI t))]) hx hb d_Mo_decides_48 hl (k := 3) rfl (nI_1 i) (by decide) rfl (fun ls hl => ?_)
          refine lv_goto (tgt := 23) hx hb d_Mo_decides_51 (by decide) ?_
          exact ih (i + 1)  ls (by omega)  (lv_sub hl [2, 3, 1, 0] rfl)
    exact loop (6144 - 0) 0  ls (by omega)  (lv_sub hl [2, 3, 1, 0] rfl)

set_option maxHeartbeats 4000000 in
set_option maxRecDepth 100000 in
/-- sees -/
theorem c_Mo_sees (l : Launch) (G : GG) (L : List Nat) (f : Nat → va_E) (sz : Nat) (hN : L.Nodup) {mo gA kA fA sA tA bA rA dA cA eA cn rn : Nat} {kn : Bool} {gf : Nat → Int32} {kd : Nat → Nat} {ka kb kc bf : Nat → Int32} {rk : Nat → Nat} {dn : Nat → Bool} {rc : Nat → Nat} {xf : Nat → Int32} (hB : MoB G L f mo gA kA fA sA tA bA rA dA cA eA cn rn kn gf kd ka kb kc bf rk dn rc xf) (hru : ∀ j, j < rn → rk j < 10 ∧ rc j < cn) (hX : KnI kn xf bf rk dn rc rn) (x y : Int32) : Met l y_Mo_sees (.code y_Mo_sees b_Mo_sees 5 (some .int) :: AW) (RW 4 0 0) (va_Pc [.ref mo, .int x, .int y] (PZ G L f sz)) (va_Qi (fun r z => r = onR (fun u => onR (fun v => nI (cnt (fun j => alw dn (pkQ bf rk dn rc rn (768 * u + 8 * j + v))) 96)) (inN 8 y)) (inN 8 x) ∧ z.1 = L ∧ Kp (fun a => moE (f a)) L f z ∧ ∃ kn9 xf9, MoB G L z.2 mo gA kA fA sA tA bA rA dA cA eA cn rn kn9 gf kd ka kb kc bf rk dn rc xf9 ∧ KnI kn9 xf9 bf rk dn rc rn) (BZ G (Am L sz)) (Am L sz)) 0 0 (Am L sz) := by
  refine Met.ofW (cc := b_Mo_sees) (maxL := 5) (ret := (some .int)) (by decide) rfl ?_
  intro p e s m args below meth c s₁ B hml hv
  obtain ⟨rfl, hsz, hP, hK⟩ := hv
  have hx := B.exec
  have hb := B.bytes
  have hr := B.returns
  have hA : ∀ w ∈ AW, w.before _ s = true := fun w h => atoms_spec (ws := (.code y_Mo_sees b_Mo_sees 5 (some .int) :: AW)) B.pre w (List.mem_cons_of_mem _ h)
  have hown : s.vm.findClass R_Mo = some m.cls := findClass_of_methodNamed B.named
  have hlocks := B.notSynchronized
  subst hsz
  have hD : va_D (Am L s.heap.size) (va_pl L f) := pl_D hN (fun _ h => Or.inl h)
  have hA0 : ∀ q, s.heap.size ≤ q → Am L s.heap.size q := fun q h => Or.inr h
  generalize Am L s.heap.size = A at hD hA0 ⊢
  have hS : va_S A s.heap s.heap [] := va_S.rf
  have hkp : Kp (fun a => moE (f a)) L f (L, f) := Kp.rf
  have hl := lv_entry ([.ref mo, .int x, .int y]) (n := 5) (Nat.le_of_ble_eq_true rfl)
  rw [lg_entry_eq]
  generalize (lg_sl ([.ref mo, .int x, .int y]) ++ List.replicate (5 - (lg_sl ([.ref mo, .int x, .int y])).length) Slot.unset).toArray = ls at hl ⊢
  have hl : lv_has ls 5 [(0, .ref mo), (1, .int x), (2, .int y)] := hl
  have hmo : Lk L f mo (.inr (5, [.int (nI 0), .ref gA, .int (nI cn), .ref kA, .ref fA, .ref sA, .ref tA, .ref bA, .int (nI rn), .ref rA, .ref dA, .ref cA, .ref eA, .int (bI kn)])) := hB.2.2.1
  have hgA : Lk L f gA (.inl (G.2 4, 8, .inl gf)) := hB.2.2.2.1
  have hkA : Lk L f kA (.inl (G.2 4, 60, .inl (fun j => nI (kd j)))) := hB.2.2.2.2.1
  have hfA : Lk L f fA (.inl (G.2 4, 60, .inl ka)) := hB.2.2.2.2.2.1
  have hsA : Lk L f sA (.inl (G.2 4, 60, .inl kb)) := hB.2.2.2.2.2.2.1
  have htA : Lk L f tA (.inl (G.2 4, 60, .inl kc)) := hB.2.2.2.2.2.2.2.1
  have hbA : Lk L f bA (.inl (G.2 4, 11520, .inl bf)) := hB.2.2.2.2.2.2.2.2.1
  have hrA : Lk L f rA (.inl (G.2 4, 20, .inl (fun j => nI (rk j)))) := hB.2.2.2.2.2.2.2.2.2.1
  have hdA : Lk L f dA (.inl (G.2 1, 20, .inl (fun j => bI (dn j)))) := hB.2.2.2.2.2.2.2.2.2.2.1
  have hcA : Lk L f cA (.inl (G.2 4, 20, .inl (fun j => nI (rc j)))) := hB.2.2.2.2.2.2.2.2.2.2.2.1
  have heA : Lk L f eA (.inl (G.2 4, 6144, .inl xf)) := hB.2.2.2.2.2.2.2.2.2.2.2.2.1
  refine lv_aload_n hx hb d_Mo_sees_0 rfl (lv_at hl 0 rfl) ?_
  refine lv_iconst (v := nI 0) hx hb d_Mo_sees_1 (by decide) ?_
  refine xw_put (D := G.1) (ci := 5) (v := .int (nI 0)) (ty := .int) (C := R_Mo) (T := T_Mo) (N := 14) (fs' := [.int (nI 0), .ref gA, .int (nI cn), .ref kA, .ref fA, .ref sA, .ref tA, .ref bA, .int (nI rn), .ref rA, .ref dA, .ref cA, .ref eA, .int (bI kn)]) hx hb hA in_Mo ty_Mo tyok_Mo nm_Mo hown hK.1 hP hD hS hmo rfl 0 (by decide) (hA _ kw_223) (fun _ h9 => h9) rfl (by decide +kernel) rfl rfl (Nat.le_of_ble_eq_true rfl) d_Mo_sees_2 rfl (fun H locs hP hD hS => ?_)
  obtain ⟨f_1, ef_1⟩ : ∃ z : Nat → va_E, z = va_up f mo (.inr (5, [.int (nI 0), .ref gA, .int (nI cn), .ref kA, .ref fA, .ref sA, .ref tA, .ref bA, .int (nI rn), .ref rA, .ref dA, .ref cA, .ref eA, .int (bI kn)])) := ⟨_, rfl⟩
  rw [← ef_1] at hP hD
  have hgA : Lk L f_1 gA (.inl (G.2 4, 8, .inl gf)) := by rw [ef_1]; exact Lk.up hgA (Ne.symm (Lk.neOA hmo hgA))
  have hkA : Lk L f_1 kA (.inl (G.2 4, 60, .inl (fun j => nI (kd j)))) := by rw [ef_1]; exact Lk.up hkA (Ne.symm (Lk.neOA hmo hkA))
  have hfA : Lk L f_1 fA (.inl (G.2 4, 60, .inl ka)) := by rw [ef_1]; exact Lk.up hfA (Ne.symm (Lk.neOA hmo hfA))
  have hsA : Lk L f_1 sA (.inl (G.2 4, 60, .inl kb)) := by rw [ef_1]; exact Lk.up hsA (Ne.symm (Lk.neOA hmo hsA))
  have htA : Lk L f_1 tA (.inl (G.2 4, 60, .inl kc)) := by rw [ef_1]; exact Lk.up htA (Ne.symm (Lk.neOA hmo htA))
  have hbA : Lk L f_1 bA (.inl (G.2 4, 11520, .inl bf)) := by rw [ef_1]; exact Lk.up hbA (Ne.symm (Lk.neOA hmo hbA))
  have hrA : Lk L f_1 rA (.inl (G.2 4, 20, .inl (fun j => nI (rk j)))) := by rw [ef_1]; exact Lk.up hrA (Ne.symm (Lk.neOA hmo hrA))
  have hdA : Lk L f_1 dA (.inl (G.2 1, 20, .inl (fun j => bI (dn j)))) := by rw [ef_1]; exact Lk.up hdA (Ne.symm (Lk.neOA hmo hdA))
  have hcA : Lk L f_1 cA (.inl (G.2 4, 20, .inl (fun j => nI (rc j)))) := by rw [ef_1]; exact Lk.up hcA (Ne.symm (Lk.neOA hmo hcA))
  have heA : Lk L f_1 eA (.inl (G.2 4, 6144, .inl xf)) := by rw [ef_1]; exact Lk.up heA (Ne.symm (Lk.neOA hmo heA))
  have hmo : Lk L f_1 mo (.inr (5, [.int (nI 0), .ref gA, .int (nI cn), .ref kA, .ref fA, .ref sA, .ref tA, .ref bA, .int (nI rn), .ref rA, .ref dA, .ref cA, .ref eA, .int (bI kn)])) := by rw [ef_1]; exact Lk.set hmo
  have hkp : Kp (fun a => moE (f a)) L f (L, f_1) := by rw [ef_1]; exact hkp.up (moE_o hB.2.2.1)
  have hB1 : MoB G L f_1 mo gA kA fA sA tA bA rA dA cA eA cn rn kn gf kd ka kb kc bf rk dn rc xf := ⟨hB.1, hB.2.1, hmo, hgA, hkA, hfA, hsA, htA, hbA, hrA, hdA, hcA, heA, hB.2.2.2.2.2.2.2.2.2.2.2.2.2⟩
  have hc60 := hB.1
  have hr20 := hB.2.1
  refine lv_iload_n hx hb d_Mo_sees_5 rfl (lv_at hl 1 rfl) ?_
  refine lv_iconst (v := nI 0) hx hb d_Mo_sees_6 (by decide) ?_
  refine lv_bipush (v := nI 7) hx hb d_Mo_sees_7 (by decide) ?_
  refine vp_callSi (va_Run.run (va_runS (As := [.int x, .int (nI 0), .int (nI 7)]) (rest := []) ⟨hx, hb, hml, hown, hA⟩ (c_Mo_isIn l G L f_1 x (nI 0) (nI 7)) ⟨callB_of 3 hA (gAW kw_171) rfl rfl rfl (hA _ kw_172) (hA _ kw_173) (by decide +kernel) ⟨Nat.le_of_ble_eq_true rfl, Nat.le_of_ble_eq_true rfl⟩, (hA _ kw_174)⟩ (pw_preS hP hK) rfl rfl hl.1 rfl (lv_room (Nat.le_of_ble_eq_true rfl)) d_Mo_sees_9 ⟨Nat.zero_le _, Nat.zero_le _⟩)) (fun r_1 e_2 => ?_)
  subst e_2
  refine xv_I (y := bI (blw x (nI 8))) (congrArg bI (inB_0 (by decide))) ?_
  rcases bcase (blw x (nI 8)) with hb_0 | hb_0
  · refine lv_if_eq (tgt := 25) hx hb d_Mo_sees_12 (by decide) (fun _ => ?_) (fun c9 => absurd (by rw [hb_0]; rfl) c9)
    refine lv_iconst (v := (-1)) hx hb d_Mo_sees_25 (by decide) ?_
    exact W.iret (v := (-1)) hx hb hr (fun t9 h9t h9W => ⟨⟨_, (L, f_1), rfl, ⟨by rw [inN_f hb_0]; rfl, rfl, hkp, kn, xf, hB1, hX⟩, by rw [h9t]; exact hP, hD⟩, hS.F h9t⟩) hS.2.2 d_Mo_sees_26
  · refine lv_if_eq (tgt := 25) hx hb d_Mo_sees_12 (by decide) (fun c9 => absurd c9 (by rw [hb_0]; decide)) (fun _ => ?_)
    obtain ⟨u, hu, rfl⟩ := blw_of (by omega) hb_0
    refine lv_iload_n hx hb d_Mo_sees_15 rfl (lv_at hl 2 rfl) ?_
    refine lv_iconst (v := nI 0) hx hb d_Mo_sees_16 (by decide) ?_
    refine lv_bipush (v := nI 7) hx hb d_Mo_sees_17 (by decide) ?_
    refine vp_callSi (va_Run.run (va_runS (As := [.int y, .int (nI 0), .int (nI 7)]) (rest := []) ⟨hx, hb, hml, hown, hA⟩ (c_Mo_isIn l G L f_1 y (nI 0) (nI 7)) ⟨callB_of 3 hA (gAW kw_171) rfl rfl rfl (hA _ kw_172) (hA _ kw_173) (by decide +kernel) ⟨Nat.le_of_ble_eq_true rfl, Nat.le_of_ble_eq_true rfl⟩, (hA _ kw_174)⟩ (pw_preS hP hK) rfl rfl hl.1 rfl (lv_room (Nat.le_of_ble_eq_true rfl)) d_Mo_sees_19 ⟨Nat.zero_le _, Nat.zero_le _⟩)) (fun r_3 e_4 => ?_)
    subst e_4
    refine xv_I (y := bI (blw y (nI 8))) (congrArg bI (inB_0 (by decide))) ?_
    rcases bcase (blw y (nI 8)) with hb_1 | hb_1
    · refine lv_if_ne (tgt := 27) hx hb d_Mo_sees_22 (by decide) (fun c9 => absurd (by rw [hb_1]; rfl) c9) (fun _ => ?_)
      refine lv_iconst (v := (-1)) hx hb d_Mo_sees_25 (by decide) ?_
      exact W.iret (v := (-1)) hx hb hr (fun t9 h9t h9W => ⟨⟨_, (L, f_1), rfl, ⟨by rw [inN_t hu (by decide), inN_f hb_1]; rfl, rfl, hkp, kn, xf, hB1, hX⟩, by rw [h9t]; exact hP, hD⟩, hS.F h9t⟩) hS.2.2 d_Mo_sees_26
    · refine lv_if_ne (tgt := 27) hx hb d_Mo_sees_22 (by decide) (fun _ => ?_) (fun c9 => absurd c9 (by rw [hb_1]; decide))
      obtain ⟨v, hv, rfl⟩ := blw_of (by omega) hb_1
      refine lv_aload_n hx hb d_Mo_sees_27 rfl (lv_at hl 0 rfl) ?_
      have hFc := am_free hD hS hA0
      refine va_callv (va_runV (As := []) (rest := []) ⟨hx, hb, hml, hown, hA⟩ (c_Mo_know l G L f_1 H.size (pl_nd hD) hB1 hru hX) ⟨callB_of 0 hA (gAW kw_236) rfl rfl rfl (hA _ kw_172) (hA _ kw_237) (by decide +kernel) ⟨Nat.le_of_ble_eq_true rfl, Nat.le_of_ble_eq_true rfl⟩, (hA _ kw_238), (hA _ kw_239)⟩ (pz_preV (ci := 5) hP hK hmo rfl) rfl rfl hl.1 rfl (lv_room (Nat.le_of_ble_eq_true rfl)) d_Mo_sees_28 ⟨Nat.le_of_ble_eq_true rfl, Nat.le_of_ble_eq_true rfl⟩) hS (fun q _ h => hFc q h) hFc (fun u9 t9 H1 locs ht9 hvm hw hWB hz1 hk1 hS => ?_)
      obtain ⟨L_2, f_2⟩ := u9
      obtain ⟨hP, hD1⟩ := hWB
      rw [ht9] at hP
      have hD := va_Dw hD1 hFc
      clear hD1 hk1 hz1 hFc ht9 hvm
      generalize H1 = H at hP hS ⊢
      dsimp only at hP hD
      obtain ⟨hz1, hk1, xw, hBw, hX1⟩ := hw
      try dsimp only at hz1 hk1 hBw
      replace hz1 := hz1.symm
      subst hz1
      have hkp : Kp (fun a => moE (f a)) L f (L, f_2) := Kp.mo hkp hk1
      have hmo : Lk L f_2 mo (.inr (5, [.int (nI 0), .ref gA, .int (nI cn), .ref kA, .ref fA, .ref sA, .ref tA, .ref bA, .int (nI rn), .ref rA, .ref dA, .ref cA, .ref eA, .int (bI true)])) := hBw.2.2.1
      have hgA : Lk L f_2 gA (.inl (G.2 4, 8, .inl gf)) := hBw.2.2.2.1
      have hkA : Lk L f_2 kA (.inl (G.2 4, 60, .inl (fun j => nI (kd j)))) := hBw.2.2.2.2.1
      have hfA : Lk L f_2 fA (.inl (G.2 4, 60, .inl ka)) := hBw.2.2.2.2.2.1
      have hsA : Lk L f_2 sA (.inl (G.2 4, 60, .inl kb)) := hBw.2.2.2.2.2.2.1
      have htA : Lk L f_2 tA (.inl (G.2 4, 60, .inl kc)) := hBw.2.2.2.2.2.2.2.1
      have hbA : Lk L f_2 bA (.inl (G.2 4, 11520, .inl bf)) := hBw.2.2.2.2.2.2.2.2.1
      have hrA : Lk L f_2 rA (.inl (G.2 4, 20, .inl (fun j => nI (rk j)))) := hBw.2.2.2.2.2.2.2.2.2.1
      have hdA : Lk L f_2 dA (.inl (G.2 1, 20, .inl (fun j => bI (dn j)))) := hBw.2.2.2.2.2.2.2.2.2.2.1
      have hcA : Lk L f_2 cA (.inl (G.2 4, 20, .inl (fun j => nI (rc j)))) := hBw.2.2.2.2.2.2.2.2.2.2.2.1
      have heA : Lk L f_2 eA (.inl (G.2 4, 6144, .inl xw)) := hBw.2.2.2.2.2.2.2.2.2.2.2.2.1
      refine lv_iconst (v := nI 0) hx hb d_Mo_sees_31 (by decide) ?_
      refine lv_istore_n (lv' := [(3, .int (nI 0)), (0, .ref mo), (1, .int (nI u)), (2, .int (nI v))]) hx hb d_Mo_sees_32 rfl hl (by decide) rfl (fun ls hl => ?_)
      refine lv_iconst (v := nI 0) hx hb d_Mo_sees_33 (by decide) ?_
      refine lv_istore (lv' := [(4, .int (nI 0)), (3, .int (nI 0)), (0, .ref mo), (1, .int (nI u)), (2, .int (nI v))]) hx hb d_Mo_sees_34 hl (by decide) rfl (fun ls hl => ?_)
      have loop : ∀ (k i : Nat) (ls : Array Slot), i + k = 96 → lv_has ls 5 [(0, .ref mo), (1, .int (nI u)), (2, .int (nI v)), (3, .int (nI (cnt (fun j => alw dn (pkQ bf rk dn rc rn (768 * u + 8 * j + v))) i))), (4, .int (nI i))] → W p l e (headSpec (.code y_Mo_sees b_Mo_sees 5 (some .int) :: AW) (RW 4 0 0)).room s m ([.ref mo, .int (nI u), .int (nI v)] : List Value).toArray below meth c H locs 0 0 (MQ below (va_Qi (fun r z => r = onR (fun u => onR (fun v => nI (cnt (fun j => alw dn (pkQ bf rk dn rc rn (768 * u + 8 * j + v))) 96)) (inN 8 (nI v))) (inN 8 (nI u)) ∧ z.1 = L ∧ Kp (fun a => moE (f a)) L f z ∧ ∃ kn9 xf9, MoB G L z.2 mo gA kA fA sA tA bA rA dA cA eA cn rn kn9 gf kd ka kb kc bf rk dn rc xf9 ∧ KnI kn9 xf9 bf rk dn rc rn) (BZ G A) A) ([.ref mo, .int (nI u), .int (nI v)] : List Value).toArray s 0 0 A) (F0 m 36 ls []) := by
        intro k
        induction k with
        | zero =>
          intro i  ls hik  hl
          refine lv_iload hx hb d_Mo_sees_36 (lv_at hl 4 rfl) ?_
          refine lv_bipush (v := nI 96) hx hb d_Mo_sees_38 (by decide) ?_
          refine lv_icmp_ge (tgt := 82) hx hb d_Mo_sees_40 (by decide) (fun _ => ?_) (fun c9 => absurd (nI_le (by omega) (by omega)) c9)
          refine lv_iload_n hx hb d_Mo_sees_82 rfl (lv_at hl 3 rfl) ?_
          exact W.iret (v := nI (cnt (fun j => alw dn (pkQ bf rk dn rc rn (768 * u + 8 * j + v))) i)) hx hb hr (fun t9 h9t h9W => ⟨⟨_, (L, f_2), rfl, ⟨by rw [inN_t hu (by decide), inN_t hv (by decide), show i = 96 by omega]; rfl, rfl, hkp, true, xw, hBw, fun _ => hX1⟩, by rw [h9t]; exact hP, hD⟩, hS.F h9t⟩) hS.2.2 d_Mo_sees_83
        | succ k ih =>
          intro i  ls hik  hl
          refine lv_iload hx hb d_Mo_sees_36 (lv_at hl 4 rfl) ?_
          refine lv_bipush (v := nI 96) hx hb d_Mo_sees_38 (by decide) ?_
          refine lv_icmp_ge (tgt := 82) hx hb d_Mo_sees_40 (by decide) (fun c9 => absurd c9 (nI_ge (by omega) (by omega))) (fun _ => ?_)
          refine lv_iload_n hx hb d_Mo_sees_43 rfl (lv_at hl 3 rfl) ?_
          refine lv_aload_n hx hb d_Mo_sees_44 rfl (lv_at hl 0 rfl) ?_
          refine lv_aload_n hx hb d_Mo_sees_45 rfl (lv_at hl 0 rfl) ?_
          refine va_get (D := G.1) (ci := 5) (v := .ref eA) (C := R_Mo) (T := T_Mo) (N := 14) hx hb hA in_Mo hown hK.1 (pl_o hP hmo) 0 rfl rfl 12 (by decide) (hA _ kw_209) (fun _ h9 => h9) rfl d_Mo_sees_46 ?_
          refine lv_sipush (v := nI 768) hx hb d_Mo_sees_49 (by decide) ?_
          refine lv_iload_n hx hb d_Mo_sees_52 rfl (lv_at hl 1 rfl) ?_
          refine lv_imul hx hb d_Mo_sees_53 ?_
          refine xv_I (y := nI (768 * u)) (pk_mul _ _) ?_
          refine lv_bipush (v := nI 8) hx hb d_Mo_sees_54 (by decide) ?_
          refine lv_iload hx hb d_Mo_sees_56 (lv_at hl 4 rfl) ?_
          refine lv_imul hx hb d_Mo_sees_58 ?_
          refine xv_I (y := nI (8 * i)) (pk_mul _ _) ?_
          refine lv_iadd hx hb d_Mo_sees_59 ?_
          refine xv_I (y := nI (768 * u + 8 * i)) (nI_add _ _) ?_
          refine lv_iload_n hx hb d_Mo_sees_60 rfl (lv_at hl 2 rfl) ?_
          refine lv_iadd hx hb d_Mo_sees_61 ?_
          refine xv_I (y := nI (768 * u + 8 * i + v)) (nI_add _ _) ?_
          refine xl_iald hx hb hK.1 (pl_o hP heA) 0 4 rfl rfl (i := (768 * u + 8 * i + v)) (by omega) (by decide) d_Mo_sees_62 ?_
          refine xv_I (y := oI (pkQ bf rk dn rc rn (768 * u + 8 * i + v))) (hX1 _ (by omega)) ?_
          refine vp_callSi (va_Run.run (va_runV (As := [.int (oI (pkQ bf rk dn rc rn (768 * u + 8 * i + v)))]) (rest := [.int (nI (cnt (fun j => alw dn (pkQ bf rk dn rc rn (768 * u + 8 * j + v))) i))]) ⟨hx, hb, hml, hown, hA⟩ (c_Mo_alw l G L f_2 hBw (pkQ bf rk dn rc rn (768 * u + 8 * i + v)) (fun k9 hk9 => by have := pkQ_lt hk9; omega)) ⟨callB_of 1 hA (gAW kw_210) rfl rfl rfl (hA _ kw_172) (hA _ kw_211) (by decide +kernel) ⟨Nat.le_of_ble_eq_true rfl, Nat.le_of_ble_eq_true rfl⟩, (hA _ kw_212), (hA _ kw_213)⟩ (pw_preV (ci := 5) hP hK hmo rfl) rfl rfl hl.1 rfl (lv_room (Nat.le_of_ble_eq_true rfl)) d_Mo_sees_63 ⟨Nat.zero_le _, Nat.zero_le _⟩)) (fun r_6 e_7 => ?_)
          subst e_7
          rcases bcase (alw dn (pkQ bf rk dn rc rn (768 * u + 8 * i + v))) with hh | hh
          · refine lv_if_eq (tgt := 73) hx hb d_Mo_sees_66 (by decide) (fun _ => ?_) (fun c9 => absurd (by rw [hh]; rfl) c9)
            refine lv_iconst (v := nI 0) hx hb d_Mo_sees_73 (by decide) ?_
            refine lv_iadd hx hb d_Mo_sees_74 ?_
            refine xv_I (y := nI (cnt (fun j => alw dn (pkQ bf rk dn rc rn (768 * u + 8 * j + v))) (i + 1))) ((nI_add _ _).trans (congrArg nI (cnt_f hh).symm)) ?_
            refine lv_istore_n (lv' := [(3, .int (nI (cnt (fun j => alw dn (pkQ bf rk dn rc rn (768 * u + 8 * j + v))) (i + 1)))), (0, .ref mo), (1, .int (nI u)), (2, .int (nI v)), (4, .int (nI i))]) hx hb d_Mo_sees_75 rfl hl (by decide) rfl (fun ls hl => ?_)
            refine lv_iinc (v := nI (i + 1)) (lv' := [(4, .int (nI (i + 1))), (3, .int (nI (cnt (fun j => alw dn (pkQ bf rk dn rc rn (768 * u + 8 * j + v))) (i + 1)))), (0, .ref mo), (1, .int (nI u)), (2, .int (nI v))]) hx hb d_Mo_sees_76 hl (k := 4) rfl (nI_1 i) (by decide) rfl (fun ls hl => ?_)
            refine lv_goto (tgt := 36) hx hb d_Mo_sees_79 (by decide) ?_
            exact ih (i + 1)  ls (by omega)  (lv_sub hl [2, 3, 4, 1, 0] rfl)
          · refine lv_if_eq (tgt := 73) hx hb d_Mo_sees_66 (by decide) (fun c9 => absurd c9 (by rw [hh]; decide)) (fun _ => ?_)
            refine lv_iconst (v := nI 1) hx hb d_Mo_sees_69 (by decide) ?_
            refine lv_goto (tgt := 74) hx hb d_Mo_sees_70 (by decide) ?_
            refine lv_iadd hx hb d_Mo_sees_74 ?_
            refine xv_I (y := nI (cnt (fun j => alw dn (pkQ bf rk dn rc rn (768 * u + 8 * j + v))) (i + 1))) ((nI_add _ _).trans (congrArg nI (cnt_t hh).symm)) ?_
            refine lv_istore_n (lv' := [(3, .int (nI (cnt (fun j => alw dn (pkQ bf rk dn rc rn (768 * u + 8 * j + v))) (i + 1)))), (0, .ref mo), (1, .int (nI u)), (2, .int (nI v)), (4, .int (nI i))]) hx hb d_Mo_sees_75 rfl hl (by decide) rfl (fun ls hl => ?_)
            refine lv_iinc (v := nI (i + 1)) (lv' := [(4, .int (nI (i + 1))), (3, .int (nI (cnt (fun j => alw dn (pkQ bf rk dn rc rn (768 * u + 8 * j + v))) (i + 1)))), (0, .ref mo), (1, .int (nI u)), (2, .int (nI v))]) hx hb d_Mo_sees_76 hl (k := 4) rfl (nI_1 i) (by decide) rfl (fun ls hl => ?_)
            refine lv_goto (tgt := 36) hx hb d_Mo_sees_79 (by decide) ?_
            exact ih (i + 1)  ls (by omega)  (lv_sub hl [2, 3, 4, 1, 0] rfl)
      exact loop (96 - 0) 0  ls (by omega)  (lv_sub hl [2, 3, 4, 1, 0] rfl)

set_option maxHeartbeats 4000000 in
set_option maxRecDepth 100000 in
/-- allowed -/
theorem c_Mo_allowed (l : Launch) (G : GG) (L : List Nat) (f : Nat → va_E) (sz : Nat) (hN : L.Nodup) {mo gA kA fA sA tA bA rA dA cA eA cn rn : Nat} {kn : Bool} {gf : Nat → Int32} {kd : Nat → Nat} {ka kb kc bf : Nat → Int32} {rk : Nat → Nat} {dn : Nat → Bool} {rc : Nat → Nat} {xf : Nat → Int32} (hB : MoB G L f mo gA kA fA sA tA bA rA dA cA eA cn rn kn gf kd ka kb kc bf rk dn rc xf) (hru : ∀ j, j < rn → rk j < 10 ∧ rc j < cn) (hX : KnI kn xf bf rk dn rc rn) : Met l y_Mo_allowed (.code y_Mo_allowed b_Mo_allowed 3 (some .int) :: AW) (RW 4 0 0) (va_Pc [.ref mo] (PZ G L f sz)) (va_Qi (fun r z => r = nI (cnt (fun q => alw dn (pkQ bf rk dn rc rn q)) 6144) ∧ z.1 = L ∧ Kp (fun a => moE (f a)) L f z ∧ ∃ kn9 xf9, MoB G L z.2 mo gA kA fA sA tA bA rA dA cA eA cn rn kn9 gf kd ka kb kc bf rk dn rc xf9 ∧ KnI kn9 xf9 bf rk dn rc rn) (BZ G (Am L sz)) (Am L sz)) 0 0 (Am L sz) := by
  refine Met.ofW (cc := b_Mo_allowed) (maxL := 3) (ret := (some .int)) (by decide) rfl ?_
  intro p e s m args below meth c s₁ B hml hv
  obtain ⟨rfl, hsz, hP, hK⟩ := hv
  have hx := B.exec
  have hb := B.bytes
  have hr := B.returns
  have hA : ∀ w ∈ AW, w.before _ s = true := fun w h => atoms_spec (ws := (.code y_Mo_allowed b_Mo_allowed 3 (some .int) :: AW)) B.pre w (List.mem_cons_of_mem _ h)
  have hown : s.vm.findClass R_Mo = some m.cls := findClass_of_methodNamed B.named
  have hlocks := B.notSynchronized
  subst hsz
  have hD : va_D (Am L s.heap.size) (va_pl L f) := pl_D hN (fun _ h => Or.inl h)
  have hA0 : ∀ q, s.heap.size ≤ q → Am L s.heap.size q := fun q h => Or.inr h
  generalize Am L s.heap.size = A at hD hA0 ⊢
  have hS : va_S A s.heap s.heap [] := va_S.rf
  have hkp : Kp (fun a => moE (f a)) L f (L, f) := Kp.rf
  have hl := lv_entry ([.ref mo]) (n := 3) (Nat.le_of_ble_eq_true rfl)
  rw [lg_entry_eq]
  generalize (lg_sl ([.ref mo]) ++ List.replicate (3 - (lg_sl ([.ref mo])).length) Slot.unset).toArray = ls at hl ⊢
  have hl : lv_has ls 3 [(0, .ref mo)] := hl
  have hmo : Lk L f mo (.inr (5, [.int (nI 0), .ref gA, .int (nI cn), .ref kA, .ref fA, .ref sA, .ref tA, .ref bA, .int (nI rn), .ref rA, .ref dA, .ref cA, .ref eA, .int (bI kn)])) := hB.2.2.1
  have hgA : Lk L f gA (.inl (G.2 4, 8, .inl gf)) := hB.2.2.2.1
  have hkA : Lk L f kA (.inl (G.2 4, 60, .inl (fun j => nI (kd j)))) := hB.2.2.2.2.1
  have hfA : Lk L f fA (.inl (G.2 4, 60, .inl ka)) := hB.2.2.2.2.2.1
  have hsA : Lk L f sA (.inl (G.2 4, 60, .inl kb)) := hB.2.2.2.2.2.2.1
  have htA : Lk L f tA (.inl (G.2 4, 60, .inl kc)) := hB.2.2.2.2.2.2.2.1
  have hbA : Lk L f bA (.inl (G.2 4, 11520, .inl bf)) := hB.2.2.2.2.2.2.2.2.1
  have hrA : Lk L f rA (.inl (G.2 4, 20, .inl (fun j => nI (rk j)))) := hB.2.2.2.2.2.2.2.2.2.1
  have hdA : Lk L f dA (.inl (G.2 1, 20, .inl (fun j => bI (dn j)))) := hB.2.2.2.2.2.2.2.2.2.2.1
  have hcA : Lk L f cA (.inl (G.2 4, 20, .inl (fun j => nI (rc j)))) := hB.2.2.2.2.2.2.2.2.2.2.2.1
  have heA : Lk L f eA (.inl (G.2 4, 6144, .inl xf)) := hB.2.2.2.2.2.2.2.2.2.2.2.2.1
  refine lv_aload_n hx hb d_Mo_allowed_0 rfl (lv_at hl 0 rfl) ?_
  refine lv_iconst (v := nI 0) hx hb d_Mo_allowed_1 (by decide) ?_
  refine xw_put (D := G.1) (ci := 5) (v := .int (nI 0)) (ty := .int) (C := R_Mo) (T := T_Mo) (N := 14) (fs' := [.int (nI 0), .ref gA, .int (nI cn), .ref kA, .ref fA, .ref sA, .ref tA, .ref bA, .int (nI rn), .ref rA, .ref dA, .ref cA, .ref eA, .int (bI kn)]) hx hb hA in_Mo ty_Mo tyok_Mo nm_Mo hown hK.1 hP hD hS hmo rfl 0 (by decide) (hA _ kw_223) (fun _ h9 => h9) rfl (by decide +kernel) rfl rfl (Nat.le_of_ble_eq_true rfl) d_Mo_allowed_2 rfl (fun H locs hP hD hS => ?_)
  obtain ⟨f_1, ef_1⟩ : ∃ z : Nat → va_E, z = va_up f mo (.inr (5, [.int (nI 0), .ref gA, .int (nI cn), .ref kA, .ref fA, .ref sA, .ref tA, .ref bA, .int (nI rn), .ref rA, .ref dA, .ref cA, .ref eA, .int (bI kn)])) := ⟨_, rfl⟩
  rw [← ef_1] at hP hD
  have hgA : Lk L f_1 gA (.inl (G.2 4, 8, .inl gf)) := by rw [ef_1]; exact Lk.up hgA (Ne.symm (Lk.neOA hmo hgA))
  have hkA : Lk L f_1 kA (.inl (G.2 4, 60, .inl (fun j => nI (kd j)))) := by rw [ef_1]; exact Lk.up hkA (Ne.symm (Lk.neOA hmo hkA))
  have hfA : Lk L f_1 fA (.inl (G.2 4, 60, .inl ka)) := by rw [ef_1]; exact Lk.up hfA (Ne.symm (Lk.neOA hmo hfA))
  have hsA : Lk L f_1 sA (.inl (G.2 4, 60, .inl kb)) := by rw [ef_1]; exact Lk.up hsA (Ne.symm (Lk.neOA hmo hsA))
  have htA : Lk L f_1 tA (.inl (G.2 4, 60, .inl kc)) := by rw [ef_1]; exact Lk.up htA (Ne.symm (Lk.neOA hmo htA))
  have hbA : Lk L f_1 bA (.inl (G.2 4, 11520, .inl bf)) := by rw [ef_1]; exact Lk.up hbA (Ne.symm (Lk.neOA hmo hbA))
  have hrA : Lk L f_1 rA (.inl (G.2 4, 20, .inl (fun j => nI (rk j)))) := by rw [ef_1]; exact Lk.up hrA (Ne.symm (Lk.neOA hmo hrA))
  have hdA : Lk L f_1 dA (.inl (G.2 1, 20, .inl (fun j => bI (dn j)))) := by rw [ef_1]; exact Lk.up hdA (Ne.symm (Lk.neOA hmo hdA))
  have hcA : Lk L f_1 cA (.inl (G.2 4, 20, .inl (fun j => nI (rc j)))) := by rw [ef_1]; exact Lk.up hcA (Ne.symm (Lk.neOA hmo hcA))
  have heA : Lk L f_1 eA (.inl (G.2 4, 6144, .inl xf)) := by rw [ef_1]; exact Lk.up heA (Ne.symm (Lk.neOA hmo heA))
  have hmo : Lk L f_1 mo (.inr (5, [.int (nI 0), .ref gA, .int (nI cn), .ref kA, .ref fA, .ref sA, .ref tA, .ref bA, .int (nI rn), .ref rA, .ref dA, .ref cA, .ref eA, .int (bI kn)])) := by rw [ef_1]; exact Lk.set hmo
  have hkp : Kp (fun a => moE (f a)) L f (L, f_1) := by rw [ef_1]; exact hkp.up (moE_o hB.2.2.1)
  have hB1 : MoB G L f_1 mo gA kA fA sA tA bA rA dA cA eA cn rn kn gf kd ka kb kc bf rk dn rc xf := ⟨hB.1, hB.2.1, hmo, hgA, hkA, hfA, hsA, htA, hbA, hrA, hdA, hcA, heA, hB.2.2.2.2.2.2.2.2.2.2.2.2.2⟩
  have hc60 := hB.1
  have hr20 := hB.2.1
  refine lv_aload_n hx hb d_Mo_allowed_5 rfl (lv_at hl 0 rfl) ?_
  have hFc := am_free hD hS hA0
  refine va_callv (va_runV (As := []) (rest := []) ⟨hx, hb, hml, hown, hA⟩ (c_Mo_know l G L f_1 H.size (pl_nd hD) hB1 hru hX) ⟨callB_of 0 hA (gAW kw_236) rfl rfl rfl (hA _ kw_172) (hA _ kw_237) (by decide +kernel) ⟨Nat.le_of_ble_eq_true rfl, Nat.le_of_ble_eq_true rfl⟩, (hA _ kw_238), (hA _ kw_239)⟩ (pz_preV (ci := 5) hP hK hmo rfl) rfl rfl hl.1 rfl (lv_room (Nat.le_of_ble_eq_true rfl)) d_Mo_allowed_6 ⟨Nat.le_of_ble_eq_true rfl, Nat.le_of_ble_eq_true rfl⟩) hS (fun q _ h => hFc q h) hFc (fun u9 t9 H1 locs ht9 hvm hw hWB hz1 hk1 hS => ?_)
  obtain ⟨L_2, f_2⟩ := u9
  obtain ⟨hP, hD1⟩ := hWB
  rw [ht9] at hP
  have hD := va_Dw hD1 hFc
  clear hD1 hk1 hz1 hFc ht9 hvm
  generalize H1 = H at hP hS ⊢
  dsimp only at hP hD
  obtain ⟨hz1, hk1, xw, hBw, hX1⟩ := hw
  try dsimp only at hz1 hk1 hBw
  replace hz1 := hz1.symm
  subst hz1
  have hkp : Kp (fun a => moE (f a)) L f (L, f_2) := Kp.mo hkp hk1
  have hmo : Lk L f_2 mo (.inr (5, [.int (nI 0), .ref gA, .int (nI cn), .ref kA, .ref fA, .ref sA, .ref tA, .ref bA, .int (nI rn), .ref rA, .ref dA, .ref cA, .ref eA, .int (bI true)])) := hBw.2.2.1
  have hgA : Lk L f_2 gA (.inl (G.2 4, 8, .inl gf)) := hBw.2.2.2.1
  have hkA : Lk L f_2 kA (.inl (G.2 4, 60, .inl (fun j => nI (kd j)))) := hBw.2.2.2.2.1
  have hfA : Lk L f_2 fA (.inl (G.2 4, 60, .inl ka)) := hBw.2.2.2.2.2.1
  have hsA : Lk L f_2 sA (.inl (G.2 4, 60, .inl kb)) := hBw.2.2.2.2.2.2.1
  have htA : Lk L f_2 tA (.inl (G.2 4, 60, .inl kc)) := hBw.2.2.2.2.2.2.2.1
  have hbA : Lk L f_2 bA (.inl (G.2 4, 11520, .inl bf)) := hBw.2.2.2.2.2.2.2.2.1
  have hrA : Lk L f_2 rA (.inl (G.2 4, 20, .inl (fun j => nI (rk j)))) := hBw.2.2.2.2.2.2.2.2.2.1
  have hdA : Lk L f_2 dA (.inl (G.2 1, 20, .inl (fun j => bI (dn j)))) := hBw.2.2.2.2.2.2.2.2.2.2.1
  have hcA : Lk L f_2 cA (.inl (G.2 4, 20, .inl (fun j => nI (rc j)))) := hBw.2.2.2.2.2.2.2.2.2.2.2.1
  have heA : Lk L f_2 eA (.inl (G.2 4, 6144, .inl xw)) := hBw.2.2.2.2.2.2.2.2.2.2.2.2.1
  refine lv_iconst (v := nI 0) hx hb d_Mo_allowed_9 (by decide) ?_
  refine lv_istore_n (lv' := [(1, .int (nI 0)), (0, .ref mo)]) hx hb d_Mo_allowed_10 rfl hl (by decide) rfl (fun ls hl => ?_)
  refine lv_iconst (v := nI 0) hx hb d_Mo_allowed_11 (by decide) ?_
  refine lv_istore_n (lv' := [(2, .int (nI 0)), (1, .int (nI 0)), (0, .ref mo)]) hx hb d_Mo_allowed_12 rfl hl (by decide) rfl (fun ls hl => ?_)
  have loop : ∀ (k i : Nat) (ls : Array Slot), i + k = 6144 → lv_has ls 3 [(0, .ref mo), (1, .int (nI (cnt (fun q => alw dn (pkQ bf rk dn rc rn q)) i))), (2, .int (nI i))] → W p l e (headSpec (.code y_Mo_allowed b_Mo_allowed 3 (some .int) :: AW) (RW 4 0 0)).room s m ([.ref mo] : List Value).toArray below meth c H locs 0 0 (MQ below (va_Qi (fun r z => r = nI (cnt (fun q => alw dn (pkQ bf rk dn rc rn q)) 6144) ∧ z.1 = L ∧ Kp (fun a => moE (f a)) L f z ∧ ∃ kn9 xf9, MoB G L z.2 mo gA kA fA sA tA bA rA dA cA eA cn rn kn9 gf kd ka kb kc bf rk dn rc xf9 ∧ KnI kn9 xf9 bf rk dn rc rn) (BZ G A) A) ([.ref mo] : List Value).toArray s 0 0 A) (F0 m 13 ls []) := by
    intro k
    induction k with
    | zero =>
      intro i  ls hik  hl
      refine lv_iload_n hx hb d_Mo_allowed_13 rfl (lv_at hl 2 rfl) ?_
      refine lv_sipush (v := nI 6144) hx hb d_Mo_allowed_14 (by decide) ?_
      refine lv_icmp_ge (tgt := 47) hx hb d_Mo_allowed_17 (by decide) (fun _ => ?_) (fun c9 => absurd (nI_le (by omega) (by omega)) c9)
      refine lv_iload_n hx hb d_Mo_allowed_47 rfl (lv_at hl 1 rfl) ?_
      exact W.iret (v := nI (cnt (fun q => alw dn (pkQ bf rk dn rc rn q)) i)) hx hb hr (fun t9 h9t h9W => ⟨⟨_, (L, f_2), rfl, ⟨by rw [show i = 6144 by omega], rfl, hkp, true, xw, hBw, fun _ => hX1⟩, by rw [h9t]; exact hP, hD⟩, hS.F h9t⟩) hS.2.2 d_Mo_allowed_48
    | succ k ih =>
      intro i  ls hik  hl
      refine lv_iload_n hx hb d_Mo_allowed_13 rfl (lv_at hl 2 rfl) ?_
      refine lv_sipush (v := nI 6144) hx hb d_Mo_allowed_14 (by decide) ?_
      refine lv_icmp_ge (tgt := 47) hx hb d_Mo_allowed_17 (by decide) (fun c9 => absurd c9 (nI_ge (by omega) (by omega))) (fun _ => ?_)
      refine lv_iload_n hx hb d_Mo_allowed_20 rfl (lv_at hl 1 rfl) ?_
      refine lv_aload_n hx hb d_Mo_allowed_21 rfl (lv_at hl 0 rfl) ?_
      refine lv_aload_n hx hb d_Mo_allowed_22 rfl (lv_at hl 0 rfl) ?_
      refine va_get (D := G.1) (ci := 5) (v := .ref eA) (C := R_Mo) (T := T_Mo) (N := 14) hx hb hA in_Mo hown hK.1 (pl_o hP hmo) 0 rfl rfl 12 (by decide) (hA _ kw_209) (fun _ h9 => h9) rfl d_Mo_allowed_23 ?_
      refine lv_iload_n hx hb d_Mo_allowed_26 rfl (lv_at hl 2 rfl) ?_
      refine xl_iald hx hb hK.1 (pl_o hP heA) 0 4 rfl rfl (i := i) (by omega) (by decide) d_Mo_allowed_27 ?_
      refine xv_I (y := oI (pkQ bf rk dn rc rn i)) (hX1 _ (by omega)) ?_
      refine vp_callSi (va_Run.run (va_runV (As := [.int (oI (pkQ bf rk dn rc rn i))]) (rest := [.int (nI (cnt (fun q => alw dn (pkQ bf rk dn rc rn q)) i))]) ⟨hx, hb, hml, hown, hA⟩ (c_Mo_alw l G L f_2 hBw (pkQ bf rk dn rc rn i) (fun k9 hk9 => by have := pkQ_lt hk9; omega)) ⟨callB_of 1 hA (gAW kw_210) rfl rfl rfl (hA _ kw_172) (hA _ kw_211) (by decide +kernel) ⟨Nat.le_of_ble_eq_true rfl, Nat.le_of_ble_eq_true rfl⟩, (hA _ kw_212), (hA _ kw_213)⟩ (pw_preV (ci := 5) hP hK hmo rfl) rfl rfl hl.1 rfl (lv_room (Nat.le_of_ble_eq_true rfl)) d_Mo_allowed_28 ⟨Nat.zero_le _, Nat.zero_le _⟩)) (fun r_2 e_3 => ?_)
      subst e_3
      rcases bcase (alw dn (pkQ bf rk dn rc rn i)) with hh | hh
      · refine lv_if_eq (tgt := 38) hx hb d_Mo_allowed_31 (by decide) (fun _ => ?_) (fun c9 => absurd (by rw [hh]; rfl) c9)
        refine lv_iconst (v := nI 0) hx hb d_Mo_allowed_38 (by decide) ?_
        refine lv_iadd hx hb d_Mo_allowed_39 ?_
        refine xv_I (y := nI (cnt (fun q => alw dn (pkQ bf rk dn rc rn q)) (i + 1))) ((nI_add _ _).trans (congrArg nI (cnt_f hh).symm)) ?_
        refine lv_istore_n (lv' := [(1, .int (nI (cnt (fun q => alw dn (pkQ bf rk dn rc rn q)) (i + 1)))), (0, .ref mo), (2, .int (nI i))]) hx hb d_Mo_allowed_40 rfl hl (by decide) rfl (fun ls hl => ?_)
        refine lv_iinc (v := nI (i + 1)) (lv' := [(2, .int (nI (i + 1))), (1, .int (nI (cnt (fun q => alw dn (pkQ bf rk dn rc rn q)) (i + 1)))), (0, .ref mo)]) hx hb d_Mo_allowed_41 hl (k := 2) rfl (nI_1 i) (by decide) rfl (fun ls hl => ?_)
        refine lv_goto (tgt := 13) hx hb d_Mo_allowed_44 (by decide) ?_
        exact ih (i + 1)  ls (by omega)  (lv_sub hl [2, 1, 0] rfl)
      · refine lv_if_eq (tgt := 38) hx hb d_Mo_allowed_31 (by decide) (fun c9 => absurd c9 (by rw [hh]; decide)) (fun _ => ?_)
        refine lv_iconst (v := nI 1) hx hb d_Mo_allowed_34 (by decide) ?_
        refine lv_goto (tgt := 39) hx hb d_Mo_allowed_35 (by decide) ?_
        refine lv_iadd hx hb d_Mo_allowed_39 ?_
        refine xv_I (y := nI (cnt (fun q => alw dn (pkQ bf rk dn rc rn q)) (i + 1))) ((nI_add _ _).trans (congrArg nI (cnt_t hh).symm)) ?_
        refine lv_istore_n (lv' := [(1, .int (nI (cnt (fun q => alw dn (pkQ bf rk dn rc rn q)) (i + 1)))), (0, .ref mo), (2, .int (nI i))]) hx hb d_Mo_allowed_40 rfl hl (by decide) rfl (fun ls hl => ?_)
        refine lv_iinc (v := nI (i + 1)) (lv' := [(2, .int (nI (i + 1))), (1, .int (nI (cnt (fun q => alw dn (pkQ bf rk dn rc rn q)) (i + 1)))), (0, .ref mo)]) hx hb d_Mo_allowed_41 hl (k := 2) rfl (nI_1 i) (by decide) rfl (fun ls hl => ?_)
        refine lv_goto (tgt := 13) hx hb d_Mo_allowed_44 (by decide) ?_
        exact ih (i + 1)  ls (by omega)  (lv_sub hl [2, 1, 0] rfl)
  exact loop (6144 - 0) 0  ls (by omega)  (lv_sub hl [2, 1, 0] rfl)

set_option maxHeartbeats 4000000 in
set_option maxRecDepth 100000 in
/-- matters -/
theorem c_Mo_matters (l : Launch) (G : GG) (L : List Nat) (f : Nat → va_E) (sz : Nat) (hN : L.Nodup) {mo gA kA fA sA tA bA rA dA cA eA cn rn : Nat} {kn : Bool} {gf : Nat → Int32} {kd : Nat → Nat} {ka kb kc bf : Nat → Int32} {rk : Nat → Nat} {dn : Nat → Bool} {rc : Nat → Nat} {xf : Nat → Int32} (hB : MoB G L f mo gA kA fA sA tA bA rA dA cA eA cn rn kn gf kd ka kb kc bf rk dn rc xf) (hru : ∀ j, j < rn → rk j < 10 ∧ rc j < cn) (hX : KnI kn xf bf rk dn rc rn) (x : Int32) : Met l y_Mo_matters (.code y_Mo_matters b_Mo_matters 4 (some .int) :: AW) (RW 4 0 0) (va_Pc [.ref mo, .int x] (PZ G L f sz)) (va_Qi (fun r z => r = onR (fun t => nI (cnt (fun q => decide (¬ alw dn (pkQ bf rk dn rc rn q) = alw dn (pick (rP bf rc (nI t) q) rk dn rn))) 6144)) (inN rn x) ∧ z.1 = L ∧ Kp (fun a => moE (f a)) L f z ∧ ∃ kn9 xf9, MoB G L z.2 mo gA kA fA sA tA bA rA dA cA eA cn rn kn9 gf kd ka kb kc bf rk dn rc xf9 ∧ KnI kn9 xf9 bf rk dn rc rn) (BZ G (Am L sz)) (Am L sz)) 0 0 (Am L sz) := by
  refine Met.ofW (cc := b_Mo_matters) (maxL := 4) (ret := (some .int)) (by decide) rfl ?_
  intro p e s m args below meth c s₁ B hml hv
  obtain ⟨rfl, hsz, hP, hK⟩ := hv
  have hx := B.exec
  have hb := B.bytes
  have hr := B.returns
  have hA : ∀ w ∈ AW, w.before _ s = true := fun w h => atoms_spec (ws := (.code y_Mo_matters b_Mo_matters 4 (some .int) :: AW)) B.pre w (List.mem_cons_of_mem _ h)
  have hown : s.vm.findClass R_Mo = some m.cls := findClass_of_methodNamed B.named
  have hlocks := B.notSynchronized
  subst hsz
  have hD : va_D (Am L s.heap.size) (va_pl L f) := pl_D hN (fun _ h => Or.inl h)
  have hA0 : ∀ q, s.heap.size ≤ q → Am L s.heap.size q := fun q h => Or.inr h
  generalize Am L s.heap.size = A at hD hA0 ⊢
  have hS : va_S A s.heap s.heap [] := va_S.rf
  have hkp : Kp (fun a => moE (f a)) L f (L, f) := Kp.rf
  have hl := lv_entry ([.ref mo, .int x]) (n := 4) (Nat.le_of_ble_eq_true rfl)
  rw [lg_entry_eq]
  generalize (lg_sl ([.ref mo, .int x]) ++ List.replicate (4 - (lg_sl ([.ref mo, .int x])).length) Slot.unset).toArray = ls at hl ⊢
  have hl : lv_has ls 4 [(0, .ref mo), (1, .int x)] := hl
  have hmo : Lk L f mo (.inr (5, [.int (nI 0), .ref gA, .int (nI cn), .ref kA, .ref fA, .ref sA, .ref tA, .ref bA, .int (nI rn), .ref rA, .ref dA, .ref cA, .ref eA, .int (bI kn)])) := hB.2.2.1
  have hgA : Lk L f gA (.inl (G.2 4, 8, .inl gf)) := hB.2.2.2.1
  have hkA : Lk L f kA (.inl (G.2 4, 60, .inl (fun j => nI (kd j)))) := hB.2.2.2.2.1
  have hfA : Lk L f fA (.inl (G.2 4, 60, .inl ka)) := hB.2.2.2.2.2.1
  have hsA : Lk L f sA (.inl (G.2 4, 60, .inl kb)) := hB.2.2.2.2.2.2.1
  have htA : Lk L f tA (.inl (G.2 4, 60, .inl kc)) := hB.2.2.2.2.2.2.2.1
  have hbA : Lk L f bA (.inl (G.2 4, 11520, .inl bf)) := hB.2.2.2.2.2.2.2.2.1
  have hrA : Lk L f rA (.inl (G.2 4, 20, .inl (fun j => nI (rk j)))) := hB.2.2.2.2.2.2.2.2.2.1
  have hdA : Lk L f dA (.inl (G.2 1, 20, .inl (fun j => bI (dn j)))) := hB.2.2.2.2.2.2.2.2.2.2.1
  have hcA : Lk L f cA (.inl (G.2 4, 20, .inl (fun j => nI (rc j)))) := hB.2.2.2.2.2.2.2.2.2.2.2.1
  have heA : Lk L f eA (.inl (G.2 4, 6144, .inl xf)) := hB.2.2.2.2.2.2.2.2.2.2.2.2.1
  refine lv_aload_n hx hb d_Mo_matters_0 rfl (lv_at hl 0 rfl) ?_
  refine lv_iconst (v := nI 0) hx hb d_Mo_matters_1 (by decide) ?_
  refine xw_put (D := G.1) (ci := 5) (v := .int (nI 0)) (ty := .int) (C := R_Mo) (T := T_Mo) (N := 14) (fs' := [.int (nI 0), .ref gA, .int (nI cn), .ref kA, .ref fA, .ref sA, .ref tA, .ref bA, .int (nI rn), .ref rA, .ref dA, .ref cA, .ref eA, .int (bI kn)]) hx hb hA in_Mo ty_Mo tyok_Mo nm_Mo hown hK.1 hP hD hS hmo rfl 0 (by decide) (hA _ kw_223) (fun _ h9 => h9) rfl (by decide +kernel) rfl rfl (Nat.le_of_ble_eq_true rfl) d_Mo_matters_2 rfl (fun H locs hP hD hS => ?_)
  obtain ⟨f_1, ef_1⟩ : ∃ z : Nat → va_E, z = va_up f mo (.inr (5, [.int (nI 0), .ref gA, .int (nI cn), .ref kA, .ref fA, .ref sA, .ref tA, .ref bA, .int (nI rn), .ref rA, .ref dA, .ref cA, .ref eA, .int (bI kn)])) := ⟨_, rfl⟩
  rw [← ef_1] at hP hD
  have hgA : Lk L f_1 gA (.inl (G.2 4, 8, .inl gf)) := by rw [ef_1]; exact Lk.up hgA (Ne.symm (Lk.neOA hmo hgA))
  have hkA : Lk L f_1 kA (.inl (G.2 4, 60, .inl (fun j => nI (kd j)))) := by rw [ef_1]; exact Lk.up hkA (Ne.symm (Lk.neOA hmo hkA))
  have hfA : Lk L f_1 fA (.inl (G.2 4, 60, .inl ka)) := by rw [ef_1]; exact Lk.up hfA (Ne.symm (Lk.neOA hmo hfA))
  have hsA : Lk L f_1 sA (.inl (G.2 4, 60, .inl kb)) := by rw [ef_1]; exact Lk.up hsA (Ne.symm (Lk.neOA hmo hsA))
  have htA : Lk L f_1 tA (.inl (G.2 4, 60, .inl kc)) := by rw [ef_1]; exact Lk.up htA (Ne.symm (Lk.neOA hmo htA))
  have hbA : Lk L f_1 bA (.inl (G.2 4, 11520, .inl bf)) := by rw [ef_1]; exact Lk.up hbA (Ne.symm (Lk.neOA hmo hbA))
  have hrA : Lk L f_1 rA (.inl (G.2 4, 20, .inl (fun j => nI (rk j)))) := by rw [ef_1]; exact Lk.up hrA (Ne.symm (Lk.neOA hmo hrA))
  have hdA : Lk L f_1 dA (.inl (G.2 1, 20, .inl (fun j => bI (dn j)))) := by rw [ef_1]; exact Lk.up hdA (Ne.symm (Lk.neOA hmo hdA))
  have hcA : Lk L f_1 cA (.inl (G.2 4, 20, .inl (fun j => nI (rc j)))) := by rw [ef_1]; exact Lk.up hcA (Ne.symm (Lk.neOA hmo hcA))
  have heA : Lk L f_1 eA (.inl (G.2 4, 6144, .inl xf)) := by rw [ef_1]; exact Lk.up heA (Ne.symm (Lk.neOA hmo heA))
  have hmo : Lk L f_1 mo (.inr (5, [.int (nI 0), .ref gA, .int (nI cn), .ref kA, .ref fA, .ref sA, .ref tA, .ref bA, .int (nI rn), .ref rA, .ref dA, .ref cA, .ref eA, .int (bI kn)])) := by rw [ef_1]; exact Lk.set hmo
  have hkp : Kp (fun a => moE (f a)) L f (L, f_1) := by rw [ef_1]; exact hkp.up (moE_o hB.2.2.1)
  have hB1 : MoB G L f_1 mo gA kA fA sA tA bA rA dA cA eA cn rn kn gf kd ka kb kc bf rk dn rc xf := ⟨hB.1, hB.2.1, hmo, hgA, hkA, hfA, hsA, htA, hbA, hrA, hdA, hcA, heA, hB.2.2.2.2.2.2.2.2.2.2.2.2.2⟩
  have hc60 := hB.1
  have hr20 := hB.2.1
  refine lv_aload_n hx hb d_Mo_matters_5 rfl (lv_at hl 0 rfl) ?_
  refine lv_iload_n hx hb d_Mo_matters_6 rfl (lv_at hl 1 rfl) ?_
  refine vp_callSi (va_Run.run (va_runV (As := [.int x]) (rest := []) ⟨hx, hb, hml, hown, hA⟩ (c_Mo_isR l G L f_1 hB1 x) ⟨callB_of 1 hA (gAW kw_232) rfl rfl rfl (hA _ kw_172) (hA _ kw_233) (by decide +kernel) ⟨Nat.le_of_ble_eq_true rfl, Nat.le_of_ble_eq_true rfl⟩, (hA _ kw_234), (hA _ kw_235)⟩ (pw_preV (ci := 5) hP hK hmo rfl) rfl rfl hl.1 rfl (lv_room (Nat.le_of_ble_eq_true rfl)) d_Mo_matters_7 ⟨Nat.zero_le _, Nat.zero_le _⟩)) (fun r_1 e_2 => ?_)
  subst e_2
  rcases bcase (blw x (nI rn)) with hb_0 | hb_0
  · refine lv_if_ne (tgt := 15) hx hb d_Mo_matters_10 (by decide) (fun c9 => absurd (by rw [hb_0]; rfl) c9) (fun _ => ?_)
    refine lv_iconst (v := (-1)) hx hb d_Mo_matters_13 (by decide) ?_
    exact W.iret (v := (-1)) hx hb hr (fun t9 h9t h9W => ⟨⟨_, (L, f_1), rfl, ⟨by rw [inN_f hb_0]; rfl, rfl, hkp, kn, xf, hB1, hX⟩, by rw [h9t]; exact hP, hD⟩, hS.F h9t⟩) hS.2.2 d_Mo_matters_14
  · refine lv_if_ne (tgt := 15) hx hb d_Mo_matters_10 (by decide) (fun _ => ?_) (fun c9 => absurd c9 (by rw [hb_0]; decide))
    obtain ⟨t, ht, rfl⟩ := blw_of (by omega) hb_0
    refine lv_aload_n hx hb d_Mo_matters_15 rfl (lv_at hl 0 rfl) ?_
    have hFc := am_free hD hS hA0
    refine va_callv (va_runV (As := []) (rest := []) ⟨hx, hb, hml, hown, hA⟩ (c_Mo_know l G L f_1 H.size (pl_nd hD) hB1 hru hX) ⟨callB_of 0 hA (gAW kw_236) rfl rfl rfl (hA _ kw_172) (hA _ kw_237) (by decide +kernel) ⟨Nat.le_of_ble_eq_true rfl, Nat.le_of_ble_eq_true rfl⟩, (hA _ kw_238), (hA _ kw_239)⟩ (pz_preV (ci := 5) hP hK hmo rfl) rfl rfl hl.1 rfl (lv_room (Nat.le_of_ble_eq_true rfl)) d_Mo_matters_16 ⟨Nat.le_of_ble_eq_true rfl, Nat.le_of_ble_eq_true rfl⟩) hS (fun q _ h => hFc q h) hFc (fun u9 t9 H1 locs ht9 hvm hw hWB hz1 hk1 hS => ?_)
    obtain ⟨L_2, f_2⟩ := u9
    obtain ⟨hP, hD1⟩ := hWB
    rw [ht9] at hP
    have hD := va_Dw hD1 hFc
    clear hD1 hk1 hz1 hFc ht9 hvm
    generalize H1 = H at hP hS ⊢
    dsimp only at hP hD
    obtain ⟨hz1, hk1, xw, hBw, hX1⟩ := hw
    try dsimp only at hz1 hk1 hBw
    replace hz1 := hz1.symm
    subst hz1
    have hkp : Kp (fun a => moE (f a)) L f (L, f_2) := Kp.mo hkp hk1
    have hmo : Lk L f_2 mo (.inr (5, [.int (nI 0), .ref gA, .int (nI cn), .ref kA, .ref fA, .ref sA, .ref tA, .ref bA, .int (nI rn), .ref rA, .ref dA, .ref cA, .ref eA, .int (bI true)])) := hBw.2.2.1
    have hgA : Lk L f_2 gA (.inl (G.2 4, 8, .inl gf)) := hBw.2.2.2.1
    have hkA : Lk L f_2 kA (.inl (G.2 4, 60, .inl (fun j => nI (kd j)))) := hBw.2.2.2.2.1
    have hfA : Lk L f_2 fA (.inl (G.2 4, 60, .inl ka)) := hBw.2.2.2.2.2.1
    have hsA : Lk L f_2 sA (.inl (G.2 4, 60, .inl kb)) := hBw.2.2.2.2.2.2.1
    have htA : Lk L f_2 tA (.inl (G.2 4, 60, .inl kc)) := hBw.2.2.2.2.2.2.2.1
    have hbA : Lk L f_2 bA (.inl (G.2 4, 11520, .inl bf)) := hBw.2.2.2.2.2.2.2.2.1
    have hrA : Lk L f_2 rA (.inl (G.2 4, 20, .inl (fun j => nI (rk j)))) := hBw.2.2.2.2.2.2.2.2.2.1
    have hdA : Lk L f_2 dA (.inl (G.2 1, 20, .inl (fun j => bI (dn j)))) := hBw.2.2.2.2.2.2.2.2.2.2.1
    have hcA : Lk L f_2 cA (.inl (G.2 4, 20, .inl (fun j => nI (rc j)))) := hBw.2.2.2.2.2.2.2.2.2.2.2.1
    have heA : Lk L f_2 eA (.inl (G.2 4, 6144, .inl xw)) := hBw.2.2.2.2.2.2.2.2.2.2.2.2.1
    refine lv_iconst (v := nI 0) hx hb d_Mo_matters_19 (by decide) ?_
    refine lv_istore_n (lv' := [(2, .int (nI 0)), (0, .ref mo), (1, .int (nI t))]) hx hb d_Mo_matters_20 rfl hl (by decide) rfl (fun ls hl => ?_)
    refine lv_iconst (v := nI 0) hx hb d_Mo_matters_21 (by decide) ?_
    refine lv_istore_n (lv' := [(3, .int (nI 0)), (2, .int (nI 0)), (0, .ref mo), (1, .int (nI t))]) hx hb d_Mo_matters_22 rfl hl (by decide) rfl (fun ls hl => ?_)
    have loop : ∀ (k i : Nat) (ls : Array Slot), i + k = 6144 → lv_has ls 4 [(0, .ref mo), (1, .int (nI t)), (2, .int (nI (cnt (fun q => decide (¬ alw dn (pkQ bf rk dn rc rn q) = alw dn (pick (rP bf rc (nI t) q) rk dn rn))) i))), (3, .int (nI i))] → W p l e (headSpec (.code y_Mo_matters b_Mo_matters 4 (some .int) :: AW) (RW 4 0 0)).room s m ([.ref mo, .int (nI t)] : List Value).toArray below meth c H locs 0 0 (MQ below (va_Qi (fun r z => r = onR (fun t => nI (cnt (fun q => decide (¬ alw dn (pkQ bf rk dn rc rn q) = alw dn (pick (rP bf rc (nI t) q) rk dn rn))) 6144)) (inN rn (nI t)) ∧ z.1 = L ∧ Kp (fun a => moE (f a)) L f z ∧ ∃ kn9 xf9, MoB G L z.2 mo gA kA fA sA tA bA rA dA cA eA cn rn kn9 gf kd ka kb kc bf rk dn rc xf9 ∧ KnI kn9 xf9 bf rk dn rc rn) (BZ G A) A) ([.ref mo, .int (nI t)] : List Value).toArray s 0 0 A) (F0 m 23 ls []) := by
      intro k
      induction k with
      | zero =>
        intro i  ls hik  hl
        refine lv_iload_n hx hb d_Mo_matters_23 rfl (lv_at hl 3 rfl) ?_
        refine lv_sipush (v := nI 6144) hx hb d_Mo_matters_24 (by decide) ?_
        refine lv_icmp_ge (tgt := 67) hx hb d_Mo_matters_27 (by decide) (fun _ => ?_) (fun c9 => absurd (nI_le (by omega) (by omega)) c9)
        refine lv_iload_n hx hb d_Mo_matters_67 rfl (lv_at hl 2 rfl) ?_
        exact W.iret (v := nI (cnt (fun q => decide (¬ alw dn (pkQ bf rk dn rc rn q) = alw dn (pick (rP bf rc (nI t) q) rk dn rn))) i)) hx hb hr (fun t9 h9t h9W => ⟨⟨_, (L, f_2), rfl, ⟨by rw [inN_t ht (by omega), show i = 6144 by omega]; rfl, rfl, hkp, true, xw, hBw, fun _ => hX1⟩, by rw [h9t]; exact hP, hD⟩, hS.F h9t⟩) hS.2.2 d_Mo_matters_68
      | succ k ih =>
        intro i  ls hik  hl
        refine lv_iload_n hx hb d_Mo_matters_23 rfl (lv_at hl 3 rfl) ?_
        refine lv_sipush (v := nI 6144) hx hb d_Mo_matters_24 (by decide) ?_
        refine lv_icmp_ge (tgt := 67) hx hb d_Mo_matters_27 (by decide) (fun c9 => absurd c9 (nI_ge (by omega) (by omega))) (fun _ => ?_)
        refine lv_iload_n hx hb d_Mo_matters_30 rfl (lv_at hl 2 rfl) ?_
        refine lv_aload_n hx hb d_Mo_matters_31 rfl (lv_at hl 0 rfl) ?_
        refine lv_aload_n hx hb d_Mo_matters_32 rfl (lv_at hl 0 rfl) ?_
        refine va_get (D := G.1) (ci := 5) (v := .ref eA) (C := R_Mo) (T := T_Mo) (N := 14) hx hb hA in_Mo hown hK.1 (pl_o hP hmo) 0 rfl rfl 12 (by decide) (hA _ kw_209) (fun _ h9 => h9) rfl d_Mo_matters_33 ?_
        refine lv_iload_n hx hb d_Mo_matters_36 rfl (lv_at hl 3 rfl) ?_
        refine xl_iald hx hb hK.1 (pl_o hP heA) 0 4 rfl rfl (i := i) (by omega) (by decide) d_Mo_matters_37 ?_
        refine xv_I (y := oI (pkQ bf rk dn rc rn i)) (hX1 i (by omega)) ?_
        refine vp_callSi (va_Run.run (va_runV (As := [.int (oI (pkQ bf rk dn rc rn i))]) (rest := [.int (nI (cnt (fun q => decide (¬ alw dn (pkQ bf rk dn rc rn q) = alw dn (pick (rP bf rc (nI t) q) rk dn rn))) i))]) ⟨hx, hb, hml, hown, hA⟩ (c_Mo_alw l G L f_2 hBw (pkQ bf rk dn rc rn i) (fun k9 hk9 => by have := pkQ_lt hk9; omega)) ⟨callB_of 1 hA (gAW kw_210) rfl rfl rfl (hA _ kw_172) (hA _ kw_211) (by decide +kernel) ⟨Nat.le_of_ble_eq_true rfl, Nat.le_of_ble_eq_true rfl⟩, (hA _ kw_212), (hA _ kw_213)⟩ (pw_preV (ci := 5) hP hK hmo rfl) rfl rfl hl.1 rfl (lv_room (Nat.le_of_ble_eq_true rfl)) d_Mo_matters_38 ⟨Nat.zero_le _, Nat.zero_le _⟩)) (fun r_4 e_5 => ?_)
        subst e_5
        refine lv_aload_n hx hb d_Mo_matters_41 rfl (lv_at hl 0 rfl) ?_
        refine lv_aload_n hx hb d_Mo_matters_42 rfl (lv_at hl 0 rfl) ?_
        refine lv_iload_n hx hb d_Mo_matters_43 rfl (lv_at hl 3 rfl) ?_
        refine lv_iload_n hx hb d_Mo_matters_44 rfl (lv_at hl 1 rfl) ?_
        refine vp_callSi (va_Run.run (va_runV (As := [.int (nI i), .int (nI t)]) (rest := [.ref mo, .int (bI (alw dn (pkQ bf rk dn rc rn i))), .int (nI (cnt (fun q => decide (¬ alw dn (pkQ bf rk dn rc rn q) = alw dn (pick (rP bf rc (nI t) q) rk dn rn))) i))]) ⟨hx, hb, hml, hown, hA⟩ (c_Mo_dec l G L f_2 hBw hru i (by omega) (nI t)) ⟨callB_of 2 hA (gAW kw_219) rfl rfl rfl (hA _ kw_172) (hA _ kw_220) (by decide +kernel) ⟨Nat.le_of_ble_eq_true rfl, Nat.le_of_ble_eq_true rfl⟩, (hA _ kw_221), (hA _ kw_222)⟩ (pw_preV (ci := 5) hP hK hmo rfl) rfl rfl hl.1 rfl (lv_room (Nat.le_of_ble_eq_true rfl)) d_Mo_matters_45 ⟨Nat.zero_le _, Nat.zero_le _⟩)) (fun r_6 e_7 => ?_)
        subst e_7
        refine vp_callSi (va_Run.run (va_runV (As := [.int (oI (pick (rP bf rc (nI t) i) rk dn rn))]) (rest := [.int (bI (alw dn (pkQ bf rk dn rc rn i))), .int (nI (cnt (fun q => decide (¬ alw dn (pkQ bf rk dn rc rn q) = alw dn (pick (rP bf rc (nI t) q) rk dn rn))) i))]) ⟨hx, hb, hml, hown, hA⟩ (c_Mo_alw l G L f_2 hBw (pick (rP bf rc (nI t) i) rk dn rn) (fun k9 hk9 => by have := (pick_some hk9).1; omega)) ⟨callB_of 1 hA (gAW kw_210) rfl rfl rfl (hA _ kw_172) (hA _ kw_211) (by decide +kernel) ⟨Nat.le_of_ble_eq_true rfl, Nat.le_of_ble_eq_true rfl⟩, (hA _ kw_212), (hA _ kw_213)⟩ (pw_preV (ci := 5) hP hK hmo rfl) rfl rfl hl.1 rfl (lv_room (Nat.le_of_ble_eq_true rfl)) d_Mo_matters_48 ⟨Nat.zero_le _, Nat.zero_le _⟩)) (fun r_8 e_9 => ?_)
        subst e_9
        by_cases he : alw dn (pkQ bf rk dn rc rn i) = alw dn (pick (rP bf rc (nI t) i) rk dn rn)
        · refine lv_icmp_eq (tgt := 58) hx hb d_Mo_matters_51 (by decide) (fun _ => ?_) (fun c9 => absurd (congrArg bI he) c9)
          refine lv_iconst (v := nI 0) hx hb d_Mo_matters_58 (by decide) ?_
          refine lv_iadd hx hb d_Mo_matters_59 ?_
          refine xv_I (y := nI (cnt (fun q => decide (¬ alw dn (pkQ bf rk dn rc rn q) = alw dn (pick (rP bf rc (nI t) q) rk dn rn))) (i + 1))) ((nI_add _ _).trans (congrArg nI (cnt_f (decide_eq_false (fun z => z he))).symm)) ?_
          refine lv_istore_n (lv' := [(2, .int (nI (cnt (fun q => decide (¬ alw dn (pkQ bf rk dn rc rn q) = alw dn (pick (rP bf rc (nI t) q) rk dn rn))) (i + 1)))), (0, .ref mo), (1, .int (nI t)), (3, .int (nI i))]) hx hb d_Mo_matters_60 rfl hl (by decide) rfl (fun ls hl => ?_)
          refine lv_iinc (v := nI (i + 1)) (lv' := [(3, .int (nI (i + 1))), (2, .int (nI (cnt (fun q => decide (¬ alw dn (pkQ bf rk dn rc rn q) = alw dn (pick (rP bf rc (nI t) q) rk dn rn))) (i + 1)))), (0, .ref mo), (1, .int (nI t))]) hx hb d_Mo_matters_61 hl (k := 3) rfl (nI_1 i) (by decide) rfl (fun ls hl => ?_)
          refine lv_goto (tgt := 23) hx hb d_Mo_matters_64 (by decide) ?_
          exact ih (i + 1)  ls (by omega)  (lv_sub hl [2, 3, 1, 0] rfl)
        · refine lv_icmp_eq (tgt := 58) hx hb d_Mo_matters_51 (by decide) (fun c9 => absurd c9 (fun z => he (bI_inj z))) (fun _ => ?_)
          refine lv_iconst (v := nI 1) hx hb d_Mo_matters_54 (by decide) ?_
          refine lv_goto (tgt := 59) hx hb d_Mo_matters_55 (by decide) ?_
          refine lv_iadd hx hb d_Mo_matters_59 ?_
          refine xv_I (y := nI (cnt (fun q => decide (¬ alw dn (pkQ bf rk dn rc rn q) = alw dn (pick (rP bf rc (nI t) q) rk dn rn))) (i + 1))) ((nI_add _ _).trans (congrArg nI (cnt_t (decide_eq_true he)).symm)) ?_
          refine lv_istore_n (lv' := [(2, .int (nI (cnt (fun q => decide (¬ alw dn (pkQ bf rk dn rc rn q) = alw dn (pick (rP bf rc (nI t) q) rk dn rn))) (i + 1)))), (0, .ref mo), (1, .int (nI t)), (3, .int (nI i))]) hx hb d_Mo_matters_60 rfl hl (by decide) rfl (fun ls hl => ?_)
          refine lv_iinc (v := nI (i + 1)) (lv' := [(3, .int (nI (i + 1))), (2, .int (nI (cnt (fun q => decide (¬ alw dn (pkQ bf rk dn rc rn q) = alw dn (pick (rP bf rc (nI t) q) rk dn rn))) (i + 1)))), (0, .ref mo), (1, .int (nI t))]) hx hb d_Mo_matters_61 hl (k := 3) rfl (nI_1 i) (by decide) rfl (fun ls hl => ?_)
          refine lv_goto (tgt := 23) hx hb d_Mo_matters_64 (by decide) ?_
          exact ih (i + 1)  ls (by omega)  (lv_sub hl [2, 3, 1, 0] rfl)
    exact loop (6144 - 0) 0  ls (by omega)  (lv_sub hl [2, 3, 1, 0] rfl)

set_option maxHeartbeats 4000000 in
set_option maxRecDepth 100000 in
/-- idle -/
theorem c_Mo_idle (l : Launch) (G : GG) (L : List Nat) (f : Nat → va_E) (sz : Nat) (hN : L.Nodup) {mo gA kA fA sA tA bA rA dA cA eA cn rn : Nat} {kn : Bool} {gf : Nat → Int32} {kd : Nat → Nat} {ka kb kc bf : Nat → Int32} {rk : Nat → Nat} {dn : Nat → Bool} {rc : Nat → Nat} {xf : Nat → Int32} (hB : MoB G L f mo gA kA fA sA tA bA rA dA cA eA cn rn kn gf kd ka kb kc bf rk dn rc xf) (hru : ∀ j, j < rn → rk j < 10 ∧ rc j < cn) (hX : KnI kn xf bf rk dn rc rn) (b : Bool) (x : Int32) : Met l y_Mo_idle (.code y_Mo_idle b_Mo_idle 6 (some .int) :: AW) (RW 4 0 0) (va_Pc [.ref mo, .int (bI b), .int x] (PZ G L f sz)) (va_Qi (fun r z => r = onR (fun t => nI (mId (fun r q => mB bf t q && wouldB (frF (rQ bf rc q) rk rn) (alw dn (pkQ bf rk dn rc rn q)) b r) 10 0)) (inN cn x) ∧ z.1 = L ∧ Kp (fun a => moE (f a)) L f z ∧ ∃ kn9 xf9, MoB G L z.2 mo gA kA fA sA tA bA rA dA cA eA cn rn kn9 gf kd ka kb kc bf rk dn rc xf9 ∧ KnI kn9 xf9 bf rk dn rc rn) (BZ G (Am L sz)) (Am L sz)) 0 0 (Am L sz) := by
  refine Met.ofW (cc := b_Mo_idle) (maxL := 6) (ret := (some .int)) (by decide) rfl ?_
  intro p e s m args below meth c s₁ B hml hv
  obtain ⟨rfl, hsz, hP, hK⟩ := hv
  have hx := B.exec
  have hb := B.bytes
  have hr := B.returns
  have hA : ∀ w ∈ AW, w.before _ s = true := fun w h => atoms_spec (ws := (.code y_Mo_idle b_Mo_idle 6 (some .int) :: AW)) B.pre w (List.mem_cons_of_mem _ h)
  have hown : s.vm.findClass R_Mo = some m.cls := findClass_of_methodNamed B.named
  have hlocks := B.notSynchronized
  subst hsz
  have hD : va_D (Am L s.heap.size) (va_pl L f) := pl_D hN (fun _ h => Or.inl h)
  have hA0 : ∀ q, s.heap.size ≤ q → Am L s.heap.size q := fun q h => Or.inr h
  generalize Am L s.heap.size = A at hD hA0 ⊢
  have hS : va_S A s.heap s.heap [] := va_S.rf
  have hkp : Kp (fun a => moE (f a)) L f (L, f) := Kp.rf
  have hl := lv_entry ([.ref mo, .int (bI b), .int x]) (n := 6) (Nat.le_of_ble_eq_true rfl)
  rw [lg_entry_eq]
  generalize (lg_sl ([.ref mo, .int (bI b), .int x]) ++ List.replicate (6 - (lg_sl ([.ref mo, .int (bI b), .int x])).length) Slot.unset).toArray = ls at hl ⊢
  have hl : lv_has ls 6 [(0, .ref mo), (1, .int (bI b)), (2, .int x)] := hl
  have hmo : Lk L f mo (.inr (5, [.int (nI 0), .ref gA, .int (nI cn), .ref kA, .ref fA, .ref sA, .ref tA, .ref bA, .int (nI rn), .ref rA, .ref dA, .ref cA, .ref eA, .int (bI kn)])) := hB.2.2.1
  have hgA : Lk L f gA (.inl (G.2 4, 8, .inl gf)) := hB.2.2.2.1
  have hkA : Lk L f kA (.inl (G.2 4, 60, .inl (fun j => nI (kd j)))) := hB.2.2.2.2.1
  have hfA : Lk L f fA (.inl (G.2 4, 60, .inl ka)) := hB.2.2.2.2.2.1
  have hsA : Lk L f sA (.inl (G.2 4, 60, .inl kb)) := hB.2.2.2.2.2.2.1
  have htA : Lk L f tA (.inl (G.2 4, 60, .inl kc)) := hB.2.2.2.2.2.2.2.1
  have hbA : Lk L f bA (.inl (G.2 4, 11520, .inl bf)) := hB.2.2.2.2.2.2.2.2.1
  have hrA : Lk L f rA (.inl (G.2 4, 20, .inl (fun j => nI (rk j)))) := hB.2.2.2.2.2.2.2.2.2.1
  have hdA : Lk L f dA (.inl (G.2 1, 20, .inl (fun j => bI (dn j)))) := hB.2.2.2.2.2.2.2.2.2.2.1
  have hcA : Lk L f cA (.inl (G.2 4, 20, .inl (fun j => nI (rc j)))) := hB.2.2.2.2.2.2.2.2.2.2.2.1
  have heA : Lk L f eA (.inl (G.2 4, 6144, .inl xf)) := hB.2.2.2.2.2.2.2.2.2.2.2.2.1
  refine lv_aload_n hx hb d_Mo_idle_0 rfl (lv_at hl 0 rfl) ?_
  refine lv_iconst (v := nI 0) hx hb d_Mo_idle_1 (by decide) ?_
  refine xw_put (D := G.1) (ci := 5) (v := .int (nI 0)) (ty := .int) (C := R_Mo) (T := T_Mo) (N := 14) (fs' := [.int (nI 0), .ref gA, .int (nI cn), .ref kA, .ref fA, .ref sA, .ref tA, .ref bA, .int (nI rn), .ref rA, .ref dA, .ref cA, .ref eA, .int (bI kn)]) hx hb hA in_Mo ty_Mo tyok_Mo nm_Mo hown hK.1 hP hD hS hmo rfl 0 (by decide) (hA _ kw_223) (fun _ h9 => h9) rfl (by decide +kernel) rfl rfl (Nat.le_of_ble_eq_true rfl) d_Mo_idle_2 rfl (fun H locs hP hD hS => ?_)
  obtain ⟨f_1, ef_1⟩ : ∃ z : Nat → va_E, z = va_up f mo (.inr (5, [.int (nI 0), .ref gA, .int (nI cn), .ref kA, .ref fA, .ref sA, .ref tA, .ref bA, .int (nI rn), .ref rA, .ref dA, .ref cA, .ref eA, .int (bI kn)])) := ⟨_, rfl⟩
  rw [← ef_1] at hP hD
  have hgA : Lk L f_1 gA (.inl (G.2 4, 8, .inl gf)) := by rw [ef_1]; exact Lk.up hgA (Ne.symm (Lk.neOA hmo hgA))
  have hkA : Lk L f_1 kA (.inl (G.2 4, 60, .inl (fun j => nI (kd j)))) := by rw [ef_1]; exact Lk.up hkA (Ne.symm (Lk.neOA hmo hkA))
  have hfA : Lk L f_1 fA (.inl (G.2 4, 60, .inl ka)) := by rw [ef_1]; exact Lk.up hfA (Ne.symm (Lk.neOA hmo hfA))
  have hsA : Lk L f_1 sA (.inl (G.2 4, 60, .inl kb)) := by rw [ef_1]; exact Lk.up hsA (Ne.symm (Lk.neOA hmo hsA))
  have htA : Lk L f_1 tA (.inl (G.2 4, 60, .inl kc)) := by rw [ef_1]; exact Lk.up htA (Ne.symm (Lk.neOA hmo htA))
  have hbA : Lk L f_1 bA (.inl (G.2 4, 11520, .inl bf)) := by rw [ef_1]; exact Lk.up hbA (Ne.symm (Lk.neOA hmo hbA))
  have hrA : Lk L f_1 rA (.inl (G.2 4, 20, .inl (fun j => nI (rk j)))) := by rw [ef_1]; exact Lk.up hrA (Ne.symm (Lk.neOA hmo hrA))
  have hdA : Lk L f_1 dA (.inl (G.2 1, 20, .inl (fun j => bI (dn j)))) := by rw [ef_1]; exact Lk.up hdA (Ne.symm (Lk.neOA hmo hdA))
  have hcA : Lk L f_1 cA (.inl (G.2 4, 20, .inl (fun j => nI (rc j)))) := by rw [ef_1]; exact Lk.up hcA (Ne.symm (Lk.neOA hmo hcA))
  have heA : Lk L f_1 eA (.inl (G.2 4, 6144, .inl xf)) := by rw [ef_1]; exact Lk.up heA (Ne.symm (Lk.neOA hmo heA))
  have hmo : Lk L f_1 mo (.inr (5, [.int (nI 0), .ref gA, .int (nI cn), .ref kA, .ref fA, .ref sA, .ref tA, .ref bA, .int (nI rn), .ref rA, .ref dA, .ref cA, .ref eA, .int (bI kn)])) := by rw [ef_1]; exact Lk.set hmo
  have hkp : Kp (fun a => moE (f a)) L f (L, f_1) := by rw [ef_1]; exact hkp.up (moE_o hB.2.2.1)
  have hB1 : MoB G L f_1 mo gA kA fA sA tA bA rA dA cA eA cn rn kn gf kd ka kb kc bf rk dn rc xf := ⟨hB.1, hB.2.1, hmo, hgA, hkA, hfA, hsA, htA, hbA, hrA, hdA, hcA, heA, hB.2.2.2.2.2.2.2.2.2.2.2.2.2⟩
  have hc60 := hB.1
  have hr20 := hB.2.1
  refine lv_aload_n hx hb d_Mo_idle_5 rfl (lv_at hl 0 rfl) ?_
  refine lv_iload_n hx hb d_Mo_idle_6 rfl (lv_at hl 2 rfl) ?_
  refine vp_callSi (va_Run.run (va_runV (As := [.int x]) (rest := []) ⟨hx, hb, hml, hown, hA⟩ (c_Mo_isC l G L f_1 hB1 x) ⟨callB_of 1 hA (gAW kw_198) rfl rfl rfl (hA _ kw_172) (hA _ kw_199) (by decide +kernel) ⟨Nat.le_of_ble_eq_true rfl, Nat.le_of_ble_eq_true rfl⟩, (hA _ kw_200), (hA _ kw_201)⟩ (pw_preV (ci := 5) hP hK hmo rfl) rfl rfl hl.1 rfl (lv_room (Nat.le_of_ble_eq_true rfl)) d_Mo_idle_7 ⟨Nat.zero_le _, Nat.zero_le _⟩)) (fun r_1 e_2 => ?_)
  subst e_2
  rcases bcase (blw x (nI cn)) with hb_0 | hb_0
  · refine lv_if_ne (tgt := 15) hx hb d_Mo_idle_10 (by decide) (fun c9 => absurd (by rw [hb_0]; rfl) c9) (fun _ => ?_)
    refine lv_iconst (v := (-1)) hx hb d_Mo_idle_13 (by decide) ?_
    exact W.iret (v := (-1)) hx hb hr (fun t9 h9t h9W => ⟨⟨_, (L, f_1), rfl, ⟨by rw [inN_f hb_0]; rfl, rfl, hkp, kn, xf, hB1, hX⟩, by rw [h9t]; exact hP, hD⟩, hS.F h9t⟩) hS.2.2 d_Mo_idle_14
  · refine lv_if_ne (tgt := 15) hx hb d_Mo_idle_10 (by decide) (fun _ => ?_) (fun c9 => absurd c9 (by rw [hb_0]; decide))
    obtain ⟨t, ht, rfl⟩ := blw_of (by omega) hb_0
    refine lv_aload_n hx hb d_Mo_idle_15 rfl (lv_at hl 0 rfl) ?_
    have hFc := am_free hD hS hA0
    refine va_callv (va_runV (As := []) (rest := []) ⟨hx, hb, hml, hown, hA⟩ (c_Mo_know l G L f_1 H.size (pl_nd hD) hB1 hru hX) ⟨callB_of 0 hA (gAW kw_236) rfl rfl rfl (hA _ kw_172) (hA _ kw_237) (by decide +kernel) ⟨Nat.le_of_ble_eq_true rfl, Nat.le_of_ble_eq_true rfl⟩, (hA _ kw_238), (hA _ kw_239)⟩ (pz_preV (ci := 5) hP hK hmo rfl) rfl rfl hl.1 rfl (lv_room (Nat.le_of_ble_eq_true rfl)) d_Mo_idle_16 ⟨Nat.le_of_ble_eq_true rfl, Nat.le_of_ble_eq_true rfl⟩) hS (fun q _ h => hFc q h) hFc (fun u9 t9 H1 locs ht9 hvm hw hWB hz1 hk1 hS => ?_)
    obtain ⟨L_2, f_2⟩ := u9
    obtain ⟨hP, hD1⟩ := hWB
    rw [ht9] at hP
    have hD := va_Dw hD1 hFc
    clear hD1 hk1 hz1 hFc ht9 hvm
    generalize H1 = H at hP hS ⊢
    dsimp only at hP hD
    obtain ⟨hz1, hk1, xw, hBw, hX1⟩ := hw
    try dsimp only at hz1 hk1 hBw
    replace hz1 := hz1.symm
    subst hz1
    have hkp : Kp (fun a => moE (f a)) L f (L, f_2) := Kp.mo hkp hk1
    have hmo : Lk L f_2 mo (.inr (5, [.int (nI 0), .ref gA, .int (nI cn), .ref kA, .ref fA, .ref sA, .ref tA, .ref bA, .int (nI rn), .ref rA, .ref dA, .ref cA, .ref eA, .int (bI true)])) := hBw.2.2.1
    have hgA : Lk L f_2 gA (.inl (G.2 4, 8, .inl gf)) := hBw.2.2.2.1
    have hkA : Lk L f_2 kA (.inl (G.2 4, 60, .inl (fun j => nI (kd j)))) := hBw.2.2.2.2.1
    have hfA : Lk L f_2 fA (.inl (G.2 4, 60, .inl ka)) := hBw.2.2.2.2.2.1
    have hsA : Lk L f_2 sA (.inl (G.2 4, 60, .inl kb)) := hBw.2.2.2.2.2.2.1
    have htA : Lk L f_2 tA (.inl (G.2 4, 60, .inl kc)) := hBw.2.2.2.2.2.2.2.1
    have hbA : Lk L f_2 bA (.inl (G.2 4, 11520, .inl bf)) := hBw.2.2.2.2.2.2.2.2.1
    have hrA : Lk L f_2 rA (.inl (G.2 4, 20, .inl (fun j => nI (rk j)))) := hBw.2.2.2.2.2.2.2.2.2.1
    have hdA : Lk L f_2 dA (.inl (G.2 1, 20, .inl (fun j => bI (dn j)))) := hBw.2.2.2.2.2.2.2.2.2.2.1
    have hcA : Lk L f_2 cA (.inl (G.2 4, 20, .inl (fun j => nI (rc j)))) := hBw.2.2.2.2.2.2.2.2.2.2.2.1
    have heA : Lk L f_2 eA (.inl (G.2 4, 6144, .inl xw)) := hBw.2.2.2.2.2.2.2.2.2.2.2.2.1
    refine lv_iconst (v := nI 0) hx hb d_Mo_idle_19 (by decide) ?_
    refine lv_istore_n (lv' := [(3, .int (nI 0)), (0, .ref mo), (1, .int (bI b)), (2, .int (nI t))]) hx hb d_Mo_idle_20 rfl hl (by decide) rfl (fun ls hl => ?_)
    have loopo : ∀ (ko r_ : Nat) (ls : Array Slot), r_ + ko = 10 → mId (fun r q => mB bf t q && wouldB (frF (rQ bf rc q) rk rn) (alw dn (pkQ bf rk dn rc rn q)) b r) 10 0 = mId (fun r q => mB bf t q && wouldB (frF (rQ bf rc q) rk rn) (alw dn (pkQ bf rk dn rc rn q)) b r) ko r_ → lv_has ls 6 [(0, .ref mo), (1, .int (bI b)), (2, .int (nI t)), (3, .int (nI r_))] → W p l e (headSpec (.code y_Mo_idle b_Mo_idle 6 (some .int) :: AW) (RW 4 0 0)).room s m ([.ref mo, .int (bI b), .int (nI t)] : List Value).toArray below meth c H locs 0 0 (MQ below (va_Qi (fun r z => r = onR (fun t => nI (mId (fun r q => mB bf t q && wouldB (frF (rQ bf rc q) rk rn) (alw dn (pkQ bf rk dn rc rn q)) b r) 10 0)) (inN cn (nI t)) ∧ z.1 = L ∧ Kp (fun a => moE (f a)) L f z ∧ ∃ kn9 xf9, MoB G L z.2 mo gA kA fA sA tA bA rA dA cA eA cn rn kn9 gf kd ka kb kc bf rk dn rc xf9 ∧ KnI kn9 xf9 bf rk dn rc rn) (BZ G A) A) ([.ref mo, .int (bI b), .int (nI t)] : List Value).toArray s 0 0 A) (F0 m 21 ls []) := by
      intro ko
      induction ko with
      | zero =>
        intro r_  ls hiko hro hl
        refine lv_iload_n hx hb d_Mo_idle_21 rfl (lv_at hl 3 rfl) ?_
        refine lv_bipush (v := nI 10) hx hb d_Mo_idle_22 (by decide) ?_
        refine lv_icmp_ge (tgt := 93) hx hb d_Mo_idle_24 (by decide) (fun _ => ?_) (fun c9 => absurd (nI_le (by omega) (by omega)) c9)
        refine lv_bipush (v := nI 10) hx hb d_Mo_idle_93 (by decide) ?_
        exact W.iret (v := nI 10) hx hb hr (fun t9 h9t h9W => ⟨⟨_, (L, f_2), rfl, ⟨by rw [inN_t ht (by omega)]; exact (congrArg nI hro).symm, rfl, hkp, true, xw, hBw, fun _ => hX1⟩, by rw [h9t]; exact hP, hD⟩, hS.F h9t⟩) hS.2.2 d_Mo_idle_95
      | succ ko iho =>
        intro r_  ls hiko hro hl
        refine lv_iload_n hx hb d_Mo_idle_21 rfl (lv_at hl 3 rfl) ?_
        refine lv_bipush (v := nI 10) hx hb d_Mo_idle_22 (by decide) ?_
        refine lv_icmp_ge (tgt := 93) hx hb d_Mo_idle_24 (by decide) (fun c9 => absurd c9 (nI_ge (by omega) (by omega))) (fun _ => ?_)
        refine lv_iconst (v := nI 0) hx hb d_Mo_idle_27 (by decide) ?_
        refine lv_istore (lv' := [(4, .int (nI 0)), (0, .ref mo), (1, .int (bI b)), (2, .int (nI t)), (3, .int (nI r_))]) hx hb d_Mo_idle_28 hl (by decide) rfl (fun ls hl => ?_)
        refine lv_iconst (v := nI 0) hx hb d_Mo_idle_30 (by decide) ?_
        refine lv_istore (lv' := [(5, .int (nI 0)), (4, .int (nI 0)), (0, .ref mo), (1, .int (bI b)), (2, .int (nI t)), (3, .int (nI r_))]) hx hb d_Mo_idle_31 hl (by decide) rfl (fun ls hl => ?_)
        have loopi : ∀ (k q_ : Nat) (ls : Array Slot), q_ + k = 6144 → fst0 ((fun r q => mB bf t q && wouldB (frF (rQ bf rc q) rk rn) (alw dn (pkQ bf rk dn rc rn q)) b r) r_) 6144 0 = fst0 ((fun r q => mB bf t q && wouldB (frF (rQ bf rc q) rk rn) (alw dn (pkQ bf rk dn rc rn q)) b r) r_) k q_ → lv_has ls 6 [(0, .ref mo), (1, .int (bI b)), (2, .int (nI t)), (3, .int (nI r_)), (4, .int (nI 0)), (5, .int (nI q_))] → W p l e (headSpec (.code y_Mo_idle b_Mo_idle 6 (some .int) :: AW) (RW 4 0 0)).room s m ([.ref mo, .int (bI b), .int (nI t)] : List Value).toArray below meth c H locs 0 0 (MQ below (va_Qi (fun r z => r = onR (fun t => nI (mId (fun r q => mB bf t q && wouldB (frF (rQ bf rc q) rk rn) (alw dn (pkQ bf rk dn rc rn q)) b r) 10 0)) (inN cn (nI t)) ∧ z.1 = L ∧ Kp (fun a => moE (f a)) L f z ∧ ∃ kn9 xf9, MoB G L z.2 mo gA kA fA sA tA bA rA dA cA eA cn rn kn9 gf kd ka kb kc bf rk dn rc xf9 ∧ KnI kn9 xf9 bf rk dn rc rn) (BZ G A) A) ([.ref mo, .int (bI b), .int (nI t)] : List Value).toArray s 0 0 A) (F0 m 33 ls []) := by
          intro k
          induction k with
          | zero =>
            intro q_  ls hik hri hl
            refine lv_iload hx hb d_Mo_idle_33 (lv_at hl 5 rfl) ?_
            refine lv_sipush (v := nI 6144) hx hb d_Mo_idle_35 (by decide) ?_
            refine lv_icmp_ge (tgt := 80) hx hb d_Mo_idle_38 (by decide) (fun _ => ?_) (fun c9 => absurd (nI_le (by omega) (by omega)) c9)
            refine lv_iload hx hb d_Mo_idle_80 (lv_at hl 4 rfl) ?_
            refine lv_if_ne (tgt := 87) hx hb d_Mo_idle_82 (by decide) (fun c9 => absurd rfl c9) (fun _ => ?_)
            refine lv_iload_n hx hb d_Mo_idle_85 rfl (lv_at hl 3 rfl) ?_
            exact W.iret (v := nI r_) hx hb hr (fun t9 h9t h9W => ⟨⟨_, (L, f_2), rfl, ⟨by rw [inN_t ht (by omega)]; exact (congrArg nI (hro.trans (if_pos (by rw [hri]; rfl)))).symm, rfl, hkp, true, xw, hBw, fun _ => hX1⟩, by rw [h9t]; exact hP, hD⟩, hS.F h9t⟩) hS.2.2 d_Mo_idle_86
          | succ k ih =>
            intro q_  ls hik hri hl
            refine lv_iload hx hb d_Mo_idle_33 (lv_at hl 5 rfl) ?_
            refine lv_sipush (v := nI 6144) hx hb d_Mo_idle_35 (by decide) ?_
            refine lv_icmp_ge (tgt := 80) hx hb d_Mo_idle_38 (by decide) (fun c9 => absurd c9 (nI_ge (by omega) (by omega))) (fun _ => ?_)
            refine lv_iload hx hb d_Mo_idle_41 (lv_at hl 4 rfl) ?_
            refine lv_if_ne (tgt := 80) hx hb d_Mo_idle_43 (by decide) (fun c9 => absurd rfl c9) (fun _ => ?_)
            refine lv_aload_n hx hb d_Mo_idle_46 rfl (lv_at hl 0 rfl) ?_
            refine lv_iload_n hx hb d_Mo_idle_47 rfl (lv_at hl 2 rfl) ?_
            refine lv_iload hx hb d_Mo_idle_48 (lv_at hl 5 rfl) ?_
            refine vp_callSi (va_Run.run (va_runV (As := [.int (nI t), .int (nI q_)]) (rest := []) ⟨hx, hb, hml, hown, hA⟩ (c_Mo_holds l G L f_2 hBw t q_ (by omega) (by omega)) ⟨callB_of 2 hA (gAW kw_193) rfl rfl rfl (hA _ kw_172) (hA _ kw_194) (by decide +kernel) ⟨Nat.le_of_ble_eq_true rfl, Nat.le_of_ble_eq_true rfl⟩, (hA _ kw_195), (hA _ kw_196)⟩ (pw_preV (ci := 5) hP hK hmo rfl) rfl rfl hl.1 rfl (lv_room (Nat.le_of_ble_eq_true rfl)) d_Mo_idle_50 ⟨Nat.zero_le _, Nat.zero_le _⟩)) (fun r_4 e_5 => ?_)
            subst e_5
            rcases bcase (mB bf t q_) with hh | hh
            · refine lv_if_eq (tgt := 71) hx hb d_Mo_idle_53 (by decide) (fun _ => ?_) (fun c9 => absurd (by rw [hh]; rfl) c9)
              refine lv_iconst (v := nI 0) hx hb d_Mo_idle_71 (by decide) ?_
              refine lv_istore (lv' := [(4, .int (nI 0)), (0, .ref mo), (1, .int (bI b)), (2, .int (nI t)), (3, .int (nI r_)), (5, .int (nI q_))]) hx hb d_Mo_idle_72 hl (by decide) rfl (fun ls hl => ?_)
              refine lv_iinc (v := nI (q_ + 1)) (lv' := [(5, .int (nI (q_ + 1))), (4, .int (nI 0)), (0, .ref mo), (1, .int (bI b)), (2, .int (nI t)), (3, .int (nI r_))]) hx hb d_Mo_idle_74 hl (k := 5) rfl (nI_1 q_) (by decide) rfl (fun ls hl => ?_)
              refine lv_goto (tgt := 33) hx hb d_Mo_idle_77 (by decide) ?_
              exact ih (q_ + 1)  ls (by omega) (hri.trans (if_neg (by show ¬ (mB bf t q_ && _) = true; rw [hh, Bool.false_and]; decide))) (lv_sub hl [2, 3, 4, 5, 1, 0] rfl)
            · refine lv_if_eq (tgt := 71) hx hb d_Mo_idle_53 (by decide) (fun c9 => absurd c9 (by rw [hh]; decide)) (fun _ => ?_)
              refine lv_aload_n hx hb d_Mo_idle_56 rfl (lv_at hl 0 rfl) ?_
              refine lv_iload_n hx hb d_Mo_idle_57 rfl (lv_at hl 3 rfl) ?_
              refine lv_iload_n hx hb d_Mo_idle_58 rfl (lv_at hl 1 rfl) ?_
              refine lv_iload hx hb d_Mo_idle_59 (lv_at hl 5 rfl) ?_
              refine vp_callSi (va_Run.run (va_runV (As := [.int (nI r_), .int (bI b), .int (nI q_)]) (rest := []) ⟨hx, hb, hml, hown, hA⟩ (c_Mo_would l G L f_2 hBw hru hX1 r_ b q_ (by omega) (by omega)) ⟨callB_of 3 hA (gAW kw_240) rfl rfl rfl (hA _ kw_172) (hA _ kw_241) (by decide +kernel) ⟨Nat.le_of_ble_eq_true rfl, Nat.le_of_ble_eq_true rfl⟩, (hA _ kw_242), (hA _ kw_243)⟩ (pw_preV (ci := 5) hP hK hmo rfl) rfl rfl hl.1 rfl (lv_room (Nat.le_of_ble_eq_true rfl)) d_Mo_idle_61 ⟨Nat.zero_le _, Nat.zero_le _⟩)) (fun r_6 e_7 => ?_)
              subst e_7
              rcases bcase (wouldB (frF (rQ bf rc q_) rk rn) (alw dn (pkQ bf rk dn rc rn q_)) b r_) with h2 | h2
              · refine lv_if_eq (tgt := 71) hx hb d_Mo_idle_64 (by decide) (fun _ => ?_) (fun c9 => absurd (by rw [h2]; rfl) c9)
                refine lv_iconst (v := nI 0) hx hb d_Mo_idle_71 (by decide) ?_
                refine lv_istore (lv' := [(4, .int (nI 0)), (0, .ref mo), (1, .int (bI b)), (2, .int (nI t)), (3, .int (nI r_)), (5, .int (nI q_))]) hx hb d_Mo_idle_72 hl (by decide) rfl (fun ls hl => ?_)
                refine lv_iinc (v := nI (q_ + 1)) (lv' := [(5, .int (nI (q_ + 1))), (4, .int (nI 0)), (0, .ref mo), (1, .int (bI b)), (2, .int (nI t)), (3, .int (nI r_))]) hx hb d_Mo_idle_74 hl (k := 5) rfl (nI_1 q_) (by decide) rfl (fun ls hl => ?_)
                refine lv_goto (tgt := 33) hx hb d_Mo_idle_77 (by decide) ?_
                exact ih (q_ + 1)  ls (by omega) (hri.trans (if_neg (by show ¬ (mB bf t q_ && wouldB (frF (rQ bf rc q_) rk rn) (alw dn (pkQ bf rk dn rc rn q_)) b r_) = true; rw [h2, Bool.and_false]; decide))) (lv_sub hl [2, 3, 4, 5, 1, 0] rfl)
              · refine lv_if_eq (tgt := 71) hx hb d_Mo_idle_64 (by decide) (fun c9 => absurd c9 (by rw [h2]; decide)) (fun _ => ?_)
                refine lv_iconst (v := nI 1) hx hb d_Mo_idle_67 (by decide) ?_
                refine lv_goto (tgt := 72) hx hb d_Mo_idle_68 (by decide) ?_
                refine lv_istore (lv' := [(4, .int (nI 1)), (0, .ref mo), (1, .int (bI b)), (2, .int (nI t)), (3, .int (nI r_)), (5, .int (nI q_))]) hx hb d_Mo_idle_72 hl (by decide) rfl (fun ls hl => ?_)
                refine lv_iinc (v := nI (q_ + 1)) (lv' := [(5, .int (nI (q_ + 1))), (4, .int (nI 1)), (0, .ref mo), (1, .int (bI b)), (2, .int (nI t)), (3, .int (nI r_))]) hx hb d_Mo_idle_74 hl (k := 5) rfl (nI_1 q_) (by decide) rfl (fun ls hl => ?_)
                refine lv_goto (tgt := 33) hx hb d_Mo_idle_77 (by decide) ?_
                have hit : ((fun r q => mB bf t q && wouldB (frF (rQ bf rc q) rk rn) (alw dn (pkQ bf rk dn rc rn q)) b r) r_) q_ = true := by show (mB bf t q_ && _) = true; rw [hh, h2]; rfl
                refine lv_iload hx hb d_Mo_idle_33 (lv_at hl 0 rfl) ?_
                refine lv_sipush (v := nI 6144) hx hb d_Mo_idle_35 (by decide) ?_
                by_cases hlast : q_ + 1 < 6144
                · refine lv_icmp_ge (tgt := 80) hx hb d_Mo_idle_38 (by decide) (fun c9 => absurd c9 (nI_ge (by omega) (by omega))) (fun _ => ?_)
                  refine lv_iload hx hb d_Mo_idle_41 (lv_at hl 1 rfl) ?_
                  refine lv_if_ne (tgt := 80) hx hb d_Mo_idle_43 (by decide) (fun _ => ?_) (fun c9 => absurd c9 (by decide))
                  refine lv_iload hx hb d_Mo_idle_80 (lv_at hl 1 rfl) ?_
                  refine lv_if_ne (tgt := 87) hx hb d_Mo_idle_82 (by decide) (fun _ => ?_) (fun c9 => absurd c9 (by decide))
                  refine lv_iinc (v := nI (r_ + 1)) (lv' := [(3, .int (nI (r_ + 1))), (5, .int (nI (q_ + 1))), (4, .int (nI 1)), (0, .ref mo), (1, .int (bI b)), (2, .int (nI t))]) hx hb d_Mo_idle_87 hl (k := 5) rfl (nI_1 r_) (by decide) rfl (fun ls hl => ?_)
                  refine lv_goto (tgt := 21) hx hb d_Mo_idle_90 (by decide) ?_
                  exact iho (r_ + 1)  ls (by omega) (hro.trans (if_neg (by rw [hri, fst0_hit hit]; exact Bool.false_ne_true))) (lv_sub hl [3, 4, 5, 0] rfl)
                · refine lv_icmp_ge (tgt := 80) hx hb d_Mo_idle_38 (by decide) (fun _ => ?_) (fun c9 => absurd (nI_le (by omega) (by omega)) c9)
                  refine lv_iload hx hb d_Mo_idle_80 (lv_at hl 1 rfl) ?_
                  refine lv_if_ne (tgt := 87) hx hb d_Mo_idle_82 (by decide) (fun _ => ?_) (fun c9 => absurd c9 (by decide))
                  refine lv_iinc (v := nI (r_ + 1)) (lv' := [(3, .int (nI (r_ + 1))), (5, .int (nI (q_ + 1))), (4, .int (nI 1)), (0, .ref mo), (1, .int (bI b)), (2, .int (nI t))]) hx hb d_Mo_idle_87 hl (k := 5) rfl (nI_1 r_) (by decide) rfl (fun ls hl => ?_)
                  refine lv_goto (tgt := 21) hx hb d_Mo_idle_90 (by decide) ?_
                  exact iho (r_ + 1)  ls (by omega) (hro.trans (if_neg (by rw [hri, fst0_hit hit]; exact Bool.false_ne_true))) (lv_sub hl [3, 4, 5, 0] rfl)
        exact loopi (6144 - 0) 0  ls (by omega) rfl (lv_sub hl [2, 3, 4, 5, 1, 0] rfl)
    exact loopo (10 - 0) 0  ls (by omega) rfl (lv_sub hl [1, 2, 3, 0] rfl)

set_option maxHeartbeats 4000000 in
set_option maxRecDepth 100000 in
/-- apart -/
theorem c_Mo_apart (l : Launch) (G : GG) (L : List Nat) (f : Nat → va_E) (sz : Nat) (hN : L.Nodup) {mo gA kA fA sA tA bA rA dA cA eA cn rn : Nat} {kn : Bool} {gf : Nat → Int32} {kd : Nat → Nat} {ka kb kc bf : Nat → Int32} {rk : Nat → Nat} {dn : Nat → Bool} {rc : Nat → Nat} {xf : Nat → Int32} (hB : MoB G L f mo gA kA fA sA tA bA rA dA cA eA cn rn kn gf kd ka kb kc bf rk dn rc xf) (hru : ∀ j, j < rn → rk j < 10 ∧ rc j < cn) (hX : KnI kn xf bf rk dn rc rn) (x y : Int32) : Met l y_Mo_apart (.code y_Mo_apart b_Mo_apart 4 (some .int) :: AW) (RW 4 0 0) (va_Pc [.ref mo, .int x, .int y] (PZ G L f sz)) (va_Qi (fun r z => r = onR (fun u => onR (fun v => mAp (fun j => decide (¬ alw dn (pkQ bf rk dn rc rn (768 * u + j)) = alw dn (pkQ bf rk dn rc rn (768 * v + j)))) (768 * u) 768 0) (inN 8 y)) (inN 8 x) ∧ z.1 = L ∧ Kp (fun a => moE (f a)) L f z ∧ ∃ kn9 xf9, MoB G L z.2 mo gA kA fA sA tA bA rA dA cA eA cn rn kn9 gf kd ka kb kc bf rk dn rc xf9 ∧ KnI kn9 xf9 bf rk dn rc rn) (BZ G (Am L sz)) (Am L sz)) 0 0 (Am L sz) := by
  refine Met.ofW (cc := b_Mo_apart) (maxL := 4) (ret := (some .int)) (by decide) rfl ?_
  intro p e s m args below meth c s₁ B hml hv
  obtain ⟨rfl, hsz, hP, hK⟩ := hv
  have hx := B.exec
  have hb := B.bytes
  have hr := B.returns
  have hA : ∀ w ∈ AW, w.before _ s = true := fun w h => atoms_spec (ws := (.code y_Mo_apart b_Mo_apart 4 (some .int) :: AW)) B.pre w (List.mem_cons_of_mem _ h)
  have hown : s.vm.findClass R_Mo = some m.cls := findClass_of_methodNamed B.named
  have hlocks := B.notSynchronized
  subst hsz
  have hD : va_D (Am L s.heap.size) (va_pl L f) := pl_D hN (fun _ h => Or.inl h)
  have hA0 : ∀ q, s.heap.size ≤ q → Am L s.heap.size q := fun q h => Or.inr h
  generalize Am L s.heap.size = A at hD hA0 ⊢
  have hS : va_S A s.heap s.heap [] := va_S.rf
  have hkp : Kp (fun a => moE (f a)) L f (L, f) := Kp.rf
  have hl := lv_entry ([.ref mo, .int x, .int y]) (n := 4) (Nat.le_of_ble_eq_true rfl)
  rw [lg_entry_eq]
  generalize (lg_sl ([.ref mo, .int x, .int y]) ++ List.replicate (4 - (lg_sl ([.ref mo, .int x, .int y])).length) Slot.unset).toArray = ls at hl ⊢
  have hl : lv_has ls 4 [(0, .ref mo), (1, .int x), (2, .int y)] := hl
  have hmo : Lk L f mo (.inr (5, [.int (nI 0), .ref gA, .int (nI cn), .ref kA, .ref fA, .ref sA, .ref tA, .ref bA, .int (nI rn), .ref rA, .ref dA, .ref cA, .ref eA, .int (bI kn)])) := hB.2.2.1
  have hgA : Lk L f gA (.inl (G.2 4, 8, .inl gf)) := hB.2.2.2.1
  have hkA : Lk L f kA (.inl (G.2 4, 60, .inl (fun j => nI (kd j)))) := hB.2.2.2.2.1
  have hfA : Lk L f fA (.inl (G.2 4, 60, .inl ka)) := hB.2.2.2.2.2.1
  have hsA : Lk L f sA (.inl (G.2 4, 60, .inl kb)) := hB.2.2.2.2.2.2.1
  have htA : Lk L f tA (.inl (G.2 4, 60, .inl kc)) := hB.2.2.2.2.2.2.2.1
  have hbA : Lk L f bA (.inl (G.2 4, 11520, .inl bf)) := hB.2.2.2.2.2.2.2.2.1
  have hrA : Lk L f rA (.inl (G.2 4, 20, .inl (fun j => nI (rk j)))) := hB.2.2.2.2.2.2.2.2.2.1
  have hdA : Lk L f dA (.inl (G.2 1, 20, .inl (fun j => bI (dn j)))) := hB.2.2.2.2.2.2.2.2.2.2.1
  have hcA : Lk L f cA (.inl (G.2 4, 20, .inl (fun j => nI (rc j)))) := hB.2.2.2.2.2.2.2.2.2.2.2.1
  have heA : Lk L f eA (.inl (G.2 4, 6144, .inl xf)) := hB.2.2.2.2.2.2.2.2.2.2.2.2.1
  refine lv_aload_n hx hb d_Mo_apart_0 rfl (lv_at hl 0 rfl) ?_
  refine lv_iconst (v := nI 0) hx hb d_Mo_apart_1 (by decide) ?_
  refine xw_put (D := G.1) (ci := 5) (v := .int (nI 0)) (ty := .int) (C := R_Mo) (T := T_Mo) (N := 14) (fs' := [.int (nI 0), .ref gA, .int (nI cn), .ref kA, .ref fA, .ref sA, .ref tA, .ref bA, .int (nI rn), .ref rA, .ref dA, .ref cA, .ref eA, .int (bI kn)]) hx hb hA in_Mo ty_Mo tyok_Mo nm_Mo hown hK.1 hP hD hS hmo rfl 0 (by decide) (hA _ kw_223) (fun _ h9 => h9) rfl (by decide +kernel) rfl rfl (Nat.le_of_ble_eq_true rfl) d_Mo_apart_2 rfl (fun H locs hP hD hS => ?_)
  obtain ⟨f_1, ef_1⟩ : ∃ z : Nat → va_E, z = va_up f mo (.inr (5, [.int (nI 0), .ref gA, .int (nI cn), .ref kA, .ref fA, .ref sA, .ref tA, .ref bA, .int (nI rn), .ref rA, .ref dA, .ref cA, .ref eA, .int (bI kn)])) := ⟨_, rfl⟩
  rw [← ef_1] at hP hD
  have hgA : Lk L f_1 gA (.inl (G.2 4, 8, .inl gf)) := by rw [ef_1]; exact Lk.up hgA (Ne.symm (Lk.neOA hmo hgA))
  have hkA : Lk L f_1 kA (.inl (G.2 4, 60, .inl (fun j => nI (kd j)))) := by rw [ef_1]; exact Lk.up hkA (Ne.symm (Lk.neOA hmo hkA))
  have hfA : Lk L f_1 fA (.inl (G.2 4, 60, .inl ka)) := by rw [ef_1]; exact Lk.up hfA (Ne.symm (Lk.neOA hmo hfA))
  have hsA : Lk L f_1 sA (.inl (G.2 4, 60, .inl kb)) := by rw [ef_1]; exact Lk.up hsA (Ne.symm (Lk.neOA hmo hsA))
  have htA : Lk L f_1 tA (.inl (G.2 4, 60, .inl kc)) := by rw [ef_1]; exact Lk.up htA (Ne.symm (Lk.neOA hmo htA))
  have hbA : Lk L f_1 bA (.inl (G.2 4, 11520, .inl bf)) := by rw [ef_1]; exact Lk.up hbA (Ne.symm (Lk.neOA hmo hbA))
  have hrA : Lk L f_1 rA (.inl (G.2 4, 20, .inl (fun j => nI (rk j)))) := by rw [ef_1]; exact Lk.up hrA (Ne.symm (Lk.neOA hmo hrA))
  have hdA : Lk L f_1 dA (.inl (G.2 1, 20, .inl (fun j => bI (dn j)))) := by rw [ef_1]; exact Lk.up hdA (Ne.symm (Lk.neOA hmo hdA))
  have hcA : Lk L f_1 cA (.inl (G.2 4, 20, .inl (fun j => nI (rc j)))) := by rw [ef_1]; exact Lk.up hcA (Ne.symm (Lk.neOA hmo hcA))
  have heA : Lk L f_1 eA (.inl (G.2 4, 6144, .inl xf)) := by rw [ef_1]; exact Lk.up heA (Ne.symm (Lk.neOA hmo heA))
  have hmo : Lk L f_1 mo (.inr (5, [.int (nI 0), .ref gA, .int (nI cn), .ref kA, .ref fA, .ref sA, .ref tA, .ref bA, .int (nI rn), .ref rA, .ref dA, .ref cA, .ref eA, .int (bI kn)])) := by rw [ef_1]; exact Lk.set hmo
  have hkp : Kp (fun a => moE (f a)) L f (L, f_1) := by rw [ef_1]; exact hkp.up (moE_o hB.2.2.1)
  have hB1 : MoB G L f_1 mo gA kA fA sA tA bA rA dA cA eA cn rn kn gf kd ka kb kc bf rk dn rc xf := ⟨hB.1, hB.2.1, hmo, hgA, hkA, hfA, hsA, htA, hbA, hrA, hdA, hcA, heA, hB.2.2.2.2.2.2.2.2.2.2.2.2.2⟩
  have hc60 := hB.1
  have hr20 := hB.2.1
  refine lv_iload_n hx hb d_Mo_apart_5 rfl (lv_at hl 1 rfl) ?_
  refine lv_iconst (v := nI 0) hx hb d_Mo_apart_6 (by decide) ?_
  refine lv_bipush (v := nI 7) hx hb d_Mo_apart_7 (by decide) ?_
  refine vp_callSi (va_Run.run (va_runS (As := [.int x, .int (nI 0), .int (nI 7)]) (rest := []) ⟨hx, hb, hml, hown, hA⟩ (c_Mo_isIn l G L f_1 x (nI 0) (nI 7)) ⟨callB_of 3 hA (gAW kw_171) rfl rfl rfl (hA _ kw_172) (hA _ kw_173) (by decide +kernel) ⟨Nat.le_of_ble_eq_true rfl, Nat.le_of_ble_eq_true rfl⟩, (hA _ kw_174)⟩ (pw_preS hP hK) rfl rfl hl.1 rfl (lv_room (Nat.le_of_ble_eq_true rfl)) d_Mo_apart_9 ⟨Nat.zero_le _, Nat.zero_le _⟩)) (fun r_1 e_2 => ?_)
  subst e_2
  refine xv_I (y := bI (blw x (nI 8))) (congrArg bI (inB_0 (by decide))) ?_
  rcases bcase (blw x (nI 8)) with hb_0 | hb_0
  · refine lv_if_eq (tgt := 25) hx hb d_Mo_apart_12 (by decide) (fun _ => ?_) (fun c9 => absurd (by rw [hb_0]; rfl) c9)
    refine lv_iconst (v := (-1)) hx hb d_Mo_apart_25 (by decide) ?_
    exact W.iret (v := (-1)) hx hb hr (fun t9 h9t h9W => ⟨⟨_, (L, f_1), rfl, ⟨by rw [inN_f hb_0]; rfl, rfl, hkp, kn, xf, hB1, hX⟩, by rw [h9t]; exact hP, hD⟩, hS.F h9t⟩) hS.2.2 d_Mo_apart_26
  · refine lv_if_eq (tgt := 25) hx hb d_Mo_apart_12 (by decide) (fun c9 => absurd c9 (by rw [hb_0]; decide)) (fun _ => ?_)
    obtain ⟨u, hu, rfl⟩ := blw_of (by omega) hb_0
    refine lv_iload_n hx hb d_Mo_apart_15 rfl (lv_at hl 2 rfl) ?_
    refine lv_iconst (v := nI 0) hx hb d_Mo_apart_16 (by decide) ?_
    refine lv_bipush (v := nI 7) hx hb d_Mo_apart_17 (by decide) ?_
    refine vp_callSi (va_Run.run (va_runS (As := [.int y, .int (nI 0), .int (nI 7)]) (rest := []) ⟨hx, hb, hml, hown, hA⟩ (c_Mo_isIn l G L f_1 y (nI 0) (nI 7)) ⟨callB_of 3 hA (gAW kw_171) rfl rfl rfl (hA _ kw_172) (hA _ kw_173) (by decide +kernel) ⟨Nat.le_of_ble_eq_true rfl, Nat.le_of_ble_eq_true rfl⟩, (hA _ kw_174)⟩ (pw_preS hP hK) rfl rfl hl.1 rfl (lv_room (Nat.le_of_ble_eq_true rfl)) d_Mo_apart_19 ⟨Nat.zero_le _, Nat.zero_le _⟩)) (fun r_3 e_4 => ?_)
    subst e_4
    refine xv_I (y := bI (blw y (nI 8))) (congrArg bI (inB_0 (by decide))) ?_
    rcases bcase (blw y (nI 8)) with hb_1 | hb_1
    · refine lv_if_ne (tgt := 27) hx hb d_Mo_apart_22 (by decide) (fun c9 => absurd (by rw [hb_1]; rfl) c9) (fun _ => ?_)
      refine lv_iconst (v := (-1)) hx hb d_Mo_apart_25 (by decide) ?_
      exact W.iret (v := (-1)) hx hb hr (fun t9 h9t h9W => ⟨⟨_, (L, f_1), rfl, ⟨by rw [inN_t hu (by decide), inN_f hb_1]; rfl, rfl, hkp, kn, xf, hB1, hX⟩, by rw [h9t]; exact hP, hD⟩, hS.F h9t⟩) hS.2.2 d_Mo_apart_26
    · refine lv_if_ne (tgt := 27) hx hb d_Mo_apart_22 (by decide) (fun _ => ?_) (fun c9 => absurd c9 (by rw [hb_1]; decide))
      obtain ⟨v, hv, rfl⟩ := blw_of (by omega) hb_1
      refine lv_aload_n hx hb d_Mo_apart_27 rfl (lv_at hl 0 rfl) ?_
      have hFc := am_free hD hS hA0
      refine va_callv (va_runV (As := []) (rest := []) ⟨hx, hb, hml, hown, hA⟩ (c_Mo_know l G L f_1 H.size (pl_nd hD) hB1 hru hX) ⟨callB_of 0 hA (gAW kw_236) rfl rfl rfl (hA _ kw_172) (hA _ kw_237) (by decide +kernel) ⟨Nat.le_of_ble_eq_true rfl, Nat.le_of_ble_eq_true rfl⟩, (hA _ kw_238), (hA _ kw_239)⟩ (pz_preV (ci := 5) hP hK hmo rfl) rfl rfl hl.1 rfl (lv_room (Nat.le_of_ble_eq_true rfl)) d_Mo_apart_28 ⟨Nat.le_of_ble_eq_true rfl, Nat.le_of_ble_eq_true rfl⟩) hS (fun q _ h => hFc q h) hFc (fun u9 t9 H1 locs ht9 hvm hw hWB hz1 hk1 hS => ?_)
      obtain ⟨L_2, f_2⟩ := u9
      obtain ⟨hP, hD1⟩ := hWB
      rw [ht9] at hP
      have hD := va_Dw hD1 hFc
      clear hD1 hk1 hz1 hFc ht9 hvm
      generalize H1 = H at hP hS ⊢
      dsimp only at hP hD
      obtain ⟨hz1, hk1, xw, hBw, hX1⟩ := hw
      try dsimp only at hz1 hk1 hBw
      replace hz1 := hz1.symm
      subst hz1
      have hkp : Kp (fun a => moE (f a)) L f (L, f_2) := Kp.mo hkp hk1
      have hmo : Lk L f_2 mo (.inr (5, [.int (nI 0), .ref gA, .int (nI cn), .ref kA, .ref fA, .ref sA, .ref tA, .ref bA, .int (nI rn), .ref rA, .ref dA, .ref cA, .ref eA, .int (bI true)])) := hBw.2.2.1
      have hgA : Lk L f_2 gA (.inl (G.2 4, 8, .inl gf)) := hBw.2.2.2.1
      have hkA : Lk L f_2 kA (.inl (G.2 4, 60, .inl (fun j => nI (kd j)))) := hBw.2.2.2.2.1
      have hfA : Lk L f_2 fA (.inl (G.2 4, 60, .inl ka)) := hBw.2.2.2.2.2.1
      have hsA : Lk L f_2 sA (.inl (G.2 4, 60, .inl kb)) := hBw.2.2.2.2.2.2.1
      have htA : Lk L f_2 tA (.inl (G.2 4, 60, .inl kc)) := hBw.2.2.2.2.2.2.2.1
      have hbA : Lk L f_2 bA (.inl (G.2 4, 11520, .inl bf)) := hBw.2.2.2.2.2.2.2.2.1
      have hrA : Lk L f_2 rA (.inl (G.2 4, 20, .inl (fun j => nI (rk j)))) := hBw.2.2.2.2.2.2.2.2.2.1
      have hdA : Lk L f_2 dA (.inl (G.2 1, 20, .inl (fun j => bI (dn j)))) := hBw.2.2.2.2.2.2.2.2.2.2.1
      have hcA : Lk L f_2 cA (.inl (G.2 4, 20, .inl (fun j => nI (rc j)))) := hBw.2.2.2.2.2.2.2.2.2.2.2.1
      have heA : Lk L f_2 eA (.inl (G.2 4, 6144, .inl xw)) := hBw.2.2.2.2.2.2.2.2.2.2.2.2.1
      refine lv_iconst (v := nI 0) hx hb d_Mo_apart_31 (by decide) ?_
      refine lv_istore_n (lv' := [(3, .int (nI 0)), (0, .ref mo), (1, .int (nI u)), (2, .int (nI v))]) hx hb d_Mo_apart_32 rfl hl (by decide) rfl (fun ls hl => ?_)
      have loop : ∀ (k i : Nat) (ls : Array Slot), i + k = 768 → mAp (fun j => decide (¬ alw dn (pkQ bf rk dn rc rn (768 * u + j)) = alw dn (pkQ bf rk dn rc rn (768 * v + j)))) (768 * u) 768 0 = mAp (fun j => decide (¬ alw dn (pkQ bf rk dn rc rn (768 * u + j)) = alw dn (pkQ bf rk dn rc rn (768 * v + j)))) (768 * u) k i → lv_has ls 4 [(0, .ref mo), (1, .int (nI u)), (2, .int (nI v)), (3, .int (nI i))] → W p l e (headSpec (.code y_Mo_apart b_Mo_apart 4 (some .int) :: AW) (RW 4 0 0)).room s m ([.ref mo, .int (nI u), .int (nI v)] : List Value).toArray below meth c H locs 0 0 (MQ below (va_Qi (fun r z => r = onR (fun u => onR (fun v => mAp (fun j => decide (¬ alw dn (pkQ bf rk dn rc rn (768 * u + j)) = alw dn (pkQ bf rk dn rc rn (768 * v + j)))) (768 * u) 768 0) (inN 8 (nI v))) (inN 8 (nI u)) ∧ z.1 = L ∧ Kp (fun a => moE (f a)) L f z ∧ ∃ kn9 xf9, MoB G L z.2 mo gA kA fA sA tA bA rA dA cA eA cn rn kn9 gf kd ka kb kc bf rk dn rc xf9 ∧ KnI kn9 xf9 bf rk dn rc rn) (BZ G A) A) ([.ref mo, .int (nI u), .int (nI v)] : List Value).toArray s 0 0 A) (F0 m 33 ls []) := by
        intro k
        induction k with
        | zero =>
          intro i  ls hik hres hl
          refine lv_iload_n hx hb d_Mo_apart_33 rfl (lv_at hl 3 rfl) ?_
          refine lv_sipush (v := nI 768) hx hb d_Mo_apart_34 (by decide) ?_
          refine lv_icmp_ge (tgt := 89) hx hb d_Mo_apart_37 (by decide) (fun _ => ?_) (fun c9 => absurd (nI_le (by omega) (by omega)) c9)
          refine lv_bipush (v := (-2)) hx hb d_Mo_apart_89 (by decide) ?_
          exact W.iret (v := (-2)) hx hb hr (fun t9 h9t h9W => ⟨⟨_, (L, f_2), rfl, ⟨by rw [inN_t hu (by decide), inN_t hv (by decide)]; exact hres.symm, rfl, hkp, true, xw, hBw, fun _ => hX1⟩, by rw [h9t]; exact hP, hD⟩, hS.F h9t⟩) hS.2.2 d_Mo_apart_91
        | succ k ih =>
          intro i  ls hik hres hl
          refine lv_iload_n hx hb d_Mo_apart_33 rfl (lv_at hl 3 rfl) ?_
          refine lv_sipush (v := nI 768) hx hb d_Mo_apart_34 (by decide) ?_
          refine lv_icmp_ge (tgt := 89) hx hb d_Mo_apart_37 (by decide) (fun c9 => absurd c9 (nI_ge (by omega) (by omega))) (fun _ => ?_)
          refine lv_aload_n hx hb d_Mo_apart_40 rfl (lv_at hl 0 rfl) ?_
          refine lv_aload_n hx hb d_Mo_apart_41 rfl (lv_at hl 0 rfl) ?_
          refine va_get (D := G.1) (ci := 5) (v := .ref eA) (C := R_Mo) (T := T_Mo) (N := 14) hx hb hA in_Mo hown hK.1 (pl_o hP hmo) 0 rfl rfl 12 (by decide) (hA _ kw_209) (fun _ h9 => h9) rfl d_Mo_apart_42 ?_
          refine lv_sipush (v := nI 768) hx hb d_Mo_apart_45 (by decide) ?_
          refine lv_iload_n hx hb d_Mo_apart_48 rfl (lv_at hl 1 rfl) ?_
          refine lv_imul hx hb d_Mo_apart_49 ?_
          refine xv_I (y := nI (768 * u)) (pk_mul _ _) ?_
          refine lv_iload_n hx hb d_Mo_apart_50 rfl (lv_at hl 3 rfl) ?_
          refine lv_iadd hx hb d_Mo_apart_51 ?_
          refine xv_I (y := nI (768 * u + i)) (nI_add _ _) ?_
          refine xl_iald hx hb hK.1 (pl_o hP heA) 0 4 rfl rfl (i := (768 * u + i)) (by omega) (by decide) d_Mo_apart_52 ?_
          refine xv_I (y := oI (pkQ bf rk dn rc rn (768 * u + i))) (hX1 _ (by omega)) ?_
          refine vp_callSi (va_Run.run (va_runV (As := [.int (oI (pkQ bf rk dn rc rn (768 * u + i)))]) (rest := []) ⟨hx, hb, hml, hown, hA⟩ (c_Mo_alw l G L f_2 hBw (pkQ bf rk dn rc rn (768 * u + i)) (fun k9 hk9 => by have := pkQ_lt hk9; omega)) ⟨callB_of 1 hA (gAW kw_210) rfl rfl rfl (hA _ kw_172) (hA _ kw_211) (by decide +kernel) ⟨Nat.le_of_ble_eq_true rfl, Nat.le_of_ble_eq_true rfl⟩, (hA _ kw_212), (hA _ kw_213)⟩ (pw_preV (ci := 5) hP hK hmo rfl) rfl rfl hl.1 rfl (lv_room (Nat.le_of_ble_eq_true rfl)) d_Mo_apart_53 ⟨Nat.zero_le _, Nat.zero_le _⟩)) (fun r_6 e_7 => ?_)
          subst e_7
          refine lv_aload_n hx hb d_Mo_apart_56 rfl (lv_at hl 0 rfl) ?_
          refine lv_aload_n hx hb d_Mo_apart_57 rfl (lv_at hl 0 rfl) ?_
          refine va_get (D := G.1) (ci := 5) (v := .ref eA) (C := R_Mo) (T := T_Mo) (N := 14) hx hb hA in_Mo hown hK.1 (pl_o hP hmo) 0 rfl rfl 12 (by decide) (hA _ kw_209) (fun _ h9 => h9) rfl d_Mo_apart_58 ?_
          refine lv_sipush (v := nI 768) hx hb d_Mo_apart_61 (by decide) ?_
          refine lv_iload_n hx hb d_Mo_apart_64 rfl (lv_at hl 2 rfl) ?_
          refine lv_imul hx hb d_Mo_apart_65 ?_
          refine xv_I (y := nI (768 * v)) (pk_mul _ _) ?_
          refine lv_iload_n hx hb d_Mo_apart_66 rfl (lv_at hl 3 rfl) ?_
          refine lv_iadd hx hb d_Mo_apart_67 ?_
          refine xv_I (y := nI (768 * v + i)) (nI_add _ _) ?_
          refine xl_iald hx hb hK.1 (pl_o hP heA) 0 4 rfl rfl (i := (768 * v + i)) (by omega) (by decide) d_Mo_apart_68 ?_
          refine xv_I (y := oI (pkQ bf rk dn rc rn (768 * v + i))) (hX1 _ (by omega)) ?_
          refine vp_callSi (va_Run.run (va_runV (As := [.int (oI (pkQ bf rk dn rc rn (768 * v + i)))]) (rest := [.int (bI (alw dn (pkQ bf rk dn rc rn (768 * u + i))))]) ⟨hx, hb, hml, hown, hA⟩ (c_Mo_alw l G L f_2 hBw (pkQ bf rk dn rc rn (768 * v + i)) (fun k9 hk9 => by have := pkQ_lt hk9; omega)) ⟨callB_of 1 hA (gAW kw_210) rfl rfl rfl (hA _ kw_172) (hA _ kw_211) (by decide +kernel) ⟨Nat.le_of_ble_eq_true rfl, Nat.le_of_ble_eq_true rfl⟩, (hA _ kw_212), (hA _ kw_213)⟩ (pw_preV (ci := 5) hP hK hmo rfl) rfl rfl hl.1 rfl (lv_room (Nat.le_of_ble_eq_true rfl)) d_Mo_apart_69 ⟨Nat.zero_le _, Nat.zero_le _⟩)) (fun r_8 e_9 => ?_)
          subst e_9
          by_cases he : alw dn (pkQ bf rk dn rc rn (768 * u + i)) = alw dn (pkQ bf rk dn rc rn (768 * v + i))
          · refine lv_icmp_eq (tgt := 83) hx hb d_Mo_apart_72 (by decide) (fun _ => ?_) (fun c9 => absurd (congrArg bI he) c9)
            refine lv_iinc (v := nI (i + 1)) (lv' := [(3, .int (nI (i + 1))), (0, .ref mo), (1, .int (nI u)), (2, .int (nI v))]) hx hb d_Mo_apart_83 hl (k := 3) rfl (nI_1 i) (by decide) rfl (fun ls hl => ?_)
            refine lv_goto (tgt := 33) hx hb d_Mo_apart_86 (by decide) ?_
            exact ih (i + 1)  ls (by omega) (hres.trans (if_neg (by rw [show (fun j => decide (¬ alw dn (pkQ bf rk dn rc rn (768 * u + j)) = alw dn (pkQ bf rk dn rc rn (768 * v + j)))) i = false from decide_eq_false (fun z => z he)]; decide))) (lv_sub hl [1, 2, 3, 0] rfl)
          · refine lv_icmp_eq (tgt := 83) hx hb d_Mo_apart_72 (by decide) (fun c9 => absurd c9 (fun z => he (bI_inj z))) (fun _ => ?_)
            refine lv_sipush (v := nI 768) hx hb d_Mo_apart_75 (by decide) ?_
            refine lv_iload_n hx hb d_Mo_apart_78 rfl (lv_at hl 1 rfl) ?_
            refine lv_imul hx hb d_Mo_apart_79 ?_
            refine xv_I (y := nI (768 * u)) (pk_mul _ _) ?_
            refine lv_iload_n hx hb d_Mo_apart_80 rfl (lv_at hl 3 rfl) ?_
            refine lv_iadd hx hb d_Mo_apart_81 ?_
            refine xv_I (y := nI (768 * u + i)) (nI_add _ _) ?_
            exact W.iret (v := nI (768 * u + i)) hx hb hr (fun t9 h9t h9W => ⟨⟨_, (L, f_2), rfl, ⟨by rw [inN_t hu (by decide), inN_t hv (by decide)]; exact (hres.trans (if_pos (decide_eq_true he))).symm, rfl, hkp, true, xw, hBw, fun _ => hX1⟩, by rw [h9t]; exact hP, hD⟩, hS.F h9t⟩) hS.2.2 d_Mo_apart_82
      exact loop (768 - 0) 0  ls (by omega) rfl (lv_sub hl [1, 2, 3, 0] rfl)

set_option maxHeartbeats 4000000 in
set_option maxRecDepth 100000 in
/-- may -/
theorem c_Mo_may (l : Launch) (G : GG) (L : List Nat) (f : Nat → va_E) (sz : Nat) (hN : L.Nodup) {mo gA kA fA sA tA bA rA dA cA eA cn rn : Nat} {kn : Bool} {gf : Nat → Int32} {kd : Nat → Nat} {ka kb kc bf : Nat → Int32} {rk : Nat → Nat} {dn : Nat → Bool} {rc : Nat → Nat} {xf : Nat → Int32} (hB : MoB G L f mo gA kA fA sA tA bA rA dA cA eA cn rn kn gf kd ka kb kc bf rk dn rc xf) (hru : ∀ j, j < rn → rk j < 10 ∧ rc j < cn) (hX : KnI kn xf bf rk dn rc rn) (x1 x2 x3 x4 x5 x6 : Int32) : Met l y_Mo_may (.code y_Mo_may b_Mo_may 9 (some .int) :: AW) (RW 4 0 0) (va_Pc [.ref mo, .int x1, .int x2, .int x3, .int x4, .int x5, .int x6] (PZ G L f sz)) (va_Qi (fun r z => r = onR (fun u => onR (fun gr => onR (fun pr => onR (fun kl => onR (fun v => onR (fun wh => mayM dn wh (pkQ bf rk dn rc rn (aNo u gr pr kl v))) (inN 2 x6)) (inN 8 x5)) (inN 4 x4)) (inN 6 x3)) (inN 4 x2)) (inN 8 x1) ∧ z.1 = L ∧ Kp (fun a => moE (f a)) L f z ∧ ∃ kn9 xf9, MoB G L z.2 mo gA kA fA sA tA bA rA dA cA eA cn rn kn9 gf kd ka kb kc bf rk dn rc xf9 ∧ KnI kn9 xf9 bf rk dn rc rn) (BZ G (Am L sz)) (Am L sz)) 0 0 (Am L sz) := by
  refine Met.ofW (cc := b_Mo_may) (maxL := 9) (ret := (some .int)) (by decide) rfl ?_
  intro p e s m args below meth c s₁ B hml hv
  obtain ⟨rfl, hsz, hP, hK⟩ := hv
  have hx := B.exec
  have hb := B.bytes
  have hr := B.returns
  have hA : ∀ w ∈ AW, w.before _ s = true := fun w h => atoms_spec (ws := (.code y_Mo_may b_Mo_may 9 (some .int) :: AW)) B.pre w (List.mem_cons_of_mem _ h)
  have hown : s.vm.findClass R_Mo = some m.cls := findClass_of_methodNamed B.named
  have hlocks := B.notSynchronized
  subst hsz
  have hD : va_D (Am L s.heap.size) (va_pl L f) := pl_D hN (fun _ h => Or.inl h)
  have hA0 : ∀ q, s.heap.size ≤ q → Am L s.heap.size q := fun q h => Or.inr h
  generalize Am L s.heap.size = A at hD hA0 ⊢
  have hS : va_S A s.heap s.heap [] := va_S.rf
  have hkp : Kp (fun a => moE (f a)) L f (L, f) := Kp.rf
  have hl := lv_entry ([.ref mo, .int x1, .int x2, .int x3, .int x4, .int x5, .int x6]) (n := 9) (Nat.le_of_ble_eq_true rfl)
  rw [lg_entry_eq]
  generalize (lg_sl ([.ref mo, .int x1, .int x2, .int x3, .int x4, .int x5, .int x6]) ++ List.replicate (9 - (lg_sl ([.ref mo, .int x1, .int x2, .int x3, .int x4, .int x5, .int x6])).length) Slot.unset).toArray = ls at hl ⊢
  have hl : lv_has ls 9 [(0, .ref mo), (1, .int x1), (2, .int x2), (3, .int x3), (4, .int x4), (5, .int x5), (6, .int x6)] := hl
  have hmo : Lk L f mo (.inr (5, [.int (nI 0), .ref gA, .int (nI cn), .ref kA, .ref fA, .ref sA, .ref tA, .ref bA, .int (nI rn), .ref rA, .ref dA, .ref cA, .ref eA, .int (bI kn)])) := hB.2.2.1
  have hgA : Lk L f gA (.inl (G.2 4, 8, .inl gf)) := hB.2.2.2.1
  have hkA : Lk L f kA (.inl (G.2 4, 60, .inl (fun j => nI (kd j)))) := hB.2.2.2.2.1
  have hfA : Lk L f fA (.inl (G.2 4, 60, .inl ka)) := hB.2.2.2.2.2.1
  have hsA : Lk L f sA (.inl (G.2 4, 60, .inl kb)) := hB.2.2.2.2.2.2.1
  have htA : Lk L f tA (.inl (G.2 4, 60, .inl kc)) := hB.2.2.2.2.2.2.2.1
  have hbA : Lk L f bA (.inl (G.2 4, 11520, .inl bf)) := hB.2.2.2.2.2.2.2.2.1
  have hrA : Lk L f rA (.inl (G.2 4, 20, .inl (fun j => nI (rk j)))) := hB.2.2.2.2.2.2.2.2.2.1
  have hdA : Lk L f dA (.inl (G.2 1, 20, .inl (fun j => bI (dn j)))) := hB.2.2.2.2.2.2.2.2.2.2.1
  have hcA : Lk L f cA (.inl (G.2 4, 20, .inl (fun j => nI (rc j)))) := hB.2.2.2.2.2.2.2.2.2.2.2.1
  have heA : Lk L f eA (.inl (G.2 4, 6144, .inl xf)) := hB.2.2.2.2.2.2.2.2.2.2.2.2.1
  refine lv_aload_n hx hb d_Mo_may_0 rfl (lv_at hl 0 rfl) ?_
  refine lv_iconst (v := nI 0) hx hb d_Mo_may_1 (by decide) ?_
  refine xw_put (D := G.1) (ci := 5) (v := .int (nI 0)) (ty := .int) (C := R_Mo) (T := T_Mo) (N := 14) (fs' := [.int (nI 0), .ref gA, .int (nI cn), .ref kA, .ref fA, .ref sA, .ref tA, .ref bA, .int (nI rn), .ref rA, .ref dA, .ref cA, .ref eA, .int (bI kn)]) hx hb hA in_Mo ty_Mo tyok_Mo nm_Mo hown hK.1 hP hD hS hmo rfl 0 (by decide) (hA _ kw_223) (fun _ h9 => h9) rfl (by decide +kernel) rfl rfl (Nat.le_of_ble_eq_true rfl) d_Mo_may_2 rfl (fun H locs hP hD hS => ?_)
  obtain ⟨f_1, ef_1⟩ : ∃ z : Nat → va_E, z = va_up f mo (.inr (5, [.int (nI 0), .ref gA, .int (nI cn), .ref kA, .ref fA, .ref sA, .ref tA, .ref bA, .int (nI rn), .ref rA, .ref dA, .ref cA, .ref eA, .int (bI kn)])) := ⟨_, rfl⟩
  rw [← ef_1] at hP hD
  have hgA : Lk L f_1 gA (.inl (G.2 4, 8, .inl gf)) := by rw [ef_1]; exact Lk.up hgA (Ne.symm (Lk.neOA hmo hgA))
  have hkA : Lk L f_1 kA (.inl (G.2 4, 60, .inl (fun j => nI (kd j)))) := by rw [ef_1]; exact Lk.up hkA (Ne.symm (Lk.neOA hmo hkA))
  have hfA : Lk L f_1 fA (.inl (G.2 4, 60, .inl ka)) := by rw [ef_1]; exact Lk.up hfA (Ne.symm (Lk.neOA hmo hfA))
  have hsA : Lk L f_1 sA (.inl (G.2 4, 60, .inl kb)) := by rw [ef_1]; exact Lk.up hsA (Ne.symm (Lk.neOA hmo hsA))
  have htA : Lk L f_1 tA (.inl (G.2 4, 60, .inl kc)) := by rw [ef_1]; exact Lk.up htA (Ne.symm (Lk.neOA hmo htA))
  have hbA : Lk L f_1 bA (.inl (G.2 4, 11520, .inl bf)) := by rw [ef_1]; exact Lk.up hbA (Ne.symm (Lk.neOA hmo hbA))
  have hrA : Lk L f_1 rA (.inl (G.2 4, 20, .inl (fun j => nI (rk j)))) := by rw [ef_1]; exact Lk.up hrA (Ne.symm (Lk.neOA hmo hrA))
  have hdA : Lk L f_1 dA (.inl (G.2 1, 20, .inl (fun j => bI (dn j)))) := by rw [ef_1]; exact Lk.up hdA (Ne.symm (Lk.neOA hmo hdA))
  have hcA : Lk L f_1 cA (.inl (G.2 4, 20, .inl (fun j => nI (rc j)))) := by rw [ef_1]; exact Lk.up hcA (Ne.symm (Lk.neOA hmo hcA))
  have heA : Lk L f_1 eA (.inl (G.2 4, 6144, .inl xf)) := by rw [ef_1]; exact Lk.up heA (Ne.symm (Lk.neOA hmo heA))
  have hmo : Lk L f_1 mo (.inr (5, [.int (nI 0), .ref gA, .int (nI cn), .ref kA, .ref fA, .ref sA, .ref tA, .ref bA, .int (nI rn), .ref rA, .ref dA, .ref cA, .ref eA, .int (bI kn)])) := by rw [ef_1]; exact Lk.set hmo
  have hkp : Kp (fun a => moE (f a)) L f (L, f_1) := by rw [ef_1]; exact hkp.up (moE_o hB.2.2.1)
  have hB1 : MoB G L f_1 mo gA kA fA sA tA bA rA dA cA eA cn rn kn gf kd ka kb kc bf rk dn rc xf := ⟨hB.1, hB.2.1, hmo, hgA, hkA, hfA, hsA, htA, hbA, hrA, hdA, hcA, heA, hB.2.2.2.2.2.2.2.2.2.2.2.2.2⟩
  have hc60 := hB.1
  have hr20 := hB.2.1
  refine lv_iload_n hx hb d_Mo_may_5 rfl (lv_at hl 1 rfl) ?_
  refine lv_iconst (v := nI 0) hx hb d_Mo_may_6 (by decide) ?_
  refine lv_bipush (v := nI 7) hx hb d_Mo_may_7 (by decide) ?_
  refine vp_callSi (va_Run.run (va_runS (As := [.int x1, .int (nI 0), .int (nI 7)]) (rest := []) ⟨hx, hb, hml, hown, hA⟩ (c_Mo_isIn l G L f_1 x1 (nI 0) (nI 7)) ⟨callB_of 3 hA (gAW kw_171) rfl rfl rfl (hA _ kw_172) (hA _ kw_173) (by decide +kernel) ⟨Nat.le_of_ble_eq_true rfl, Nat.le_of_ble_eq_true rfl⟩, (hA _ kw_174)⟩ (pw_preS hP hK) rfl rfl hl.1 rfl (lv_room (Nat.le_of_ble_eq_true rfl)) d_Mo_may_9 ⟨Nat.zero_le _, Nat.zero_le _⟩)) (fun r_1 e_2 => ?_)
  subst e_2
  refine xv_I (y := bI (blw x1 (nI 8))) (congrArg bI (inB_0 (by decide))) ?_
  rcases bcase (blw x1 (nI 8)) with hb_0 | hb_0
  · refine lv_if_eq (tgt := 68) hx hb d_Mo_may_12 (by decide) (fun _ => ?_) (fun c9 => absurd (by rw [hb_0]; rfl) c9)
    refine lv_iconst (v := nI 0) hx hb d_Mo_may_68 (by decide) ?_
    refine lv_istore (lv' := [(7, .int (nI 0)), (0, .ref mo), (1, .int x1), (2, .int x2), (3, .int x3), (4, .int x4), (5, .int x5), (6, .int x6)]) hx hb d_Mo_may_69 hl (by decide) rfl (fun ls hl => ?_)
    refine lv_iload hx hb d_Mo_may_71 (lv_at hl 0 rfl) ?_
    refine lv_if_ne (tgt := 78) hx hb d_Mo_may_73 (by decide) (fun c9 => absurd rfl c9) (fun _ => ?_)
    refine lv_iconst (v := (-1)) hx hb d_Mo_may_76 (by decide) ?_
    exact W.iret (v := (-1)) hx hb hr (fun t9 h9t h9W => ⟨⟨_, (L, f_1), rfl, ⟨by rw [inN_f hb_0]; rfl, rfl, hkp, kn, xf, hB1, hX⟩, by rw [h9t]; exact hP, hD⟩, hS.F h9t⟩) hS.2.2 d_Mo_may_77
  · refine lv_if_eq (tgt := 68) hx hb d_Mo_may_12 (by decide) (fun c9 => absurd c9 (by rw [hb_0]; decide)) (fun _ => ?_)
    obtain ⟨u, hu, rfl⟩ := blw_of (by omega) hb_0
    refine lv_iload_n hx hb d_Mo_may_15 rfl (lv_at hl 2 rfl) ?_
    refine lv_iconst (v := nI 0) hx hb d_Mo_may_16 (by decide) ?_
    refine lv_iconst (v := nI 3) hx hb d_Mo_may_17 (by decide) ?_
    refine vp_callSi (va_Run.run (va_runS (As := [.int x2, .int (nI 0), .int (nI 3)]) (rest := []) ⟨hx, hb, hml, hown, hA⟩ (c_Mo_isIn l G L f_1 x2 (nI 0) (nI 3)) ⟨callB_of 3 hA (gAW kw_171) rfl rfl rfl (hA _ kw_172) (hA _ kw_173) (by decide +kernel) ⟨Nat.le_of_ble_eq_true rfl, Nat.le_of_ble_eq_true rfl⟩, (hA _ kw_174)⟩ (pw_preS hP hK) rfl rfl hl.1 rfl (lv_room (Nat.le_of_ble_eq_true rfl)) d_Mo_may_18 ⟨Nat.zero_le _, Nat.zero_le _⟩)) (fun r_3 e_4 => ?_)
    subst e_4
    refine xv_I (y := bI (blw x2 (nI 4))) (congrArg bI (inB_0 (by decide))) ?_
    rcases bcase (blw x2 (nI 4)) with hb_1 | hb_1
    · refine lv_if_eq (tgt := 68) hx hb d_Mo_may_21 (by decide) (fun _ => ?_) (fun c9 => absurd (by rw [hb_1]; rfl) c9)
      refine lv_iconst (v := nI 0) hx hb d_Mo_may_68 (by decide) ?_
      refine lv_istore (lv' := [(7, .int (nI 0)), (0, .ref mo), (1, .int (nI u)), (2, .int x2), (3, .int x3), (4, .int x4), (5, .int x5), (6, .int x6)]) hx hb d_Mo_may_69 hl (by decide) rfl (fun ls hl => ?_)
      refine lv_iload hx hb d_Mo_may_71 (lv_at hl 0 rfl) ?_
      refine lv_if_ne (tgt := 78) hx hb d_Mo_may_73 (by decide) (fun c9 => absurd rfl c9) (fun _ => ?_)
      refine lv_iconst (v := (-1)) hx hb d_Mo_may_76 (by decide) ?_
      exact W.iret (v := (-1)) hx hb hr (fun t9 h9t h9W => ⟨⟨_, (L, f_1), rfl, ⟨by rw [inN_t hu (by decide), inN_f hb_1]; rfl, rfl, hkp, kn, xf, hB1, hX⟩, by rw [h9t]; exact hP, hD⟩, hS.F h9t⟩) hS.2.2 d_Mo_may_77
    · refine lv_if_eq (tgt := 68) hx hb d_Mo_may_21 (by decide) (fun c9 => absurd c9 (by rw [hb_1]; decide)) (fun _ => ?_)
      obtain ⟨gr, hgr, rfl⟩ := blw_of (by omega) hb_1
      refine lv_iload_n hx hb d_Mo_may_24 rfl (lv_at hl 3 rfl) ?_
      refine lv_iconst (v := nI 0) hx hb d_Mo_may_25 (by decide) ?_
      refine lv_iconst (v := nI 5) hx hb d_Mo_may_26 (by decide) ?_
      refine vp_callSi (va_Run.run (va_runS (As := [.int x3, .int (nI 0), .int (nI 5)]) (rest := []) ⟨hx, hb, hml, hown, hA⟩ (c_Mo_isIn l G L f_1 x3 (nI 0) (nI 5)) ⟨callB_of 3 hA (gAW kw_171) rfl rfl rfl (hA _ kw_172) (hA _ kw_173) (by decide +kernel) ⟨Nat.le_of_ble_eq_true rfl, Nat.le_of_ble_eq_true rfl⟩, (hA _ kw_174)⟩ (pw_preS hP hK) rfl rfl hl.1 rfl (lv_room (Nat.le_of_ble_eq_true rfl)) d_Mo_may_27 ⟨Nat.zero_le _, Nat.zero_le _⟩)) (fun r_5 e_6 => ?_)
      subst e_6
      refine xv_I (y := bI (blw x3 (nI 6))) (congrArg bI (inB_0 (by decide))) ?_
      rcases bcase (blw x3 (nI 6)) with hb_2 | hb_2
      · refine lv_if_eq (tgt := 68) hx hb d_Mo_may_30 (by decide) (fun _ => ?_) (fun c9 => absurd (by rw [hb_2]; rfl) c9)
        refine lv_iconst (v := nI 0) hx hb d_Mo_may_68 (by decide) ?_
        refine lv_istore (lv' := [(7, .int (nI 0)), (0, .ref mo), (1, .int (nI u)), (2, .int (nI gr)), (3, .int x3), (4, .int x4), (5, .int x5), (6, .int x6)]) hx hb d_Mo_may_69 hl (by decide) rfl (fun ls hl => ?_)
        refine lv_iload hx hb d_Mo_may_71 (lv_at hl 0 rfl) ?_
        refine lv_if_ne (tgt := 78) hx hb d_Mo_may_73 (by decide) (fun c9 => absurd rfl c9) (fun _ => ?_)
        refine lv_iconst (v := (-1)) hx hb d_Mo_may_76 (by decide) ?_
        exact W.iret (v := (-1)) hx hb hr (fun t9 h9t h9W => ⟨⟨_, (L, f_1), rfl, ⟨by rw [inN_t hu (by decide), inN_t hgr (by decide), inN_f hb_2]; rfl, rfl, hkp, kn, xf, hB1, hX⟩, by rw [h9t]; exact hP, hD⟩, hS.F h9t⟩) hS.2.2 d_Mo_may_77
      · refine lv_if_eq (tgt := 68) hx hb d_Mo_may_30 (by decide) (fun c9 => absurd c9 (by rw [hb_2]; decide)) (fun _ => ?_)
        obtain ⟨pr, hpr, rfl⟩ := blw_of (by omega) hb_2
        refine lv_iload hx hb d_Mo_may_33 (lv_at hl 4 rfl) ?_
        refine lv_iconst (v := nI 0) hx hb d_Mo_may_35 (by decide) ?_
        refine lv_iconst (v := nI 3) hx hb d_Mo_may_36 (by decide) ?_
        refine vp_callSi (va_Run.run (va_runS (As := [.int x4, .int (nI 0), .int (nI 3)]) (rest := []) ⟨hx, hb, hml, hown, hA⟩ (c_Mo_isIn l G L f_1 x4 (nI 0) (nI 3)) ⟨callB_of 3 hA (gAW kw_171) rfl rfl rfl (hA _ kw_172) (hA _ kw_173) (by decide +kernel) ⟨Nat.le_of_ble_eq_true rfl, Nat.le_of_ble_eq_true rfl⟩, (hA _ kw_174)⟩ (pw_preS hP hK) rfl rfl hl.1 rfl (lv_room (Nat.le_of_ble_eq_true rfl)) d_Mo_may_37 ⟨Nat.zero_le _, Nat.zero_le _⟩)) (fun r_7 e_8 => ?_)
        subst e_8
        refine xv_I (y := bI (blw x4 (nI 4))) (congrArg bI (inB_0 (by decide))) ?_
        rcases bcase (blw x4 (nI 4)) with hb_3 | hb_3
        · refine lv_if_eq (tgt := 68) hx hb d_Mo_may_40 (by decide) (fun _ => ?_) (fun c9 => absurd (by rw [hb_3]; rfl) c9)
          refine lv_iconst (v := nI 0) hx hb d_Mo_may_68 (by decide) ?_
          refine lv_istore (lv' := [(7, .int (nI 0)), (0, .ref mo), (1, .int (nI u)), (2, .int (nI gr)), (3, .int (nI pr)), (4, .int x4), (5, .int x5), (6, .int x6)]) hx hb d_Mo_may_69 hl (by decide) rfl (fun ls hl => ?_)
          refine lv_iload hx hb d_Mo_may_71 (lv_at hl 0 rfl) ?_
          refine lv_if_ne (tgt := 78) hx hb d_Mo_may_73 (by decide) (fun c9 => absurd rfl c9) (fun _ => ?_)
          refine lv_iconst (v := (-1)) hx hb d_Mo_may_76 (by decide) ?_
          exact W.iret (v := (-1)) hx hb hr (fun t9 h9t h9W => ⟨⟨_, (L, f_1), rfl, ⟨by rw [inN_t hu (by decide), inN_t hgr (by decide), inN_t hpr (by decide), inN_f hb_3]; rfl, rfl, hkp, kn, xf, hB1, hX⟩, by rw [h9t]; exact hP, hD⟩, hS.F h9t⟩) hS.2.2 d_Mo_may_77
        · refine lv_if_eq (tgt := 68) hx hb d_Mo_may_40 (by decide) (fun c9 => absurd c9 (by rw [hb_3]; decide)) (fun _ => ?_)
          obtain ⟨kl, hkl, rfl⟩ := blw_of (by omega) hb_3
          refine lv_iload hx hb d_Mo_may_43 (lv_at hl 5 rfl) ?_
          refine lv_iconst (v := nI 0) hx hb d_Mo_may_45 (by decide) ?_
          refine lv_bipush (v := nI 7) hx hb d_Mo_may_46 (by decide) ?_
          refine vp_callSi (va_Run.run (va_runS (As := [.int x5, .int (nI 0), .int (nI 7)]) (rest := []) ⟨hx, hb, hml, hown, hA⟩ (c_Mo_isIn l G L f_1 x5 (nI 0) (nI 7)) ⟨callB_of 3 hA (gAW kw_171) rfl rfl rfl (hA _ kw_172) (hA _ kw_173) (by decide +kernel) ⟨Nat.le_of_ble_eq_true rfl, Nat.le_of_ble_eq_true rfl⟩, (hA _ kw_174)⟩ (pw_preS hP hK) rfl rfl hl.1 rfl (lv_room (Nat.le_of_ble_eq_true rfl)) d_Mo_may_48 ⟨Nat.zero_le _, Nat.zero_le _⟩)) (fun r_9 e_10 => ?_)
          subst e_10
          refine xv_I (y := bI (blw x5 (nI 8))) (congrArg bI (inB_0 (by decide))) ?_
          rcases bcase (blw x5 (nI 8)) with hb_4 | hb_4
          · refine lv_if_eq (tgt := 68) hx hb d_Mo_may_51 (by decide) (fun _ => ?_) (fun c9 => absurd (by rw [hb_4]; rfl) c9)
            refine lv_iconst (v := nI 0) hx hb d_Mo_may_68 (by decide) ?_
            refine lv_istore (lv' := [(7, .int (nI 0)), (0, .ref mo), (1, .int (nI u)), (2, .int (nI gr)), (3, .int (nI pr)), (4, .int (nI kl)), (5, .int x5), (6, .int x6)]) hx hb d_Mo_may_69 hl (by decide) rfl (fun ls hl => ?_)
            refine lv_iload hx hb d_Mo_may_71 (lv_at hl 0 rfl) ?_
            refine lv_if_ne (tgt := 78) hx hb d_Mo_may_73 (by decide) (fun c9 => absurd rfl c9) (fun _ => ?_)
            refine lv_iconst (v := (-1)) hx hb d_Mo_may_76 (by decide) ?_
            exact W.iret (v := (-1)) hx hb hr (fun t9 h9t h9W => ⟨⟨_, (L, f_1), rfl, ⟨by rw [inN_t hu (by decide), inN_t hgr (by decide), inN_t hpr (by decide), inN_t hkl (by decide), inN_f hb_4]; rfl, rfl, hkp, kn, xf, hB1, hX⟩, by rw [h9t]; exact hP, hD⟩, hS.F h9t⟩) hS.2.2 d_Mo_may_77
          · refine lv_if_eq (tgt := 68) hx hb d_Mo_may_51 (by decide) (fun c9 => absurd c9 (by rw [hb_4]; decide)) (fun _ => ?_)
            obtain ⟨v, hv, rfl⟩ := blw_of (by omega) hb_4
            refine lv_iload hx hb d_Mo_may_54 (lv_at hl 6 rfl) ?_
            refine lv_iconst (v := nI 0) hx hb d_Mo_may_56 (by decide) ?_
            refine lv_iconst (v := nI 1) hx hb d_Mo_may_57 (by decide) ?_
            refine vp_callSi (va_Run.run (va_runS (As := [.int x6, .int (nI 0), .int (nI 1)]) (rest := []) ⟨hx, hb, hml, hown, hA⟩ (c_Mo_isIn l G L f_1 x6 (nI 0) (nI 1)) ⟨callB_of 3 hA (gAW kw_171) rfl rfl rfl (hA _ kw_172) (hA _ kw_173) (by decide +kernel) ⟨Nat.le_of_ble_eq_true rfl, Nat.le_of_ble_eq_true rfl⟩, (hA _ kw_174)⟩ (pw_preS hP hK) rfl rfl hl.1 rfl (lv_room (Nat.le_of_ble_eq_true rfl)) d_Mo_may_58 ⟨Nat.zero_le _, Nat.zero_le _⟩)) (fun r_11 e_12 => ?_)
            subst e_12
            refine xv_I (y := bI (blw x6 (nI 2))) (congrArg bI (inB_0 (by decide))) ?_
            rcases bcase (blw x6 (nI 2)) with hb_5 | hb_5
            · refine lv_if_eq (tgt := 68) hx hb d_Mo_may_61 (by decide) (fun _ => ?_) (fun c9 => absurd (by rw [hb_5]; rfl) c9)
              refine lv_iconst (v := nI 0) hx hb d_Mo_may_68 (by decide) ?_
              refine lv_istore (lv' := [(7, .int (nI 0)), (0, .ref mo), (1, .int (nI u)), (2, .int (nI gr)), (3, .int (nI pr)), (4, .int (nI kl)), (5, .int (nI v)), (6, .int x6)]) hx hb d_Mo_may_69 hl (by decide) rfl (fun ls hl => ?_)
              refine lv_iload hx hb d_Mo_may_71 (lv_at hl 0 rfl) ?_
              refine lv_if_ne (tgt := 78) hx hb d_Mo_may_73 (by decide) (fun c9 => absurd rfl c9) (fun _ => ?_)
              refine lv_iconst (v := (-1)) hx hb d_Mo_may_76 (by decide) ?_
              exact W.iret (v := (-1)) hx hb hr (fun t9 h9t h9W => ⟨⟨_, (L, f_1), rfl, ⟨by rw [inN_t hu (by decide), inN_t hgr (by decide), inN_t hpr (by decide), inN_t hkl (by decide), inN_t hv (by decide), inN_f hb_5]; rfl, rfl, hkp, kn, xf, hB1, hX⟩, by rw [h9t]; exact hP, hD⟩, hS.F h9t⟩) hS.2.2 d_Mo_may_77
            · refine lv_if_eq (tgt := 68) hx hb d_Mo_may_61 (by decide) (fun c9 => absurd c9 (by rw [hb_5]; decide)) (fun _ => ?_)
              obtain ⟨wh, hwh, rfl⟩ := blw_of (by omega) hb_5
              refine lv_iconst (v := nI 1) hx hb d_Mo_may_64 (by decide) ?_
              refine lv_goto (tgt := 69) hx hb d_Mo_may_65 (by decide) ?_
              refine lv_istore (lv' := [(7, .int (nI 1)), (0, .ref mo), (1, .int (nI u)), (2, .int (nI gr)), (3, .int (nI pr)), (4, .int (nI kl)), (5, .int (nI v)), (6, .int (nI wh))]) hx hb d_Mo_may_69 hl (by decide) rfl (fun ls hl => ?_)
              refine lv_iload hx hb d_Mo_may_71 (lv_at hl 0 rfl) ?_
              refine lv_if_ne (tgt := 78) hx hb d_Mo_may_73 (by decide) (fun _ => ?_) (fun c9 => absurd c9 (by decide))
              refine lv_aload_n hx hb d_Mo_may_78 rfl (lv_at hl 1 rfl) ?_
              have hFc := am_free hD hS hA0
              refine va_callv (va_runV (As := []) (rest := []) ⟨hx, hb, hml, hown, hA⟩ (c_Mo_know l G L f_1 H.size (pl_nd hD) hB1 hru hX) ⟨callB_of 0 hA (gAW kw_236) rfl rfl rfl (hA _ kw_172) (hA _ kw_237) (by decide +kernel) ⟨Nat.le_of_ble_eq_true rfl, Nat.le_of_ble_eq_true rfl⟩, (hA _ kw_238), (hA _ kw_239)⟩ (pz_preV (ci := 5) hP hK hmo rfl) rfl rfl hl.1 rfl (lv_room (Nat.le_of_ble_eq_true rfl)) d_Mo_may_79 ⟨Nat.le_of_ble_eq_true rfl, Nat.le_of_ble_eq_true rfl⟩) hS (fun q _ h => hFc q h) hFc (fun u9 t9 H1 locs ht9 hvm hw hWB hz1 hk1 hS => ?_)
              obtain ⟨L_2, f_2⟩ := u9
              obtain ⟨hP, hD1⟩ := hWB
              rw [ht9] at hP
              have hD := va_Dw hD1 hFc
              clear hD1 hk1 hz1 hFc ht9 hvm
              generalize H1 = H at hP hS ⊢
              dsimp only at hP hD
              obtain ⟨hz1, hk1, xw, hBw, hX1⟩ := hw
              try dsimp only at hz1 hk1 hBw
              replace hz1 := hz1.symm
              subst hz1
              have hkp : Kp (fun a => moE (f a)) L f (L, f_2) := Kp.mo hkp hk1
              have hmo : Lk L f_2 mo (.inr (5, [.int (nI 0), .ref gA, .int (nI cn), .ref kA, .ref fA, .ref sA, .ref tA, .ref bA, .int (nI rn), .ref rA, .ref dA, .ref cA, .ref eA, .int (bI true)])) := hBw.2.2.1
              have hgA : Lk L f_2 gA (.inl (G.2 4, 8, .inl gf)) := hBw.2.2.2.1
              have hkA : Lk L f_2 kA (.inl (G.2 4, 60, .inl (fun j => nI (kd j)))) := hBw.2.2.2.2.1
              have hfA : Lk L f_2 fA (.inl (G.2 4, 60, .inl ka)) := hBw.2.2.2.2.2.1
              have hsA : Lk L f_2 sA (.inl (G.2 4, 60, .inl kb)) := hBw.2.2.2.2.2.2.1
              have htA : Lk L f_2 tA (.inl (G.2 4, 60, .inl kc)) := hBw.2.2.2.2.2.2.2.1
              have hbA : Lk L f_2 bA (.inl (G.2 4, 11520, .inl bf)) := hBw.2.2.2.2.2.2.2.2.1
              have hrA : Lk L f_2 rA (.inl (G.2 4, 20, .inl (fun j => nI (rk j)))) := hBw.2.2.2.2.2.2.2.2.2.1
              have hdA : Lk L f_2 dA (.inl (G.2 1, 20, .inl (fun j => bI (dn j)))) := hBw.2.2.2.2.2.2.2.2.2.2.1
              have hcA : Lk L f_2 cA (.inl (G.2 4, 20, .inl (fun j => nI (rc j)))) := hBw.2.2.2.2.2.2.2.2.2.2.2.1
              have heA : Lk L f_2 eA (.inl (G.2 4, 6144, .inl xw)) := hBw.2.2.2.2.2.2.2.2.2.2.2.2.1
              refine lv_aload_n hx hb d_Mo_may_82 rfl (lv_at hl 1 rfl) ?_
              refine va_get (D := G.1) (ci := 5) (v := .ref eA) (C := R_Mo) (T := T_Mo) (N := 14) hx hb hA in_Mo hown hK.1 (pl_o hP hmo) 0 rfl rfl 12 (by decide) (hA _ kw_209) (fun _ h9 => h9) rfl d_Mo_may_83 ?_
              refine lv_iload_n hx hb d_Mo_may_86 rfl (lv_at hl 2 rfl) ?_
              refine lv_iconst (v := nI 4) hx hb d_Mo_may_87 (by decide) ?_
              refine lv_imul hx hb d_Mo_may_88 ?_
              refine xv_I (y := nI (u * 4)) (pk_mul _ _) ?_
              refine lv_iload_n hx hb d_Mo_may_89 rfl (lv_at hl 3 rfl) ?_
              refine lv_iadd hx hb d_Mo_may_90 ?_
              refine xv_I (y := nI (u * 4 + gr)) (nI_add _ _) ?_
              refine lv_bipush (v := nI 6) hx hb d_Mo_may_91 (by decide) ?_
              refine lv_imul hx hb d_Mo_may_93 ?_
              refine xv_I (y := nI ((u * 4 + gr) * 6)) (pk_mul _ _) ?_
              refine lv_iload_n hx hb d_Mo_may_94 rfl (lv_at hl 4 rfl) ?_
              refine lv_iadd hx hb d_Mo_may_95 ?_
              refine xv_I (y := nI ((u * 4 + gr) * 6 + pr)) (nI_add _ _) ?_
              refine lv_iconst (v := nI 4) hx hb d_Mo_may_96 (by decide) ?_
              refine lv_imul hx hb d_Mo_may_97 ?_
              refine xv_I (y := nI (((u * 4 + gr) * 6 + pr) * 4)) (pk_mul _ _) ?_
              refine lv_iload hx hb d_Mo_may_98 (lv_at hl 5 rfl) ?_
              refine lv_iadd hx hb d_Mo_may_100 ?_
              refine xv_I (y := nI (((u * 4 + gr) * 6 + pr) * 4 + kl)) (nI_add _ _) ?_
              refine lv_bipush (v := nI 8) hx hb d_Mo_may_101 (by decide) ?_
              refine lv_imul hx hb d_Mo_may_103 ?_
              refine xv_I (y := nI ((((u * 4 + gr) * 6 + pr) * 4 + kl) * 8)) (pk_mul _ _) ?_
              refine lv_iload hx hb d_Mo_may_104 (lv_at hl 6 rfl) ?_
              refine lv_iadd hx hb d_Mo_may_106 ?_
              refine xv_I (y := nI (aNo u gr pr kl v)) (nI_add _ _) ?_
              have hno : aNo u gr pr kl v < 6144 := by unfold aNo; omega
              refine xl_iald hx hb hK.1 (pl_o hP heA) 0 4 rfl rfl (i := (aNo u gr pr kl v)) hno (by decide) d_Mo_may_107 ?_
              refine xv_I (y := oI (pkQ bf rk dn rc rn (aNo u gr pr kl v))) (hX1 _ hno) ?_
              refine lv_istore (lv' := [(8, .int (oI (pkQ bf rk dn rc rn (aNo u gr pr kl v)))), (7, .int (nI 1)), (0, .ref mo), (1, .int (nI u)), (2, .int (nI gr)), (3, .int (nI pr)), (4, .int (nI kl)), (5, .int (nI v)), (6, .int (nI wh))]) hx hb d_Mo_may_108 hl (by decide) rfl (fun ls hl => ?_)
              refine lv_iload hx hb d_Mo_may_110 (lv_at hl 8 rfl) ?_
              refine lv_iconst (v := nI 1) hx hb d_Mo_may_112 (by decide) ?_
              by_cases hw1 : wh = 1
              · obtain rfl : wh = 1 := hw1
                refine lv_icmp_ne (tgt := 121) hx hb d_Mo_may_113 (by decide) (fun c9 => absurd rfl c9) (fun _ => ?_)
                refine lv_iload hx hb d_Mo_may_116 (lv_at hl 0 rfl) ?_
                refine lv_goto (tgt := 135) hx hb d_Mo_may_118 (by decide) ?_
                exact W.iret (v := oI (pkQ bf rk dn rc rn (aNo u gr pr kl v))) hx hb hr (fun t9 h9t h9W => ⟨⟨_, (L, f_2), rfl, ⟨by rw [inN_t hu (by decide), inN_t hgr (by decide), inN_t hpr (by decide), inN_t hkl (by decide), inN_t hv (by decide), inN_t hwh (by decide)]; rfl, rfl, hkp, true, xw, hBw, fun _ => hX1⟩, by rw [h9t]; exact hP, hD⟩, hS.F h9t⟩) hS.2.2 d_Mo_may_135
              · obtain rfl : wh = 0 := by omega
                refine lv_icmp_ne (tgt := 121) hx hb d_Mo_may_113 (by decide) (fun _ => ?_) (fun c9 => absurd c9 (by decide))
                refine lv_aload_n hx hb d_Mo_may_121 rfl (lv_at hl 2 rfl) ?_
                refine lv_iload hx hb d_Mo_may_122 (lv_at hl 0 rfl) ?_
                refine vp_callSi (va_Run.run (va_runV (As := [.int (oI (pkQ bf rk dn rc rn (aNo u gr pr kl v)))]) (rest := []) ⟨hx, hb, hml, hown, hA⟩ (c_Mo_alw l G L f_2 hBw (pkQ bf rk dn rc rn (aNo u gr pr kl v)) (fun k9 hk9 => by have := pkQ_lt hk9; omega)) ⟨callB_of 1 hA (gAW kw_210) rfl rfl rfl (hA _ kw_172) (hA _ kw_211) (by decide +kernel) ⟨Nat.le_of_ble_eq_true rfl, Nat.le_of_ble_eq_true rfl⟩, (hA _ kw_212), (hA _ kw_213)⟩ (pw_preV (ci := 5) hP hK hmo rfl) rfl rfl hl.1 rfl (lv_room (Nat.le_of_ble_eq_true rfl)) d_Mo_may_124 ⟨Nat.zero_le _, Nat.zero_le _⟩)) (fun r_14 e_15 => ?_)
                subst e_15
                rcases bcase (alw dn (pkQ bf rk dn rc rn (aNo u gr pr kl v))) with hh | hh
                · refine lv_if_eq (tgt := 134) hx hb d_Mo_may_127 (by decide) (fun _ => ?_) (fun c9 => absurd (by rw [hh]; rfl) c9)
                  refine lv_iconst (v := nI 0) hx hb d_Mo_may_134 (by decide) ?_
                  exact W.iret (v := nI 0) hx hb hr (fun t9 h9t h9W => ⟨⟨_, (L, f_2), rfl, ⟨by rw [inN_t hu (by decide), inN_t hgr (by decide), inN_t hpr (by decide), inN_t hkl (by decide), inN_t hv (by decide), inN_t hwh (by decide)]; show _ = bI (alw dn (pkQ bf rk dn rc rn (aNo u gr pr kl v))); rw [hh]; rfl, rfl, hkp, true, xw, hBw, fun _ => hX1⟩, by rw [h9t]; exact hP, hD⟩, hS.F h9t⟩) hS.2.2 d_Mo_may_135
                · refine lv_if_eq (tgt := 134) hx hb d_Mo_may_127 (by decide) (fun c9 => absurd c9 (by rw [hh]; decide)) (fun _ => ?_)
                  refine lv_iconst (v := nI 1) hx hb d_Mo_may_130 (by decide) ?_
                  refine lv_goto (tgt := 135) hx hb d_Mo_may_131 (by decide) ?_
                  exact W.iret (v := nI 1) hx hb hr (fun t9 h9t h9W => ⟨⟨_, (L, f_2), rfl, ⟨by rw [inN_t hu (by decide), inN_t hgr (by decide), inN_t hpr (by decide), inN_t hkl (by decide), inN_t hv (by decide), inN_t hwh (by decide)]; show _ = bI (alw dn (pkQ bf rk dn rc rn (aNo u gr pr kl v))); rw [hh]; rfl, rfl, hkp, true, xw, hBw, fun _ => hX1⟩, by rw [h9t]; exact hP, hD⟩, hS.F h9t⟩) hS.2.2 d_Mo_may_135
