set_option maxHeartbeats 4000000 in
set_option maxRecDepth 100000 in
/-- make -/
theorem c_Mo_make (l : Launch) (G : GG) (L : List Nat) (f : Nat → va_E) (sz : Nat) (hN : L.Nodup) {mo gA kA fA sA tA bA rA dA cA eA cn rn : Nat} {kn : Bool} {gf : Nat → Int32} {kd : Nat → Nat} {ka kb kc bf : Nat → Int32} {rk : Nat → Nat} {dn : Nat → Bool} {rc : Nat → Nat} {xf : Nat → Int32} (hB : MoB G L f mo gA kA fA sA tA bA rA dA cA eA cn rn kn gf kd ka kb kc bf rk dn rc xf) {mm : Nat → Bool} (hG : GrI gf mm) (i : Nat) (hi : i < 60) {a b c_ : Nat} (ho : okC i (kd i) (ka i) (kb i) (kc i) a b c_) : Met l y_Mo_make (.code y_Mo_make b_Mo_make 5 none :: AW) (RW 2 0 0) (va_Pc [.ref mo, .int (nI i)] (PZ G L f sz)) (va_Qv (fun z => z.1 = L ∧ Kp (fun a => moE (f a)) L f z ∧ ∃ bw, MoB G L z.2 mo gA kA fA sA tA bA rA dA cA eA cn rn kn gf kd ka kb kc bw rk dn rc xf ∧ (∀ q, q < 6144 → mB bw i q = cK mm (mB bf) (kd i) a b c_ q) ∧ ∀ j, j ≠ i → ∀ q, q < 6144 → mB bw j q = mB bf j q) (BZ G (Am L sz)) (Am L sz)) 0 0 (Am L sz) := by
  refine Met.ofW (cc := b_Mo_make) (maxL := 5) (ret := none) (by decide) rfl ?_
  intro p e s m args below meth c s₁ B hml hv
  obtain ⟨rfl, hsz, hP, hK⟩ := hv
  have hx := B.exec
  have hb := B.bytes
  have hr := B.returns
  have hA : ∀ w ∈ AW, w.before _ s = true := fun w h => atoms_spec (ws := (.code y_Mo_make b_Mo_make 5 none :: AW)) B.pre w (List.mem_cons_of_mem _ h)
  have hown : s.vm.findClass R_Mo = some m.cls := findClass_of_methodNamed B.named
  have hlocks := B.notSynchronized
  subst hsz
  have hD : va_D (Am L s.heap.size) (va_pl L f) := pl_D hN (fun _ h => Or.inl h)
  have hA0 : ∀ q, s.heap.size ≤ q → Am L s.heap.size q := fun q h => Or.inr h
  generalize Am L s.heap.size = A at hD hA0 ⊢
  have hS : va_S A s.heap s.heap [] := va_S.rf
  have hkp : Kp (fun a => moE (f a)) L f (L, f) := Kp.rf
  have hl := lv_entry ([.ref mo, .int (nI i)]) (n := 5) (Nat.le_of_ble_eq_true rfl)
  rw [lg_entry_eq]
  generalize (lg_sl ([.ref mo, .int (nI i)]) ++ List.replicate (5 - (lg_sl ([.ref mo, .int (nI i)])).length) Slot.unset).toArray = ls at hl ⊢
  have hl : lv_has ls 5 [(0, .ref mo), (1, .int (nI i))] := hl
  have hmo : Lk L f mo (.inr (5, [.int (nI 0), .ref gA, .int (nI cn), .ref kA, .ref fA, .ref sA, .ref tA, .ref bA, .int (nI rn), .ref rA, .ref dA, .ref cA, .ref eA, .int (bI kn)])) := hB.2.2.1
  have hgA : Lk L f gA (.inl (G.2 4, 8, .inl gf)) := hB.2.2.2.1
  have hkA : Lk L f kA (.inl (G.2 4, 60, .inl (fun j => nI (kd j)))) := hB.2.2.2.2.1
  have hfA : Lk L f fA (.inl (G.2 4, 60, .inl ka)) := hB.2.2.2.2.2.1
  have hsA : Lk L f sA (.inl (G.2 4, 60, .inl kb)) := hB.2.2.2.2.2.2.1
  have htA : Lk L f tA (.inl (G.2 4, 60, .inl kc)) := hB.2.2.2.2.2.2.2.1
  have hbA : Lk L f bA (.inl (G.2 4, 11520, .inl bf)) := hB.2.2.2.2.2.2.2.2.1
  have hrA : Lk L f rA (.inl (G.2 4, 20, .inl (fun j => nI (rk j)))) := hB.2.2.2.2.2.2.2.2.2.1
  have hdA : Lk L f dA (.inl (G.2 1, 20, .inl (fun j => bI (dn j)))) := hB.2.2.2.2.2.2.2.2.2.2.1
  have hcA : Lk L f cA (.inl (G.2 4, 20, .inl (fun j => nI (rc j)))) := hB.2.2.2.2.2.2.2.2.2.2.2.1
  have heA : Lk L f eA (.inl (G.2 4, 6144, .inl xf)) := hB.2.2.2.2.2.2.2.2.2.2.2.2.1
  refine lv_iconst (v := nI 0) hx hb d_Mo_make_0 (by decide) ?_
  refine lv_istore_n (lv' := [(2, .int (nI 0)), (0, .ref mo), (1, .int (nI i))]) hx hb d_Mo_make_1 rfl hl (by decide) rfl (fun ls hl => ?_)
  have loopo : ∀ (ko w_ : Nat) (H : Heap) (locs : List Loc) (fv : Nat → va_E) (bv : Nat → Int32) (ls : Array Slot), w_ + ko = 192 → MkI bf bv (cK mm (mB bf) (kd i) a b c_) i w_ → MoB G L fv mo gA kA fA sA tA bA rA dA cA eA cn rn kn gf kd ka kb kc bv rk dn rc xf → Kp (fun a => moE (f a)) L f (L, fv) → va_P G.1 vwCl (va_pl L fv) H → va_D A (va_pl L fv) → va_S A s.heap H locs → lv_has ls 5 [(0, .ref mo), (1, .int (nI i)), (2, .int (nI w_))] → W p l e (headSpec (.code y_Mo_make b_Mo_make 5 none :: AW) (RW 2 0 0)).room s m ([.ref mo, .int (nI i)] : List Value).toArray below meth c H locs 0 0 (MQ below (va_Qv (fun z => z.1 = L ∧ Kp (fun a => moE (f a)) L f z ∧ ∃ bw, MoB G L z.2 mo gA kA fA sA tA bA rA dA cA eA cn rn kn gf kd ka kb kc bw rk dn rc xf ∧ (∀ q, q < 6144 → mB bw i q = cK mm (mB bf) (kd i) a b c_ q) ∧ ∀ j, j ≠ i → ∀ q, q < 6144 → mB bw j q = mB bf j q) (BZ G A) A) ([.ref mo, .int (nI i)] : List Value).toArray s 0 0 A) (F0 m 2 ls []) := by
    intro ko
    induction ko with
    | zero =>
      intro w_ H locs fv bv ls hiko hM hBv hkp hP hD hS hl
      have hmo : Lk L fv mo (.inr (5, [.int (nI 0), .ref gA, .int (nI cn), .ref kA, .ref fA, .ref sA, .ref tA, .ref bA, .int (nI rn), .ref rA, .ref dA, .ref cA, .ref eA, .int (bI kn)])) := hBv.2.2.1
      have hgA : Lk L fv gA (.inl (G.2 4, 8, .inl gf)) := hBv.2.2.2.1
      have hkA : Lk L fv kA (.inl (G.2 4, 60, .inl (fun j => nI (kd j)))) := hBv.2.2.2.2.1
      have hfA : Lk L fv fA (.inl (G.2 4, 60, .inl ka)) := hBv.2.2.2.2.2.1
      have hsA : Lk L fv sA (.inl (G.2 4, 60, .inl kb)) := hBv.2.2.2.2.2.2.1
      have htA : Lk L fv tA (.inl (G.2 4, 60, .inl kc)) := hBv.2.2.2.2.2.2.2.1
      have hbA : Lk L fv bA (.inl (G.2 4, 11520, .inl bv)) := hBv.2.2.2.2.2.2.2.2.1
      have hrA : Lk L fv rA (.inl (G.2 4, 20, .inl (fun j => nI (rk j)))) := hBv.2.2.2.2.2.2.2.2.2.1
      have hdA : Lk L fv dA (.inl (G.2 1, 20, .inl (fun j => bI (dn j)))) := hBv.2.2.2.2.2.2.2.2.2.2.1
      have hcA : Lk L fv cA (.inl (G.2 4, 20, .inl (fun j => nI (rc j)))) := hBv.2.2.2.2.2.2.2.2.2.2.2.1
      have heA : Lk L fv eA (.inl (G.2 4, 6144, .inl xf)) := hBv.2.2.2.2.2.2.2.2.2.2.2.2.1
      refine lv_iload_n hx hb d_Mo_make_2 rfl (lv_at hl 2 rfl) ?_
      refine lv_sipush (v := nI 192) hx hb d_Mo_make_3 (by decide) ?_
      refine lv_icmp_ge (tgt := 72) hx hb d_Mo_make_6 (by decide) (fun _ => ?_) (fun c9 => absurd (nI_le (by omega) (by omega)) c9)
      obtain rfl : w_ = 192 := by omega
      exact W.vret hx hb hr (fun t9 h9t h9W => ⟨⟨(L, fv), rfl, ⟨rfl, hkp, bv, hBv, (MkI_end hM).1, (MkI_end hM).2⟩, by rw [h9t]; exact hP, hD⟩, hS.F h9t⟩) hS.2.2 d_Mo_make_72
    | succ ko iho =>
      intro w_ H locs fv bv ls hiko hM hBv hkp hP hD hS hl
      have hmo : Lk L fv mo (.inr (5, [.int (nI 0), .ref gA, .int (nI cn), .ref kA, .ref fA, .ref sA, .ref tA, .ref bA, .int (nI rn), .ref rA, .ref dA, .ref cA, .ref eA, .int (bI kn)])) := hBv.2.2.1
      have hgA : Lk L fv gA (.inl (G.2 4, 8, .inl gf)) := hBv.2.2.2.1
      have hkA : Lk L fv kA (.inl (G.2 4, 60, .inl (fun j => nI (kd j)))) := hBv.2.2.2.2.1
      have hfA : Lk L fv fA (.inl (G.2 4, 60, .inl ka)) := hBv.2.2.2.2.2.1
      have hsA : Lk L fv sA (.inl (G.2 4, 60, .inl kb)) := hBv.2.2.2.2.2.2.1
      have htA : Lk L fv tA (.inl (G.2 4, 60, .inl kc)) := hBv.2.2.2.2.2.2.2.1
      have hbA : Lk L fv bA (.inl (G.2 4, 11520, .inl bv)) := hBv.2.2.2.2.2.2.2.2.1
      have hrA : Lk L fv rA (.inl (G.2 4, 20, .inl (fun j => nI (rk j)))) := hBv.2.2.2.2.2.2.2.2.2.1
      have hdA : Lk L fv dA (.inl (G.2 1, 20, .inl (fun j => bI (dn j)))) := hBv.2.2.2.2.2.2.2.2.2.2.1
      have hcA : Lk L fv cA (.inl (G.2 4, 20, .inl (fun j => nI (rc j)))) := hBv.2.2.2.2.2.2.2.2.2.2.2.1
      have heA : Lk L fv eA (.inl (G.2 4, 6144, .inl xf)) := hBv.2.2.2.2.2.2.2.2.2.2.2.2.1
      refine lv_iload_n hx hb d_Mo_make_2 rfl (lv_at hl 2 rfl) ?_
      refine lv_sipush (v := nI 192) hx hb d_Mo_make_3 (by decide) ?_
      refine lv_icmp_ge (tgt := 72) hx hb d_Mo_make_6 (by decide) (fun c9 => absurd c9 (nI_ge (by omega) (by omega))) (fun _ => ?_)
      refine lv_iconst (v := nI 0) hx hb d_Mo_make_9 (by decide) ?_
      refine lv_istore_n (lv' := [(3, .int (nI 0)), (0, .ref mo), (1, .int (nI i)), (2, .int (nI w_))]) hx hb d_Mo_make_10 rfl hl (by decide) rfl (fun ls hl => ?_)
      refine lv_iconst (v := nI 0) hx hb d_Mo_make_11 (by decide) ?_
      refine lv_istore (lv' := [(4, .int (nI 0)), (3, .int (nI 0)), (0, .ref mo), (1, .int (nI i)), (2, .int (nI w_))]) hx hb d_Mo_make_12 hl (by decide) rfl (fun ls hl => ?_)
      have loopi : ∀ (k k_ : Nat) (ls : Array Slot), k_ + k = 32 → lv_has ls 5 [(0, .ref mo), (1, .int (nI i)), (2, .int (nI w_)), (3, .int (mkW (cK mm (mB bf) (kd i) a b c_) w_ k_)), (4, .int (nI k_))] → W p l e (headSpec (.code y_Mo_make b_Mo_make 5 none :: AW) (RW 2 0 0)).room s m ([.ref mo, .int (nI i)] : List Value).toArray below meth c H locs 0 0 (MQ below (va_Qv (fun z => z.1 = L ∧ Kp (fun a => moE (f a)) L f z ∧ ∃ bw, MoB G L z.2 mo gA kA fA sA tA bA rA dA cA eA cn rn kn gf kd ka kb kc bw rk dn rc xf ∧ (∀ q, q < 6144 → mB bw i q = cK mm (mB bf) (kd i) a b c_ q) ∧ ∀ j, j ≠ i → ∀ q, q < 6144 → mB bw j q = mB bf j q) (BZ G A) A) ([.ref mo, .int (nI i)] : List Value).toArray s 0 0 A) (F0 m 14 ls []) := by
        intro k
        induction k with
        | zero =>
          intro k_  ls hik  hl
          have e9 : k_ = 32 := by omega
          refine lv_iload hx hb d_Mo_make_14 (lv_at hl 4 rfl) ?_
          refine lv_bipush (v := nI 32) hx hb d_Mo_make_16 (by decide) ?_
          refine lv_icmp_ge (tgt := 53) hx hb d_Mo_make_18 (by decide) (fun _ => ?_) (fun c9 => absurd (nI_le (by omega) (by omega)) c9)
          refine lv_aload_n hx hb d_Mo_make_53 rfl (lv_at hl 0 rfl) ?_
          refine va_get (D := G.1) (ci := 5) (v := .ref bA) (C := R_Mo) (T := T_Mo) (N := 14) hx hb hA in_Mo hown hK.1 (pl_o hP hmo) 0 rfl rfl 7 (by decide) (hA _ kw_176) (fun _ h9 => h9) rfl d_Mo_make_54 ?_
          refine lv_sipush (v := nI 192) hx hb d_Mo_make_57 (by decide) ?_
          refine lv_iload_n hx hb d_Mo_make_60 rfl (lv_at hl 1 rfl) ?_
          refine lv_imul hx hb d_Mo_make_61 ?_
          refine xv_I (y := nI (192 * i)) (pk_mul _ _) ?_
          refine lv_iload_n hx hb d_Mo_make_62 rfl (lv_at hl 2 rfl) ?_
          refine lv_iadd hx hb d_Mo_make_63 ?_
          refine xv_I (y := nI (192 * i + w_)) (nI_add _ _) ?_
          refine lv_iload_n hx hb d_Mo_make_64 rfl (lv_at hl 3 rfl) ?_
          refine xw_iast hx hb hK.1 hP hD hS 4 hbA rfl (i := (192 * i + w_)) (x := mkW (cK mm (mB bf) (kd i) a b c_) w_ k_) (by omega) (by decide) d_Mo_make_65 (fun H locs hP hD hS => ?_)
          obtain ⟨f_1, ef_1⟩ : ∃ z : Nat → va_E, z = va_up fv bA (.inl (G.2 4, 11520, .inl (upd bv (192 * i + w_) (mkW (cK mm (mB bf) (kd i) a b c_) w_ k_)))) := ⟨_, rfl⟩
          rw [← ef_1] at hP hD
          have hmo : Lk L f_1 mo (.inr (5, [.int (nI 0), .ref gA, .int (nI cn), .ref kA, .ref fA, .ref sA, .ref tA, .ref bA, .int (nI rn), .ref rA, .ref dA, .ref cA, .ref eA, .int (bI kn)])) := by rw [ef_1]; exact Lk.up hmo (Lk.neOA hmo hbA)
          have hgA : Lk L f_1 gA (.inl (G.2 4, 8, .inl gf)) := by rw [ef_1]; exact Lk.up hgA (Lk.neAA hgA hbA (by decide))
          have hkA : Lk L f_1 kA (.inl (G.2 4, 60, .inl (fun j => nI (kd j)))) := by rw [ef_1]; exact Lk.up hkA (Lk.neAA hkA hbA (by decide))
          have hfA : Lk L f_1 fA (.inl (G.2 4, 60, .inl ka)) := by rw [ef_1]; exact Lk.up hfA (Lk.neAA hfA hbA (by decide))
          have hsA : Lk L f_1 sA (.inl (G.2 4, 60, .inl kb)) := by rw [ef_1]; exact Lk.up hsA (Lk.neAA hsA hbA (by decide))
          have htA : Lk L f_1 tA (.inl (G.2 4, 60, .inl kc)) := by rw [ef_1]; exact Lk.up htA (Lk.neAA htA hbA (by decide))
          have hrA : Lk L f_1 rA (.inl (G.2 4, 20, .inl (fun j => nI (rk j)))) := by rw [ef_1]; exact Lk.up hrA (Lk.neAA hrA hbA (by decide))
          have hdA : Lk L f_1 dA (.inl (G.2 1, 20, .inl (fun j => bI (dn j)))) := by rw [ef_1]; exact Lk.up hdA (Lk.neAA hdA hbA (by decide))
          have hcA : Lk L f_1 cA (.inl (G.2 4, 20, .inl (fun j => nI (rc j)))) := by rw [ef_1]; exact Lk.up hcA (Lk.neAA hcA hbA (by decide))
          have heA : Lk L f_1 eA (.inl (G.2 4, 6144, .inl xf)) := by rw [ef_1]; exact Lk.up heA (Lk.neAA heA hbA (by decide))
          have hbA : Lk L f_1 bA (.inl (G.2 4, 11520, .inl (upd bv (192 * i + w_) (mkW (cK mm (mB bf) (kd i) a b c_) w_ k_)))) := by rw [ef_1]; exact Lk.set hbA
          have hkp : Kp (fun a => moE (f a)) L f (L, f_1) := by rw [ef_1]; exact hkp.up (moE_a hB.2.2.2.2.2.2.2.2.1 (by decide))
          have hbA : Lk L f_1 bA (.inl (G.2 4, 11520, .inl (va_up bv (192 * i + w_) (mkW (cK mm (mB bf) (kd i) a b c_) w_ 32)))) := by have e8 : upd bv (192 * i + w_) (mkW (cK mm (mB bf) (kd i) a b c_) w_ k_) = (va_up bv (192 * i + w_) (mkW (cK mm (mB bf) (kd i) a b c_) w_ 32)) := (by rw [e9]; exact upd_va); rw [← e8]; exact hbA
          have hB2 : MoB G L f_1 mo gA kA fA sA tA bA rA dA cA eA cn rn kn gf kd ka kb kc (va_up bv (192 * i + w_) (mkW (cK mm (mB bf) (kd i) a b c_) w_ 32)) rk dn rc xf := ⟨hB.1, hB.2.1, hmo, hgA, hkA, hfA, hsA, htA, hbA, hrA, hdA, hcA, heA, hB.2.2.2.2.2.2.2.2.2.2.2.2.2⟩
          refine lv_iinc (v := nI (w_ + 1)) (lv' := [(2, .int (nI (w_ + 1))), (0, .ref mo), (1, .int (nI i)), (3, .int (mkW (cK mm (mB bf) (kd i) a b c_) w_ k_)), (4, .int (nI k_))]) hx hb d_Mo_make_66 hl (k := 2) rfl (nI_1 w_) (by decide) rfl (fun ls hl => ?_)
          refine lv_goto (tgt := 2) hx hb d_Mo_make_69 (by decide) ?_
          exact iho (w_ + 1) H locs f_1 (va_up bv (192 * i + w_) (mkW (cK mm (mB bf) (kd i) a b c_) w_ 32)) ls (by omega) (MkI_s hM) hB2 hkp hP hD hS (lv_sub hl [1, 2, 0] rfl)
        | succ k ih =>
          intro k_  ls hik  hl
          refine lv_iload hx hb d_Mo_make_14 (lv_at hl 4 rfl) ?_
          refine lv_bipush (v := nI 32) hx hb d_Mo_make_16 (by decide) ?_
          refine lv_icmp_ge (tgt := 53) hx hb d_Mo_make_18 (by decide) (fun c9 => absurd c9 (nI_ge (by omega) (by omega))) (fun _ => ?_)
          refine lv_iload_n hx hb d_Mo_make_21 rfl (lv_at hl 3 rfl) ?_
          refine lv_aload_n hx hb d_Mo_make_22 rfl (lv_at hl 0 rfl) ?_
          refine lv_iload_n hx hb d_Mo_make_23 rfl (lv_at hl 1 rfl) ?_
          refine lv_bipush (v := nI 32) hx hb d_Mo_make_24 (by decide) ?_
          refine lv_iload_n hx hb d_Mo_make_26 rfl (lv_at hl 2 rfl) ?_
          refine lv_imul hx hb d_Mo_make_27 ?_
          refine xv_I (y := nI (32 * w_)) (pk_mul _ _) ?_
          refine lv_iload hx hb d_Mo_make_28 (lv_at hl 4 rfl) ?_
          refine lv_iadd hx hb d_Mo_make_30 ?_
          refine xv_I (y := nI (32 * w_ + k_)) (nI_add _ _) ?_
          refine vp_callSi (va_Run.run (va_runV (As := [.int (nI i), .int (nI (32 * w_ + k_))]) (rest := [.int (mkW (cK mm (mB bf) (kd i) a b c_) w_ k_)]) ⟨hx, hb, hml, hown, hA⟩ (c_Mo_isSo l G L fv hBv hG i hi ho (32 * w_ + k_) (by omega)) ⟨callB_of 2 hA (gAW kw_214) rfl rfl rfl (hA _ kw_172) (hA _ kw_215) (by decide +kernel) ⟨Nat.le_of_ble_eq_true rfl, Nat.le_of_ble_eq_true rfl⟩, (hA _ kw_216), (hA _ kw_217)⟩ (pw_preV (ci := 5) hP hK hmo rfl) rfl rfl hl.1 rfl (lv_room (Nat.le_of_ble_eq_true rfl)) d_Mo_make_31 ⟨Nat.zero_le _, Nat.zero_le _⟩)) (fun r_1 e_2 => ?_)
          subst e_2
          refine xv_I (y := bI ((cK mm (mB bf) (kd i) a b c_) (32 * w_ + k_))) (congrArg bI (hK_congr ho (fun j hj => MkI_low hM hj (by omega)))) ?_
          rcases bcase ((cK mm (mB bf) (kd i) a b c_) (32 * w_ + k_)) with hp | hp
          · refine lv_if_eq (tgt := 44) hx hb d_Mo_make_34 (by decide) (fun _ => ?_) (fun c9 => absurd (by rw [hp]; rfl) c9)
            refine lv_iconst (v := nI 0) hx hb d_Mo_make_44 (by decide) ?_
            refine lv_ior hx hb d_Mo_make_45 ?_
            refine xv_I (y := mkW (cK mm (mB bf) (kd i) a b c_) w_ (k_ + 1)) ((mkW_f hp).symm) ?_
            refine lv_istore_n (lv' := [(3, .int (mkW (cK mm (mB bf) (kd i) a b c_) w_ (k_ + 1))), (0, .ref mo), (1, .int (nI i)), (2, .int (nI w_)), (4, .int (nI k_))]) hx hb d_Mo_make_46 rfl hl (by decide) rfl (fun ls hl => ?_)
            refine lv_iinc (v := nI (k_ + 1)) (lv' := [(4, .int (nI (k_ + 1))), (3, .int (mkW (cK mm (mB bf) (kd i) a b c_) w_ (k_ + 1))), (0, .ref mo), (1, .int (nI i)), (2, .int (nI w_))]) hx hb d_Mo_make_47 hl (k := 4) rfl (nI_1 k_) (by decide) rfl (fun ls hl => ?_)
            refine lv_goto (tgt := 14) hx hb d_Mo_make_50 (by decide) ?_
            exact ih (k_ + 1)  ls (by omega)  (lv_sub hl [2, 3, 4, 1, 0] rfl)
          · refine lv_if_eq (tgt := 44) hx hb d_Mo_make_34 (by decide) (fun c9 => absurd c9 (by rw [hp]; decide)) (fun _ => ?_)
            refine lv_iconst (v := nI 1) hx hb d_Mo_make_37 (by decide) ?_
            refine lv_iload hx hb d_Mo_make_38 (lv_at hl 4 rfl) ?_
            refine lv_ishl hx hb d_Mo_make_40 ?_
            refine lv_goto (tgt := 45) hx hb d_Mo_make_41 (by decide) ?_
            refine lv_ior hx hb d_Mo_make_45 ?_
            refine xv_I (y := mkW (cK mm (mB bf) (kd i) a b c_) w_ (k_ + 1)) ((mkW_t hp).symm) ?_
            refine lv_istore_n (lv' := [(3, .int (mkW (cK mm (mB bf) (kd i) a b c_) w_ (k_ + 1))), (0, .ref mo), (1, .int (nI i)), (2, .int (nI w_)), (4, .int (nI k_))]) hx hb d_Mo_make_46 rfl hl (by decide) rfl (fun ls hl => ?_)
            refine lv_iinc (v := nI (k_ + 1)) (lv' := [(4, .int (nI (k_ + 1))), (3, .int (mkW (cK mm (mB bf) (kd i) a b c_) w_ (k_ + 1))), (0, .ref mo), (1, .int (nI i)), (2, .int (nI w_))]) hx hb d_Mo_make_47 hl (k := 4) rfl (nI_1 k_) (by decide) rfl (fun ls hl => ?_)
            refine lv_goto (tgt := 14) hx hb d_Mo_make_50 (by decide) ?_
            exact ih (k_ + 1)  ls (by omega)  (lv_sub hl [2, 3, 4, 1, 0] rfl)
      exact loopi (32 - 0) 0  ls (by omega)  (lv_sub hl [2, 3, 4, 1, 0] rfl)
  exact loopo (192 - 0) 0 s.heap [] f bf ls (by omega) MkI_0 hB hkp hP hD hS (lv_sub hl [1, 2, 0] rfl)

set_option maxHeartbeats 4000000 in
set_option maxRecDepth 100000 in
/-- know -/
theorem c_Mo_know (l : Launch) (G : GG) (L : List Nat) (f : Nat → va_E) (sz : Nat) (hN : L.Nodup) {mo gA kA fA sA tA bA rA dA cA eA cn rn : Nat} {kn : Bool} {gf : Nat → Int32} {kd : Nat → Nat} {ka kb kc bf : Nat → Int32} {rk : Nat → Nat} {dn : Nat → Bool} {rc : Nat → Nat} {xf : Nat → Int32} (hB : MoB G L f mo gA kA fA sA tA bA rA dA cA eA cn rn kn gf kd ka kb kc bf rk dn rc xf) (hru : ∀ j, j < rn → rk j < 10 ∧ rc j < cn) (hX : KnI kn xf bf rk dn rc rn) : Met l y_Mo_know (.code y_Mo_know b_Mo_know 2 none :: AW) (RW 3 0 0) (va_Pc [.ref mo] (PZ G L f sz)) (va_Qv (fun z => z.1 = L ∧ Kp (fun a => moE (f a)) L f z ∧ ∃ xw, MoB G L z.2 mo gA kA fA sA tA bA rA dA cA eA cn rn true gf kd ka kb kc bf rk dn rc xw ∧ ∀ q, q < 6144 → xw q = oI (pkQ bf rk dn rc rn q)) (BZ G (Am L sz)) (Am L sz)) 0 0 (Am L sz) := by
  refine Met.ofW (cc := b_Mo_know) (maxL := 2) (ret := none) (by decide) rfl ?_
  intro p e s m args below meth c s₁ B hml hv
  obtain ⟨rfl, hsz, hP, hK⟩ := hv
  have hx := B.exec
  have hb := B.bytes
  have hr := B.returns
  have hA : ∀ w ∈ AW, w.before _ s = true := fun w h => atoms_spec (ws := (.code y_Mo_know b_Mo_know 2 none :: AW)) B.pre w (List.mem_cons_of_mem _ h)
  have hown : s.vm.findClass R_Mo = some m.cls := findClass_of_methodNamed B.named
  have hlocks := B.notSynchronized
  subst hsz
  have hD : va_D (Am L s.heap.size) (va_pl L f) := pl_D hN (fun _ h => Or.inl h)
  have hA0 : ∀ q, s.heap.size ≤ q → Am L s.heap.size q := fun q h => Or.inr h
  generalize Am L s.heap.size = A at hD hA0 ⊢
  have hS : va_S A s.heap s.heap [] := va_S.rf
  have hkp : Kp (fun a => moE (f a)) L f (L, f) := Kp.rf
  have hl := lv_entry ([.ref mo]) (n := 2) (Nat.le_of_ble_eq_true rfl)
  rw [lg_entry_eq]
  generalize (lg_sl ([.ref mo]) ++ List.replicate (2 - (lg_sl ([.ref mo])).length) Slot.unset).toArray = ls at hl ⊢
  have hl : lv_has ls 2 [(0, .ref mo)] := hl
  have hmo : Lk L f mo (.inr (5, [.int (nI 0), .ref gA, .int (nI cn), .ref kA, .ref fA, .ref sA, .ref tA, .ref bA, .int (nI rn), .ref rA, .ref dA, .ref cA, .ref eA, .int (bI kn)])) := hB.2.2.1
  have hgA : Lk L f gA (.inl (G.2 4, 8, .inl gf)) := hB.2.2.2.1
  have hkA : Lk L f kA (.inl (G.2 4, 60, .inl (fun j => nI (kd j)))) := hB.2.2.2.2.1
  have hfA : Lk L f fA (.inl (G.2 4, 60, .inl ka)) := hB.2.2.2.2.2.1
  have hsA : Lk L f sA (.inl (G.2 4, 60, .inl kb)) := hB.2.2.2.2.2.2.1
  have htA : Lk L f tA (.inl (G.2 4, 60, .inl kc)) := hB.2.2.2.2.2.2.2.1
  have hbA : Lk L f bA (.inl (G.2 4, 11520, .inl bf)) := hB.2.2.2.2.2.2.2.2.1
  have hrA : Lk L f rA (.inl (G.2 4, 20, .inl (fun j => nI (rk j)))) := hB.2.2.2.2.2.2.2.2.2.1
  have hdA : Lk L f dA (.inl (G.2 1, 20, .inl (fun j => bI (dn j)))) := hB.2.2.2.2.2.2.2.2.2.2.1
  have hcA : Lk L f cA (.inl (G.2 4, 20, .inl (fun j => nI (rc j)))) := hB.2.2.2.2.2.2.2.2.2.2.2.1
  have heA : Lk L f eA (.inl (G.2 4, 6144, .inl xf)) := hB.2.2.2.2.2.2.2.2.2.2.2.2.1
  have hr20 := hB.2.1
  refine lv_aload_n hx hb d_Mo_know_0 rfl (lv_at hl 0 rfl) ?_
  refine va_get (D := G.1) (ci := 5) (v := .int (bI kn)) (C := R_Mo) (T := T_Mo) (N := 14) hx hb hA in_Mo hown hK.1 (pl_o hP hmo) 0 rfl rfl 13 (by decide) (hA _ kw_218) (fun _ h9 => h9) rfl d_Mo_know_1 ?_
  rcases bcase kn with hkn | hkn
  · refine lv_if_ne (tgt := 40) hx hb d_Mo_know_4 (by decide) (fun c9 => absurd (by rw [hkn]; rfl) c9) (fun _ => ?_)
    refine lv_aload_n hx hb d_Mo_know_7 rfl (lv_at hl 0 rfl) ?_
    refine lv_iconst (v := nI 1) hx hb d_Mo_know_8 (by decide) ?_
    refine xw_put (D := G.1) (ci := 5) (v := .int (nI 1)) (ty := .boolean) (C := R_Mo) (T := T_Mo) (N := 14) (fs' := [.int (nI 0), .ref gA, .int (nI cn), .ref kA, .ref fA, .ref sA, .ref tA, .ref bA, .int (nI rn), .ref rA, .ref dA, .ref cA, .ref eA, .int (nI 1)]) hx hb hA in_Mo ty_Mo tyok_Mo nm_Mo hown hK.1 hP hD hS hmo rfl 13 (by decide) (hA _ kw_218) (fun _ h9 => h9) rfl (by decide +kernel) rfl rfl (Nat.le_of_ble_eq_true rfl) d_Mo_know_9 rfl (fun H locs hP hD hS => ?_)
    obtain ⟨f_1, ef_1⟩ : ∃ z : Nat → va_E, z = va_up f mo (.inr (5, [.int (nI 0), .ref gA, .int (nI cn), .ref kA, .ref fA, .ref sA, .ref tA, .ref bA, .int (nI rn), .ref rA, .ref dA, .ref cA, .ref eA, .int (nI 1)])) := ⟨_, rfl⟩
    rw [← ef_1] at hP hD
    have hgA : Lk L f_1 gA (.inl (G.2 4, 8, .inl gf)) := by rw [ef_1]; exact Lk.up hgA (Ne.symm (Lk.neOA hmo hgA))
    have hkA : Lk L f_1 kA (.inl (G.2 4, 60, .inl (fun j => nI (kd j)))) := by rw [ef_1]; exact Lk.up hkA (Ne.symm (Lk.neOA hmo hkA))
    have hfA : Lk L f_1 fA (.inl (G.2 4, 60, .inl ka)) := by rw [ef_1]; exact Lk.up hfA (Ne.symm (Lk.neOA hmo hfA))
    have hsA : Lk L f_1 sA (.inl (G.2 4, 60, .inl kb)) := by rw [ef_1]; exact Lk.up hsA (Ne.symm (Lk.neOA hmo hsA))
    have htA : Lk L f_1 tA (.inl (G.2 4, 60, .inl kc)) := by rw [ef_1]; exact Lk.up htA (Ne.symm (Lk.neOA hmo htA))
    have hbA : Lk L f_1 bA (.inl (G.2 4, 11520, .inl bf)) := by rw [ef_1]; exact Lk.up hbA (Ne.symm (Lk.neOA hmo hbA))
    have hrA : Lk L f_1 rA (.inl (G.2 4, 20, .inl (fun j => nI (rk j)))) := by rw [ef_1]; exact Lk.up hrA (Ne.symm (Lk.neOA hmo hrA))
    have hdA : Lk L f_1 dA (.inl (G.2 1, 20, .inl (fun j => bI (dn j)))) := by rw [ef_1]; exact Lk.up hdA (Ne.symm (Lk.neOA hmo hdA))
    have hcA : Lk L f_1 cA (.inl (G.2 4, 20, .inl (fun j => nI (rc j)))) := by rw [ef_1]; exact Lk.up hcA (Ne.symm (Lk.neOA hmo hcA))
    have heA : Lk L f_1 eA (.inl (G.2 4, 6144, .inl xf)) := by rw [ef_1]; exact Lk.up heA (Ne.symm (Lk.neOA hmo heA))
    have hmo : Lk L f_1 mo (.inr (5, [.int (nI 0), .ref gA, .int (nI cn), .ref kA, .ref fA, .ref sA, .ref tA, .ref bA, .int (nI rn), .ref rA, .ref dA, .ref cA, .ref eA, .int (nI 1)])) := by rw [ef_1]; exact Lk.set hmo
    have hkp : Kp (fun a => moE (f a)) L f (L, f_1) := by rw [ef_1]; exact hkp.up (moE_o hB.2.2.1)
    have hB1 : MoB G L f_1 mo gA kA fA sA tA bA rA dA cA eA cn rn true gf kd ka kb kc bf rk dn rc xf := ⟨hB.1, hB.2.1, hmo, hgA, hkA, hfA, hsA, htA, hbA, hrA, hdA, hcA, heA, hB.2.2.2.2.2.2.2.2.2.2.2.2.2⟩
    refine lv_iconst (v := nI 0) hx hb d_Mo_know_12 (by decide) ?_
    refine lv_istore_n (lv' := [(1, .int (nI 0)), (0, .ref mo)]) hx hb d_Mo_know_13 rfl hl (by decide) rfl (fun ls hl => ?_)
    have loopo : ∀ (ko q_ : Nat) (H : Heap) (locs : List Loc) (fv : Nat → va_E) (xv : Nat → Int32) (ls : Array Slot), q_ + ko = 6144 → (∀ j, j < q_ → xv j = oI (pkQ bf rk dn rc rn j)) → MoB G L fv mo gA kA fA sA tA bA rA dA cA eA cn rn true gf kd ka kb kc bf rk dn rc xv → Kp (fun a => moE (f a)) L f (L, fv) → va_P G.1 vwCl (va_pl L fv) H → va_D A (va_pl L fv) → va_S A s.heap H locs → lv_has ls 2 [(0, .ref mo), (1, .int (nI q_))] → W p l e (headSpec (.code y_Mo_know b_Mo_know 2 none :: AW) (RW 3 0 0)).room s m ([.ref mo] : List Value).toArray below meth c H locs 0 0 (MQ below (va_Qv (fun z => z.1 = L ∧ Kp (fun a => moE (f a)) L f z ∧ ∃ xw, MoB G L z.2 mo gA kA fA sA tA bA rA dA cA eA cn rn true gf kd ka kb kc bf rk dn rc xw ∧ ∀ q, q < 6144 → xw q = oI (pkQ bf rk dn rc rn q)) (BZ G A) A) ([.ref mo] : List Value).toArray s 0 0 A) (F0 m 14 ls []) := by
      intro ko
      induction ko with
      | zero =>
        intro q_ H locs fv xv ls hiko hM hBv hkp hP hD hS hl
        have hmo : Lk L fv mo (.inr (5, [.int (nI 0), .ref gA, .int (nI cn), .ref kA, .ref fA, .ref sA, .ref tA, .ref bA, .int (nI rn), .ref rA, .ref dA, .ref cA, .ref eA, .int (bI true)])) := hBv.2.2.1
        have hgA : Lk L fv gA (.inl (G.2 4, 8, .inl gf)) := hBv.2.2.2.1
        have hkA : Lk L fv kA (.inl (G.2 4, 60, .inl (fun j => nI (kd j)))) := hBv.2.2.2.2.1
        have hfA : Lk L fv fA (.inl (G.2 4, 60, .inl ka)) := hBv.2.2.2.2.2.1
        have hsA : Lk L fv sA (.inl (G.2 4, 60, .inl kb)) := hBv.2.2.2.2.2.2.1
        have htA : Lk L fv tA (.inl (G.2 4, 60, .inl kc)) := hBv.2.2.2.2.2.2.2.1
        have hbA : Lk L fv bA (.inl (G.2 4, 11520, .inl bf)) := hBv.2.2.2.2.2.2.2.2.1
        have hrA : Lk L fv rA (.inl (G.2 4, 20, .inl (fun j => nI (rk j)))) := hBv.2.2.2.2.2.2.2.2.2.1
        have hdA : Lk L fv dA (.inl (G.2 1, 20, .inl (fun j => bI (dn j)))) := hBv.2.2.2.2.2.2.2.2.2.2.1
        have hcA : Lk L fv cA (.inl (G.2 4, 20, .inl (fun j => nI (rc j)))) := hBv.2.2.2.2.2.2.2.2.2.2.2.1
        have heA : Lk L fv eA (.inl (G.2 4, 6144, .inl xv)) := hBv.2.2.2.2.2.2.2.2.2.2.2.2.1
        refine lv_iload_n hx hb d_Mo_know_14 rfl (lv_at hl 1 rfl) ?_
        refine lv_sipush (v := nI 6144) hx hb d_Mo_know_15 (by decide) ?_
        refine lv_icmp_ge (tgt := 40) hx hb d_Mo_know_18 (by decide) (fun _ => ?_) (fun c9 => absurd (nI_le (by omega) (by omega)) c9)
        exact W.vret hx hb hr (fun t9 h9t h9W => ⟨⟨(L, fv), rfl, ⟨rfl, hkp, xv, hBv, fun q hq => hM q (by omega)⟩, by rw [h9t]; exact hP, hD⟩, hS.F h9t⟩) hS.2.2 d_Mo_know_40
      | succ ko iho =>
        intro q_ H locs fv xv ls hiko hM hBv hkp hP hD hS hl
        have hmo : Lk L fv mo (.inr (5, [.int (nI 0), .ref gA, .int (nI cn), .ref kA, .ref fA, .ref sA, .ref tA, .ref bA, .int (nI rn), .ref rA, .ref dA, .ref cA, .ref eA, .int (bI true)])) := hBv.2.2.1
        have hgA : Lk L fv gA (.inl (G.2 4, 8, .inl gf)) := hBv.2.2.2.1
        have hkA : Lk L fv kA (.inl (G.2 4, 60, .inl (fun j => nI (kd j)))) := hBv.2.2.2.2.1
        have hfA : Lk L fv fA (.inl (G.2 4, 60, .inl ka)) := hBv.2.2.2.2.2.1
        have hsA : Lk L fv sA (.inl (G.2 4, 60, .inl kb)) := hBv.2.2.2.2.2.2.1
        have htA : Lk L fv tA (.inl (G.2 4, 60, .inl kc)) := hBv.2.2.2.2.2.2.2.1
        have hbA : Lk L fv bA (.inl (G.2 4, 11520, .inl bf)) := hBv.2.2.2.2.2.2.2.2.1
        have hrA : Lk L fv rA (.inl (G.2 4, 20, .inl (fun j => nI (rk j)))) := hBv.2.2.2.2.2.2.2.2.2.1
        have hdA : Lk L fv dA (.inl (G.2 1, 20, .inl (fun j => bI (dn j)))) := hBv.2.2.2.2.2.2.2.2.2.2.1
        have hcA : Lk L fv cA (.inl (G.2 4, 20, .inl (fun j => nI (rc j)))) := hBv.2.2.2.2.2.2.2.2.2.2.2.1
        have heA : Lk L fv eA (.inl (G.2 4, 6144, .inl xv)) := hBv.2.2.2.2.2.2.2.2.2.2.2.2.1
        refine lv_iload_n hx hb d_Mo_know_14 rfl (lv_at hl 1 rfl) ?_
        refine lv_sipush (v := nI 6144) hx hb d_Mo_know_15 (by decide) ?_
        refine lv_icmp_ge (tgt := 40) hx hb d_Mo_know_18 (by decide) (fun c9 => absurd c9 (nI_ge (by omega) (by omega))) (fun _ => ?_)
        refine lv_aload_n hx hb d_Mo_know_21 rfl (lv_at hl 0 rfl) ?_
        refine va_get (D := G.1) (ci := 5) (v := .ref eA) (C := R_Mo) (T := T_Mo) (N := 14) hx hb hA in_Mo hown hK.1 (pl_o hP hmo) 0 rfl rfl 12 (by decide) (hA _ kw_209) (fun _ h9 => h9) rfl d_Mo_know_22 ?_
        refine lv_iload_n hx hb d_Mo_know_25 rfl (lv_at hl 1 rfl) ?_
        refine lv_aload_n hx hb d_Mo_know_26 rfl (lv_at hl 0 rfl) ?_
        refine lv_iload_n hx hb d_Mo_know_27 rfl (lv_at hl 1 rfl) ?_
        refine lv_bipush (v := (-2)) hx hb d_Mo_know_28 (by decide) ?_
        refine vp_callSi (va_Run.run (va_runV (As := [.int (nI q_), .int (-2)]) (rest := [.int (nI q_), .ref eA]) ⟨hx, hb, hml, hown, hA⟩ (c_Mo_dec l G L fv hBv hru q_ (by omega) (-2)) ⟨callB_of 2 hA (gAW kw_219) rfl rfl rfl (hA _ kw_172) (hA _ kw_220) (by decide +kernel) ⟨Nat.le_of_ble_eq_true rfl, Nat.le_of_ble_eq_true rfl⟩, (hA _ kw_221), (hA _ kw_222)⟩ (pw_preV (ci := 5) hP hK hmo rfl) rfl rfl hl.1 rfl (lv_room (Nat.le_of_ble_eq_true rfl)) d_Mo_know_30 ⟨Nat.zero_le _, Nat.zero_le _⟩)) (fun r_1 e_2 => ?_)
        subst e_2
        refine xv_I (y := oI (pkQ bf rk dn rc rn q_)) (congrArg oI (pick_congr (fun j hj => rP_no (by omega)))) ?_
        refine xw_iast hx hb hK.1 hP hD hS 4 heA rfl (i := q_) (x := oI (pkQ bf rk dn rc rn q_)) (by omega) (by decide) d_Mo_know_33 (fun H locs hP hD hS => ?_)
        obtain ⟨f_2, ef_2⟩ : ∃ z : Nat → va_E, z = va_up fv eA (.inl (G.2 4, 6144, .inl (upd xv q_ (oI (pkQ bf rk dn rc rn q_))))) := ⟨_, rfl⟩
        rw [← ef_2] at hP hD
        have hmo : Lk L f_2 mo (.inr (5, [.int (nI 0), .ref gA, .int (nI cn), .ref kA, .ref fA, .ref sA, .ref tA, .ref bA, .int (nI rn), .ref rA, .ref dA, .ref cA, .ref eA, .int (bI true)])) := by rw [ef_2]; exact Lk.up hmo (Lk.neOA hmo heA)
        have hgA : Lk L f_2 gA (.inl (G.2 4, 8, .inl gf)) := by rw [ef_2]; exact Lk.up hgA (Lk.neAA hgA heA (by decide))
        have hkA : Lk L f_2 kA (.inl (G.2 4, 60, .inl (fun j => nI (kd j)))) := by rw [ef_2]; exact Lk.up hkA (Lk.neAA hkA heA (by decide))
        have hfA : Lk L f_2 fA (.inl (G.2 4, 60, .inl ka)) := by rw [ef_2]; exact Lk.up hfA (Lk.neAA hfA heA (by decide))
        have hsA : Lk L f_2 sA (.inl (G.2 4, 60, .inl kb)) := by rw [ef_2]; exact Lk.up hsA (Lk.neAA hsA heA (by decide))
        have htA : Lk L f_2 tA (.inl (G.2 4, 60, .inl kc)) := by rw [ef_2]; exact Lk.up htA (Lk.neAA htA heA (by decide))
        have hbA : Lk L f_2 bA (.inl (G.2 4, 11520, .inl bf)) := by rw [ef_2]; exact Lk.up hbA (Lk.neAA hbA heA (by decide))
        have hrA : Lk L f_2 rA (.inl (G.2 4, 20, .inl (fun j => nI (rk j)))) := by rw [ef_2]; exact Lk.up hrA (Lk.neAA hrA heA (by decide))
        have hdA : Lk L f_2 dA (.inl (G.2 1, 20, .inl (fun j => bI (dn j)))) := by rw [ef_2]; exact Lk.up hdA (Lk.neAA hdA heA (by decide))
        have hcA : Lk L f_2 cA (.inl (G.2 4, 20, .inl (fun j => nI (rc j)))) := by rw [ef_2]; exact Lk.up hcA (Lk.neAA hcA heA (by decide))
        have heA : Lk L f_2 eA (.inl (G.2 4, 6144, .inl (upd xv q_ (oI (pkQ bf rk dn rc rn q_))))) := by rw [ef_2]; exact Lk.set heA
        have hkp : Kp (fun a => moE (f a)) L f (L, f_2) := by rw [ef_2]; exact hkp.up (moE_a hB.2.2.2.2.2.2.2.2.2.2.2.2.1 (by decide))
        have heA : Lk L f_2 eA (.inl (G.2 4, 6144, .inl (va_up xv q_ (oI (pkQ bf rk dn rc rn q_))))) := by have e8 : upd xv q_ (oI (pkQ bf rk dn rc rn q_)) = (va_up xv q_ (oI (pkQ bf rk dn rc rn q_))) := upd_va; rw [← e8]; exact heA
        have hB2 : MoB G L f_2 mo gA kA fA sA tA bA rA dA cA eA cn rn true gf kd ka kb kc bf rk dn rc (va_up xv q_ (oI (pkQ bf rk dn rc rn q_))) := ⟨hB.1, hB.2.1, hmo, hgA, hkA, hfA, hsA, htA, hbA, hrA, hdA, hcA, heA, hB.2.2.2.2.2.2.2.2.2.2.2.2.2⟩
        refine lv_iinc (v := nI (q_ + 1)) (lv' := [(1, .int (nI (q_ + 1))), (0, .ref mo)]) hx hb d_Mo_know_34 hl (k := 1) rfl (nI_1 q_) (by decide) rfl (fun ls hl => ?_)
        refine lv_goto (tgt := 14) hx hb d_Mo_know_37 (by decide) ?_
        exact iho (q_ + 1) H locs f_2 (va_up xv q_ (oI (pkQ bf rk dn rc rn q_))) ls (by omega) (up_next hM) hB2 hkp hP hD hS (lv_sub hl [1, 0] rfl)
    exact loopo (6144 - 0) 0 H locs f_1 xf ls (by omega) (fun j hj => absurd hj (Nat.not_lt_zero j)) hB1 hkp hP hD hS (lv_sub hl [1, 0] rfl)
  · refine lv_if_ne (tgt := 40) hx hb d_Mo_know_4 (by decide) (fun _ => ?_) (fun c9 => absurd c9 (by rw [hkn]; decide))
    subst hkn
    exact W.vret hx hb hr (fun t9 h9t h9W => ⟨⟨(L, f), rfl, ⟨rfl, hkp, xf, hB, hX rfl⟩, by rw [h9t]; exact hP, hD⟩, hS.F h9t⟩) hS.2.2 d_Mo_know_40

set_option maxHeartbeats 4000000 in
set_option maxRecDepth 100000 in
/-- member -/
theorem c_Mo_member (l : Launch) (G : GG) (L : List Nat) (f : Nat → va_E) (sz : Nat) (hN : L.Nodup) {mo gA kA fA sA tA bA rA dA cA eA cn rn : Nat} {kn : Bool} {gf : Nat → Int32} {kd : Nat → Nat} {ka kb kc bf : Nat → Int32} {rk : Nat → Nat} {dn : Nat → Bool} {rc : Nat → Nat} {xf : Nat → Int32} (hB : MoB G L f mo gA kA fA sA tA bA rA dA cA eA cn rn kn gf kd ka kb kc bf rk dn rc xf) {mm : Nat → Bool} {ca cb cc : Nat → Nat} (hG : GrI gf mm) (hO : OkN cn kd ka kb kc ca cb cc) (x y : Int32) (b : Bool) : Met l y_Mo_member (.code y_Mo_member b_Mo_member 5 (some .int) :: AW) (RW 3 0 0) (va_Pc [.ref mo, .int x, .int y, .int (bI b)] (PZ G L f sz)) (va_Qi (fun r z => z.1 = L ∧ Kp (fun a => moE (f a)) L f z ∧ (((blw x (nI 8) = false ∨ blw y (nI 8) = false) ∧ r = -1 ∧ MoB G L z.2 mo gA kA fA sA tA bA rA dA cA eA cn rn kn gf kd ka kb kc bf rk dn rc xf) ∨ ∃ u9 v9, u9 < 8 ∧ v9 < 8 ∧ x = nI u9 ∧ y = nI v9 ∧ ((mm (u9 * 8 + v9) = b ∧ r = nI 0 ∧ MoB G L z.2 mo gA kA fA sA tA bA rA dA cA eA cn rn kn gf kd ka kb kc bf rk dn rc xf) ∨ (¬ mm (u9 * 8 + v9) = b ∧ r = nI 1 ∧ ∃ gf9 bf9, MoB G L z.2 mo gA kA fA sA tA bA rA dA cA eA cn rn false gf9 kd ka kb kc bf9 rk dn rc xf ∧ GrI gf9 (va_up mm (u9 * 8 + v9) b) ∧ BiI cn (va_up mm (u9 * 8 + v9) b) kd ca cb cc bf9)))) (BZ G (Am L sz)) (Am L sz)) 0 0 (Am L sz) := by
  refine Met.ofW (cc := b_Mo_member) (maxL := 5) (ret := (some .int)) (by decide) rfl ?_
  intro p e s m args below meth c s₁ B hml hv
  obtain ⟨rfl, hsz, hP, hK⟩ := hv
  have hx := B.exec
  have hb := B.bytes
  have hr := B.returns
  have hA : ∀ w ∈ AW, w.before _ s = true := fun w h => atoms_spec (ws := (.code y_Mo_member b_Mo_member 5 (some .int) :: AW)) B.pre w (List.mem_cons_of_mem _ h)
  have hown : s.vm.findClass R_Mo = some m.cls := findClass_of_methodNamed B.named
  have hlocks := B.notSynchronized
  subst hsz
  have hD : va_D (Am L s.heap.size) (va_pl L f) := pl_D hN (fun _ h => Or.inl h)
  have hA0 : ∀ q, s.heap.size ≤ q → Am L s.heap.size q := fun q h => Or.inr h
  generalize Am L s.heap.size = A at hD hA0 ⊢
  have hS : va_S A s.heap s.heap [] := va_S.rf
  have hkp : Kp (fun a => moE (f a)) L f (L, f) := Kp.rf
  have hl := lv_entry ([.ref mo, .int x, .int y, .int (bI b)]) (n := 5) (Nat.le_of_ble_eq_true rfl)
  rw [lg_entry_eq]
  generalize (lg_sl ([.ref mo, .int x, .int y, .int (bI b)]) ++ List.replicate (5 - (lg_sl ([.ref mo, .int x, .int y, .int (bI b)])).length) Slot.unset).toArray = ls at hl ⊢
  have hl : lv_has ls 5 [(0, .ref mo), (1, .int x), (2, .int y), (3, .int (bI b))] := hl
  have hmo : Lk L f mo (.inr (5, [.int (nI 0), .ref gA, .int (nI cn), .ref kA, .ref fA, .ref sA, .ref tA, .ref bA, .int (nI rn), .ref rA, .ref dA, .ref cA, .ref eA, .int (bI kn)])) := hB.2.2.1
  have hgA : Lk L f gA (.inl (G.2 4, 8, .inl gf)) := hB.2.2.2.1
  have hkA : Lk L f kA (.inl (G.2 4, 60, .inl (fun j => nI (kd j)))) := hB.2.2.2.2.1
  have hfA : Lk L f fA (.inl (G.2 4, 60, .inl ka)) := hB.2.2.2.2.2.1
  have hsA : Lk L f sA (.inl (G.2 4, 60, .inl kb)) := hB.2.2.2.2.2.2.1
  have htA : Lk L f tA (.inl (G.2 4, 60, .inl kc)) := hB.2.2.2.2.2.2.2.1
  have hbA : Lk L f bA (.inl (G.2 4, 11520, .inl bf)) := hB.2.2.2.2.2.2.2.2.1
  have hrA : Lk L f rA (.inl (G.2 4, 20, .inl (fun j => nI (rk j)))) := hB.2.2.2.2.2.2.2.2.2.1
  have hdA : Lk L f dA (.inl (G.2 1, 20, .inl (fun j => bI (dn j)))) := hB.2.2.2.2.2.2.2.2.2.2.1
  have hcA : Lk L f cA (.inl (G.2 4, 20, .inl (fun j => nI (rc j)))) := hB.2.2.2.2.2.2.2.2.2.2.2.1
  have heA : Lk L f eA (.inl (G.2 4, 6144, .inl xf)) := hB.2.2.2.2.2.2.2.2.2.2.2.2.1
  refine lv_aload_n hx hb d_Mo_member_0 rfl (lv_at hl 0 rfl) ?_
  refine lv_iconst (v := nI 0) hx hb d_Mo_member_1 (by decide) ?_
  refine xw_put (D := G.1) (ci := 5) (v := .int (nI 0)) (ty := .int) (C := R_Mo) (T := T_Mo) (N := 14) (fs' := [.int (nI 0), .ref gA, .int (nI cn), .ref kA, .ref fA, .ref sA, .ref tA, .ref bA, .int (nI rn), .ref rA, .ref dA, .ref cA, .ref eA, .int (bI kn)]) hx hb hA in_Mo ty_Mo tyok_Mo nm_Mo hown hK.1 hP hD hS hmo rfl 0 (by decide) (hA _ kw_223) (fun _ h9 => h9) rfl (by decide +kernel) rfl rfl (Nat.le_of_ble_eq_true rfl) d_Mo_member_2 rfl (fun H locs hP hD hS => ?_)
  obtain ⟨f_1, ef_1⟩ : ∃ z : Nat → va_E, z = va_up f mo (.inr (5, [.int (nI 0), .ref gA, .int (nI cn), .ref kA, .ref fA, .ref sA, .ref tA, .ref bA, .int (nI rn), .ref rA, .ref dA, .ref cA, .ref eA, .int (bI kn)])) := ⟨_, rfl⟩
  rw [← ef_1] at hP hD
  have hgA : Lk L f_1 gA (.inl (G.2 4, 8, .inl gf)) := by rw [ef_1]; exact Lk.up hgA (Ne.symm (Lk.neOA hmo hgA))
  have hkA : Lk L f_1 kA (.inl (G.2 4, 60, .inl (fun j => nI (kd j)))) := by rw [ef_1]; exact Lk.up hkA (Ne.symm (Lk.neOA hmo hkA))
  have hfA : Lk L f_1 fA (.inl (G.2 4, 60, .inl ka)) := by rw [ef_1]; exact Lk.up hfA (Ne.symm (Lk.neOA hmo hfA))
  have hsA : Lk L f_1 sA (.inl (G.2 4, 60, .inl kb)) := by rw [ef_1]; exact Lk.up hsA (Ne.symm (Lk.neOA hmo hsA))
  have htA : Lk L f_1 tA (.inl (G.2 4, 60, .inl kc)) := by rw [ef_1]; exact Lk.up htA (Ne.symm (Lk.neOA hmo htA))
  have hbA : Lk L f_1 bA (.inl (G.2 4, 11520, .inl bf)) := by rw [ef_1]; exact Lk.up hbA (Ne.symm (Lk.neOA hmo hbA))
  have hrA : Lk L f_1 rA (.inl (G.2 4, 20, .inl (fun j => nI (rk j)))) := by rw [ef_1]; exact Lk.up hrA (Ne.symm (Lk.neOA hmo hrA))
  have hdA : Lk L f_1 dA (.inl (G.2 1, 20, .inl (fun j => bI (dn j)))) := by rw [ef_1]; exact Lk.up hdA (Ne.symm (Lk.neOA hmo hdA))
  have hcA : Lk L f_1 cA (.inl (G.2 4, 20, .inl (fun j => nI (rc j)))) := by rw [ef_1]; exact Lk.up hcA (Ne.symm (Lk.neOA hmo hcA))
  have heA : Lk L f_1 eA (.inl (G.2 4, 6144, .inl xf)) := by rw [ef_1]; exact Lk.up heA (Ne.symm (Lk.neOA hmo heA))
  have hmo : Lk L f_1 mo (.inr (5, [.int (nI 0), .ref gA, .int (nI cn), .ref kA, .ref fA, .ref sA, .ref tA, .ref bA, .int (nI rn), .ref rA, .ref dA, .ref cA, .ref eA, .int (bI kn)])) := by rw [ef_1]; exact Lk.set hmo
  have hkp : Kp (fun a => moE (f a)) L f (L, f_1) := by rw [ef_1]; exact hkp.up (moE_o hB.2.2.1)
  have hB1 : MoB G L f_1 mo gA kA fA sA tA bA rA dA cA eA cn rn kn gf kd ka kb kc bf rk dn rc xf := ⟨hB.1, hB.2.1, hmo, hgA, hkA, hfA, hsA, htA, hbA, hrA, hdA, hcA, heA, hB.2.2.2.2.2.2.2.2.2.2.2.2.2⟩
  have hc60 := hB.1
  have hr20 := hB.2.1
  refine lv_iload_n hx hb d_Mo_member_5 rfl (lv_at hl 1 rfl) ?_
  refine lv_iconst (v := nI 0) hx hb d_Mo_member_6 (by decide) ?_
  refine lv_bipush (v := nI 7) hx hb d_Mo_member_7 (by decide) ?_
  refine vp_callSi (va_Run.run (va_runS (As := [.int x, .int (nI 0), .int (nI 7)]) (rest := []) ⟨hx, hb, hml, hown, hA⟩ (c_Mo_isIn l G L f_1 x (nI 0) (nI 7)) ⟨callB_of 3 hA (gAW kw_171) rfl rfl rfl (hA _ kw_172) (hA _ kw_173) (by decide +kernel) ⟨Nat.le_of_ble_eq_true rfl, Nat.le_of_ble_eq_true rfl⟩, (hA _ kw_174)⟩ (pw_preS hP hK) rfl rfl hl.1 rfl (lv_room (Nat.le_of_ble_eq_true rfl)) d_Mo_member_9 ⟨Nat.zero_le _, Nat.zero_le _⟩)) (fun r_1 e_2 => ?_)
  subst e_2
  refine xv_I (y := bI (blw x (nI 8))) (congrArg bI (inB_0 (by decide))) ?_
  rcases bcase (blw x (nI 8)) with hb_0 | hb_0
  · refine lv_if_eq (tgt := 25) hx hb d_Mo_member_12 (by decide) (fun _ => ?_) (fun c9 => absurd (by rw [hb_0]; rfl) c9)
    refine lv_iconst (v := (-1)) hx hb d_Mo_member_25 (by decide) ?_
    exact W.iret (v := (-1)) hx hb hr (fun t9 h9t h9W => ⟨⟨_, (L, f_1), rfl, ⟨rfl, hkp, Or.inl ⟨Or.inl hb_0, rfl, hB1⟩⟩, by rw [h9t]; exact hP, hD⟩, hS.F h9t⟩) hS.2.2 d_Mo_member_26
  · refine lv_if_eq (tgt := 25) hx hb d_Mo_member_12 (by decide) (fun c9 => absurd c9 (by rw [hb_0]; decide)) (fun _ => ?_)
    obtain ⟨u, hu, rfl⟩ := blw_of (by omega) hb_0
    refine lv_iload_n hx hb d_Mo_member_15 rfl (lv_at hl 2 rfl) ?_
    refine lv_iconst (v := nI 0) hx hb d_Mo_member_16 (by decide) ?_
    refine lv_bipush (v := nI 7) hx hb d_Mo_member_17 (by decide) ?_
    refine vp_callSi (va_Run.run (va_runS (As := [.int y, .int (nI 0), .int (nI 7)]) (rest := []) ⟨hx, hb, hml, hown, hA⟩ (c_Mo_isIn l G L f_1 y (nI 0) (nI 7)) ⟨callB_of 3 hA (gAW kw_171) rfl rfl rfl (hA _ kw_172) (hA _ kw_173) (by decide +kernel) ⟨Nat.le_of_ble_eq_true rfl, Nat.le_of_ble_eq_true rfl⟩, (hA _ kw_174)⟩ (pw_preS hP hK) rfl rfl hl.1 rfl (lv_room (Nat.le_of_ble_eq_true rfl)) d_Mo_member_19 ⟨Nat.zero_le _, Nat.zero_le _⟩)) (fun r_3 e_4 => ?_)
    subst e_4
    refine xv_I (y := bI (blw y (nI 8))) (congrArg bI (inB_0 (by decide))) ?_
    rcases bcase (blw y (nI 8)) with hb_1 | hb_1
    · refine lv_if_ne (tgt := 27) hx hb d_Mo_member_22 (by decide) (fun c9 => absurd (by rw [hb_1]; rfl) c9) (fun _ => ?_)
      refine lv_iconst (v := (-1)) hx hb d_Mo_member_25 (by decide) ?_
      exact W.iret (v := (-1)) hx hb hr (fun t9 h9t h9W => ⟨⟨_, (L, f_1), rfl, ⟨rfl, hkp, Or.inl ⟨Or.inr hb_1, rfl, hB1⟩⟩, by rw [h9t]; exact hP, hD⟩, hS.F h9t⟩) hS.2.2 d_Mo_member_26
    · refine lv_if_ne (tgt := 27) hx hb d_Mo_member_22 (by decide) (fun _ => ?_) (fun c9 => absurd c9 (by rw [hb_1]; decide))
      obtain ⟨v, hv, rfl⟩ := blw_of (by omega) hb_1
      refine lv_aload_n hx hb d_Mo_member_27 rfl (lv_at hl 0 rfl) ?_
      refine va_get (D := G.1) (ci := 5) (v := .ref gA) (C := R_Mo) (T := T_Mo) (N := 14) hx hb hA in_Mo hown hK.1 (pl_o hP hmo) 0 rfl rfl 1 (by decide) (hA _ kw_183) (fun _ h9 => h9) rfl d_Mo_member_28 ?_
      refine lv_iload_n hx hb d_Mo_member_31 rfl (lv_at hl 1 rfl) ?_
      refine xl_iald hx hb hK.1 (pl_o hP hgA) 0 4 rfl rfl (i := u) (by omega) (by decide) d_Mo_member_32 ?_
      refine lv_iload_n hx hb d_Mo_member_33 rfl (lv_at hl 2 rfl) ?_
      refine lv_ishr hx hb d_Mo_member_34 ?_
      refine lv_iconst (v := nI 1) hx hb d_Mo_member_35 (by decide) ?_
      refine lv_iand hx hb d_Mo_member_36 ?_
      refine lv_iconst (v := nI 1) hx hb d_Mo_member_37 (by decide) ?_
      by_cases hz : ((gf u) >>> ((nI v) &&& 31)) &&& (nI 1) = nI 1
      · refine lv_icmp_ne (tgt := 45) hx hb d_Mo_member_38 (by decide) (fun c9 => absurd hz c9) (fun _ => ?_)
        refine lv_iconst (v := nI 1) hx hb d_Mo_member_41 (by decide) ?_
        refine lv_goto (tgt := 46) hx hb d_Mo_member_42 (by decide) ?_
        refine lv_iload_n hx hb d_Mo_member_46 rfl (lv_at hl 3 rfl) ?_
        have hmv : mm (u * 8 + v) = true := (hG u hu v hv).symm.trans (decide_eq_true hz)
        rcases bcase b with hbb | hbb
        · refine lv_icmp_ne (tgt := 52) hx hb d_Mo_member_47 (by decide) (fun _ => ?_) (fun c9 => absurd c9 (by rw [hbb]; decide))
          have hne : ¬ mm (u * 8 + v) = b := by rw [hmv, hbb]; decide
          refine lv_aload_n hx hb d_Mo_member_52 rfl (lv_at hl 0 rfl) ?_
          refine va_get (D := G.1) (ci := 5) (v := .ref gA) (C := R_Mo) (T := T_Mo) (N := 14) hx hb hA in_Mo hown hK.1 (pl_o hP hmo) 0 rfl rfl 1 (by decide) (hA _ kw_183) (fun _ h9 => h9) rfl d_Mo_member_53 ?_
          refine lv_iload_n hx hb d_Mo_member_56 rfl (lv_at hl 1 rfl) ?_
          refine lv_dup2_11 hx hb d_Mo_member_57 rfl rfl ?_
          refine xl_iald hx hb hK.1 (pl_o hP hgA) 0 4 rfl rfl (i := u) (by omega) (by decide) d_Mo_member_58 ?_
          refine lv_iconst (v := nI 1) hx hb d_Mo_member_59 (by decide) ?_
          refine lv_iload_n hx hb d_Mo_member_60 rfl (lv_at hl 2 rfl) ?_
          refine lv_ishl hx hb d_Mo_member_61 ?_
          refine lv_ixor hx hb d_Mo_member_62 ?_
          refine xw_iast hx hb hK.1 hP hD hS 4 hgA rfl (i := u) (x := (gf u) ^^^ ((nI 1) <<< ((nI v) &&& 31))) (by omega) (by decide) d_Mo_member_63 (fun H locs hP hD hS => ?_)
          obtain ⟨f_2, ef_2⟩ : ∃ z : Nat → va_E, z = va_up f_1 gA (.inl (G.2 4, 8, .inl (upd gf u ((gf u) ^^^ ((nI 1) <<< ((nI v) &&& 31)))))) := ⟨_, rfl⟩
          rw [← ef_2] at hP hD
          have hmo : Lk L f_2 mo (.inr (5, [.int (nI 0), .ref gA, .int (nI cn), .ref kA, .ref fA, .ref sA, .ref tA, .ref bA, .int (nI rn), .ref rA, .ref dA, .ref cA, .ref eA, .int (bI kn)])) := by rw [ef_2]; exact Lk.up hmo (Lk.neOA hmo hgA)
          have hkA : Lk L f_2 kA (.inl (G.2 4, 60, .inl (fun j => nI (kd j)))) := by rw [ef_2]; exact Lk.up hkA (Lk.neAA hkA hgA (by decide))
          have hfA : Lk L f_2 fA (.inl (G.2 4, 60, .inl ka)) := by rw [ef_2]; exact Lk.up hfA (Lk.neAA hfA hgA (by decide))
          have hsA : Lk L f_2 sA (.inl (G.2 4, 60, .inl kb)) := by rw [ef_2]; exact Lk.up hsA (Lk.neAA hsA hgA (by decide))
          have htA : Lk L f_2 tA (.inl (G.2 4, 60, .inl kc)) := by rw [ef_2]; exact Lk.up htA (Lk.neAA htA hgA (by decide))
          have hbA : Lk L f_2 bA (.inl (G.2 4, 11520, .inl bf)) := by rw [ef_2]; exact Lk.up hbA (Lk.neAA hbA hgA (by decide))
          have hrA : Lk L f_2 rA (.inl (G.2 4, 20, .inl (fun j => nI (rk j)))) := by rw [ef_2]; exact Lk.up hrA (Lk.neAA hrA hgA (by decide))
          have hdA : Lk L f_2 dA (.inl (G.2 1, 20, .inl (fun j => bI (dn j)))) := by rw [ef_2]; exact Lk.up hdA (Lk.neAA hdA hgA (by decide))
          have hcA : Lk L f_2 cA (.inl (G.2 4, 20, .inl (fun j => nI (rc j)))) := by rw [ef_2]; exact Lk.up hcA (Lk.neAA hcA hgA (by decide))
          have heA : Lk L f_2 eA (.inl (G.2 4, 6144, .inl xf)) := by rw [ef_2]; exact Lk.up heA (Lk.neAA heA hgA (by decide))
          have hgA : Lk L f_2 gA (.inl (G.2 4, 8, .inl (upd gf u ((gf u) ^^^ ((nI 1) <<< ((nI v) &&& 31)))))) := by rw [ef_2]; exact Lk.set hgA
          have hkp : Kp (fun a => moE (f a)) L f (L, f_2) := by rw [ef_2]; exact hkp.up (moE_a hB.2.2.2.1 (by decide))
          have hgA : Lk L f_2 gA (.inl (G.2 4, 8, .inl (va_up gf u ((gf u) ^^^ ((nI 1) <<< ((nI v) &&& 31)))))) := by have e8 : upd gf u ((gf u) ^^^ ((nI 1) <<< ((nI v) &&& 31))) = (va_up gf u ((gf u) ^^^ ((nI 1) <<< ((nI v) &&& 31)))) := upd_va; rw [← e8]; exact hgA
          have hB2 : MoB G L f_2 mo gA kA fA sA tA bA rA dA cA eA cn rn kn (va_up gf u ((gf u) ^^^ ((nI 1) <<< ((nI v) &&& 31)))) kd ka kb kc bf rk dn rc xf := ⟨hB.1, hB.2.1, hmo, hgA, hkA, hfA, hsA, htA, hbA, hrA, hdA, hcA, heA, hB.2.2.2.2.2.2.2.2.2.2.2.2.2⟩
          have hG2 := GrI_set hG hu hv hne
          refine lv_iconst (v := nI 0) hx hb d_Mo_member_64 (by decide) ?_
          refine lv_istore (lv' := [(4, .int (nI 0)), (0, .ref mo), (1, .int (nI u)), (2, .int (nI v)), (3, .int (bI b))]) hx hb d_Mo_member_65 hl (by decide) rfl (fun ls hl => ?_)
          have loopo : ∀ (ko i : Nat) (H : Heap) (locs : List Loc) (fv : Nat → va_E) (bv : Nat → Int32) (ls : Array Slot), i + ko = cn → BiI i (va_up mm (u * 8 + v) b) kd ca cb cc bv → MoB G L fv mo gA kA fA sA tA bA rA dA cA eA cn rn kn (va_up gf u ((gf u) ^^^ ((nI 1) <<< ((nI v) &&& 31)))) kd ka kb kc bv rk dn rc xf → Kp (fun a => moE (f a)) L f (L, fv) → va_P G.1 vwCl (va_pl L fv) H → va_D A (va_pl L fv) → va_S A s.heap H locs → lv_has ls 5 [(0, .ref mo), (4, .int (nI i))] → W p l e (headSpec (.code y_Mo_member b_Mo_member 5 (some .int) :: AW) (RW 3 0 0)).room s m ([.ref mo, .int (nI u), .int (nI v), .int (bI b)] : List Value).toArray below meth c H locs 0 0 (MQ below (va_Qi (fun r z => z.1 = L ∧ Kp (fun a => moE (f a)) L f z ∧ (((blw (nI u) (nI 8) = false ∨ blw (nI v) (nI 8) = false) ∧ r = -1 ∧ MoB G L z.2 mo gA kA fA sA tA bA rA dA cA eA cn rn kn gf kd ka kb kc bf rk dn rc xf) ∨ ∃ u9 v9, u9 < 8 ∧ v9 < 8 ∧ (nI u) = nI u9 ∧ (nI v) = nI v9 ∧ ((mm (u9 * 8 + v9) = b ∧ r = nI 0 ∧ MoB G L z.2 mo gA kA fA sA tA bA rA dA cA eA cn rn kn gf kd ka kb kc bf rk dn rc xf) ∨ (¬ mm (u9 * 8 + v9) = b ∧ r = nI 1 ∧ ∃ gf9 bf9, MoB G L z.2 mo gA kA fA sA tA bA rA dA cA eA cn rn false gf9 kd ka kb kc bf9 rk dn rc xf ∧ GrI gf9 (va_up mm (u9 * 8 + v9) b) ∧ BiI cn (va_up mm (u9 * 8 + v9) b) kd ca cb cc bf9)))) (BZ G A) A) ([.ref mo, .int (nI u), .int (nI v), .int (bI b)] : List Value).toArray s 0 0 A) (F0 m 67 ls []) := by
            intro ko
            induction ko with
            | zero =>
              intro i H locs fv bv ls hiko hM hBv hkp hP hD hS hl
              have hmo : Lk L fv mo (.inr (5, [.int (nI 0), .ref gA, .int (nI cn), .ref kA, .ref fA, .ref sA, .ref tA, .ref bA, .int (nI rn), .ref rA, .ref dA, .ref cA, .ref eA, .int (bI kn)])) := hBv.2.2.1
              have hgA : Lk L fv gA (.inl (G.2 4, 8, .inl (va_up gf u ((gf u) ^^^ ((nI 1) <<< ((nI v) &&& 31)))))) := hBv.2.2.2.1
              have hkA : Lk L fv kA (.inl (G.2 4, 60, .inl (fun j => nI (kd j)))) := hBv.2.2.2.2.1
              have hfA : Lk L fv fA (.inl (G.2 4, 60, .inl ka)) := hBv.2.2.2.2.2.1
              have hsA : Lk L fv sA (.inl (G.2 4, 60, .inl kb)) := hBv.2.2.2.2.2.2.1
              have htA : Lk L fv tA (.inl (G.2 4, 60, .inl kc)) := hBv.2.2.2.2.2.2.2.1
              have hbA : Lk L fv bA (.inl (G.2 4, 11520, .inl bv)) := hBv.2.2.2.2.2.2.2.2.1
              have hrA : Lk L fv rA (.inl (G.2 4, 20, .inl (fun j => nI (rk j)))) := hBv.2.2.2.2.2.2.2.2.2.1
              have hdA : Lk L fv dA (.inl (G.2 1, 20, .inl (fun j => bI (dn j)))) := hBv.2.2.2.2.2.2.2.2.2.2.1
              have hcA : Lk L fv cA (.inl (G.2 4, 20, .inl (fun j => nI (rc j)))) := hBv.2.2.2.2.2.2.2.2.2.2.2.1
              have heA : Lk L fv eA (.inl (G.2 4, 6144, .inl xf)) := hBv.2.2.2.2.2.2.2.2.2.2.2.2.1
              refine lv_iload hx hb d_Mo_member_67 (lv_at hl 1 rfl) ?_
              refine lv_aload_n hx hb d_Mo_member_69 rfl (lv_at hl 0 rfl) ?_
              refine va_get (D := G.1) (ci := 5) (v := .int (nI cn)) (C := R_Mo) (T := T_Mo) (N := 14) hx hb hA in_Mo hown hK.1 (pl_o hP hmo) 0 rfl rfl 2 (by decide) (hA _ kw_170) (fun _ h9 => h9) rfl d_Mo_member_70 ?_
              refine lv_icmp_ge (tgt := 88) hx hb d_Mo_member_73 (by decide) (fun _ => ?_) (fun c9 => absurd (nI_le (by omega) (by omega)) c9)
              refine lv_aload_n hx hb d_Mo_member_88 rfl (lv_at hl 0 rfl) ?_
              refine lv_iconst (v := nI 0) hx hb d_Mo_member_89 (by decide) ?_
              refine xw_put (D := G.1) (ci := 5) (v := .int (nI 0)) (ty := .boolean) (C := R_Mo) (T := T_Mo) (N := 14) (fs' := [.int (nI 0), .ref gA, .int (nI cn), .ref kA, .ref fA, .ref sA, .ref tA, .ref bA, .int (nI rn), .ref rA, .ref dA, .ref cA, .ref eA, .int (nI 0)]) hx hb hA in_Mo ty_Mo tyok_Mo nm_Mo hown hK.1 hP hD hS hmo rfl 13 (by decide) (hA _ kw_218) (fun _ h9 => h9) rfl (by decide +kernel) rfl rfl (Nat.le_of_ble_eq_true rfl) d_Mo_member_90 rfl (fun H locs hP hD hS => ?_)
              obtain ⟨f_3, ef_3⟩ : ∃ z : Nat → va_E, z = va_up fv mo (.inr (5, [.int (nI 0), .ref gA, .int (nI cn), .ref kA, .ref fA, .ref sA, .ref tA, .ref bA, .int (nI rn), .ref rA, .ref dA, .ref cA, .ref eA, .int (nI 0)])) := ⟨_, rfl⟩
              rw [← ef_3] at hP hD
              have hgA : Lk L f_3 gA (.inl (G.2 4, 8, .inl (va_up gf u ((gf u) ^^^ ((nI 1) <<< ((nI v) &&& 31)))))) := by rw [ef_3]; exact Lk.up hgA (Ne.symm (Lk.neOA hmo hgA))
              have hkA : Lk L f_3 kA (.inl (G.2 4, 60, .inl (fun j => nI (kd j)))) := by rw [ef_3]; exact Lk.up hkA (Ne.symm (Lk.neOA hmo hkA))
              have hfA : Lk L f_3 fA (.inl (G.2 4, 60, .inl ka)) := by rw [ef_3]; exact Lk.up hfA (Ne.symm (Lk.neOA hmo hfA))
              have hsA : Lk L f_3 sA (.inl (G.2 4, 60, .inl kb)) := by rw [ef_3]; exact Lk.up hsA (Ne.symm (Lk.neOA hmo hsA))
              have htA : Lk L f_3 tA (.inl (G.2 4, 60, .inl kc)) := by rw [ef_3]; exact Lk.up htA (Ne.symm (Lk.neOA hmo htA))
              have hbA : Lk L f_3 bA (.inl (G.2 4, 11520, .inl bv)) := by rw [ef_3]; exact Lk.up hbA (Ne.symm (Lk.neOA hmo hbA))
              have hrA : Lk L f_3 rA (.inl (G.2 4, 20, .inl (fun j => nI (rk j)))) := by rw [ef_3]; exact Lk.up hrA (Ne.symm (Lk.neOA hmo hrA))
              have hdA : Lk L f_3 dA (.inl (G.2 1, 20, .inl (fun j => bI (dn j)))) := by rw [ef_3]; exact Lk.up hdA (Ne.symm (Lk.neOA hmo hdA))
              have hcA : Lk L f_3 cA (.inl (G.2 4, 20, .inl (fun j => nI (rc j)))) := by rw [ef_3]; exact Lk.up hcA (Ne.symm (Lk.neOA hmo hcA))
              have heA : Lk L f_3 eA (.inl (G.2 4, 6144, .inl xf)) := by rw [ef_3]; exact Lk.up heA (Ne.symm (Lk.neOA hmo heA))
              have hmo : Lk L f_3 mo (.inr (5, [.int (nI 0), .ref gA, .int (nI cn), .ref kA, .ref fA, .ref sA, .ref tA, .ref bA, .int (nI rn), .ref rA, .ref dA, .ref cA, .ref eA, .int (nI 0)])) := by rw [ef_3]; exact Lk.set hmo
              have hkp : Kp (fun a => moE (f a)) L f (L, f_3) := by rw [ef_3]; exact hkp.up (moE_o hB.2.2.1)
              have hB9 : MoB G L f_3 mo gA kA fA sA tA bA rA dA cA eA cn rn false (va_up gf u ((gf u) ^^^ ((nI 1) <<< ((nI v) &&& 31)))) kd ka kb kc bv rk dn rc xf := ⟨hB.1, hB.2.1, hmo, hgA, hkA, hfA, hsA, htA, hbA, hrA, hdA, hcA, heA, hB.2.2.2.2.2.2.2.2.2.2.2.2.2⟩
              refine lv_iconst (v := nI 1) hx hb d_Mo_member_93 (by decide) ?_
              exact W.iret (v := nI 1) hx hb hr (fun t9 h9t h9W => ⟨⟨_, (L, f_3), rfl, ⟨rfl, hkp, Or.inr ⟨u, v, hu, hv, rfl, rfl, Or.inr ⟨hne, rfl, _, bv, hB9, hG2, BiI_to hM (by omega)⟩⟩⟩, by rw [h9t]; exact hP, hD⟩, hS.F h9t⟩) hS.2.2 d_Mo_member_94
            | succ ko iho =>
              intro i H locs fv bv ls hiko hM hBv hkp hP hD hS hl
              have hmo : Lk L fv mo (.inr (5, [.int (nI 0), .ref gA, .int (nI cn), .ref kA, .ref fA, .ref sA, .ref tA, .ref bA, .int (nI rn), .ref rA, .ref dA, .ref cA, .ref eA, .int (bI kn)])) := hBv.2.2.1
              have hgA : Lk L fv gA (.inl (G.2 4, 8, .inl (va_up gf u ((gf u) ^^^ ((nI 1) <<< ((nI v) &&& 31)))))) := hBv.2.2.2.1
              have hkA : Lk L fv kA (.inl (G.2 4, 60, .inl (fun j => nI (kd j)))) := hBv.2.2.2.2.1
              have hfA : Lk L fv fA (.inl (G.2 4, 60, .inl ka)) := hBv.2.2.2.2.2.1
              have hsA : Lk L fv sA (.inl (G.2 4, 60, .inl kb)) := hBv.2.2.2.2.2.2.1
              have htA : Lk L fv tA (.inl (G.2 4, 60, .inl kc)) := hBv.2.2.2.2.2.2.2.1
              have hbA : Lk L fv bA (.inl (G.2 4, 11520, .inl bv)) := hBv.2.2.2.2.2.2.2.2.1
              have hrA : Lk L fv rA (.inl (G.2 4, 20, .inl (fun j => nI (rk j)))) := hBv.2.2.2.2.2.2.2.2.2.1
              have hdA : Lk L fv dA (.inl (G.2 1, 20, .inl (fun j => bI (dn j)))) := hBv.2.2.2.2.2.2.2.2.2.2.1
              have hcA : Lk L fv cA (.inl (G.2 4, 20, .inl (fun j => nI (rc j)))) := hBv.2.2.2.2.2.2.2.2.2.2.2.1
              have heA : Lk L fv eA (.inl (G.2 4, 6144, .inl xf)) := hBv.2.2.2.2.2.2.2.2.2.2.2.2.1
              refine lv_iload hx hb d_Mo_member_67 (lv_at hl 1 rfl) ?_
              refine lv_aload_n hx hb d_Mo_member_69 rfl (lv_at hl 0 rfl) ?_
              refine va_get (D := G.1) (ci := 5) (v := .int (nI cn)) (C := R_Mo) (T := T_Mo) (N := 14) hx hb hA in_Mo hown hK.1 (pl_o hP hmo) 0 rfl rfl 2 (by decide) (hA _ kw_170) (fun _ h9 => h9) rfl d_Mo_member_70 ?_
              refine lv_icmp_ge (tgt := 88) hx hb d_Mo_member_73 (by decide) (fun c9 => absurd c9 (nI_ge (by omega) (by omega))) (fun _ => ?_)
              refine lv_aload_n hx hb d_Mo_member_76 rfl (lv_at hl 0 rfl) ?_
              refine lv_iload hx hb d_Mo_member_77 (lv_at hl 1 rfl) ?_
              have hFc := am_free hD hS hA0
              refine va_callv (va_runV (As := [.int (nI i)]) (rest := []) ⟨hx, hb, hml, hown, hA⟩ (c_Mo_make l G L fv H.size (pl_nd hD) hBv hG2 i (by omega) (hO i (by omega))) ⟨callB_of 1 hA (gAW kw_224) rfl rfl rfl (hA _ kw_172) (hA _ kw_225) (by decide +kernel) ⟨Nat.le_of_ble_eq_true rfl, Nat.le_of_ble_eq_true rfl⟩, (hA _ kw_226), (hA _ kw_227)⟩ (pz_preV (ci := 5) hP hK hmo rfl) rfl rfl hl.1 rfl (lv_room (Nat.le_of_ble_eq_true rfl)) d_Mo_member_79 ⟨Nat.le_of_ble_eq_true rfl, Nat.le_of_ble_eq_true rfl⟩) hS (fun q _ h => hFc q h) hFc (fun u9 t9 H1 locs ht9 hvm hw hWB hz1 hk1 hS => ?_)
              obtain ⟨L_4, f_4⟩ := u9
              obtain ⟨hP, hD1⟩ := hWB
              rw [ht9] at hP
              have hD := va_Dw hD1 hFc
              clear hD1 hk1 hz1 hFc ht9 hvm
              generalize H1 = H at hP hS ⊢
              dsimp only at hP hD
              obtain ⟨hz1, hk1, bw, hBw, hw1, hw2⟩ := hw
              try dsimp only at hz1 hk1 hBw
              replace hz1 := hz1.symm
              subst hz1
              have hkp : Kp (fun a => moE (f a)) L f (L, f_4) := Kp.mo hkp hk1
              have hmo : Lk L f_4 mo (.inr (5, [.int (nI 0), .ref gA, .int (nI cn), .ref kA, .ref fA, .ref sA, .ref tA, .ref bA, .int (nI rn), .ref rA, .ref dA, .ref cA, .ref eA, .int (bI kn)])) := hBw.2.2.1
              have hgA : Lk L f_4 gA (.inl (G.2 4, 8, .inl (va_up gf u ((gf u) ^^^ ((nI 1) <<< ((nI v) &&& 31)))))) := hBw.2.2.2.1
              have hkA : Lk L f_4 kA (.inl (G.2 4, 60, .inl (fun j => nI (kd j)))) := hBw.2.2.2.2.1
              have hfA : Lk L f_4 fA (.inl (G.2 4, 60, .inl ka)) := hBw.2.2.2.2.2.1
              have hsA : Lk L f_4 sA (.inl (G.2 4, 60, .inl kb)) := hBw.2.2.2.2.2.2.1
              have htA : Lk L f_4 tA (.inl (G.2 4, 60, .inl kc)) := hBw.2.2.2.2.2.2.2.1
              have hbA : Lk L f_4 bA (.inl (G.2 4, 11520, .inl bw)) := hBw.2.2.2.2.2.2.2.2.1
              have hrA : Lk L f_4 rA (.inl (G.2 4, 20, .inl (fun j => nI (rk j)))) := hBw.2.2.2.2.2.2.2.2.2.1
              have hdA : Lk L f_4 dA (.inl (G.2 1, 20, .inl (fun j => bI (dn j)))) := hBw.2.2.2.2.2.2.2.2.2.2.1
              have hcA : Lk L f_4 cA (.inl (G.2 4, 20, .inl (fun j => nI (rc j)))) := hBw.2.2.2.2.2.2.2.2.2.2.2.1
              have heA : Lk L f_4 eA (.inl (G.2 4, 6144, .inl xf)) := hBw.2.2.2.2.2.2.2.2.2.2.2.2.1
              refine lv_iinc (v := nI (i + 1)) (lv' := [(4, .int (nI (i + 1))), (0, .ref mo)]) hx hb d_Mo_member_82 hl (k := 1) rfl (nI_1 i) (by decide) rfl (fun ls hl => ?_)
              refine lv_goto (tgt := 67) hx hb d_Mo_member_85 (by decide) ?_
              exact iho (i + 1) H locs f_4 bw ls (by omega) (BiI_next hO (by omega) hM hw1 hw2) hBw hkp hP hD hS (lv_sub hl [1, 0] rfl)
          exact loopo (cn - 0) 0 H locs f_2 bf ls (by omega) (fun j hj => absurd hj (Nat.not_lt_zero j)) hB2 hkp hP hD hS (lv_sub hl [1, 0] rfl)
        · refine lv_icmp_ne (tgt := 52) hx hb d_Mo_member_47 (by decide) (fun c9 => absurd (by rw [hbb]; rfl) c9) (fun _ => ?_)
          refine lv_iconst (v := nI 0) hx hb d_Mo_member_50 (by decide) ?_
          exact W.iret (v := nI 0) hx hb hr (fun t9 h9t h9W => ⟨⟨_, (L, f_1), rfl, ⟨rfl, hkp, Or.inr ⟨u, v, hu, hv, rfl, rfl, Or.inl ⟨by rw [hmv, hbb], rfl, hB1⟩⟩⟩, by rw [h9t]; exact hP, hD⟩, hS.F h9t⟩) hS.2.2 d_Mo_member_51
      · refine lv_icmp_ne (tgt := 45) hx hb d_Mo_member_38 (by decide) (fun _ => ?_) (fun c9 => absurd c9 hz)
        refine lv_iconst (v := nI 0) hx hb d_Mo_member_45 (by decide) ?_
        refine lv_iload_n hx hb d_Mo_member_46 rfl (lv_at hl 3 rfl) ?_
        have hmv : mm (u * 8 + v) = false := (hG u hu v hv).symm.trans (decide_eq_false hz)
        rcases bcase b with hbb | hbb
        · refine lv_icmp_ne (tgt := 52) hx hb d_Mo_member_47 (by decide) (fun c9 => absurd (by rw [hbb]; rfl) c9) (fun _ => ?_)
          refine lv_iconst (v := nI 0) hx hb d_Mo_member_50 (by decide) ?_
          exact W.iret (v := nI 0) hx hb hr (fun t9 h9t h9W => ⟨⟨_, (L, f_1), rfl, ⟨rfl, hkp, Or.inr ⟨u, v, hu, hv, rfl, rfl, Or.inl ⟨by rw [hmv, hbb], rfl, hB1⟩⟩⟩, by rw [h9t]; exact hP, hD⟩, hS.F h9t⟩) hS.2.2 d_Mo_member_51
        · refine lv_icmp_ne (tgt := 52) hx hb d_Mo_member_47 (by decide) (fun _ => ?_) (fun c9 => absurd c9 (by rw [hbb]; decide))
          have hne : ¬ mm (u * 8 + v) = b := by rw [hmv, hbb]; decide
          refine lv_aload_n hx hb d_Mo_member_52 rfl (lv_at hl 0 rfl) ?_
          refine va_get (D := G.1) (ci := 5) (v := .ref gA) (C := R_Mo) (T := T_Mo) (N := 14) hx hb hA in_Mo hown hK.1 (pl_o hP hmo) 0 rfl rfl 1 (by decide) (hA _ kw_183) (fun _ h9 => h9) rfl d_Mo_member_53 ?_
          refine lv_iload_n hx hb d_Mo_member_56 rfl (lv_at hl 1 rfl) ?_
          refine lv_dup2_11 hx hb d_Mo_member_57 rfl rfl ?_
          refine xl_iald hx hb hK.1 (pl_o hP hgA) 0 4 rfl rfl (i := u) (by omega) (by decide) d_Mo_member_58 ?_
          refine lv_iconst (v := nI 1) hx hb d_Mo_member_59 (by decide) ?_
          refine lv_iload_n hx hb d_Mo_member_60 rfl (lv_at hl 2 rfl) ?_
          refine lv_ishl hx hb d_Mo_member_61 ?_
          refine lv_ixor hx hb d_Mo_member_62 ?_
          refine xw_iast hx hb hK.1 hP hD hS 4 hgA rfl (i := u) (x := (gf u) ^^^ ((nI 1) <<< ((nI v) &&& 31))) (by omega) (by decide) d_Mo_member_63 (fun H locs hP hD hS => ?_)
          obtain ⟨f_5, ef_5⟩ : ∃ z : Nat → va_E, z = va_up f_1 gA (.inl (G.2 4, 8, .inl (upd gf u ((gf u) ^^^ ((nI 1) <<< ((nI v) &&& 31)))))) := ⟨_, rfl⟩
          rw [← ef_5] at hP hD
          have hmo : Lk L f_5 mo (.inr (5, [.int (nI 0), .ref gA, .int (nI cn), .ref kA, .ref fA, .ref sA, .ref tA, .ref bA, .int (nI rn), .ref rA, .ref dA, .ref cA, .ref eA, .int (bI kn)])) := by rw [ef_5]; exact Lk.up hmo (Lk.neOA hmo hgA)
          have hkA : Lk L f_5 kA (.inl (G.2 4, 60, .inl (fun j => nI (kd j)))) := by rw [ef_5]; exact Lk.up hkA (Lk.neAA hkA hgA (by decide))
          have hfA : Lk L f_5 fA (.inl (G.2 4, 60, .inl ka)) := by rw [ef_5]; exact Lk.up hfA (Lk.neAA hfA hgA (by decide))
          have hsA : Lk L f_5 sA (.inl (G.2 4, 60, .inl kb)) := by rw [ef_5]; exact Lk.up hsA (Lk.neAA hsA hgA (by decide))
          have htA : Lk L f_5 tA (.inl (G.2 4, 60, .inl kc)) := by rw [ef_5]; exact Lk.up htA (Lk.neAA htA hgA (by decide))
          have hbA : Lk L f_5 bA (.inl (G.2 4, 11520, .inl bf)) := by rw [ef_5]; exact Lk.up hbA (Lk.neAA hbA hgA (by decide))
          have hrA : Lk L f_5 rA (.inl (G.2 4, 20, .inl (fun j => nI (rk j)))) := by rw [ef_5]; exact Lk.up hrA (Lk.neAA hrA hgA (by decide))
          have hdA : Lk L f_5 dA (.inl (G.2 1, 20, .inl (fun j => bI (dn j)))) := by rw [ef_5]; exact Lk.up hdA (Lk.neAA hdA hgA (by decide))
          have hcA : Lk L f_5 cA (.inl (G.2 4, 20, .inl (fun j => nI (rc j)))) := by rw [ef_5]; exact Lk.up hcA (Lk.neAA hcA hgA (by decide))
          have heA : Lk L f_5 eA (.inl (G.2 4, 6144, .inl xf)) := by rw [ef_5]; exact Lk.up heA (Lk.neAA heA hgA (by decide))
          have hgA : Lk L f_5 gA (.inl (G.2 4, 8, .inl (upd gf u ((gf u) ^^^ ((nI 1) <<< ((nI v) &&& 31)))))) := by rw [ef_5]; exact Lk.set hgA
          have hkp : Kp (fun a => moE (f a)) L f (L, f_5) := by rw [ef_5]; exact hkp.up (moE_a hB.2.2.2.1 (by decide))
          have hgA : Lk L f_5 gA (.inl (G.2 4, 8, .inl (va_up gf u ((gf u) ^^^ ((nI 1) <<< ((nI v) &&& 31)))))) := by have e8 : upd gf u ((gf u) ^^^ ((nI 1) <<< ((nI v) &&& 31))) = (va_up gf u ((gf u) ^^^ ((nI 1) <<< ((nI v) &&& 31)))) := upd_va; rw [← e8]; exact hgA
          have hB2 : MoB G L f_5 mo gA kA fA sA tA bA rA dA cA eA cn rn kn (va_up gf u ((gf u) ^^^ ((nI 1) <<< ((nI v) &&& 31)))) kd ka kb kc bf rk dn rc xf := ⟨hB.1, hB.2.1, hmo, hgA, hkA, hfA, hsA, htA, hbA, hrA, hdA, hcA, heA, hB.2.2.2.2.2.2.2.2.2.2.2.2.2⟩
          have hG2 := GrI_set hG hu hv hne
          refine lv_iconst (v := nI 0) hx hb d_Mo_member_64 (by decide) ?_
          refine lv_istore (lv' := [(4, .int (nI 0)), (0, .ref mo), (1, .int (nI u)), (2, .int (nI v)), (3, .int (bI b))]) hx hb d_Mo_member_65 hl (by decide) rfl (fun ls hl => ?_)
          have loopo : ∀ (ko i : Nat) (H : Heap) (locs : List Loc) (fv : Nat → va_E) (bv : Nat → Int32) (ls : Array Slot), i + ko = cn → BiI i (va_up mm (u * 8 + v) b) kd ca cb cc bv → MoB G L fv mo gA kA fA sA tA bA rA dA cA eA cn rn kn (va_up gf u ((gf u) ^^^ ((nI 1) <<< ((nI v) &&& 31)))) kd ka kb kc bv rk dn rc xf → Kp (fun a => moE (f a)) L f (L, fv) → va_P G.1 vwCl (va_pl L fv) H → va_D A (va_pl L fv) → va_S A s.heap H locs → lv_has ls 5 [(0, .ref mo), (4, .int (nI i))] → W p l e (headSpec (.code y_Mo_member b_Mo_member 5 (some .int) :: AW) (RW 3 0 0)).room s m ([.ref mo, .int (nI u), .int (nI v), .int (bI b)] : List Value).toArray below meth c H locs 0 0 (MQ below (va_Qi (fun r z => z.1 = L ∧ Kp (fun a => moE (f a)) L f z ∧ (((blw (nI u) (nI 8) = false ∨ blw (nI v) (nI 8) = false) ∧ r = -1 ∧ MoB G L z.2 mo gA kA fA sA tA bA rA dA cA eA cn rn kn gf kd ka kb kc bf rk dn rc xf) ∨ ∃ u9 v9, u9 < 8 ∧ v9 < 8 ∧ (nI u) = nI u9 ∧ (nI v) = nI v9 ∧ ((mm (u9 * 8 + v9) = b ∧ r = nI 0 ∧ MoB G L z.2 mo gA kA fA sA tA bA rA dA cA eA cn rn kn gf kd ka kb kc bf rk dn rc xf) ∨ (¬ mm (u9 * 8 + v9) = b ∧ r = nI 1 ∧ ∃ gf9 bf9, MoB G L z.2 mo gA kA fA sA tA bA rA dA cA eA cn rn false gf9 kd ka kb kc bf9 rk dn rc xf ∧ GrI gf9 (va_up mm (u9 * 8 + v9) b) ∧ BiI cn (va_up mm (u9 * 8 + v9) b) kd ca cb cc bf9)))) (BZ G A) A) ([.ref mo, .int (nI u), .int (nI v), .int (bI b)] : List Value).toArray s 0 0 A) (F0 m 67 ls []) := by
            intro ko
            induction ko with
            | zero =>
              intro i H locs fv bv ls hiko hM hBv hkp hP hD hS hl
              have hmo : Lk L fv mo (.inr (5, [.int (nI 0), .ref gA, .int (nI cn), .ref kA, .ref fA, .ref sA, .ref tA, .ref bA, .int (nI rn), .ref rA, .ref dA, .ref cA, .ref eA, .int (bI kn)])) := hBv.2.2.1
              have hgA : Lk L fv gA (.inl (G.2 4, 8, .inl (va_up gf u ((gf u) ^^^ ((nI 1) <<< ((nI v) &&& 31)))))) := hBv.2.2.2.1
              have hkA : Lk L fv kA (.inl (G.2 4, 60, .inl (fun j => nI (kd j)))) := hBv.2.2.2.2.1
              have hfA : Lk L fv fA (.inl (G.2 4, 60, .inl ka)) := hBv.2.2.2.2.2.1
              have hsA : Lk L fv sA (.inl (G.2 4, 60, .inl kb)) := hBv.2.2.2.2.2.2.1
              have htA : Lk L fv tA (.inl (G.2 4, 60, .inl kc)) := hBv.2.2.2.2.2.2.2.1
              have hbA : Lk L fv bA (.inl (G.2 4, 11520, .inl bv)) := hBv.2.2.2.2.2.2.2.2.1
              have hrA : Lk L fv rA (.inl (G.2 4, 20, .inl (fun j => nI (rk j)))) := hBv.2.2.2.2.2.2.2.2.2.1
              have hdA : Lk L fv dA (.inl (G.2 1, 20, .inl (fun j => bI (dn j)))) := hBv.2.2.2.2.2.2.2.2.2.2.1
              have hcA : Lk L fv cA (.inl (G.2 4, 20, .inl (fun j => nI (rc j)))) := hBv.2.2.2.2.2.2.2.2.2.2.2.1
              have heA : Lk L fv eA (.inl (G.2 4, 6144, .inl xf)) := hBv.2.2.2.2.2.2.2.2.2.2.2.2.1
              refine lv_iload hx hb d_Mo_member_67 (lv_at hl 1 rfl) ?_
              refine lv_aload_n hx hb d_Mo_member_69 rfl (lv_at hl 0 rfl) ?_
              refine va_get (D := G.1) (ci := 5) (v := .int (nI cn)) (C := R_Mo) (T := T_Mo) (N := 14) hx hb hA in_Mo hown hK.1 (pl_o hP hmo) 0 rfl rfl 2 (by decide) (hA _ kw_170) (fun _ h9 => h9) rfl d_Mo_member_70 ?_
              refine lv_icmp_ge (tgt := 88) hx hb d_Mo_member_73 (by decide) (fun _ => ?_) (fun c9 => absurd (nI_le (by omega) (by omega)) c9)
              refine lv_aload_n hx hb d_Mo_member_88 rfl (lv_at hl 0 rfl) ?_
              refine lv_iconst (v := nI 0) hx hb d_Mo_member_89 (by decide) ?_
              refine xw_put (D := G.1) (ci := 5) (v := .int (nI 0)) (ty := .boolean) (C := R_Mo) (T := T_Mo) (N := 14) (fs' := [.int (nI 0), .ref gA, .int (nI cn), .ref kA, .ref fA, .ref sA, .ref tA, .ref bA, .int (nI rn), .ref rA, .ref dA, .ref cA, .ref eA, .int (nI 0)]) hx hb hA in_Mo ty_Mo tyok_Mo nm_Mo hown hK.1 hP hD hS hmo rfl 13 (by decide) (hA _ kw_218) (fun _ h9 => h9) rfl (by decide +kernel) rfl rfl (Nat.le_of_ble_eq_true rfl) d_Mo_member_90 rfl (fun H locs hP hD hS => ?_)
              obtain ⟨f_6, ef_6⟩ : ∃ z : Nat → va_E, z = va_up fv mo (.inr (5, [.int (nI 0), .ref gA, .int (nI cn), .ref kA, .ref fA, .ref sA, .ref tA, .ref bA, .int (nI rn), .ref rA, .ref dA, .ref cA, .ref eA, .int (nI 0)])) := ⟨_, rfl⟩
              rw [← ef_6] at hP hD
              have hgA : Lk L f_6 gA (.inl (G.2 4, 8, .inl (va_up gf u ((gf u) ^^^ ((nI 1) <<< ((nI v) &&& 31)))))) := by rw [ef_6]; exact Lk.up hgA (Ne.symm (Lk.neOA hmo hgA))
              have hkA : Lk L f_6 kA (.inl (G.2 4, 60, .inl (fun j => nI (kd j)))) := by rw [ef_6]; exact Lk.up hkA (Ne.symm (Lk.neOA hmo hkA))
              have hfA : Lk L f_6 fA (.inl (G.2 4, 60, .inl ka)) := by rw [ef_6]; exact Lk.up hfA (Ne.symm (Lk.neOA hmo hfA))
              have hsA : Lk L f_6 sA (.inl (G.2 4, 60, .inl kb)) := by rw [ef_6]; exact Lk.up hsA (Ne.symm (Lk.neOA hmo hsA))
              have htA : Lk L f_6 tA (.inl (G.2 4, 60, .inl kc)) := by rw [ef_6]; exact Lk.up htA (Ne.symm (Lk.neOA hmo htA))
              have hbA : Lk L f_6 bA (.inl (G.2 4, 11520, .inl bv)) := by rw [ef_6]; exact Lk.up hbA (Ne.symm (Lk.neOA hmo hbA))
              have hrA : Lk L f_6 rA (.inl (G.2 4, 20, .inl (fun j => nI (rk j)))) := by rw [ef_6]; exact Lk.up hrA (Ne.symm (Lk.neOA hmo hrA))
              have hdA : Lk L f_6 dA (.inl (G.2 1, 20, .inl (fun j => bI (dn j)))) := by rw [ef_6]; exact Lk.up hdA (Ne.symm (Lk.neOA hmo hdA))
              have hcA : Lk L f_6 cA (.inl (G.2 4, 20, .inl (fun j => nI (rc j)))) := by rw [ef_6]; exact Lk.up hcA (Ne.symm (Lk.neOA hmo hcA))
              have heA : Lk L f_6 eA (.inl (G.2 4, 6144, .inl xf)) := by rw [ef_6]; exact Lk.up heA (Ne.symm (Lk.neOA hmo heA))
              have hmo : Lk L f_6 mo (.inr (5, [.int (nI 0), .ref gA, .int (nI cn), .ref kA, .ref fA, .ref sA, .ref tA, .ref bA, .int (nI rn), .ref rA, .ref dA, .ref cA, .ref eA, .int (nI 0)])) := by rw [ef_6]; exact Lk.set hmo
              have hkp : Kp (fun a => moE (f a)) L f (L, f_6) := by rw [ef_6]; exact hkp.up (moE_o hB.2.2.1)
              have hB9 : MoB G L f_6 mo gA kA fA sA tA bA rA dA cA eA cn rn false (va_up gf u ((gf u) ^^^ ((nI 1) <<< ((nI v) &&& 31)))) kd ka kb kc bv rk dn rc xf := ⟨hB.1, hB.2.1, hmo, hgA, hkA, hfA, hsA, htA, hbA, hrA, hdA, hcA, heA, hB.2.2.2.2.2.2.2.2.2.2.2.2.2⟩
              refine lv_iconst (v := nI 1) hx hb d_Mo_member_93 (by decide) ?_
              exact W.iret (v := nI 1) hx hb hr (fun t9 h9t h9W => ⟨⟨_, (L, f_6), rfl, ⟨rfl, hkp, Or.inr ⟨u, v, hu, hv, rfl, rfl, Or.inr ⟨hne, rfl, _, bv, hB9, hG2, BiI_to hM (by omega)⟩⟩⟩, by rw [h9t]; exact hP, hD⟩, hS.F h9t⟩) hS.2.2 d_Mo_member_94
            | succ ko iho =>
              intro i H locs fv bv ls hiko hM hBv hkp hP hD hS hl
              have hmo : Lk L fv mo (.inr (5, [.int (nI 0), .ref gA, .int (nI cn), .ref kA, .ref fA, .ref sA, .ref tA, .ref bA, .int (nI rn), .ref rA, .ref dA, .ref cA, .ref eA, .int (bI kn)])) := hBv.2.2.1
              have hgA : Lk L fv gA (.inl (G.2 4, 8, .inl (va_up gf u ((gf u) ^^^ ((nI 1) <<< ((nI v) &&& 31)))))) := hBv.2.2.2.1
              have hkA : Lk L fv kA (.inl (G.2 4, 60, .inl (fun j => nI (kd j)))) := hBv.2.2.2.2.1
              have hfA : Lk L fv fA (.inl (G.2 4, 60, .inl ka)) := hBv.2.2.2.2.2.1
              have hsA : Lk L fv sA (.inl (G.2 4, 60, .inl kb)) := hBv.2.2.2.2.2.2.1
              have htA : Lk L fv tA (.inl (G.2 4, 60, .inl kc)) := hBv.2.2.2.2.2.2.2.1
              have hbA : Lk L fv bA (.inl (G.2 4, 11520, .inl bv)) := hBv.2.2.2.2.2.2.2.2.1
              have hrA : Lk L fv rA (.inl (G.2 4, 20, .inl (fun j => nI (rk j)))) := hBv.2.2.2.2.2.2.2.2.2.1
              have hdA : Lk L fv dA (.inl (G.2 1, 20, .inl (fun j => bI (dn j)))) := hBv.2.2.2.2.2.2.2.2.2.2.1
              have hcA : Lk L fv cA (.inl (G.2 4, 20, .inl (fun j => nI (rc j)))) := hBv.2.2.2.2.2.2.2.2.2.2.2.1
              have heA : Lk L fv eA (.inl (G.2 4, 6144, .inl xf)) := hBv.2.2.2.2.2.2.2.2.2.2.2.2.1
              refine lv_iload hx hb d_Mo_member_67 (lv_at hl 1 rfl) ?_
              refine lv_aload_n hx hb d_Mo_member_69 rfl (lv_at hl 0 rfl) ?_
              refine va_get (D := G.1) (ci := 5) (v := .int (nI cn)) (C := R_Mo) (T := T_Mo) (N := 14) hx hb hA in_Mo hown hK.1 (pl_o hP hmo) 0 rfl rfl 2 (by decide) (hA _ kw_170) (fun _ h9 => h9) rfl d_Mo_member_70 ?_
              refine lv_icmp_ge (tgt := 88) hx hb d_Mo_member_73 (by decide) (fun c9 => absurd c9 (nI_ge (by omega) (by omega))) (fun _ => ?_)
              refine lv_aload_n hx hb d_Mo_member_76 rfl (lv_at hl 0 rfl) ?_
              refine lv_iload hx hb d_Mo_member_77 (lv_at hl 1 rfl) ?_
              have hFc := am_free hD hS hA0
              refine va_callv (va_runV (As := [.int (nI i)]) (rest := []) ⟨hx, hb, hml, hown, hA⟩ (c_Mo_make l G L fv H.size (pl_nd hD) hBv hG2 i (by omega) (hO i (by omega))) ⟨callB_of 1 hA (gAW kw_224) rfl rfl rfl (hA _ kw_172) (hA _ kw_225) (by decide +kernel) ⟨Nat.le_of_ble_eq_true rfl, Nat.le_of_ble_eq_true rfl⟩, (hA _ kw_226), (hA _ kw_227)⟩ (pz_preV (ci := 5) hP hK hmo rfl) rfl rfl hl.1 rfl (lv_room (Nat.le_of_ble_eq_true rfl)) d_Mo_member_79 ⟨Nat.le_of_ble_eq_true rfl, Nat.le_of_ble_eq_true rfl⟩) hS (fun q _ h => hFc q h) hFc (fun u9 t9 H1 locs ht9 hvm hw hWB hz1 hk1 hS => ?_)
              obtain ⟨L_7, f_7⟩ := u9
              obtain ⟨hP, hD1⟩ := hWB
              rw [ht9] at hP
              have hD := va_Dw hD1 hFc
              clear hD1 hk1 hz1 hFc ht9 hvm
              generalize H1 = H at hP hS ⊢
              dsimp only at hP hD
              obtain ⟨hz1, hk1, bw, hBw, hw1, hw2⟩ := hw
              try dsimp only at hz1 hk1 hBw
              replace hz1 := hz1.symm
              subst hz1
              have hkp : Kp (fun a => moE (f a)) L f (L, f_7) := Kp.mo hkp hk1
              have hmo : Lk L f_7 mo (.inr (5, [.int (nI 0), .ref gA, .int (nI cn), .ref kA, .ref fA, .ref sA, .ref tA, .ref bA, .int (nI rn), .ref rA, .ref dA, .ref cA, .ref eA, .int (bI kn)])) := hBw.2.2.1
              have hgA : Lk L f_7 gA (.inl (G.2 4, 8, .inl (va_up gf u ((gf u) ^^^ ((nI 1) <<< ((nI v) &&& 31)))))) := hBw.2.2.2.1
              have hkA : Lk L f_7 kA (.inl (G.2 4, 60, .inl (fun j => nI (kd j)))) := hBw.2.2.2.2.1
              have hfA : Lk L f_7 fA (.inl (G.2 4, 60, .inl ka)) := hBw.2.2.2.2.2.1
              have hsA : Lk L f_7 sA (.inl (G.2 4, 60, .inl kb)) := hBw.2.2.2.2.2.2.1
              have htA : Lk L f_7 tA (.inl (G.2 4, 60, .inl kc)) := hBw.2.2.2.2.2.2.2.1
              have hbA : Lk L f_7 bA (.inl (G.2 4, 11520, .inl bw)) := hBw.2.2.2.2.2.2.2.2.1
              have hrA : Lk L f_7 rA (.inl (G.2 4, 20, .inl (fun j => nI (rk j)))) := hBw.2.2.2.2.2.2.2.2.2.1
              have hdA : Lk L f_7 dA (.inl (G.2 1, 20, .inl (fun j => bI (dn j)))) := hBw.2.2.2.2.2.2.2.2.2.2.1
              have hcA : Lk L f_7 cA (.inl (G.2 4, 20, .inl (fun j => nI (rc j)))) := hBw.2.2.2.2.2.2.2.2.2.2.2.1
              have heA : Lk L f_7 eA (.inl (G.2 4, 6144, .inl xf)) := hBw.2.2.2.2.2.2.2.2.2.2.2.2.1
              refine lv_iinc (v := nI (i + 1)) (lv' := [(4, .int (nI (i + 1))), (0, .ref mo)]) hx hb d_Mo_member_82 hl (k := 1) rfl (nI_1 i) (by decide) rfl (fun ls hl => ?_)
              refine lv_goto (tgt := 67) hx hb d_Mo_member_85 (by decide) ?_
              exact iho (i + 1) H locs f_7 bw ls (by omega) (BiI_next hO (by omega) hM hw1 hw2) hBw hkp hP hD hS (lv_sub hl [1, 0] rfl)
          exact loopo (cn - 0) 0 H locs f_5 bf ls (by omega) (fun j hj => absurd hj (Nat.not_lt_zero j)) hB2 hkp hP hD hS (lv_sub hl [1, 0] rfl)
