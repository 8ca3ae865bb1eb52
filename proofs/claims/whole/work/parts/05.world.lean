/-! The world: every cell at an address of a list L, with what f says of its address. Classes and array classes by one G. -/
/-- numbers of the classes and their slots, and the classes of the arrays: long, boolean, Condition[], Rule[], int -/
abbrev GG : Type := va_G × (Nat → ClassId)
def gTys (G : GG) : List (ClassId × FieldType) := [(G.2 0, .long), (G.2 1, .boolean), (G.2 2, .object "RightDesk$Condition"), (G.2 3, .object "RightDesk$Rule"), (G.2 4, .int)]
theorem gAW {c : Cond} (h : c ∈ AW) : GoodIn AW (c :: AW) := fun w hw => by
  have hw' : w ∈ AW := by
    rcases List.mem_cons.mp hw with e | h2
    · rw [e]; exact h
    · exact h2
  exact ⟨hw', good_of_word (List.mem_filter.mp hw').2⟩
theorem gLaw {c : Cond} (h : c ∈ AW) : GoodIn lw_tbl (c :: AW) := fun w hw => by
  have hw' : w ∈ AW := by
    rcases List.mem_cons.mp hw with e | h2
    · rw [e]; exact h
    · exact h2
  exact ⟨(List.mem_filter.mp hw').1, good_of_word (List.mem_filter.mp hw').2⟩
def isNest : Cond → Bool
  | .fieldLinkNest _ _ _ _ _ _ => true
  | .methodLinkNest _ _ _ _ => true
  | _ => false
theorem nest_warm {w : Cond} (h : isNest w = true) {s U : State} (hW : s.WarmedH U.vm) (hZ : va_Nw w s) : va_Nw w U := by
  cases w with
  | fieldLinkNest a i b n d k => exact va_Nw.warmF hW hZ
  | methodLinkNest a i x k => exact va_Nw.warmM hW hZ
  | _ => exact absurd h (by simp [isNest])
theorem nest_tab {w : Cond} (h : isNest w = true) : w.onTables = true := by
  cases w with
  | fieldLinkNest a i b n d k => rfl
  | methodLinkNest a i x k => rfl
  | _ => exact absurd h (by simp [isNest])
theorem gNest_all : ∀ w ∈ gNest, isNest w = true := by decide +kernel
def KK (G : GG) (U : State) : Prop := va_K G.1 vwCl (gTys G) U ∧ (∀ w ∈ gNest, va_Nw w U) ∧ va_AO "RightDesk$Condition" U ∧ va_AO "RightDesk$Rule" U
theorem KK.warm {G : GG} {s U : State} (hW : s.WarmedH U.vm) (h : KK G s) : KK G U :=
  ⟨va_K.moved hW.alike h.1, fun w hw => nest_warm (gNest_all w hw) hW (h.2.1 w hw), va_AO.moved hW.alike h.2.2.1, va_AO.moved hW.alike h.2.2.2⟩
theorem KK.call {G : GG} {U : State} {g : JFrame} {mk : MethodId} {a : Array Value} (h : KK G U) : KK G (U.calling g mk a) :=
  ⟨va_K.moved (u := U) (U := U.calling g mk a) (Vm.Alike.refl U.vm) h.1, fun w hw => va_Nw.same (nest_tab (gNest_all w hw)) (u := U) (U := U.calling g mk a) rfl (h.2.1 w hw), va_AO.moved (u := U) (U := U.calling g mk a) (Vm.Alike.refl U.vm) h.2.2.1, va_AO.moved (u := U) (U := U.calling g mk a) (Vm.Alike.refl U.vm) h.2.2.2⟩
/-- a contract's world -/
def PW (G : GG) (L : List Nat) (f : Nat → va_E) (U : State) : Prop := va_P G.1 vwCl (va_pl L f) U.heap ∧ KK G U
/-- what lies at an address -/
def Lk (L : List Nat) (f : Nat → va_E) (a : Nat) (e : va_E) : Prop := a ∈ L ∧ f a = e
theorem pl_o {D : va_G} {cl : List vw_C} {L : List Nat} {f : Nat → va_E} {H : Heap} {a : Nat} {e : va_E} (hP : va_P D cl (va_pl L f) H) (h : Lk L f a e) : va_P D cl [(a, e)] H := by
  obtain ⟨k, hk⟩ := va_pl_get (X := []) (f := f) h.1
  have hk : (va_pl L f)[k]? = some (a, f a) := hk
  rw [h.2] at hk
  intro j q hq
  match j, hq with
  | 0, hq => cases hq; exact hP k _ hk
  | j + 1, hq => simp at hq
theorem pw_preS {G : GG} {L : List Nat} {f : Nat → va_E} {H : Heap} {s : State} {As : List Value} (hP : va_P G.1 vwCl (va_pl L f) H) (hK : KK G s) : PreS s H (va_Pc As (PW G L f)) As :=
  ⟨fun a U g mk q => ⟨q.1, q.2.1, KK.call q.2.2⟩, fun U hU hW => ⟨rfl, by rw [hU]; exact hP, KK.warm hW hK⟩⟩
theorem pw_preV {G : GG} {L : List Nat} {f : Nat → va_E} {H : Heap} {s : State} {b ci : Nat} {C : String} {T : u_T} {N : Nat} {fs As : List Value} (hP : va_P G.1 vwCl (va_pl L f) H) (hK : KK G s) (h : Lk L f b (.inr (ci, fs))) (hc : vwCl[ci]? = some (C, T, N)) : PreV s H C b (va_Pc (.ref b :: As) (PW G L f)) As :=
  ⟨fun a U g mk q => ⟨q.1, q.2.1, KK.call q.2.2⟩, va_recv hK.1 (pl_o hP h) hc (q0 := 0) rfl, fun U hU hW => ⟨rfl, by rw [hU]; exact hP, KK.warm hW hK⟩⟩
/-- rooms by depth -/
def RM (d : Nat) : Room := { frames := d, cells := 0, slots := 0, locals := 32 * d }
section XV
variable {p : Program} {l : Launch} {e : Env} {R : Room} {s : State} {m : MethodId} {args : Array Value} {below : List Frame} {meth : Method} {c : Code} {H : Heap} {locs : List Loc} {cells slots : Nat} {Q : State → Prop}
variable {cc : ByteArray} {pc : Nat} {ls : Array Slot} {rest : List Value} {D : va_G} {cl : List vw_C} {a : Nat} {tys : List (ClassId × FieldType)} {ws : va_W}
theorem xv_I {x y : Int32} (h : x = y) (k : W p l e R s m args below meth c H locs cells slots Q (F0 m pc ls (.int y :: rest))) : W p l e R s m args below meth c H locs cells slots Q (F0 m pc ls (.int x :: rest)) := by rw [h]; exact k
theorem xv_J {x y : Int64} (h : x = y) (k : W p l e R s m args below meth c H locs cells slots Q (F0 m pc ls (.long y :: rest))) : W p l e R s m args below meth c H locs cells slots Q (F0 m pc ls (.long x :: rest)) := by rw [h]; exact k
theorem xv_Q {x y : Option Nat} (h : x = y) (k : W p l e R s m args below meth c H locs cells slots Q (F0 m pc ls (va_rf y :: rest))) : W p l e R s m args below meth c H locs cells slots Q (F0 m pc ls (va_rf x :: rest)) := by rw [h]; exact k
theorem xv_R {x : Option Nat} {a : Nat} (h : x = some a) (k : W p l e R s m args below meth c H locs cells slots Q (F0 m pc ls (.ref a :: rest))) : W p l e R s m args below meth c H locs cells slots Q (F0 m pc ls (va_rf x :: rest)) := by rw [h]; exact k
theorem xv_N {x : Option Nat} (h : x = none) (k : W p l e R s m args below meth c H locs cells slots Q (F0 m pc ls (.null :: rest))) : W p l e R s m args below meth c H locs cells slots Q (F0 m pc ls (va_rf x :: rest)) := by rw [h]; exact k
theorem xl_lald (hexec : p.tables.exec = Jvm.exec) (hb : c.code = cc) (hK : va_K D cl tys s) (hP : va_P D cl ws H) (q0 t0 : Nat) {cA : ClassId} {n : Nat} {f : Nat → Int64} (ha : ws[q0]? = some (a, .inl (cA, n, .inr (.inl f)))) (ht : tys[t0]? = some (cA, .long)) {i : Nat} (hi : i < n) (hn : n < 2 ^ 31) (hdg : decode cc pc = .ok (.laload, 1))
    (kk : W p l e R s m args below meth c H locs cells slots Q (F0 m (pc + 1) ls (.long (f i) :: rest))) : W p l e R s m args below meth c H locs cells slots Q (F0 m pc ls (.int (nI i) :: .ref a :: rest)) := by
  refine va_lald hexec hb hK hP q0 t0 ha ht (vp_in_nI hi hn) hdg ?_
  rw [nI_clamp (by omega)]
  exact kk
theorem xl_iald (hexec : p.tables.exec = Jvm.exec) (hb : c.code = cc) (hK : va_K D cl tys s) (hP : va_P D cl ws H) (q0 t0 : Nat) {cA : ClassId} {n : Nat} {f : Nat → Int32} (ha : ws[q0]? = some (a, .inl (cA, n, .inl f))) (ht : tys[t0]? = some (cA, .int)) {i : Nat} (hi : i < n) (hn : n < 2 ^ 31) (hdg : decode cc pc = .ok (.iaload, 1))
    (kk : W p l e R s m args below meth c H locs cells slots Q (F0 m (pc + 1) ls (.int (f i) :: rest))) : W p l e R s m args below meth c H locs cells slots Q (F0 m pc ls (.int (nI i) :: .ref a :: rest)) := by
  refine va_iald hexec hb hK hP q0 t0 ha ht (vp_in_nI hi hn) hdg ?_
  rw [nI_clamp (by omega)]
  exact kk
theorem xl_zald (hexec : p.tables.exec = Jvm.exec) (hb : c.code = cc) (hK : va_K D cl tys s) (hP : va_P D cl ws H) (q0 t0 : Nat) {cA : ClassId} {n : Nat} {f : Nat → Int32} (ha : ws[q0]? = some (a, .inl (cA, n, .inl f))) (ht : tys[t0]? = some (cA, .boolean)) {i : Nat} (hi : i < n) (hn : n < 2 ^ 31) (hdg : decode cc pc = .ok (.baload, 1))
    (kk : W p l e R s m args below meth c H locs cells slots Q (F0 m (pc + 1) ls (.int (f i) :: rest))) : W p l e R s m args below meth c H locs cells slots Q (F0 m pc ls (.int (nI i) :: .ref a :: rest)) := by
  refine va_zald hexec hb hK hP q0 t0 ha ht (vp_in_nI hi hn) hdg ?_
  rw [nI_clamp (by omega)]
  exact kk
theorem xl_aldq (hexec : p.tables.exec = Jvm.exec) (hb : c.code = cc) (hK : va_K D cl tys s) (hP : va_P D cl ws H) (q0 t0 : Nat) {cA : ClassId} {C : String} {n : Nat} {f : Nat → Option Nat} (ha : ws[q0]? = some (a, .inl (cA, n, .inr (.inr (.inr (.inr f)))))) (ht : tys[t0]? = some (cA, .object C)) {i : Nat} (hi : i < n) (hn : n < 2 ^ 31) (hdg : decode cc pc = .ok (.aaload, 1))
    (kk : W p l e R s m args below meth c H locs cells slots Q (F0 m (pc + 1) ls (va_rf (f i) :: rest))) : W p l e R s m args below meth c H locs cells slots Q (F0 m pc ls (.int (nI i) :: .ref a :: rest)) := by
  refine va_aldq hexec hb hK hP q0 t0 ha ht (vp_in_nI hi hn) hdg ?_
  rw [nI_clamp (by omega)]
  exact kk
end XV
/-! truth values, below -/
def bI (b : Bool) : Int32 := if b = true then nI 1 else nI 0
theorem bI_t : bI true = nI 1 := rfl
theorem bI_f : bI false = nI 0 := rfl
theorem bI_0 {b : Bool} : bI b = 0 ↔ b = false := by cases b <;> decide
theorem bI_nar (b : Bool) : narrow .boolean (.int (bI b)) = .int (bI b) := by cases b <;> rfl
theorem bI_inj {a b : Bool} (h : bI a = bI b) : a = b := by cases a <;> cases b <;> first | rfl | exact absurd h (by decide)
def blw (x y : Int32) : Bool := decide (¬ x < 0 ∧ x < y)
theorem blw_t {x y : Int32} (h0 : ¬ x < 0) (h : x < y) : blw x y = true := decide_eq_true ⟨h0, h⟩
theorem blw_f0 {x y : Int32} (h : x < 0) : blw x y = false := decide_eq_false (fun q => q.1 h)
theorem blw_f1 {x y : Int32} (h : ¬ x < y) : blw x y = false := decide_eq_false (fun q => h q.2)
theorem blw_of {x : Int32} {n : Nat} (hn : n < 2 ^ 31) (h : blw x (nI n) = true) : ∃ j, j < n ∧ x = nI j := by
  obtain ⟨h0, h1⟩ := of_decide_eq_true h
  obtain ⟨j, hj, e⟩ := nI_of h0
  rw [e] at h1
  exact ⟨j, (nI_ltI hj hn).mp h1, e⟩
theorem blw_nI {i n : Nat} (hn : n < 2 ^ 31) (hi : i < 2 ^ 31) : blw (nI i) (nI n) = decide (i < n) := by
  by_cases h : i < n
  · rw [blw_t (nI_pos hi) (nI_lt h hn), decide_eq_true h]
  · rw [blw_f1 (nI_nlt (by omega) hi), decide_eq_false h]
/-! Writes: what lies where, behind a store; new cells; calls that write. -/
theorem Lk.ne {L : List Nat} {f : Nat → va_E} {a b : Nat} {e1 e2 : va_E} (h1 : Lk L f a e1) (h2 : Lk L f b e2) (h : e1 ≠ e2) : a ≠ b := fun q => h (by rw [← h1.2, ← h2.2, q])
theorem Lk.neOA {L : List Nat} {f : Nat → va_E} {a b : Nat} {x : Nat × List Value} {y : ClassId × vp_A} (h1 : Lk L f a (.inr x)) (h2 : Lk L f b (.inl y)) : a ≠ b := h1.ne h2 (fun q => by cases q)
theorem Lk.neOO {L : List Nat} {f : Nat → va_E} {a b i j : Nat} {x y : List Value} (h1 : Lk L f a (.inr (i, x))) (h2 : Lk L f b (.inr (j, y))) (h : i ≠ j) : a ≠ b := h1.ne h2 (fun q => h (congrArg Prod.fst (Sum.inr.inj q)))
theorem Lk.neAA {L : List Nat} {f : Nat → va_E} {a b n1 n2 : Nat} {c1 c2 : ClassId} {x y : (Nat → Int32) ⊕ (Nat → Int64) ⊕ (Nat → UInt32) ⊕ (Nat → UInt64) ⊕ (Nat → Option Nat)} (h1 : Lk L f a (.inl (c1, n1, x))) (h2 : Lk L f b (.inl (c2, n2, y))) (h : n1 ≠ n2) : a ≠ b := h1.ne h2 (fun q => h (congrArg (fun z : ClassId × vp_A => z.2.1) (Sum.inl.inj q)))
theorem Lk.up {L : List Nat} {f : Nat → va_E} {a b : Nat} {e e' : va_E} (h : Lk L f a e) (hn : a ≠ b) : Lk L (va_up f b e') a e := ⟨h.1, by rw [va_up_ne f e' hn]; exact h.2⟩
theorem Lk.set {L : List Nat} {f : Nat → va_E} {b : Nat} {e e' : va_E} (h : Lk L f b e) : Lk L (va_up f b e') b e' := ⟨h.1, va_up_self f b e'⟩
theorem Lk.push {L : List Nat} {f : Nat → va_E} {a q : Nat} {e e' : va_E} (h : Lk L f a e) (hq : q ∉ L) : Lk (L ++ [q]) (va_up f q e') a e := ⟨List.mem_append_left _ h.1, by
  have hn : a ≠ q := fun z => hq (z ▸ h.1)
  rw [va_up_ne f e' hn]
  exact h.2⟩
theorem Lk.new {L : List Nat} {f : Nat → va_E} {q : Nat} {e : va_E} : Lk (L ++ [q]) (va_up f q e) q e := ⟨List.mem_append_right _ List.mem_cons_self, va_up_self f q e⟩
theorem nd_idx {L : List Nat} (hN : L.Nodup) {i j b : Nat} (hi : L[i]? = some b) (hj : L[j]? = some b) : i = j := by
  have hl := (List.getElem?_eq_some_iff.mp hi).1
  exact (List.getElem?_inj hl hN).mp (hi.trans hj.symm)
theorem pl_D {L : List Nat} {f : Nat → va_E} {A : Nat → Prop} (hN : L.Nodup) (hA : ∀ a ∈ L, A a) : va_D A (va_pl L f) := by
  refine ⟨fun i j x y hx hy e => ?_, fun k q hk => ?_⟩
  · simp only [va_pl, List.getElem?_map] at hx hy
    cases hi : L[i]? with
    | none => rw [hi] at hx; cases hx
    | some b =>
      cases hj : L[j]? with
      | none => rw [hj] at hy; cases hy
      | some d =>
        rw [hi] at hx
        rw [hj] at hy
        cases hx
        cases hy
        have e : b = d := e
        subst e
        exact nd_idx hN hi hj
  · simp only [va_pl, List.getElem?_map] at hk
    cases hi : L[k]? with
    | none => rw [hi] at hk; cases hk
    | some b =>
      rw [hi] at hk
      cases hk
      exact hA b (List.mem_of_getElem? hi)
theorem pl_nd {L : List Nat} {f : Nat → va_E} {A : Nat → Prop} (h : va_D A (va_pl L f)) : L.Nodup := by
  rw [List.nodup_iff_pairwise_ne, List.pairwise_iff_getElem]
  intro i j hi hj hij e
  have a1 : (va_pl L f)[i]? = some (L[i], f L[i]) := by simp [va_pl, List.getElem?_map, List.getElem?_eq_getElem hi]
  have a2 : (va_pl L f)[j]? = some (L[j], f L[j]) := by simp [va_pl, List.getElem?_map, List.getElem?_eq_getElem hj]
  have := h.1 i j _ _ a1 a2 e
  omega
theorem pl_at {L : List Nat} {f : Nat → va_E} {a : Nat} {e : va_E} (h : Lk L f a e) : ∃ k : Nat, (va_pl L f)[k]? = some (a, e) := by
  obtain ⟨k, hk⟩ := va_pl_get (X := []) (f := f) h.1
  exact ⟨k, by rw [← h.2]; exact hk⟩
theorem pl_set {A : Nat → Prop} {L : List Nat} {f : Nat → va_E} {a k : Nat} {e0 e : va_E} (hD : va_D A (va_pl L f)) (h : Lk L f a e0) (hk : (va_pl L f)[k]? = some (a, e0)) : (va_pl L f).set k (a, e) = va_pl L (va_up f a e) :=
  va_pl_set (X := []) hD h.1 (by rw [h.2]; exact hk)
section XW
variable {p : Program} {l : Launch} {e : Env} {R : Room} {s : State} {m : MethodId} {args : Array Value} {below : List Frame} {meth : Method} {c : Code} {H : Heap} {locs : List Loc} {cells slots : Nat} {Q : State → Prop}
variable {cc : ByteArray} {pc : Nat} {ls : Array Slot} {rest : List Value} {D : va_G} {cl : List vw_C} {A : Nat → Prop} {a : Nat} {tys : List (ClassId × FieldType)} {H0 : Heap} {L : List Nat} {f : Nat → va_E}
theorem xw_put (hexec : p.tables.exec = Jvm.exec) (hb : c.code = cc) {own ref C : String} {T : u_T} {N ci index : Nat} {Ts : List Cond} (hts : ∀ w ∈ Ts, w.before args s = true) (hin : ∀ w ∈ u_ws C T N, w ∈ Ts) (ty0 : Nat → FieldType) (hty : ∀ k, k < N → parseFieldDescriptor (T k).2.2.1 = some (ty0 k)) (hnm : ∀ a, a < N → ∀ b, b < N → a ≠ b → (T a).2.1 ≠ (T b).2.1) (hown : s.vm.findClass own = some m.cls) (hK : va_K D cl tys s) (hP : va_P D cl (va_pl L f) H) (hD : va_D A (va_pl L f)) (hS0 : va_S A H0 H locs) {fs : List Value} (h : Lk L f a (.inr (ci, fs))) (hc : cl[ci]? = some (C, T, N)) (k : Nat) (hk : k < N) (hlink : (Cond.fieldLink own index ref (T k).2.1 (T k).2.2.1).before args s = true) (hsame : ∀ x, s.fieldFound? (T k).1 (T k).2.1 (T k).2.2.1 = some x → s.fieldFound? ref (T k).2.1 (T k).2.2.1 = some x) (hfin : (T k).2.2.2 = false) {ty : FieldType} {v : Value} (hd : parseFieldDescriptor (T k).2.2.1 = some ty) (hn : narrow ty v = v) (hfit : fits ty v = true) (hl : k < fs.length)
    (hdg : decode cc pc = .ok (.putfield index, 3)) {fs' : List Value} (hfs : fs.set k v = fs') (kk : ∀ (H1 : Heap) (locs1 : List Loc), va_P D cl (va_pl L (va_up f a (.inr (ci, fs')))) H1 → va_D A (va_pl L (va_up f a (.inr (ci, fs')))) → va_S A H0 H1 locs1 → W p l e R s m args below meth c H1 locs1 cells slots Q (F0 m (pc + 3) ls rest)) : W p l e R s m args below meth c H locs cells slots Q (F0 m pc ls (v :: .ref a :: rest)) := by
  subst hfs
  obtain ⟨i, hi⟩ := pl_at h
  refine va_put hexec hb hts hin ty0 hty hnm hown hK hP hD hS0 i hi hc k hk hlink hsame hfin hd hn hfit hl hdg (fun H1 locs1 h1 h2 h3 => ?_)
  rw [pl_set hD h hi] at h1 h2
  exact kk H1 locs1 h1 h2 h3
theorem xw_putN (hexec : p.tables.exec = Jvm.exec) (hb : c.code = cc) {own ref C host : String} {T : u_T} {N ci index : Nat} {Ts : List Cond} (hts : ∀ w ∈ Ts, w.before args s = true) (hin : ∀ w ∈ u_ws C T N, w ∈ Ts) (ty0 : Nat → FieldType) (hty : ∀ k, k < N → parseFieldDescriptor (T k).2.2.1 = some (ty0 k)) (hnm : ∀ a, a < N → ∀ b, b < N → a ≠ b → (T a).2.1 ≠ (T b).2.1) (hown : s.vm.findClass own = some m.cls) (hK : va_K D cl tys s) (hP : va_P D cl (va_pl L f) H) (hD : va_D A (va_pl L f)) (hS0 : va_S A H0 H locs) {fs : List Value} (h : Lk L f a (.inr (ci, fs))) (hc : cl[ci]? = some (C, T, N)) (k : Nat) (hk : k < N) (hlink : (Cond.fieldLinkNest own index ref (T k).2.1 (T k).2.2.1 host).before args s = true) (hsame : ∀ x, s.fieldFound? (T k).1 (T k).2.1 (T k).2.2.1 = some x → s.fieldFound? ref (T k).2.1 (T k).2.2.1 = some x) (hfin : (T k).2.2.2 = false) {ty : FieldType} {v : Value} (hd : parseFieldDescriptor (T k).2.2.1 = some ty) (hn : narrow ty v = v) (hfit : fits ty v = true) (hl : k < fs.length)
    (hdg : decode cc pc = .ok (.putfield index, 3)) {fs' : List Value} (hfs : fs.set k v = fs') (kk : ∀ (H1 : Heap) (locs1 : List Loc), va_P D cl (va_pl L (va_up f a (.inr (ci, fs')))) H1 → va_D A (va_pl L (va_up f a (.inr (ci, fs')))) → va_S A H0 H1 locs1 → W p l e R s m args below meth c H1 locs1 cells slots Q (F0 m (pc + 3) ls rest)) : W p l e R s m args below meth c H locs cells slots Q (F0 m pc ls (v :: .ref a :: rest)) := by
  subst hfs
  obtain ⟨i, hi⟩ := pl_at h
  refine va_putN hexec hb hts hin ty0 hty hnm hown hK hP hD hS0 i hi hc k hk hlink hsame hfin hd hn hfit hl hdg (fun H1 locs1 h1 h2 h3 => ?_)
  rw [pl_set hD h hi] at h1 h2
  exact kk H1 locs1 h1 h2 h3
theorem xw_putF (hexec : p.tables.exec = Jvm.exec) (hb : c.code = cc) {own ref C : String} {T : u_T} {N ci index : Nat} {Ts : List Cond} (hts : ∀ w ∈ Ts, w.before args s = true) (hin : ∀ w ∈ u_ws C T N, w ∈ Ts) (ty0 : Nat → FieldType) (hty : ∀ k, k < N → parseFieldDescriptor (T k).2.2.1 = some (ty0 k)) (hnm : ∀ a, a < N → ∀ b, b < N → a ≠ b → (T a).2.1 ≠ (T b).2.1) (hown : s.vm.findClass own = some m.cls) (hK : va_K D cl tys s) (hP : va_P D cl (va_pl L f) H) (hD : va_D A (va_pl L f)) (hS0 : va_S A H0 H locs) {fs : List Value} (h : Lk L f a (.inr (ci, fs))) (hc : cl[ci]? = some (C, T, N)) (k : Nat) (hk : k < N) (hlink : (Cond.fieldLink own index ref (T k).2.1 (T k).2.2.1).before args s = true) (hsame : ∀ x, s.fieldFound? (T k).1 (T k).2.1 (T k).2.2.1 = some x → s.fieldFound? ref (T k).2.1 (T k).2.2.1 = some x) (hfin : (T k).2.2.2 = true) (hin2 : meth.name = "<init>") (hdecl : (T k).1 = own) {ty : FieldType} {v : Value} (hd : parseFieldDescriptor (T k).2.2.1 = some ty) (hn : narrow ty v = v) (hfit : fits ty v = true) (hl : k < fs.length)
    (hdg : decode cc pc = .ok (.putfield index, 3)) {fs' : List Value} (hfs : fs.set k v = fs') (kk : ∀ (H1 : Heap) (locs1 : List Loc), va_P D cl (va_pl L (va_up f a (.inr (ci, fs')))) H1 → va_D A (va_pl L (va_up f a (.inr (ci, fs')))) → va_S A H0 H1 locs1 → W p l e R s m args below meth c H1 locs1 cells slots Q (F0 m (pc + 3) ls rest)) : W p l e R s m args below meth c H locs cells slots Q (F0 m pc ls (v :: .ref a :: rest)) := by
  subst hfs
  obtain ⟨i, hi⟩ := pl_at h
  refine va_putF hexec hb hts hin ty0 hty hnm hown hK hP hD hS0 i hi hc k hk hlink hsame hfin hin2 hdecl hd hn hfit hl hdg (fun H1 locs1 h1 h2 h3 => ?_)
  rw [pl_set hD h hi] at h1 h2
  exact kk H1 locs1 h1 h2 h3
theorem xw_last (hexec : p.tables.exec = Jvm.exec) (hb : c.code = cc) (hK : va_K D cl tys s) (hP : va_P D cl (va_pl L f) H) (hD : va_D A (va_pl L f)) (hS : va_S A H0 H locs) (t0 : Nat) {cA : ClassId} {n : Nat} {g : Nat → Int64} (h : Lk L f a (.inl (cA, n, .inr (.inl g)))) (ht : tys[t0]? = some (cA, .long)) {i : Nat} {x : Int64} (hi : i < n) (hn : n < 2 ^ 31) (hdg : decode cc pc = .ok (.lastore, 1))
    (kk : ∀ (H1 : Heap) (locs1 : List Loc), va_P D cl (va_pl L (va_up f a (.inl (cA, n, .inr (.inl (vp_updL g i x)))))) H1 → va_D A (va_pl L (va_up f a (.inl (cA, n, .inr (.inl (vp_updL g i x)))))) → va_S A H0 H1 locs1 → W p l e R s m args below meth c H1 locs1 cells slots Q (F0 m (pc + 1) ls rest)) : W p l e R s m args below meth c H locs cells slots Q (F0 m pc ls (.long x :: .int (nI i) :: .ref a :: rest)) := by
  obtain ⟨j, hj⟩ := pl_at h
  refine va_last hexec hb hK hP hD hS j t0 hj ht (vp_in_nI hi hn) hdg (fun H1 locs1 h1 h2 h3 => ?_)
  rw [nI_clamp (by omega)] at h1 h2
  rw [pl_set hD h hj] at h1 h2
  exact kk H1 locs1 h1 h2 h3
theorem xw_zast (hexec : p.tables.exec = Jvm.exec) (hb : c.code = cc) (hK : va_K D cl tys s) (hP : va_P D cl (va_pl L f) H) (hD : va_D A (va_pl L f)) (hS : va_S A H0 H locs) (t0 : Nat) {cA : ClassId} {n : Nat} {g : Nat → Int32} (h : Lk L f a (.inl (cA, n, .inl g))) (ht : tys[t0]? = some (cA, .boolean)) {i : Nat} {x : Int32} (hi : i < n) (hn : n < 2 ^ 31) (hx : vp_nar .boolean x = x) (hdg : decode cc pc = .ok (.bastore, 1))
    (kk : ∀ (H1 : Heap) (locs1 : List Loc), va_P D cl (va_pl L (va_up f a (.inl (cA, n, .inl (upd g i x))))) H1 → va_D A (va_pl L (va_up f a (.inl (cA, n, .inl (upd g i x))))) → va_S A H0 H1 locs1 → W p l e R s m args below meth c H1 locs1 cells slots Q (F0 m (pc + 1) ls rest)) : W p l e R s m args below meth c H locs cells slots Q (F0 m pc ls (.int x :: .int (nI i) :: .ref a :: rest)) := by
  obtain ⟨j, hj⟩ := pl_at h
  refine va_zast hexec hb hK hP hD hS j t0 hj ht (vp_in_nI hi hn) hdg (fun H1 locs1 h1 h2 h3 => ?_)
  rw [nI_clamp (by omega), hx] at h1 h2
  rw [pl_set hD h hj] at h1 h2
  exact kk H1 locs1 h1 h2 h3
theorem xw_iast (hexec : p.tables.exec = Jvm.exec) (hb : c.code = cc) (hK : va_K D cl tys s) (hP : va_P D cl (va_pl L f) H) (hD : va_D A (va_pl L f)) (hS : va_S A H0 H locs) (t0 : Nat) {cA : ClassId} {n : Nat} {g : Nat → Int32} (h : Lk L f a (.inl (cA, n, .inl g))) (ht : tys[t0]? = some (cA, .int)) {i : Nat} {x : Int32} (hi : i < n) (hn : n < 2 ^ 31) (hdg : decode cc pc = .ok (.iastore, 1))
    (kk : ∀ (H1 : Heap) (locs1 : List Loc), va_P D cl (va_pl L (va_up f a (.inl (cA, n, .inl (upd g i x))))) H1 → va_D A (va_pl L (va_up f a (.inl (cA, n, .inl (upd g i x))))) → va_S A H0 H1 locs1 → W p l e R s m args below meth c H1 locs1 cells slots Q (F0 m (pc + 1) ls rest)) : W p l e R s m args below meth c H locs cells slots Q (F0 m pc ls (.int x :: .int (nI i) :: .ref a :: rest)) := by
  obtain ⟨j, hj⟩ := pl_at h
  refine va_iast hexec hb hK hP hD hS j t0 hj ht (vp_in_nI hi hn) hdg (fun H1 locs1 h1 h2 h3 => ?_)
  rw [nI_clamp (by omega)] at h1 h2
  rw [pl_set hD h hj] at h1 h2
  exact kk H1 locs1 h1 h2 h3
theorem xw_astq (hexec : p.tables.exec = Jvm.exec) (hb : c.code = cc) (hK : va_K D cl tys s) (hP : va_P D cl (va_pl L f) H) (hD : va_D A (va_pl L f)) (hS : va_S A H0 H locs) (t0 ci : Nat) {cA : ClassId} {r : vw_C} {n v : Nat} {vs : List Value} {g : Nat → Option Nat} (h : Lk L f a (.inl (cA, n, .inr (.inr (.inr (.inr g)))))) (ht : tys[t0]? = some (cA, .object r.1)) (hv : Lk L f v (.inr (ci, vs))) (hc : cl[ci]? = some r) {i : Nat} (hi : i < n) (hn : n < 2 ^ 31) (hdg : decode cc pc = .ok (.aastore, 1))
    (kk : ∀ (H1 : Heap) (locs1 : List Loc), va_P D cl (va_pl L (va_up f a (.inl (cA, n, .inr (.inr (.inr (.inr (va_up g i (some v))))))))) H1 → va_D A (va_pl L (va_up f a (.inl (cA, n, .inr (.inr (.inr (.inr (va_up g i (some v))))))))) → va_S A H0 H1 locs1 → W p l e R s m args below meth c H1 locs1 cells slots Q (F0 m (pc + 1) ls rest)) : W p l e R s m args below meth c H locs cells slots Q (F0 m pc ls (.ref v :: .int (nI i) :: .ref a :: rest)) := by
  obtain ⟨j, hj⟩ := pl_at h
  obtain ⟨jv, hjv⟩ := pl_at hv
  refine va_astq hexec hb hK hP hD hS j t0 jv ci hj ht hjv hc (vp_in_nI hi hn) hdg (fun H1 locs1 h1 h2 h3 => ?_)
  rw [nI_clamp (by omega)] at h1 h2
  rw [pl_set hD h hj] at h1 h2
  exact kk H1 locs1 h1 h2 h3
theorem xw_astqN (hexec : p.tables.exec = Jvm.exec) (hb : c.code = cc) (hK : va_K D cl tys s) (hP : va_P D cl (va_pl L f) H) (hD : va_D A (va_pl L f)) (hS : va_S A H0 H locs) (t0 : Nat) {cA : ClassId} {C : String} {n : Nat} {g : Nat → Option Nat} (h : Lk L f a (.inl (cA, n, .inr (.inr (.inr (.inr g)))))) (ht : tys[t0]? = some (cA, .object C)) {i : Nat} (hi : i < n) (hn : n < 2 ^ 31) (hdg : decode cc pc = .ok (.aastore, 1))
    (kk : ∀ (H1 : Heap) (locs1 : List Loc), va_P D cl (va_pl L (va_up f a (.inl (cA, n, .inr (.inr (.inr (.inr (va_up g i none)))))))) H1 → va_D A (va_pl L (va_up f a (.inl (cA, n, .inr (.inr (.inr (.inr (va_up g i none)))))))) → va_S A H0 H1 locs1 → W p l e R s m args below meth c H1 locs1 cells slots Q (F0 m (pc + 1) ls rest)) : W p l e R s m args below meth c H locs cells slots Q (F0 m pc ls (.null :: .int (nI i) :: .ref a :: rest)) := by
  obtain ⟨j, hj⟩ := pl_at h
  refine va_astqN hexec hb hK hP hD hS j t0 hj ht (vp_in_nI hi hn) hdg (fun H1 locs1 h1 h2 h3 => ?_)
  rw [nI_clamp (by omega)] at h1 h2
  rw [pl_set hD h hj] at h1 h2
  exact kk H1 locs1 h1 h2 h3
theorem pl_push {q : Nat} {e0 : va_E} (hD : va_D A (va_pl L f ++ [(q, e0)])) : q ∉ L ∧ va_pl L f ++ [(q, e0)] = va_pl (L ++ [q]) (va_up f q e0) := by
  have h := va_pl_fresh2 (X := []) hD
  exact ⟨h, va_pl_push h⟩
theorem xw_new (hexec : p.tables.exec = Jvm.exec) (hb : c.code = cc) {own C : String} {T : u_T} {N ci index : Nat} {Ts : List Cond} (hts : ∀ w ∈ Ts, w.before args s = true) (hin : ∀ w ∈ u_ws C T N, w ∈ Ts) (ty : Nat → FieldType) (hty : ∀ k, k < N → parseFieldDescriptor (T k).2.2.1 = some (ty k)) (hown : s.vm.findClass own = some m.cls) (hcl : (Cond.classLink own index C).before args s = true) (hinst : (Cond.instantiable C N).before args s = true) (hini : (Cond.initialized C).before args s = true)
    (hK : va_K D cl tys s) (hP : va_P D cl (va_pl L f) H) (hD : va_D A (va_pl L f)) (hS : va_S A H0 H locs) (hA : ∀ q, H0.size ≤ q → A q) (hc : cl[ci]? = some (C, T, N)) {fs : List Value} (hfs : ∀ j, j < N → defaultValue (ty j) = vp_V fs j) (hcells : cells + 1 ≤ R.cells) (hslots : slots + N ≤ R.slots) (hdg : decode cc pc = .ok (.new index, 3))
    (kk : ∀ (q : Nat) (H1 : Heap), q ∉ L → va_P D cl (va_pl (L ++ [q]) (va_up f q (.inr (ci, fs)))) H1 → va_D A (va_pl (L ++ [q]) (va_up f q (.inr (ci, fs)))) → va_S A H0 H1 locs →
      W p l e R s m args below meth c H1 locs (cells + 1) (slots + N) Q (F0 m (pc + 3) ls (.ref q :: rest))) : W p l e R s m args below meth c H locs cells slots Q (F0 m pc ls rest) := by
  refine va_new hexec hb hts hin ty hty hown hcl hinst hini hK hP hD hS hA hc hfs hcells hslots hdg (fun q H1 h1 h2 h3 => ?_)
  obtain ⟨hq, he⟩ := pl_push h2
  rw [he] at h1 h2
  exact kk q H1 hq h1 h2 h3
end XW
/-! New arrays; the start and the end of a method that writes. -/
theorem va_RA_fun {U : State} {cA cB : ClassId} {ty : FieldType} (h1 : va_RA U cA ty) (h2 : va_RA U cB ty) : cA = cB := by
  cases ty with
  | object C =>
    obtain ⟨_, _, _, _, _, a⟩ := h1
    obtain ⟨_, _, _, _, _, b⟩ := h2
    exact Option.some.inj (a.symm.trans b)
  | _ => exact Option.some.inj (Eq.trans (Eq.symm h1) h2)
section XN
variable {p : Program} {l : Launch} {e : Env} {R : Room} {s : State} {m : MethodId} {args : Array Value} {below : List Frame} {meth : Method} {c : Code} {H : Heap} {locs : List Loc} {cells slots : Nat} {Q : State → Prop}
variable {cc : ByteArray} {pc : Nat} {ls : Array Slot} {rest : List Value} {D : va_G} {cl : List vw_C} {A : Nat → Prop} {tys : List (ClassId × FieldType)} {H0 : Heap} {L : List Nat} {f : Nat → va_E}
theorem xw_newa (hexec : p.tables.exec = Jvm.exec) (hb : c.code = cc) {atype : ArrayType} (harr : (Cond.arrayClass (newarray.typeOf atype)).before args s = true) {ty : FieldType} (hty : newarray.typeOf atype = ty) (hK : va_K D cl tys s) (hP : va_P D cl (va_pl L f) H) (hD : va_D A (va_pl L f)) (hS : va_S A H0 H locs) (hA : ∀ q, H0.size ≤ q → A q)
    (t0 : Nat) {cA0 : ClassId} (ht : tys[t0]? = some (cA0, ty)) {n : Int32} {N' : Nat} {a0 : vp_A} (ha : ∀ cA : ClassId, vp_cell cA a0 = arrV cA N' (fun _ => defaultValue ty)) (hn : ¬ n < 0) (hN : n.toNatClampNeg = N') (hbytes : N' * componentBytes ty ≤ 536870912) (hcells : cells + 1 ≤ R.cells) (hslots : slots + N' ≤ R.slots) (hdg : decode cc pc = .ok (.newarray atype, 2))
    (kk : ∀ (q : Nat) (H1 : Heap), q ∉ L → va_P D cl (va_pl (L ++ [q]) (va_up f q (.inl (cA0, a0)))) H1 → va_D A (va_pl (L ++ [q]) (va_up f q (.inl (cA0, a0)))) → va_S A H0 H1 locs →
      W p l e R s m args below meth c H1 locs (cells + 1) (slots + N') Q (F0 m (pc + 2) ls (.ref q :: rest))) : W p l e R s m args below meth c H locs cells slots Q (F0 m pc ls (.int n :: rest)) := by
  refine va_newa hexec hb harr hty hK hP hD hS hA ha hn hN hbytes hcells hslots hdg (fun q cA H1 hK1 h1 h2 h3 => ?_)
  have e1 : cA = cA0 := va_RA_fun (hK1.2 tys.length (cA, ty) (by simp)).2 (hK.2 t0 _ ht).2
  subst e1
  obtain ⟨hq, he⟩ := pl_push h2
  rw [he] at h1 h2
  exact kk q H1 hq h1 h2 h3
theorem xw_newq (hexec : p.tables.exec = Jvm.exec) (hb : c.code = cc) {own C : String} {index : Nat} (hown : s.vm.findClass own = some m.cls) (hclink : (Cond.classLink own index C).before args s = true) (hover : va_AO C s) (hK : va_K D cl tys s) (hP : va_P D cl (va_pl L f) H) (hD : va_D A (va_pl L f)) (hS : va_S A H0 H locs) (hA : ∀ q, H0.size ≤ q → A q)
    (t0 : Nat) {cA0 : ClassId} (ht : tys[t0]? = some (cA0, .object C)) {n : Int32} {N' : Nat} (hn : ¬ n < 0) (hN : n.toNatClampNeg = N') (hbytes : N' * 4 ≤ 536870912) (hcells : cells + 1 ≤ R.cells) (hslots : slots + N' ≤ R.slots) (hdg : decode cc pc = .ok (.anewarray index, 3))
    (kk : ∀ (q : Nat) (H1 : Heap), q ∉ L → va_P D cl (va_pl (L ++ [q]) (va_up f q (.inl (cA0, N', .inr (.inr (.inr (.inr (fun _ => none)))))))) H1 → va_D A (va_pl (L ++ [q]) (va_up f q (.inl (cA0, N', .inr (.inr (.inr (.inr (fun _ => none)))))))) → va_S A H0 H1 locs →
      W p l e R s m args below meth c H1 locs (cells + 1) (slots + N') Q (F0 m (pc + 3) ls (.ref q :: rest))) : W p l e R s m args below meth c H locs cells slots Q (F0 m pc ls (.int n :: rest)) := by
  refine va_newq hexec hb hown hclink hover hK hP hD hS hA hn hN hbytes hcells hslots hdg (fun q cA H1 hK1 h1 h2 h3 => ?_)
  have e1 : cA = cA0 := va_RA_fun (hK1.2 tys.length (cA, .object C) (by simp)).2 (hK.2 t0 _ ht).2
  subst e1
  obtain ⟨hq, he⟩ := pl_push h2
  rw [he] at h1 h2
  exact kk q H1 hq h1 h2 h3
end XN
/-- what a method that writes may change -/
def Am (L : List Nat) (sz : Nat) : Nat → Prop := fun q => q ∈ L ∨ sz ≤ q
def PZ (G : GG) (L : List Nat) (f : Nat → va_E) (sz : Nat) (U : State) : Prop := U.heap.size = sz ∧ va_P G.1 vwCl (va_pl L f) U.heap ∧ KK G U
abbrev WU : Type := List Nat × (Nat → va_E)
def BZ (G : GG) (A : Nat → Prop) (u : WU) (t : State) : Prop := va_P G.1 vwCl (va_pl u.1 u.2) t.heap ∧ va_D A (va_pl u.1 u.2)
def RW (d mc ms : Nat) : Room := { frames := d, cells := mc, slots := ms, locals := 32 * d }
theorem am_free {A : Nat → Prop} {L : List Nat} {f : Nat → va_E} {H0 H : Heap} {locs : List Loc} (hD : va_D A (va_pl L f)) (hS : va_S A H0 H locs) (hA : ∀ q, H0.size ≤ q → A q) : ∀ q, Am L H.size q → A q := fun q h => by
  rcases h with h | h
  · obtain ⟨k, hk⟩ := va_pl_get (X := []) (f := f) h
    exact hD.2 k _ hk
  · exact hA q (Nat.le_trans hS.1 h)
theorem pz_preS {G : GG} {L : List Nat} {f : Nat → va_E} {H : Heap} {s : State} {As : List Value} (hP : va_P G.1 vwCl (va_pl L f) H) (hK : KK G s) : PreS s H (va_Pc As (PZ G L f H.size)) As :=
  ⟨fun a U g mk q => ⟨q.1, q.2.1, q.2.2.1, KK.call q.2.2.2⟩, fun U hU hW => ⟨rfl, by rw [hU], by rw [hU]; exact hP, KK.warm hW hK⟩⟩
theorem pz_preV {G : GG} {L : List Nat} {f : Nat → va_E} {H : Heap} {s : State} {b ci : Nat} {C : String} {T : u_T} {N : Nat} {fs As : List Value} (hP : va_P G.1 vwCl (va_pl L f) H) (hK : KK G s) (h : Lk L f b (.inr (ci, fs))) (hc : vwCl[ci]? = some (C, T, N)) : PreV s H C b (va_Pc (.ref b :: As) (PZ G L f H.size)) As :=
  ⟨fun a U g mk q => ⟨q.1, q.2.1, q.2.2.1, KK.call q.2.2.2⟩, va_recv hK.1 (pl_o hP h) hc (q0 := 0) rfl, fun U hU hW => ⟨rfl, by rw [hU], by rw [hU]; exact hP, KK.warm hW hK⟩⟩
theorem va_Dw {A B : Nat → Prop} {ws : va_W} (h : va_D A ws) (hAB : ∀ q, A q → B q) : va_D B ws := h.weaken (fun _ q _ hq => hAB q.1 hq)
/-- what lay there lies there still, but for the addresses in S -/
def Kp (S : Nat → Prop) (L : List Nat) (f : Nat → va_E) (u : WU) : Prop := ∀ a e, Lk L f a e → ¬ S a → Lk u.1 u.2 a e
theorem Kp.rf {S : Nat → Prop} {L : List Nat} {f : Nat → va_E} : Kp S L f (L, f) := fun _ _ h _ => h
theorem Kp.up {S : Nat → Prop} {L0 L : List Nat} {f0 f : Nat → va_E} {a : Nat} {e : va_E} (h : Kp S L0 f0 (L, f)) (ha : S a) : Kp S L0 f0 (L, va_up f a e) := fun b e2 hb hs => (h b e2 hb hs).up (fun q => hs (q ▸ ha))
theorem Kp.upF {S : Nat → Prop} {L0 L : List Nat} {f0 f : Nat → va_E} {a : Nat} {e : va_E} (h : Kp S L0 f0 (L, f)) (ha : a ∉ L0) : Kp S L0 f0 (L, va_up f a e) := fun b e2 hb hs => (h b e2 hb hs).up (fun q => ha (q ▸ hb.1))
theorem Kp.push {S : Nat → Prop} {L0 L : List Nat} {f0 f : Nat → va_E} {q : Nat} {e : va_E} (h : Kp S L0 f0 (L, f)) (hq : q ∉ L) : Kp S L0 f0 (L ++ [q], va_up f q e) := fun b e2 hb hs => (h b e2 hb hs).push hq
theorem Kp.call {S S2 : Nat → Prop} {L0 L : List Nat} {f0 f : Nat → va_E} {u : WU} (h : Kp S L0 f0 (L, f)) (h2 : Kp S2 L f u) (hs : ∀ a, a ∈ L0 → S2 a → S a) : Kp S L0 f0 u := fun b e2 hb hn => h2 b e2 (h b e2 hb hn) (fun q => hn (hs b hb.1 q))
/-- a fact kept over a step -/
theorem Kp.k {S : Nat → Prop} {L : List Nat} {f : Nat → va_E} {L' : List Nat} {f' : Nat → va_E} {a : Nat} {e : va_E} (h : Kp S L f (L', f')) (ha : Lk L f a e) (hs : ¬ S a) : Lk L' f' a e := h a e ha hs
theorem bI_fit (b : Bool) : fits .boolean (.int (bI b)) = true := by cases b <;> rfl
theorem bI_vp (b : Bool) : vp_nar .boolean (bI b) = bI b := by cases b <;> rfl
