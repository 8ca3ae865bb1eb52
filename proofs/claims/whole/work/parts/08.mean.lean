/-! What the class's answers mean, ask by ask. An ask is a number below 6144: bit q % 64 of word q / 64. -/
/-- a word's bit, ask by ask -/
def aB (g : Nat → Int64) (q : Nat) : Bool := xB (g (q / 64)) (q % 64)
theorem aB_at (g : Nat → Int64) {w b : Nat} (hb : b < 64) : aB g (64 * w + b) = xB (g w) b := by
  unfold aB
  rw [show (64 * w + b) / 64 = w by omega, show (64 * w + b) % 64 = b by omega]
theorem sumP_cnt (g : Nat → Int64) : ∀ k, sumP g k = cnt (aB g) (64 * k)
  | 0 => rfl
  | k + 1 => by
    show sumP g k + pop (g k) = cnt (aB g) (64 * k + 64)
    rw [cnt_add, sumP_cnt g k]
    unfold pop
    rw [cnt_congr (q := fun j => aB g (64 * k + j)) (fun j hj => (aB_at g hj).symm)]
theorem askR_ok (g : Nat → Int64) : ∀ (k w left : Nat), w + k = 96 →
    (∃ q, q < 6144 ∧ aB g q = true ∧ cnt (aB g) q = cnt (aB g) (64 * w) + left ∧ askR g k w left = nI q) ∨ (cnt (aB g) 6144 ≤ cnt (aB g) (64 * w) + left ∧ askR g k w left = -2)
  | 0, w, left, hw => by
    refine Or.inr ⟨?_, rfl⟩
    rw [show w = 96 by omega]
    exact Nat.le_add_right _ _
  | k + 1, w, left, hw => by
    have hs : cnt (aB g) (64 * (w + 1)) = cnt (aB g) (64 * w) + pop (g w) := by
      rw [← sumP_cnt, ← sumP_cnt]
      rfl
    by_cases hl : left < pop (g w)
    · have e : askR g (k + 1) w left = nI (w * 64 + bpos (g w) left) := if_pos hl
      obtain ⟨t, ht, hx, hc, hp⟩ := clr_low hl
      refine Or.inl ⟨64 * w + t, by omega, by rw [aB_at g ht]; exact hx, ?_, ?_⟩
      · rw [cnt_add, cnt_congr (q := xB (g w)) (fun j hj => aB_at g (show j < 64 by omega)), hc]
      · rw [e, show bpos (g w) left = t from hp, Nat.mul_comm]
    · have e : askR g (k + 1) w left = askR g k (w + 1) (left - pop (g w)) := if_neg hl
      rw [e]
      rcases askR_ok g k (w + 1) (left - pop (g w)) (by omega) with ⟨q, h1, h2, h3, h4⟩ | ⟨h1, h2⟩
      · exact Or.inl ⟨q, h1, h2, by rw [h3, hs]; omega, h4⟩
      · refine Or.inr ⟨?_, h2⟩
        rw [hs] at h1
        omega
theorem winR_ok (g h : Nat → Int64) : ∀ (k w : Nat), w + k = 96 → ((∀ q, 64 * w ≤ q → q < 6144 → aB g q = true → aB h q = true) ∧ winR g h k w = nI 1) ∨ ((∃ q, 64 * w ≤ q ∧ q < 6144 ∧ aB g q = true ∧ aB h q = false) ∧ winR g h k w = nI 0)
  | 0, w, hw => Or.inl ⟨fun q h1 h2 => by omega, rfl⟩
  | k + 1, w, hw => by
    by_cases hz : g w &&& (h w ^^^ (-1)) = 0
    · have e : winR g h (k + 1) w = winR g h k (w + 1) := if_pos hz
      rw [e]
      rcases winR_ok g h k (w + 1) (by omega) with ⟨h1, h2⟩ | ⟨⟨q, h1, h2⟩, h3⟩
      · refine Or.inl ⟨fun q hq hq2 hg => ?_, h2⟩
        by_cases hq3 : 64 * (w + 1) ≤ q
        · exact h1 q hq3 hq2 hg
        · obtain ⟨b, rfl⟩ : ∃ b, q = 64 * w + b := ⟨q - 64 * w, by omega⟩
          have hb : b < 64 := by omega
          rw [aB_at _ hb] at hg ⊢
          have := xB_z.mp hz b hb
          rw [xB_and, hg, xB_not _ hb] at this
          cases hh : xB (h w) b with
          | true => rfl
          | false => rw [hh] at this; cases this
      · exact Or.inr ⟨⟨q, by omega, h2⟩, h3⟩
    · have e : winR g h (k + 1) w = nI 0 := if_neg hz
      refine Or.inr ⟨?_, e⟩
      obtain ⟨b, hb, hx⟩ := xB_nz hz
      rw [xB_and, xB_not _ hb] at hx
      refine ⟨64 * w + b, by omega, by omega, ?_, ?_⟩
      · rw [aB_at _ hb]
        cases hg : xB (g w) b with
        | true => rfl
        | false => rw [hg] at hx; cases hx
      · rw [aB_at _ hb]
        cases hh : xB (h w) b with
        | false => rfl
        | true => rw [hh] at hx; simp at hx
/-! ### the rules, place by place -/
theorem alF_ok (ww : Nat → Nat → Int64) (dn : Nat → Bool) (w : Nat) {b : Nat} (hb : b < 64) : ∀ (k q : Nat) (left al : Int64),
    xB (alF ww dn w k q left al) b = (xB al b || (xB left b && (match fst0 (fun j => xB (ww j w) b) k q with | none => false | some j => !dn j)))
  | 0, q, left, al => by
    show xB al b = (xB al b || (xB left b && false))
    rw [Bool.and_false, Bool.or_false]
  | k + 1, q, left, al => by
    by_cases hz : left = 0
    · have e : alF ww dn w (k + 1) q left al = al := if_pos hz
      rw [e, hz, xB_0, Bool.false_and, Bool.or_false]
    · have e : alF ww dn w (k + 1) q left al = alF ww dn w k (q + 1) (left &&& ((left &&& ww q w) ^^^ (-1))) (al ||| (if dn q = true then 0 else left &&& ww q w)) := if_neg hz
      rw [e, alF_ok ww dn w hb k (q + 1), xB_or, xB_and, xB_not _ hb, xB_and]
      have hi : xB (if dn q = true then 0 else left &&& ww q w) b = ((!dn q) && (xB left b && xB (ww q w) b)) := by
        cases dn q with
        | true => exact xB_0 b
        | false => exact xB_and _ _ b
      rw [hi]
      cases hx : xB (ww q w) b with
      | true =>
        have e2 : fst0 (fun j => xB (ww j w) b) (k + 1) q = some q := if_pos hx
        rw [e2]
        show _ = (xB al b || (xB left b && (!dn q)))
        cases xB al b <;> cases xB left b <;> cases dn q <;> rfl
      | false =>
        have e2 : fst0 (fun j => xB (ww j w) b) (k + 1) q = fst0 (fun j => xB (ww j w) b) k (q + 1) := if_neg (fun z => by rw [show (fun j => xB (ww j w) b) q = false from hx] at z; cases z)
        rw [e2]
        cases xB al b <;> cases xB left b <;> cases dn q <;> rfl
theorem deF_ok (ww : Nat → Nat → Int64) (w : Nat) {b : Nat} (hb : b < 64) : ∀ (k q : Nat) (left : Int64),
    xB (deF ww w k q left) b = (xB left b && (fst0 (fun j => xB (ww j w) b) k q).isNone)
  | 0, q, left => by
    show xB left b = (xB left b && true)
    rw [Bool.and_true]
  | k + 1, q, left => by
    by_cases hz : left = 0
    · have e : deF ww w (k + 1) q left = left := if_pos hz
      rw [e, hz, xB_0, Bool.false_and]
    · have e : deF ww w (k + 1) q left = deF ww w k (q + 1) (left &&& (ww q w ^^^ (-1))) := if_neg hz
      rw [e, deF_ok ww w hb k (q + 1), xB_and, xB_not _ hb]
      cases hx : xB (ww q w) b with
      | true =>
        have e2 : fst0 (fun j => xB (ww j w) b) (k + 1) q = some q := if_pos hx
        rw [e2]
        cases xB left b <;> rfl
      | false =>
        have e2 : fst0 (fun j => xB (ww j w) b) (k + 1) q = fst0 (fun j => xB (ww j w) b) k (q + 1) := if_neg (fun z => by rw [show (fun j => xB (ww j w) b) q = false from hx] at z; cases z)
        rw [e2]
        cases xB left b <;> rfl
theorem fst0_n {P : Nat → Bool} : ∀ {k q0 : Nat}, fst0 P k q0 = none → ∀ q, q0 ≤ q → q < q0 + k → P q = false
  | 0, q0, _, q, h1, h2 => by omega
  | k + 1, q0, h, q, h1, h2 => by
    by_cases hp : P q0 = true
    · have e : fst0 P (k + 1) q0 = some q0 := if_pos hp
      rw [e] at h
      cases h
    · have e : fst0 P (k + 1) q0 = fst0 P k (q0 + 1) := if_neg hp
      rw [e] at h
      by_cases hq : q = q0
      · rw [hq]; exact ts_f hp
      · exact fst0_n h q (by omega) (by omega)
theorem fst0_s {P : Nat → Bool} : ∀ {k q0 q : Nat}, fst0 P k q0 = some q → q0 ≤ q ∧ q < q0 + k ∧ P q = true ∧ ∀ j, q0 ≤ j → j < q → P j = false
  | 0, q0, q, h => by cases h
  | k + 1, q0, q, h => by
    by_cases hp : P q0 = true
    · have e : fst0 P (k + 1) q0 = some q0 := if_pos hp
      rw [e] at h
      cases h
      exact ⟨Nat.le_refl _, by omega, hp, fun j h1 h2 => by omega⟩
    · have e : fst0 P (k + 1) q0 = fst0 P k (q0 + 1) := if_neg hp
      rw [e] at h
      obtain ⟨h1, h2, h3, h4⟩ := fst0_s h
      refine ⟨by omega, by omega, h3, fun j h5 h6 => ?_⟩
      by_cases hj : j = q0
      · rw [hj]; exact ts_f hp
      · exact h4 j (by omega) h6
theorem fst0_of {P : Nat → Bool} {k q0 q : Nat} (h1 : q0 ≤ q) (h2 : q < q0 + k) (h3 : P q = true) (h4 : ∀ j, q0 ≤ j → j < q → P j = false) : fst0 P k q0 = some q := by
  cases h : fst0 P k q0 with
  | none => rw [fst0_n h q h1 h2] at h3; cases h3
  | some r =>
    obtain ⟨a1, a2, a3, a4⟩ := fst0_s h
    rcases Nat.lt_trichotomy q r with z | z | z
    · rw [a4 q h1 z] at h3; cases h3
    · rw [z]
    · rw [h4 r a1 z] at a3; cases a3
theorem fst0_no {P : Nat → Bool} {k q0 : Nat} (h : ∀ j, q0 ≤ j → j < q0 + k → P j = false) : fst0 P k q0 = none := by
  cases e : fst0 P k q0 with
  | none => rfl
  | some r =>
    obtain ⟨a1, a2, a3, -⟩ := fst0_s e
    rw [h r a1 a2] at a3
    cases a3
theorem fst0_congr {P Q : Nat → Bool} {k q0 : Nat} (h : ∀ j, q0 ≤ j → j < q0 + k → P j = Q j) : fst0 P k q0 = fst0 Q k q0 := by
  cases e : fst0 Q k q0 with
  | none => exact fst0_no (fun j h1 h2 => by rw [h j h1 h2]; exact fst0_n e j h1 h2)
  | some r =>
    obtain ⟨a1, a2, a3, a4⟩ := fst0_s e
    exact fst0_of a1 a2 (by rw [h r a1 a2]; exact a3) (fun j h1 h2 => by rw [h j h1 (by omega)]; exact a4 j h1 h2)
/-- a single bit -/
theorem xB_one : ∀ b, b < 64 → ∀ j, j < 64 → xB (shl 1 b) j = decide (j = b) := by decide +kernel
theorem hit_ok (ww : Nat → Nat → Int64) (a q : Nat) : hit ww a q = aB (ww q) a := by
  have hb : a % 64 < 64 := Nat.mod_lt _ (by omega)
  unfold hit aB
  cases hx : xB (ww q (a / 64)) (a % 64) with
  | true =>
    apply decide_eq_true
    intro h
    have := xB_z.mp h (a % 64) hb
    rw [xB_and, hx, xB_one _ hb _ hb] at this
    simp at this
  | false =>
    apply decide_eq_false
    intro h
    apply h
    refine xB_z.mpr (fun b h1 => ?_)
    rw [xB_and, xB_one _ hb _ h1]
    by_cases e : b = a % 64
    · rw [e, hx]; rfl
    · rw [decide_eq_false e, Bool.and_false]
/-! A condition's word, ask by ask: what the document says of its kind. -/
def hK (mm : Nat → Bool) (h : Nat → Nat → Bool) (k a b c q : Nat) : Bool :=
  if k = 0 then decide (q / 768 = a)
  else if k = 1 then mm (q / 768 * 8 + a)
  else if k = 2 then decide (q / 192 % 4 = a)
  else if k = 3 then decide (q / 32 % 6 = a)
  else if k = 4 then decide (q / 8 % 4 = a)
  else if k = 5 then decide (a ≤ q % 8 ∧ q % 8 ≤ b)
  else if k = 6 then !h a q
  else if k = 7 then (h a q && h b q)
  else if k = 8 then (h a q || h b q)
  else if k = 9 then true
  else ((h a q && h b q) || (h a q && h c q)) || (h b q && h c q)
theorem xB_vf : ∀ a, a < 8 → ∀ b, b < 8 → ∀ j, j < 64 → xB (vfR a b 8) j = decide (a ≤ j % 8 ∧ j % 8 ≤ b) := by decide +kernel
theorem xB_cls : ∀ a, a < 4 → ∀ j, j < 64 → xB (shl 1095216660735 (a * 8)) j = decide (j / 8 % 4 = a) := by decide +kernel
theorem xB_prd : ∀ e, e < 2 → ∀ j, j < 64 → xB (shl 4294967295 (e * 4 * 8)) j = decide (j / 32 = e) := by decide +kernel
theorem xB_if {P : Prop} [Decidable P] {b : Nat} (hb : b < 64) : xB (if P then -1 else 0) b = decide P := by
  by_cases h : P
  · rw [if_pos h, xB_m1 b hb, decide_eq_true h]
  · rw [if_neg h, xB_0, decide_eq_false h]
theorem wrd_ok {mm : Nat → Bool} {wd : Nat → Nat → Int64} {n k a b c : Nat} {xa xb xc : Int32} (ho : okC n k xa xb xc a b c) {w j : Nat} (hj : j < 64) : xB (wrd mm wd k a b c w) j = hK mm (fun i => aB (wd i)) k a b c (64 * w + j) := by
  obtain ⟨hk, -, -, -, h0, h1, h2, h3, h4, h5, -, -, -⟩ := ho
  have hat : ∀ i, aB (wd i) (64 * w + j) = xB (wd i w) j := fun i => aB_at (wd i) hj
  rcases (show k = 0 ∨ k = 1 ∨ k = 2 ∨ k = 3 ∨ k = 4 ∨ k = 5 ∨ k = 6 ∨ k = 7 ∨ k = 8 ∨ k = 9 ∨ k = 10 by omega) with e | e | e | e | e | e | e | e | e | e | e <;> subst e
  · show xB (if w / 12 = a then -1 else 0) j = decide ((64 * w + j) / 768 = a)
    rw [xB_if hj, show (64 * w + j) / 768 = w / 12 by omega]
  · show xB (if mm (w / 12 * 8 + a) = true then -1 else 0) j = mm ((64 * w + j) / 768 * 8 + a)
    rw [xB_if hj, show (64 * w + j) / 768 = w / 12 by omega]
    cases mm (w / 12 * 8 + a) <;> rfl
  · show xB (if w % 12 / 3 = a then -1 else 0) j = decide ((64 * w + j) / 192 % 4 = a)
    rw [xB_if hj, show (64 * w + j) / 192 % 4 = w % 12 / 3 by omega]
  · have h3 := h3 rfl
    show xB (if w % 3 = a / 2 then shl 4294967295 (a % 2 * 4 * 8) else 0) j = decide ((64 * w + j) / 32 % 6 = a)
    rw [show (64 * w + j) / 32 % 6 = 2 * (w % 3) + j / 32 by omega]
    by_cases h : w % 3 = a / 2
    · rw [if_pos h, xB_prd (a % 2) (by omega) j hj]
      apply decide_eq_decide.mpr
      omega
    · rw [if_neg h, xB_0]
      exact (decide_eq_false (by omega)).symm
  · have h4 := h4 rfl
    show xB (shl 1095216660735 (a * 8)) j = decide ((64 * w + j) / 8 % 4 = a)
    rw [xB_cls a h4 j hj, show (64 * w + j) / 8 % 4 = j / 8 % 4 by omega]
  · have h5 := h5 rfl
    show xB (vfR a b 8) j = decide (a ≤ (64 * w + j) % 8 ∧ (64 * w + j) % 8 ≤ b)
    rw [xB_vf a (by omega) b h5.2 j hj, show (64 * w + j) % 8 = j % 8 by omega]
  · show xB (wd a w ^^^ (-1)) j = !aB (wd a) (64 * w + j)
    rw [xB_not _ hj, hat]
  · show xB (wd a w &&& wd b w) j = (aB (wd a) (64 * w + j) && aB (wd b) (64 * w + j))
    rw [xB_and, hat, hat]
  · show xB (wd a w ||| wd b w) j = (aB (wd a) (64 * w + j) || aB (wd b) (64 * w + j))
    rw [xB_or, hat, hat]
  · exact xB_m1 j hj
  · show xB (two3 (wd a w) (wd b w) (wd c w)) j = (((aB (wd a) (64 * w + j) && aB (wd b) (64 * w + j)) || (aB (wd a) (64 * w + j) && aB (wd c) (64 * w + j))) || (aB (wd b) (64 * w + j) && aB (wd c) (64 * w + j)))
    unfold two3
    rw [xB_or, xB_or, xB_and, xB_and, xB_and, hat, hat, hat]
