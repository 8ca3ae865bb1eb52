/-! ### idle -/
/-- the rank that ask q wants -/
def need (P : Nat → Bool) (rkp : Nat → Nat) (dnp : Nat → Bool) (b : Bool) (n : Nat) : Nat := match fst0 P n 0 with
  | none => 10
  | some p => rkB (rkp p) (dnp p) b
theorem need_none {P : Nat → Bool} {rkp : Nat → Nat} {dnp : Nat → Bool} {b : Bool} {n : Nat} (h : fst0 P n 0 = none) : need P rkp dnp b n = 10 := by unfold need; rw [h]
theorem need_some {P : Nat → Bool} {rkp : Nat → Nat} {dnp : Nat → Bool} {b : Bool} {n p : Nat} (h : fst0 P n 0 = some p) : need P rkp dnp b n = rkB (rkp p) (dnp p) b := by unfold need; rw [h]
/-- one word's rank: the most that one of its asks wants -/
theorem idF_ok {vw : Nat → Nat → Int64} {rkp : Nat → Nat} {dnp : Nat → Bool} {b : Bool} {w n : Nat} (hmono : ∀ i j, i ≤ j → j < n → rkB (rkp i) (dnp i) b ≤ rkB (rkp j) (dnp j) b) (h10 : ∀ j, j < n → rkB (rkp j) (dnp j) b ≤ 10) (o : Int64) :
    ∀ k q (left : Int64) (r : Nat), q + k = n → (∀ t, t < 64 → xB left t = (xB o t && (fst0 (fun j => xB (vw j w) t) q 0).isNone)) →
      (r = 0 ∨ ∃ t, t < 64 ∧ xB o t = true ∧ ∃ p, fst0 (fun j => xB (vw j w) t) q 0 = some p ∧ rkB (rkp p) (dnp p) b = r) ∨ (¬ left = 0 ∧ 0 < q ∧ r = rkB (rkp (q - 1)) (dnp (q - 1)) b) →
      (∀ t, t < 64 → xB o t = true → ∀ p, fst0 (fun j => xB (vw j w) t) q 0 = some p → rkB (rkp p) (dnp p) b ≤ r) →
      (∀ t, t < 64 → xB o t = true → need (fun j => xB (vw j w) t) rkp dnp b n ≤ idF vw rkp dnp b w k q left r) ∧ (idF vw rkp dnp b w k q left r = 0 ∨ ∃ t, t < 64 ∧ xB o t = true ∧ need (fun j => xB (vw j w) t) rkp dnp b n = idF vw rkp dnp b w k q left r)
  | 0, q, left, r, hq, hl, hr, hle => by
    obtain rfl : q = n := by omega
    by_cases hz : left = 0
    · have e : idF vw rkp dnp b w 0 q left r = r := if_pos hz
      rw [e]
      have hall : ∀ t, t < 64 → xB o t = true → ∃ p, fst0 (fun j => xB (vw j w) t) q 0 = some p := by
        intro t ht ho
        have := hl t ht
        rw [hz, xB_0, ho, Bool.true_and] at this
        rcases ocase (fst0 (fun j => xB (vw j w) t) q 0) with e | ⟨p, e⟩
        · rw [e] at this; cases this
        · exact ⟨p, e⟩
      refine ⟨fun t ht ho => ?_, ?_⟩
      · obtain ⟨p, hp⟩ := hall t ht ho
        rw [need_some hp]
        exact hle t ht ho p hp
      · rcases hr with (h | ⟨t, ht, ho, p, hp, e⟩) | ⟨h, _, _⟩
        · exact Or.inl h
        · exact Or.inr ⟨t, ht, ho, by rw [need_some hp, e]⟩
        · exact absurd hz h
    · have e : idF vw rkp dnp b w 0 q left r = 10 := if_neg hz
      rw [e]
      refine ⟨fun t ht ho => ?_, ?_⟩
      · rcases ocase (fst0 (fun j => xB (vw j w) t) q 0) with e | ⟨p, e⟩
        · rw [need_none e]; exact Nat.le_refl _
        · rw [need_some e]
          exact h10 p (by have := (fst0_s e).2.1; omega)
      · obtain ⟨t, ht, hx⟩ := xB_nz hz
        rw [hl t ht, Bool.and_eq_true] at hx
        refine Or.inr ⟨t, ht, hx.1, need_none ?_⟩
        rcases ocase (fst0 (fun j => xB (vw j w) t) q 0) with e | ⟨p, e⟩
        · exact e
        · rw [e] at hx; exact absurd hx.2 (by simp)
  | k + 1, q, left, r, hq, hl, hr, hle => by
    by_cases hz : left = 0
    · have e : idF vw rkp dnp b w (k + 1) q left r = r := if_pos hz
      rw [e]
      have hall : ∀ t, t < 64 → xB o t = true → ∃ p, fst0 (fun j => xB (vw j w) t) q 0 = some p := by
        intro t ht ho
        have := hl t ht
        rw [hz, xB_0, ho, Bool.true_and] at this
        rcases ocase (fst0 (fun j => xB (vw j w) t) q 0) with e | ⟨p, e⟩
        · rw [e] at this; cases this
        · exact ⟨p, e⟩
      have hup : ∀ t p, fst0 (fun j => xB (vw j w) t) q 0 = some p → fst0 (fun j => xB (vw j w) t) n 0 = some p := by
        intro t p hp
        obtain ⟨a1, a2, a3, a4⟩ := fst0_s hp
        exact fst0_of a1 (by omega) a3 a4
      refine ⟨fun t ht ho => ?_, ?_⟩
      · obtain ⟨p, hp⟩ := hall t ht ho
        rw [need_some (hup t p hp)]
        exact hle t ht ho p hp
      · rcases hr with (h | ⟨t, ht, ho, p, hp, e⟩) | ⟨h, _, _⟩
        · exact Or.inl h
        · exact Or.inr ⟨t, ht, ho, by rw [need_some (hup t p hp), e]⟩
        · exact absurd hz h
    · have e : idF vw rkp dnp b w (k + 1) q left r = idF vw rkp dnp b w k (q + 1) (left &&& (vw q w ^^^ (-1))) (rkB (rkp q) (dnp q) b) := if_neg hz
      rw [e]
      have hstep : ∀ t, (fst0 (fun j => xB (vw j w) t) (q + 1) 0) = (match fst0 (fun j => xB (vw j w) t) q 0 with | some p => some p | none => if xB (vw q w) t = true then some q else none) := by
        intro t
        rcases ocase (fst0 (fun j => xB (vw j w) t) q 0) with e | ⟨p, e⟩
        · rw [e]
          by_cases hx : xB (vw q w) t = true
          · show _ = if xB (vw q w) t = true then some q else none
            rw [if_pos hx]
            exact fst0_of (by omega) (by omega) hx (fun j h1 h2 => fst0_n e j h1 (by omega))
          · show _ = if xB (vw q w) t = true then some q else none
            rw [if_neg hx]
            refine fst0_no (fun j h1 h2 => ?_)
            by_cases z : j = q
            · rw [z]; exact ts_f hx
            · exact fst0_n e j h1 (by omega)
        · rw [e]
          obtain ⟨a1, a2, a3, a4⟩ := fst0_s e
          exact fst0_of a1 (by omega) a3 a4
      refine idF_ok hmono h10 o k (q + 1) _ _ (by omega) (fun t ht => ?_) ?_ (fun t ht ho p hp => ?_)
      · rw [xB_and, xB_not _ ht, hl t ht, hstep t]
        rcases ocase (fst0 (fun j => xB (vw j w) t) q 0) with e | ⟨p, e⟩
        · rw [e]
          cases xB (vw q w) t <;> cases xB o t <;> rfl
        · rw [e]
          cases xB (vw q w) t <;> cases xB o t <;> rfl
      · by_cases hz2 : left &&& (vw q w ^^^ (-1)) = 0
        · left
          right
          obtain ⟨t, ht, hx⟩ := xB_nz hz
          have hx0 := hx
          rw [hl t ht, Bool.and_eq_true] at hx
          refine ⟨t, ht, hx.1, q, ?_, rfl⟩
          have h0 := xB_z.mp hz2 t ht
          rw [xB_and, xB_not _ ht, hx0, Bool.true_and] at h0
          have hq1 : xB (vw q w) t = true := by
            cases hh : xB (vw q w) t with
            | true => rfl
            | false => rw [hh] at h0; cases h0
          rw [hstep t]
          rcases ocase (fst0 (fun j => xB (vw j w) t) q 0) with e | ⟨p, e⟩
          · rw [e]
            show (if xB (vw q w) t = true then some q else none) = some q
            rw [if_pos hq1]
          · rw [e] at hx; exact absurd hx.2 (by simp)
        · right
          exact ⟨hz2, by omega, by rw [Nat.add_sub_cancel]⟩
      · have := (fst0_s hp).2.1
        exact hmono p q (by omega) (by omega)
theorem maxR_ge {g : Nat → Nat} : ∀ n j, j < n → g j ≤ maxR g n
  | 0, j, h => absurd h (Nat.not_lt_zero j)
  | n + 1, j, h => by
    show g j ≤ max (maxR g n) (g n)
    by_cases e : j = n
    · rw [e]; exact Nat.le_max_right _ _
    · exact Nat.le_trans (maxR_ge n j (by omega)) (Nat.le_max_left _ _)
theorem maxR_in {g : Nat → Nat} : ∀ n, maxR g n = 0 ∨ ∃ j, j < n ∧ g j = maxR g n
  | 0 => Or.inl rfl
  | n + 1 => by
    show max (maxR g n) (g n) = 0 ∨ ∃ j, j < n + 1 ∧ g j = max (maxR g n) (g n)
    rcases Nat.le_total (maxR g n) (g n) with h | h
    · rw [Nat.max_eq_right h]
      exact Or.inr ⟨n, by omega, rfl⟩
    · rw [Nat.max_eq_left h]
      rcases maxR_in (g := g) n with z | ⟨j, z1, z2⟩
      · exact Or.inl z
      · exact Or.inr ⟨j, by omega, z2⟩
theorem mId_ok {H : Nat → Bool} {nd : Nat → Nat} {W : Nat → Nat → Bool} (hnd : ∀ q, q < 6144 → nd q ≤ 10) (hW : ∀ r, r < 10 → ∀ q, q < 6144 → W r q = (H q && decide (r < nd q))) : ∀ k r, r + k = 10 → (r = 0 ∨ ∃ q, q < 6144 ∧ H q = true ∧ r ≤ nd q) → (∀ q, q < 6144 → H q = true → nd q ≤ mId W k r) ∧ (mId W k r = 0 ∨ ∃ q, q < 6144 ∧ H q = true ∧ mId W k r ≤ nd q)
  | 0, r, h, hr => ⟨fun q hq _ => hnd q hq, by
    rcases hr with z | z
    · omega
    · right
      obtain ⟨q, a, b, c⟩ := z
      exact ⟨q, a, b, by show 10 ≤ nd q; omega⟩⟩
  | k + 1, r, h, hr => by
    rcases ocase (fst0 (W r) 6144 0) with e | ⟨q, e⟩
    · have e2 : mId W (k + 1) r = r := if_pos (by rw [e]; rfl)
      rw [e2]
      refine ⟨fun q hq hH => ?_, hr⟩
      have := fst0_n e q (by omega) (by omega)
      rw [hW r (by omega) q hq, hH, Bool.true_and] at this
      have := of_decide_eq_false this
      omega
    · have e2 : mId W (k + 1) r = mId W k (r + 1) := if_neg (by rw [e]; exact Bool.false_ne_true)
      rw [e2]
      obtain ⟨_, h2, h3, _⟩ := fst0_s e
      rw [hW r (by omega) q (by omega), Bool.and_eq_true, decide_eq_true_iff] at h3
      exact mId_ok hnd hW k (r + 1) (by omega) (Or.inr ⟨q, by omega, h3.1, h3.2⟩)
theorem klt_rkB {rk : Nat → Nat} {dn : Nat → Bool} {i j : Nat} {b : Bool} (h : klt rk dn i j) : rkB (rk i) (dn i) b ≤ rkB (rk j) (dn j) b := by
  unfold klt at h
  unfold rkB
  rcases h with h | ⟨h1, ⟨h2, h3⟩ | ⟨h2, _⟩⟩
  · split <;> split <;> omega
  · rw [h2, h3, h1]
    cases b <;> simp
  · rw [h1, h2]
    exact Nat.le_refl _
section TIE2
variable {rn : Nat} {vw : Nat → Nat → Int64} {nu rkp : Nat → Nat} {dnp : Nat → Bool} {rcp : Nat → Nat} {bf : Nat → Int32} {rk : Nat → Nat} {dn : Nat → Bool} {rc : Nat → Nat}
theorem tie_idle (T : Tie rn vw nu rkp dnp rcp bf rk dn rc) {cn : Nat} {wd : Nat → Nat → Int64} (hn : cn ≤ 60) (h : ∀ i, i < cn → ∀ q, q < 6144 → aB (wd i) q = mB bf i q) (b : Bool) (x : Int32) :
    onR (fun t => nI (maxR (fun j => idF vw rkp dnp b j rn 0 (wd t j) 0) 96)) (inN cn x) = onR (fun t => nI (mId (fun r q => mB bf t q && wouldB (frF (rQ bf rc q) rk rn) (alw dn (pkQ bf rk dn rc rn q)) b r) 10 0)) (inN cn x) := by
  refine tie_in (by omega) (fun t ht => congrArg nI ?_)
  have hrk : ∀ p, p < rn → rkp p < 10 := fun p hp => by
    have a := T.1.1 p hp
    rw [a.2.1]
    exact T.2.2.2 _ a.1
  have hmono : ∀ i j, i ≤ j → j < rn → rkB (rkp i) (dnp i) b ≤ rkB (rkp j) (dnp j) b := by
    intro i j hij hj
    by_cases e : i = j
    · rw [e]; exact Nat.le_refl _
    · have k := klt_rkB (b := b) (T.1.2.2 i j (by omega) hj)
      rw [(T.1.1 i (by omega)).2.1, (T.1.1 i (by omega)).2.2.1, (T.1.1 j hj).2.1, (T.1.1 j hj).2.2.1]
      exact k
  have h10 : ∀ j, j < rn → rkB (rkp j) (dnp j) b ≤ 10 := by
    intro j hj
    have := hrk j hj
    unfold rkB
    split <;> omega
  -- what each ask wants
  obtain ⟨nd, hndd⟩ : ∃ nd : Nat → Nat, nd = fun q => need (fun j => aB (vw j) q) rkp dnp b rn := ⟨_, rfl⟩
  have hnd10 : ∀ q, q < 6144 → nd q ≤ 10 := by
    intro q hq
    rw [hndd]
    show need (fun j => aB (vw j) q) rkp dnp b rn ≤ 10
    rcases ocase (fst0 (fun j => aB (vw j) q) rn 0) with e | ⟨p, e⟩
    · rw [need_none e]; exact Nat.le_refl _
    · rw [need_some e]
      exact h10 p (by have := (fst0_s e).2.1; omega)
  -- the class
  have hcl : (∀ q, q < 6144 → mB bf t q = true → nd q ≤ maxR (fun j => idF vw rkp dnp b j rn 0 (wd t j) 0) 96) ∧ (maxR (fun j => idF vw rkp dnp b j rn 0 (wd t j) 0) 96 = 0 ∨ ∃ q, q < 6144 ∧ mB bf t q = true ∧ nd q = maxR (fun j => idF vw rkp dnp b j rn 0 (wd t j) 0) 96) := by
    have hw : ∀ w, w < 96 → (∀ s, s < 64 → xB (wd t w) s = true → need (fun j => xB (vw j w) s) rkp dnp b rn ≤ idF vw rkp dnp b w rn 0 (wd t w) 0) ∧ (idF vw rkp dnp b w rn 0 (wd t w) 0 = 0 ∨ ∃ s, s < 64 ∧ xB (wd t w) s = true ∧ need (fun j => xB (vw j w) s) rkp dnp b rn = idF vw rkp dnp b w rn 0 (wd t w) 0) := by
      intro w _
      refine idF_ok hmono h10 (wd t w) rn 0 (wd t w) 0 (by omega) (fun s _ => ?_) (Or.inl (Or.inl rfl)) (fun s _ _ p hp => ?_)
      · show _ = (xB (wd t w) s && true)
        rw [Bool.and_true]
      · cases hp
    have hneed : ∀ w s, s < 64 → need (fun j => xB (vw j w) s) rkp dnp b rn = nd (64 * w + s) := by
      intro w s hs
      rw [hndd]
      show need (fun j => xB (vw j w) s) rkp dnp b rn = need (fun j => aB (vw j) (64 * w + s)) rkp dnp b rn
      rw [show (fun j => xB (vw j w) s) = (fun j => aB (vw j) (64 * w + s)) from funext (fun j => (aB_at (vw j) hs).symm)]
    refine ⟨fun q hq hh => ?_, ?_⟩
    · have a := (hw (q / 64) (by omega)).1 (q % 64) (Nat.mod_lt _ (by omega)) (by rw [← h t ht q hq] at hh; exact hh)
      rw [hneed _ _ (Nat.mod_lt _ (by omega)), show 64 * (q / 64) + q % 64 = q by omega] at a
      exact Nat.le_trans a (maxR_ge (g := fun j => idF vw rkp dnp b j rn 0 (wd t j) 0) 96 (q / 64) (by omega))
    · rcases maxR_in (g := fun j => idF vw rkp dnp b j rn 0 (wd t j) 0) 96 with z | ⟨w, z1, z2⟩
      · exact Or.inl z
      · rcases (hw w z1).2 with y | ⟨s, y1, y2, y3⟩
        · left
          rw [← z2]
          exact y
        · right
          refine ⟨64 * w + s, by omega, ?_, ?_⟩
          · rw [← h t ht _ (by omega), aB_at _ y1]; exact y2
          · rw [← hneed w s y1, y3]
            exact z2
  -- the model
  have hmo := mId_ok (H := mB bf t) (nd := nd) (W := fun r q => mB bf t q && wouldB (frF (rQ bf rc q) rk rn) (alw dn (pkQ bf rk dn rc rn q)) b r) hnd10 (fun r hr q hq => by
    show (mB bf t q && wouldB _ _ b r) = _
    congr 1
    obtain ⟨f1, f2⟩ := frF_spec (rQ bf rc q) rk rn T.2.2.2
    rw [hndd]
    show wouldB (frF (rQ bf rc q) rk rn) (alw dn (pkQ bf rk dn rc rn q)) b r = decide (r < need (fun j => aB (vw j) q) rkp dnp b rn)
    rcases ocase (fst0 (fun j => aB (vw j) q) rn 0) with e | ⟨p, e⟩
    · have hpk : pkQ bf rk dn rc rn q = none := by rw [tie_pk T hq, e]; rfl
      rw [need_none e, hpk]
      have hfr : frF (rQ bf rc q) rk rn = 10 := by
        rcases f2 with ⟨z, _⟩ | ⟨j, z1, z2, z3⟩
        · exact z
        · rcases pick_spec (rQ bf rc q) rk dn rn with ⟨_, g⟩ | ⟨m, g, _⟩
          · rw [g j z1] at z2; cases z2
          · have g : pkQ bf rk dn rc rn q = some m := g
            rw [hpk] at g; cases g
      unfold wouldB
      rw [hfr, decide_eq_true hr]
      rfl
    · have hp : p < rn := by have := (fst0_s e).2.1; omega
      have hpk : pkQ bf rk dn rc rn q = some (nu p) := by rw [tie_pk T hq, e]; rfl
      have a := T.1.1 p hp
      obtain ⟨g1, g2, g3⟩ := pick_some (show pick (rQ bf rc q) rk dn rn = some (nu p) from hpk)
      have hfr : frF (rQ bf rc q) rk rn = rkp p := by
        have l1 := f1 (nu p) g1 g2
        rw [a.2.1]
        rcases f2 with ⟨_, z⟩ | ⟨j, z1, z2, z3⟩
        · rw [z (nu p) g1] at g2; cases g2
        · by_cases ej : j = nu p
          · rw [← ej, z3]
          · have k := g3 j z1 z2 ej
            unfold klt at k
            rcases k with k | ⟨k, _⟩ <;> omega
      rw [need_some e, hpk, hfr]
      unfold wouldB rkB
      show (decide (r < rkp p) || (decide (r = rkp p) && (b && !dn (nu p)))) = _
      rw [← a.2.2.1]
      by_cases hc : (b && !dnp p) = true
      · rw [if_pos hc, hc, Bool.and_true, ← Bool.decide_or]
        apply decide_eq_decide.mpr
        omega
      · rw [if_neg hc, ts_f hc, Bool.and_false, Bool.or_false]) 10 0 rfl (Or.inl rfl)
  obtain ⟨c1, c2⟩ := hcl
  obtain ⟨m1, m2⟩ := hmo
  apply Nat.le_antisymm
  · rcases c2 with z | ⟨q, z1, z2, z3⟩
    · omega
    · rw [← z3]
      exact m1 q z1 z2
  · rcases m2 with z | ⟨q, z1, z2, z3⟩
    · omega
    · exact Nat.le_trans z3 (c1 q z1 z2)
end TIE2
/-! ### a rule comes, a rule goes -/
theorem klt_up {rk : Nat → Nat} {dn : Nat → Bool} {i j n u : Nat} {b : Bool} (hi : i < n) (hj : j < n) (h : klt rk dn i j) : klt (va_up rk n u) (va_up dn n b) i j := by
  unfold klt at h ⊢
  rw [va_up_ne _ _ (show i ≠ n by omega), va_up_ne _ _ (show j ≠ n by omega), va_up_ne _ _ (show i ≠ n by omega), va_up_ne _ _ (show j ≠ n by omega)]
  exact h
theorem Row_ins {n : Nat} {nu rkp : Nat → Nat} {dnp : Nat → Bool} {rcp RK : Nat → Nat} {DN : Nat → Bool} {RC : Nat → Nat} (h : Row n nu rkp dnp rcp RK DN RC) {u t pl : Nat} {b : Bool} (hn : n < 20) (hpl : fst0 (isPl n u b rkp dnp) 20 0 = some pl) (hle : pl ≤ n) :
    Row (n + 1) (insA nu pl n) (insA rkp pl u) (insA dnp pl b) (insA rcp pl t) (va_up RK n u) (va_up DN n b) (va_up RC n t) := by
  obtain ⟨g1, g2, g3, g4⟩ := fst0_s hpl
  -- those before go before, or are as they are and have smaller numbers
  have hb : ∀ p, p < pl → klt (va_up RK n u) (va_up DN n b) (nu p) n := by
    intro p hp
    have a := h.1 p (by omega)
    have k := g4 p (by omega) hp
    have k : gob u b (rkp p) (dnp p) = false := by
      unfold isPl at k
      rw [Bool.or_eq_false_iff] at k
      exact k.2
    have k : ¬ (u < rkp p ∨ (u = rkp p ∧ b = true ∧ dnp p = false)) := fun z => by rw [gob_iff.mpr z] at k; cases k
    unfold klt
    rw [va_up_ne _ _ (show nu p ≠ n by omega), va_up_self, va_up_ne _ _ (show nu p ≠ n by omega), va_up_self, ← a.2.1, ← a.2.2.1]
    by_cases e : rkp p < u
    · exact Or.inl e
    · right
      refine ⟨by omega, ?_⟩
      cases hd : dnp p with
      | true =>
        cases b with
        | true => exact Or.inr ⟨rfl, by omega⟩
        | false => exact Or.inl ⟨rfl, rfl⟩
      | false =>
        cases hbb : b with
        | true => exact absurd (Or.inr ⟨by omega, hbb, hd⟩) k
        | false => exact Or.inr ⟨rfl, by omega⟩
  have hf : ∀ p, pl ≤ p → p < n → klt (va_up RK n u) (va_up DN n b) n (nu p) := by
    intro p hp hpn
    have k0 : gob u b (rkp pl) (dnp pl) = true := by
      unfold isPl at g3
      rw [decide_eq_false (by omega), Bool.false_or] at g3
      exact g3
    have a0 := h.1 pl (by omega)
    have a := h.1 p hpn
    have kk : u < rkp p ∨ (u = rkp p ∧ b = true ∧ dnp p = false) := by
      rcases gob_iff.mp k0 with z | ⟨z1, z2, z3⟩
      · left
        by_cases e : p = pl
        · rw [e]; exact z
        · have k := h.2.2 pl p (by omega) hpn
          unfold klt at k
          rw [← a0.2.1, ← a.2.1] at k
          rcases k with k | ⟨k, _⟩ <;> omega
      · by_cases e : p = pl
        · rw [e]; exact Or.inr ⟨z1, z2, z3⟩
        · have k := h.2.2 pl p (by omega) hpn
          unfold klt at k
          rw [← a0.2.1, ← a.2.1, ← a0.2.2.1, ← a.2.2.1] at k
          rcases k with k | ⟨k, ⟨k1, _⟩ | ⟨k1, _⟩⟩
          · left; omega
          · rw [z3] at k1; cases k1
          · exact Or.inr ⟨by omega, z2, by rw [← k1, z3]⟩
    unfold klt
    rw [va_up_ne _ _ (show nu p ≠ n by omega), va_up_self, va_up_ne _ _ (show nu p ≠ n by omega), va_up_self, ← a.2.1, ← a.2.2.1]
    rcases kk with z | ⟨z1, z2, z3⟩
    · exact Or.inl z
    · exact Or.inr ⟨z1, Or.inl ⟨z2, z3⟩⟩
  refine ⟨fun p hp => ?_, fun m hm => ?_, fun p q hpq hq => ?_⟩
  · rcases Nat.lt_trichotomy p pl with z | z | z
    · have a := h.1 p (by omega)
      rw [insA_lt z, insA_lt z, insA_lt z, insA_lt z, va_up_ne _ _ (show nu p ≠ n by omega), va_up_ne _ _ (show nu p ≠ n by omega), va_up_ne _ _ (show nu p ≠ n by omega)]
      exact ⟨by omega, a.2⟩
    · subst z
      rw [insA_eq, insA_eq, insA_eq, insA_eq, va_up_self, va_up_self, va_up_self]
      exact ⟨by omega, rfl, rfl, rfl⟩
    · have a := h.1 (p - 1) (by omega)
      rw [insA_gt z, insA_gt z, insA_gt z, insA_gt z, va_up_ne _ _ (show nu (p - 1) ≠ n by omega), va_up_ne _ _ (show nu (p - 1) ≠ n by omega), va_up_ne _ _ (show nu (p - 1) ≠ n by omega)]
      exact ⟨by omega, a.2⟩
  · by_cases e : m = n
    · exact ⟨pl, by omega, by rw [insA_eq, e]⟩
    · obtain ⟨p, hp, hpm⟩ := h.2.1 m (by omega)
      by_cases z : p < pl
      · exact ⟨p, by omega, by rw [insA_lt z]; exact hpm⟩
      · exact ⟨p + 1, by omega, by rw [insA_gt (by omega), Nat.add_sub_cancel]; exact hpm⟩
  · rcases Nat.lt_trichotomy q pl with z | z | z
    · rw [insA_lt z, insA_lt (show p < pl by omega)]
      exact klt_up (h.1 p (by omega)).1 (h.1 q (by omega)).1 (h.2.2 p q hpq (by omega))
    · subst z
      rw [insA_eq, insA_lt hpq]
      exact hb p hpq
    · rw [insA_gt z]
      rcases Nat.lt_trichotomy p pl with y | y | y
      · rw [insA_lt y]
        exact klt_up (h.1 p (by omega)).1 (h.1 (q - 1) (by omega)).1 (h.2.2 p (q - 1) (by omega) (by omega))
      · subst y
        rw [insA_eq]
        exact hf (q - 1) (by omega) (by omega)
      · rw [insA_gt y]
        exact klt_up (h.1 (p - 1) (by omega)).1 (h.1 (q - 1) (by omega)).1 (h.2.2 (p - 1) (q - 1) (by omega) (by omega))
/-- the place of a rule once the one at pl is gone -/
def dl (pl x : Nat) : Nat := if x < pl then x else x + 1
theorem delA_dl {α : Type} (g : Nat → α) (pl x : Nat) : delA g pl x = g (dl pl x) := by
  unfold delA dl
  split <;> rfl
theorem Row_del {n1 : Nat} {nu rkp : Nat → Nat} {dnp : Nat → Bool} {rcp RK : Nat → Nat} {DN : Nat → Bool} {RC : Nat → Nat} (h : Row (n1 + 1) nu rkp dnp rcp RK DN RC) {pl : Nat} (hn : n1 < 20) (hp : pl < n1 + 1) :
    Row n1 (decK (nu pl) 20 (delA nu pl)) (delA rkp pl) (delA dnp pl) (delA rcp pl) (shM (nu pl) n1 RK) (shM (nu pl) n1 DN) (shM (nu pl) n1 RC) := by
  have hd : ∀ x, x < n1 → dl pl x < n1 + 1 ∧ dl pl x ≠ pl := by
    intro x hx
    unfold dl
    split <;> omega
  have hm := (h.1 pl hp).1
  have hnu : ∀ x, x < n1 → decK (nu pl) 20 (delA nu pl) x = dec1 (nu pl) (nu (dl pl x)) := by
    intro x hx
    unfold decK
    rw [if_pos (show x < 20 by omega), delA_dl]
  have hne : ∀ x, x < n1 → nu (dl pl x) ≠ nu pl := fun x hx e => (hd x hx).2 (h.inj (hd x hx).1 hp e)
  have hlt : ∀ x, x < n1 → nu (dl pl x) < n1 + 1 := fun x hx => (h.1 _ (hd x hx).1).1
  have hsh : ∀ {α : Type} (g : Nat → α) (m : Nat), m ≠ nu pl → m < n1 + 1 → shM (nu pl) n1 g (dec1 (nu pl) m) = g m := by
    intro α g m hmne hml
    unfold shM dec1
    by_cases e : nu pl < m
    · rw [if_pos e, if_pos (by omega), show m - 1 + 1 = m by omega]
    · rw [if_neg e, if_neg (by omega)]
  refine ⟨fun p hp2 => ?_, fun m hm2 => ?_, fun p q hpq hq => ?_⟩
  · have a := h.1 (dl pl p) (hd p hp2).1
    have b1 := hne p hp2
    have b2 := hlt p hp2
    rw [hnu p hp2, hsh RK _ b1 b2, hsh DN _ b1 b2, hsh RC _ b1 b2, delA_dl, delA_dl, delA_dl]
    refine ⟨?_, a.2⟩
    unfold dec1
    split <;> omega
  · obtain ⟨p, hp2, e⟩ := h.2.1 (if m < nu pl then m else m + 1) (by split <;> omega)
    have hppl : p ≠ pl := by
      intro z
      rw [z] at e
      split at e <;> omega
    refine ⟨if p < pl then p else p - 1, by split <;> omega, ?_⟩
    have hx : (if p < pl then p else p - 1) < n1 := by split <;> omega
    rw [hnu _ hx]
    have hdl : dl pl (if p < pl then p else p - 1) = p := by
      unfold dl
      by_cases z : p < pl
      · rw [if_pos z, if_pos z]
      · rw [if_neg z, if_neg (by omega)]
        omega
    rw [hdl, e]
    unfold dec1
    split <;> split <;> omega
  · have a := h.2.2 (dl pl p) (dl pl q) (by unfold dl; split <;> split <;> omega) (hd q hq).1
    rw [hnu p (by omega), hnu q hq]
    have p1 := hne p (by omega)
    have p2 := hlt p (by omega)
    have q1 := hne q hq
    have q2 := hlt q hq
    unfold klt at a ⊢
    rw [hsh RK _ p1 p2, hsh RK _ q1 q2, hsh DN _ p1 p2, hsh DN _ q1 q2]
    rcases a with a | ⟨a1, a2 | ⟨a2, a3⟩⟩
    · exact Or.inl a
    · exact Or.inr ⟨a1, Or.inl a2⟩
    · refine Or.inr ⟨a1, Or.inr ⟨a2, ?_⟩⟩
      unfold dec1
      split <;> split <;> omega
