/-! What the document says, as functions: conditions by number, rules by number. -/
theorem hK_congr {mm : Nat → Bool} {h h' : Nat → Nat → Bool} {n k a b c q : Nat} {xa xb xc : Int32} (ho : okC n k xa xb xc a b c) (e : ∀ j, j < n → h j q = h' j q) : hK mm h k a b c q = hK mm h' k a b c q := by
  obtain ⟨hk, -, -, -, -, -, -, -, -, -, h6, h7, h10⟩ := ho
  unfold hK
  rcases (show k = 0 ∨ k = 1 ∨ k = 2 ∨ k = 3 ∨ k = 4 ∨ k = 5 ∨ k = 6 ∨ k = 7 ∨ k = 8 ∨ k = 9 ∨ k = 10 by omega) with z | z | z | z | z | z | z | z | z | z | z <;> subst z
  · rfl
  · rfl
  · rfl
  · rfl
  · rfl
  · rfl
  · show (!h a q) = !h' a q
    rw [e a (h6 rfl)]
  · show (h a q && h b q) = (h' a q && h' b q)
    rw [e a (h7 (Or.inl rfl)).1, e b (h7 (Or.inl rfl)).2]
  · show (h a q || h b q) = (h' a q || h' b q)
    rw [e a (h7 (Or.inr rfl)).1, e b (h7 (Or.inr rfl)).2]
  · rfl
  · show (((h a q && h b q) || (h a q && h c q)) || (h b q && h c q)) = (((h' a q && h' b q) || (h' a q && h' c q)) || (h' b q && h' c q))
    rw [e a (h10 rfl).1, e b (h10 rfl).2.1, e c (h10 rfl).2.2]
def hol (mm : Nat → Bool) (kd ca cb cc : Nat → Nat) : Nat → Nat → Nat → Bool
  | 0, _, _ => false
  | n + 1, i, q => hK mm (hol mm kd ca cb cc n) (kd i) (ca i) (cb i) (cc i) q
theorem hol_stab {n : Nat} {mm : Nat → Bool} {kd ca cb cc : Nat → Nat} {ka kb kc : Nat → Int32} (hO : OkN n kd ka kb kc ca cb cc) (q : Nat) : ∀ (m i : Nat), i < m → i < n → ∀ f, i < f → hol mm kd ca cb cc f i q = hol mm kd ca cb cc (i + 1) i q
  | 0, i, h, _, _, _ => absurd h (Nat.not_lt_zero i)
  | m + 1, i, h, hi, f, hf => by
    obtain ⟨g, rfl⟩ : ∃ g, f = g + 1 := ⟨f - 1, by omega⟩
    show hK mm (hol mm kd ca cb cc g) (kd i) (ca i) (cb i) (cc i) q = hK mm (hol mm kd ca cb cc i) (kd i) (ca i) (cb i) (cc i) q
    refine hK_congr (hO i hi) (fun j hj => ?_)
    rw [hol_stab hO q m j (by omega) (by omega) g (by omega), hol_stab hO q m j (by omega) (by omega) i hj]
/-- condition i holds for ask q -/
def hold (mm : Nat → Bool) (kd ca cb cc : Nat → Nat) (i q : Nat) : Bool := hol mm kd ca cb cc 60 i q
theorem hold_eq {n : Nat} {mm : Nat → Bool} {kd ca cb cc : Nat → Nat} {ka kb kc : Nat → Int32} (hO : OkN n kd ka kb kc ca cb cc) (hn : n ≤ 60) {i : Nat} (hi : i < n) (q : Nat) : hold mm kd ca cb cc i q = hK mm (hold mm kd ca cb cc) (kd i) (ca i) (cb i) (cc i) q := by
  unfold hold
  rw [hol_stab hO q (i + 1) i (by omega) hi 60 (by omega)]
  show hK mm (hol mm kd ca cb cc i) (kd i) (ca i) (cb i) (cc i) q = _
  refine hK_congr (hO i hi) (fun j hj => ?_)
  rw [hol_stab hO q (j + 1) j (by omega) (by omega) i hj, hol_stab hO q (j + 1) j (by omega) (by omega) 60 (by omega)]
theorem aB_hold {n : Nat} {mm : Nat → Bool} {kd ca cb cc : Nat → Nat} {ka kb kc : Nat → Int32} {wd : Nat → Nat → Int64} (hO : OkN n kd ka kb kc ca cb cc) (hW : OkW n kd ca cb cc wd mm) (hn : n ≤ 60) {q : Nat} (hq : q < 6144) : ∀ (m i : Nat), i < m → i < n → aB (wd i) q = hold mm kd ca cb cc i q
  | 0, i, h, _ => absurd h (Nat.not_lt_zero i)
  | m + 1, i, h, hi => by
    rw [hold_eq hO hn hi]
    have e : aB (wd i) q = hK mm (fun j => aB (wd j)) (kd i) (ca i) (cb i) (cc i) q := by
      unfold aB
      rw [hW i hi (q / 64) (by omega), wrd_ok (hO i hi) (Nat.mod_lt _ (by omega)), show 64 * (q / 64) + q % 64 = q by omega]
      rfl
    rw [e]
    exact hK_congr (hO i hi) (fun j hj => aB_hold hO hW hn hq m j (by omega) (by omega))
/-! ### the rule that decides -/
/-- of two rules, by rank, those that deny first, then by number -/
def klt (rk : Nat → Nat) (dn : Nat → Bool) (i j : Nat) : Prop := rk i < rk j ∨ (rk i = rk j ∧ ((dn i = true ∧ dn j = false) ∨ (dn i = dn j ∧ i < j)))
def pick (P : Nat → Bool) (rk : Nat → Nat) (dn : Nat → Bool) : Nat → Option Nat
  | 0 => none
  | n + 1 => match pick P rk dn n with
    | none => if P n = true then some n else none
    | some m => if (P n && gob (rk n) (dn n) (rk m) (dn m)) = true then some n else some m
theorem gob_iff {r1 r2 : Nat} {d1 d2 : Bool} : gob r1 d1 r2 d2 = true ↔ r1 < r2 ∨ (r1 = r2 ∧ d1 = true ∧ d2 = false) := by
  unfold gob
  rw [Bool.or_eq_true, Bool.and_eq_true, Bool.and_eq_true, decide_eq_true_iff, decide_eq_true_iff]
  cases d1 <;> cases d2 <;> simp
theorem pick_spec (P : Nat → Bool) (rk : Nat → Nat) (dn : Nat → Bool) : ∀ n, (pick P rk dn n = none ∧ ∀ j, j < n → P j = false) ∨ (∃ m, pick P rk dn n = some m ∧ m < n ∧ P m = true ∧ ∀ j, j < n → P j = true → j ≠ m → klt rk dn m j)
  | 0 => Or.inl ⟨rfl, fun j hj => absurd hj (Nat.not_lt_zero j)⟩
  | n + 1 => by
    rcases pick_spec P rk dn n with ⟨h1, h2⟩ | ⟨m, h1, h2, h3, h4⟩
    · have e : pick P rk dn (n + 1) = if P n = true then some n else none := by
        show (match pick P rk dn n with | none => if P n = true then some n else none | some m => if (P n && gob (rk n) (dn n) (rk m) (dn m)) = true then some n else some m) = _
        rw [h1]
      rw [e]
      by_cases hp : P n = true
      · rw [if_pos hp]
        refine Or.inr ⟨n, rfl, by omega, hp, fun j hj hpj hne => ?_⟩
        rw [h2 j (by omega)] at hpj
        cases hpj
      · rw [if_neg hp]
        refine Or.inl ⟨rfl, fun j hj => ?_⟩
        by_cases e2 : j = n
        · rw [e2]; exact ts_f hp
        · exact h2 j (by omega)
    · have e : pick P rk dn (n + 1) = if (P n && gob (rk n) (dn n) (rk m) (dn m)) = true then some n else some m := by
        show (match pick P rk dn n with | none => if P n = true then some n else none | some m => if (P n && gob (rk n) (dn n) (rk m) (dn m)) = true then some n else some m) = _
        rw [h1]
      rw [e]
      right
      by_cases hp : (P n && gob (rk n) (dn n) (rk m) (dn m)) = true
      · rw [if_pos hp]
        rw [Bool.and_eq_true] at hp
        obtain ⟨hp, hg⟩ := hp
        rw [gob_iff] at hg
        refine ⟨n, rfl, by omega, hp, fun j hj hpj hne => ?_⟩
        by_cases e2 : j = m
        · subst e2
          unfold klt
          rcases hg with z | ⟨z1, z2, z3⟩
          · exact Or.inl z
          · exact Or.inr ⟨z1, Or.inl ⟨z2, z3⟩⟩
        · have := h4 j (by omega) hpj e2
          unfold klt at this ⊢
          rcases this with y | ⟨y1, y2⟩
          · left
            rcases hg with z | ⟨z1, -⟩ <;> omega
          · rcases hg with z | ⟨z1, z2, z3⟩
            · left
              omega
            · right
              refine ⟨by omega, Or.inl ⟨z2, ?_⟩⟩
              rcases y2 with ⟨y3, y4⟩ | ⟨y3, y4⟩
              · rw [z3] at y3; cases y3
              · rw [← y3]; exact z3
      · rw [if_neg hp]
        refine ⟨m, rfl, by omega, h3, fun j hj hpj hne => ?_⟩
        by_cases e2 : j = n
        · subst e2
          rw [hpj, Bool.true_and] at hp
          have hp : ¬ (rk j < rk m ∨ (rk j = rk m ∧ dn j = true ∧ dn m = false)) := fun z => hp (gob_iff.mpr z)
          unfold klt
          by_cases r : rk m < rk j
          · exact Or.inl r
          · right
            refine ⟨by omega, ?_⟩
            cases hm : dn m with
            | true =>
              cases hj2 : dn j with
              | true => exact Or.inr ⟨rfl, h2⟩
              | false => exact Or.inl ⟨rfl, rfl⟩
            | false =>
              cases hj2 : dn j with
              | true => exact absurd (Or.inr ⟨by omega, hj2, hm⟩) hp
              | false => exact Or.inr ⟨rfl, h2⟩
        · exact h4 j (by omega) hpj hne
theorem klt_asymm {rk : Nat → Nat} {dn : Nat → Bool} {i j : Nat} (h1 : klt rk dn i j) (h2 : klt rk dn j i) : False := by
  unfold klt at h1 h2
  rcases h1 with a | ⟨a1, ⟨a2, a3⟩ | ⟨a2, a3⟩⟩ <;> rcases h2 with b | ⟨b1, ⟨b2, b3⟩ | ⟨b2, b3⟩⟩
  · omega
  · omega
  · omega
  · omega
  · rw [a2] at b3; cases b3
  · rw [a2, a3] at b2; cases b2
  · omega
  · rw [b2, b3] at a2; cases a2
  · omega
/-- the one that goes before all others that hold -/
theorem pick_of {P : Nat → Bool} {rk : Nat → Nat} {dn : Nat → Bool} {n m : Nat} (hm : m < n) (hp : P m = true) (h : ∀ j, j < n → P j = true → j ≠ m → klt rk dn m j) : pick P rk dn n = some m := by
  rcases pick_spec P rk dn n with ⟨h1, h2⟩ | ⟨m', h1, h2, h3, h4⟩
  · rw [h2 m hm] at hp
    cases hp
  · by_cases e : m' = m
    · rw [h1, e]
    · exact (klt_asymm (h4 m hm hp (fun z => e z.symm)) (h m' h2 h3 e)).elim
theorem pick_none {P : Nat → Bool} {rk : Nat → Nat} {dn : Nat → Bool} {n : Nat} (h : ∀ j, j < n → P j = false) : pick P rk dn n = none := by
  rcases pick_spec P rk dn n with ⟨h1, -⟩ | ⟨m', h1, h2, h3, -⟩
  · exact h1
  · rw [h m' h2] at h3
    cases h3
theorem pick_some {P : Nat → Bool} {rk : Nat → Nat} {dn : Nat → Bool} {n m : Nat} (h : pick P rk dn n = some m) : m < n ∧ P m = true ∧ ∀ j, j < n → P j = true → j ≠ m → klt rk dn m j := by
  rcases pick_spec P rk dn n with ⟨h1, -⟩ | ⟨m', h1, h2, h3, h4⟩
  · rw [h1] at h; cases h
  · rw [h1] at h
    cases h
    exact ⟨h2, h3, h4⟩
/-- the row: rules by place, sorted; nu: the number of the rule at a place -/
def Row (n : Nat) (nu rk : Nat → Nat) (dn : Nat → Bool) (rc RK : Nat → Nat) (DN : Nat → Bool) (RC : Nat → Nat) : Prop :=
  (∀ p, p < n → nu p < n ∧ rk p = RK (nu p) ∧ dn p = DN (nu p) ∧ rc p = RC (nu p)) ∧ (∀ m, m < n → ∃ p, p < n ∧ nu p = m) ∧ ∀ p q, p < q → q < n → klt RK DN (nu p) (nu q)
theorem klt_irrefl {rk : Nat → Nat} {dn : Nat → Bool} {i : Nat} (h : klt rk dn i i) : False := klt_asymm h h
theorem Row.inj {n : Nat} {nu rk : Nat → Nat} {dn : Nat → Bool} {rc RK : Nat → Nat} {DN : Nat → Bool} {RC : Nat → Nat} (h : Row n nu rk dn rc RK DN RC) {p q : Nat} (hp : p < n) (hq : q < n) (e : nu p = nu q) : p = q := by
  rcases Nat.lt_trichotomy p q with z | z | z
  · have := h.2.2 p q z hq
    rw [e] at this
    exact (klt_irrefl this).elim
  · exact z
  · have := h.2.2 q p z hp
    rw [e] at this
    exact (klt_irrefl this).elim
/-- the first place that holds is the rule that decides -/
theorem Row.first {n : Nat} {nu rk : Nat → Nat} {dn : Nat → Bool} {rc RK : Nat → Nat} {DN : Nat → Bool} {RC : Nat → Nat} (h : Row n nu rk dn rc RK DN RC) (P : Nat → Bool) : pick P RK DN n = (fst0 (fun p => P (nu p)) n 0).map nu := by
  cases e : fst0 (fun p => P (nu p)) n 0 with
  | none =>
    refine pick_none (fun m hm => ?_)
    obtain ⟨p, hp, rfl⟩ := h.2.1 m hm
    exact fst0_n e p (by omega) (by omega)
  | some p =>
    obtain ⟨h1, h2, h3, h4⟩ := fst0_s e
    show _ = some (nu p)
    refine pick_of (h.1 p (by omega)).1 h3 (fun m hm hpm hne => ?_)
    obtain ⟨q, hq, rfl⟩ := h.2.1 m hm
    rcases Nat.lt_trichotomy p q with z | z | z
    · exact h.2.2 p q z hq
    · exact absurd (congrArg nu z.symm) hne
    · have : P (nu q) = false := h4 q (by omega) z
      rw [this] at hpm
      cases hpm
