/-! Class and model answer alike: both are what the document says. -/
/-- the class's rules by place, the model's by number -/
def Tie (rn : Nat) (vw : Nat → Nat → Int64) (nu rkp : Nat → Nat) (dnp : Nat → Bool) (rcp : Nat → Nat) (bf : Nat → Int32) (rk : Nat → Nat) (dn : Nat → Bool) (rc : Nat → Nat) : Prop :=
  Row rn nu rkp dnp rcp rk dn rc ∧ (∀ p, p < rn → ∀ q, q < 6144 → aB (vw p) q = mB bf (rcp p) q) ∧ rn ≤ 20 ∧ ∀ j, j < rn → rk j < 10
section TIE
variable {rn : Nat} {vw : Nat → Nat → Int64} {nu rkp : Nat → Nat} {dnp : Nat → Bool} {rcp : Nat → Nat} {bf : Nat → Int32} {rk : Nat → Nat} {dn : Nat → Bool} {rc : Nat → Nat}
theorem tie_pk (T : Tie rn vw nu rkp dnp rcp bf rk dn rc) {q : Nat} (hq : q < 6144) : pkQ bf rk dn rc rn q = (fst0 (fun p => aB (vw p) q) rn 0).map nu := by
  unfold pkQ
  rw [T.1.first (rQ bf rc q)]
  congr 1
  refine fst0_congr (fun j _ hj => ?_)
  show mB bf (rc (nu j)) q = aB (vw j) q
  rw [T.2.1 j (by omega) q hq, (T.1.1 j (by omega)).2.2.2]
theorem tie_wo (T : Tie rn vw nu rkp dnp rcp bf rk dn rc) {q p : Nat} (hq : q < 6144) (hp : p < rn) : pick (rP bf rc (nI (nu p)) q) rk dn rn = (fst0 (fun j => !decide (j = p) && aB (vw j) q) rn 0).map nu := by
  have h20 := T.2.2.1
  rw [T.1.first (rP bf rc (nI (nu p)) q)]
  congr 1
  refine fst0_congr (fun j _ hj => ?_)
  have hj : j < rn := by omega
  show (!decide (nI (nu j) = nI (nu p)) && mB bf (rc (nu j)) q) = _
  rw [T.2.1 j hj q hq, (T.1.1 j hj).2.2.2]
  have a1 := (T.1.1 j hj).1
  have a2 := (T.1.1 p hp).1
  have e : decide (nI (nu j) = nI (nu p)) = decide (j = p) := by
    apply decide_eq_decide.mpr
    rw [nI_eq (by omega) (by omega)]
    exact ⟨fun h => T.1.inj hj hp h, fun h => by rw [h]⟩
  rw [e]
theorem tie_alw (T : Tie rn vw nu rkp dnp rcp bf rk dn rc) (P : Nat → Bool) : alw dn ((fst0 P rn 0).map nu) = alw dnp (fst0 P rn 0) := by
  rcases ocase (fst0 P rn 0) with e | ⟨p, e⟩
  · rw [e]; rfl
  · obtain ⟨_, h2, _, _⟩ := fst0_s e
    rw [e]
    show (!dn (nu p)) = !dnp p
    rw [(T.1.1 p (by omega)).2.2.1]
theorem al_ok (T : Tie rn vw nu rkp dnp rcp bf rk dn rc) {q : Nat} (hq : q < 6144) : aB (fun j => alF vw dnp j rn 0 (-1) 0) q = alw dn (pkQ bf rk dn rc rn q) := by
  have hm : q % 64 < 64 := Nat.mod_lt _ (by omega)
  rw [tie_pk T hq, tie_alw T]
  show xB (alF vw dnp (q / 64) rn 0 (-1) 0) (q % 64) = _
  rw [alF_ok vw dnp (q / 64) hm, xB_0, xB_m1 _ hm, Bool.false_or, Bool.true_and]
  rfl
theorem tie_allowed (T : Tie rn vw nu rkp dnp rcp bf rk dn rc) : nI (sumP (fun j => alF vw dnp j rn 0 (-1) 0) 96) = nI (cnt (fun q => alw dn (pkQ bf rk dn rc rn q)) 6144) := by
  rw [sumP_cnt]
  exact congrArg nI (cnt_congr (fun q hq => al_ok T hq))
theorem tie_in {n : Nat} {x : Int32} {g g' : Nat → Int32} (hn : n < 2 ^ 31) (h : ∀ t, t < n → g t = g' t) : onR g (inN n x) = onR g' (inN n x) := by
  rcases bcase (blw x (nI n)) with hb | hb
  · rw [inN_f hb]; rfl
  · obtain ⟨t, ht, rfl⟩ := blw_of hn hb
    rw [inN_t ht hn]
    exact h t ht
theorem no_at (T : Tie rn vw nu rkp dnp rcp bf rk dn rc) {t : Nat} (ht : t < rn) : ∃ p, p < rn ∧ nu p = t ∧ fst0 (isNo rn nu (nI t)) 20 0 = some p := by
  have h20 := T.2.2.1
  obtain ⟨p, hp, e⟩ := T.1.2.1 t ht
  refine ⟨p, hp, e, fst0_of (by omega) (by omega) (isNo_t hp (congrArg nI e)) (fun j _ hj => ?_)⟩
  apply ts_f
  apply isNo_f2
  intro z
  have a1 := (T.1.1 j (by omega)).1
  have z := (nI_eq (by omega) (by omega)).mp z
  have := T.1.inj (by omega) hp (z.trans e.symm)
  omega
theorem no_none (T : Tie rn vw nu rkp dnp rcp bf rk dn rc) {x : Int32} (hb : blw x (nI rn) = false) : fst0 (isNo rn nu x) 20 0 = none := by
  have h20 := T.2.2.1
  refine fst0_no (fun j _ hj => ts_f (fun z => ?_))
  obtain ⟨h1, h2⟩ := of_decide_eq_true z
  have a1 := (T.1.1 j h1).1
  rw [← h2, blw_nI (by omega) (by omega), decide_eq_true a1] at hb
  cases hb
theorem tie_no (T : Tie rn vw nu rkp dnp rcp bf rk dn rc) {x : Int32} {g g' : Nat → Int32} (h : ∀ p, p < rn → g p = g' (nu p)) : onR g (fst0 (isNo rn nu x) 20 0) = onR g' (inN rn x) := by
  have h20 := T.2.2.1
  rcases bcase (blw x (nI rn)) with hb | hb
  · rw [inN_f hb, no_none T hb]; rfl
  · obtain ⟨t, ht, rfl⟩ := blw_of (by omega) hb
    obtain ⟨p, hp, e, hf⟩ := no_at T ht
    rw [inN_t ht (by omega), hf, ← e]
    exact h p hp
theorem fst0_first {P : Nat → Bool} {n p : Nat} (hp : p < n) : (P p && (fst0 P p 0).isNone) = decide (fst0 P n 0 = some p) := by
  rcases bcase (P p) with h | h
  · rw [h, Bool.false_and]
    refine (decide_eq_false (fun z => ?_)).symm
    rw [(fst0_s z).2.2.1] at h
    cases h
  · rw [h, Bool.true_and]
    rcases ocase (fst0 P p 0) with e | ⟨j, e⟩
    · rw [e]
      refine (decide_eq_true (fst0_of (by omega) (by omega) h (fun j h1 h2 => fst0_n e j h1 (by omega)))).symm
    · rw [e]
      obtain ⟨a1, a2, a3, a4⟩ := fst0_s e
      refine (decide_eq_false (fun z => ?_)).symm
      have := (fst0_s z).2.2.2 j (by omega) (by omega)
      rw [a3] at this
      cases this
theorem de_ok (T : Tie rn vw nu rkp dnp rcp bf rk dn rc) {p q : Nat} (hp : p < rn) (hq : q < 6144) : aB (fun j => deF vw j p 0 (vw p j)) q = decide (fst0 (fun j => aB (vw j) q) rn 0 = some p) := by
  have hm : q % 64 < 64 := Nat.mod_lt _ (by omega)
  show xB (deF vw (q / 64) p 0 (vw p (q / 64))) (q % 64) = _
  rw [deF_ok vw (q / 64) hm]
  exact fst0_first (P := fun j => aB (vw j) q) hp
theorem tie_some (T : Tie rn vw nu rkp dnp rcp bf rk dn rc) {p q : Nat} (hp : p < rn) (hq : q < 6144) : fst0 (fun j => aB (vw j) q) rn 0 = some p ↔ pkQ bf rk dn rc rn q = some (nu p) := by
  rw [tie_pk T hq]
  rcases ocase (fst0 (fun j => aB (vw j) q) rn 0) with e | ⟨r, e⟩
  · rw [e]
    exact ⟨fun h => (by cases h), fun h => (by cases h)⟩
  · rw [e]
    obtain ⟨_, h2, _, _⟩ := fst0_s e
    constructor
    · intro h; cases h; rfl
    · intro h
      have h : nu r = nu p := Option.some.inj h
      rw [T.1.inj (by omega) hp h]
theorem tie_decides (T : Tie rn vw nu rkp dnp rcp bf rk dn rc) (x : Int32) : onR (fun q => nI (sumP (fun j => deF vw j q 0 (vw q j)) 96)) (fst0 (isNo rn nu x) 20 0) = onR (fun t => nI (cnt (fun q => decide (pkQ bf rk dn rc rn q = some t)) 6144)) (inN rn x) := by
  refine tie_no T (fun p hp => ?_)
  show nI (sumP (fun j => deF vw j p 0 (vw p j)) 96) = nI (cnt (fun q => decide (pkQ bf rk dn rc rn q = some (nu p))) 6144)
  rw [sumP_cnt]
  refine congrArg nI (cnt_congr (fun q hq => ?_))
  rw [de_ok T hp hq]
  exact decide_eq_decide.mpr (tie_some T hp hq)
theorem cnt_stride (A : Nat → Bool) {v : Nat} (hv : v < 8) : ∀ n, cnt (fun q => decide (q % 8 = v) && A q) (8 * n) = cnt (fun j => A (8 * j + v)) n
  | 0 => rfl
  | n + 1 => by
    show cnt (fun q => decide (q % 8 = v) && A q) (8 * n + 8) = cnt (fun j => A (8 * j + v)) n + (if A (8 * n + v) = true then 1 else 0)
    rw [cnt_add, cnt_stride A hv n]
    congr 1
    have e : ∀ k, k < 8 → (decide ((8 * n + k) % 8 = v) && A (8 * n + k)) = (decide (k = v) && A (8 * n + v)) := by
      intro k hk
      by_cases h : k = v
      · rw [h, decide_eq_true (show (8 * n + v) % 8 = v by omega), decide_eq_true rfl]
      · rw [decide_eq_false h, decide_eq_false (show ¬ (8 * n + k) % 8 = v by omega), Bool.false_and, Bool.false_and]
    rw [cnt_congr (q := fun k => decide (k = v) && A (8 * n + v)) e]
    cases A (8 * n + v) with
    | true =>
      rcases (show v = 0 ∨ v = 1 ∨ v = 2 ∨ v = 3 ∨ v = 4 ∨ v = 5 ∨ v = 6 ∨ v = 7 by omega) with z | z | z | z | z | z | z | z <;> subst z <;> rfl
    | false =>
      rw [cnt_zero (fun k _ => Bool.and_false _)]
      rfl
theorem tie_sees (T : Tie rn vw nu rkp dnp rcp bf rk dn rc) (x y : Int32) : onR (fun u => onR (fun v => nI (sumP (fun i => vfR v v 8 &&& alF vw dnp (u * 12 + i) rn 0 (-1) 0) 12)) (inN 8 y)) (inN 8 x) = onR (fun u => onR (fun v => nI (cnt (fun j => alw dn (pkQ bf rk dn rc rn (768 * u + 8 * j + v))) 96)) (inN 8 y)) (inN 8 x) := by
  refine tie_in (by decide) (fun u hu => ?_)
  refine tie_in (by decide) (fun v hv => ?_)
  rw [sumP_cnt]
  refine congrArg nI ?_
  have e : cnt (aB (fun i => vfR v v 8 &&& alF vw dnp (u * 12 + i) rn 0 (-1) 0)) (64 * 12) = cnt (fun q => decide (q % 8 = v) && alw dn (pkQ bf rk dn rc rn (768 * u + q))) (8 * 96) := by
    refine cnt_congr (fun q hq => ?_)
    have hm : q % 64 < 64 := Nat.mod_lt _ (by omega)
    rw [← al_ok T (show 768 * u + q < 6144 by omega)]
    show xB (vfR v v 8 &&& alF vw dnp (u * 12 + q / 64) rn 0 (-1) 0) (q % 64) = (decide (q % 8 = v) && xB (alF vw dnp ((768 * u + q) / 64) rn 0 (-1) 0) ((768 * u + q) % 64))
    rw [xB_and, xB_vf v hv v hv _ hm, show (768 * u + q) / 64 = u * 12 + q / 64 by omega, show (768 * u + q) % 64 = q % 64 by omega]
    congr 1
    apply decide_eq_decide.mpr
    omega
  rw [e, cnt_stride (fun q => alw dn (pkQ bf rk dn rc rn (768 * u + q))) hv 96]
  refine cnt_congr (fun j _ => ?_)
  rw [show 768 * u + (8 * j + v) = 768 * u + 8 * j + v by omega]
theorem fst0_wo {P : Nat → Bool} {n p : Nat} (hp : p < n) (h : fst0 P n 0 = some p) : fst0 (fun j => !decide (j = p) && P j) n 0 = fst0 P (n - (p + 1)) (p + 1) := by
  obtain ⟨_, _, h3, h4⟩ := fst0_s h
  rcases ocase (fst0 P (n - (p + 1)) (p + 1)) with e | ⟨r, e⟩
  · rw [e]
    refine fst0_no (fun j _ hj => ?_)
    rcases Nat.lt_trichotomy j p with z | z | z
    · rw [h4 j (by omega) z, Bool.and_false]
    · rw [decide_eq_true z]; rfl
    · rw [fst0_n e j (by omega) (by omega), Bool.and_false]
  · rw [e]
    obtain ⟨a1, a2, a3, a4⟩ := fst0_s e
    refine fst0_of (by omega) (by omega) ?_ (fun j _ hj => ?_)
    · rw [a3, decide_eq_false (by omega)]; rfl
    · rcases Nat.lt_trichotomy j p with z | z | z
      · rw [h4 j (by omega) z, Bool.and_false]
      · rw [decide_eq_true z]; rfl
      · rw [a4 j (by omega) hj, Bool.and_false]
theorem fst0_wo2 {P : Nat → Bool} {n p : Nat} (h : ¬ fst0 P n 0 = some p) : fst0 (fun j => !decide (j = p) && P j) n 0 = fst0 P n 0 := by
  rcases ocase (fst0 P n 0) with e | ⟨r, e⟩
  · rw [e]
    refine fst0_no (fun j h1 hj => ?_)
    rw [fst0_n e j h1 hj, Bool.and_false]
  · rw [e]
    obtain ⟨a1, a2, a3, a4⟩ := fst0_s e
    have hne : ¬ r = p := fun z => h (by rw [e, z])
    refine fst0_of a1 a2 ?_ (fun j h1 hj => ?_)
    · rw [a3, decide_eq_false hne]; rfl
    · rw [a4 j h1 hj, Bool.and_false]
theorem tu_ok (T : Tie rn vw nu rkp dnp rcp bf rk dn rc) {p q : Nat} (hp : p < rn) (hq : q < 6144) : aB (tuF vw dnp rn p) q = decide (¬ alw dn (pkQ bf rk dn rc rn q) = alw dn (pick (rP bf rc (nI (nu p)) q) rk dn rn)) := by
  have hm : q % 64 < 64 := Nat.mod_lt _ (by omega)
  have hde : xB (deF vw (q / 64) p 0 (vw p (q / 64))) (q % 64) = decide (fst0 (fun j => aB (vw j) q) rn 0 = some p) := de_ok T hp hq
  have hal : xB (alF vw dnp (q / 64) (rn - (p + 1)) (p + 1) (deF vw (q / 64) p 0 (vw p (q / 64))) 0) (q % 64) = (decide (fst0 (fun j => aB (vw j) q) rn 0 = some p) && alw dnp (fst0 (fun j => aB (vw j) q) (rn - (p + 1)) (p + 1))) := by
    rw [alF_ok vw dnp (q / 64) hm, xB_0, Bool.false_or, hde]
    rfl
  rw [tie_pk T hq, tie_wo T hq hp, tie_alw T, tie_alw T]
  show xB (tuF vw dnp rn p (q / 64)) (q % 64) = _
  unfold tuF
  by_cases hf : fst0 (fun j => aB (vw j) q) rn 0 = some p
  · rw [fst0_wo hp hf, hf]
    rw [decide_eq_true hf, Bool.true_and] at hal
    rw [decide_eq_true hf] at hde
    show _ = decide (¬ (!dnp p) = alw dnp (fst0 (fun j => aB (vw j) q) (rn - (p + 1)) (p + 1)))
    cases hd : dnp p with
    | true =>
      rw [if_pos rfl, hal]
      cases alw dnp (fst0 (fun j => aB (vw j) q) (rn - (p + 1)) (p + 1)) <;> rfl
    | false =>
      rw [if_neg (by decide), xB_and, xB_not _ hm, hal, hde]
      cases alw dnp (fst0 (fun j => aB (vw j) q) (rn - (p + 1)) (p + 1)) <;> rfl
  · rw [fst0_wo2 hf]
    rw [decide_eq_false hf, Bool.false_and] at hal
    rw [decide_eq_false hf] at hde
    rw [decide_eq_false (fun z => z rfl)]
    cases hd : dnp p with
    | true => rw [if_pos rfl, hal]
    | false => rw [if_neg (by decide), xB_and, hde, Bool.false_and]
theorem tie_matters (T : Tie rn vw nu rkp dnp rcp bf rk dn rc) (x : Int32) : onR (fun q => nI (sumP (tuF vw dnp rn q) 96)) (fst0 (isNo rn nu x) 20 0) = onR (fun t => nI (cnt (fun q => decide (¬ alw dn (pkQ bf rk dn rc rn q) = alw dn (pick (rP bf rc (nI t) q) rk dn rn))) 6144)) (inN rn x) := by
  refine tie_no T (fun p hp => ?_)
  show nI (sumP (tuF vw dnp rn p) 96) = nI (cnt (fun q => decide (¬ alw dn (pkQ bf rk dn rc rn q) = alw dn (pick (rP bf rc (nI (nu p)) q) rk dn rn))) 6144)
  rw [sumP_cnt]
  exact congrArg nI (cnt_congr (fun q hq => tu_ok T hp hq))
theorem mAp_ok {D : Nat → Bool} {b n : Nat} : ∀ k i, i + k = n → (∃ r, i ≤ r ∧ r < n ∧ D r = true ∧ (∀ j, i ≤ j → j < r → D j = false) ∧ mAp D b k i = nI (b + r)) ∨ ((∀ j, i ≤ j → j < n → D j = false) ∧ mAp D b k i = -2)
  | 0, i, h => Or.inr ⟨fun j h1 h2 => by omega, rfl⟩
  | k + 1, i, h => by
    rcases bcase (D i) with e | e
    · have e2 : mAp D b (k + 1) i = mAp D b k (i + 1) := if_neg (by rw [e]; decide)
      rw [e2]
      rcases mAp_ok (D := D) (b := b) (n := n) k (i + 1) (by omega) with ⟨r, h1, h2, h3, h4, h5⟩ | ⟨h1, h2⟩
      · refine Or.inl ⟨r, by omega, h2, h3, fun j g1 g2 => ?_, h5⟩
        by_cases z : j = i
        · rw [z]; exact e
        · exact h4 j (by omega) g2
      · refine Or.inr ⟨fun j g1 g2 => ?_, h2⟩
        by_cases z : j = i
        · rw [z]; exact e
        · exact h1 j (by omega) g2
    · exact Or.inl ⟨i, Nat.le_refl _, by omega, e, fun j g1 g2 => by omega, if_pos e⟩
theorem apR_ok {D : Nat → Int64} {u : Nat} : ∀ k i, i + k = 12 → (∃ r, 64 * i ≤ r ∧ r < 768 ∧ aB D r = true ∧ (∀ j, 64 * i ≤ j → j < r → aB D j = false) ∧ apR D u k i = nI (768 * u + r)) ∨ ((∀ j, 64 * i ≤ j → j < 768 → aB D j = false) ∧ apR D u k i = -2)
  | 0, i, h => Or.inr ⟨fun j h1 h2 => by omega, rfl⟩
  | k + 1, i, h => by
    by_cases hz : D i = 0
    · have e2 : apR D u (k + 1) i = apR D u k (i + 1) := if_pos hz
      rw [e2]
      have hb : ∀ j, 64 * i ≤ j → j < 64 * (i + 1) → aB D j = false := by
        intro j h1 h2
        obtain ⟨b, rfl⟩ : ∃ b, j = 64 * i + b := ⟨j - 64 * i, by omega⟩
        rw [aB_at D (show b < 64 by omega), hz, xB_0]
      rcases apR_ok (D := D) (u := u) k (i + 1) (by omega) with ⟨r, h1, h2, h3, h4, h5⟩ | ⟨h1, h2⟩
      · refine Or.inl ⟨r, by omega, h2, h3, fun j g1 g2 => ?_, h5⟩
        by_cases z : j < 64 * (i + 1)
        · exact hb j g1 z
        · exact h4 j (by omega) g2
      · refine Or.inr ⟨fun j g1 g2 => ?_, h2⟩
        by_cases z : j < 64 * (i + 1)
        · exact hb j g1 z
        · exact h1 j (by omega) g2
    · have e2 : apR D u (k + 1) i = nI ((u * 12 + i) * 64 + bpos (D i) 0) := if_neg hz
      rw [e2]
      obtain ⟨t, ht, hx, hlow⟩ := xB_low hz
      have hp : pop ((D i &&& (-(D i))) - 1) = t := pop_low ht hx hlow
      have hp : bpos (D i) 0 = t := hp
      refine Or.inl ⟨64 * i + t, by omega, by omega, ?_, fun j g1 g2 => ?_, ?_⟩
      · rw [aB_at D ht]; exact hx
      · obtain ⟨b, rfl⟩ : ∃ b, j = 64 * i + b := ⟨j - 64 * i, by omega⟩
        rw [aB_at D (show b < 64 by omega)]
        exact hlow b (by omega)
      · rw [hp, show (u * 12 + i) * 64 + t = 768 * u + (64 * i + t) by omega]
theorem tie_apart (T : Tie rn vw nu rkp dnp rcp bf rk dn rc) (x y : Int32) : onR (fun u => onR (fun v => apR (fun i => alF vw dnp (u * 12 + i) rn 0 (-1) 0 ^^^ alF vw dnp (v * 12 + i) rn 0 (-1) 0) u 12 0) (inN 8 y)) (inN 8 x) = onR (fun u => onR (fun v => mAp (fun j => decide (¬ alw dn (pkQ bf rk dn rc rn (768 * u + j)) = alw dn (pkQ bf rk dn rc rn (768 * v + j)))) (768 * u) 768 0) (inN 8 y)) (inN 8 x) := by
  refine tie_in (by decide) (fun u hu => ?_)
  refine tie_in (by decide) (fun v hv => ?_)
  have hD : ∀ j, j < 768 → aB (fun i => alF vw dnp (u * 12 + i) rn 0 (-1) 0 ^^^ alF vw dnp (v * 12 + i) rn 0 (-1) 0) j = decide (¬ alw dn (pkQ bf rk dn rc rn (768 * u + j)) = alw dn (pkQ bf rk dn rc rn (768 * v + j))) := by
    intro j hj
    rw [← al_ok T (show 768 * u + j < 6144 by omega), ← al_ok T (show 768 * v + j < 6144 by omega)]
    show xB (alF vw dnp (u * 12 + j / 64) rn 0 (-1) 0 ^^^ alF vw dnp (v * 12 + j / 64) rn 0 (-1) 0) (j % 64) = decide (¬ xB (alF vw dnp ((768 * u + j) / 64) rn 0 (-1) 0) ((768 * u + j) % 64) = xB (alF vw dnp ((768 * v + j) / 64) rn 0 (-1) 0) ((768 * v + j) % 64))
    rw [xB_xor, show (768 * u + j) / 64 = u * 12 + j / 64 by omega, show (768 * u + j) % 64 = j % 64 by omega, show (768 * v + j) / 64 = v * 12 + j / 64 by omega, show (768 * v + j) % 64 = j % 64 by omega]
    cases xB (alF vw dnp (u * 12 + j / 64) rn 0 (-1) 0) (j % 64) <;> cases xB (alF vw dnp (v * 12 + j / 64) rn 0 (-1) 0) (j % 64) <;> rfl
  rcases apR_ok (D := fun i => alF vw dnp (u * 12 + i) rn 0 (-1) 0 ^^^ alF vw dnp (v * 12 + i) rn 0 (-1) 0) (u := u) 12 0 rfl with ⟨r, h1, h2, h3, h4, h5⟩ | ⟨h1, h2⟩
  · rcases mAp_ok (D := fun j => decide (¬ alw dn (pkQ bf rk dn rc rn (768 * u + j)) = alw dn (pkQ bf rk dn rc rn (768 * v + j)))) (b := 768 * u) (n := 768) 768 0 rfl with ⟨s, g1, g2, g3, g4, g5⟩ | ⟨g1, g2⟩
    · refine h5.trans (Eq.trans ?_ g5.symm)
      rcases Nat.lt_trichotomy r s with z | z | z
      · have := g4 r (by omega) z
        rw [← hD r h2, h3] at this
        cases this
      · rw [z]
      · have := h4 s (by omega) z
        rw [hD s g2, g3] at this
        cases this
    · have := g1 r (by omega) h2
      rw [← hD r h2, h3] at this
      cases this
  · rcases mAp_ok (D := fun j => decide (¬ alw dn (pkQ bf rk dn rc rn (768 * u + j)) = alw dn (pkQ bf rk dn rc rn (768 * v + j)))) (b := 768 * u) (n := 768) 768 0 rfl with ⟨s, g1, g2, g3, g4, g5⟩ | ⟨g1, g2⟩
    · have := h1 s (by omega) g2
      rw [hD s g2, g3] at this
      cases this
    · exact h2.trans g2.symm
theorem tie_may (T : Tie rn vw nu rkp dnp rcp bf rk dn rc) (x1 x2 x3 x4 x5 x6 : Int32) : onR (fun u => onR (fun gr => onR (fun pr => onR (fun kl => onR (fun v => onR (fun wh => mayR nu dnp wh (fst0 (hit vw (aNo u gr pr kl v)) rn 0)) (inN 2 x6)) (inN 8 x5)) (inN 4 x4)) (inN 6 x3)) (inN 4 x2)) (inN 8 x1)
    = onR (fun u => onR (fun gr => onR (fun pr => onR (fun kl => onR (fun v => onR (fun wh => mayM dn wh (pkQ bf rk dn rc rn (aNo u gr pr kl v))) (inN 2 x6)) (inN 8 x5)) (inN 4 x4)) (inN 6 x3)) (inN 4 x2)) (inN 8 x1) := by
  refine tie_in (by decide) (fun u hu => ?_)
  refine tie_in (by decide) (fun gr hgr => ?_)
  refine tie_in (by decide) (fun pr hpr => ?_)
  refine tie_in (by decide) (fun kl hkl => ?_)
  refine tie_in (by decide) (fun v hv => ?_)
  refine tie_in (by decide) (fun wh hwh => ?_)
  have hno : aNo u gr pr kl v < 6144 := by unfold aNo; omega
  have e : fst0 (hit vw (aNo u gr pr kl v)) rn 0 = fst0 (fun p => aB (vw p) (aNo u gr pr kl v)) rn 0 := fst0_congr (fun j _ _ => hit_ok vw _ j)
  rw [e]
  unfold mayR mayM
  by_cases hw : wh = 1
  · rw [if_pos hw, if_pos hw, tie_pk T hno]
    rcases ocase (fst0 (fun p => aB (vw p) (aNo u gr pr kl v)) rn 0) with e | ⟨p, e⟩ <;> rw [e] <;> rfl
  · rw [if_neg hw, if_neg hw, tie_pk T hno, tie_alw T]
    rcases ocase (fst0 (fun p => aB (vw p) (aNo u gr pr kl v)) rn 0) with e | ⟨p, e⟩
    · rw [e]; rfl
    · rw [e]
      show (if dnp p = true then nI 0 else nI 1) = bI (!dnp p)
      cases dnp p <;> rfl
end TIE
/-! ### conditions alone -/
theorem tie_asks {cn : Nat} {wd : Nat → Nat → Int64} {bf : Nat → Int32} (hn : cn ≤ 60) (h : ∀ i, i < cn → ∀ q, q < 6144 → aB (wd i) q = mB bf i q) (x : Int32) : onR (fun t => nI (sumP (wd t) 96)) (inN cn x) = onR (fun t => nI (cnt (mB bf t) 6144)) (inN cn x) := by
  refine tie_in (by omega) (fun t ht => ?_)
  rw [sumP_cnt]
  exact congrArg nI (cnt_congr (fun q hq => h t ht q hq))
theorem mAR_ok {P : Nat → Bool} {y : Int32} : ∀ k q, q + k = 6144 → (∃ r, q ≤ r ∧ r < 6144 ∧ P r = true ∧ nI (cnt P r) = y ∧ mAR P y k q = nI r) ∨ ((∀ r, q ≤ r → r < 6144 → P r = true → ¬ nI (cnt P r) = y) ∧ mAR P y k q = -2)
  | 0, q, h => Or.inr ⟨fun r h1 h2 => by omega, rfl⟩
  | k + 1, q, h => by
    by_cases hc : P q = true ∧ nI (cnt P q) = y
    · exact Or.inl ⟨q, Nat.le_refl _, by omega, hc.1, hc.2, if_pos hc⟩
    · have e : mAR P y (k + 1) q = mAR P y k (q + 1) := if_neg hc
      rw [e]
      rcases mAR_ok (P := P) (y := y) k (q + 1) (by omega) with ⟨r, h1, h2, h3, h4, h5⟩ | ⟨h1, h2⟩
      · exact Or.inl ⟨r, by omega, h2, h3, h4, h5⟩
      · refine Or.inr ⟨fun r g1 g2 g3 g4 => ?_, h2⟩
        by_cases z : r = q
        · subst z; exact hc ⟨g3, g4⟩
        · exact h1 r (by omega) g2 g3 g4
theorem ask_eq {g : Nat → Int64} {P : Nat → Bool} (h : ∀ q, q < 6144 → aB g q = P q) (y : Int32) : askY g y = mAR P y 6144 0 := by
  have hc : ∀ n, n ≤ 6144 → cnt (aB g) n = cnt P n := fun n hn => cnt_congr (fun k hk => h k (by omega))
  have hle : ∀ n, cnt P n ≤ n := cnt_le P
  unfold askY
  by_cases hy : y < 0
  · rw [if_pos hy]
    rcases mAR_ok (P := P) (y := y) 6144 0 rfl with ⟨r, h1, h2, h3, h4, h5⟩ | ⟨h1, h2⟩
    · rw [← h4] at hy
      have := hle r
      exact absurd hy (nI_pos (by omega))
    · exact h2.symm
  · rw [if_neg hy]
    obtain ⟨n, hn, rfl⟩ := nI_of hy
    rw [nI_clamp hn]
    rcases askR_ok g 96 0 n rfl with ⟨q, a1, a2, a3, a4⟩ | ⟨a1, a2⟩
    · have a3 : cnt P q = n := by
        rw [hc q (by omega)] at a3
        have z : cnt (aB g) (64 * 0) = 0 := rfl
        omega
      have a2 : P q = true := by rw [← h q a1]; exact a2
      rcases mAR_ok (P := P) (y := nI n) 6144 0 rfl with ⟨r, h1, h2, h3, h4, h5⟩ | ⟨h1, h2⟩
      · have h6 := hle r
        have h4 := (nI_eq (by omega) hn).mp h4
        have e : q = r := cnt_one a2 h3 (by omega)
        rw [a4, h5, e]
      · exact absurd (by rw [a3]) (h1 q (by omega) a1 a2)
    · rcases mAR_ok (P := P) (y := nI n) 6144 0 rfl with ⟨r, h1, h2, h3, h4, h5⟩ | ⟨h1, h2⟩
      · have h6 := hle r
        have h4 := (nI_eq (by omega) hn).mp h4
        have z : cnt (aB g) (64 * 0) = 0 := rfl
        have m := cnt_mono P (show r + 1 ≤ 6144 by omega)
        rw [cnt_t h3] at m
        rw [hc 6144 (by omega)] at a1
        omega
      · exact a2.trans h2.symm
theorem tie_ask {cn : Nat} {wd : Nat → Nat → Int64} {bf : Nat → Int32} (hn : cn ≤ 60) (h : ∀ i, i < cn → ∀ q, q < 6144 → aB (wd i) q = mB bf i q) (x y : Int32) : onR (fun t => askY (wd t) y) (inN cn x) = onR (fun t => mAR (mB bf t) y 6144 0) (inN cn x) :=
  tie_in (by omega) (fun t ht => ask_eq (h t ht) y)
theorem mWR_ok {P Q : Nat → Bool} : ∀ k q, q + k = 6144 → ((∀ r, q ≤ r → r < 6144 → P r = true → Q r = true) ∧ mWR P Q k q = nI 1) ∨ ((∃ r, q ≤ r ∧ r < 6144 ∧ P r = true ∧ Q r = false) ∧ mWR P Q k q = nI 0)
  | 0, q, h => Or.inl ⟨fun r h1 h2 => by omega, rfl⟩
  | k + 1, q, h => by
    by_cases hc : P q = true ∧ Q q = false
    · exact Or.inr ⟨⟨q, Nat.le_refl _, by omega, hc⟩, if_pos hc⟩
    · have e : mWR P Q (k + 1) q = mWR P Q k (q + 1) := if_neg hc
      rw [e]
      rcases mWR_ok (P := P) (Q := Q) k (q + 1) (by omega) with ⟨h1, h2⟩ | ⟨⟨r, h1, h2⟩, h3⟩
      · refine Or.inl ⟨fun r g1 g2 g3 => ?_, h2⟩
        by_cases z : r = q
        · subst z
          rcases bcase (Q r) with w | w
          · exact absurd ⟨g3, w⟩ hc
          · exact w
        · exact h1 r (by omega) g2 g3
      · exact Or.inr ⟨⟨r, by omega, h2⟩, h3⟩
theorem win_eq {g h : Nat → Int64} {P Q : Nat → Bool} (hg : ∀ q, q < 6144 → aB g q = P q) (hh : ∀ q, q < 6144 → aB h q = Q q) : winR g h 96 0 = mWR P Q 6144 0 := by
  rcases winR_ok g h 96 0 rfl with ⟨h1, h2⟩ | ⟨⟨q, h1, h2, h3, h4⟩, h5⟩
  · rcases mWR_ok (P := P) (Q := Q) 6144 0 rfl with ⟨g1, g2⟩ | ⟨⟨r, g1, g2, g3, g4⟩, g5⟩
    · exact h2.trans g2.symm
    · have := h1 r (by omega) g2 (by rw [hg r g2]; exact g3)
      rw [hh r g2, g4] at this
      cases this
  · rcases mWR_ok (P := P) (Q := Q) 6144 0 rfl with ⟨g1, g2⟩ | ⟨⟨r, g1, g2, g3, g4⟩, g5⟩
    · have := g1 q (by omega) h2 (by rw [← hg q h2]; exact h3)
      rw [← hh q h2, h4] at this
      cases this
    · exact h5.trans g5.symm
theorem tie_within {cn : Nat} {wd : Nat → Nat → Int64} {bf : Nat → Int32} (hn : cn ≤ 60) (h : ∀ i, i < cn → ∀ q, q < 6144 → aB (wd i) q = mB bf i q) (x y : Int32) : onR (fun t => onR (fun u => winR (wd t) (wd u) 96 0) (inN cn y)) (inN cn x) = onR (fun t => onR (fun u => mWR (mB bf t) (mB bf u) 6144 0) (inN cn y)) (inN cn x) :=
  tie_in (by omega) (fun t ht => tie_in (by omega) (fun u hu => win_eq (h t ht) (h u hu)))
