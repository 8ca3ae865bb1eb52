/-! The model: its cells, its answers. -/
def inB (x lo hi : Int32) : Bool := decide (lo ≤ x ∧ x ≤ hi)
theorem inB_t {x lo hi : Int32} (h1 : ¬ x < lo) (h2 : ¬ hi < x) : inB x lo hi = true := decide_eq_true ⟨Int32.not_lt.mp h1, Int32.not_lt.mp h2⟩
theorem inB_f1 {x lo hi : Int32} (h : x < lo) : inB x lo hi = false := decide_eq_false (fun q => absurd h (Int32.not_lt.mpr q.1))
theorem inB_f2 {x lo hi : Int32} (h : hi < x) : inB x lo hi = false := decide_eq_false (fun q => absurd h (Int32.not_lt.mpr q.2))
theorem inB_0 {x : Int32} {n : Nat} (hn : n + 1 < 2 ^ 31) : inB x (nI 0) (nI n) = blw x (nI (n + 1)) := by
  unfold inB blw
  have e0 : (0 : Int32).toInt = 0 := by decide
  have e1 := nI_toInt (n := 0) (by omega)
  have e2 := nI_toInt (n := n) (by omega)
  have e3 := nI_toInt (n := n + 1) hn
  apply decide_eq_decide.mpr
  rw [Int32.le_iff_toInt_le, Int32.le_iff_toInt_le, Int32.lt_iff_toInt_lt, Int32.lt_iff_toInt_lt, e0, e1, e2, e3]
  omega
theorem inB_pred {x : Int32} {n : Nat} (hn : n < 2 ^ 30) : inB x (nI 0) (nI n - nI 1) = blw x (nI n) := by
  unfold inB blw
  have e0 : (0 : Int32).toInt = 0 := by decide
  have e1 := nI_toInt (n := 0) (by omega)
  have e2 := pk_sub_toInt (a := n) (b := 1) hn (by omega)
  have e3 := nI_toInt (n := n) (by omega)
  apply decide_eq_decide.mpr
  rw [Int32.le_iff_toInt_le, Int32.le_iff_toInt_le, Int32.lt_iff_toInt_lt, Int32.lt_iff_toInt_lt, e0, e1, e2, e3]
  omega
theorem inB_nI {q a b : Nat} (hq : q < 2 ^ 31) (ha : a < 2 ^ 31) (hb : b < 2 ^ 31) : inB (nI q) (nI a) (nI b) = decide (a ≤ q ∧ q ≤ b) := by
  unfold inB
  apply decide_eq_decide.mpr
  rw [nI_leI ha hq, nI_leI hq hb]
/-- a bit of an int -/
def iB (x : Int32) (b : Nat) : Bool := decide ((x >>> (nI b &&& 31)) &&& nI 1 = nI 1)
theorem iB_c1 : ∀ b, b < 32 → nI b &&& 31 = nI b := by decide +kernel
theorem iB_c2 : ∀ b, b < 32 → ((nI b).toBitVec.smod 32).toNat = b := by decide +kernel
theorem iB_bv (x : Int32) {b : Nat} (hb : b < 32) : iB x b = x.toBitVec.getLsbD b := by
  unfold iB
  rw [iB_c1 b hb, pk_and (x >>> nI b) (m := nI 1) 1 (by decide)]
  have hy : (x >>> nI b).toBitVec = x.toBitVec.sshiftRight b := by
    show x.toBitVec.sshiftRight ((nI b).toBitVec.smod 32).toNat = _
    rw [iB_c2 b hb]
  have h0 : (x >>> nI b).toBitVec.getLsbD 0 = x.toBitVec.getLsbD b := by
    rw [hy, BitVec.getLsbD_sshiftRight, Nat.add_zero, if_pos hb]
    simp
  rw [← h0]
  have h1 : (x >>> nI b).toBitVec.getLsbD 0 = decide ((x >>> nI b).toBitVec.toNat % 2 = 1) := by
    unfold BitVec.getLsbD
    rw [Nat.testBit_zero]
  rw [h1]
  apply decide_eq_decide.mpr
  have h2 : (x >>> nI b).toBitVec.toNat % 2 ^ 1 < 2 ^ 31 := Nat.lt_of_lt_of_le (Nat.mod_lt _ (by decide)) (by decide)
  rw [nI_eq h2 (by decide)]
theorem iB_or (x y : Int32) {b : Nat} (hb : b < 32) : iB (x ||| y) b = (iB x b || iB y b) := by
  rw [iB_bv _ hb, iB_bv _ hb, iB_bv _ hb, Int32.toBitVec_or, BitVec.getLsbD_or]
theorem iB_xor (x y : Int32) {b : Nat} (hb : b < 32) : iB (x ^^^ y) b = (iB x b ^^ iB y b) := by
  rw [iB_bv _ hb, iB_bv _ hb, iB_bv _ hb, Int32.toBitVec_xor, BitVec.getLsbD_xor]
theorem iB_one : ∀ k, k < 32 → ∀ j, j < 32 → iB (nI 1 <<< (nI k &&& 31)) j = decide (j = k) := by decide +kernel
theorem iB_0 : ∀ j, j < 32 → iB (nI 0) j = false := by decide +kernel
/-- condition c holds for ask q, by the model's bits -/
def mB (bf : Nat → Int32) (c q : Nat) : Bool := iB (bf (192 * c + q / 32)) (q % 32)
def mkW (P : Nat → Bool) (w : Nat) : Nat → Int32
  | 0 => nI 0
  | k + 1 => mkW P w k ||| (if P (32 * w + k) = true then nI 1 <<< (nI k &&& 31) else nI 0)
theorem mkW_ok (P : Nat → Bool) (w : Nat) : ∀ k, k ≤ 32 → ∀ j, j < 32 → iB (mkW P w k) j = (decide (j < k) && P (32 * w + j))
  | 0, _, j, hj => by
    rw [decide_eq_false (Nat.not_lt_zero j), Bool.false_and]
    exact iB_0 j hj
  | k + 1, hk, j, hj => by
    show iB (mkW P w k ||| _) j = _
    rw [iB_or _ _ hj, mkW_ok P w k (by omega) j hj]
    have e : iB (if P (32 * w + k) = true then nI 1 <<< (nI k &&& 31) else nI 0) j = (P (32 * w + k) && decide (j = k)) := by
      cases hp : P (32 * w + k) with
      | true =>
        rw [if_pos rfl, iB_one k (by omega) j hj, Bool.true_and]
      | false =>
        rw [if_neg (by decide), iB_0 j hj, Bool.false_and]
    rw [e]
    by_cases h : j = k
    · subst h
      rw [decide_eq_false (Nat.lt_irrefl j), decide_eq_true rfl, decide_eq_true (Nat.lt_succ_self j), Bool.false_and, Bool.false_or, Bool.and_true, Bool.true_and]
    · rw [decide_eq_false h, Bool.and_false, Bool.or_false]
      have : decide (j < k) = decide (j < k + 1) := decide_eq_decide.mpr (by omega)
      rw [this]
/-- while condition i is made: its first w words are done -/
def MkI (bf bv : Nat → Int32) (P : Nat → Bool) (i w : Nat) : Prop := (∀ x, x < 192 * i ∨ 192 * i + w ≤ x → bv x = bf x) ∧ ∀ j, j < w → bv (192 * i + j) = mkW P j 32
theorem MkI_0 {bf : Nat → Int32} {P : Nat → Bool} {i : Nat} : MkI bf bf P i 0 := ⟨fun _ _ => rfl, fun j hj => absurd hj (Nat.not_lt_zero j)⟩
theorem MkI_s {bf bv : Nat → Int32} {P : Nat → Bool} {i w : Nat} (h : MkI bf bv P i w) : MkI bf (va_up bv (192 * i + w) (mkW P w 32)) P i (w + 1) := by
  refine ⟨fun x hx => ?_, fun j hj => ?_⟩
  · rw [va_up_ne _ _ (show x ≠ 192 * i + w by omega)]
    exact h.1 x (by omega)
  · by_cases e : j = w
    · subst e
      exact va_up_self _ _ _
    · rw [va_up_ne _ _ (show 192 * i + j ≠ 192 * i + w by omega)]
      exact h.2 j (by omega)
theorem MkI_low {bf bv : Nat → Int32} {P : Nat → Bool} {i w j q : Nat} (h : MkI bf bv P i w) (hj : j < i) (hq : q < 6144) : mB bv j q = mB bf j q := by
  unfold mB
  rw [h.1 _ (Or.inl (by omega))]
theorem MkI_end {bf bv : Nat → Int32} {P : Nat → Bool} {i : Nat} (h : MkI bf bv P i 192) : (∀ q, q < 6144 → mB bv i q = P q) ∧ ∀ j, j ≠ i → ∀ q, q < 6144 → mB bv j q = mB bf j q := by
  refine ⟨fun q hq => ?_, fun j hj q hq => ?_⟩
  · unfold mB
    rw [h.2 (q / 32) (by omega), mkW_ok P (q / 32) 32 (by omega) _ (Nat.mod_lt _ (by omega)), decide_eq_true (Nat.mod_lt _ (by omega)), Bool.true_and, show 32 * (q / 32) + q % 32 = q by omega]
  · unfold mB
    rw [h.1 _ (by omega)]
/-- the model's groups -/
def GrI (gf : Nat → Int32) (mm : Nat → Bool) : Prop := ∀ p, p < 8 → ∀ g, g < 8 → iB (gf p) g = mm (p * 8 + g)
theorem GrI_set {gf : Nat → Int32} {mm : Nat → Bool} {u v : Nat} {b : Bool} (h : GrI gf mm) (hu : u < 8) (hv : v < 8) (hb : ¬ mm (u * 8 + v) = b) : GrI (va_up gf u (gf u ^^^ (nI 1 <<< (nI v &&& 31)))) (va_up mm (u * 8 + v) b) := by
  intro p hp g hg
  by_cases e : p = u
  · subst e
    rw [va_up_self, iB_xor _ _ (by omega), iB_one v (by omega) g (by omega), h p hp g hg]
    by_cases e2 : g = v
    · subst e2
      rw [va_up_self, decide_eq_true rfl]
      cases hm : mm (p * 8 + g) <;> cases b <;> first | rfl | exact absurd hm hb
    · rw [va_up_ne _ _ (show p * 8 + g ≠ p * 8 + v by omega), decide_eq_false e2, Bool.xor_false]
  · rw [va_up_ne _ _ e, va_up_ne _ _ (show p * 8 + g ≠ u * 8 + v by omega)]
    exact h p hp g hg
/-- the model's bits are what the conditions say -/
def BiI (n : Nat) (mm : Nat → Bool) (kd ca cb cc : Nat → Nat) (bf : Nat → Int32) : Prop := ∀ i, i < n → ∀ q, q < 6144 → mB bf i q = hK mm (mB bf) (kd i) (ca i) (cb i) (cc i) q
theorem BiI_next {n i : Nat} {mm : Nat → Bool} {kd ca cb cc : Nat → Nat} {ka kb kc : Nat → Int32} {bv bw : Nat → Int32} (hO : OkN n kd ka kb kc ca cb cc) (hi : i < n) (h : BiI i mm kd ca cb cc bv)
    (h1 : ∀ q, q < 6144 → mB bw i q = hK mm (mB bv) (kd i) (ca i) (cb i) (cc i) q) (h2 : ∀ j, j ≠ i → ∀ q, q < 6144 → mB bw j q = mB bv j q) : BiI (i + 1) mm kd ca cb cc bw := by
  intro j hj q hq
  have hc : hK mm (mB bw) (kd j) (ca j) (cb j) (cc j) q = hK mm (mB bv) (kd j) (ca j) (cb j) (cc j) q := hK_congr (hO j (by omega)) (fun j' hj' => h2 j' (by omega) q hq)
  rw [hc]
  by_cases e : j = i
  · subst e
    exact h1 q hq
  · rw [h2 j e q hq]
    exact h j (by omega) q hq
theorem BiI_hold {n : Nat} {mm : Nat → Bool} {kd ca cb cc : Nat → Nat} {ka kb kc : Nat → Int32} {bf : Nat → Int32} (hO : OkN n kd ka kb kc ca cb cc) (hn : n ≤ 60) (h : BiI n mm kd ca cb cc bf) {q : Nat} (hq : q < 6144) : ∀ (m i : Nat), i < m → i < n → mB bf i q = hold mm kd ca cb cc i q
  | 0, i, h0, _ => absurd h0 (Nat.not_lt_zero i)
  | m + 1, i, h0, hi => by
    rw [hold_eq hO hn hi, h i hi q hq]
    exact hK_congr (hO i hi) (fun j hj => BiI_hold hO hn h hq m j (by omega) (by omega))
/-! ### the rule that decides, as the model finds it -/
def frF (P : Nat → Bool) (rk : Nat → Nat) : Nat → Nat
  | 0 => 10
  | k + 1 => if (P k && decide (rk k < frF P rk k)) = true then rk k else frF P rk k
theorem frF_t {P : Nat → Bool} {rk : Nat → Nat} {k : Nat} (h : P k = true) (h2 : rk k < frF P rk k) : frF P rk (k + 1) = rk k := by
  show (if (P k && decide (rk k < frF P rk k)) = true then rk k else frF P rk k) = _
  rw [h, decide_eq_true h2]
  rfl
theorem frF_f1 {P : Nat → Bool} {rk : Nat → Nat} {k : Nat} (h : P k = false) : frF P rk (k + 1) = frF P rk k := by
  show (if (P k && decide (rk k < frF P rk k)) = true then rk k else frF P rk k) = _
  rw [h]
  rfl
theorem frF_f2 {P : Nat → Bool} {rk : Nat → Nat} {k : Nat} (h2 : ¬ rk k < frF P rk k) : frF P rk (k + 1) = frF P rk k := by
  show (if (P k && decide (rk k < frF P rk k)) = true then rk k else frF P rk k) = _
  rw [decide_eq_false h2, Bool.and_false]
  rfl
theorem frF_le (P : Nat → Bool) (rk : Nat → Nat) : ∀ n, frF P rk n ≤ 10
  | 0 => Nat.le_refl _
  | n + 1 => by
    show (if (P n && decide (rk n < frF P rk n)) = true then rk n else frF P rk n) ≤ 10
    have := frF_le P rk n
    split
    · rename_i h
      rw [Bool.and_eq_true, decide_eq_true_iff] at h
      omega
    · exact this
theorem frF_spec (P : Nat → Bool) (rk : Nat → Nat) : ∀ n, (∀ j, j < n → rk j < 10) → (∀ j, j < n → P j = true → frF P rk n ≤ rk j) ∧ ((frF P rk n = 10 ∧ ∀ j, j < n → P j = false) ∨ ∃ j, j < n ∧ P j = true ∧ rk j = frF P rk n)
  | 0, _ => ⟨fun j hj => absurd hj (Nat.not_lt_zero j), Or.inl ⟨rfl, fun j hj => absurd hj (Nat.not_lt_zero j)⟩⟩
  | n + 1, h => by
    obtain ⟨h1, h2⟩ := frF_spec P rk n (fun j hj => h j (by omega))
    have h10 := h n (by omega)
    rcases bcase (P n) with hp | hp
    · rw [frF_f1 hp]
      refine ⟨fun j hj hpj => ?_, ?_⟩
      · by_cases e : j = n
        · rw [e, hp] at hpj; cases hpj
        · exact h1 j (by omega) hpj
      · rcases h2 with ⟨a, b⟩ | ⟨j, a, b, c⟩
        · refine Or.inl ⟨a, fun j hj => ?_⟩
          by_cases e : j = n
          · rw [e]; exact hp
          · exact b j (by omega)
        · exact Or.inr ⟨j, by omega, b, c⟩
    · by_cases hl : rk n < frF P rk n
      · rw [frF_t hp hl]
        refine ⟨fun j hj hpj => ?_, Or.inr ⟨n, by omega, hp, rfl⟩⟩
        by_cases e : j = n
        · rw [e]; exact Nat.le_refl _
        · have := h1 j (by omega) hpj
          omega
      · rw [frF_f2 hl]
        refine ⟨fun j hj hpj => ?_, ?_⟩
        · by_cases e : j = n
          · rw [e]; omega
          · exact h1 j (by omega) hpj
        · rcases h2 with ⟨a, b⟩ | ⟨j, a, b, c⟩
          · omega
          · exact Or.inr ⟨j, by omega, b, c⟩
def alw (dn : Nat → Bool) (o : Option Nat) : Bool := match o with
  | none => false
  | some k => !dn k
def dcC (P : Nat → Bool) (rk : Nat → Nat) (dn : Nat → Bool) (least k : Nat) (o : Option Nat) : Bool := P k && (decide (rk k = least) && (dn k || (o.isNone || alw dn o)))
def dcF (P : Nat → Bool) (rk : Nat → Nat) (dn : Nat → Bool) (least n : Nat) : Nat → Option Nat
  | 0 => none
  | i + 1 => if dcC P rk dn least (n - 1 - i) (dcF P rk dn least n i) = true then some (n - 1 - i) else dcF P rk dn least n i
theorem dcF_t {P : Nat → Bool} {rk : Nat → Nat} {dn : Nat → Bool} {least n i : Nat} (h : dcC P rk dn least (n - 1 - i) (dcF P rk dn least n i) = true) : dcF P rk dn least n (i + 1) = some (n - 1 - i) := if_pos h
theorem dcF_f {P : Nat → Bool} {rk : Nat → Nat} {dn : Nat → Bool} {least n i : Nat} (h : dcC P rk dn least (n - 1 - i) (dcF P rk dn least n i) = false) : dcF P rk dn least n (i + 1) = dcF P rk dn least n i := if_neg (by rw [h]; decide)
theorem dcF_lt {P : Nat → Bool} {rk : Nat → Nat} {dn : Nat → Bool} {least n : Nat} : ∀ i, i ≤ n → ∀ m, dcF P rk dn least n i = some m → m < n
  | 0, _, m, h => by cases h
  | i + 1, hi, m, h => by
    rcases bcase (dcC P rk dn least (n - 1 - i) (dcF P rk dn least n i)) with hc | hc
    · rw [dcF_f hc] at h
      exact dcF_lt i (by omega) m h
    · rw [dcF_t hc] at h
      cases h
      omega
theorem dcF_spec {P : Nat → Bool} {rk : Nat → Nat} {dn : Nat → Bool} {least n : Nat} : ∀ i, i ≤ n → (dcF P rk dn least n i = none ∧ ∀ j, n - i ≤ j → j < n → P j = true → rk j ≠ least) ∨
    (∃ m, dcF P rk dn least n i = some m ∧ n - i ≤ m ∧ m < n ∧ P m = true ∧ rk m = least ∧ ∀ j, n - i ≤ j → j < n → P j = true → rk j = least → j ≠ m → (dn m = true ∧ dn j = false) ∨ (dn m = dn j ∧ m < j))
  | 0, _ => Or.inl ⟨rfl, fun j h1 h2 => by omega⟩
  | i + 1, hi => by
    have ek : n - (i + 1) = n - 1 - i := by omega
    rw [ek]
    have hlow : ∀ j, n - 1 - i ≤ j → j ≠ n - 1 - i → n - i ≤ j := fun j h1 h2 => by omega
    have hk : n - 1 - i < n := by omega
    have hk2 : n - 1 - i < n - i := by omega
    generalize n - 1 - i = k at hlow hk hk2 ⊢ ek
    have et : dcC P rk dn least k (dcF P rk dn least n i) = true → dcF P rk dn least n (i + 1) = some k := fun h => by
      have h' : dcC P rk dn least (n - 1 - i) (dcF P rk dn least n i) = true := by rw [show n - 1 - i = k by omega]; exact h
      rw [dcF_t h']
      congr 1
      omega
    have ef : dcC P rk dn least k (dcF P rk dn least n i) = false → dcF P rk dn least n (i + 1) = dcF P rk dn least n i := fun h => by
      have h' : dcC P rk dn least (n - 1 - i) (dcF P rk dn least n i) = false := by rw [show n - 1 - i = k by omega]; exact h
      exact dcF_f h'
    rcases dcF_spec (P := P) (rk := rk) (dn := dn) (least := least) (n := n) i (by omega) with ⟨h1, h2⟩ | ⟨m, h1, h2, h3, h4, h5, h6⟩
    · rcases bcase (dcC P rk dn least k (dcF P rk dn least n i)) with hc | hc
      · rw [ef hc]
        refine Or.inl ⟨h1, fun j g1 g2 g3 g4 => ?_⟩
        by_cases e : j = k
        · subst e
          rw [h1] at hc
          unfold dcC at hc
          rw [g3, decide_eq_true g4] at hc
          cases hd : dn j <;> rw [hd] at hc <;> simp at hc
        · exact h2 j (hlow j g1 e) g2 g3 g4
      · rw [et hc]
        unfold dcC at hc
        rw [Bool.and_eq_true, Bool.and_eq_true, decide_eq_true_iff] at hc
        refine Or.inr ⟨k, rfl, Nat.le_refl _, hk, hc.1, hc.2.1, fun j g1 g2 g3 g4 g5 => ?_⟩
        exact absurd g4 (h2 j (hlow j g1 g5) g2 g3)
    · rcases bcase (dcC P rk dn least k (dcF P rk dn least n i)) with hc | hc
      · rw [ef hc]
        refine Or.inr ⟨m, h1, by omega, h3, h4, h5, fun j g1 g2 g3 g4 g5 => ?_⟩
        by_cases e : j = k
        · subst e
          rw [h1] at hc
          unfold dcC at hc
          rw [g3, decide_eq_true g4] at hc
          left
          cases hd : dn j with
          | true => rw [hd] at hc; simp at hc
          | false =>
            rw [hd] at hc
            unfold alw at hc
            cases hm : dn m with
            | true => exact ⟨rfl, rfl⟩
            | false => simp [hm] at hc
        · exact h6 j (hlow j g1 e) g2 g3 g4 g5
      · rw [et hc]
        rw [h1] at hc
        unfold dcC alw at hc
        rw [Bool.and_eq_true, Bool.and_eq_true, decide_eq_true_iff] at hc
        obtain ⟨c1, c2, c3⟩ := hc
        refine Or.inr ⟨k, rfl, Nat.le_refl _, hk, c1, c2, fun j g1 g2 g3 g4 g5 => ?_⟩
        have hj := hlow j g1 g5
        cases hdk : dn k with
        | true =>
          cases hdj : dn j with
          | true => exact Or.inr ⟨rfl, by omega⟩
          | false => exact Or.inl ⟨rfl, rfl⟩
        | false =>
          have hm : dn m = false := by
            rw [hdk] at c3
            cases hm : dn m with
            | false => rfl
            | true => simp [hm] at c3
          by_cases e : j = m
          · subst e
            exact Or.inr ⟨hm.symm, by omega⟩
          · rcases h6 j hj g2 g3 g4 e with ⟨a, _⟩ | ⟨a, _⟩
            · rw [hm] at a; cases a
            · exact Or.inr ⟨by rw [← a, hm], by omega⟩
theorem dec_pick {P : Nat → Bool} {rk : Nat → Nat} {dn : Nat → Bool} {n : Nat} (hr : ∀ j, j < n → rk j < 10) : dcF P rk dn (frF P rk n) n n = pick P rk dn n := by
  obtain ⟨a1, a2⟩ := frF_spec P rk n hr
  rcases dcF_spec (P := P) (rk := rk) (dn := dn) (least := frF P rk n) (n := n) n (Nat.le_refl _) with ⟨h1, h2⟩ | ⟨m, h1, h2, h3, h4, h5, h6⟩
  · rw [h1]
    refine (pick_none (fun j hj => ?_)).symm
    rcases a2 with ⟨_, b⟩ | ⟨j', b1, b2, b3⟩
    · exact b j hj
    · exact absurd b3 (h2 j' (by omega) b1 b2)
  · rw [h1]
    refine (pick_of h3 h4 (fun j hj hp hne => ?_)).symm
    have hle := a1 j hj hp
    unfold klt
    by_cases e : rk j = frF P rk n
    · exact Or.inr ⟨by omega, h6 j (by omega) hj hp e hne⟩
    · exact Or.inl (by omega)
theorem pick_congr {P Q : Nat → Bool} {rk : Nat → Nat} {dn : Nat → Bool} : ∀ {n : Nat}, (∀ j, j < n → P j = Q j) → pick P rk dn n = pick Q rk dn n
  | 0, _ => rfl
  | n + 1, h => by
    show (match pick P rk dn n with | none => if P n = true then some n else none | some m => if (P n && gob (rk n) (dn n) (rk m) (dn m)) = true then some n else some m) = (match pick Q rk dn n with | none => if Q n = true then some n else none | some m => if (Q n && gob (rk n) (dn n) (rk m) (dn m)) = true then some n else some m)
    rw [pick_congr (fun j hj => h j (by omega)), h n (by omega)]
theorem frF_congr {P Q : Nat → Bool} {rk : Nat → Nat} : ∀ {n : Nat}, (∀ j, j < n → P j = Q j) → frF P rk n = frF Q rk n
  | 0, _ => rfl
  | n + 1, h => by
    show (if (P n && decide (rk n < frF P rk n)) = true then rk n else frF P rk n) = (if (Q n && decide (rk n < frF Q rk n)) = true then rk n else frF Q rk n)
    rw [frF_congr (fun j hj => h j (by omega)), h n (by omega)]
/-- an answer: the rule's number, or NO -/
def oI (o : Option Nat) : Int32 := match o with
  | none => -2
  | some k => nI k
theorem nI_m2 {n : Nat} (h : n < 2 ^ 31) : ¬ nI n = -2 := by
  intro q
  have a := nI_toInt h
  rw [q] at a
  have b : (-2 : Int32).toInt = -2 := by decide
  omega
/-- all rules but the one that stands aside, where their condition holds -/
def rP (bf : Nat → Int32) (rc : Nat → Nat) (x : Int32) (q k : Nat) : Bool := !decide (nI k = x) && mB bf (rc k) q
def rQ (bf : Nat → Int32) (rc : Nat → Nat) (q k : Nat) : Bool := mB bf (rc k) q
theorem rP_no {bf : Nat → Int32} {rc : Nat → Nat} {q k : Nat} (h : k < 2 ^ 31) : rP bf rc (-2) q k = rQ bf rc q k := by
  unfold rP rQ
  rw [decide_eq_false (nI_m2 h)]
  rfl
/-- the rule that decides ask q -/
def pkQ (bf : Nat → Int32) (rk : Nat → Nat) (dn : Nat → Bool) (rc : Nat → Nat) (n q : Nat) : Option Nat := pick (rQ bf rc q) rk dn n
theorem pkQ_lt {bf : Nat → Int32} {rk : Nat → Nat} {dn : Nat → Bool} {rc : Nat → Nat} {n q k : Nat} (h : pkQ bf rk dn rc n q = some k) : k < n := (pick_some h).1
theorem oI_eq {o : Option Nat} {r : Nat} (hr : r < 2 ^ 31) (ho : ∀ k, o = some k → k < 2 ^ 31) : oI o = nI r ↔ o = some r := by
  cases o with
  | none =>
    constructor
    · intro h; exact absurd h.symm (nI_m2 hr)
    · intro h; cases h
  | some k =>
    show nI k = nI r ↔ _
    rw [nI_eq (ho k rfl) hr]
    constructor
    · intro h; rw [h]
    · intro h; cases h; rfl
/-- the model's store of answers -/
def KnI (kn : Bool) (xf : Nat → Int32) (bf : Nat → Int32) (rk : Nat → Nat) (dn : Nat → Bool) (rc : Nat → Nat) (n : Nat) : Prop := kn = true → ∀ q, q < 6144 → xf q = oI (pkQ bf rk dn rc n q)
/-- the model's cells -/
def MoB (G : GG) (L : List Nat) (f : Nat → va_E) (mo gA kA fA sA tA bA rA dA cA eA cn rn : Nat) (kn : Bool) (gf : Nat → Int32) (kd : Nat → Nat) (ka kb kc bf : Nat → Int32) (rk : Nat → Nat) (dn : Nat → Bool) (rc : Nat → Nat) (xf : Nat → Int32) : Prop :=
  cn ≤ 60 ∧ rn ≤ 20 ∧ Lk L f mo (.inr (5, [.int (nI 0), .ref gA, .int (nI cn), .ref kA, .ref fA, .ref sA, .ref tA, .ref bA, .int (nI rn), .ref rA, .ref dA, .ref cA, .ref eA, .int (bI kn)])) ∧
  Lk L f gA (.inl (G.2 4, 8, .inl gf)) ∧ Lk L f kA (.inl (G.2 4, 60, .inl (fun j => nI (kd j)))) ∧ Lk L f fA (.inl (G.2 4, 60, .inl ka)) ∧ Lk L f sA (.inl (G.2 4, 60, .inl kb)) ∧ Lk L f tA (.inl (G.2 4, 60, .inl kc)) ∧
  Lk L f bA (.inl (G.2 4, 11520, .inl bf)) ∧ Lk L f rA (.inl (G.2 4, 20, .inl (fun j => nI (rk j)))) ∧ Lk L f dA (.inl (G.2 1, 20, .inl (fun j => bI (dn j)))) ∧ Lk L f cA (.inl (G.2 4, 20, .inl (fun j => nI (rc j)))) ∧ Lk L f eA (.inl (G.2 4, 6144, .inl xf)) ∧
  (kA ≠ fA ∧ kA ≠ sA ∧ kA ≠ tA ∧ fA ≠ sA ∧ fA ≠ tA ∧ sA ≠ tA ∧ rA ≠ dA ∧ rA ≠ cA ∧ dA ≠ cA)
/-- the model's cells, by what they are -/
def moE (e : va_E) : Prop := match e with
  | .inr x => x.1 = 5
  | .inl x => match x.2.2 with
    | .inl _ => x.2.1 ≠ 64
    | .inr _ => False
theorem moE_o {L : List Nat} {f : Nat → va_E} {a : Nat} {fs : List Value} (h : Lk L f a (.inr (5, fs))) : moE (f a) := by rw [h.2]; exact rfl
theorem moE_a {L : List Nat} {f : Nat → va_E} {a n : Nat} {c : ClassId} {g : Nat → Int32} (h : Lk L f a (.inl (c, n, .inl g))) (hn : n ≠ 64) : moE (f a) := by rw [h.2]; exact hn
theorem Kp.mo {L0 L : List Nat} {f0 f : Nat → va_E} {u : WU} (h : Kp (fun a => moE (f0 a)) L0 f0 (L, f)) (h2 : Kp (fun a => moE (f a)) L f u) : Kp (fun a => moE (f0 a)) L0 f0 u := fun b e hb hn => by
  have hb1 := h b e hb hn
  refine h2 b e hb1 (fun q => hn ?_)
  have e1 : f b = f0 b := by rw [show f b = e from hb1.2, hb.2]
  have q : moE (f b) := q
  rw [e1] at q
  exact q
theorem upd_nI {g : Nat → Nat} {i v : Nat} : upd (fun j => nI (g j)) i (nI v) = fun j => nI (va_up g i v j) := by
  funext j
  by_cases h : j = i
  · rw [h, va_up_self]; exact pk_us
  · rw [va_up_ne _ _ h]; exact pk_un h
theorem upd_bI {g : Nat → Bool} {i : Nat} {v : Bool} : upd (fun j => bI (g j)) i (bI v) = fun j => bI (va_up g i v j) := by
  funext j
  by_cases h : j = i
  · rw [h, va_up_self]; exact pk_us
  · rw [va_up_ne _ _ h]; exact pk_un h
theorem upd_va {g : Nat → Int32} {i : Nat} {v : Int32} : upd g i v = va_up g i v := by
  funext j
  by_cases h : j = i
  · rw [h, va_up_self]; exact pk_us
  · rw [va_up_ne _ _ h]; exact pk_un h
/-- those from m on moved down by one, up to p -/
def shM {α : Type} (m p : Nat) (g : Nat → α) : Nat → α := fun j => if m ≤ j ∧ j < p then g (j + 1) else g j
theorem shM_0 {α : Type} (m : Nat) (g : Nat → α) : shM m m g = g := by
  funext j
  exact if_neg (by omega)
theorem shM_at {α : Type} {m p : Nat} {g : Nat → α} : shM m p g (p + 1) = g (p + 1) := if_neg (by omega)
theorem shM_s {α : Type} {m p : Nat} (h : m ≤ p) (g : Nat → α) : va_up (shM m p g) p (g (p + 1)) = shM m (p + 1) g := by
  funext j
  by_cases e : j = p
  · subst e
    rw [va_up_self]
    exact (if_pos ⟨h, by omega⟩).symm
  · rw [va_up_ne _ _ e]
    unfold shM
    by_cases h2 : m ≤ j ∧ j < p
    · rw [if_pos h2, if_pos (by omega)]
    · rw [if_neg h2, if_neg (by omega)]
/-! ### the model's answers -/
def mAR (P : Nat → Bool) (y : Int32) : Nat → Nat → Int32
  | 0, _ => -2
  | k + 1, q => if P q = true ∧ nI (cnt P q) = y then nI q else mAR P y k (q + 1)
def mWR (P Q : Nat → Bool) : Nat → Nat → Int32
  | 0, _ => nI 1
  | k + 1, q => if P q = true ∧ Q q = false then nI 0 else mWR P Q k (q + 1)
def mAp (D : Nat → Bool) (b : Nat) : Nat → Nat → Int32
  | 0, _ => -2
  | k + 1, i => if D i = true then nI (b + i) else mAp D b k (i + 1)
def wouldB (fr : Nat) (al b : Bool) (r : Nat) : Bool := decide (r < fr) || (decide (r = fr) && (b && al))
/-- the first rank from r on at which a rule of that condition never decides -/
def mId (W : Nat → Nat → Bool) : Nat → Nat → Nat
  | 0, _ => 10
  | k + 1, r => if (fst0 (W r) 6144 0).isNone = true then r else mId W k (r + 1)
theorem dc_step {n i : Nat} (h : i < n) : nI (n - 1 - i) + (-1) = nI (n - (i + 1)) - nI 1 := by
  rw [show n - (i + 1) = n - 1 - i by omega, Int32.sub_eq_add_neg, show -(nI 1) = (-1 : Int32) by decide]
theorem inB_5 {x y : Int32} (hx : blw x (nI 8) = true) : inB y x (nI 7) = (blw y (nI 8) && decide (x ≤ y)) := by
  unfold blw at hx
  have hx := of_decide_eq_true hx
  unfold inB blw
  have e0 : (0 : Int32).toInt = 0 := by decide
  have e2 := nI_toInt (n := 7) (by omega)
  have e3 := nI_toInt (n := 8) (by omega)
  rw [Int32.lt_iff_toInt_lt, e0] at hx
  rw [← Bool.decide_and]
  apply decide_eq_decide.mpr
  rw [Int32.le_iff_toInt_le, Int32.le_iff_toInt_le, Int32.lt_iff_toInt_lt, Int32.lt_iff_toInt_lt, e0, e2, e3]
  omega
theorem rP_t {bf : Nat → Int32} {rc : Nat → Nat} {x : Int32} {q k : Nat} (he : ¬ nI k = x) (hh : mB bf (rc k) q = true) : rP bf rc x q k = true := by
  unfold rP
  rw [hh, decide_eq_false he]
  rfl
theorem rP_f1 {bf : Nat → Int32} {rc : Nat → Nat} {x : Int32} {q k : Nat} (he : nI k = x) : rP bf rc x q k = false := by
  unfold rP
  rw [decide_eq_true he]
  rfl
theorem rP_f2 {bf : Nat → Int32} {rc : Nat → Nat} {x : Int32} {q k : Nat} (hh : mB bf (rc k) q = false) : rP bf rc x q k = false := by
  unfold rP
  rw [hh, Bool.and_false]
theorem mkW_t {P : Nat → Bool} {w k : Nat} (h : P (32 * w + k) = true) : mkW P w (k + 1) = mkW P w k ||| (nI 1 <<< (nI k &&& 31)) := by
  show mkW P w k ||| (if P (32 * w + k) = true then nI 1 <<< (nI k &&& 31) else nI 0) = _
  rw [if_pos h]
theorem mkW_f {P : Nat → Bool} {w k : Nat} (h : P (32 * w + k) = false) : mkW P w (k + 1) = mkW P w k ||| nI 0 := by
  show mkW P w k ||| (if P (32 * w + k) = true then nI 1 <<< (nI k &&& 31) else nI 0) = _
  rw [h]
  rfl
theorem up_next {xv : Nat → Int32} {g : Nat → Int32} {n : Nat} (h : ∀ j, j < n → xv j = g j) : ∀ j, j < n + 1 → va_up xv n (g n) j = g j := by
  intro j hj
  by_cases e : j = n
  · subst e
    exact va_up_self _ _ _
  · rw [va_up_ne _ _ e]
    exact h j (by omega)
theorem BiI_to {n m : Nat} {mm : Nat → Bool} {kd ca cb cc : Nat → Nat} {bf : Nat → Int32} (h : BiI n mm kd ca cb cc bf) (e : m ≤ n) : BiI m mm kd ca cb cc bf := fun i hi => h i (by omega)
def mayM (dn : Nat → Bool) (wh : Nat) (o : Option Nat) : Int32 := if wh = 1 then oI o else bI (alw dn o)
abbrev cK := @hK
