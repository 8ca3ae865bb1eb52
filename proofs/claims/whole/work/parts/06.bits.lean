/-! Counting, bits of a long, the JDK's bit count as numbers, the lowest bits of a word. No machine here. -/
/-- how many k below n have p -/
def cnt (p : Nat → Bool) : Nat → Nat
  | 0 => 0
  | n + 1 => cnt p n + (if p n = true then 1 else 0)
theorem cnt_s (p : Nat → Bool) (n : Nat) : cnt p (n + 1) = cnt p n + (if p n = true then 1 else 0) := rfl
theorem cnt_t {p : Nat → Bool} {n : Nat} (h : p n = true) : cnt p (n + 1) = cnt p n + 1 := by rw [cnt_s, if_pos h]
theorem cnt_f {p : Nat → Bool} {n : Nat} (h : p n = false) : cnt p (n + 1) = cnt p n := by rw [cnt_s, h]; simp
theorem cnt_add (p : Nat → Bool) (a : Nat) : ∀ b, cnt p (a + b) = cnt p a + cnt (fun k => p (a + k)) b
  | 0 => by simp [cnt]
  | b + 1 => by
    show cnt p ((a + b) + 1) = _
    rw [cnt_s, cnt_s, cnt_add p a b]
    omega
theorem cnt_congr {p q : Nat → Bool} : ∀ {n : Nat}, (∀ k, k < n → p k = q k) → cnt p n = cnt q n
  | 0, _ => rfl
  | n + 1, h => by
    rw [cnt_s, cnt_s, cnt_congr (n := n) (fun k hk => h k (Nat.lt_succ_of_lt hk)), h n (Nat.lt_succ_self n)]
theorem cnt_le (p : Nat → Bool) : ∀ n, cnt p n ≤ n
  | 0 => Nat.le_refl 0
  | n + 1 => by
    rw [cnt_s]
    have h := cnt_le p n
    split <;> omega
theorem cnt_mono (p : Nat → Bool) {a b : Nat} (h : a ≤ b) : cnt p a ≤ cnt p b := by
  obtain ⟨c, rfl⟩ := Nat.exists_eq_add_of_le h
  rw [cnt_add]
  omega
theorem cnt_zero {p : Nat → Bool} {n : Nat} (h : ∀ k, k < n → p k = false) : cnt p n = 0 := by
  induction n with
  | zero => rfl
  | succ n ih => rw [cnt_f (h n (Nat.lt_succ_self n)), ih (fun k hk => h k (Nat.lt_succ_of_lt hk))]
/-- a count passes through every number below it -/
theorem cnt_hit {p : Nat → Bool} {i : Nat} : ∀ {n : Nat}, i < cnt p n → ∃ j, j < n ∧ p j = true ∧ cnt p j = i
  | 0, h => absurd h (Nat.not_lt_zero i)
  | n + 1, h => by
    by_cases hi : i < cnt p n
    · obtain ⟨j, h1, h2, h3⟩ := cnt_hit hi
      exact ⟨j, Nat.lt_succ_of_lt h1, h2, h3⟩
    · cases hp : p n with
      | false => rw [cnt_f hp] at h; exact absurd h hi
      | true =>
        rw [cnt_t hp] at h
        exact ⟨n, Nat.lt_succ_self n, hp, by omega⟩
/-- the one that has so many before it is one alone -/
theorem cnt_one {p : Nat → Bool} {a b : Nat} (ha : p a = true) (hb : p b = true) (h : cnt p a = cnt p b) : a = b := by
  rcases Nat.lt_trichotomy a b with q | q | q
  · have := cnt_mono p (show a + 1 ≤ b from q)
    rw [cnt_t ha] at this
    omega
  · exact q
  · have := cnt_mono p (show b + 1 ≤ a from q)
    rw [cnt_t hb] at this
    omega
theorem cnt_split (p : Nat → Bool) (m : Nat) : ∀ n, cnt p (m * n) = cnt (fun _ => false) 0 + (List.range n).foldl (fun s w => s + cnt (fun k => p (m * w + k)) m) 0
  | 0 => by simp [cnt]
  | n + 1 => by
    rw [Nat.mul_succ, cnt_add, cnt_split p m n, List.range_succ, List.foldl_append]
    simp [cnt]
/-! ### numbers by fields -/
def fsm (m : Nat) (g : Nat → Nat) : Nat → Nat
  | 0 => 0
  | n + 1 => 2 ^ (m * n) * g n + fsm m g n
theorem fsm_s (m : Nat) (g : Nat → Nat) (n : Nat) : fsm m g (n + 1) = 2 ^ (m * n) * g n + fsm m g n := rfl
theorem fsm_lt {m : Nat} {g : Nat → Nat} (hg : ∀ k, g k < 2 ^ m) : ∀ n, fsm m g n < 2 ^ (m * n)
  | 0 => by simp [fsm]
  | n + 1 => by
    have h := fsm_lt hg n
    have h2 : g n + 1 ≤ 2 ^ m := hg n
    have h3 : 2 ^ (m * n) * (g n + 1) ≤ 2 ^ (m * n) * 2 ^ m := Nat.mul_le_mul_left _ h2
    rw [fsm_s, Nat.mul_succ, Nat.pow_add]
    rw [Nat.mul_succ] at h3
    omega
theorem fsm_congr {m : Nat} {g h : Nat → Nat} : ∀ {n : Nat}, (∀ k, k < n → g k = h k) → fsm m g n = fsm m h n
  | 0, _ => rfl
  | n + 1, e => by rw [fsm_s, fsm_s, fsm_congr (n := n) (fun k hk => e k (Nat.lt_succ_of_lt hk)), e n (Nat.lt_succ_self n)]
theorem fsm_add (m : Nat) (g h : Nat → Nat) : ∀ n, fsm m (fun k => g k + h k) n = fsm m g n + fsm m h n
  | 0 => rfl
  | n + 1 => by rw [fsm_s, fsm_s, fsm_s, fsm_add m g h n, Nat.mul_add]; omega
theorem and_cat {s a b c d : Nat} (ha : a < 2 ^ s) (hc : c < 2 ^ s) : (2 ^ s * b + a) &&& (2 ^ s * d + c) = 2 ^ s * (b &&& d) + (a &&& c) := by
  apply Nat.eq_of_testBit_eq
  intro i
  have hac : a &&& c < 2 ^ s := Nat.lt_of_le_of_lt Nat.and_le_left ha
  rw [Nat.testBit_and, Nat.testBit_two_pow_mul_add _ ha, Nat.testBit_two_pow_mul_add _ hc, Nat.testBit_two_pow_mul_add _ hac]
  split <;> rw [Nat.testBit_and]
theorem fsm_and {m : Nat} {g h : Nat → Nat} (hg : ∀ k, g k < 2 ^ m) (hh : ∀ k, h k < 2 ^ m) : ∀ n, fsm m g n &&& fsm m h n = fsm m (fun k => g k &&& h k) n
  | 0 => by simp [fsm]
  | n + 1 => by rw [fsm_s, fsm_s, fsm_s, and_cat (fsm_lt hg n) (fsm_lt hh n), fsm_and hg hh n]
/-- the lowest field, and the others -/
theorem fsm_low (m : Nat) (g : Nat → Nat) : ∀ n, fsm m g (n + 1) = g 0 + 2 ^ m * fsm m (fun k => g (k + 1)) n
  | 0 => by simp [fsm]
  | n + 1 => by
    rw [fsm_s, fsm_low m g n, fsm_s m (fun k => g (k + 1)) n, Nat.mul_succ, Nat.pow_add, Nat.mul_add]
    rw [Nat.mul_comm (2 ^ (m * n)) (2 ^ m), Nat.mul_assoc]
    omega
theorem fsm_shr {m : Nat} {g : Nat → Nat} (h0 : g 0 < 2 ^ m) {n : Nat} (hz : g (n + 1) = 0) : fsm m g (n + 1) / 2 ^ m = fsm m (fun k => g (k + 1)) (n + 1) := by
  rw [fsm_low, fsm_s, Nat.add_mul_div_left _ _ (Nat.two_pow_pos m), Nat.div_eq_of_lt h0, hz]
  omega
/-- two fields make one -/
theorem fsm_pair (m : Nat) (g : Nat → Nat) : ∀ n, fsm m g (2 * n) = fsm (2 * m) (fun k => g (2 * k) + 2 ^ m * g (2 * k + 1)) n
  | 0 => rfl
  | n + 1 => by
    show fsm m g (2 * n + 1 + 1) = _
    rw [fsm_s, fsm_s, fsm_s, fsm_pair m g n, Nat.mul_succ m (2 * n), Nat.pow_add, Nat.mul_add, Nat.mul_assoc (2 ^ (m * (2 * n)))]
    rw [show 2 * m * n = m * (2 * n) by rw [Nat.mul_comm 2 m, Nat.mul_assoc]]
    omega
/-- a number by its bits -/
def bt1 (n k : Nat) : Nat := if n.testBit k = true then 1 else 0
theorem bt1_lt (n k : Nat) : bt1 n k < 2 := by unfold bt1; split <;> omega
theorem bt1_div (n k : Nat) : bt1 n k = n / 2 ^ k % 2 := by
  unfold bt1
  rw [Nat.testBit_eq_decide_div_mod_eq]
  by_cases h : n / 2 ^ k % 2 = 1
  · simp [h]
  · simp only [h, decide_false]
    have : n / 2 ^ k % 2 < 2 := Nat.mod_lt _ (by omega)
    simp
    omega
theorem fsm_bits (n : Nat) : ∀ k, n % 2 ^ k = fsm 1 (bt1 n) k
  | 0 => by simp [fsm, Nat.mod_one]
  | k + 1 => by rw [fsm_s, Nat.mod_pow_succ, fsm_bits n k, bt1_div, Nat.one_mul]; omega
theorem bt1_big {n k : Nat} (h : n < 2 ^ k) : bt1 n k = 0 := by
  unfold bt1
  rw [Nat.testBit_lt_two_pow h]
  simp
/-! ### Int64 as an unsigned number -/
def uN (x : Int64) : Nat := x.toUInt64.toNat
theorem uN_lt (x : Int64) : uN x < 18446744073709551616 := x.toUInt64.toNat_lt
theorem uN_inj {x y : Int64} (h : uN x = uN y) : x = y := congrArg UInt64.toInt64 (UInt64.toNat_inj.mp h)
theorem uN_add (x y : Int64) : uN (x + y) = (uN x + uN y) % 18446744073709551616 := by
  show (x.toUInt64 + y.toUInt64).toNat = _
  exact UInt64.toNat_add _ _
theorem uN_sub (x y : Int64) : uN (x - y) = (18446744073709551616 - uN y + uN x) % 18446744073709551616 := by
  show (x.toUInt64 - y.toUInt64).toNat = _
  exact UInt64.toNat_sub _ _
theorem uN_and (x y : Int64) : uN (x &&& y) = uN x &&& uN y := by
  show (x.toUInt64 &&& y.toUInt64).toNat = _
  exact UInt64.toNat_and _ _
theorem uN_or (x y : Int64) : uN (x ||| y) = uN x ||| uN y := by
  show (x.toUInt64 ||| y.toUInt64).toNat = _
  exact UInt64.toNat_or _ _
theorem uN_xor (x y : Int64) : uN (x ^^^ y) = uN x ^^^ uN y := by
  show (x.toUInt64 ^^^ y.toUInt64).toNat = _
  exact UInt64.toNat_xor _ _
theorem uN_shr (x : Int64) (s : UInt64) : uN (x.toUInt64 >>> s).toInt64 = uN x / 2 ^ (s.toNat % 64) := by
  show (x.toUInt64 >>> s).toNat = _
  rw [UInt64.toNat_shiftRight, Nat.shiftRight_eq_div_pow]
  rfl
theorem uN_neg (x : Int64) : uN (-x) = (18446744073709551616 - uN x) % 18446744073709551616 := by
  show (-x.toUInt64).toNat = _
  exact UInt64.toNat_neg _
/-- bit b of a word -/
def xB (x : Int64) (b : Nat) : Bool := (uN x).testBit b
theorem xB_and (x y : Int64) (b : Nat) : xB (x &&& y) b = (xB x b && xB y b) := by
  unfold xB
  rw [uN_and, Nat.testBit_and]
theorem xB_or (x y : Int64) (b : Nat) : xB (x ||| y) b = (xB x b || xB y b) := by
  unfold xB
  rw [uN_or, Nat.testBit_or]
theorem xB_xor (x y : Int64) (b : Nat) : xB (x ^^^ y) b = (xB x b ^^ xB y b) := by
  unfold xB
  rw [uN_xor, Nat.testBit_xor]
theorem xB_m1 : ∀ b, b < 64 → xB (-1) b = true := by decide +kernel
theorem xB_0 (b : Nat) : xB 0 b = false := by
  unfold xB
  rw [show uN 0 = 0 from rfl, Nat.zero_testBit]
theorem xB_not (x : Int64) {b : Nat} (hb : b < 64) : xB (x ^^^ (-1)) b = !xB x b := by
  rw [xB_xor, xB_m1 b hb]
  cases xB x b <;> rfl
theorem xB_big {x : Int64} {b : Nat} (h : 64 ≤ b) : xB x b = false :=
  Nat.testBit_lt_two_pow (Nat.lt_of_lt_of_le (uN_lt x) (show 2 ^ 64 ≤ 2 ^ b from Nat.pow_le_pow_right (by omega) h))
theorem xB_ext {x y : Int64} (h : ∀ b, b < 64 → xB x b = xB y b) : x = y := by
  apply uN_inj
  apply Nat.eq_of_testBit_eq
  intro b
  by_cases hb : b < 64
  · exact h b hb
  · exact (xB_big (x := x) (by omega)).trans (xB_big (x := y) (by omega)).symm
theorem xB_z {x : Int64} : x = 0 ↔ ∀ b, b < 64 → xB x b = false :=
  ⟨fun h b _ => by rw [h, xB_0], fun h => xB_ext (fun b hb => by rw [h b hb, xB_0])⟩
theorem xB_nz {x : Int64} (h : ¬ x = 0) : ∃ b, b < 64 ∧ xB x b = true := by
  apply Classical.byContradiction
  intro q
  apply h
  refine xB_z.mpr (fun b hb => ?_)
  cases hx : xB x b with
  | false => rfl
  | true => exact absurd ⟨b, hb, hx⟩ q
def pop (x : Int64) : Nat := cnt (xB x) 64
theorem pop_le (x : Int64) : pop x ≤ 64 := cnt_le _ _
/-! ### the bit count, by numbers -/
def hd1 (n : Nat) : Nat := n - (n / 2 &&& 6148914691236517205)
def hd2 (n : Nat) : Nat := (n &&& 3689348814741910323) + (n / 4 &&& 3689348814741910323)
def hd3 (n : Nat) : Nat := (n + n / 16) &&& 1085102592571150095
theorem hd1_ok {n : Nat} (h : n < 2 ^ 64) : n / 2 &&& 6148914691236517205 ≤ n ∧ hd1 n = fsm 2 (fun k => bt1 n (2 * k) + bt1 n (2 * k + 1)) 32 := by
  have e0 : n = fsm 1 (bt1 n) 64 := by rw [← fsm_bits, Nat.mod_eq_of_lt h]
  have e1 : n = fsm 2 (fun k => bt1 n (2 * k) + 2 * bt1 n (2 * k + 1)) 32 := by
    have := fsm_pair 1 (bt1 n) 32
    rw [← e0] at this
    exact this
  have e2 : n / 2 = fsm 1 (fun k => bt1 n (k + 1)) 64 := by
    have := fsm_shr (m := 1) (g := bt1 n) (bt1_lt n 0) (n := 63) (bt1_big h)
    rw [← e0] at this
    exact this
  have e3 : (6148914691236517205 : Nat) = fsm 1 (fun k => if k % 2 = 0 then 1 else 0) 64 := by decide +kernel
  have e4 : n / 2 &&& 6148914691236517205 = fsm 2 (fun k => bt1 n (2 * k + 1)) 32 := by
    rw [e2, e3, fsm_and (fun k => bt1_lt n (k + 1)) (fun k => by split <;> omega), show (64 : Nat) = 2 * 32 from rfl, fsm_pair]
    apply fsm_congr
    intro k _
    have b1 := bt1_lt n (2 * k + 1)
    rw [if_pos (by omega), if_neg (by omega)]
    have : bt1 n (2 * k + 1) = 0 ∨ bt1 n (2 * k + 1) = 1 := by omega
    rcases this with q | q <;> rw [q] <;> simp
  have e5 : n = fsm 2 (fun k => bt1 n (2 * k) + bt1 n (2 * k + 1)) 32 + fsm 2 (fun k => bt1 n (2 * k + 1)) 32 := by
    rw [← fsm_add]
    refine e1.trans (fsm_congr (fun k _ => ?_))
    omega
  unfold hd1
  rw [e4]
  constructor <;> omega
/-- every other field is kept -/
theorem fsm_even {m : Nat} {g : Nat → Nat} (hg : ∀ k, g k < 2 ^ m) (n : Nat) : fsm m g (2 * n) &&& fsm m (fun k => if k % 2 = 0 then 2 ^ m - 1 else 0) (2 * n) = fsm (2 * m) (fun k => g (2 * k)) n := by
  have hp := Nat.two_pow_pos m
  rw [fsm_and hg (fun k => by split <;> omega), fsm_pair]
  apply fsm_congr
  intro k _
  rw [if_pos (by omega), if_neg (by omega), Nat.and_two_pow_sub_one_eq_mod, Nat.mod_eq_of_lt (hg _), Nat.and_zero]
  omega
theorem hd2_ok {g : Nat → Nat} (hg : ∀ k, g k ≤ 2) (hz : ∀ k, 32 ≤ k → g k = 0) : hd2 (fsm 2 g 32) = fsm 4 (fun k => g (2 * k) + g (2 * k + 1)) 16 := by
  have hg4 : ∀ k, g k < 2 ^ 2 := fun k => by have := hg k; omega
  have e3 : (3689348814741910323 : Nat) = fsm 2 (fun k => if k % 2 = 0 then 2 ^ 2 - 1 else 0) (2 * 16) := by decide +kernel
  have e1 := fsm_even hg4 16
  have e2 : fsm 2 g 32 / 4 = fsm 2 (fun k => g (k + 1)) 32 := fsm_shr (m := 2) (g := g) (hg4 0) (n := 31) (hz 32 (by omega))
  have e4 := fsm_even (m := 2) (g := fun k => g (k + 1)) (fun k => hg4 _) 16
  unfold hd2
  rw [e2, e3, show (32 : Nat) = 2 * 16 from rfl, e1, e4, ← fsm_add]
theorem hd3_ok {g : Nat → Nat} (hg : ∀ k, g k ≤ 4) (hz : ∀ k, 16 ≤ k → g k = 0) : fsm 4 g 16 + fsm 4 g 16 / 16 < 2 ^ 64 ∧ hd3 (fsm 4 g 16) = fsm 8 (fun k => g (2 * k) + g (2 * k + 1)) 8 := by
  have hg4 : ∀ k, g k < 2 ^ 4 := fun k => by have := hg k; omega
  have e2 : fsm 4 g 16 / 16 = fsm 4 (fun k => g (k + 1)) 16 := fsm_shr (m := 4) (g := g) (hg4 0) (n := 15) (hz 16 (by omega))
  have e5 : fsm 4 g 16 + fsm 4 g 16 / 16 = fsm 4 (fun k => g k + g (k + 1)) 16 := by rw [e2, ← fsm_add]
  have hs : ∀ k, g k + g (k + 1) < 2 ^ 4 := fun k => by have := hg k; have := hg (k + 1); omega
  have e3 : (1085102592571150095 : Nat) = fsm 4 (fun k => if k % 2 = 0 then 2 ^ 4 - 1 else 0) (2 * 8) := by decide +kernel
  have e1 := fsm_even (m := 4) (g := fun k => g k + g (k + 1)) hs 8
  unfold hd3
  rw [e5]
  refine ⟨fsm_lt hs 16, ?_⟩
  rw [e3, show (16 : Nat) = 2 * 8 from rfl, e1]
/-- a shift by whole fields -/
theorem fsm_shrs {m : Nat} {g : Nat → Nat} (hg : ∀ k, g k < 2 ^ m) {n : Nat} (hz : ∀ k, n ≤ k → g k = 0) : ∀ j, fsm m g n / 2 ^ (m * j) = fsm m (fun k => g (k + j)) n
  | 0 => by simp
  | j + 1 => by
    rw [Nat.mul_succ, Nat.pow_add, ← Nat.div_div_eq_div_mul, fsm_shrs hg hz j]
    cases n with
    | zero => simp [fsm]
    | succ n =>
      rw [fsm_shr (g := fun k => g (k + j)) (hg _) (hz _ (by omega))]
      apply fsm_congr
      intro k _
      rw [show k + 1 + j = k + (j + 1) by omega]
theorem hd_end {g : Nat → Nat} (hg : ∀ k, g k ≤ 8) (hz : ∀ k, 8 ≤ k → g k = 0) :
    let a := fsm 8 g 8
    let b := a + a / 256
    let c := b + b / 65536
    let d := c + c / 4294967296
    b < 2 ^ 64 ∧ c < 2 ^ 64 ∧ d < 2 ^ 64 ∧ d % 128 = g 0 + g 1 + g 2 + g 3 + g 4 + g 5 + g 6 + g 7 := by
  intro a b c d
  have h8 : ∀ k, g k < 2 ^ 8 := fun k => by have := hg k; omega
  have eb : b = fsm 8 (fun k => g k + g (k + 1)) 8 := by
    show fsm 8 g 8 + fsm 8 g 8 / 2 ^ (8 * 1) = _
    rw [fsm_shrs h8 hz 1, ← fsm_add]
  have hb8 : ∀ k, g k + g (k + 1) < 2 ^ 8 := fun k => by have := hg k; have := hg (k + 1); omega
  have hbz : ∀ k, 8 ≤ k → g k + g (k + 1) = 0 := fun k hk => by rw [hz k hk, hz (k + 1) (by omega)]
  have ec : c = fsm 8 (fun k => (g k + g (k + 1)) + (g (k + 2) + g (k + 2 + 1))) 8 := by
    show b + b / 2 ^ (8 * 2) = _
    rw [eb, fsm_shrs (g := fun k => g k + g (k + 1)) hb8 hbz 2, ← fsm_add]
  have hc8 : ∀ k, (g k + g (k + 1)) + (g (k + 2) + g (k + 2 + 1)) < 2 ^ 8 := fun k => by
    have := hg k; have := hg (k + 1); have := hg (k + 2); have := hg (k + 2 + 1); omega
  have hcz : ∀ k, 8 ≤ k → (g k + g (k + 1)) + (g (k + 2) + g (k + 2 + 1)) = 0 := fun k hk => by
    rw [hz k hk, hz (k + 1) (by omega), hz (k + 2) (by omega), hz (k + 2 + 1) (by omega)]
  have ed : d = fsm 8 (fun k => ((g k + g (k + 1)) + (g (k + 2) + g (k + 2 + 1))) + ((g (k + 4) + g (k + 4 + 1)) + (g (k + 4 + 2) + g (k + 4 + 2 + 1)))) 8 := by
    show c + c / 2 ^ (8 * 4) = _
    rw [ec, fsm_shrs (g := fun k => (g k + g (k + 1)) + (g (k + 2) + g (k + 2 + 1))) hc8 hcz 4, ← fsm_add]
  have hd8 : ∀ k, ((g k + g (k + 1)) + (g (k + 2) + g (k + 2 + 1))) + ((g (k + 4) + g (k + 4 + 1)) + (g (k + 4 + 2) + g (k + 4 + 2 + 1))) < 2 ^ 8 := fun k => by
    have := hg k; have := hg (k + 1); have := hg (k + 2); have := hg (k + 2 + 1); have := hg (k + 4); have := hg (k + 4 + 1); have := hg (k + 4 + 2); have := hg (k + 4 + 2 + 1); omega
  refine ⟨by rw [eb]; exact fsm_lt hb8 8, by rw [ec]; exact fsm_lt hc8 8, by rw [ed]; exact fsm_lt hd8 8, ?_⟩
  have el := fsm_low 8 (fun k => ((g k + g (k + 1)) + (g (k + 2) + g (k + 2 + 1))) + ((g (k + 4) + g (k + 4 + 1)) + (g (k + 4 + 2) + g (k + 4 + 2 + 1)))) 7
  rw [ed, el]
  have := hg 0; have := hg 1; have := hg 2; have := hg 3; have := hg 4; have := hg 5; have := hg 6; have := hg 7
  have e0 : ((g 0 + g (0 + 1)) + (g (0 + 2) + g (0 + 2 + 1))) + ((g (0 + 4) + g (0 + 4 + 1)) + (g (0 + 4 + 2) + g (0 + 4 + 2 + 1))) = g 0 + g 1 + g 2 + g 3 + g 4 + g 5 + g 6 + g 7 := by
    simp only [Nat.zero_add, Nat.reduceAdd]
    omega
  rw [e0]
  generalize fsm 8 _ 7 = z
  have hy : g 0 + g 1 + g 2 + g 3 + g 4 + g 5 + g 6 + g 7 ≤ 64 := by omega
  generalize g 0 + g 1 + g 2 + g 3 + g 4 + g 5 + g 6 + g 7 = y at hy ⊢
  omega
/-- the whole: what the JDK's bit count comes to -/
def hdB (n : Nat) : Nat := hd3 (hd2 (hd1 n))
theorem cnt8 (n a : Nat) : cnt (fun k => n.testBit (a + k)) 8 = bt1 n a + bt1 n (a + 1) + bt1 n (a + 2) + bt1 n (a + 3) + bt1 n (a + 4) + bt1 n (a + 5) + bt1 n (a + 6) + bt1 n (a + 7) := by
  show 0 + bt1 n (a + 0) + bt1 n (a + 1) + bt1 n (a + 2) + bt1 n (a + 3) + bt1 n (a + 4) + bt1 n (a + 5) + bt1 n (a + 6) + bt1 n (a + 7) = _
  rw [Nat.zero_add, Nat.add_zero]
theorem hd_pop {n : Nat} (h : n < 2 ^ 64) :
    let a := hdB n
    let b := a + a / 256
    let c := b + b / 65536
    let d := c + c / 4294967296
    b < 2 ^ 64 ∧ c < 2 ^ 64 ∧ d < 2 ^ 64 ∧ d % 128 = cnt n.testBit 64 := by
  have z : ∀ k, 64 ≤ k → bt1 n k = 0 := fun k hk => bt1_big (Nat.lt_of_lt_of_le h (Nat.pow_le_pow_right (by omega) hk))
  have l1 : ∀ k, bt1 n k ≤ 1 := fun k => by have := bt1_lt n k; omega
  have e1 := (hd1_ok h).2
  have e2 := hd2_ok (g := fun k => bt1 n (2 * k) + bt1 n (2 * k + 1)) (fun k => by have := l1 (2 * k); have := l1 (2 * k + 1); omega) (fun k hk => by rw [z (2 * k) (by omega), z (2 * k + 1) (by omega)])
  have e3 := hd3_ok (g := fun k => (bt1 n (2 * (2 * k)) + bt1 n (2 * (2 * k) + 1)) + (bt1 n (2 * (2 * k + 1)) + bt1 n (2 * (2 * k + 1) + 1)))
    (fun k => by have := l1 (2 * (2 * k)); have := l1 (2 * (2 * k) + 1); have := l1 (2 * (2 * k + 1)); have := l1 (2 * (2 * k + 1) + 1); omega)
    (fun k hk => by rw [z (2 * (2 * k)) (by omega), z (2 * (2 * k) + 1) (by omega), z (2 * (2 * k + 1)) (by omega), z (2 * (2 * k + 1) + 1) (by omega)])
  have e4 := hd_end (g := fun k => ((bt1 n (2 * (2 * (2 * k))) + bt1 n (2 * (2 * (2 * k)) + 1)) + (bt1 n (2 * (2 * (2 * k) + 1)) + bt1 n (2 * (2 * (2 * k) + 1) + 1))) + ((bt1 n (2 * (2 * (2 * k + 1))) + bt1 n (2 * (2 * (2 * k + 1)) + 1)) + (bt1 n (2 * (2 * (2 * k + 1) + 1)) + bt1 n (2 * (2 * (2 * k + 1) + 1) + 1))))
    (fun k => by have := l1 (2 * (2 * (2 * k))); have := l1 (2 * (2 * (2 * k)) + 1); have := l1 (2 * (2 * (2 * k) + 1)); have := l1 (2 * (2 * (2 * k) + 1) + 1); have := l1 (2 * (2 * (2 * k + 1))); have := l1 (2 * (2 * (2 * k + 1)) + 1); have := l1 (2 * (2 * (2 * k + 1) + 1)); have := l1 (2 * (2 * (2 * k + 1) + 1) + 1); omega)
    (fun k hk => by rw [z (2 * (2 * (2 * k))) (by omega), z (2 * (2 * (2 * k)) + 1) (by omega), z (2 * (2 * (2 * k) + 1)) (by omega), z (2 * (2 * (2 * k) + 1) + 1) (by omega), z (2 * (2 * (2 * k + 1))) (by omega), z (2 * (2 * (2 * k + 1)) + 1) (by omega), z (2 * (2 * (2 * k + 1) + 1)) (by omega), z (2 * (2 * (2 * k + 1) + 1) + 1) (by omega)])
  have ea : hdB n = fsm 8 (fun k => ((bt1 n (2 * (2 * (2 * k))) + bt1 n (2 * (2 * (2 * k)) + 1)) + (bt1 n (2 * (2 * (2 * k) + 1)) + bt1 n (2 * (2 * (2 * k) + 1) + 1))) + ((bt1 n (2 * (2 * (2 * k + 1))) + bt1 n (2 * (2 * (2 * k + 1)) + 1)) + (bt1 n (2 * (2 * (2 * k + 1) + 1)) + bt1 n (2 * (2 * (2 * k + 1) + 1) + 1)))) 8 := by
    unfold hdB
    rw [e1, e2, e3.2]
  rw [ea]
  refine ⟨e4.1, e4.2.1, e4.2.2.1, e4.2.2.2.trans ?_⟩
  have a1 : cnt n.testBit 64 = cnt n.testBit 56 + cnt (fun k => n.testBit (56 + k)) 8 := cnt_add n.testBit 56 8
  have a2 : cnt n.testBit 56 = cnt n.testBit 48 + cnt (fun k => n.testBit (48 + k)) 8 := cnt_add n.testBit 48 8
  have a3 : cnt n.testBit 48 = cnt n.testBit 40 + cnt (fun k => n.testBit (40 + k)) 8 := cnt_add n.testBit 40 8
  have a4 : cnt n.testBit 40 = cnt n.testBit 32 + cnt (fun k => n.testBit (32 + k)) 8 := cnt_add n.testBit 32 8
  have a5 : cnt n.testBit 32 = cnt n.testBit 24 + cnt (fun k => n.testBit (24 + k)) 8 := cnt_add n.testBit 24 8
  have a6 : cnt n.testBit 24 = cnt n.testBit 16 + cnt (fun k => n.testBit (16 + k)) 8 := cnt_add n.testBit 16 8
  have a7 : cnt n.testBit 16 = cnt n.testBit 8 + cnt (fun k => n.testBit (8 + k)) 8 := cnt_add n.testBit 8 8
  have a8 : cnt n.testBit 8 = 0 + cnt (fun k => n.testBit (0 + k)) 8 := cnt_add n.testBit 0 8
  rw [cnt8] at a1 a2 a3 a4 a5 a6 a7 a8
  simp only [Nat.reduceMul, Nat.reduceAdd, Nat.zero_add] at a1 a2 a3 a4 a5 a6 a7 a8 ⊢
  omega
/-! ### the lowest bits of a word -/
theorem low_form {n t : Nat} (h0 : ∀ j, j < t → n.testBit j = false) (h1 : n.testBit t = true) : ∃ u, n = 2 ^ (t + 1) * u + 2 ^ t := by
  have hm : n % 2 ^ t = 0 := by
    apply Nat.eq_of_testBit_eq
    intro i
    rw [Nat.testBit_mod_two_pow, Nat.zero_testBit]
    by_cases hi : i < t
    · rw [h0 i hi]; simp
    · simp [hi]
  have h2 : n / 2 ^ t % 2 = 1 := by
    rw [Nat.testBit_eq_decide_div_mod_eq] at h1
    exact of_decide_eq_true h1
  refine ⟨n / 2 ^ t / 2, ?_⟩
  have e1 : n = 2 ^ t * (n / 2 ^ t) + n % 2 ^ t := (Nat.div_add_mod n (2 ^ t)).symm
  have e2 : n / 2 ^ t = 2 * (n / 2 ^ t / 2) + 1 := by omega
  generalize n / 2 ^ t / 2 = u at e2
  rw [hm, Nat.add_zero, e2] at e1
  rw [e1, Nat.pow_succ, Nat.mul_add, Nat.mul_one, Nat.mul_assoc]
/-- a word that isn't 0 has a lowest bit -/
theorem xB_low {x : Int64} (h : ¬ x = 0) : ∃ t, t < 64 ∧ xB x t = true ∧ ∀ j, j < t → xB x j = false := by
  obtain ⟨b, hb, hx⟩ := xB_nz h
  obtain ⟨t, ht, hm⟩ := pk_least (fun k => xB x k = true) ⟨b, hx⟩
  refine ⟨t, ?_, ht, fun j hj => ?_⟩
  · rcases Nat.lt_or_ge t 64 with q | q
    · exact q
    · rw [xB_big q] at ht; cases ht
  · cases hc : xB x j with
    | false => rfl
    | true => exact absurd hc (hm j hj)
theorem uN_one : uN 1 = 1 := rfl
/-- without its lowest bit -/
theorem xB_clr {x : Int64} {t : Nat} (ht : t < 64) (h1 : xB x t = true) (h0 : ∀ j, j < t → xB x j = false) (j : Nat) : xB (x &&& (x - 1)) j = (xB x j && decide (j ≠ t)) := by
  obtain ⟨u, hu⟩ := low_form (n := uN x) h0 h1
  have hp := Nat.two_pow_pos t
  have hlt := uN_lt x
  have hs : uN (x - 1) = 2 ^ (t + 1) * u + (2 ^ t - 1) := by
    rw [uN_sub, uN_one]
    have : uN x ≥ 1 := by omega
    omega
  have ha : uN (x &&& (x - 1)) = 2 ^ (t + 1) * u + 0 := by
    rw [uN_and, hs]
    conv => lhs; lhs; rw [hu]
    rw [and_cat (by rw [Nat.pow_succ]; omega) (by rw [Nat.pow_succ]; omega), Nat.and_self, Nat.and_two_pow_sub_one_eq_mod, Nat.mod_self]
  unfold xB
  rw [ha, Nat.testBit_two_pow_mul_add _ (Nat.two_pow_pos _)]
  by_cases hj : j < t + 1
  · rw [if_pos hj, Nat.zero_testBit]
    by_cases hj2 : j = t
    · simp [hj2]
    · have : (uN x).testBit j = false := h0 j (by omega)
      rw [this]
      rfl
  · rw [if_neg hj]
    have e : (uN x).testBit j = u.testBit (j - (t + 1)) := by
      conv => lhs; rw [hu]
      rw [Nat.testBit_two_pow_mul_add _ (by rw [Nat.pow_succ]; omega), if_neg hj]
    rw [e]
    have : decide (j ≠ t) = true := decide_eq_true (by omega)
    rw [this, Bool.and_true]
/-- the lowest bit alone, less one: the bits below it -/
theorem pop_low {x : Int64} {t : Nat} (ht : t < 64) (h1 : xB x t = true) (h0 : ∀ j, j < t → xB x j = false) : pop ((x &&& (-x)) - 1) = t := by
  obtain ⟨u, hu⟩ := low_form (n := uN x) h0 h1
  have hp := Nat.two_pow_pos t
  have hlt := uN_lt x
  have hpow : (18446744073709551616 : Nat) = 2 ^ (t + 1) * 2 ^ (63 - t) := by
    rw [← Nat.pow_add, show t + 1 + (63 - t) = 64 by omega]
  have hu2 : u < 2 ^ (63 - t) := by
    rcases Nat.lt_or_ge u (2 ^ (63 - t)) with q | q
    · exact q
    · have := Nat.mul_le_mul_left (2 ^ (t + 1)) q
      omega
  have hn : uN (-x) = 2 ^ (t + 1) * (2 ^ (63 - t) - (u + 1)) + 2 ^ t := by
    rw [uN_neg, Nat.mod_eq_of_lt (by omega), Nat.mul_sub, hpow, Nat.mul_succ]
    have : 2 ^ (t + 1) * u + 2 ^ (t + 1) ≤ 2 ^ (t + 1) * 2 ^ (63 - t) := by
      rw [← Nat.mul_succ]
      exact Nat.mul_le_mul_left _ hu2
    have e2 : 2 ^ (t + 1) = 2 * 2 ^ t := by rw [Nat.pow_succ, Nat.mul_comm]
    omega
  have ha : uN (x &&& (-x)) = 2 ^ t := by
    rw [uN_and, hn]
    conv => lhs; lhs; rw [hu]
    rw [and_cat (by rw [Nat.pow_succ]; omega) (by rw [Nat.pow_succ]; omega), Nat.and_self]
    have : u &&& (2 ^ (63 - t) - (u + 1)) = 0 := by
      apply Nat.eq_of_testBit_eq
      intro i
      rw [Nat.testBit_and, Nat.testBit_two_pow_sub_succ hu2, Nat.zero_testBit]
      cases u.testBit i <;> simp
    rw [this]
    omega
  have hm : uN ((x &&& (-x)) - 1) = 2 ^ t - 1 := by
    rw [uN_sub, uN_one, ha]
    have : 2 ^ t < 18446744073709551616 := by rw [← ha]; exact uN_lt _
    omega
  have hb : ∀ j, xB ((x &&& (-x)) - 1) j = decide (j < t) := fun j => by
    unfold xB
    rw [hm, Nat.testBit_two_pow_sub_one]
  unfold pop
  have e : (64 : Nat) = t + (64 - t) := by omega
  rw [e, cnt_add, cnt_zero (n := 64 - t) (fun k _ => by rw [hb]; exact decide_eq_false (by omega)), Nat.add_zero]
  have all : ∀ k, k ≤ t → cnt (xB ((x &&& (-x)) - 1)) k = k := by
    intro k
    induction k with
    | zero => intro _; rfl
    | succ k ih => intro hk; rw [cnt_t (by rw [hb]; exact decide_eq_true (by omega)), ih (by omega)]
  exact all t (Nat.le_refl t)
/-- k times without its lowest bit -/
def clr (x : Int64) : Nat → Int64
  | 0 => x
  | k + 1 => clr x k &&& (clr x k - 1)
theorem clr_ok (x : Int64) : ∀ k, k ≤ pop x → ∀ j, j < 64 → xB (clr x k) j = (xB x j && decide (k ≤ cnt (xB x) j))
  | 0, _, j, _ => by simp [clr]
  | k + 1, hk, j, hj => by
    have ih := clr_ok x k (by omega)
    obtain ⟨t, ht, hx, hc⟩ := cnt_hit (p := xB x) (i := k) (n := 64) (by unfold pop at hk; omega)
    have h1 : xB (clr x k) t = true := by rw [ih t ht, hx, hc]; simp
    have h0 : ∀ i, i < t → xB (clr x k) i = false := fun i hi => by
      rw [ih i (by omega)]
      cases hxi : xB x i with
      | false => rfl
      | true =>
        have := cnt_mono (xB x) (show i + 1 ≤ t from hi)
        rw [cnt_t hxi] at this
        have hlt : ¬ k ≤ cnt (xB x) i := by omega
        simp [hlt]
    show xB (clr x k &&& (clr x k - 1)) j = _
    rw [xB_clr ht h1 h0 j, ih j hj]
    cases hxj : xB x j with
    | false => rfl
    | true =>
      simp only [Bool.true_and]
      rcases Nat.lt_trichotomy j t with q | q | q
      · have := cnt_mono (xB x) (show j + 1 ≤ t from q)
        rw [cnt_t hxj] at this
        have a1 : ¬ k ≤ cnt (xB x) j := by omega
        have a2 : ¬ k + 1 ≤ cnt (xB x) j := by omega
        simp [a1, a2]
      · subst q
        simp [hc]
      · have := cnt_mono (xB x) (show t + 1 ≤ j from q)
        rw [cnt_t hx] at this
        have a1 : k ≤ cnt (xB x) j := by omega
        have a2 : k + 1 ≤ cnt (xB x) j := by omega
        have a3 : j ≠ t := by omega
        simp [a1, a2, a3]
/-- the bit that has k others below it -/
theorem clr_low {x : Int64} {k : Nat} (hk : k < pop x) : ∃ t, t < 64 ∧ xB x t = true ∧ cnt (xB x) t = k ∧ pop ((clr x k &&& (-(clr x k))) - 1) = t := by
  obtain ⟨t, ht, hx, hc⟩ := cnt_hit (p := xB x) (i := k) (n := 64) hk
  have ih := clr_ok x k (by omega)
  refine ⟨t, ht, hx, hc, pop_low ht (by rw [ih t ht, hx, hc]; simp) (fun i hi => ?_)⟩
  rw [ih i (by omega)]
  cases hxi : xB x i with
  | false => rfl
  | true =>
    have := cnt_mono (xB x) (show i + 1 ≤ t from hi)
    rw [cnt_t hxi] at this
    have hlt : ¬ k ≤ cnt (xB x) i := by omega
    simp [hlt]
