/-! The JDK's bit count, by its own steps. -/
def shr (x : Int64) (k : Nat) : Int64 := (Int64.toUInt64 x >>> (Int64.toUInt64 (Int32.toInt64 (nI k)) &&& Int64.toUInt64 63)).toInt64
theorem shr_c : ∀ k, k < 64 → (Int64.toUInt64 (Int32.toInt64 (nI k)) &&& Int64.toUInt64 63).toNat % 64 = k := by decide +kernel
theorem uN_sk (x : Int64) {k : Nat} (hk : k < 64) : uN (shr x k) = uN x / 2 ^ k := by
  unfold shr
  rw [uN_shr, shr_c k hk]
def bs1 (x : Int64) : Int64 := x - (shr x 1 &&& 6148914691236517205)
def bs2 (x : Int64) : Int64 := (x &&& 3689348814741910323) + (shr x 2 &&& 3689348814741910323)
def bs3 (x : Int64) : Int64 := (x + shr x 4) &&& 1085102592571150095
def bs4 (x : Int64) : Int64 := x + shr x 8
def bs5 (x : Int64) : Int64 := x + shr x 16
def bs6 (x : Int64) : Int64 := x + shr x 32
def bcI (x : Int64) : Int32 := Int64.toInt32 (bs6 (bs5 (bs4 (bs3 (bs2 (bs1 x)))))) &&& nI 127
theorem i32_127 (x : Int64) : Int64.toInt32 x &&& nI 127 = nI (uN x % 128) := by
  rw [pk_and (Int64.toInt32 x) (m := nI 127) 7 (by decide)]
  congr 1
  have e : (Int64.toInt32 x).toBitVec.toNat = uN x % 2 ^ 32 := by
    rw [Int64.toBitVec_toInt32, BitVec.signExtend_eq_setWidth_of_le _ (by omega), BitVec.toNat_setWidth]
    rfl
  rw [e]
  omega
theorem bcI_pop (x : Int64) : bcI x = nI (pop x) := by
  have hx : uN x < 2 ^ 64 := uN_lt x
  have h1 := hd1_ok hx
  have z : ∀ k, 64 ≤ k → bt1 (uN x) k = 0 := fun k hk => bt1_big (Nat.lt_of_lt_of_le hx (Nat.pow_le_pow_right (by omega) hk))
  have l1 : ∀ k, bt1 (uN x) k ≤ 1 := fun k => by have := bt1_lt (uN x) k; omega
  have e1 : uN (bs1 x) = hd1 (uN x) := by
    unfold bs1
    rw [uN_sub, uN_and, uN_sk x (by omega), show uN 6148914691236517205 = 6148914691236517205 from rfl, show (2 : Nat) ^ 1 = 2 from rfl]
    have := h1.1
    unfold hd1
    omega
  have g2 : ∀ k, (fun k => bt1 (uN x) (2 * k) + bt1 (uN x) (2 * k + 1)) k ≤ 2 := fun k => by have := l1 (2 * k); have := l1 (2 * k + 1); show bt1 (uN x) (2 * k) + bt1 (uN x) (2 * k + 1) ≤ 2; omega
  have e2' := hd2_ok (g := fun k => bt1 (uN x) (2 * k) + bt1 (uN x) (2 * k + 1)) g2 (fun k hk => by rw [z (2 * k) (by omega), z (2 * k + 1) (by omega)])
  have g4 : ∀ k, (bt1 (uN x) (2 * (2 * k)) + bt1 (uN x) (2 * (2 * k) + 1)) + (bt1 (uN x) (2 * (2 * k + 1)) + bt1 (uN x) (2 * (2 * k + 1) + 1)) ≤ 4 := fun k => by
    have := l1 (2 * (2 * k)); have := l1 (2 * (2 * k) + 1); have := l1 (2 * (2 * k + 1)); have := l1 (2 * (2 * k + 1) + 1); omega
  have lt2 : hd2 (hd1 (uN x)) < 2 ^ 64 := by
    rw [h1.2, e2']
    exact fsm_lt (m := 4) (fun k => by have := g4 k; show _ < 16; omega) 16
  have e2 : uN (bs2 (bs1 x)) = hd2 (hd1 (uN x)) := by
    unfold bs2
    rw [uN_add, uN_and, uN_and, uN_sk _ (by omega), show uN 3689348814741910323 = 3689348814741910323 from rfl, e1, show (2 : Nat) ^ 2 = 4 from rfl]
    unfold hd2 at lt2 ⊢
    omega
  have e3' := hd3_ok (g := fun k => (bt1 (uN x) (2 * (2 * k)) + bt1 (uN x) (2 * (2 * k) + 1)) + (bt1 (uN x) (2 * (2 * k + 1)) + bt1 (uN x) (2 * (2 * k + 1) + 1))) g4
    (fun k hk => by rw [z (2 * (2 * k)) (by omega), z (2 * (2 * k) + 1) (by omega), z (2 * (2 * k + 1)) (by omega), z (2 * (2 * k + 1) + 1) (by omega)])
  have e3 : uN (bs3 (bs2 (bs1 x))) = hdB (uN x) := by
    unfold bs3 hdB
    rw [uN_and, uN_add, uN_sk _ (by omega), show uN 1085102592571150095 = 1085102592571150095 from rfl, e2]
    have := e3'.1
    rw [← e2', ← h1.2] at this
    unfold hd3
    rw [Nat.mod_eq_of_lt this]
  obtain ⟨b1, c1, d1, r1⟩ := hd_pop hx
  have e4 : uN (bs4 (bs3 (bs2 (bs1 x)))) = hdB (uN x) + hdB (uN x) / 256 := by
    unfold bs4
    rw [uN_add, uN_sk _ (by omega), e3]
    exact Nat.mod_eq_of_lt b1
  have e5 : uN (bs5 (bs4 (bs3 (bs2 (bs1 x))))) = hdB (uN x) + hdB (uN x) / 256 + (hdB (uN x) + hdB (uN x) / 256) / 65536 := by
    unfold bs5
    rw [uN_add, uN_sk _ (by omega), e4]
    exact Nat.mod_eq_of_lt c1
  have e6 : uN (bs6 (bs5 (bs4 (bs3 (bs2 (bs1 x)))))) = hdB (uN x) + hdB (uN x) / 256 + (hdB (uN x) + hdB (uN x) / 256) / 65536 + (hdB (uN x) + hdB (uN x) / 256 + (hdB (uN x) + hdB (uN x) / 256) / 65536) / 4294967296 := by
    unfold bs6
    rw [uN_add, uN_sk _ (by omega), e5]
    exact Nat.mod_eq_of_lt d1
  unfold bcI
  rw [i32_127, e6]
  exact congrArg nI r1
/-! What the class's methods answer, as functions: no machine here. -/
theorem ts_f {b : Bool} (h : ¬ b = true) : b = false := by cases b <;> first | rfl | exact absurd rfl h
theorem bcase (b : Bool) : b = false ∨ b = true := by cases b <;> simp
theorem ocase {α : Type} (o : Option α) : o = none ∨ ∃ q, o = some q := by cases o <;> simp
theorem i32_nlt {x y : Int32} (h : y ≤ x) : ¬ x < y := by
  rw [Int32.lt_iff_toInt_lt]
  rw [Int32.le_iff_toInt_le] at h
  omega
theorem i32_lt {x y : Int32} (h : ¬ y ≤ x) : x < y := by
  rw [Int32.lt_iff_toInt_lt]
  rw [Int32.le_iff_toInt_le] at h
  omega
/-- an array of references, asked at any int -/
def oAt (N : Nat) (mk : Nat → Option Nat) (x : Int32) : Option Nat := if blw x (nI N) = true then mk x.toNatClampNeg else none
theorem oAt_nI {N : Nat} {mk : Nat → Option Nat} {j : Nat} (hj : j < N) (hN : N < 2 ^ 31) : oAt N mk (nI j) = mk j := by
  unfold oAt
  rw [blw_nI hN (by omega), decide_eq_true hj, if_pos rfl, nI_clamp (by omega)]
theorem oAt_no {N : Nat} {mk : Nat → Option Nat} {x : Int32} (h : blw x (nI N) = false) : oAt N mk x = none := by
  unfold oAt
  rw [h]
  rfl
/-- the first n places of an array hold something -/
def upto (n : Nat) (ad : Nat → Nat) : Nat → Option Nat := fun i => if i < n then some (ad i) else none
theorem upto_t {n : Nat} {ad : Nat → Nat} {i : Nat} (h : i < n) : upto n ad i = some (ad i) := if_pos h
theorem upto_f {n : Nat} {ad : Nat → Nat} {i : Nat} (h : n ≤ i) : upto n ad i = none := if_neg (by omega)
theorem oAt_t {N n : Nat} {ad : Nat → Nat} {i : Nat} (hN : N < 2 ^ 31) (hn : n ≤ N) (h : i < n) : oAt N (upto n ad) (nI i) = some (ad i) := (oAt_nI (by omega) hN).trans (upto_t h)
theorem oAt_f {N n : Nat} {ad : Nat → Nat} {i : Nat} (hN : N < 2 ^ 31) (hi : i < N) (h : n ≤ i) : oAt N (upto n ad) (nI i) = none := (oAt_nI hi hN).trans (upto_f h)
def shl (x : Int64) (k : Nat) : Int64 := x <<< (Int32.toInt64 (nI k) &&& 63)
/-! ### the condition book -/
/-- the book of conditions, as its cells lie -/
def CoB (G : GG) (L : List Nat) (f : Nat → va_E) (cb mA gA n : Nat) (ad wa kd : Nat → Nat) (ka kb kc : Nat → Int32) (wd : Nat → Nat → Int64) (mm : Nat → Bool) : Prop :=
  n ≤ 60 ∧ Lk L f cb (.inr (1, [.ref mA, .ref gA, .int (nI n)])) ∧ Lk L f mA (.inl (G.2 2, 60, .inr (.inr (.inr (.inr (upto n ad)))))) ∧ Lk L f gA (.inl (G.2 1, 64, .inl (fun k => bI (mm k)))) ∧
  ∀ i, i < n → Lk L f (ad i) (.inr (0, [.int (nI (kd i)), .int (ka i), .int (kb i), .int (kc i), .ref (wa i)])) ∧ Lk L f (wa i) (.inl (G.2 0, 96, .inr (.inl (wd i))))
def vfR (a b : Nat) : Nat → Int64
  | 0 => 0
  | i + 1 => if a ≤ i ∧ i ≤ b then vfR a b i ||| shl 72340172838076673 i else vfR a b i
def two3 (x y z : Int64) : Int64 := ((x &&& y) ||| (x &&& z)) ||| (y &&& z)
def prW (w a : Nat) : Int64 := if w % 3 = a / 2 then shl 4294967295 (a % 2 * 4 * 8) else 0
/-- a condition's word, out of the words of those before it -/
def wrd (mm : Nat → Bool) (wd : Nat → Nat → Int64) (k a b c w : Nat) : Int64 :=
  if k = 0 then (if w / 12 = a then -1 else 0)
  else if k = 1 then (if mm (w / 12 * 8 + a) = true then -1 else 0)
  else if k = 2 then (if w % 12 / 3 = a then -1 else 0)
  else if k = 3 then prW w a
  else if k = 4 then shl 1095216660735 (a * 8)
  else if k = 5 then vfR a b 8
  else if k = 6 then wd a w ^^^ (-1)
  else if k = 7 then wd a w &&& wd b w
  else if k = 8 then wd a w ||| wd b w
  else if k = 9 then -1
  else two3 (wd a w) (wd b w) (wd c w)
/-- the numbers of a condition, as they may be where n others stand -/
def okC (n k : Nat) (ka kb kc : Int32) (a b c : Nat) : Prop :=
  k ≤ 10 ∧ (k ≠ 9 → ka = nI a) ∧ (k = 5 ∨ k = 7 ∨ k = 8 ∨ k = 10 → kb = nI b) ∧ (k = 10 → kc = nI c) ∧
  (k = 0 → a < 8) ∧ (k = 1 → a < 8) ∧ (k = 2 → a < 4) ∧ (k = 3 → a < 6) ∧ (k = 4 → a < 4) ∧ (k = 5 → a ≤ b ∧ b < 8) ∧ (k = 6 → a < n) ∧ (k = 7 ∨ k = 8 → a < n ∧ b < n) ∧ (k = 10 → a < n ∧ b < n ∧ c < n)
/-- canBe -/
def cOK (n : Nat) (k a b c : Int32) : Bool :=
  if k = nI 0 then blw a (nI 8) else if k = nI 1 then blw a (nI 8) else if k = nI 2 then blw a (nI 4) else if k = nI 3 then blw a (nI 6) else if k = nI 4 then blw a (nI 4)
  else if k = nI 5 then (blw a (nI 8) && (blw b (nI 8) && decide (a ≤ b))) else if k = nI 6 then blw a (nI n) else if k = nI 7 then (blw a (nI n) && blw b (nI n)) else if k = nI 8 then (blw a (nI n) && blw b (nI n))
  else if k = nI 9 then true else if k = nI 10 then (blw a (nI n) && (blw b (nI n) && blw c (nI n))) else false
theorem k11 (k : Int32) : k = nI 0 ∨ k = nI 1 ∨ k = nI 2 ∨ k = nI 3 ∨ k = nI 4 ∨ k = nI 5 ∨ k = nI 6 ∨ k = nI 7 ∨ k = nI 8 ∨ k = nI 9 ∨ k = nI 10 ∨ (k.toInt < 0 ∨ 10 < k.toInt) := by
  by_cases h : k.toInt < 0 ∨ 10 < k.toInt
  · exact Or.inr (Or.inr (Or.inr (Or.inr (Or.inr (Or.inr (Or.inr (Or.inr (Or.inr (Or.inr (Or.inr h))))))))))
  · have e : ∀ j : Nat, j < 11 → k.toInt = (j : Int) → k = nI j := fun j hj h2 => Int32.toInt_inj.mp (by rw [h2, nI_toInt (by omega)])
    have h3 : k.toInt = ((0 : Nat) : Int) ∨ k.toInt = ((1 : Nat) : Int) ∨ k.toInt = ((2 : Nat) : Int) ∨ k.toInt = ((3 : Nat) : Int) ∨ k.toInt = ((4 : Nat) : Int) ∨ k.toInt = ((5 : Nat) : Int) ∨ k.toInt = ((6 : Nat) : Int) ∨ k.toInt = ((7 : Nat) : Int) ∨ k.toInt = ((8 : Nat) : Int) ∨ k.toInt = ((9 : Nat) : Int) ∨ k.toInt = ((10 : Nat) : Int) := by omega
    rcases h3 with q | q | q | q | q | q | q | q | q | q | q
    · exact Or.inl (e 0 (by omega) q)
    · exact Or.inr (Or.inl (e 1 (by omega) q))
    · exact Or.inr (Or.inr (Or.inl (e 2 (by omega) q)))
    · exact Or.inr (Or.inr (Or.inr (Or.inl (e 3 (by omega) q))))
    · exact Or.inr (Or.inr (Or.inr (Or.inr (Or.inl (e 4 (by omega) q)))))
    · exact Or.inr (Or.inr (Or.inr (Or.inr (Or.inr (Or.inl (e 5 (by omega) q))))))
    · exact Or.inr (Or.inr (Or.inr (Or.inr (Or.inr (Or.inr (Or.inl (e 6 (by omega) q)))))))
    · exact Or.inr (Or.inr (Or.inr (Or.inr (Or.inr (Or.inr (Or.inr (Or.inl (e 7 (by omega) q))))))))
    · exact Or.inr (Or.inr (Or.inr (Or.inr (Or.inr (Or.inr (Or.inr (Or.inr (Or.inl (e 8 (by omega) q)))))))))
    · exact Or.inr (Or.inr (Or.inr (Or.inr (Or.inr (Or.inr (Or.inr (Or.inr (Or.inr (Or.inl (e 9 (by omega) q))))))))))
    · exact Or.inr (Or.inr (Or.inr (Or.inr (Or.inr (Or.inr (Or.inr (Or.inr (Or.inr (Or.inr (Or.inl (e 10 (by omega) q)))))))))))
theorem k11_no {k : Int32} (h : k.toInt < 0 ∨ 10 < k.toInt) {j : Nat} (hj : j < 11) : ¬ k = nI j := by
  intro q
  rw [q, nI_toInt (by omega)] at h
  omega
/-! ### the rule book -/
/-- the book of rules, as its cells lie: place by place -/
def RuB (G : GG) (L : List Nat) (f : Nat → va_E) (rb rA n : Nat) (rad ca wa rk nu : Nat → Nat) (dn : Nat → Bool) (ww : Nat → Nat → Int64) : Prop :=
  n ≤ 20 ∧ Lk L f rb (.inr (3, [.ref rA, .int (nI n)])) ∧ Lk L f rA (.inl (G.2 3, 20, .inr (.inr (.inr (.inr (upto n rad)))))) ∧
  ∀ q, q < n → rk q < 10 ∧ nu q < 20 ∧ Lk L f (rad q) (.inr (2, [.int (nI (rk q)), .int (bI (dn q)), .ref (ca q), .int (nI (nu q))])) ∧
    (∃ k0 k1 k2 k3 : Int32, Lk L f (ca q) (.inr (0, [.int k0, .int k1, .int k2, .int k3, .ref (wa q)]))) ∧ Lk L f (wa q) (.inl (G.2 0, 96, .inr (.inl (ww q))))
def gob (r1 : Nat) (d1 : Bool) (r2 : Nat) (d2 : Bool) : Bool := decide (r1 < r2) || (decide (r1 = r2) && (d1 && !d2))
def rkB (r : Nat) (d t : Bool) : Nat := if (t && !d) = true then r + 1 else r
/-- the first of k places from q on -/
def fst0 (P : Nat → Bool) : Nat → Nat → Option Nat
  | 0, _ => none
  | k + 1, q => if P q = true then some q else fst0 P k (q + 1)
def plN (o : Option Nat) : Int32 := match o with
  | none => -1
  | some q => nI q
/-- those that are allowed, from place q on, of the open ones -/
def alF (ww : Nat → Nat → Int64) (dn : Nat → Bool) (w : Nat) : Nat → Nat → Int64 → Int64 → Int64
  | 0, _, _, al => al
  | k + 1, q, left, al => if left = 0 then al else alF ww dn w k (q + 1) (left &&& ((left &&& ww q w) ^^^ (-1))) (al ||| (if dn q = true then 0 else left &&& ww q w))
/-- what is left behind the places from q on -/
def deF (ww : Nat → Nat → Int64) (w : Nat) : Nat → Nat → Int64 → Int64
  | 0, _, left => left
  | k + 1, q, left => if left = 0 then left else deF ww w k (q + 1) (left &&& (ww q w ^^^ (-1)))
def tuF (ww : Nat → Nat → Int64) (dn : Nat → Bool) (n q w : Nat) : Int64 :=
  if dn q = true then alF ww dn w (n - (q + 1)) (q + 1) (deF ww w q 0 (ww q w)) 0
  else deF ww w q 0 (ww q w) &&& (alF ww dn w (n - (q + 1)) (q + 1) (deF ww w q 0 (ww q w)) 0 ^^^ (-1))
def idF (ww : Nat → Nat → Int64) (rk : Nat → Nat) (dn : Nat → Bool) (t : Bool) (w : Nat) : Nat → Nat → Int64 → Nat → Nat
  | 0, _, left, r => if left = 0 then r else 10
  | k + 1, q, left, r => if left = 0 then r else idF ww rk dn t w k (q + 1) (left &&& (ww q w ^^^ (-1))) (rkB (rk q) (dn q) t)
def isNo (n : Nat) (nu : Nat → Nat) (x : Int32) (q : Nat) : Bool := decide (q < n ∧ nI (nu q) = x)
theorem isNo_t {n : Nat} {nu : Nat → Nat} {x : Int32} {q : Nat} (h : q < n) (e : nI (nu q) = x) : isNo n nu x q = true := decide_eq_true ⟨h, e⟩
theorem isNo_f1 {n : Nat} {nu : Nat → Nat} {x : Int32} {q : Nat} (h : ¬ q < n) : ¬ isNo n nu x q = true := fun z => h (of_decide_eq_true z).1
theorem isNo_f2 {n : Nat} {nu : Nat → Nat} {x : Int32} {q : Nat} (h : ¬ nI (nu q) = x) : ¬ isNo n nu x q = true := fun z => h (of_decide_eq_true z).2
def isPl (n r0 : Nat) (d0 : Bool) (rk : Nat → Nat) (dn : Nat → Bool) (q : Nat) : Bool := decide (n ≤ q) || gob r0 d0 (rk q) (dn q)
theorem isPl_t1 {n r0 : Nat} {d0 : Bool} {rk : Nat → Nat} {dn : Nat → Bool} {q : Nat} (h : n ≤ q) : isPl n r0 d0 rk dn q = true := by unfold isPl; rw [decide_eq_true h]; rfl
theorem isPl_t2 {n r0 : Nat} {d0 : Bool} {rk : Nat → Nat} {dn : Nat → Bool} {q : Nat} (h : gob r0 d0 (rk q) (dn q) = true) : isPl n r0 d0 rk dn q = true := by unfold isPl; rw [h, Bool.or_true]
theorem isPl_f {n r0 : Nat} {d0 : Bool} {rk : Nat → Nat} {dn : Nat → Bool} {q : Nat} (h : q < n) (hg : gob r0 d0 (rk q) (dn q) = false) : ¬ isPl n r0 d0 rk dn q = true := by
  unfold isPl
  rw [hg, decide_eq_false (by omega)]
  decide
def plF (o : Option Nat) : Int32 := nI (o.getD 20)
def hit (ww : Nat → Nat → Int64) (a q : Nat) : Bool := decide (¬ ww q (a / 64) &&& shl 1 (a % 64) = 0)
theorem hit_t {ww : Nat → Nat → Int64} {a q : Nat} (h : ¬ ww q (a / 64) &&& shl 1 (a % 64) = 0) : hit ww a q = true := decide_eq_true h
theorem hit_f {ww : Nat → Nat → Int64} {a q : Nat} (h : ww q (a / 64) &&& shl 1 (a % 64) = 0) : ¬ hit ww a q = true := fun z => of_decide_eq_true z h
/-! ### the desk -/
def bpos (x : Int64) (k : Nat) : Nat := pop ((clr x k &&& (-(clr x k))) - 1)
def sumP (g : Nat → Int64) : Nat → Nat
  | 0 => 0
  | k + 1 => sumP g k + pop (g k)
def onR (g : Nat → Int32) (o : Option Nat) : Int32 := match o with
  | none => -1
  | some i => g i
def inN (n : Nat) (x : Int32) : Option Nat := if blw x (nI n) = true then some x.toNatClampNeg else none
theorem inN_t {n i : Nat} (h : i < n) (hn : n < 2 ^ 31) : inN n (nI i) = some i := by
  unfold inN
  rw [blw_nI hn (by omega), decide_eq_true h, if_pos rfl, nI_clamp (by omega)]
theorem inN_f {n : Nat} {x : Int32} (h : blw x (nI n) = false) : inN n x = none := by
  unfold inN
  rw [h]
  rfl
theorem at60 {n : Nat} {ad : Nat → Nat} (hn : n ≤ 60) (x : Int32) : (∃ i, i < n ∧ x = nI i) ∨ (blw x (nI n) = false ∧ oAt 60 (upto n ad) x = none) := by
  cases hb : blw x (nI n) with
  | true =>
    obtain ⟨i, hi, e⟩ := blw_of (by omega) hb
    exact Or.inl ⟨i, hi, e⟩
  | false =>
    refine Or.inr ⟨rfl, ?_⟩
    cases h6 : blw x (nI 60) with
    | false => exact oAt_no h6
    | true =>
      obtain ⟨j, hj, e⟩ := blw_of (by omega) h6
      subst e
      refine oAt_f (by omega) hj ?_
      rw [blw_nI (by omega) (by omega)] at hb
      have := of_decide_eq_false hb
      omega
def askR (g : Nat → Int64) : Nat → Nat → Nat → Int32
  | 0, _, _ => -2
  | k + 1, w, left => if left < pop (g w) then nI (w * 64 + bpos (g w) left) else askR g k (w + 1) (left - pop (g w))
def askY (g : Nat → Int64) (y : Int32) : Int32 := if y < 0 then -2 else askR g 96 0 y.toNatClampNeg
def winR (g h : Nat → Int64) : Nat → Nat → Int32
  | 0, _ => nI 1
  | k + 1, w => if g w &&& (h w ^^^ (-1)) = 0 then winR g h k (w + 1) else nI 0
def maxR (g : Nat → Nat) : Nat → Nat
  | 0 => 0
  | k + 1 => max (maxR g k) (g k)
theorem maxR_le {g : Nat → Nat} (h : ∀ j, g j ≤ 10) : ∀ k, maxR g k ≤ 10
  | 0 => Nat.zero_le _
  | k + 1 => Nat.max_le.mpr ⟨maxR_le h k, h k⟩
theorem nI_max {a b : Nat} (ha : a ≤ 10) (hb : b ≤ 10) : (if nI a < nI b then nI b else nI a) = nI (max a b) := by
  by_cases h : a < b
  · rw [if_pos (nI_lt h (by omega)), Nat.max_eq_right (by omega)]
  · rw [if_neg (nI_nlt (by omega) (by omega)), Nat.max_eq_left (by omega)]
theorem idF_le0 {ww : Nat → Nat → Int64} {rk : Nat → Nat} {dn : Nat → Bool} {t : Bool} {w n : Nat} (h : ∀ q, q < n → rk q < 10) : ∀ (k q : Nat) (left : Int64) (r : Nat), q + k ≤ n → r ≤ 10 → idF ww rk dn t w k q left r ≤ 10
  | 0, q, left, r, _, hr => by
    show (if left = 0 then r else 10) ≤ 10
    split <;> omega
  | k + 1, q, left, r, hq, hr => by
    show (if left = 0 then r else _) ≤ 10
    split
    · exact hr
    · refine idF_le0 h k (q + 1) _ _ (by omega) ?_
      have := h q (by omega)
      unfold rkB
      split <;> omega
theorem idF_le {ww : Nat → Nat → Int64} {rk : Nat → Nat} {dn : Nat → Bool} {t : Bool} {w n : Nat} {op : Int64} (_ : n ≤ 20) (h : ∀ q, q < n → rk q < 10) : idF ww rk dn t w n 0 op 0 ≤ 10 := idF_le0 h n 0 op 0 (by omega) (by omega)
def apR (D : Nat → Int64) (u : Nat) : Nat → Nat → Int32
  | 0, _ => -2
  | k + 1, i => if D i = 0 then apR D u k (i + 1) else nI ((u * 12 + i) * 64 + bpos (D i) 0)
def mayR (nu : Nat → Nat) (dn : Nat → Bool) (wh : Nat) (o : Option Nat) : Int32 :=
  if wh = 1 then (match o with | none => -2 | some q => nI (nu q)) else (match o with | none => nI 0 | some q => if dn q = true then nI 0 else nI 1)
def aNo (u gr pr kl v : Nat) : Nat := (((u * 4 + gr) * 6 + pr) * 4 + kl) * 8 + v
theorem fst0_t {P : Nat → Bool} : ∀ {k q0 q : Nat}, fst0 P k q0 = some q → P q = true ∧ q < q0 + k
  | 0, q0, q, h => by cases h
  | k + 1, q0, q, h => by
    by_cases hp : P q0 = true
    · have e : fst0 P (k + 1) q0 = some q0 := if_pos hp
      rw [e] at h
      cases h
      exact ⟨hp, by omega⟩
    · have e : fst0 P (k + 1) q0 = fst0 P k (q0 + 1) := if_neg hp
      rw [e] at h
      obtain ⟨h1, h2⟩ := fst0_t h
      exact ⟨h1, by omega⟩
theorem nI_m1 {n : Nat} (h : n < 2 ^ 31) : ¬ nI n = -1 := by
  intro q
  have a := nI_toInt h
  rw [q] at a
  have b : (-1 : Int32).toInt = -1 := by decide
  omega
theorem fst0_hit {P : Nat → Bool} {k q : Nat} (h : P q = true) : fst0 P (k + 1) q = some q := if_pos h
