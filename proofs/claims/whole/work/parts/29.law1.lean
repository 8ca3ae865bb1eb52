/-! The law: class and model side by side. -/
/-- the class's desk -/
def ClI (G : GG) (L : List Nat) (f : Nat → va_E) (x0 n rn : Nat) (kd : Nat → Nat) (ka kb kc : Nat → Int32) (ca cbb ccc : Nat → Nat) (mm : Nat → Bool) (nu rk : Nat → Nat) (dn : Nat → Bool) (rc : Nat → Nat) : Prop :=
  ∃ (cb rb mA gA rA : Nat) (ad wa : Nat → Nat) (wd : Nat → Nat → Int64) (rad : Nat → Nat), Lk L f x0 (.inr (4, [.ref cb, .ref rb])) ∧ CoB G L f cb mA gA n ad wa kd ka kb kc wd mm ∧ RuB0 G L f rb rA rn rad rc rk nu dn ad ∧ inj n wa ∧ inj rn rad ∧ OkW n kd ca cbb ccc wd mm
/-- the model's desk -/
def MoI (G : GG) (L : List Nat) (f : Nat → va_E) (mo n rn : Nat) (kd : Nat → Nat) (ka kb kc : Nat → Int32) (ca cbb ccc : Nat → Nat) (mm : Nat → Bool) (RK : Nat → Nat) (DN : Nat → Bool) (RC : Nat → Nat) : Prop :=
  ∃ (g2 kA fA sA tA bA r2A dA cA eA : Nat) (kn : Bool) (gf bf xf : Nat → Int32), MoB G L f mo g2 kA fA sA tA bA r2A dA cA eA n rn kn gf kd ka kb kc bf RK DN RC xf ∧ GrI gf mm ∧ BiI n mm kd ca cbb ccc bf ∧ KnI kn xf bf RK DN RC rn
def AbI (n rn : Nat) (kd : Nat → Nat) (ka kb kc : Nat → Int32) (ca cbb ccc nu rk : Nat → Nat) (dn : Nat → Bool) (rc RK : Nat → Nat) (DN : Nat → Bool) (RC : Nat → Nat) : Prop :=
  OkN n kd ka kb kc ca cbb ccc ∧ Row rn nu rk dn rc RK DN RC ∧ ∀ j, j < rn → RK j < 10 ∧ RC j < n
/-- both, of one state -/
def DI (G : GG) (L : List Nat) (f : Nat → va_E) (x0 mo : Nat) : Prop :=
  ∃ (n rn : Nat) (kd : Nat → Nat) (ka kb kc : Nat → Int32) (ca cbb ccc : Nat → Nat) (mm : Nat → Bool) (nu rk : Nat → Nat) (dn : Nat → Bool) (rc RK : Nat → Nat) (DN : Nat → Bool) (RC : Nat → Nat),
    ClI G L f x0 n rn kd ka kb kc ca cbb ccc mm nu rk dn rc ∧ MoI G L f mo n rn kd ka kb kc ca cbb ccc mm RK DN RC ∧ AbI n rn kd ka kb kc ca cbb ccc nu rk dn rc RK DN RC
/-- the class's cells are kept; the model's -/
def KC (L : List Nat) (f : Nat → va_E) (u : WU) : Prop := ∀ a e, Lk L f a e → ¬ moE e → Lk u.1 u.2 a e
def KM (L : List Nat) (f : Nat → va_E) (u : WU) : Prop := ∀ a e, Lk L f a e → moE e → Lk u.1 u.2 a e
theorem KC.of {L : List Nat} {f : Nat → va_E} {u : WU} (h : Kp (fun a => moE (f a)) L f u) : KC L f u := fun a e ha hn => h a e ha (fun q => hn (by have q : moE (f a) := q; rw [ha.2] at q; exact q))
theorem KM.of {S : Nat → Prop} {L : List Nat} {f : Nat → va_E} {u : WU} (h : Kp S L f u) (hs : ∀ a, S a → ¬ moE (f a)) : KM L f u := fun a e ha hm => h a e ha (fun q => hs a q (by rw [ha.2]; exact hm))
theorem KM.rf {L : List Nat} {f : Nat → va_E} : KM L f (L, f) := fun _ _ h _ => h
theorem MoB.km {G : GG} {L L' : List Nat} {f f' : Nat → va_E} {mo gA kA fA sA tA bA rA dA cA eA cn rn : Nat} {kn : Bool} {gf : Nat → Int32} {kd : Nat → Nat} {ka kb kc bf : Nat → Int32} {rk : Nat → Nat} {dn : Nat → Bool} {rc : Nat → Nat} {xf : Nat → Int32}
    (h : MoB G L f mo gA kA fA sA tA bA rA dA cA eA cn rn kn gf kd ka kb kc bf rk dn rc xf) (hk : KM L f (L', f')) : MoB G L' f' mo gA kA fA sA tA bA rA dA cA eA cn rn kn gf kd ka kb kc bf rk dn rc xf := by
  obtain ⟨h0, h1, h2, h3, h4, h5, h6, h7, h8, h9, h10, h11, h12, h13⟩ := h
  exact ⟨h0, h1, hk _ _ h2 rfl, hk _ _ h3 (show (8 : Nat) ≠ 64 by decide), hk _ _ h4 (show (60 : Nat) ≠ 64 by decide), hk _ _ h5 (show (60 : Nat) ≠ 64 by decide), hk _ _ h6 (show (60 : Nat) ≠ 64 by decide), hk _ _ h7 (show (60 : Nat) ≠ 64 by decide), hk _ _ h8 (show (11520 : Nat) ≠ 64 by decide), hk _ _ h9 (show (20 : Nat) ≠ 64 by decide), hk _ _ h10 (show (20 : Nat) ≠ 64 by decide), hk _ _ h11 (show (20 : Nat) ≠ 64 by decide), hk _ _ h12 (show (6144 : Nat) ≠ 64 by decide), h13⟩
section NM
variable {L : List Nat} {f : Nat → va_E} {a : Nat}
theorem nm_oo {i : Nat} {fs : List Value} (h : Lk L f a (.inr (i, fs))) (hi : i ≠ 5) : ¬ moE (f a) := by rw [h.2]; exact hi
theorem nm_zz {c : ClassId} {g : Nat → Int32} (h : Lk L f a (.inl (c, 64, .inl g))) : ¬ moE (f a) := by rw [h.2]; exact fun z => z rfl
theorem nm_rr {c : ClassId} {n : Nat} {g : (Nat → Int64) ⊕ (Nat → UInt32) ⊕ (Nat → UInt64) ⊕ (Nat → Option Nat)} (h : Lk L f a (.inl (c, n, .inr g))) : ¬ moE (f a) := by rw [h.2]; exact fun z => z
end NM
theorem KC.k {L L' : List Nat} {f f' : Nat → va_E} {a : Nat} {e : va_E} (hk : KC L f (L', f')) (h : Lk L f a e) (hn : ¬ moE (f a)) : Lk L' f' a e := hk a e h (by rw [h.2] at hn; exact hn)
theorem CoB.kc {G : GG} {L L' : List Nat} {f f' : Nat → va_E} {cb mA gA n : Nat} {ad wa kd : Nat → Nat} {ka kb kc : Nat → Int32} {wd : Nat → Nat → Int64} {mm : Nat → Bool} (h : CoB G L f cb mA gA n ad wa kd ka kb kc wd mm) (hk : KC L f (L', f')) : CoB G L' f' cb mA gA n ad wa kd ka kb kc wd mm := by
  obtain ⟨h0, h1, h2, h3, h4⟩ := h
  refine ⟨h0, hk.k h1 (nm_oo h1 (by decide)), hk.k h2 (nm_rr h2), hk.k h3 (nm_zz h3), fun i hi => ?_⟩
  obtain ⟨a1, a2⟩ := h4 i hi
  exact ⟨hk.k a1 (nm_oo a1 (by decide)), hk.k a2 (nm_rr a2)⟩
theorem RuB0.kc {G : GG} {L L' : List Nat} {f f' : Nat → va_E} {rb rA n : Nat} {rad rc rk nu ad : Nat → Nat} {dn : Nat → Bool} (h : RuB0 G L f rb rA n rad rc rk nu dn ad) (hk : KC L f (L', f')) : RuB0 G L' f' rb rA n rad rc rk nu dn ad := by
  obtain ⟨h0, h1, h2, h3⟩ := h
  refine ⟨h0, hk.k h1 (nm_oo h1 (by decide)), hk.k h2 (nm_rr h2), fun q hq => ?_⟩
  obtain ⟨a1, a2, a3⟩ := h3 q hq
  exact ⟨a1, a2, hk.k a3 (nm_oo a3 (by decide))⟩
theorem RuB0_ad {G : GG} {L : List Nat} {f : Nat → va_E} {rb rA n : Nat} {rad rc rk nu ad ad' : Nat → Nat} {dn : Nat → Bool} (h : RuB0 G L f rb rA n rad rc rk nu dn ad) (e : ∀ q, q < n → ad' (rc q) = ad (rc q)) : RuB0 G L f rb rA n rad rc rk nu dn ad' := by
  obtain ⟨h0, h1, h2, h3⟩ := h
  refine ⟨h0, h1, h2, fun q hq => ?_⟩
  rw [e q hq]
  exact h3 q hq
theorem ClI.kc {G : GG} {L L' : List Nat} {f f' : Nat → va_E} {x0 n rn : Nat} {kd : Nat → Nat} {ka kb kc : Nat → Int32} {ca cbb ccc : Nat → Nat} {mm : Nat → Bool} {nu rk : Nat → Nat} {dn : Nat → Bool} {rc : Nat → Nat} (h : ClI G L f x0 n rn kd ka kb kc ca cbb ccc mm nu rk dn rc) (hk : KC L f (L', f')) : ClI G L' f' x0 n rn kd ka kb kc ca cbb ccc mm nu rk dn rc := by
  obtain ⟨cb, rb, mA, gA, rA, ad, wa, wd, rad, h1, h2, h3, h4, h5, h6⟩ := h
  exact ⟨cb, rb, mA, gA, rA, ad, wa, wd, rad, hk.k h1 (nm_oo h1 (by decide)), h2.kc hk, h3.kc hk, h4, h5, h6⟩
theorem blw_y {j n : Nat} (h : j < n) (hn : n < 2 ^ 31) : blw (nI j) (nI n) = true := by rw [blw_nI hn (by omega)]; exact decide_eq_true h
theorem inj_snoc {n z : Nat} {g : Nat → Nat} (h : inj n g) (hz : ∀ i, i < n → g i ≠ z) : inj (n + 1) (va_up g n z) := by
  intro i j hi hj e
  by_cases a : i = n
  · by_cases b : j = n
    · omega
    · rw [a, va_up_self, va_up_ne _ _ b] at e
      exact absurd e.symm (hz j (by omega))
  · by_cases b : j = n
    · rw [b, va_up_self, va_up_ne _ _ a] at e
      exact absurd e (hz i (by omega))
    · rw [va_up_ne _ _ a, va_up_ne _ _ b] at e
      exact h i j (by omega) (by omega) e
theorem inj_ins {n pl z : Nat} {g : Nat → Nat} (h : inj n g) (hp : pl ≤ n) (hz : ∀ i, i < n → g i ≠ z) : inj (n + 1) (insA g pl z) := by
  intro i j hi hj e
  rcases Nat.lt_trichotomy i pl with a | a | a
  · rw [insA_lt a] at e
    rcases Nat.lt_trichotomy j pl with b | b | b
    · rw [insA_lt b] at e
      exact h i j (by omega) (by omega) e
    · rw [b, insA_eq] at e
      exact absurd e (hz i (by omega))
    · rw [insA_gt b] at e
      have := h i (j - 1) (by omega) (by omega) e
      omega
  · rw [a, insA_eq] at e
    rcases Nat.lt_trichotomy j pl with b | b | b
    · rw [insA_lt b] at e
      exact absurd e.symm (hz j (by omega))
    · omega
    · rw [insA_gt b] at e
      exact absurd e.symm (hz (j - 1) (by omega))
  · rw [insA_gt a] at e
    rcases Nat.lt_trichotomy j pl with b | b | b
    · rw [insA_lt b] at e
      have := h (i - 1) j (by omega) (by omega) e
      omega
    · rw [b, insA_eq] at e
      exact absurd e (hz (i - 1) (by omega))
    · rw [insA_gt b] at e
      have := h (i - 1) (j - 1) (by omega) (by omega) e
      omega
theorem nI_inj {a b : Nat} (ha : a < 2 ^ 31) (hb : b < 2 ^ 31) (h : nI a = nI b) : a = b := (nI_eq ha hb).mp h
/-- what a condition says does not hang on the numbers that its kind does not read -/
theorem hK_same {mm : Nat → Bool} {h : Nat → Nat → Bool} {n k a b c a' b' c' q : Nat} {xa xb xc : Int32} (hn : n ≤ 60) (h1 : okC n k xa xb xc a b c) (h2 : okC n k xa xb xc a' b' c') : hK mm h k a b c q = hK mm h k a' b' c' q := by
  obtain ⟨hk, ha, hb, hc, g0, g1, g2, g3, g4, g5, g6, g7, g10⟩ := h1
  obtain ⟨-, ha', hb', hc', g0', g1', g2', g3', g4', g5', g6', g7', g10'⟩ := h2
  rcases (show k = 0 ∨ k = 1 ∨ k = 2 ∨ k = 3 ∨ k = 4 ∨ k = 5 ∨ k = 6 ∨ k = 7 ∨ k = 8 ∨ k = 9 ∨ k = 10 by omega) with z | z | z | z | z | z | z | z | z | z | z <;> subst z
  · have a1 := g0 rfl; have a2 := g0' rfl
    rw [nI_inj (by omega) (by omega) ((ha (by decide)).symm.trans (ha' (by decide)))]; rfl
  · have a1 := g1 rfl; have a2 := g1' rfl
    rw [nI_inj (by omega) (by omega) ((ha (by decide)).symm.trans (ha' (by decide)))]; rfl
  · have a1 := g2 rfl; have a2 := g2' rfl
    rw [nI_inj (by omega) (by omega) ((ha (by decide)).symm.trans (ha' (by decide)))]; rfl
  · have a1 := g3 rfl; have a2 := g3' rfl
    rw [nI_inj (by omega) (by omega) ((ha (by decide)).symm.trans (ha' (by decide)))]; rfl
  · have a1 := g4 rfl; have a2 := g4' rfl
    rw [nI_inj (by omega) (by omega) ((ha (by decide)).symm.trans (ha' (by decide)))]; rfl
  · have a1 := g5 rfl; have a2 := g5' rfl
    rw [nI_inj (by omega) (by omega) ((ha (by decide)).symm.trans (ha' (by decide))), nI_inj (by omega) (by omega) ((hb (by decide)).symm.trans (hb' (by decide)))]; rfl
  · have a1 := g6 rfl; have a2 := g6' rfl
    rw [nI_inj (by omega) (by omega) ((ha (by decide)).symm.trans (ha' (by decide)))]; rfl
  · have a1 := g7 (by decide); have a2 := g7' (by decide)
    rw [nI_inj (by omega) (by omega) ((ha (by decide)).symm.trans (ha' (by decide))), nI_inj (by omega) (by omega) ((hb (by decide)).symm.trans (hb' (by decide)))]; rfl
  · have a1 := g7 (by decide); have a2 := g7' (by decide)
    rw [nI_inj (by omega) (by omega) ((ha (by decide)).symm.trans (ha' (by decide))), nI_inj (by omega) (by omega) ((hb (by decide)).symm.trans (hb' (by decide)))]; rfl
  · rfl
  · have a1 := g10 rfl; have a2 := g10' rfl
    rw [nI_inj (by omega) (by omega) ((ha (by decide)).symm.trans (ha' (by decide))), nI_inj (by omega) (by omega) ((hb (by decide)).symm.trans (hb' (by decide))), nI_inj (by omega) (by omega) ((hc (by decide)).symm.trans (hc' (by decide)))]
theorem KnI_no {xf bf : Nat → Int32} {rk : Nat → Nat} {dn : Nat → Bool} {rc : Nat → Nat} {n : Nat} : KnI false xf bf rk dn rc n := fun h => by cases h
theorem cOK_of {n k a b c : Nat} {x1 xa xb xc : Int32} (hn : n ≤ 60) (hx : x1 = nI k) (ho : okC n k xa xb xc a b c) : cOK n x1 xa xb xc = true := by
  obtain ⟨hk, ha, hb, hc, g0, g1, g2, g3, g4, g5, g6, g7, g10⟩ := ho
  subst hx
  rcases (show k = 0 ∨ k = 1 ∨ k = 2 ∨ k = 3 ∨ k = 4 ∨ k = 5 ∨ k = 6 ∨ k = 7 ∨ k = 8 ∨ k = 9 ∨ k = 10 by omega) with z | z | z | z | z | z | z | z | z | z | z <;> subst z
  · have a1 := g0 rfl; rw [ha (by decide)]; show blw (nI a) (nI 8) = true; exact blw_y a1 (by decide)
  · have a1 := g1 rfl; rw [ha (by decide)]; show blw (nI a) (nI 8) = true; exact blw_y a1 (by decide)
  · have a1 := g2 rfl; rw [ha (by decide)]; show blw (nI a) (nI 4) = true; exact blw_y a1 (by decide)
  · have a1 := g3 rfl; rw [ha (by decide)]; show blw (nI a) (nI 6) = true; exact blw_y a1 (by decide)
  · have a1 := g4 rfl; rw [ha (by decide)]; show blw (nI a) (nI 4) = true; exact blw_y a1 (by decide)
  · have a1 := g5 rfl; rw [ha (by decide), hb (by decide)]; show (blw (nI a) (nI 8) && (blw (nI b) (nI 8) && decide (nI a ≤ nI b))) = true
    rw [blw_y (show a < 8 by omega) (by decide), blw_y a1.2 (by decide), decide_eq_true (nI_le a1.1 (by omega))]; rfl
  · have a1 := g6 rfl; rw [ha (by decide)]; show blw (nI a) (nI n) = true; exact blw_y a1 (by omega)
  · have a1 := g7 (by decide); rw [ha (by decide), hb (by decide)]; show (blw (nI a) (nI n) && blw (nI b) (nI n)) = true
    rw [blw_y a1.1 (by omega), blw_y a1.2 (by omega)]; rfl
  · have a1 := g7 (by decide); rw [ha (by decide), hb (by decide)]; show (blw (nI a) (nI n) && blw (nI b) (nI n)) = true
    rw [blw_y a1.1 (by omega), blw_y a1.2 (by omega)]; rfl
  · rfl
  · have a1 := g10 rfl; rw [ha (by decide), hb (by decide), hc (by decide)]; show (blw (nI a) (nI n) && (blw (nI b) (nI n) && blw (nI c) (nI n))) = true
    rw [blw_y a1.1 (by omega), blw_y a1.2.1 (by omega), blw_y a1.2.2 (by omega)]; rfl
