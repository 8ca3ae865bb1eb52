/-! Pictures of the desk, and what keeps them. -/
theorem Kp.mono {S S2 : Nat → Prop} {L : List Nat} {f : Nat → va_E} {u : WU} (h : Kp S L f u) (hs : ∀ a, S a → S2 a) : Kp S2 L f u := fun a e ha hn => h a e ha (fun q => hn (hs a q))
/-- cells of the condition book, of the rule book -/
def cT (e : va_E) : Bool := match e with
  | .inr (i, _) => decide (i = 0 ∨ i = 1)
  | .inl (_, n, _) => decide (n = 60 ∨ n = 64 ∨ n = 96)
def rT (e : va_E) : Bool := match e with
  | .inr (i, _) => decide (i = 2 ∨ i = 3)
  | .inl (_, n, _) => decide (n = 20)
theorem CoB.keep {G : GG} {L L' : List Nat} {f f' : Nat → va_E} {cb mA gA n : Nat} {ad wa kd : Nat → Nat} {ka kb kc : Nat → Int32} {wd : Nat → Nat → Int64} {mm : Nat → Bool} {S : Nat → Prop} (h : CoB G L f cb mA gA n ad wa kd ka kb kc wd mm) (hk : Kp S L f (L', f')) (hs : ∀ a e, Lk L f a e → cT e = true → ¬ S a) : CoB G L' f' cb mA gA n ad wa kd ka kb kc wd mm := by
  obtain ⟨h0, h1, h2, h3, h4⟩ := h
  refine ⟨h0, hk.k h1 (hs _ _ h1 rfl), hk.k h2 (hs _ _ h2 rfl), hk.k h3 (hs _ _ h3 rfl), fun i hi => ?_⟩
  obtain ⟨a1, a2⟩ := h4 i hi
  exact ⟨hk.k a1 (hs _ _ a1 rfl), hk.k a2 (hs _ _ a2 rfl)⟩
/-- the rules alone: their conditions by number -/
def RuB0 (G : GG) (L : List Nat) (f : Nat → va_E) (rb rA n : Nat) (rad rc rk nu : Nat → Nat) (dn : Nat → Bool) (ad : Nat → Nat) : Prop :=
  n ≤ 20 ∧ Lk L f rb (.inr (3, [.ref rA, .int (nI n)])) ∧ Lk L f rA (.inl (G.2 3, 20, .inr (.inr (.inr (.inr (upto n rad)))))) ∧
  ∀ q, q < n → rk q < 10 ∧ nu q < 20 ∧ Lk L f (rad q) (.inr (2, [.int (nI (rk q)), .int (bI (dn q)), .ref (ad (rc q)), .int (nI (nu q))]))
theorem RuB0.keep {G : GG} {L L' : List Nat} {f f' : Nat → va_E} {rb rA n : Nat} {rad rc rk nu ad : Nat → Nat} {dn : Nat → Bool} {S : Nat → Prop} (h : RuB0 G L f rb rA n rad rc rk nu dn ad) (hk : Kp S L f (L', f')) (hs : ∀ a e, Lk L f a e → rT e = true → ¬ S a) : RuB0 G L' f' rb rA n rad rc rk nu dn ad := by
  obtain ⟨h0, h1, h2, h3⟩ := h
  refine ⟨h0, hk.k h1 (hs _ _ h1 rfl), hk.k h2 (hs _ _ h2 rfl), fun q hq => ?_⟩
  obtain ⟨a1, a2, a3⟩ := h3 q hq
  exact ⟨a1, a2, hk.k a3 (hs _ _ a3 rfl)⟩
theorem RuB_of {G : GG} {L : List Nat} {f : Nat → va_E} {cb mA gA cn rb rA n : Nat} {ad wa kd rad rc rk nu : Nat → Nat} {ka kb kc : Nat → Int32} {wd : Nat → Nat → Int64} {mm dn : Nat → Bool} (hC : CoB G L f cb mA gA cn ad wa kd ka kb kc wd mm) (hR : RuB0 G L f rb rA n rad rc rk nu dn ad) (hc : ∀ q, q < n → rc q < cn) : RuB G L f rb rA n rad (fun q => ad (rc q)) (fun q => wa (rc q)) rk nu dn (fun q => wd (rc q)) := by
  obtain ⟨h0, h1, h2, h3⟩ := hR
  refine ⟨h0, h1, h2, fun q hq => ?_⟩
  obtain ⟨a1, a2, a3⟩ := h3 q hq
  obtain ⟨b1, b2⟩ := hC.2.2.2.2 (rc q) (hc q hq)
  exact ⟨a1, a2, a3, ⟨_, _, _, _, b1⟩, b2⟩
/-- an address of another kind -/
theorem cT_ne {L : List Nat} {f : Nat → va_E} {x : Nat} {ex : va_E} (hx : Lk L f x ex) (h : cT ex = false) : ∀ a e, Lk L f a e → cT e = true → ¬ a = x := fun a e ha hc q => by
  subst q
  rw [← ha.2, hx.2, h] at hc
  cases hc
theorem rT_ne {L : List Nat} {f : Nat → va_E} {x : Nat} {ex : va_E} (hx : Lk L f x ex) (h : rT ex = false) : ∀ a e, Lk L f a e → rT e = true → ¬ a = x := fun a e ha hc q => by
  subst q
  rw [← ha.2, hx.2, h] at hc
  cases hc
theorem Lk.ni {L : List Nat} {f : Nat → va_E} {a q : Nat} {e : va_E} (h : Lk L f a e) (hq : q ∉ L) : ¬ a = q := fun z => hq (z ▸ h.1)
theorem upto_snoc (n : Nat) (ad : Nat → Nat) (q : Nat) : va_up (upto n ad) n (some q) = upto (n + 1) (va_up ad n q) := by
  funext i
  unfold upto
  by_cases h : i = n
  · subst h
    rw [va_up_self, if_pos (by omega), va_up_self]
  · rw [va_up_ne _ _ h]
    by_cases h2 : i < n
    · rw [if_pos h2, if_pos (by omega), va_up_ne _ _ h]
    · rw [if_neg h2, if_neg (by omega)]
theorem CoB_snoc {G : GG} {L L' : List Nat} {f f' : Nat → va_E} {cb mA gA n : Nat} {ad wa kd : Nat → Nat} {ka kb kc : Nat → Int32} {wd : Nat → Nat → Int64} {mm : Nat → Bool} {q z k : Nat} {xa xb xc : Int32} {g : Nat → Int64} (hB : CoB G L f cb mA gA n ad wa kd ka kb kc wd mm) (hn : n < 60) (hk : Kp (fun a => a = cb ∨ a = mA) L f (L', f'))
    (h1 : Lk L' f' cb (.inr (1, [.ref mA, .ref gA, .int (nI (n + 1))]))) (h2 : Lk L' f' mA (.inl (G.2 2, 60, .inr (.inr (.inr (.inr (va_up (upto n ad) n (some q)))))))) (h3 : Lk L' f' q (.inr (0, [.int (nI k), .int xa, .int xb, .int xc, .ref z]))) (h4 : Lk L' f' z (.inl (G.2 0, 96, .inr (.inl g)))) :
    CoB G L' f' cb mA gA (n + 1) (va_up ad n q) (va_up wa n z) (va_up kd n k) (va_up ka n xa) (va_up kb n xb) (va_up kc n xc) (va_up wd n g) mm := by
  obtain ⟨b0, b1, b2, b3, b4⟩ := hB
  rw [upto_snoc] at h2
  refine ⟨by omega, h1, h2, hk.k b3 (fun q => ?_), fun i hi => ?_⟩
  · rcases q with q | q
    · exact Lk.neOA b1 b3 q.symm
    · exact Lk.neAA b3 b2 (by decide) q
  · by_cases h : i = n
    · subst h
      simp only [va_up_self]
      exact ⟨h3, h4⟩
    · simp only [va_up_ne _ _ h]
      obtain ⟨a1, a2⟩ := b4 i (by omega)
      refine ⟨hk.k a1 (fun q => ?_), hk.k a2 (fun q => ?_)⟩
      · rcases q with q | q
        · exact Lk.neOO a1 b1 (by decide) q
        · exact Lk.neOA a1 b2 q
      · rcases q with q | q
        · exact Lk.neOA b1 a2 q.symm
        · exact Lk.neAA a2 b2 (by decide) q
/-- different conditions lie at different addresses -/
def inj (n : Nat) (g : Nat → Nat) : Prop := ∀ i j, i < n → j < n → g i = g j → i = j
theorem CoB_setw {G : GG} {L : List Nat} {f : Nat → va_E} {cb mA gA n : Nat} {ad wa kd : Nat → Nat} {ka kb kc : Nat → Int32} {wd : Nat → Nat → Int64} {mm : Nat → Bool} (hB : CoB G L f cb mA gA n ad wa kd ka kb kc wd mm) (hI : inj n wa) {i : Nat} (hi : i < n) (g : Nat → Int64) :
    CoB G L (va_up f (wa i) (.inl (G.2 0, 96, .inr (.inl g)))) cb mA gA n ad wa kd ka kb kc (va_up wd i g) mm := by
  obtain ⟨b0, b1, b2, b3, b4⟩ := hB
  have hw := (b4 i hi).2
  refine ⟨b0, b1.up (Lk.neOA b1 hw), b2.up (Lk.neAA b2 hw (by decide)), b3.up (Lk.neAA b3 hw (by decide)), fun j hj => ?_⟩
  obtain ⟨a1, a2⟩ := b4 j hj
  refine ⟨a1.up (Lk.neOA a1 hw), ?_⟩
  by_cases h : j = i
  · subst h
    rw [va_up_self]
    exact hw.set
  · rw [va_up_ne _ _ h]
    exact a2.up (fun q => h (hI j i hj hi q))
theorem CoB_setm {G : GG} {L : List Nat} {f : Nat → va_E} {cb mA gA n : Nat} {ad wa kd : Nat → Nat} {ka kb kc : Nat → Int32} {wd : Nat → Nat → Int64} {mm : Nat → Bool} (hB : CoB G L f cb mA gA n ad wa kd ka kb kc wd mm) (k : Nat) (b : Bool) :
    CoB G L (va_up f gA (.inl (G.2 1, 64, .inl (upd (fun k => bI (mm k)) k (bI b))))) cb mA gA n ad wa kd ka kb kc wd (va_up mm k b) := by
  obtain ⟨b0, b1, b2, b3, b4⟩ := hB
  have e : upd (fun k => bI (mm k)) k (bI b) = fun j => bI (va_up mm k b j) := by
    funext j
    by_cases h : j = k
    · subst h
      rw [va_up_self]
      exact if_pos rfl
    · rw [va_up_ne _ _ h]
      exact if_neg h
  rw [e]
  refine ⟨b0, b1.up (Lk.neOA b1 b3), b2.up (Lk.neAA b2 b3 (by decide)), b3.set, fun j hj => ?_⟩
  obtain ⟨a1, a2⟩ := b4 j hj
  exact ⟨a1.up (Lk.neOA a1 b3), a2.up (Lk.neAA a2 b3 (by decide))⟩
/-- the words are what the conditions say -/
def OkW (n : Nat) (kd ca cb cc : Nat → Nat) (wd : Nat → Nat → Int64) (mm : Nat → Bool) : Prop := ∀ i, i < n → ∀ w, w < 96 → wd i w = wrd mm wd (kd i) (ca i) (cb i) (cc i) w
def OkN (n : Nat) (kd : Nat → Nat) (ka kb kc : Nat → Int32) (ca cb cc : Nat → Nat) : Prop := ∀ i, i < n → okC i (kd i) (ka i) (kb i) (kc i) (ca i) (cb i) (cc i)
/-- a word looks at words of lesser conditions alone -/
theorem wrd_congr {mm : Nat → Bool} {wd wd' : Nat → Nat → Int64} {n k a b c w : Nat} {xa xb xc : Int32} (ho : okC n k xa xb xc a b c) (h : ∀ j, j < n → wd j w = wd' j w) : wrd mm wd k a b c w = wrd mm wd' k a b c w := by
  obtain ⟨hk, -, -, -, -, -, -, -, -, -, h6, h7, h10⟩ := ho
  unfold wrd
  rcases (show k = 0 ∨ k = 1 ∨ k = 2 ∨ k = 3 ∨ k = 4 ∨ k = 5 ∨ k = 6 ∨ k = 7 ∨ k = 8 ∨ k = 9 ∨ k = 10 by omega) with e | e | e | e | e | e | e | e | e | e | e <;> subst e
  · rfl
  · rfl
  · rfl
  · rfl
  · rfl
  · rfl
  · show wd a w ^^^ (-1) = wd' a w ^^^ (-1)
    rw [h a (h6 rfl)]
  · show wd a w &&& wd b w = wd' a w &&& wd' b w
    rw [h a (h7 (Or.inl rfl)).1, h b (h7 (Or.inl rfl)).2]
  · show wd a w ||| wd b w = wd' a w ||| wd' b w
    rw [h a (h7 (Or.inr rfl)).1, h b (h7 (Or.inr rfl)).2]
  · rfl
  · show two3 (wd a w) (wd b w) (wd c w) = two3 (wd' a w) (wd' b w) (wd' c w)
    rw [h a (h10 rfl).1, h b (h10 rfl).2.1, h c (h10 rfl).2.2]
theorem wrd_mm {mm mm' : Nat → Bool} {wd : Nat → Nat → Int64} {k a b c w : Nat} (h : k = 1 → mm (w / 12 * 8 + a) = mm' (w / 12 * 8 + a)) : wrd mm wd k a b c w = wrd mm' wd k a b c w := by
  by_cases hk : k = 1
  · unfold wrd
    rw [h hk]
  · unfold wrd
    by_cases h0 : k = 0
    · rw [if_pos h0, if_pos h0]
    · rw [if_neg h0, if_neg h0, if_neg hk, if_neg hk]
theorem Kp.notin {S : Nat → Prop} {L L' : List Nat} {f f' : Nat → va_E} {q : Nat} (h : Kp S L f (L', f')) (hq : q ∉ L') (hs : ¬ S q) : q ∉ L := fun z => hq (h q (f q) ⟨z, rfl⟩ hs).1
theorem va_up_id {α : Type} {f : Nat → α} {a : Nat} {e : α} (h : f a = e) : f = va_up f a e := by
  funext x
  by_cases hx : x = a
  · rw [hx, va_up_self, h]
  · rw [va_up_ne _ _ hx]
theorem okC_mono {n n' k a b c : Nat} {xa xb xc : Int32} (h : okC n k xa xb xc a b c) (hn : n ≤ n') : okC n' k xa xb xc a b c := by
  obtain ⟨h0, h1, h2, h3, h4, h5, h6, h7, h8, h9, h10, h11, h12⟩ := h
  exact ⟨h0, h1, h2, h3, h4, h5, h6, h7, h8, h9, fun q => by have := h10 q; omega, fun q => by have := h11 q; omega, fun q => by have := h12 q; omega⟩
/-- what holds of the words while those of person u are worked out again: conditions below i are done, of condition i the first t words -/
def OkP (n : Nat) (kd ca cb cc : Nat → Nat) (wd : Nat → Nat → Int64) (mm : Nat → Bool) (u i t : Nat) : Prop :=
  ∀ j, j < n → ∀ w, w < 96 → (w / 12 ≠ u ∨ j < i ∨ (j = i ∧ w < u * 12 + t)) → wd j w = wrd mm wd (kd j) (ca j) (cb j) (cc j) w
theorem OkP_step {n : Nat} {kd ca cb cc : Nat → Nat} {ka kb kc : Nat → Int32} {wd : Nat → Nat → Int64} {mm : Nat → Bool} {u i t : Nat} (hO : OkN n kd ka kb kc ca cb cc) (h : OkP n kd ca cb cc wd mm u i t) (hi : i < n) (hu : u < 8) (ht : t < 12) :
    OkP n kd ca cb cc (va_up wd i (vp_updL (wd i) (u * 12 + t) (wrd mm wd (kd i) (ca i) (cb i) (cc i) (u * 12 + t)))) mm u i (t + 1) := by
  intro j hj w hw hc
  have hlow : ∀ w' j', j' ≠ i ∨ w' ≠ u * 12 + t → va_up wd i (vp_updL (wd i) (u * 12 + t) (wrd mm wd (kd i) (ca i) (cb i) (cc i) (u * 12 + t))) j' w' = wd j' w' := by
    intro w' j' hh
    by_cases e : j' = i
    · subst e
      rw [va_up_self]
      exact if_neg (hh.resolve_left (fun q => q rfl))
    · rw [va_up_ne _ _ e]
  have hcg : (∀ j', j' < j → j' ≠ i ∨ w ≠ u * 12 + t) → wrd mm (va_up wd i (vp_updL (wd i) (u * 12 + t) (wrd mm wd (kd i) (ca i) (cb i) (cc i) (u * 12 + t)))) (kd j) (ca j) (cb j) (cc j) w = wrd mm wd (kd j) (ca j) (cb j) (cc j) w :=
    fun hh => wrd_congr (hO j hj) (fun j' hj' => hlow w j' (hh j' hj'))
  by_cases e : j = i ∧ w = u * 12 + t
  · obtain ⟨e1, e2⟩ := e
    subst e1
    subst e2
    rw [hcg (fun j' hj' => Or.inl (by omega)), va_up_self]
    exact if_pos rfl
  · rw [hlow w j (by omega), hcg (fun j' hj' => ?_)]
    · exact h j hj w hw (by omega)
    · rcases hc with q | q | q
      · right
        omega
      · left
        omega
      · left
        omega
theorem OkP_next {n : Nat} {kd ca cb cc : Nat → Nat} {wd : Nat → Nat → Int64} {mm : Nat → Bool} {u i : Nat} (h : OkP n kd ca cb cc wd mm u i 12) : OkP n kd ca cb cc wd mm u (i + 1) 0 := fun j hj w hw hc => h j hj w hw (by omega)
theorem OkP_end {n : Nat} {kd ca cb cc : Nat → Nat} {wd : Nat → Nat → Int64} {mm : Nat → Bool} {u i t : Nat} (h : OkP n kd ca cb cc wd mm u i t) (hi : n ≤ i) : OkW n kd ca cb cc wd mm := fun j hj w hw => h j hj w hw (Or.inr (Or.inl (by omega)))
/-! ### the row of rules: one comes in, one goes -/
def insA {α : Type} (g : Nat → α) (pl : Nat) (v : α) : Nat → α := fun x => if x < pl then g x else if x = pl then v else g (x - 1)
def delA {α : Type} (g : Nat → α) (pl : Nat) : Nat → α := fun x => if x < pl then g x else g (x + 1)
/-- places above p moved up by one -/
def shU (p : Nat) (mk : Nat → Option Nat) : Nat → Option Nat := fun x => if p < x ∧ x < 20 then mk (x - 1) else mk x
/-- places from pl to p moved down by one -/
def shD (pl p : Nat) (mk : Nat → Option Nat) : Nat → Option Nat := fun x => if pl ≤ x ∧ x < p then mk (x + 1) else mk x
theorem shU_0 (mk : Nat → Option Nat) : mk = shU 19 mk := by
  funext x
  exact (if_neg (by omega)).symm
theorem shU_s {p : Nat} (hp : p + 1 < 20) (mk : Nat → Option Nat) : va_up (shU (p + 1) mk) (p + 1) (mk p) = shU p mk := by
  funext x
  unfold shU
  by_cases h : x = p + 1
  · subst h
    rw [va_up_self, if_pos (by omega)]
    rfl
  · rw [va_up_ne _ _ h]
    by_cases h2 : p + 1 < x ∧ x < 20
    · rw [if_pos h2, if_pos (by omega)]
    · rw [if_neg h2, if_neg (by omega)]
theorem shU_at {p x : Nat} (h : x ≤ p) (mk : Nat → Option Nat) : shU p mk x = mk x := if_neg (by omega)
theorem shU_end {n pl : Nat} (hn : n < 20) (hp : pl ≤ n) (rad : Nat → Nat) (q : Nat) : va_up (shU pl (upto n rad)) pl (some q) = upto (n + 1) (insA rad pl q) := by
  funext x
  unfold shU upto insA
  by_cases h : x = pl
  · subst h
    rw [va_up_self, if_pos (by omega), if_neg (by omega), if_pos rfl]
  · rw [va_up_ne _ _ h]
    by_cases h2 : pl < x ∧ x < 20
    · rw [if_pos h2]
      by_cases h3 : x - 1 < n
      · rw [if_pos h3, if_pos (by omega), if_neg (by omega), if_neg h]
      · rw [if_neg h3, if_neg (by omega)]
    · rw [if_neg h2]
      by_cases h3 : x < n
      · rw [if_pos h3, if_pos (by omega), if_pos (by omega)]
      · rw [if_neg h3, if_neg (by omega)]
theorem shD_0 (pl : Nat) (mk : Nat → Option Nat) : mk = shD pl pl mk := by
  funext x
  exact (if_neg (by omega)).symm
theorem shD_s {pl p : Nat} (hp : pl ≤ p) (mk : Nat → Option Nat) : va_up (shD pl p mk) p (mk (p + 1)) = shD pl (p + 1) mk := by
  funext x
  unfold shD
  by_cases h : x = p
  · subst h
    rw [va_up_self, if_pos (by omega)]
  · rw [va_up_ne _ _ h]
    by_cases h2 : pl ≤ x ∧ x < p
    · rw [if_pos h2, if_pos (by omega)]
    · rw [if_neg h2, if_neg (by omega)]
theorem shD_at {pl p x : Nat} (h : p ≤ x) (mk : Nat → Option Nat) : shD pl p mk x = mk x := if_neg (by omega)
theorem shD_end {n pl : Nat} (hn : n ≤ 20) (hp : pl < n) (rad : Nat → Nat) : va_up (shD pl 19 (upto n rad)) 19 none = upto (n - 1) (delA rad pl) := by
  funext x
  unfold shD upto delA
  by_cases h : x = 19
  · subst h
    rw [va_up_self, if_neg (by omega)]
  · rw [va_up_ne _ _ h]
    by_cases h2 : pl ≤ x ∧ x < 19
    · rw [if_pos h2]
      by_cases h3 : x + 1 < n
      · rw [if_pos h3, if_pos (by omega), if_neg (by omega)]
      · rw [if_neg h3, if_neg (by omega)]
    · rw [if_neg h2]
      by_cases h3 : x < n
      · rw [if_pos h3, if_pos (by omega), if_pos (by omega)]
      · rw [if_neg h3, if_neg (by omega)]
theorem insA_lt {α : Type} {g : Nat → α} {pl : Nat} {v : α} {x : Nat} (h : x < pl) : insA g pl v x = g x := if_pos h
theorem insA_eq {α : Type} {g : Nat → α} {pl : Nat} {v : α} : insA g pl v pl = v := by
  unfold insA
  rw [if_neg (by omega), if_pos rfl]
theorem insA_gt {α : Type} {g : Nat → α} {pl : Nat} {v : α} {x : Nat} (h : pl < x) : insA g pl v x = g (x - 1) := by
  unfold insA
  rw [if_neg (by omega), if_neg (by omega)]
theorem RuB0_ins {G : GG} {L L' : List Nat} {f f' : Nat → va_E} {rb rA n pl r0 c0 fr : Nat} {d0 : Bool} {rad rc rk nu ad : Nat → Nat} {dn : Nat → Bool} (h : RuB0 G L f rb rA n rad rc rk nu dn ad) (hn : n < 20) (hp : pl ≤ n) (hr0 : r0 < 10) (hk : Kp (fun a => a = rb ∨ a = rA) L f (L', f'))
    (h1 : Lk L' f' rb (.inr (3, [.ref rA, .int (nI (n + 1))]))) (h2 : Lk L' f' rA (.inl (G.2 3, 20, .inr (.inr (.inr (.inr (va_up (shU pl (upto n rad)) pl (some fr)))))))) (h3 : Lk L' f' fr (.inr (2, [.int (nI r0), .int (bI d0), .ref (ad c0), .int (nI n)]))) :
    RuB0 G L' f' rb rA (n + 1) (insA rad pl fr) (insA rc pl c0) (insA rk pl r0) (insA nu pl n) (insA dn pl d0) ad := by
  obtain ⟨b0, b1, b2, b3⟩ := h
  rw [shU_end hn hp] at h2
  have old : ∀ q, q < n → Lk L' f' (rad q) (.inr (2, [.int (nI (rk q)), .int (bI (dn q)), .ref (ad (rc q)), .int (nI (nu q))])) := fun q hq => by
    have a := (b3 q hq).2.2
    refine hk.k a (fun z => ?_)
    rcases z with z | z
    · exact Lk.neOO a b1 (by decide) z
    · exact Lk.neOA a b2 z
  refine ⟨by omega, h1, h2, fun q hq => ?_⟩
  rcases Nat.lt_trichotomy q pl with z | z | z
  · simp only [insA_lt z]
    exact ⟨(b3 q (by omega)).1, (b3 q (by omega)).2.1, old q (by omega)⟩
  · subst z
    simp only [insA_eq]
    exact ⟨hr0, hn, h3⟩
  · simp only [insA_gt z]
    exact ⟨(b3 (q - 1) (by omega)).1, (b3 (q - 1) (by omega)).2.1, old (q - 1) (by omega)⟩
/-- a number less, where it was above x -/
def dec1 (x m : Nat) : Nat := if x < m then m - 1 else m
theorem RuB0_del {G : GG} {L : List Nat} {f f' : Nat → va_E} {rb rA n pl : Nat} {rad rc rk nu ad : Nat → Nat} {dn : Nat → Bool} (h : RuB0 G L f rb rA n rad rc rk nu dn ad) (hp : pl < n) (hk : Kp (fun a => a = rb ∨ a = rA) L f (L, f'))
    (h1 : Lk L f' rb (.inr (3, [.ref rA, .int (nI (n - 1))]))) (h2 : Lk L f' rA (.inl (G.2 3, 20, .inr (.inr (.inr (.inr (va_up (shD pl 19 (upto n rad)) 19 none))))))) :
    RuB0 G L f' rb rA (n - 1) (delA rad pl) (delA rc pl) (delA rk pl) (delA nu pl) (delA dn pl) ad := by
  obtain ⟨b0, b1, b2, b3⟩ := h
  rw [shD_end b0 hp] at h2
  have old : ∀ q, q < n → Lk L f' (rad q) (.inr (2, [.int (nI (rk q)), .int (bI (dn q)), .ref (ad (rc q)), .int (nI (nu q))])) := fun q hq => by
    have a := (b3 q hq).2.2
    refine hk.k a (fun z => ?_)
    rcases z with z | z
    · exact Lk.neOO a b1 (by decide) z
    · exact Lk.neOA a b2 z
  refine ⟨by omega, h1, h2, fun q hq => ?_⟩
  unfold delA
  by_cases z : q < pl
  · simp only [if_pos z]
    exact ⟨(b3 q (by omega)).1, (b3 q (by omega)).2.1, old q (by omega)⟩
  · simp only [if_neg z]
    exact ⟨(b3 (q + 1) (by omega)).1, (b3 (q + 1) (by omega)).2.1, old (q + 1) (by omega)⟩
theorem RuB0_setnu {G : GG} {L : List Nat} {f : Nat → va_E} {rb rA n : Nat} {rad rc rk nu ad : Nat → Nat} {dn : Nat → Bool} (h : RuB0 G L f rb rA n rad rc rk nu dn ad) (hI : inj n rad) {q : Nat} (hq : q < n) {m : Nat} (hm : m < 20) :
    RuB0 G L (va_up f (rad q) (.inr (2, [.int (nI (rk q)), .int (bI (dn q)), .ref (ad (rc q)), .int (nI m)]))) rb rA n rad rc rk (va_up nu q m) dn ad := by
  obtain ⟨b0, b1, b2, b3⟩ := h
  have a := (b3 q hq).2.2
  refine ⟨b0, b1.up (Lk.neOO b1 a (by decide)), b2.up (fun z => Lk.neOA a b2 z.symm), fun j hj => ?_⟩
  obtain ⟨c1, c2, c3⟩ := b3 j hj
  by_cases z : j = q
  · subst z
    rw [va_up_self]
    exact ⟨c1, hm, a.set⟩
  · rw [va_up_ne _ _ z]
    exact ⟨c1, c2, c3.up (fun y => z (hI j q hj hq y))⟩
theorem isPl_some {n r0 : Nat} {d0 : Bool} {rk : Nat → Nat} {dn : Nat → Bool} (h : n < 20) : ∃ pl, fst0 (isPl n r0 d0 rk dn) 20 0 = some pl ∧ pl ≤ n := by
  have hn : isPl n r0 d0 rk dn n = true := isPl_t1 (Nat.le_refl n)
  cases e : fst0 (isPl n r0 d0 rk dn) 20 0 with
  | none =>
    rw [fst0_n e n (by omega) (by omega)] at hn
    cases hn
  | some pl =>
    refine ⟨pl, rfl, ?_⟩
    rcases Nat.lt_or_ge n pl with q | q
    · rw [(fst0_s e).2.2.2 n (by omega) q] at hn
      cases hn
    · exact q
theorem inj_del {n pl : Nat} {g : Nat → Nat} (h : inj n g) (hp : pl < n) : inj (n - 1) (delA g pl) := by
  intro i j hi hj e
  unfold delA at e
  by_cases a : i < pl <;> by_cases b : j < pl
  · rw [if_pos a, if_pos b] at e
    exact h i j (by omega) (by omega) e
  · rw [if_pos a, if_neg b] at e
    have := h i (j + 1) (by omega) (by omega) e
    omega
  · rw [if_neg a, if_pos b] at e
    have := h (i + 1) j (by omega) (by omega) e
    omega
  · rw [if_neg a, if_neg b] at e
    have := h (i + 1) (j + 1) (by omega) (by omega) e
    omega
/-- the first k numbers done -/
def decK (x k : Nat) (nu : Nat → Nat) : Nat → Nat := fun j => if j < k then dec1 x (nu j) else nu j
theorem decK_0 (x : Nat) (nu : Nat → Nat) : nu = decK x 0 nu := by
  funext j
  exact (if_neg (by omega)).symm
theorem decK_at {x k : Nat} {nu : Nat → Nat} : decK x k nu k = nu k := if_neg (by omega)
theorem decK_s (x k : Nat) (nu : Nat → Nat) : va_up (decK x k nu) k (dec1 x (nu k)) = decK x (k + 1) nu := by
  funext j
  unfold decK
  by_cases h : j = k
  · subst h
    rw [va_up_self, if_pos (by omega)]
  · rw [va_up_ne _ _ h]
    by_cases h2 : j < k
    · rw [if_pos h2, if_pos (by omega)]
    · rw [if_neg h2, if_neg (by omega)]
theorem decK_same {x k : Nat} {nu : Nat → Nat} (h : ¬ x < nu k) : decK x k nu = decK x (k + 1) nu := by
  rw [← decK_s, show dec1 x (nu k) = nu k from if_neg h]
  exact va_up_id decK_at
theorem delA_mem {n pl j : Nat} {g : Nat → Nat} (hj : j < n - 1) (hp : pl < n) : ∃ q, q < n ∧ delA g pl j = g q := by
  unfold delA
  by_cases h : j < pl
  · exact ⟨j, by omega, if_pos h⟩
  · exact ⟨j + 1, by omega, if_neg h⟩
theorem RuB0_nuc {G : GG} {L : List Nat} {f : Nat → va_E} {rb rA n : Nat} {rad rc rk nu nu' ad : Nat → Nat} {dn : Nat → Bool} (h : RuB0 G L f rb rA n rad rc rk nu dn ad) (e : ∀ q, q < n → nu q = nu' q) : RuB0 G L f rb rA n rad rc rk nu' dn ad := by
  obtain ⟨b0, b1, b2, b3⟩ := h
  refine ⟨b0, b1, b2, fun q hq => ?_⟩
  rw [← e q hq]
  exact b3 q hq
/-- what canBe lets through -/
theorem cOK_ok {n : Nat} (hn : n ≤ 60) {x1 x2 x3 x4 : Int32} (h : cOK n x1 x2 x3 x4 = true) : ∃ k a b c, x1 = nI k ∧ okC n k x2 x3 x4 a b c := by
  have one : ∀ {N : Nat}, N < 2 ^ 31 → blw x2 (nI N) = true → ∃ a, a < N ∧ x2 = nI a := fun hN h => blw_of hN h
  rcases k11 x1 with e | e | e | e | e | e | e | e | e | e | e | hk
  · subst e
    obtain ⟨a, ha, e⟩ := blw_of (n := 8) (by omega) h
    exact ⟨0, a, 0, 0, rfl, by omega, fun _ => e, fun q => by omega, fun q => by omega, fun _ => ha, fun q => by omega, fun q => by omega, fun q => by omega, fun q => by omega, fun q => by omega, fun q => by omega, fun q => by omega, fun q => by omega⟩
  · subst e
    obtain ⟨a, ha, e⟩ := blw_of (n := 8) (by omega) h
    exact ⟨1, a, 0, 0, rfl, by omega, fun _ => e, fun q => by omega, fun q => by omega, fun q => by omega, fun _ => ha, fun q => by omega, fun q => by omega, fun q => by omega, fun q => by omega, fun q => by omega, fun q => by omega, fun q => by omega⟩
  · subst e
    obtain ⟨a, ha, e⟩ := blw_of (n := 4) (by omega) h
    exact ⟨2, a, 0, 0, rfl, by omega, fun _ => e, fun q => by omega, fun q => by omega, fun q => by omega, fun q => by omega, fun _ => ha, fun q => by omega, fun q => by omega, fun q => by omega, fun q => by omega, fun q => by omega, fun q => by omega⟩
  · subst e
    obtain ⟨a, ha, e⟩ := blw_of (n := 6) (by omega) h
    exact ⟨3, a, 0, 0, rfl, by omega, fun _ => e, fun q => by omega, fun q => by omega, fun q => by omega, fun q => by omega, fun q => by omega, fun _ => ha, fun q => by omega, fun q => by omega, fun q => by omega, fun q => by omega, fun q => by omega⟩
  · subst e
    obtain ⟨a, ha, e⟩ := blw_of (n := 4) (by omega) h
    exact ⟨4, a, 0, 0, rfl, by omega, fun _ => e, fun q => by omega, fun q => by omega, fun q => by omega, fun q => by omega, fun q => by omega, fun q => by omega, fun _ => ha, fun q => by omega, fun q => by omega, fun q => by omega, fun q => by omega⟩
  · subst e
    have h : (blw x2 (nI 8) && (blw x3 (nI 8) && decide (x2 ≤ x3))) = true := h
    rw [Bool.and_eq_true, Bool.and_eq_true] at h
    obtain ⟨a, ha, e⟩ := blw_of (n := 8) (by omega) h.1
    obtain ⟨b, hb, e2⟩ := blw_of (n := 8) (by omega) h.2.1
    have hab := of_decide_eq_true h.2.2
    rw [e, e2] at hab
    have hab := (nI_leI (by omega) (by omega)).mp hab
    exact ⟨5, a, b, 0, rfl, by omega, fun _ => e, fun _ => e2, fun q => by omega, fun q => by omega, fun q => by omega, fun q => by omega, fun q => by omega, fun q => by omega, fun _ => ⟨hab, hb⟩, fun q => by omega, fun q => by omega, fun q => by omega⟩
  · subst e
    obtain ⟨a, ha, e⟩ := blw_of (n := n) (by omega) h
    exact ⟨6, a, 0, 0, rfl, by omega, fun _ => e, fun q => by omega, fun q => by omega, fun q => by omega, fun q => by omega, fun q => by omega, fun q => by omega, fun q => by omega, fun q => by omega, fun _ => ha, fun q => by omega, fun q => by omega⟩
  · subst e
    have h : (blw x2 (nI n) && blw x3 (nI n)) = true := h
    rw [Bool.and_eq_true] at h
    obtain ⟨a, ha, e⟩ := blw_of (n := n) (by omega) h.1
    obtain ⟨b, hb, e2⟩ := blw_of (n := n) (by omega) h.2
    exact ⟨7, a, b, 0, rfl, by omega, fun _ => e, fun _ => e2, fun q => by omega, fun q => by omega, fun q => by omega, fun q => by omega, fun q => by omega, fun q => by omega, fun q => by omega, fun q => by omega, fun _ => ⟨ha, hb⟩, fun q => by omega⟩
  · subst e
    have h : (blw x2 (nI n) && blw x3 (nI n)) = true := h
    rw [Bool.and_eq_true] at h
    obtain ⟨a, ha, e⟩ := blw_of (n := n) (by omega) h.1
    obtain ⟨b, hb, e2⟩ := blw_of (n := n) (by omega) h.2
    exact ⟨8, a, b, 0, rfl, by omega, fun _ => e, fun _ => e2, fun q => by omega, fun q => by omega, fun q => by omega, fun q => by omega, fun q => by omega, fun q => by omega, fun q => by omega, fun q => by omega, fun _ => ⟨ha, hb⟩, fun q => by omega⟩
  · subst e
    exact ⟨9, 0, 0, 0, rfl, by omega, fun q => absurd rfl q, fun q => by omega, fun q => by omega, fun q => by omega, fun q => by omega, fun q => by omega, fun q => by omega, fun q => by omega, fun q => by omega, fun q => by omega, fun q => by omega, fun q => by omega⟩
  · subst e
    have h : (blw x2 (nI n) && (blw x3 (nI n) && blw x4 (nI n))) = true := h
    rw [Bool.and_eq_true, Bool.and_eq_true] at h
    obtain ⟨a, ha, e⟩ := blw_of (n := n) (by omega) h.1
    obtain ⟨b, hb, e2⟩ := blw_of (n := n) (by omega) h.2.1
    obtain ⟨c, hc, e3⟩ := blw_of (n := n) (by omega) h.2.2
    exact ⟨10, a, b, c, rfl, by omega, fun _ => e, fun _ => e2, fun _ => e3, fun q => by omega, fun q => by omega, fun q => by omega, fun q => by omega, fun q => by omega, fun q => by omega, fun q => by omega, fun q => by omega, fun _ => ⟨ha, hb, hc⟩⟩
  · exfalso
    unfold cOK at h
    rw [if_neg (k11_no hk (show 0 < 11 by decide)), if_neg (k11_no hk (show 1 < 11 by decide)), if_neg (k11_no hk (show 2 < 11 by decide)), if_neg (k11_no hk (show 3 < 11 by decide)), if_neg (k11_no hk (show 4 < 11 by decide)), if_neg (k11_no hk (show 5 < 11 by decide)), if_neg (k11_no hk (show 6 < 11 by decide)), if_neg (k11_no hk (show 7 < 11 by decide)), if_neg (k11_no hk (show 8 < 11 by decide)), if_neg (k11_no hk (show 9 < 11 by decide)), if_neg (k11_no hk (show 10 < 11 by decide))] at h
    cases h
