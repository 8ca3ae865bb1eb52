theorem km_member {G : GG} {L : List Nat} {f : Nat → va_E} {x0 cb rb mA gA rA n rn : Nat} {ad wa kd rad rc rk nu : Nat → Nat} {ka kb kc : Nat → Int32} {wd : Nat → Nat → Int64} {mm dn : Nat → Bool} {ca cbb ccc : Nat → Nat} (hCo : CoB G L f cb mA gA n ad wa kd ka kb kc wd mm) (hRu : RuB0 G L f rb rA rn rad rc rk nu dn ad) {x y : Int32} {b : Bool} {r1 : Int32} {L1 : List Nat} {f1 : Nat → va_E} (h1 : (fun r z => ((blw x (nI 8) = false ∨ blw y (nI 8) = false) ∧ r = -1 ∧ z = (L, f)) ∨ ∃ u v, u < 8 ∧ v < 8 ∧ x = nI u ∧ y = nI v ∧ ((mm (u * 8 + v) = b ∧ r = nI 0 ∧ z = (L, f)) ∨ (¬ mm (u * 8 + v) = b ∧ r = nI 1 ∧ z.1 = L ∧ ∃ wv, CoB G L z.2 cb mA gA n ad wa kd ka kb kc wv (va_up mm (u * 8 + v) b) ∧ OkW n kd ca cbb ccc wv (va_up mm (u * 8 + v) b) ∧ Kp (fun x => x = gA ∨ ∃ i, i < n ∧ x = wa i) L f z))) r1 (L1, f1)) : KM L f (L1, f1) := by
  rcases h1 with ⟨_, _, hz⟩ | ⟨u, v, _, _, _, _, ⟨_, _, hz⟩ | ⟨_, _, _, wv, _, _, hk⟩⟩
  · cases hz; exact KM.rf
  · cases hz; exact KM.rf
  · refine KM.of hk (fun a ha => ?_)
    rcases ha with ha | ⟨i, hi, ha⟩
    · rw [ha]; exact nm_zz hCo.2.2.2.1
    · rw [ha]; exact nm_rr (hCo.2.2.2.2 i hi).2

theorem km_condition {G : GG} {L : List Nat} {f : Nat → va_E} {x0 cb rb mA gA rA n rn : Nat} {ad wa kd rad rc rk nu : Nat → Nat} {ka kb kc : Nat → Int32} {wd : Nat → Nat → Int64} {mm dn : Nat → Bool} {ca cbb ccc : Nat → Nat} (hCo : CoB G L f cb mA gA n ad wa kd ka kb kc wd mm) (hRu : RuB0 G L f rb rA rn rad rc rk nu dn ad) {x1 x2 x3 x4 : Int32} {r1 : Int32} {L1 : List Nat} {f1 : Nat → va_E} (h1 : (fun r u => (cOK n x1 x2 x3 x4 = false ∧ r = -1 ∧ u = (L, f)) ∨ ∃ k a b c_, x1 = nI k ∧ okC n k x2 x3 x4 a b c_ ∧ ((n = 60 ∧ r = -3 ∧ u = (L, f)) ∨ (n < 60 ∧ r = nI n ∧ ∃ q zw g, q ∉ L ∧ zw ∉ L ∧ q ≠ zw ∧ Kp (fun a => a = cb ∨ a = mA) L f u ∧ (∀ j, j < 96 → g j = wrd mm wd k a b c_ j) ∧ CoB G u.1 u.2 cb mA gA (n + 1) (va_up ad n q) (va_up wa n zw) (va_up kd n k) (va_up ka n x2) (va_up kb n x3) (va_up kc n x4) (va_up wd n g) mm))) r1 (L1, f1)) : KM L f (L1, f1) := by
  rcases h1 with ⟨_, _, hz⟩ | ⟨_, _, _, _, _, _, ⟨_, _, hz⟩ | ⟨_, _, _, _, _, _, _, _, hk, _, _⟩⟩
  · cases hz; exact KM.rf
  · cases hz; exact KM.rf
  · refine KM.of hk (fun a ha => ?_)
    rcases ha with ha | ha
    · rw [ha]; exact nm_oo hCo.2.1 (by decide)
    · rw [ha]; exact nm_rr hCo.2.2.1

theorem km_rule {G : GG} {L : List Nat} {f : Nat → va_E} {x0 cb rb mA gA rA n rn : Nat} {ad wa kd rad rc rk nu : Nat → Nat} {ka kb kc : Nat → Int32} {wd : Nat → Nat → Int64} {mm dn : Nat → Bool} {ca cbb ccc : Nat → Nat} (hCo : CoB G L f cb mA gA n ad wa kd ka kb kc wd mm) (hRu : RuB0 G L f rb rA rn rad rc rk nu dn ad) {x y : Int32} {b : Bool} {r1 : Int32} {L1 : List Nat} {f1 : Nat → va_E} (h1 : (fun r z => ((blw y (nI n) = false ∨ blw x (nI 10) = false) ∧ r = -1 ∧ z = (L, f)) ∨ ∃ u t, u < 10 ∧ t < n ∧ x = nI u ∧ y = nI t ∧ ((rn = 20 ∧ r = -3 ∧ z = (L, f)) ∨ (rn < 20 ∧ r = nI rn ∧ ∃ fr pl, fr ∉ L ∧ fst0 (isPl rn u b rk dn) 20 0 = some pl ∧ pl ≤ rn ∧ Kp (fun a => a = rb ∨ a = rA) L f z ∧ RuB0 G z.1 z.2 rb rA (rn + 1) (insA rad pl fr) (insA rc pl t) (insA rk pl u) (insA nu pl rn) (insA dn pl b) ad))) r1 (L1, f1)) : KM L f (L1, f1) := by
  rcases h1 with ⟨_, _, hz⟩ | ⟨_, _, _, _, _, _, ⟨_, _, hz⟩ | ⟨_, _, _, _, _, _, _, hk, _⟩⟩
  · cases hz; exact KM.rf
  · cases hz; exact KM.rf
  · refine KM.of hk (fun a ha => ?_)
    rcases ha with ha | ha
    · rw [ha]; exact nm_oo hRu.2.1 (by decide)
    · rw [ha]; exact nm_rr hRu.2.2.1

theorem km_drop {G : GG} {L : List Nat} {f : Nat → va_E} {x0 cb rb mA gA rA n rn : Nat} {ad wa kd rad rc rk nu : Nat → Nat} {ka kb kc : Nat → Int32} {wd : Nat → Nat → Int64} {mm dn : Nat → Bool} {ca cbb ccc : Nat → Nat} (hCo : CoB G L f cb mA gA n ad wa kd ka kb kc wd mm) (hRu : RuB0 G L f rb rA rn rad rc rk nu dn ad) {x : Int32} {r1 : Int32} {L1 : List Nat} {f1 : Nat → va_E} (h1 : (fun r z => (fst0 (isNo rn nu x) 20 0 = none ∧ r = -1 ∧ z = (L, f)) ∨ ∃ q, fst0 (isNo rn nu x) 20 0 = some q ∧ q < rn ∧ r = nI (rn - 1) ∧ z.1 = L ∧ Kp (fun a => a = rb ∨ a = rA ∨ ∃ q, q < rn ∧ a = rad q) L f z ∧ RuB0 G L z.2 rb rA (rn - 1) (delA rad q) (delA rc q) (delA rk q) (decK (nu q) 20 (delA nu q)) (delA dn q) ad) r1 (L1, f1)) : KM L f (L1, f1) := by
  rcases h1 with ⟨_, _, hz⟩ | ⟨_, _, _, _, _, hk, _⟩
  · cases hz; exact KM.rf
  · refine KM.of hk (fun a ha => ?_)
    rcases ha with ha | ha | ⟨q, hq, ha⟩
    · rw [ha]; exact nm_oo hRu.2.1 (by decide)
    · rw [ha]; exact nm_rr hRu.2.2.1
    · rw [ha]; exact nm_oo (hRu.2.2.2 q hq).2.2 (by decide)

set_option maxHeartbeats 1000000 in
theorem st_member {G : GG} {L : List Nat} {f : Nat → va_E} {x0 cb rb mA gA rA n rn : Nat} {ad wa kd rad rc rk nu : Nat → Nat} {ka kb kc : Nat → Int32} {wd : Nat → Nat → Int64} {mm dn : Nat → Bool} {ca cbb ccc : Nat → Nat} (hx0 : Lk L f x0 (.inr (4, [.ref cb, .ref rb]))) (hCo : CoB G L f cb mA gA n ad wa kd ka kb kc wd mm) (hRu : RuB0 G L f rb rA rn rad rc rk nu dn ad) (hI1 : inj n wa) (hI2 : inj rn rad) (hW : OkW n kd ca cbb ccc wd mm) {mo g2 kA fA sA tA bA r2A dA cA eA : Nat} {kn : Bool} {gf bf xf : Nat → Int32} {RK : Nat → Nat} {DN : Nat → Bool} {RC : Nat → Nat} (hMo : MoB G L f mo g2 kA fA sA tA bA r2A dA cA eA n rn kn gf kd ka kb kc bf RK DN RC xf) (hG : GrI gf mm) (hBi : BiI n mm kd ca cbb ccc bf) (hX : KnI kn xf bf RK DN RC rn) (hO : OkN n kd ka kb kc ca cbb ccc) (hRow : Row rn nu rk dn rc RK DN RC) (hru : ∀ j, j < rn → RK j < 10 ∧ RC j < n) {x y : Int32} {b : Bool} {r1 r2 : Int32} {L1 L2 : List Nat} {f1 f2 : Nat → va_E} (h1 : (fun r z => ((blw x (nI 8) = false ∨ blw y (nI 8) = false) ∧ r = -1 ∧ z = (L, f)) ∨ ∃ u v, u < 8 ∧ v < 8 ∧ x = nI u ∧ y = nI v ∧ ((mm (u * 8 + v) = b ∧ r = nI 0 ∧ z = (L, f)) ∨ (¬ mm (u * 8 + v) = b ∧ r = nI 1 ∧ z.1 = L ∧ ∃ wv, CoB G L z.2 cb mA gA n ad wa kd ka kb kc wv (va_up mm (u * 8 + v) b) ∧ OkW n kd ca cbb ccc wv (va_up mm (u * 8 + v) b) ∧ Kp (fun x => x = gA ∨ ∃ i, i < n ∧ x = wa i) L f z))) r1 (L1, f1)) (h2 : (fun r z => z.1 = L1 ∧ Kp (fun a => moE (f1 a)) L1 f1 z ∧ (((blw x (nI 8) = false ∨ blw y (nI 8) = false) ∧ r = -1 ∧ MoB G L1 z.2 mo g2 kA fA sA tA bA r2A dA cA eA n rn kn gf kd ka kb kc bf RK DN RC xf) ∨ ∃ u9 v9, u9 < 8 ∧ v9 < 8 ∧ x = nI u9 ∧ y = nI v9 ∧ ((mm (u9 * 8 + v9) = b ∧ r = nI 0 ∧ MoB G L1 z.2 mo g2 kA fA sA tA bA r2A dA cA eA n rn kn gf kd ka kb kc bf RK DN RC xf) ∨ (¬ mm (u9 * 8 + v9) = b ∧ r = nI 1 ∧ ∃ gf9 bf9, MoB G L1 z.2 mo g2 kA fA sA tA bA r2A dA cA eA n rn false gf9 kd ka kb kc bf9 RK DN RC xf ∧ GrI gf9 (va_up mm (u9 * 8 + v9) b) ∧ BiI n (va_up mm (u9 * 8 + v9) b) kd ca cbb ccc bf9)))) r2 (L2, f2)) : r1 = r2 ∧ DI G L2 f2 x0 mo := by
  obtain ⟨hL2, hk2, h2⟩ := h2
  dsimp only at hL2
  subst hL2
  rcases h1 with ⟨hbad, hr1, hz⟩ | ⟨u, v, hu, hv, hxu, hyv, h1⟩
  · cases hz
    rcases h2 with ⟨_, hr2, hM⟩ | ⟨u, v, hu, hv, hxu, hyv, _⟩
    · exact ⟨by rw [hr1, hr2], ⟨n, rn, kd, ka, kb, kc, ca, cbb, ccc, mm, nu, rk, dn, rc, RK, DN, RC, ClI.kc (L := L) (f := f) ⟨cb, rb, mA, gA, rA, ad, wa, wd, rad, hx0, hCo, hRu, hI1, hI2, hW⟩ (KC.of hk2), ⟨g2, kA, fA, sA, tA, bA, r2A, dA, cA, eA, kn, gf, bf, xf, hM, hG, hBi, hX⟩, hO, hRow, hru⟩⟩
    · rw [hxu, hyv, blw_y hu (by decide), blw_y hv (by decide)] at hbad
      rcases hbad with z | z <;> cases z
  · rcases h2 with ⟨hbad, _, _⟩ | ⟨u9, v9, hu9, hv9, hxu9, hyv9, h2⟩
    · rw [hxu, hyv, blw_y hu (by decide), blw_y hv (by decide)] at hbad
      rcases hbad with z | z <;> cases z
    · obtain rfl : u = u9 := nI_inj (by omega) (by omega) (hxu.symm.trans hxu9)
      obtain rfl : v = v9 := nI_inj (by omega) (by omega) (hyv.symm.trans hyv9)
      rcases h1 with ⟨hs, hr1, hz⟩ | ⟨hs, hr1, hz1, wv, hCv, hWv, hkc⟩
      · cases hz
        rcases h2 with ⟨_, hr2, hM⟩ | ⟨hs2, _⟩
        · exact ⟨by rw [hr1, hr2], ⟨n, rn, kd, ka, kb, kc, ca, cbb, ccc, mm, nu, rk, dn, rc, RK, DN, RC, ClI.kc (L := L) (f := f) ⟨cb, rb, mA, gA, rA, ad, wa, wd, rad, hx0, hCo, hRu, hI1, hI2, hW⟩ (KC.of hk2), ⟨g2, kA, fA, sA, tA, bA, r2A, dA, cA, eA, kn, gf, bf, xf, hM, hG, hBi, hX⟩, hO, hRow, hru⟩⟩
        · exact absurd hs hs2
      · rcases h2 with ⟨hs2, _⟩ | ⟨_, hr2, gf9, bf9, hM, hG9, hB9⟩
        · exact absurd hs2 hs
        · refine ⟨by rw [hr1, hr2], n, rn, kd, ka, kb, kc, ca, cbb, ccc, va_up mm (u * 8 + v) b, nu, rk, dn, rc, RK, DN, RC, ?_, ⟨g2, kA, fA, sA, tA, bA, r2A, dA, cA, eA, false, gf9, bf9, xf, hM, hG9, hB9, KnI_no⟩, hO, hRow, hru⟩
          dsimp only at hz1 hCv
          subst hz1
          have hx1 : Lk L2 f1 x0 (.inr (4, [.ref cb, .ref rb])) := hkc.k hx0 (fun z => by
            rcases z with z | ⟨i, hi, z⟩
            · exact Lk.neOA hx0 hCo.2.2.2.1 z
            · exact Lk.neOA hx0 (hCo.2.2.2.2 i hi).2 z)
          have hR1 : RuB0 G L2 f1 rb rA rn rad rc rk nu dn ad := hRu.keep hkc (fun a e ha hr z => by
            rcases z with z | ⟨i, hi, z⟩
            · exact rT_ne hCo.2.2.2.1 rfl a e ha hr z
            · exact rT_ne (hCo.2.2.2.2 i hi).2 rfl a e ha hr z)
          exact ClI.kc (L := L2) (f := f1) ⟨cb, rb, mA, gA, rA, ad, wa, wv, rad, hx1, hCv, hR1, hI1, hI2, hWv⟩ (KC.of hk2)

set_option maxHeartbeats 1000000 in
theorem st_condition {G : GG} {L : List Nat} {f : Nat → va_E} {x0 cb rb mA gA rA n rn : Nat} {ad wa kd rad rc rk nu : Nat → Nat} {ka kb kc : Nat → Int32} {wd : Nat → Nat → Int64} {mm dn : Nat → Bool} {ca cbb ccc : Nat → Nat} (hx0 : Lk L f x0 (.inr (4, [.ref cb, .ref rb]))) (hCo : CoB G L f cb mA gA n ad wa kd ka kb kc wd mm) (hRu : RuB0 G L f rb rA rn rad rc rk nu dn ad) (hI1 : inj n wa) (hI2 : inj rn rad) (hW : OkW n kd ca cbb ccc wd mm) {mo g2 kA fA sA tA bA r2A dA cA eA : Nat} {kn : Bool} {gf bf xf : Nat → Int32} {RK : Nat → Nat} {DN : Nat → Bool} {RC : Nat → Nat} (hMo : MoB G L f mo g2 kA fA sA tA bA r2A dA cA eA n rn kn gf kd ka kb kc bf RK DN RC xf) (hG : GrI gf mm) (hBi : BiI n mm kd ca cbb ccc bf) (hX : KnI kn xf bf RK DN RC rn) (hO : OkN n kd ka kb kc ca cbb ccc) (hRow : Row rn nu rk dn rc RK DN RC) (hru : ∀ j, j < rn → RK j < 10 ∧ RC j < n) {x1 x2 x3 x4 : Int32} {r1 r2 : Int32} {L1 L2 : List Nat} {f1 f2 : Nat → va_E} (h1 : (fun r u => (cOK n x1 x2 x3 x4 = false ∧ r = -1 ∧ u = (L, f)) ∨ ∃ k a b c_, x1 = nI k ∧ okC n k x2 x3 x4 a b c_ ∧ ((n = 60 ∧ r = -3 ∧ u = (L, f)) ∨ (n < 60 ∧ r = nI n ∧ ∃ q zw g, q ∉ L ∧ zw ∉ L ∧ q ≠ zw ∧ Kp (fun a => a = cb ∨ a = mA) L f u ∧ (∀ j, j < 96 → g j = wrd mm wd k a b c_ j) ∧ CoB G u.1 u.2 cb mA gA (n + 1) (va_up ad n q) (va_up wa n zw) (va_up kd n k) (va_up ka n x2) (va_up kb n x3) (va_up kc n x4) (va_up wd n g) mm))) r1 (L1, f1)) (h2 : (fun r z => z.1 = L1 ∧ Kp (fun a => moE (f1 a)) L1 f1 z ∧ ((cOK n x1 x2 x3 x4 = false ∧ r = -1 ∧ MoB G L1 z.2 mo g2 kA fA sA tA bA r2A dA cA eA n rn kn gf kd ka kb kc bf RK DN RC xf) ∨ ∃ k a b c_, x1 = nI k ∧ okC n k x2 x3 x4 a b c_ ∧ ((n = 60 ∧ r = -3 ∧ MoB G L1 z.2 mo g2 kA fA sA tA bA r2A dA cA eA n rn kn gf kd ka kb kc bf RK DN RC xf) ∨ (n < 60 ∧ r = nI n ∧ ∃ bw, MoB G L1 z.2 mo g2 kA fA sA tA bA r2A dA cA eA (n + 1) rn kn gf (va_up kd n k) (va_up ka n x2) (va_up kb n x3) (va_up kc n x4) bw RK DN RC xf ∧ (∀ q, q < 6144 → mB bw n q = cK mm (mB bf) k a b c_ q) ∧ ∀ j, j ≠ n → ∀ q, q < 6144 → mB bw j q = mB bf j q)))) r2 (L2, f2)) : r1 = r2 ∧ DI G L2 f2 x0 mo := by
  obtain ⟨hL2, hk2, h2⟩ := h2
  dsimp only at hL2
  subst hL2
  have hn60 := hMo.1
  rcases h1 with ⟨hbad, hr1, hz⟩ | ⟨k, a, b, c_, hxk, ho, h1⟩
  · cases hz
    rcases h2 with ⟨_, hr2, hM⟩ | ⟨k, a, b, c_, hxk, ho, _⟩
    · exact ⟨by rw [hr1, hr2], ⟨n, rn, kd, ka, kb, kc, ca, cbb, ccc, mm, nu, rk, dn, rc, RK, DN, RC, ClI.kc (L := L) (f := f) ⟨cb, rb, mA, gA, rA, ad, wa, wd, rad, hx0, hCo, hRu, hI1, hI2, hW⟩ (KC.of hk2), ⟨g2, kA, fA, sA, tA, bA, r2A, dA, cA, eA, kn, gf, bf, xf, hM, hG, hBi, hX⟩, hO, hRow, hru⟩⟩
    · rw [cOK_of hn60 hxk ho] at hbad
      cases hbad
  · rcases h2 with ⟨hbad, _, _⟩ | ⟨k9, a9, b9, c9, hxk9, ho9, h2⟩
    · rw [cOK_of hn60 hxk ho] at hbad
      cases hbad
    · have hk10 := ho.1
      have hk10' := ho9.1
      obtain rfl : k = k9 := nI_inj (by omega) (by omega) (hxk.symm.trans hxk9)
      rcases h1 with ⟨hs, hr1, hz⟩ | ⟨hs, hr1, q, zw, g, hqL, hzL, hqz, hkc, hg, hCv⟩
      · cases hz
        rcases h2 with ⟨_, hr2, hM⟩ | ⟨hs2, _⟩
        · exact ⟨by rw [hr1, hr2], ⟨n, rn, kd, ka, kb, kc, ca, cbb, ccc, mm, nu, rk, dn, rc, RK, DN, RC, ClI.kc (L := L) (f := f) ⟨cb, rb, mA, gA, rA, ad, wa, wd, rad, hx0, hCo, hRu, hI1, hI2, hW⟩ (KC.of hk2), ⟨g2, kA, fA, sA, tA, bA, r2A, dA, cA, eA, kn, gf, bf, xf, hM, hG, hBi, hX⟩, hO, hRow, hru⟩⟩
        · omega
      · rcases h2 with ⟨hs2, _⟩ | ⟨_, hr2, bw, hM, hw1, hw2⟩
        · omega
        · have hrc : ∀ q, q < rn → rc q < n := fun q hq => by
            have a := hRow.1 q hq
            rw [a.2.2.2]
            exact (hru _ a.1).2
          dsimp only at hCv
          have hx1 : Lk L2 f1 x0 (.inr (4, [.ref cb, .ref rb])) := hkc.k hx0 (fun z => by
            rcases z with z | z
            · exact Lk.neOO hx0 hCo.2.1 (by decide) z
            · exact Lk.neOA hx0 hCo.2.2.1 z)
          have hR1 : RuB0 G L2 f1 rb rA rn rad rc rk nu dn ad := hRu.keep hkc (fun a e ha hr z => by
            rcases z with z | z
            · exact rT_ne hCo.2.1 rfl a e ha hr z
            · exact rT_ne hCo.2.2.1 rfl a e ha hr z)
          have hR2 : RuB0 G L2 f1 rb rA rn rad rc rk nu dn (va_up ad n q) := RuB0_ad hR1 (fun p hp => va_up_ne _ _ (by have := hrc p hp; omega))
          have hO2 : OkN (n + 1) (va_up kd n k) (va_up ka n x2) (va_up kb n x3) (va_up kc n x4) (va_up ca n a) (va_up cbb n b) (va_up ccc n c_) := by
            intro i hi
            by_cases e : i = n
            · subst e
              rw [va_up_self, va_up_self, va_up_self, va_up_self, va_up_self, va_up_self, va_up_self]
              exact ho
            · rw [va_up_ne _ _ e, va_up_ne _ _ e, va_up_ne _ _ e, va_up_ne _ _ e, va_up_ne _ _ e, va_up_ne _ _ e, va_up_ne _ _ e]
              exact hO i (by omega)
          have hW2 : OkW (n + 1) (va_up kd n k) (va_up ca n a) (va_up cbb n b) (va_up ccc n c_) (va_up wd n g) mm := by
            intro i hi w hw
            by_cases e : i = n
            · subst e
              rw [va_up_self, va_up_self, va_up_self, va_up_self, va_up_self, hg w hw]
              exact wrd_congr ho (fun j hj => by rw [va_up_ne _ _ (show j ≠ i by omega)])
            · rw [va_up_ne _ _ e, va_up_ne _ _ e, va_up_ne _ _ e, va_up_ne _ _ e, va_up_ne _ _ e, hW i (by omega) w hw]
              exact wrd_congr (hO i (by omega)) (fun j hj => by rw [va_up_ne _ _ (show j ≠ n by omega)])
          have hI3 : inj (n + 1) (va_up wa n zw) := inj_snoc hI1 (fun i hi z => hzL (z ▸ (hCo.2.2.2.2 i hi).2.1))
          have hB2 : BiI (n + 1) mm (va_up kd n k) (va_up ca n a) (va_up cbb n b) (va_up ccc n c_) bw := by
            intro i hi r hr
            by_cases e : i = n
            · subst e
              rw [va_up_self, va_up_self, va_up_self, va_up_self, hw1 r hr]
              show hK mm (mB bf) k a9 b9 c9 r = _
              rw [hK_same hn60 ho9 ho]
              exact hK_congr ho (fun j hj => (hw2 j (by omega) r hr).symm)
            · rw [va_up_ne _ _ e, va_up_ne _ _ e, va_up_ne _ _ e, va_up_ne _ _ e, hw2 i e r hr, hBi i (by omega) r hr]
              exact hK_congr (hO i (by omega)) (fun j hj => (hw2 j (by omega) r hr).symm)
          have hX2 : KnI kn xf bw RK DN RC rn := by
            intro hkn r hr
            rw [hX hkn r hr]
            refine congrArg oI (pick_congr (fun j hj => ?_))
            show mB bf (RC j) r = mB bw (RC j) r
            rw [hw2 (RC j) (by have := (hru j hj).2; omega) r hr]
          refine ⟨by rw [hr1, hr2], n + 1, rn, va_up kd n k, va_up ka n x2, va_up kb n x3, va_up kc n x4, va_up ca n a, va_up cbb n b, va_up ccc n c_, mm, nu, rk, dn, rc, RK, DN, RC, ?_, ⟨g2, kA, fA, sA, tA, bA, r2A, dA, cA, eA, kn, gf, bw, xf, hM, hG, hB2, hX2⟩, hO2, hRow, fun j hj => ⟨(hru j hj).1, by have := (hru j hj).2; omega⟩⟩
          exact ClI.kc (L := L2) (f := f1) ⟨cb, rb, mA, gA, rA, va_up ad n q, va_up wa n zw, va_up wd n g, rad, hx1, hCv, hR2, hI3, hI2, hW2⟩ (KC.of hk2)

set_option maxHeartbeats 1000000 in
theorem st_rule {G : GG} {L : List Nat} {f : Nat → va_E} {x0 cb rb mA gA rA n rn : Nat} {ad wa kd rad rc rk nu : Nat → Nat} {ka kb kc : Nat → Int32} {wd : Nat → Nat → Int64} {mm dn : Nat → Bool} {ca cbb ccc : Nat → Nat} (hx0 : Lk L f x0 (.inr (4, [.ref cb, .ref rb]))) (hCo : CoB G L f cb mA gA n ad wa kd ka kb kc wd mm) (hRu : RuB0 G L f rb rA rn rad rc rk nu dn ad) (hI1 : inj n wa) (hI2 : inj rn rad) (hW : OkW n kd ca cbb ccc wd mm) {mo g2 kA fA sA tA bA r2A dA cA eA : Nat} {kn : Bool} {gf bf xf : Nat → Int32} {RK : Nat → Nat} {DN : Nat → Bool} {RC : Nat → Nat} (hMo : MoB G L f mo g2 kA fA sA tA bA r2A dA cA eA n rn kn gf kd ka kb kc bf RK DN RC xf) (hG : GrI gf mm) (hBi : BiI n mm kd ca cbb ccc bf) (hX : KnI kn xf bf RK DN RC rn) (hO : OkN n kd ka kb kc ca cbb ccc) (hRow : Row rn nu rk dn rc RK DN RC) (hru : ∀ j, j < rn → RK j < 10 ∧ RC j < n) {x y : Int32} {b : Bool} {r1 r2 : Int32} {L1 L2 : List Nat} {f1 f2 : Nat → va_E} (h1 : (fun r z => ((blw y (nI n) = false ∨ blw x (nI 10) = false) ∧ r = -1 ∧ z = (L, f)) ∨ ∃ u t, u < 10 ∧ t < n ∧ x = nI u ∧ y = nI t ∧ ((rn = 20 ∧ r = -3 ∧ z = (L, f)) ∨ (rn < 20 ∧ r = nI rn ∧ ∃ fr pl, fr ∉ L ∧ fst0 (isPl rn u b rk dn) 20 0 = some pl ∧ pl ≤ rn ∧ Kp (fun a => a = rb ∨ a = rA) L f z ∧ RuB0 G z.1 z.2 rb rA (rn + 1) (insA rad pl fr) (insA rc pl t) (insA rk pl u) (insA nu pl rn) (insA dn pl b) ad))) r1 (L1, f1)) (h2 : (fun r z => z.1 = L1 ∧ Kp (fun a => moE (f1 a)) L1 f1 z ∧ (((blw y (nI n) = false ∨ blw x (nI 10) = false) ∧ r = -1 ∧ MoB G L1 z.2 mo g2 kA fA sA tA bA r2A dA cA eA n rn kn gf kd ka kb kc bf RK DN RC xf) ∨ ∃ u t, u < 10 ∧ t < n ∧ x = nI u ∧ y = nI t ∧ ((rn = 20 ∧ r = -3 ∧ MoB G L1 z.2 mo g2 kA fA sA tA bA r2A dA cA eA n rn kn gf kd ka kb kc bf RK DN RC xf) ∨ (rn < 20 ∧ r = nI rn ∧ MoB G L1 z.2 mo g2 kA fA sA tA bA r2A dA cA eA n (rn + 1) false gf kd ka kb kc bf (va_up RK rn u) (va_up DN rn b) (va_up RC rn t) xf)))) r2 (L2, f2)) : r1 = r2 ∧ DI G L2 f2 x0 mo := by
  obtain ⟨hL2, hk2, h2⟩ := h2
  dsimp only at hL2
  subst hL2
  have hn60 := hMo.1
  rcases h1 with ⟨hbad, hr1, hz⟩ | ⟨u, t, hu, ht, hxu, hyt, h1⟩
  · cases hz
    rcases h2 with ⟨_, hr2, hM⟩ | ⟨u, t, hu, ht, hxu, hyt, _⟩
    · exact ⟨by rw [hr1, hr2], ⟨n, rn, kd, ka, kb, kc, ca, cbb, ccc, mm, nu, rk, dn, rc, RK, DN, RC, ClI.kc (L := L) (f := f) ⟨cb, rb, mA, gA, rA, ad, wa, wd, rad, hx0, hCo, hRu, hI1, hI2, hW⟩ (KC.of hk2), ⟨g2, kA, fA, sA, tA, bA, r2A, dA, cA, eA, kn, gf, bf, xf, hM, hG, hBi, hX⟩, hO, hRow, hru⟩⟩
    · rw [hxu, hyt, blw_y hu (by decide), blw_y ht (by omega)] at hbad
      rcases hbad with z | z <;> cases z
  · rcases h2 with ⟨hbad, _, _⟩ | ⟨u9, t9, hu9, ht9, hxu9, hyt9, h2⟩
    · rw [hxu, hyt, blw_y hu (by decide), blw_y ht (by omega)] at hbad
      rcases hbad with z | z <;> cases z
    · obtain rfl : u = u9 := nI_inj (by omega) (by omega) (hxu.symm.trans hxu9)
      obtain rfl : t = t9 := nI_inj (by omega) (by omega) (hyt.symm.trans hyt9)
      rcases h1 with ⟨hs, hr1, hz⟩ | ⟨hs, hr1, fr, pl, hfL, hpl, hle, hkc, hRv⟩
      · cases hz
        rcases h2 with ⟨_, hr2, hM⟩ | ⟨hs2, _⟩
        · exact ⟨by rw [hr1, hr2], ⟨n, rn, kd, ka, kb, kc, ca, cbb, ccc, mm, nu, rk, dn, rc, RK, DN, RC, ClI.kc (L := L) (f := f) ⟨cb, rb, mA, gA, rA, ad, wa, wd, rad, hx0, hCo, hRu, hI1, hI2, hW⟩ (KC.of hk2), ⟨g2, kA, fA, sA, tA, bA, r2A, dA, cA, eA, kn, gf, bf, xf, hM, hG, hBi, hX⟩, hO, hRow, hru⟩⟩
        · omega
      · rcases h2 with ⟨hs2, _⟩ | ⟨_, hr2, hM⟩
        · omega
        · dsimp only at hRv
          have hx1 : Lk L2 f1 x0 (.inr (4, [.ref cb, .ref rb])) := hkc.k hx0 (fun z => by
            rcases z with z | z
            · exact Lk.neOO hx0 hRu.2.1 (by decide) z
            · exact Lk.neOA hx0 hRu.2.2.1 z)
          have hC1 : CoB G L2 f1 cb mA gA n ad wa kd ka kb kc wd mm := hCo.keep hkc (fun a e ha hr z => by
            rcases z with z | z
            · exact cT_ne hRu.2.1 rfl a e ha hr z
            · exact cT_ne hRu.2.2.1 rfl a e ha hr z)
          have hI3 : inj (rn + 1) (insA rad pl fr) := inj_ins hI2 hle (fun i hi z => hfL (z ▸ (hRu.2.2.2 i hi).2.2.1))
          have hru2 : ∀ j, j < rn + 1 → va_up RK rn u j < 10 ∧ va_up RC rn t j < n := by
            intro j hj
            by_cases e : j = rn
            · rw [e, va_up_self, va_up_self]; exact ⟨hu, ht⟩
            · rw [va_up_ne _ _ e, va_up_ne _ _ e]; exact hru j (by omega)
          refine ⟨by rw [hr1, hr2], n, rn + 1, kd, ka, kb, kc, ca, cbb, ccc, mm, insA nu pl rn, insA rk pl u, insA dn pl b, insA rc pl t, va_up RK rn u, va_up DN rn b, va_up RC rn t, ?_, ⟨g2, kA, fA, sA, tA, bA, r2A, dA, cA, eA, false, gf, bf, xf, hM, hG, hBi, KnI_no⟩, hO, Row_ins hRow hs hpl hle, hru2⟩
          exact ClI.kc (L := L2) (f := f1) ⟨cb, rb, mA, gA, rA, ad, wa, wd, insA rad pl fr, hx1, hC1, hRv, hI1, hI3, hW⟩ (KC.of hk2)

set_option maxHeartbeats 1000000 in
theorem st_drop {G : GG} {L : List Nat} {f : Nat → va_E} {x0 cb rb mA gA rA n rn : Nat} {ad wa kd rad rc rk nu : Nat → Nat} {ka kb kc : Nat → Int32} {wd : Nat → Nat → Int64} {mm dn : Nat → Bool} {ca cbb ccc : Nat → Nat} (hx0 : Lk L f x0 (.inr (4, [.ref cb, .ref rb]))) (hCo : CoB G L f cb mA gA n ad wa kd ka kb kc wd mm) (hRu : RuB0 G L f rb rA rn rad rc rk nu dn ad) (hI1 : inj n wa) (hI2 : inj rn rad) (hW : OkW n kd ca cbb ccc wd mm) {mo g2 kA fA sA tA bA r2A dA cA eA : Nat} {kn : Bool} {gf bf xf : Nat → Int32} {RK : Nat → Nat} {DN : Nat → Bool} {RC : Nat → Nat} (hMo : MoB G L f mo g2 kA fA sA tA bA r2A dA cA eA n rn kn gf kd ka kb kc bf RK DN RC xf) (hG : GrI gf mm) (hBi : BiI n mm kd ca cbb ccc bf) (hX : KnI kn xf bf RK DN RC rn) (hO : OkN n kd ka kb kc ca cbb ccc) (hRow : Row rn nu rk dn rc RK DN RC) (hru : ∀ j, j < rn → RK j < 10 ∧ RC j < n) (hT : Tie rn (fun q => wd (rc q)) nu rk dn rc bf RK DN RC) {x : Int32} {r1 r2 : Int32} {L1 L2 : List Nat} {f1 f2 : Nat → va_E} (h1 : (fun r z => (fst0 (isNo rn nu x) 20 0 = none ∧ r = -1 ∧ z = (L, f)) ∨ ∃ q, fst0 (isNo rn nu x) 20 0 = some q ∧ q < rn ∧ r = nI (rn - 1) ∧ z.1 = L ∧ Kp (fun a => a = rb ∨ a = rA ∨ ∃ q, q < rn ∧ a = rad q) L f z ∧ RuB0 G L z.2 rb rA (rn - 1) (delA rad q) (delA rc q) (delA rk q) (decK (nu q) 20 (delA nu q)) (delA dn q) ad) r1 (L1, f1)) (h2 : (fun r z => z.1 = L1 ∧ Kp (fun a => moE (f1 a)) L1 f1 z ∧ ((blw x (nI rn) = false ∧ r = -1 ∧ MoB G L1 z.2 mo g2 kA fA sA tA bA r2A dA cA eA n rn kn gf kd ka kb kc bf RK DN RC xf) ∨ ∃ m9 p9, m9 < rn ∧ x = nI m9 ∧ p9 + 1 = rn ∧ r = nI p9 ∧ MoB G L1 z.2 mo g2 kA fA sA tA bA r2A dA cA eA n p9 false gf kd ka kb kc bf (shM m9 p9 RK) (shM m9 p9 DN) (shM m9 p9 RC) xf)) r2 (L2, f2)) : r1 = r2 ∧ DI G L2 f2 x0 mo := by
  obtain ⟨hL2, hk2, h2⟩ := h2
  dsimp only at hL2
  subst hL2
  have hr20 := hMo.2.1
  rcases h1 with ⟨hbad, hr1, hz⟩ | ⟨q, hf, hq, hr1, hz1, hkc, hRv⟩
  · cases hz
    rcases h2 with ⟨_, hr2, hM⟩ | ⟨m, p, hm, hxm, _⟩
    · exact ⟨by rw [hr1, hr2], ⟨n, rn, kd, ka, kb, kc, ca, cbb, ccc, mm, nu, rk, dn, rc, RK, DN, RC, ClI.kc (L := L) (f := f) ⟨cb, rb, mA, gA, rA, ad, wa, wd, rad, hx0, hCo, hRu, hI1, hI2, hW⟩ (KC.of hk2), ⟨g2, kA, fA, sA, tA, bA, r2A, dA, cA, eA, kn, gf, bf, xf, hM, hG, hBi, hX⟩, hO, hRow, hru⟩⟩
    · obtain ⟨p, _, _, hp⟩ := no_at hT hm
      rw [hxm, hp] at hbad
      cases hbad
  · rcases h2 with ⟨hbad, _, _⟩ | ⟨m, p, hm, hxm, hp1, hr2, hM⟩
    · rw [no_none hT hbad] at hf
      cases hf
    · have hnq := of_decide_eq_true (fst0_s hf).2.2.1
      have hnl := (hRow.1 q hq).1
      obtain rfl : nu q = m := nI_inj (by omega) (by omega) (hnq.2.trans hxm)
      subst hp1
      dsimp only at hz1 hRv
      subst hz1
      have hx1 : Lk L2 f1 x0 (.inr (4, [.ref cb, .ref rb])) := hkc.k hx0 (fun z => by
        rcases z with z | z | ⟨i, hi, z⟩
        · exact Lk.neOO hx0 hRu.2.1 (by decide) z
        · exact Lk.neOA hx0 hRu.2.2.1 z
        · exact Lk.neOO hx0 (hRu.2.2.2 i hi).2.2 (by decide) z)
      have hC1 : CoB G L2 f1 cb mA gA n ad wa kd ka kb kc wd mm := hCo.keep hkc (fun a e ha hr z => by
        rcases z with z | z | ⟨i, hi, z⟩
        · exact cT_ne hRu.2.1 rfl a e ha hr z
        · exact cT_ne hRu.2.2.1 rfl a e ha hr z
        · exact cT_ne (hRu.2.2.2 i hi).2.2 rfl a e ha hr z)
      have hru2 : ∀ j, j < p → shM (nu q) p RK j < 10 ∧ shM (nu q) p RC j < n := by
        intro j hj
        unfold shM
        by_cases e : nu q ≤ j ∧ j < p
        · rw [if_pos e, if_pos e]; exact hru (j + 1) (by omega)
        · rw [if_neg e, if_neg e]; exact hru j (by omega)
      refine ⟨hr1.trans hr2.symm, n, p, kd, ka, kb, kc, ca, cbb, ccc, mm, decK (nu q) 20 (delA nu q), delA rk q, delA dn q, delA rc q, shM (nu q) p RK, shM (nu q) p DN, shM (nu q) p RC, ?_, ⟨g2, kA, fA, sA, tA, bA, r2A, dA, cA, eA, false, gf, bf, xf, hM, hG, hBi, KnI_no⟩, hO, Row_del hRow (by omega) hq, hru2⟩
      exact ClI.kc (L := L2) (f := f1) ⟨cb, rb, mA, gA, rA, ad, wa, wd, delA rad q, hx1, hC1, hRv, hI1, inj_del hI2 hq, hW⟩ (KC.of hk2)
