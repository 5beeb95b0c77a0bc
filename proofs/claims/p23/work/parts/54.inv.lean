/-! PHASE 2, BOTH SIDES: SEEN, MARKS, TEXT, IMAGES -/
theorem JX_seen {x m n : Nat} {h h1 h2 : xI} {g g1 g2 : xJ} {c d a y : Int32} {v1 v2 : Option Value} (hxm : x + 38 < m) (hJ : J2 x m h) (hn : n ≤ 5) (hsz : h (x + 1) 4 = nI n) (H1 : pif ((0 ≤ c.toInt ∧ c.toInt < 25) ∧ (0 ≤ d.toInt ∧ d.toInt < 10) ∧ (0 ≤ a.toInt ∧ a.toInt < 100) ∧ (0 ≤ y.toInt ∧ y.toInt < 21)) (pif (n = 5) (px (some (.int (-4 : Int32))) (rcH h x 11) g) (px (some (.int (nI (n + 1)))) (u2 (u2 (u2 (u2 (u2 h (x + 7) (n * 4) (c)) (x + 7) (n * 4 + 1) (d)) (x + 7) (n * 4 + 2) (a)) (x + 7) (n * 4 + 3) (y)) (x + 1) (4) (nI (n + 1))) g)) (px (some (.int (-2 : Int32))) (rcH h x 9) g) v1 h1 g1) (H2 : pif ((0 ≤ c.toInt ∧ c.toInt < 25) ∧ (0 ≤ d.toInt ∧ d.toInt < 10) ∧ (0 ≤ a.toInt ∧ a.toInt ≤ 99) ∧ (0 ≤ y.toInt ∧ y.toInt ≤ 20)) (pif (n = 5) (px (some (.int (-4 : Int32))) (rfH h1 m 2) g1) (px (some (.int (nI (n + 1)))) (u2 (u2 (u2 (u2 (u2 h1 (m + 1) (56 + 4 * n) (c)) (m + 1) (56 + 4 * n + 1) (d)) (m + 1) (56 + 4 * n + 2) (a)) (m + 1) (56 + 4 * n + 3) (y)) (m + 1) (0) (nI (n + 1))) g1)) (px (some (.int (-2 : Int32))) (rfH h1 m 0) g1) v2 h2 g2) : J2 x m h2 ∧ v1 = v2 := by
  have hc := (cKp_seen hJ.1.1 hn H1).2
  have hm := (mKp_seen (J_1 hxm hJ.1 hc) hn H2).2
  have hj := J_kk hxm hJ.1 hc hm
  by_cases q : (0 ≤ c.toInt ∧ c.toInt < 25) ∧ (0 ≤ d.toInt ∧ d.toInt < 10) ∧ (0 ≤ a.toInt ∧ a.toInt < 100) ∧ (0 ≤ y.toInt ∧ y.toInt < 21)
  · by_cases q2 : n = 5
    · obtain ⟨rfl, rfl, -⟩ := (H1.1 q).1 q2
      obtain ⟨rfl, rfl, -⟩ := (H2.1 (by omega)).1 q2
      exact ⟨⟨hj, K_rr hxm hJ.2 (by omega)⟩, rfl⟩
    · obtain ⟨rfl, rfl, -⟩ := (H1.1 q).2 q2
      obtain ⟨rfl, rfl, -⟩ := (H2.1 (by omega)).2 q2
      obtain ⟨hh, ehh⟩ : ∃ hh, hh = u2 (u2 (u2 (u2 (u2 (u2 (u2 (u2 (u2 (u2 h (x + 7) (n * 4) (c)) (x + 7) (n * 4 + 1) (d)) (x + 7) (n * 4 + 2) (a)) (x + 7) (n * 4 + 3) (y)) (x + 1) (4) (nI (n + 1))) (m + 1) (56 + 4 * n) (c)) (m + 1) (56 + 4 * n + 1) (d)) (m + 1) (56 + 4 * n + 2) (a)) (m + 1) (56 + 4 * n + 3) (y)) (m + 1) (0) (nI (n + 1)) := ⟨_, rfl⟩
      rw [← ehh] at hj ⊢
      have f : ∀ q i, ¬ (q = x + 7 ∧ n * 4 ≤ i ∧ i < n * 4 + 4) → ¬ (q = x + 1 ∧ i = 4) → ¬ (q = m + 1 ∧ ((56 + 4 * n ≤ i ∧ i < 56 + 4 * n + 4) ∨ i = 0)) → hh q i = h q i := fun q i z1 z2 z3 => by rw [ehh, u2_ne _ _ _ _ (by omega), u2_ne _ _ _ _ (by omega), u2_ne _ _ _ _ (by omega), u2_ne _ _ _ _ (by omega), u2_ne _ _ _ _ (by omega), u2_ne _ _ _ _ (by omega), u2_ne _ _ _ _ (by omega), u2_ne _ _ _ _ (by omega), u2_ne _ _ _ _ (by omega), u2_ne _ _ _ _ (by omega)]
      have fc : hh (x + 1) 4 = nI (n + 1) := by rw [ehh, u2_ne _ _ _ _ (by omega), u2_ne _ _ _ _ (by omega), u2_ne _ _ _ _ (by omega), u2_ne _ _ _ _ (by omega), u2_ne _ _ _ _ (by omega), u2_s]
      have fm : hh (m + 1) 0 = nI (n + 1) := by rw [ehh, u2_s]
      have c0_ : hh (x + 7) (n * 4) = c := by rw [ehh, u2_ne _ _ _ _ (by omega), u2_ne _ _ _ _ (by omega), u2_ne _ _ _ _ (by omega), u2_ne _ _ _ _ (by omega), u2_ne _ _ _ _ (by omega), u2_ne _ _ _ _ (by omega), u2_ne _ _ _ _ (by omega), u2_ne _ _ _ _ (by omega), u2_ne _ _ _ _ (by omega), u2_s]
      have m0_ : hh (m + 1) (56 + 4 * n) = c := by rw [ehh, u2_ne _ _ _ _ (by omega), u2_ne _ _ _ _ (by omega), u2_ne _ _ _ _ (by omega), u2_ne _ _ _ _ (by omega), u2_s]
      have c1_ : hh (x + 7) (n * 4 + 1) = d := by rw [ehh, u2_ne _ _ _ _ (by omega), u2_ne _ _ _ _ (by omega), u2_ne _ _ _ _ (by omega), u2_ne _ _ _ _ (by omega), u2_ne _ _ _ _ (by omega), u2_ne _ _ _ _ (by omega), u2_ne _ _ _ _ (by omega), u2_ne _ _ _ _ (by omega), u2_s]
      have m1_ : hh (m + 1) (56 + 4 * n + 1) = d := by rw [ehh, u2_ne _ _ _ _ (by omega), u2_ne _ _ _ _ (by omega), u2_ne _ _ _ _ (by omega), u2_s]
      have c2_ : hh (x + 7) (n * 4 + 2) = a := by rw [ehh, u2_ne _ _ _ _ (by omega), u2_ne _ _ _ _ (by omega), u2_ne _ _ _ _ (by omega), u2_ne _ _ _ _ (by omega), u2_ne _ _ _ _ (by omega), u2_ne _ _ _ _ (by omega), u2_ne _ _ _ _ (by omega), u2_s]
      have m2_ : hh (m + 1) (56 + 4 * n + 2) = a := by rw [ehh, u2_ne _ _ _ _ (by omega), u2_ne _ _ _ _ (by omega), u2_s]
      have c3_ : hh (x + 7) (n * 4 + 3) = y := by rw [ehh, u2_ne _ _ _ _ (by omega), u2_ne _ _ _ _ (by omega), u2_ne _ _ _ _ (by omega), u2_ne _ _ _ _ (by omega), u2_ne _ _ _ _ (by omega), u2_ne _ _ _ _ (by omega), u2_s]
      have m3_ : hh (m + 1) (56 + 4 * n + 3) = y := by rw [ehh, u2_ne _ _ _ _ (by omega), u2_s]
      obtain ⟨⟨k, hk, e0⟩, e1, e2, e3, e4, e5, e6⟩ := hJ.2.2.1
      have g0 : ∀ i, i = 0 ∨ i = 1 ∨ (30 ≤ i ∧ i < 94) → i ≠ 0 → ¬ (56 ≤ i ∧ i < 76) → hh (m + 1) (0 + i) = h (m + 1) (0 + i) := fun i _ z1 z2 => f _ _ (by omega) (by omega) (by omega)
      have hrow : ∀ i, i < 4 * (n + 1) → hh (x + 7) i = hh (m + 1) (0 + (56 + i)) := fun i hi => by
        by_cases w : i < 4 * n
        · rw [f _ _ (by omega) (by omega) (by omega), f _ _ (by omega) (by omega) (by omega)]; exact e5 n hn hsz i w
        · rw [Nat.zero_add]
          rcases (show i = n * 4 ∨ i = n * 4 + 1 ∨ i = n * 4 + 2 ∨ i = n * 4 + 3 by omega) with w2 | w2 | w2 | w2
          · rw [show 56 + i = 56 + 4 * n by omega, w2, c0_, m0_]
          · rw [show 56 + i = 56 + 4 * n + 1 by omega, w2, c1_, m1_]
          · rw [show 56 + i = 56 + 4 * n + 2 by omega, w2, c2_, m2_]
          · rw [show 56 + i = 56 + 4 * n + 3 by omega, w2, c3_, m3_]
      have hnew : ∀ k1, k1 ≤ 5 → hh (x + 1) 4 = nI k1 → ∀ i, i < 4 * k1 → hh (x + 7) i = hh (m + 1) (0 + (56 + i)) := fun k1 hk1 w i hi => by
        have ek : n + 1 = k1 := (nI_eq (by omega) (by omega)).mp (fc.symm.trans w)
        exact hrow i (by omega)
      have hold : ∀ k1, k1 ≤ 6 → hh (x + 1) 5 = nI k1 → ∀ i, i < 3 * k1 → hh (x + 8) i = hh (m + 1) (0 + (76 + i)) := fun k1 hk1 w i hi => by
        rw [f _ _ (by omega) (by omega) (by omega), f _ _ (by omega) (by omega) (by omega)]; exact e6 k1 hk1 ((f _ _ (by omega) (by omega) (by omega)).symm.trans w) i hi
      exact ⟨⟨hj, K_now hJ.2 (fun q i z => f _ _ (by omega) (by omega) (by omega)) ⟨⟨k, hk, (f _ _ (by omega) (by omega) (by omega)).trans e0⟩, ((f _ _ (by omega) (by omega) (by omega)).trans e1).trans (f _ _ (by omega) (by omega) (by omega)).symm, fun c_ hc_ => ((f _ _ (by omega) (by omega) (by omega)).trans (e2 c_ hc_)).trans (f _ _ (by omega) (by omega) (by omega)).symm, fc.trans fm.symm, ((f _ _ (by omega) (by omega) (by omega)).trans e4).trans (f _ _ (by omega) (by omega) (by omega)).symm, hnew, hold⟩⟩, rfl⟩
  · obtain ⟨rfl, rfl, -⟩ := H1.2 q
    obtain ⟨rfl, rfl, -⟩ := H2.2 (by omega)
    exact ⟨⟨hj, K_rr hxm hJ.2 (by omega)⟩, rfl⟩
theorem JX_mark {x m n : Nat} {h h1 h2 : xI} {g g1 g2 : xJ} {s d y : Int32} {v1 v2 : Option Value} (hxm : x + 38 < m) (hJ : J2 x m h) (hn : n ≤ 6) (hsz : h (x + 1) 5 = nI n) (H1 : pif ((0 ≤ s.toInt ∧ s.toInt < 5) ∧ (0 ≤ d.toInt ∧ d.toInt < 10) ∧ (0 ≤ y.toInt ∧ y.toInt < 10)) (pif (n = 6) (px (some (.int (-4 : Int32))) (rcH h x 11) g) (px (some (.int (nI (n + 1)))) (u2 (u2 (u2 (u2 h (x + 8) (n * 3) (s)) (x + 8) (n * 3 + 1) (d)) (x + 8) (n * 3 + 2) (y)) (x + 1) (5) (nI (n + 1))) g)) (px (some (.int (-2 : Int32))) (rcH h x 9) g) v1 h1 g1) (H2 : pif ((0 ≤ s.toInt ∧ s.toInt < 5) ∧ (0 ≤ d.toInt ∧ d.toInt < 10) ∧ (0 ≤ y.toInt ∧ y.toInt < 10)) (pif (n = 6) (px (some (.int (-4 : Int32))) (rfH h1 m 2) g1) (px (some (.int (nI (n + 1)))) (u2 (u2 (u2 (u2 h1 (m + 1) (76 + 3 * n) (s)) (m + 1) (76 + 3 * n + 1) (d)) (m + 1) (76 + 3 * n + 2) (y)) (m + 1) (1) (nI (n + 1))) g1)) (px (some (.int (-2 : Int32))) (rfH h1 m 0) g1) v2 h2 g2) : J2 x m h2 ∧ v1 = v2 := by
  have hc := (cKp_mark hJ.1.1 hn H1).2
  have hm := (mKp_mark (J_1 hxm hJ.1 hc) hn H2).2
  have hj := J_kk hxm hJ.1 hc hm
  by_cases q : (0 ≤ s.toInt ∧ s.toInt < 5) ∧ (0 ≤ d.toInt ∧ d.toInt < 10) ∧ (0 ≤ y.toInt ∧ y.toInt < 10)
  · by_cases q2 : n = 6
    · obtain ⟨rfl, rfl, -⟩ := (H1.1 q).1 q2
      obtain ⟨rfl, rfl, -⟩ := (H2.1 (by omega)).1 q2
      exact ⟨⟨hj, K_rr hxm hJ.2 (by omega)⟩, rfl⟩
    · obtain ⟨rfl, rfl, -⟩ := (H1.1 q).2 q2
      obtain ⟨rfl, rfl, -⟩ := (H2.1 (by omega)).2 q2
      obtain ⟨hh, ehh⟩ : ∃ hh, hh = u2 (u2 (u2 (u2 (u2 (u2 (u2 (u2 h (x + 8) (n * 3) (s)) (x + 8) (n * 3 + 1) (d)) (x + 8) (n * 3 + 2) (y)) (x + 1) (5) (nI (n + 1))) (m + 1) (76 + 3 * n) (s)) (m + 1) (76 + 3 * n + 1) (d)) (m + 1) (76 + 3 * n + 2) (y)) (m + 1) (1) (nI (n + 1)) := ⟨_, rfl⟩
      rw [← ehh] at hj ⊢
      have f : ∀ q i, ¬ (q = x + 8 ∧ n * 3 ≤ i ∧ i < n * 3 + 3) → ¬ (q = x + 1 ∧ i = 5) → ¬ (q = m + 1 ∧ ((76 + 3 * n ≤ i ∧ i < 76 + 3 * n + 3) ∨ i = 1)) → hh q i = h q i := fun q i z1 z2 z3 => by rw [ehh, u2_ne _ _ _ _ (by omega), u2_ne _ _ _ _ (by omega), u2_ne _ _ _ _ (by omega), u2_ne _ _ _ _ (by omega), u2_ne _ _ _ _ (by omega), u2_ne _ _ _ _ (by omega), u2_ne _ _ _ _ (by omega), u2_ne _ _ _ _ (by omega)]
      have fc : hh (x + 1) 5 = nI (n + 1) := by rw [ehh, u2_ne _ _ _ _ (by omega), u2_ne _ _ _ _ (by omega), u2_ne _ _ _ _ (by omega), u2_ne _ _ _ _ (by omega), u2_s]
      have fm : hh (m + 1) 1 = nI (n + 1) := by rw [ehh, u2_s]
      have c0_ : hh (x + 8) (n * 3) = s := by rw [ehh, u2_ne _ _ _ _ (by omega), u2_ne _ _ _ _ (by omega), u2_ne _ _ _ _ (by omega), u2_ne _ _ _ _ (by omega), u2_ne _ _ _ _ (by omega), u2_ne _ _ _ _ (by omega), u2_ne _ _ _ _ (by omega), u2_s]
      have m0_ : hh (m + 1) (76 + 3 * n) = s := by rw [ehh, u2_ne _ _ _ _ (by omega), u2_ne _ _ _ _ (by omega), u2_ne _ _ _ _ (by omega), u2_s]
      have c1_ : hh (x + 8) (n * 3 + 1) = d := by rw [ehh, u2_ne _ _ _ _ (by omega), u2_ne _ _ _ _ (by omega), u2_ne _ _ _ _ (by omega), u2_ne _ _ _ _ (by omega), u2_ne _ _ _ _ (by omega), u2_ne _ _ _ _ (by omega), u2_s]
      have m1_ : hh (m + 1) (76 + 3 * n + 1) = d := by rw [ehh, u2_ne _ _ _ _ (by omega), u2_ne _ _ _ _ (by omega), u2_s]
      have c2_ : hh (x + 8) (n * 3 + 2) = y := by rw [ehh, u2_ne _ _ _ _ (by omega), u2_ne _ _ _ _ (by omega), u2_ne _ _ _ _ (by omega), u2_ne _ _ _ _ (by omega), u2_ne _ _ _ _ (by omega), u2_s]
      have m2_ : hh (m + 1) (76 + 3 * n + 2) = y := by rw [ehh, u2_ne _ _ _ _ (by omega), u2_s]
      obtain ⟨⟨k, hk, e0⟩, e1, e2, e3, e4, e5, e6⟩ := hJ.2.2.1
      have g0 : ∀ i, i = 0 ∨ i = 1 ∨ (30 ≤ i ∧ i < 94) → i ≠ 1 → ¬ (76 ≤ i ∧ i < 94) → hh (m + 1) (0 + i) = h (m + 1) (0 + i) := fun i _ z1 z2 => f _ _ (by omega) (by omega) (by omega)
      have hrow : ∀ i, i < 3 * (n + 1) → hh (x + 8) i = hh (m + 1) (0 + (76 + i)) := fun i hi => by
        by_cases w : i < 3 * n
        · rw [f _ _ (by omega) (by omega) (by omega), f _ _ (by omega) (by omega) (by omega)]; exact e6 n hn hsz i w
        · rw [Nat.zero_add]
          rcases (show i = n * 3 ∨ i = n * 3 + 1 ∨ i = n * 3 + 2 by omega) with w2 | w2 | w2
          · rw [show 76 + i = 76 + 3 * n by omega, w2, c0_, m0_]
          · rw [show 76 + i = 76 + 3 * n + 1 by omega, w2, c1_, m1_]
          · rw [show 76 + i = 76 + 3 * n + 2 by omega, w2, c2_, m2_]
      have hnew : ∀ k1, k1 ≤ 6 → hh (x + 1) 5 = nI k1 → ∀ i, i < 3 * k1 → hh (x + 8) i = hh (m + 1) (0 + (76 + i)) := fun k1 hk1 w i hi => by
        have ek : n + 1 = k1 := (nI_eq (by omega) (by omega)).mp (fc.symm.trans w)
        exact hrow i (by omega)
      have hold : ∀ k1, k1 ≤ 5 → hh (x + 1) 4 = nI k1 → ∀ i, i < 4 * k1 → hh (x + 7) i = hh (m + 1) (0 + (56 + i)) := fun k1 hk1 w i hi => by
        rw [f _ _ (by omega) (by omega) (by omega), f _ _ (by omega) (by omega) (by omega)]; exact e5 k1 hk1 ((f _ _ (by omega) (by omega) (by omega)).symm.trans w) i hi
      exact ⟨⟨hj, K_now hJ.2 (fun q i z => f _ _ (by omega) (by omega) (by omega)) ⟨⟨k, hk, (f _ _ (by omega) (by omega) (by omega)).trans e0⟩, ((f _ _ (by omega) (by omega) (by omega)).trans e1).trans (f _ _ (by omega) (by omega) (by omega)).symm, fun c_ hc_ => ((f _ _ (by omega) (by omega) (by omega)).trans (e2 c_ hc_)).trans (f _ _ (by omega) (by omega) (by omega)).symm, ((f _ _ (by omega) (by omega) (by omega)).trans e3).trans (f _ _ (by omega) (by omega) (by omega)).symm, fc.trans fm.symm, hold, hnew⟩⟩, rfl⟩
  · obtain ⟨rfl, rfl, -⟩ := H1.2 q
    obtain ⟨rfl, rfl, -⟩ := H2.2 (by omega)
    exact ⟨⟨hj, K_rr hxm hJ.2 (by omega)⟩, rfl⟩
theorem JX_type {x m nt : Nat} {h h1 h2 : xI} {g g1 g2 : xJ} {a : Int32} {v1 v2 : Option Value} (hxm : x + 38 < m) (hJ : J2 x m h) (hnt : nt ≤ 150) (H1 : tyC x nt a h g v1 h1 g1) (H2 : tyM m nt a h1 g1 v2 h2 g2) : J2 x m h2 ∧ v1 = v2 := by
  obtain ⟨hj, hv⟩ := J_type hxm hJ.1 hnt H1 H2
  refine ⟨⟨hj, ?_⟩, hv⟩
  by_cases q : 0 ≤ a.toInt ∧ a.toInt < 128
  · by_cases q2 : nt = 150
    · obtain ⟨-, rfl, -⟩ := (H1.1 q).1 q2
      obtain ⟨-, rfl, -⟩ := (H2.1 (by omega)).1 q2
      exact K_rr hxm hJ.2 (by omega)
    · obtain ⟨-, rfl, -⟩ := (H1.1 q).2 q2
      obtain ⟨-, rfl, -⟩ := (H2.1 (by omega)).2 q2
      have f : ∀ q i, ¬ (q = x + 34 ∧ i = nt) → ¬ (q = x + 33 ∧ i = 2) → ¬ (q = m + 9 ∧ i = nt) → ¬ (q = m ∧ i = 11) → u2 (u2 (u2 (u2 h (x + 34) nt a) (x + 33) 2 (nI (nt + 1))) (m + 9) nt a) m 11 (nI (nt + 1)) q i = h q i := fun q i z1 z2 z3 z4 => by rw [u2_ne _ _ _ _ (by omega), u2_ne _ _ _ _ (by omega), u2_ne _ _ _ _ (by omega), u2_ne _ _ _ _ (by omega)]
      obtain ⟨k1, k2, k3, k4⟩ := hJ.2
      refine ⟨fun i hi => ?_, sE_f (fun p i z => f _ _ (by omega) (by omega) (by omega) (by omega)) (fun i hi => f _ _ (by omega) (by omega) (by omega) (by omega)) k2, sE_f (fun p i z => f _ _ (by omega) (by omega) (by omega) (by omega)) (fun i hi => f _ _ (by omega) (by omega) (by omega) (by omega)) k3, sE_f (fun p i z => f _ _ (by omega) (by omega) (by omega) (by omega)) (fun i hi => f _ _ (by omega) (by omega) (by omega) (by omega)) k4⟩
      by_cases w : i = nt
      · subst w
        rw [u2_ne _ _ _ _ (by omega), u2_ne _ _ _ _ (by omega), u2_ne _ _ _ _ (by omega), u2_s, u2_ne _ _ _ _ (by omega), u2_s]
      · rw [f _ _ (by omega) (by omega) (by omega) (by omega), f _ _ (by omega) (by omega) (by omega) (by omega)]; exact k1 i hi
  · obtain ⟨-, rfl, -⟩ := H1.2 q
    obtain ⟨-, rfl, -⟩ := H2.2 (by omega)
    exact K_rr hxm hJ.2 (by omega)
theorem JX_clear {x m : Nat} {h h1 h2 : xI} {g g1 g2 : xJ} {v1 v2 : Option Value} (hxm : x + 38 < m) (hJ : J2 x m h) (H1 : px (some (.int (h (x + 33) 2))) (u2 h (x + 33) 2 (nI 0)) g v1 h1 g1) (H2 : px (some (.int (h1 m 11))) (u2 h1 m 11 (nI 0)) g1 v2 h2 g2) : J2 x m h2 ∧ v1 = v2 := by
  obtain ⟨hj, hv⟩ := J_clear hxm hJ.1 H1 H2
  refine ⟨⟨hj, ?_⟩, hv⟩
  obtain ⟨-, rfl, -⟩ := H1
  obtain ⟨-, rfl, -⟩ := H2
  have f : ∀ q i, ¬ (q = x + 33 ∧ i = 2) → ¬ (q = m ∧ i = 11) → u2 (u2 h (x + 33) 2 (nI 0)) m 11 (nI 0) q i = h q i := fun q i z1 z2 => by rw [u2_ne _ _ _ _ (by omega), u2_ne _ _ _ _ (by omega)]
  obtain ⟨k1, k2, k3, k4⟩ := hJ.2
  exact ⟨fun i hi => ((f _ _ (by omega) (by omega)).trans (k1 i hi)).trans (f _ _ (by omega) (by omega)).symm, sE_f (fun p i z => f _ _ (by omega) (by omega)) (fun i hi => f _ _ (by omega) (by omega)) k2, sE_f (fun p i z => f _ _ (by omega) (by omega)) (fun i hi => f _ _ (by omega) (by omega)) k3, sE_f (fun p i z => f _ _ (by omega) (by omega)) (fun i hi => f _ _ (by omega) (by omega)) k4⟩
theorem ta_all (h : xI) (t o : Nat) (hd : o + 7 < t ∨ t + 7 < o) : taH h t o (t + 1) 2 = h (o + 1) 2 ∧ (∀ c, c < 25 → taH h t o (t + 2) c = h (o + 2) c) ∧ taH h t o t 4 = h o 4 ∧ taH h t o t 5 = h o 5 ∧ (∀ i, i < 20 → taH h t o (t + 6) i = h (o + 6) i) ∧ ∀ i, i < 18 → taH h t o (t + 7) i = h (o + 7) i := by
  have p0 : ∀ q i, (q < t + 1 ∨ t + 5 < q) → ppH (ccH h (t + 1) (o + 1)) (t + 4) (o + 4) q i = h q i := fun q i z => by
    unfold ppH
    rw [u2_ne _ _ _ _ (by omega), cpS_ne _ _ _ _ _ _ (by omega), ccH_ne _ _ _ (by omega)]
  have low : ∀ q i, q ≠ t → q ≠ t + 6 → q ≠ t + 7 → q ≠ t + 4 → q ≠ t + 5 → taH h t o q i = ccH h (t + 1) (o + 1) q i := fun q i z1 z2 z3 z4 z5 => by
    unfold taH ta1 ta0 ppH
    rw [u2_ne _ _ _ _ (by omega), u2_ne _ _ _ _ (by omega), cpS_ne _ _ _ _ _ _ (by omega), cpS_ne _ _ _ _ _ _ (by omega), u2_ne _ _ _ _ (by omega), cpS_ne _ _ _ _ _ _ (by omega)]
  have t0 : ∀ q i, (q < t ∨ t + 7 < q) → ta0 h t o q i = h q i := fun q i z => by
    unfold ta0
    rw [cpS_ne _ _ _ _ _ _ (by omega), cpS_ne _ _ _ _ _ _ (by omega), p0 q i (by omega)]
  refine ⟨?_, fun c hc => ?_, ?_, ?_, fun i hi => ?_, fun i hi => ?_⟩
  · rw [low _ _ (by omega) (by omega) (by omega) (by omega) (by omega)]
    unfold ccH cc2 cc1
    rw [u2_ne _ _ _ _ (by omega), u2_ne _ _ _ _ (by omega), u2_s]
    unfold cc0
    rw [cpS_ne _ _ _ _ _ _ (by omega), cpS_ne _ _ _ _ _ _ (by omega)]
  · rw [low _ _ (by omega) (by omega) (by omega) (by omega) (by omega)]
    unfold ccH cc2 cc1 cc0
    rw [u2_ne _ _ _ _ (by omega), u2_ne _ _ _ _ (by omega), u2_ne _ _ _ _ (by omega), cpS_ne _ _ _ _ _ _ (by omega), cpS_at _ _ _ _ _ _ ⟨rfl, by omega, by omega⟩]
    rfl
  · unfold taH ta1
    rw [u2_ne _ _ _ _ (by omega), u2_s, t0 _ _ (by omega)]
  · unfold taH
    rw [u2_s]
    unfold ta1
    rw [u2_ne _ _ _ _ (by omega), t0 _ _ (by omega)]
  · unfold taH ta1 ta0
    rw [u2_ne _ _ _ _ (by omega), u2_ne _ _ _ _ (by omega), cpS_ne _ _ _ _ _ _ (by omega), cpS_at _ _ _ _ _ _ ⟨rfl, by omega, by omega⟩, p0 _ _ (by omega)]
    rfl
  · unfold taH ta1 ta0
    rw [u2_ne _ _ _ _ (by omega), u2_ne _ _ _ _ (by omega), cpS_at _ _ _ _ _ _ ⟨rfl, by omega, by omega⟩, cpS_ne _ _ _ _ _ _ (by omega), p0 _ _ (by omega)]
    rfl
theorem K_im1 {x m t k : Nat} {w0 : Int32} {h : xI} (hxm : x + 38 < m) (H : K2 x m h) (ht : (t = x + 10 ∧ k = 0) ∨ (t = x + 18 ∧ k = 1)) : K2 x m (u2 (cpS (u2 (taH h t (x + 1)) (x + 26) k w0) (m + 1) 0 (m + 2) (310 * k) 310) (m + 3) k w0) := by
  obtain ⟨hh, ehh⟩ : ∃ hh, hh = u2 (cpS (u2 (taH h t (x + 1)) (x + 26) k w0) (m + 1) 0 (m + 2) (310 * k) 310) (m + 3) k w0 := ⟨_, rfl⟩
  rw [← ehh]
  have fc : ∀ q i, q < x + 26 → hh q i = taH h t (x + 1) q i := fun q i z => by rw [ehh, u2_ne _ _ _ _ (by omega), cpS_ne _ _ _ _ _ _ (by omega), u2_ne _ _ _ _ (by omega)]
  have ft : ∀ q i, (q < t ∨ t + 7 < q) → q ≠ x + 26 → q ≠ m + 2 → q ≠ m + 3 → hh q i = h q i := fun q i z1 z2 z3 z4 => by rw [ehh, u2_ne _ _ _ _ (by omega), cpS_ne _ _ _ _ _ _ (by omega), u2_ne _ _ _ _ (by omega), taH_ne _ _ _ (by omega)]
  have fm : ∀ i, i < 310 → hh (m + 2) (310 * k + i) = h (m + 1) (0 + i) := fun i hi => by rw [ehh, u2_ne _ _ _ _ (by omega), cpS_at _ _ _ _ _ _ ⟨rfl, by omega, by omega⟩, u2_ne _ _ _ _ (by omega), taH_ne _ _ _ (by omega), show 310 * k + i - 310 * k + 0 = 0 + i by omega]
  have fo : ∀ i, (i < 310 * k ∨ 310 * k + 310 ≤ i) → hh (m + 2) i = h (m + 2) i := fun i z => by rw [ehh, u2_ne _ _ _ _ (by omega), cpS_ne _ _ _ _ _ _ (by omega), u2_ne _ _ _ _ (by omega), taH_ne _ _ _ (by omega)]
  obtain ⟨k1, k2, k3, k4⟩ := H
  obtain ⟨a1, a2, a3, a4, a5, a6⟩ := ta_all h t (x + 1) (by omega)
  have new : sE hh t (m + 2) (310 * k) := sE_c ((fc _ _ (by omega)).trans a1) (fun c hc => (fc _ _ (by omega)).trans (a2 c hc)) ((fc _ _ (by omega)).trans a3) ((fc _ _ (by omega)).trans a4) (fun i hi => (fc _ _ (by omega)).trans (a5 i hi)) (fun i hi => (fc _ _ (by omega)).trans (a6 i hi)) (fun i hi => fm i (by omega)) k2
  refine ⟨fun i hi => ?_, sE_f (fun p i z => ft _ _ (by omega) (by omega) (by omega) (by omega)) (fun i hi => ft _ _ (by omega) (by omega) (by omega) (by omega)) k2, ?_, ?_⟩
  · rw [ft _ _ (by omega) (by omega) (by omega) (by omega), ft _ _ (by omega) (by omega) (by omega) (by omega)]; exact k1 i hi
  · rcases ht with ⟨rfl, rfl⟩ | ⟨rfl, rfl⟩
    · exact new
    · exact sE_f (fun p i z => ft _ _ (by omega) (by omega) (by omega) (by omega)) (fun i hi => fo _ (by omega)) k3
  · rcases ht with ⟨rfl, rfl⟩ | ⟨rfl, rfl⟩
    · exact sE_f (fun p i z => ft _ _ (by omega) (by omega) (by omega) (by omega)) (fun i hi => fo _ (by omega)) k4
    · exact new
theorem ne01 {a : Int32} (q : ¬ a = 0) (q2 : ¬ a = 1) : ¬ (0 ≤ a.toInt ∧ a.toInt ≤ 1) := fun z => by
  rcases (show a.toInt = 0 ∨ a.toInt = 1 by omega) with z2 | z2
  · exact q (Int32.toInt_inj.mp (z2.trans (by decide)))
  · exact q2 (Int32.toInt_inj.mp (z2.trans (by decide)))
theorem JX_image {x m : Nat} {h h1 h2 : xI} {g g1 g2 : xJ} {a : Int32} {v1 v2 : Option Value} (hxm : x + 38 < m) (hJ : J2 x m h) (H1 : imC x a h g v1 h1 g1) (H2 : imM m a h1 g1 v2 h2 g2) : J2 x m h2 ∧ v1 = v2 := by
  obtain ⟨hj, hv⟩ := J_image hxm hJ.1 H1 H2
  refine ⟨⟨hj, ?_⟩, hv⟩
  by_cases q : a = 0
  · obtain ⟨-, rfl, -⟩ := H1.1 q
    subst q
    obtain ⟨-, rfl, -⟩ := H2.1 (by decide)
    exact K_im1 (t := x + 10) (k := 0) hxm hJ.2 (Or.inl ⟨rfl, rfl⟩)
  · by_cases q2 : a = 1
    · obtain ⟨-, rfl, -⟩ := (H1.2 q).1 q2
      subst q2
      obtain ⟨-, rfl, -⟩ := H2.1 (by decide)
      exact K_im1 (t := x + 18) (k := 1) hxm hJ.2 (Or.inr ⟨rfl, rfl⟩)
    · obtain ⟨-, rfl, -⟩ := (H1.2 q).2 q2
      obtain ⟨-, rfl, -⟩ := H2.2 (ne01 q q2)
      exact K_rr hxm hJ.2 (by omega)
theorem K_fr1 {x m t k : Nat} {h : xI} (hxm : x + 38 < m) (H : K2 x m h) (ht : (t = x + 10 ∧ k = 0) ∨ (t = x + 18 ∧ k = 1)) : K2 x m (cpS (taH h (x + 1) t) (m + 2) (310 * k) (m + 1) 0 310) := by
  obtain ⟨hh, ehh⟩ : ∃ hh, hh = cpS (taH h (x + 1) t) (m + 2) (310 * k) (m + 1) 0 310 := ⟨_, rfl⟩
  rw [← ehh]
  have fc : ∀ q i, q < x + 26 → hh q i = taH h (x + 1) t q i := fun q i z => by rw [ehh, cpS_ne _ _ _ _ _ _ (by omega)]
  have ft : ∀ q i, (q < x + 1 ∨ x + 8 < q) → q ≠ m + 1 → hh q i = h q i := fun q i z1 z2 => by rw [ehh, cpS_ne _ _ _ _ _ _ (by omega), taH_ne _ _ _ (by omega)]
  have fm : ∀ i, i < 310 → hh (m + 1) (0 + i) = h (m + 2) (310 * k + i) := fun i hi => by rw [ehh, cpS_at _ _ _ _ _ _ ⟨rfl, by omega, by omega⟩, taH_ne _ _ _ (by omega), show 0 + i - 0 + 310 * k = 310 * k + i by omega]
  obtain ⟨a1, a2, a3, a4, a5, a6⟩ := ta_all h (x + 1) t (by omega)
  refine K_now H (fun q i z => ft _ _ (by omega) (by omega)) ?_
  have old : sE h t (m + 2) (310 * k) := by
    rcases ht with ⟨rfl, rfl⟩ | ⟨rfl, rfl⟩
    · exact H.2.2.1
    · exact H.2.2.2
  exact sE_c ((fc _ _ (by omega)).trans a1) (fun c hc => (fc _ _ (by omega)).trans (a2 c hc)) ((fc _ _ (by omega)).trans a3) ((fc _ _ (by omega)).trans a4) (fun i hi => (fc _ _ (by omega)).trans (a5 i hi)) (fun i hi => (fc _ _ (by omega)).trans (a6 i hi)) (fun i hi => fm i (by omega)) old
theorem K_fr2 {x m t k : Nat} {h h1 h2 : xI} {g g1 g2 : xJ} {v1 v2 : Option Value} (hxm : x + 38 < m) (hJ : J2 x m h) (ht : (t = x + 10 ∧ k = 0) ∨ (t = x + 18 ∧ k = 1)) (H1 : pif (h (x + 26) k = 0) (px (some (.int (-3 : Int32))) (rcH h x 10) g) (px (some (.int (nI 1))) (taH h (x + 1) t) g) v1 h1 g1) (H2 : pif (¬ h1 (m + 3) k = 0) (px (some (.int (nI 1))) (cpS h1 (m + 2) (310 * k) (m + 1) 0 310) g1) (px (some (.int (-3 : Int32))) (rfH h1 m 1) g1) v2 h2 g2) : K2 x m h2 := by
  by_cases q : h (x + 26) k = 0
  · obtain ⟨-, rfl, -⟩ := H1.1 q
    obtain ⟨-, rfl, -⟩ := H2.2 (fun z => z (by rw [rcH_ne _ _ _ (by omega), ← hJ.1.2.2.2]; exact q))
    exact K_rr hxm hJ.2 (by omega)
  · obtain ⟨-, rfl, -⟩ := H1.2 q
    obtain ⟨-, rfl, -⟩ := H2.1 (by rw [taH_ne _ _ _ (by omega), ← hJ.1.2.2.2]; exact q)
    exact K_fr1 hxm hJ.2 ht
theorem JX_from {x m : Nat} {h h1 h2 : xI} {g g1 g2 : xJ} {a : Int32} {v1 v2 : Option Value} (hxm : x + 38 < m) (hJ : J2 x m h) (H1 : frC x a h g v1 h1 g1) (H2 : frM m a h1 g1 v2 h2 g2) : J2 x m h2 ∧ v1 = v2 := by
  obtain ⟨hj, hv⟩ := J_from hxm hJ.1 H1 H2
  refine ⟨⟨hj, ?_⟩, hv⟩
  by_cases q : a = 0
  · have z1 := H1.1 q
    subst q
    have z2 := H2.1 (by decide)
    exact K_fr2 (k := 0) hxm hJ (Or.inl ⟨rfl, rfl⟩) z1 z2
  · by_cases q2 : a = 1
    · have z1 := (H1.2 q).1 q2
      subst q2
      have z2 := H2.1 (by decide)
      exact K_fr2 (k := 1) hxm hJ (Or.inr ⟨rfl, rfl⟩) z1 z2
    · obtain ⟨-, rfl, -⟩ := (H1.2 q).2 q2
      obtain ⟨-, rfl, -⟩ := H2.2 (ne01 q q2)
      exact K_rr hxm hJ.2 (by omega)
theorem mQ_w {m : Nat} {h h' : xI} (a : mW m h h') : mQ m h h' := a.1
theorem mQ_look {m : Nat} {h h' : xI} {g g' : xJ} {P : Prop} {a b : Int32} {v : Option Value} (H : pif P (px (some (.int a)) h g) (px (some (.int b)) (rfH h m 0) g) v h' g') : mQ m h h' := by
  by_cases q : P
  · obtain ⟨-, rfl, -⟩ := H.1 q; exact mQ_r
  · obtain ⟨-, rfl, -⟩ := H.2 q; exact mQ_rf
theorem mQ_part {m : Nat} {h h' : xI} {g g' : xJ} {P Q : Prop} {a b c : Int64} {v : Option Value} (H : pif P (px (some (.long a)) h g) (pif Q (px (some (.long b)) h g) (px (some (.long c)) (rfH h m 0) g)) v h' g') : mQ m h h' := by
  by_cases q : P
  · obtain ⟨-, rfl, -⟩ := H.1 q; exact mQ_r
  · by_cases q2 : Q
    · obtain ⟨-, rfl, -⟩ := (H.2 q).1 q2; exact mQ_r
    · obtain ⟨-, rfl, -⟩ := (H.2 q).2 q2; exact mQ_rf
theorem mQ_kinds {m : Nat} {h h' : xI} {g g' : xJ} {a : Int32} {v : Option Value} (H : px (some (.int a)) h g v h' g') : mQ m h h' := by
  obtain ⟨-, rfl, -⟩ := H; exact mQ_r
theorem mQ_hand {m n : Nat} {h h' : xI} {g g' : xJ} {P : Prop} {a b : Int32} {v : Option Value} (H : pif P (px (some (.int a)) (wkN (m + 5) n (haH h m)) g) (px (some (.int b)) (rfH h m 0) g) v h' g') : mQ m h h' := by
  by_cases q : P
  · obtain ⟨-, rfl, -⟩ := H.1 q
    exact fun q i z => by rw [wkN_ne _ (by unfold SM at z; omega), haH_ne _ _ (by unfold SM at z; omega)]
  · obtain ⟨-, rfl, -⟩ := H.2 q; exact mQ_rf
theorem mQ_sv {m n : Nat} {h : xI} (hn : n ≤ 8) : mQ m h (svH h (m + 1) n) := fun q i z => by
  by_cases w : q = m + 1
  · subst w
    exact sv_lo h (m + 1) n (by unfold SM at z; omega) (by unfold SM at z; omega)
  · exact svH_ne _ _ _ w
theorem mQ_s {m n : Nat} {h h' : xI} (hn : n ≤ 8) (f : ∀ q i, ¬ SM m q i → h' q i = svH h (m + 1) n q i) : mQ m h h' := fun q i z => (f q i z).trans (mQ_sv hn q i z)
theorem mQ_says {m n : Nat} {h h' : xI} {g g' : xJ} {P Q : Prop} {c y z0 : Int32} {v : Option Value} (hn : n ≤ 8) (H : pif ((0 ≤ c.toInt ∧ c.toInt < 25) ∧ P) (pif Q (px (some (.int y)) (u2 (svH h (m + 1) n) (m + 1) (3 + c.toInt.toNat) z0) g) (px (some (.int (-3 : Int32))) (rfH h m 1) g)) (px (some (.int (-2 : Int32))) (rfH h m 0) g) v h' g') : mQ m h h' := by
  by_cases q : (0 ≤ c.toInt ∧ c.toInt < 25) ∧ P
  · by_cases q2 : Q
    · obtain ⟨-, rfl, -⟩ := (H.1 q).1 q2
      exact mQ_s hn (fun q i z => u2_ne _ _ _ _ (by unfold SM at z; omega))
    · obtain ⟨-, rfl, -⟩ := (H.1 q).2 q2; exact mQ_rf
  · obtain ⟨-, rfl, -⟩ := H.2 q; exact mQ_rf
theorem mQ_reaps {m n : Nat} {h h' : xI} {g g' : xJ} {Q : Prop} {c y z0 : Int32} {v : Option Value} (hn : n ≤ 8) (H : pif (0 ≤ c.toInt ∧ c.toInt < 25) (pif Q (px (some (.int y)) (u2 (svH h (m + 1) n) (m + 1) (3 + c.toInt.toNat) z0) g) (px (some (.int (-3 : Int32))) (rfH h m 1) g)) (px (some (.int (-2 : Int32))) (rfH h m 0) g) v h' g') : mQ m h h' := mQ_says (P := True) hn ⟨fun q => H.1 q.1, fun q => H.2 (fun z => q ⟨z, trivial⟩)⟩
theorem mQ_drags {m n p k : Nat} {h h' : xI} {g g' : xJ} {P : Prop} {y : Int32} {v : Option Value} (hn : n ≤ 8) (H : pif P (pif (bsN p k < 25) (px (some (.int y)) (stH (svH h (m + 1) n) (m + 1) (bsN p k)) g) (px (some (.int (-3 : Int32))) (rfH h m 1) g)) (px (some (.int (-2 : Int32))) (rfH h m 0) g) v h' g') : mQ m h h' := by
  by_cases q : P
  · by_cases q2 : bsN p k < 25
    · obtain ⟨-, rfl, -⟩ := (H.1 q).1 q2
      exact mQ_s hn (fun q i z => stH_ne _ _ _ (by unfold SM at z; omega))
    · obtain ⟨-, rfl, -⟩ := (H.1 q).2 q2; exact mQ_rf
  · obtain ⟨-, rfl, -⟩ := H.2 q; exact mQ_rf
theorem mQ_weeks {m n k : Nat} {h h' : xI} {g g' : xJ} {P : Prop} {y : Int32} {v : Option Value} (hn : n ≤ 8) (H : pif P (px (some (.int y)) (wks (m + 1) k (svH h (m + 1) n)) g) (px (some (.int (-2 : Int32))) (rfH h m 0) g) v h' g') : mQ m h h' := by
  by_cases q : P
  · obtain ⟨-, rfl, -⟩ := H.1 q
    exact mQ_s hn (fun q i z => wks_ne _ (by unfold SM at z; omega) _ _)
  · obtain ⟨-, rfl, -⟩ := H.2 q; exact mQ_rf
theorem mQ_undo {m n : Nat} {h h' : xI} {g g' : xJ} {y : Int32} {v : Option Value} (hn : n ≤ 8) (H : pif (n = 0) (px (some (.int (-3 : Int32))) (rfH h m 1) g) (px (some (.int y)) (cpS (u2 h (m + 1) 2 (nI (n - 1))) (m + 1) (94 + 27 * (n - 1)) (m + 1) 3 27) g) v h' g') : mQ m h h' := by
  by_cases q : n = 0
  · obtain ⟨-, rfl, -⟩ := H.1 q; exact mQ_rf
  · obtain ⟨-, rfl, -⟩ := H.2 q
    exact fun q i z => by rw [cpS_ne _ _ _ _ _ _ (by unfold SM at z; omega), u2_ne _ _ _ _ (by unfold SM at z; omega)]
