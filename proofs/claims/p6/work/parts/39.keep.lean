/-! BOTH SIDES, 1: what a call keeps -/
def cKp (x : Nat) (h h' : xI) : Prop := (∀ q i, (q < x ∨ x + 38 < q) → h' q i = h q i) ∧ cOk h' x ∧ h' (x + 33) 2 = h (x + 33) 2 ∧ ∀ i, h' (x + 26) i = h (x + 26) i
def mKp (m : Nat) (h h' : xI) : Prop := (∀ q i, (q < m ∨ m + 11 < q) → h' q i = h q i) ∧ mOk h' m ∧ h' m 11 = h m 11 ∧ ∀ i, h' (m + 3) i = h (m + 3) i
def isI (v : Option Value) : Prop := ∃ y : Int32, v = some (.int y)
theorem cKp_w {x : Nat} {h h' : xI} (hI : cOk h x) (a : wI x h h') : cKp x h h' := ⟨fun q i z => a.1 q i (by unfold SW; omega), cOk_w hI a, a.1 _ _ (by unfold SW; omega), fun i => a.1 _ _ (by unfold SW; omega)⟩
theorem cKp_rc {x s : Nat} {h : xI} (hI : cOk h x) (hs : 9 ≤ s) : cKp x h (rcH h x s) := by
  refine cKp_w hI ⟨fun q i z => rcH_ne _ _ _ (fun e => z (Or.inl ⟨e.1, by omega⟩)), ?_, ?_⟩
  · obtain ⟨c, hc, e⟩ := hI.1.1
    exact ⟨c, hc, by rw [rcH_ne _ _ _ (by omega)]; exact e⟩
  · exact paOk_k (fun q i z => rcH_ne _ _ _ (by omega)) hI.1.2.1
theorem paOk_0 {h : xI} {p : Nat} (H : paOk h p) : paOk (u2 h p 1 (nI 0)) p := by
  refine ⟨⟨0, by omega, u2_s _ _ _ _⟩, fun r hr => ?_⟩
  rw [u2_ne _ _ _ _ (by omega)]; exact H.2 r hr
/-- a call that changes no more than what is NOW -/
theorem cKp_n {x : Nat} {h h' : xI} (hI : cOk h x) (f : ∀ q i, (q ≤ x ∨ x + 8 < q) → h' q i = h q i) (t : tOk h' (x + 1)) : cKp x h h' := by
  obtain ⟨-, b2, b3, ⟨n, hn, e⟩, ⟨c, hc, e2⟩⟩ := hI
  exact ⟨fun q i z => f q i (by omega), ⟨t, tOk_k (fun q i z1 z2 => f q i (by omega)) b2, tOk_k (fun q i z1 z2 => f q i (by omega)) b3, ⟨n, hn, by rw [f _ _ (by omega)]; exact e⟩, ⟨c, hc, by rw [f _ _ (by omega)]; exact e2⟩⟩, f _ _ (by omega), fun i => f _ _ (by omega)⟩
theorem cKp_harrow {x : Nat} {h h' : xI} {g g' : xJ} {a1 : Int32} {v : Option Value} (hI : cOk h x) (H : pif (0 ≤ a1.toInt ∧ a1.toInt < 6) (px (some (.int (h (x + 2) 2))) (u2 (u2 h (x + 2) 2 a1) (x + 5) 1 (nI 0)) g) (px (some (.int (-2 : Int32))) (rcH h x 9) g) v h' g') : isI v ∧ cKp x h h' := by
  by_cases q : 0 ≤ a1.toInt ∧ a1.toInt < 6
  · obtain ⟨rfl, rfl, -⟩ := H.1 q
    refine ⟨⟨_, rfl⟩, cKp_n hI (fun q i z => by rw [u2_ne _ _ _ _ (by omega), u2_ne _ _ _ _ (by omega)]) ?_⟩
    obtain ⟨⟨c, hc, e1⟩, e2, ⟨n, hn, e3⟩, ⟨n', hn', e4⟩⟩ := hI.1
    refine ⟨⟨c, hc, by rw [u2_ne _ _ _ _ (by omega), u2_ne _ _ _ _ (by omega)]; exact e1⟩, paOk_0 (paOk_k (fun q i z => u2_ne _ _ _ _ (by omega)) e2), ⟨n, hn, by rw [u2_ne _ _ _ _ (by omega), u2_ne _ _ _ _ (by omega)]; exact e3⟩, ⟨n', hn', by rw [u2_ne _ _ _ _ (by omega), u2_ne _ _ _ _ (by omega)]; exact e4⟩⟩
  · obtain ⟨rfl, rfl, -⟩ := H.2 q
    exact ⟨⟨_, rfl⟩, cKp_rc hI (by omega)⟩
theorem cKp_stony {x : Nat} {h h' : xI} {g g' : xJ} {a1 a2 : Int32} {v : Option Value} (hI : cOk h x) (H : pif ((0 ≤ a1.toInt ∧ a1.toInt < 25) ∧ (0 ≤ a2.toInt ∧ a2.toInt < 5)) (px (some (.int (h (x + 3) a1.toInt.toNat))) (u2 (u2 h (x + 3) a1.toInt.toNat a2) (x + 5) 1 (nI 0)) g) (px (some (.int (-2 : Int32))) (rcH h x 9) g) v h' g') : isI v ∧ cKp x h h' := by
  by_cases q : (0 ≤ a1.toInt ∧ a1.toInt < 25) ∧ (0 ≤ a2.toInt ∧ a2.toInt < 5)
  · obtain ⟨rfl, rfl, -⟩ := H.1 q
    refine ⟨⟨_, rfl⟩, cKp_n hI (fun q i z => by rw [u2_ne _ _ _ _ (by omega), u2_ne _ _ _ _ (by omega)]) ?_⟩
    obtain ⟨⟨c, hc, e1⟩, e2, ⟨n, hn, e3⟩, ⟨n', hn', e4⟩⟩ := hI.1
    refine ⟨⟨c, hc, by rw [u2_ne _ _ _ _ (by omega), u2_ne _ _ _ _ (by omega)]; exact e1⟩, paOk_0 (paOk_k (fun q i z => u2_ne _ _ _ _ (by omega)) e2), ⟨n, hn, by rw [u2_ne _ _ _ _ (by omega), u2_ne _ _ _ _ (by omega)]; exact e3⟩, ⟨n', hn', by rw [u2_ne _ _ _ _ (by omega), u2_ne _ _ _ _ (by omega)]; exact e4⟩⟩
  · obtain ⟨rfl, rfl, -⟩ := H.2 q
    exact ⟨⟨_, rfl⟩, cKp_rc hI (by omega)⟩
theorem cKp_nave {x : Nat} {h h' : xI} {g g' : xJ} {a1 a2 : Int32} {v : Option Value} (hI : cOk h x) (H : pif ((0 ≤ a1.toInt ∧ a1.toInt < 6) ∧ (0 ≤ a2.toInt ∧ a2.toInt < 25)) (pX (dnH (cbH h (x + 2) a1 a2) (x + 1))) (px (some (.int (-2 : Int32))) (rcH h x 9) g) v h' g') : isI v ∧ cKp x h h' := by
  by_cases q : (0 ≤ a1.toInt ∧ a1.toInt < 6) ∧ (0 ≤ a2.toInt ∧ a2.toInt < 25)
  · obtain ⟨hv, rfl⟩ := H.1 q
    refine ⟨hv, cKp_n hI (fun q i z => by rw [dnH_ne _ _ (by omega), cbH_ne _ _ _ _ (by omega)]) (dnH_ok ?_ (paOk_k (fun q i z => cbH_ne _ _ _ _ (by omega)) hI.1.2.1))⟩
    obtain ⟨j, hj, rfl⟩ := nI_i (x := a2) (n := 25) q.2.1 (by omega)
    exact ⟨j, hj, cbH_at _ _ _ _⟩
  · obtain ⟨rfl, rfl, -⟩ := H.2 q
    exact ⟨⟨_, rfl⟩, cKp_rc hI (by omega)⟩
theorem cKp_read {x : Nat} {h h' : xI} (f : rF x h h') (c : cOk h' x) : cKp x h h' := ⟨fun q i z => f q i (by omega) (by omega) (by omega), c, f _ _ (by omega) (by omega) (by omega), fun i => f _ _ (by omega) (by omega) (by omega)⟩
theorem cKp_forget {x : Nat} {h h' : xI} {g g' : xJ} {a1 : Int32} {v : Option Value} (hI : cOk h x) (H : pif (0 ≤ a1.toInt ∧ a1.toInt < 2) (pif (a1 = 0) (px (some (.int (h (x + 1) 4))) (u2 h (x + 1) 4 (nI 0)) g) (px (some (.int (h (x + 1) 5))) (u2 h (x + 1) 5 (nI 0)) g)) (px (some (.int (-2 : Int32))) (rcH h x 9) g) v h' g') : isI v ∧ cKp x h h' := by
  by_cases q : 0 ≤ a1.toInt ∧ a1.toInt < 2
  · obtain ⟨⟨c, hc, e1⟩, e2, ⟨n, hn, e3⟩, ⟨n', hn', e4⟩⟩ := hI.1
    by_cases q2 : a1 = 0
    · obtain ⟨rfl, rfl, -⟩ := (H.1 q).1 q2
      refine ⟨⟨_, rfl⟩, cKp_n hI (fun q i z => u2_ne _ _ _ _ (by omega)) ⟨⟨c, hc, by rw [u2_ne _ _ _ _ (by omega)]; exact e1⟩, paOk_k (fun q i z => u2_ne _ _ _ _ (by omega)) e2, ⟨0, by omega, u2_s _ _ _ _⟩, ⟨n', hn', by rw [u2_ne _ _ _ _ (by omega)]; exact e4⟩⟩⟩
    · obtain ⟨rfl, rfl, -⟩ := (H.1 q).2 q2
      refine ⟨⟨_, rfl⟩, cKp_n hI (fun q i z => u2_ne _ _ _ _ (by omega)) ⟨⟨c, hc, by rw [u2_ne _ _ _ _ (by omega)]; exact e1⟩, paOk_k (fun q i z => u2_ne _ _ _ _ (by omega)) e2, ⟨n, hn, by rw [u2_ne _ _ _ _ (by omega)]; exact e3⟩, ⟨0, by omega, u2_s _ _ _ _⟩⟩⟩
  · obtain ⟨rfl, rfl, -⟩ := H.2 q
    exact ⟨⟨_, rfl⟩, cKp_rc hI (by omega)⟩
theorem cKp_seen {x n : Nat} {h h' : xI} {g g' : xJ} {c d a v0 : Int32} {v : Option Value} (hI : cOk h x) (hn : n ≤ 5) (H : pif ((0 ≤ c.toInt ∧ c.toInt < 25) ∧ (0 ≤ d.toInt ∧ d.toInt < 10) ∧ (0 ≤ a.toInt ∧ a.toInt < 100) ∧ (0 ≤ v0.toInt ∧ v0.toInt < 21)) (pif (n = 5) (px (some (.int (-4 : Int32))) (rcH h x 11) g) (px (some (.int (nI (n + 1)))) (u2 (u2 (u2 (u2 (u2 h (x + 7) (n * 4) c) (x + 7) (n * 4 + 1) d) (x + 7) (n * 4 + 2) a) (x + 7) (n * 4 + 3) v0) (x + 1) 4 (nI (n + 1))) g)) (px (some (.int (-2 : Int32))) (rcH h x 9) g) v h' g') : isI v ∧ cKp x h h' := by
  by_cases q : (0 ≤ c.toInt ∧ c.toInt < 25) ∧ (0 ≤ d.toInt ∧ d.toInt < 10) ∧ (0 ≤ a.toInt ∧ a.toInt < 100) ∧ (0 ≤ v0.toInt ∧ v0.toInt < 21)
  · obtain ⟨⟨c0, hc, e1⟩, e2, ⟨n0, hn0, e3⟩, ⟨n', hn', e4⟩⟩ := hI.1
    by_cases q2 : n = 5
    · obtain ⟨rfl, rfl, -⟩ := (H.1 q).1 q2
      exact ⟨⟨_, rfl⟩, cKp_rc hI (by omega)⟩
    · obtain ⟨rfl, rfl, -⟩ := (H.1 q).2 q2
      have f : ∀ q i, q ≠ x + 7 → ¬ (q = x + 1 ∧ i = 4) → (u2 (u2 (u2 (u2 (u2 h (x + 7) (n * 4) c) (x + 7) (n * 4 + 1) d) (x + 7) (n * 4 + 2) a) (x + 7) (n * 4 + 3) v0) (x + 1) 4 (nI (n + 1))) q i = h q i := fun q i z1 z2 => by rw [u2_ne _ _ _ _ (by omega), u2_ne _ _ _ _ (by omega), u2_ne _ _ _ _ (by omega), u2_ne _ _ _ _ (by omega), u2_ne _ _ _ _ (by omega)]
      exact ⟨⟨_, rfl⟩, cKp_n hI (fun q i z => f q i (by omega) (by omega)) ⟨⟨c0, hc, by rw [f _ _ (by omega) (by omega)]; exact e1⟩, paOk_k (fun q i z => f q i (by omega) (by omega)) e2, ⟨n + 1, by omega, u2_s _ _ _ _⟩, ⟨n', hn', by rw [f _ _ (by omega) (by omega)]; exact e4⟩⟩⟩
  · obtain ⟨rfl, rfl, -⟩ := H.2 q
    exact ⟨⟨_, rfl⟩, cKp_rc hI (by omega)⟩
theorem cKp_mark {x n : Nat} {h h' : xI} {g g' : xJ} {s d v0 : Int32} {v : Option Value} (hI : cOk h x) (hn : n ≤ 6) (H : pif ((0 ≤ s.toInt ∧ s.toInt < 5) ∧ (0 ≤ d.toInt ∧ d.toInt < 10) ∧ (0 ≤ v0.toInt ∧ v0.toInt < 10)) (pif (n = 6) (px (some (.int (-4 : Int32))) (rcH h x 11) g) (px (some (.int (nI (n + 1)))) (u2 (u2 (u2 (u2 h (x + 8) (n * 3) s) (x + 8) (n * 3 + 1) d) (x + 8) (n * 3 + 2) v0) (x + 1) 5 (nI (n + 1))) g)) (px (some (.int (-2 : Int32))) (rcH h x 9) g) v h' g') : isI v ∧ cKp x h h' := by
  by_cases q : (0 ≤ s.toInt ∧ s.toInt < 5) ∧ (0 ≤ d.toInt ∧ d.toInt < 10) ∧ (0 ≤ v0.toInt ∧ v0.toInt < 10)
  · obtain ⟨⟨c0, hc, e1⟩, e2, ⟨n0, hn0, e3⟩, ⟨n', hn', e4⟩⟩ := hI.1
    by_cases q2 : n = 6
    · obtain ⟨rfl, rfl, -⟩ := (H.1 q).1 q2
      exact ⟨⟨_, rfl⟩, cKp_rc hI (by omega)⟩
    · obtain ⟨rfl, rfl, -⟩ := (H.1 q).2 q2
      have f : ∀ q i, q ≠ x + 8 → ¬ (q = x + 1 ∧ i = 5) → (u2 (u2 (u2 (u2 h (x + 8) (n * 3) s) (x + 8) (n * 3 + 1) d) (x + 8) (n * 3 + 2) v0) (x + 1) 5 (nI (n + 1))) q i = h q i := fun q i z1 z2 => by rw [u2_ne _ _ _ _ (by omega), u2_ne _ _ _ _ (by omega), u2_ne _ _ _ _ (by omega), u2_ne _ _ _ _ (by omega)]
      exact ⟨⟨_, rfl⟩, cKp_n hI (fun q i z => f q i (by omega) (by omega)) ⟨⟨c0, hc, by rw [f _ _ (by omega) (by omega)]; exact e1⟩, paOk_k (fun q i z => f q i (by omega) (by omega)) e2, ⟨n0, hn0, by rw [f _ _ (by omega) (by omega)]; exact e3⟩, ⟨n + 1, by omega, u2_s _ _ _ _⟩⟩⟩
  · obtain ⟨rfl, rfl, -⟩ := H.2 q
    exact ⟨⟨_, rfl⟩, cKp_rc hI (by omega)⟩
theorem taH_ne (h : xI) (t o : Nat) {q i : Nat} (hn : q < t ∨ t + 7 < q) : taH h t o q i = h q i := by
  unfold taH ta1 ta0 ppH
  rw [u2_ne _ _ _ _ (by omega), u2_ne _ _ _ _ (by omega), cpS_ne _ _ _ _ _ _ (by omega), cpS_ne _ _ _ _ _ _ (by omega), u2_ne _ _ _ _ (by omega), cpS_ne _ _ _ _ _ _ (by omega), ccH_ne _ _ _ (by omega)]
theorem taH_ok {h : xI} {t o : Nat} (hd : o + 7 < t ∨ t + 7 < o) (H : tOk h o) : tOk (taH h t o) t := by
  obtain ⟨⟨c, hc, e1⟩, ⟨⟨k, hk, e2⟩, e2'⟩, ⟨n, hn, e3⟩, ⟨n', hn', e4⟩⟩ := H
  have p0 : ∀ q i, (q < t ∨ t + 7 < q) → ppH (ccH h (t + 1) (o + 1)) (t + 4) (o + 4) q i = h q i := fun q i z => by
    unfold ppH
    rw [u2_ne _ _ _ _ (by omega), cpS_ne _ _ _ _ _ _ (by omega), ccH_ne _ _ _ (by omega)]
  have t0 : ∀ q i, (q < t ∨ t + 7 < q) → ta0 h t o q i = h q i := fun q i z => by
    unfold ta0
    rw [cpS_ne _ _ _ _ _ _ (by omega), cpS_ne _ _ _ _ _ _ (by omega), p0 q i z]
  have low : ∀ q i, q ≠ t → q ≠ t + 6 → q ≠ t + 7 → taH h t o q i = ppH (ccH h (t + 1) (o + 1)) (t + 4) (o + 4) q i := fun q i z1 z2 z3 => by
    unfold taH ta1 ta0
    rw [u2_ne _ _ _ _ (by omega), u2_ne _ _ _ _ (by omega), cpS_ne _ _ _ _ _ _ (by omega), cpS_ne _ _ _ _ _ _ (by omega)]
  refine ⟨⟨c, hc, ?_⟩, ⟨⟨k, hk, ?_⟩, fun r hr => ?_⟩, ⟨n, hn, ?_⟩, ⟨n', hn', ?_⟩⟩
  · rw [low _ _ (by omega) (by omega) (by omega)]
    unfold ppH
    rw [u2_ne _ _ _ _ (by omega), cpS_ne _ _ _ _ _ _ (by omega), ccH_at _ _ _ (by omega)]
    exact e1
  · rw [low _ _ (by omega) (by omega) (by omega)]
    unfold ppH
    rw [u2_s, cpS_ne _ _ _ _ _ _ (by omega), ccH_ne _ _ _ (by omega)]
    exact e2
  · obtain ⟨c', hc', e⟩ := e2' r hr
    refine ⟨c', hc', ?_⟩
    rw [low _ _ (by omega) (by omega) (by omega)]
    unfold ppH
    rw [u2_ne _ _ _ _ (by omega), cpS_at _ _ _ _ _ _ ⟨rfl, by omega, by omega⟩, ccH_ne _ _ _ (by omega), show 27 * r + 25 - 0 + 0 = 27 * r + 25 by omega]
    exact e
  · unfold taH ta1
    rw [u2_ne _ _ _ _ (by omega), u2_s, t0 _ _ (by omega)]
    exact e3
  · unfold taH
    rw [u2_s]
    unfold ta1
    rw [u2_ne _ _ _ _ (by omega), t0 _ _ (by omega)]
    exact e4
