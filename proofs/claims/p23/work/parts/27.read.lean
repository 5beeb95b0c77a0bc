/-! THE CLASS, 9: read, weak -/
theorem ccH_23 (h : xI) (n o : Nat) {q i : Nat} (hn : (q ≠ n ∨ i < 2 ∨ 4 < i) ∧ q ≠ n + 1 ∧ q ≠ n + 2) : ccH h n o q i = h q i := ccH_ne h n o hn
theorem dnH_ne (h : xI) (t : Nat) {q i : Nat} (hn : ¬ (q = t + 4 ∧ i = 1) ∧ ¬ (q = t ∧ (i = 4 ∨ i = 5))) : dnH h t q i = h q i := by
  unfold dnH
  rw [u2_ne _ _ _ _ (by omega), u2_ne _ _ _ _ (by omega), u2_ne _ _ _ _ (by omega)]
theorem dnH_ok {h : xI} {t : Nat} (h1 : atOk h (t + 1)) (h2 : paOk h (t + 4)) : tOk (dnH h t) t := by
  obtain ⟨c, hc, e1⟩ := h1
  obtain ⟨-, e2⟩ := h2
  refine ⟨⟨c, hc, by rw [dnH_ne _ _ (by omega)]; exact e1⟩, ⟨⟨0, by omega, ?_⟩, fun r hr => ?_⟩, ⟨0, by omega, ?_⟩, ⟨0, by omega, ?_⟩⟩
  · unfold dnH; rw [u2_ne _ _ _ _ (by omega), u2_ne _ _ _ _ (by omega), u2_s]
  · obtain ⟨c', hc', e⟩ := e2 r hr
    exact ⟨c', hc', by rw [dnH_ne _ _ (by omega)]; exact e⟩
  · unfold dnH; rw [u2_ne _ _ _ _ (by omega), u2_s]
  · unfold dnH; rw [u2_s]
/-- what read may change -/
def rF (x : Nat) (h h' : xI) : Prop := ∀ q i, (q ≤ x ∨ x + 6 < q) → (q ≠ x + 33 ∨ i < 3) → (q < x + 35 ∨ x + 37 < q) → h' q i = h q i
theorem rd_a {x n : Nat} {h h' : xI} (hI : cOk h x) (hw : tW (x + 33) n h h') : rF x h h' ∧ cOk h' x := by
  obtain ⟨w1, w2, w3⟩ := hw
  obtain ⟨b1, b2, b3, ⟨n', hn', e5⟩, -⟩ := hI
  refine ⟨fun q i z1 z2 z3 => w1 q i z2 (by omega), tOk_k (fun q i z1 z2 => w1 q i (by omega) (by omega)) b1, tOk_k (fun q i z1 z2 => w1 q i (by omega) (by omega)) b2, tOk_k (fun q i z1 z2 => w1 q i (by omega) (by omega)) b3, ⟨n', hn', ?_⟩, w3⟩
  rw [w1 _ _ (by omega) (by omega)]; exact e5
theorem rd_b {x n : Nat} {h h' : xI} (hI : cOk h x) (hw : tW (x + 33) n h h') : rF x h (dnH (ccH h' (x + 2) (x + 35)) (x + 1)) ∧ cOk (dnH (ccH h' (x + 2) (x + 35)) (x + 1)) x := by
  obtain ⟨a1, ⟨a2, ⟨a3, -⟩, a4, a5, a6⟩⟩ := rd_a hI hw
  obtain ⟨b1, b2, b3, ⟨n', hn', e5⟩, ⟨c6, hc6, e6⟩⟩ := (rd_a hI hw).2
  have fr : ∀ q i, (q ≤ x ∨ x + 6 < q) → dnH (ccH h' (x + 2) (x + 35)) (x + 1) q i = h' q i := fun q i z => by
    rw [dnH_ne _ _ (by omega), ccH_ne _ _ _ (by omega)]
  refine ⟨fun q i z1 z2 z3 => (fr q i z1).trans (a1 q i z1 z2 z3), dnH_ok ⟨c6, hc6, ?_⟩ (paOk_k (fun q i z => ccH_ne _ _ _ (by omega)) b1.2.1), tOk_k (fun q i z1 z2 => fr q i (by omega)) b2, tOk_k (fun q i z1 z2 => fr q i (by omega)) b3, ⟨n', hn', by rw [fr _ _ (by omega)]; exact e5⟩, ⟨c6, hc6, by rw [fr _ _ (by omega)]; exact e6⟩⟩
  rw [ccH_at _ _ _ (by omega)]; exact e6