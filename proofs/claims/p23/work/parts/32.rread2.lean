/-! THE REFERENCE, 15: read, weak -/
def fR (m : Nat) (h h' : xI) : Prop := ∀ q i, (q ≠ m ∨ i < 12 ∨ 15 < i) → (q ≠ m + 1 ∨ 94 ≤ i) → q ≠ m + 10 → q ≠ m + 11 → h' q i = h q i
theorem rr_a {m : Nat} {h h' : xI} (hI : mOk h m) (f : fI m h h') : fR m h h' ∧ mOk h' m := by
  obtain ⟨b1, b2, b3, ⟨n, hn, e⟩⟩ := hI
  refine ⟨fun q i z1 z2 z3 z4 => f q i z1 z3 z4, rU_c (fun i hi => f _ _ (by omega) (by omega) (by omega)) b1, rS_c (fun i hi => f _ _ (by omega) (by omega) (by omega)) b2, fun i hi => ⟨rU_c (fun j hj => f _ _ (by omega) (by omega) (by omega)) (b3 i hi).1, rS_c (fun j hj => f _ _ (by omega) (by omega) (by omega)) (b3 i hi).2⟩, ⟨n, hn, ?_⟩⟩
  rw [f _ _ (by omega) (by omega) (by omega)]; exact e
theorem rr_b {m : Nat} {h h' : xI} (hI : mOk h m) (f : fI m h h') (ao : aOk h' m) : fR m h (cpS h' (m + 10) 0 (m + 1) 0 94) ∧ mOk (cpS h' (m + 10) 0 (m + 1) 0 94) m := by
  obtain ⟨⟨c1, c2, c3⟩, d2, d3, ⟨n, hn, e⟩⟩ := (rr_a hI f).2
  obtain ⟨a0, a1, a2, c, hc, a28⟩ := ao
  have fr : ∀ q i, (q ≠ m + 1 ∨ 94 ≤ i) → cpS h' (m + 10) 0 (m + 1) 0 94 q i = h' q i := fun q i z => cpS_ne _ _ _ _ _ _ (by omega)
  have at_ : ∀ i, i < 94 → cpS h' (m + 10) 0 (m + 1) 0 94 (m + 1) i = h' (m + 10) i := fun i hi => by
    rw [cpS_at _ _ _ _ _ _ ⟨rfl, by omega, by omega⟩]; congr 1
  refine ⟨fun q i z1 z2 z3 z4 => (fr q i z2).trans (f q i z1 z3 z4), ⟨⟨0, by omega, ?_⟩, ⟨c, hc, ?_⟩, fun r hr => ?_⟩, ⟨⟨0, by omega, ?_⟩, ⟨0, by omega, ?_⟩⟩, fun i hi => ⟨rU_c (fun j hj => fr _ _ (by omega)) (d3 i hi).1, rS_c (fun j hj => fr _ _ (by omega)) (d3 i hi).2⟩, ⟨n, hn, ?_⟩⟩
  · rw [at_ _ (by omega)]; exact a2
  · rw [at_ _ (by omega)]; exact a28
  · rw [fr _ _ (by omega)]; exact c3 r hr
  · rw [at_ _ (by omega)]; exact a0
  · rw [at_ _ (by omega)]; exact a1
  · rw [fr _ _ (by omega)]; exact e