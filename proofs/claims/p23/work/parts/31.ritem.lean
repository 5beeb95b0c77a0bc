/-! THE REFERENCE, 14: items, read, weak -/
theorem wks_ne (Q : Nat) {q i : Nat} (hn : q ≠ Q ∨ ((i < 3 ∨ 28 ≤ i) ∧ i ≠ 29)) : ∀ (n : Nat) (h : xI), wks Q n h q i = h q i
  | 0, h => rfl
  | n + 1, h => by
    show (if nI 9999 ≤ h Q 29 then h else wks Q n (wkH h Q)) q i = _
    split
    · rfl
    · rw [wks_ne Q hn n, wkH_ne h Q hn]
theorem bgH_ne (h : xI) (Q : Nat) (kd c : Int32) {q i : Nat} (hn : q ≠ Q ∨ 94 ≤ i) : bgH h Q kd c q i = h q i := by
  unfold bgH
  rw [u2_ne _ _ _ _ (by omega), u2_ne _ _ _ _ (by omega), mp_ne _ _ _ _ _ (by omega)]
theorem bgH_28 (h : xI) (Q : Nat) (kd c : Int32) : bgH h Q kd c Q 28 = c := u2_s _ _ _ _
theorem bgH_0 (h : xI) (Q : Nat) (kd c : Int32) {i : Nat} (hi : i < 28) : bgH h Q kd c Q i = nI 0 := by
  unfold bgH
  rw [u2_ne _ _ _ _ (by omega), u2_ne _ _ _ _ (by omega)]
  unfold mp
  rw [if_pos (by omega)]
  rfl
theorem pW_t {m n a a' : Nat} {h h1 h2 : xI} (x : pW m n a h h1) (b : pW m n a' h1 h2) (ha : a ≤ a') : pW m n a h h2 := by
  obtain ⟨b1, ⟨p, q, c1, c2⟩, b3⟩ := b
  exact ⟨fun q i z1 z2 z3 => (b1 q i z1 z2 z3).trans (x.1 q i z1 z2 z3), ⟨p, q, by omega, c2⟩, b3⟩