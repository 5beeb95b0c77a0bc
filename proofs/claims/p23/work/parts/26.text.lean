/-! THE CLASS, 8: Text: it ends, and nothing else changes -/
/-- the TEXT's marks: where a TOKEN begins and ends -/
def tM (h : xI) (t n : Nat) : Prop := ∃ p s, s ≤ p ∧ p ≤ n ∧ h t 3 = nI p ∧ h t 4 = nI s
def tW (t n : Nat) (h h' : xI) : Prop := (∀ q i, (q ≠ t ∨ i < 3) → (q < t + 2 ∨ t + 4 < q) → h' q i = h q i) ∧ tM h' t n ∧ atOk h' (t + 2)
set_option maxHeartbeats 4000000 in
set_option maxRecDepth 100000 in
theorem ct_X5_isLetter {l : Launch} {w : Kw} (hw : wOk w) (x : Int32) (h : xI) (g : xJ)  : Ct l w yX5_isLetter cX5_isLetter 1 (some .boolean) 0 0 [.int (x)] h g (px (some (.int (if 97 ≤ x.toInt ∧ x.toInt ≤ 122 then 1 else 0))) h g) := by
  refine Ct_of (ls := [some (.int (x))]) (by decide) hw (Nat.le_of_ble_eq_true rfl) rfl (fun k hkl C => ?_)
  have C : Cx k w cX5_isLetter RX5 1 (some .boolean) 0 0 := C
  have D := dtX5_isLetter
  subst hkl
  refine X_iload_n C 0 (D (0, .iload_n 0, 1) (mg 0 rfl)) rfl rfl ?_
  refine X_bipush (v := nI (97)) C (D (1, .bipush 97, 2) (mg 1 rfl)) (by decide) ?_
  refine X_icmp_lt (tgt := 16) C (D (3, .if_icmp .lt 13, 3) (mg 2 rfl)) (by decide) (fun q1 => ?_) (fun q1 => ?_)
  · skip
    refine X_iconst (v := nI (0)) C (D (16, .iconst 0, 1) (mg 8 rfl)) (by decide) ?_
    exact X_zret C (D (17, .ireturn, 1) (mg 9 rfl)) rfl ⟨pf (by simp only [Int32.lt_iff_toInt_lt, Int32.le_iff_toInt_le, nI_i2 (n := 97) (by omega), nI_i2 (n := 122) (by omega)] at *; omega), rfl, rfl⟩
  · skip
    refine X_iload_n C 0 (D (6, .iload_n 0, 1) (mg 3 rfl)) rfl rfl ?_
    refine X_bipush (v := nI (122)) C (D (7, .bipush 122, 2) (mg 4 rfl)) (by decide) ?_
    refine X_icmp_gt (tgt := 16) C (D (9, .if_icmp .gt 7, 3) (mg 5 rfl)) (by decide) (fun q2 => ?_) (fun q2 => ?_)
    · skip
      refine X_iconst (v := nI (0)) C (D (16, .iconst 0, 1) (mg 8 rfl)) (by decide) ?_
      exact X_zret C (D (17, .ireturn, 1) (mg 9 rfl)) rfl ⟨pf (by simp only [Int32.lt_iff_toInt_lt, Int32.le_iff_toInt_le, nI_i2 (n := 97) (by omega), nI_i2 (n := 122) (by omega)] at *; omega), rfl, rfl⟩
    · skip
      refine X_iconst (v := nI (1)) C (D (12, .iconst 1, 1) (mg 6 rfl)) (by decide) ?_
      refine X_goto (tgt := 17) C (D (13, .goto 4, 3) (mg 7 rfl)) (by decide) ?_
      exact X_zret C (D (17, .ireturn, 1) (mg 9 rfl)) rfl ⟨pt (by simp only [Int32.lt_iff_toInt_lt, Int32.le_iff_toInt_le, nI_i2 (n := 97) (by omega), nI_i2 (n := 122) (by omega)] at *; omega), rfl, rfl⟩
set_option maxHeartbeats 4000000 in
set_option maxRecDepth 100000 in
theorem ct_X5_isFigure {l : Launch} {w : Kw} (hw : wOk w) (x : Int32) (h : xI) (g : xJ)  : Ct l w yX5_isFigure cX5_isFigure 1 (some .boolean) 0 0 [.int (x)] h g (px (some (.int (if 48 ≤ x.toInt ∧ x.toInt ≤ 57 then 1 else 0))) h g) := by
  refine Ct_of (ls := [some (.int (x))]) (by decide) hw (Nat.le_of_ble_eq_true rfl) rfl (fun k hkl C => ?_)
  have C : Cx k w cX5_isFigure RX5 1 (some .boolean) 0 0 := C
  have D := dtX5_isFigure
  subst hkl
  refine X_iload_n C 0 (D (0, .iload_n 0, 1) (mg 0 rfl)) rfl rfl ?_
  refine X_bipush (v := nI (48)) C (D (1, .bipush 48, 2) (mg 1 rfl)) (by decide) ?_
  refine X_icmp_lt (tgt := 16) C (D (3, .if_icmp .lt 13, 3) (mg 2 rfl)) (by decide) (fun q1 => ?_) (fun q1 => ?_)
  · skip
    refine X_iconst (v := nI (0)) C (D (16, .iconst 0, 1) (mg 8 rfl)) (by decide) ?_
    exact X_zret C (D (17, .ireturn, 1) (mg 9 rfl)) rfl ⟨pf (by simp only [Int32.lt_iff_toInt_lt, Int32.le_iff_toInt_le, nI_i2 (n := 48) (by omega), nI_i2 (n := 57) (by omega)] at *; omega), rfl, rfl⟩
  · skip
    refine X_iload_n C 0 (D (6, .iload_n 0, 1) (mg 3 rfl)) rfl rfl ?_
    refine X_bipush (v := nI (57)) C (D (7, .bipush 57, 2) (mg 4 rfl)) (by decide) ?_
    refine X_icmp_gt (tgt := 16) C (D (9, .if_icmp .gt 7, 3) (mg 5 rfl)) (by decide) (fun q2 => ?_) (fun q2 => ?_)
    · skip
      refine X_iconst (v := nI (0)) C (D (16, .iconst 0, 1) (mg 8 rfl)) (by decide) ?_
      exact X_zret C (D (17, .ireturn, 1) (mg 9 rfl)) rfl ⟨pf (by simp only [Int32.lt_iff_toInt_lt, Int32.le_iff_toInt_le, nI_i2 (n := 48) (by omega), nI_i2 (n := 57) (by omega)] at *; omega), rfl, rfl⟩
    · skip
      refine X_iconst (v := nI (1)) C (D (12, .iconst 1, 1) (mg 6 rfl)) (by decide) ?_
      refine X_goto (tgt := 17) C (D (13, .goto 4, 3) (mg 7 rfl)) (by decide) ?_
      exact X_zret C (D (17, .ireturn, 1) (mg 9 rfl)) rfl ⟨pt (by simp only [Int32.lt_iff_toInt_lt, Int32.le_iff_toInt_le, nI_i2 (n := 48) (by omega), nI_i2 (n := 57) (by omega)] at *; omega), rfl, rfl⟩
theorem obtain_v {v : Int32} {A B : Nat} (h1 : ¬ v < nI A) (h2 : ¬ nI B < v) (hB : B < 2147483648 ∧ A < 2147483648) : ∃ j, A ≤ j ∧ j ≤ B ∧ v = nI j := by
  simp only [Int32.lt_iff_toInt_lt, nI_i2 hB.1, nI_i2 hB.2] at h1 h2
  obtain ⟨j, hj, rfl⟩ := nI_i (x := v) (n := B + 1) (by omega) (by omega)
  rw [nI_i2 (by omega)] at h1 h2
  exact ⟨j, by omega, by omega, rfl⟩
theorem tW_t {t n : Nat} {h h1 h2 : xI} (a : tW t n h h1) (b : tW t n h1 h2) : tW t n h h2 := ⟨fun q i z1 z2 => (b.1 q i z1 z2).trans (a.1 q i z1 z2), b.2⟩
def tI (h : xI) (t n : Nat) : Prop := tM h t n ∧ atOk h (t + 2)