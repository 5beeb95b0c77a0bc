/-! THE REFERENCE, 13: read: it ends, and nothing else changes -/
def mT (h : xI) (m n a0 : Nat) : Prop := ∃ a l, a0 ≤ a ∧ a + l ≤ n ∧ h m 12 = nI a ∧ h m 13 = nI l ∧ (h m 14 = 0 ∨ 1 ≤ l)
def pB (Q : Int32 → xI → Prop) : Option Value → xI → xJ → Prop := fun v h' _ => ∃ y : Int32, v = some (.int y) ∧ (y = 0 ∨ y = 1) ∧ Q y h'
def aOk (h : xI) (m : Nat) : Prop := h (m + 10) 0 = nI 0 ∧ h (m + 10) 1 = nI 0 ∧ h (m + 10) 2 = nI 0 ∧ ∃ c, c < 25 ∧ h (m + 10) 28 = nI c
def fL (m : Nat) (h h' : xI) : Prop := ∀ q i, (q ≠ m ∨ i < 12 ∨ 15 < i) → h' q i = h q i
def fI (m : Nat) (h h' : xI) : Prop := ∀ q i, (q ≠ m ∨ i < 12 ∨ 15 < i) → q ≠ m + 10 → q ≠ m + 11 → h' q i = h q i
def pW (m n a0 : Nat) (h h' : xI) : Prop := fI m h h' ∧ mT h' m n a0 ∧ aOk h' m
set_option maxHeartbeats 4000000 in
set_option maxRecDepth 100000 in
theorem ct_X8_isSmall {l : Launch} {w : Kw} (hw : wOk w) (x : Int32) (h : xI) (g : xJ)  : Ct l w yX8_isSmall cX8_isSmall 1 (some .boolean) 1 25 [.int (x)] h g (px (some (.int (if 97 ≤ x.toInt ∧ x.toInt ≤ 122 then 1 else 0))) h g) := by
  refine Ct_of (ls := [some (.int (x))]) (by decide) hw (Nat.le_of_ble_eq_true rfl) rfl (fun k hkl C => ?_)
  have C : Cx k w cX8_isSmall RX8 1 (some .boolean) 1 25 := C
  have D := dtX8_isSmall
  subst hkl
  refine X_iload_n C 0 (D (0, .iload_n 0, 1) (mg 0 rfl)) rfl rfl ?_
  refine X_i2l C (D (1, .i2l, 1) (mg 1 rfl)) ?_
  refine X_ldc2 C (D (2, .ldc2_w 242, 3) (mg 2 rfl)) vX8_242 ?_
  refine X_tl (y := lN (97)) rfl ?_
  refine X_ldc2 C (D (5, .ldc2_w 244, 3) (mg 3 rfl)) vX8_244 ?_
  refine X_tl (y := lN (122)) rfl ?_
  refine X_cS (As := [.long ((x).toInt64), .long (lN (97)), .long (lN (122))]) (st := []) C (post := _) (ct_X8_in hw ((x).toInt64) (lN (97)) (lN (122)) h g) kX8_54 (by decide) (by decide) rfl rfl (Nat.le_of_ble_eq_true rfl) (D (8, .invokestatic 54, 3) (mg 4 rfl)) rfl (fun v3 H1 G2 hv3 => ?_)
  obtain ⟨rfl, rfl, rfl⟩ := hv3
  show X k w _ 11 [some (.int (x))] [.int (if (lN (97)).toInt ≤ ((x).toInt64).toInt ∧ ((x).toInt64).toInt ≤ (lN (122)).toInt then 1 else 0)] h g
  exact X_zret C (D (11, .ireturn, 1) (mg 5 rfl)) (nb_ite _) ⟨pe (by rw [i6, pk_lT (n := 97) (by omega), pk_lT (n := 122) (by omega)]; omega), rfl, rfl⟩
set_option maxHeartbeats 4000000 in
set_option maxRecDepth 100000 in
theorem ct_X8_isFigure {l : Launch} {w : Kw} (hw : wOk w) (x : Int32) (h : xI) (g : xJ)  : Ct l w yX8_isFigure cX8_isFigure 1 (some .boolean) 1 25 [.int (x)] h g (px (some (.int (if 48 ≤ x.toInt ∧ x.toInt ≤ 57 then 1 else 0))) h g) := by
  refine Ct_of (ls := [some (.int (x))]) (by decide) hw (Nat.le_of_ble_eq_true rfl) rfl (fun k hkl C => ?_)
  have C : Cx k w cX8_isFigure RX8 1 (some .boolean) 1 25 := C
  have D := dtX8_isFigure
  subst hkl
  refine X_iload_n C 0 (D (0, .iload_n 0, 1) (mg 0 rfl)) rfl rfl ?_
  refine X_i2l C (D (1, .i2l, 1) (mg 1 rfl)) ?_
  refine X_ldc2 C (D (2, .ldc2_w 246, 3) (mg 2 rfl)) vX8_246 ?_
  refine X_tl (y := lN (48)) rfl ?_
  refine X_ldc2 C (D (5, .ldc2_w 248, 3) (mg 3 rfl)) vX8_248 ?_
  refine X_tl (y := lN (57)) rfl ?_
  refine X_cS (As := [.long ((x).toInt64), .long (lN (48)), .long (lN (57))]) (st := []) C (post := _) (ct_X8_in hw ((x).toInt64) (lN (48)) (lN (57)) h g) kX8_54 (by decide) (by decide) rfl rfl (Nat.le_of_ble_eq_true rfl) (D (8, .invokestatic 54, 3) (mg 4 rfl)) rfl (fun v3 H1 G2 hv3 => ?_)
  obtain ⟨rfl, rfl, rfl⟩ := hv3
  show X k w _ 11 [some (.int (x))] [.int (if (lN (48)).toInt ≤ ((x).toInt64).toInt ∧ ((x).toInt64).toInt ≤ (lN (57)).toInt then 1 else 0)] h g
  exact X_zret C (D (11, .ireturn, 1) (mg 5 rfl)) (nb_ite _) ⟨pe (by rw [i6, pk_lT (n := 48) (by omega), pk_lT (n := 57) (by omega)]; omega), rfl, rfl⟩