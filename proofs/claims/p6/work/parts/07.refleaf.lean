/-! THE REFERENCE, 1: leaves -/
theorem bz0 {P : Prop} [Decidable P] : (if P then (1 : Int32) else 0) = 0 ↔ ¬ P := by
  by_cases h : P <;> simp [h]
theorem bz1 {P : Prop} [Decidable P] : ¬ (if P then (1 : Int32) else 0) = 0 ↔ P := by
  by_cases h : P <;> simp [h]
theorem nb_ite (P : Prop) [Decidable P] : narrow .boolean (.int (if P then 1 else 0)) = .int (if P then 1 else 0) := by
  by_cases h : P <;> simp [h] <;> rfl
theorem pt {P : Prop} [Decidable P] (h : P) : some (Value.int (if P then 1 else 0)) = some (Value.int (nI 1)) := by rw [if_pos h]; rfl
theorem pf {P : Prop} [Decidable P] (h : ¬ P) : some (Value.int (if P then 1 else 0)) = some (Value.int (nI 0)) := by rw [if_neg h]; rfl
theorem pe {P Q : Prop} [Decidable P] [Decidable Q] (h : Q ↔ P) : some (Value.int (if P then 1 else 0)) = some (Value.int (if Q then 1 else 0)) := by
  by_cases hq : Q
  · rw [if_pos (h.mp hq), if_pos hq]
  · rw [if_neg (fun z => hq (h.mpr z)), if_neg hq]
theorem lgI (x y : Int64) : (lg_cmp x y < 0 ↔ x.toInt < y.toInt) ∧ (0 < lg_cmp x y ↔ y.toInt < x.toInt) ∧ (0 ≤ lg_cmp x y ↔ y.toInt ≤ x.toInt) ∧ (lg_cmp x y ≤ 0 ↔ x.toInt ≤ y.toInt) := by
  unfold lg_cmp
  simp only [gt_iff_lt, Int64.lt_iff_toInt_lt, Int64.le_iff_toInt_le, ← Int64.toInt_inj]
  refine ⟨?_, ?_, ?_, ?_⟩ <;> (repeat' split) <;> (constructor <;> intro hh <;> first | omega | decide | exact absurd hh (by decide))
theorem nI_i {x : Int32} {n : Nat} (h1 : 0 ≤ x.toInt) (h2 : x.toInt < n) : ∃ j : Nat, j < n ∧ x = nI j := by
  refine ⟨x.toInt.toNat, by omega, ?_⟩
  apply Int32.toInt_inj.mp
  have hb : x.toInt < 2 ^ 31 := by have := x.toInt_lt; simpa using this
  rw [nI_toInt (by omega)]
  omega
set_option maxHeartbeats 4000000 in
set_option maxRecDepth 100000 in
theorem ct_X8_in {l : Launch} {w : Kw} (hw : wOk w) (a b d : Int64) (h : xI) (g : xJ)  : Ct l w yX8_in cX8_in 6 (some .boolean) 0 0 [.long (a), .long (b), .long (d)] h g (px (some (.int (if b.toInt ≤ a.toInt ∧ a.toInt ≤ d.toInt then 1 else 0))) h g) := by
  refine Ct_of (ls := [some (.long (a)), none, some (.long (b)), none, some (.long (d)), none]) (by decide) hw (Nat.le_of_ble_eq_true rfl) rfl (fun k hkl C => ?_)
  have C : Cx k w cX8_in RX8 6 (some .boolean) 0 0 := C
  have D := dtX8_in
  subst hkl
  refine X_lload_n C 0 (D (0, .lload_n 0, 1) (mg 0 rfl)) rfl rfl ?_
  refine X_lload_n C 2 (D (1, .lload_n 2, 1) (mg 1 rfl)) rfl rfl ?_
  refine X_lcmp C (D (2, .lcmp, 1) (mg 2 rfl)) ?_
  refine X_if_lt (tgt := 17) C (D (3, .ifCond .lt 14, 3) (mg 3 rfl)) (by decide) (fun q1 => ?_) (fun q1 => ?_)
  · skip
    refine X_iconst (v := nI (0)) C (D (17, .iconst 0, 1) (mg 10 rfl)) (by decide) ?_
    exact X_zret C (D (18, .ireturn, 1) (mg 11 rfl)) rfl ⟨pf (by simp only [lgI] at *; omega), rfl, rfl⟩
  · skip
    refine X_lload_n C 0 (D (6, .lload_n 0, 1) (mg 4 rfl)) rfl rfl ?_
    refine X_lload C (D (7, .lload 4, 2) (mg 5 rfl)) rfl ?_
    refine X_lcmp C (D (9, .lcmp, 1) (mg 6 rfl)) ?_
    refine X_if_gt (tgt := 17) C (D (10, .ifCond .gt 7, 3) (mg 7 rfl)) (by decide) (fun q2 => ?_) (fun q2 => ?_)
    · skip
      refine X_iconst (v := nI (0)) C (D (17, .iconst 0, 1) (mg 10 rfl)) (by decide) ?_
      exact X_zret C (D (18, .ireturn, 1) (mg 11 rfl)) rfl ⟨pf (by simp only [lgI] at *; omega), rfl, rfl⟩
    · skip
      refine X_iconst (v := nI (1)) C (D (13, .iconst 1, 1) (mg 8 rfl)) (by decide) ?_
      refine X_goto (tgt := 18) C (D (14, .goto 4, 3) (mg 9 rfl)) (by decide) ?_
      exact X_zret C (D (18, .ireturn, 1) (mg 11 rfl)) rfl ⟨pt (by simp only [lgI] at *; omega), rfl, rfl⟩
theorem i6 (x : Int32) : x.toInt64.toInt = x.toInt := by simp
set_option maxHeartbeats 4000000 in
set_option maxRecDepth 100000 in
theorem ct_X8_isCell {l : Launch} {w : Kw} (hw : wOk w) (x : Int32) (h : xI) (g : xJ)  : Ct l w yX8_isCell cX8_isCell 1 (some .boolean) 1 25 [.int (x)] h g (px (some (.int (if 0 ≤ x.toInt ∧ x.toInt < 25 then 1 else 0))) h g) := by
  refine Ct_of (ls := [some (.int (x))]) (by decide) hw (Nat.le_of_ble_eq_true rfl) rfl (fun k hkl C => ?_)
  have C : Cx k w cX8_isCell RX8 1 (some .boolean) 1 25 := C
  have D := dtX8_isCell
  subst hkl
  refine X_iload_n C 0 (D (0, .iload_n 0, 1) (mg 0 rfl)) rfl rfl ?_
  refine X_i2l C (D (1, .i2l, 1) (mg 1 rfl)) ?_
  refine X_lconst (v := lN 0) C (D (2, .lconst 0, 1) (mg 2 rfl)) (by decide) ?_
  refine X_ldc2 C (D (3, .ldc2_w 52, 3) (mg 3 rfl)) vX8_52 ?_
  refine X_cS (As := [.long ((x).toInt64), .long (lN 0), .long ((24 : Int64))]) (st := []) C (post := _) (ct_X8_in hw ((x).toInt64) (lN 0) ((24 : Int64)) h g) kX8_54 (by decide) (by decide) rfl rfl (Nat.le_of_ble_eq_true rfl) (D (6, .invokestatic 54, 3) (mg 4 rfl)) rfl (fun v3 H1 G2 hv3 => ?_)
  obtain ⟨rfl, rfl, rfl⟩ := hv3
  show X k w _ 9 [some (.int (x))] [.int (if (lN 0).toInt ≤ ((x).toInt64).toInt ∧ ((x).toInt64).toInt ≤ ((24 : Int64)).toInt then 1 else 0)] h g
  exact X_zret C (D (9, .ireturn, 1) (mg 5 rfl)) (nb_ite _) ⟨pe (by rw [i6, show (lN 0).toInt = 0 from by decide, show (24 : Int64).toInt = 24 from by decide]; omega), rfl, rfl⟩
set_option maxHeartbeats 4000000 in
set_option maxRecDepth 100000 in
theorem ct_X8_isKind {l : Launch} {w : Kw} (hw : wOk w) (x : Int32) (h : xI) (g : xJ)  : Ct l w yX8_isKind cX8_isKind 1 (some .boolean) 1 25 [.int (x)] h g (px (some (.int (if 0 ≤ x.toInt ∧ x.toInt < 6 then 1 else 0))) h g) := by
  refine Ct_of (ls := [some (.int (x))]) (by decide) hw (Nat.le_of_ble_eq_true rfl) rfl (fun k hkl C => ?_)
  have C : Cx k w cX8_isKind RX8 1 (some .boolean) 1 25 := C
  have D := dtX8_isKind
  subst hkl
  refine X_iload_n C 0 (D (0, .iload_n 0, 1) (mg 0 rfl)) rfl rfl ?_
  refine X_i2l C (D (1, .i2l, 1) (mg 1 rfl)) ?_
  refine X_lconst (v := lN 0) C (D (2, .lconst 0, 1) (mg 2 rfl)) (by decide) ?_
  refine X_ldc2 C (D (3, .ldc2_w 58, 3) (mg 3 rfl)) vX8_58 ?_
  refine X_cS (As := [.long ((x).toInt64), .long (lN 0), .long ((5 : Int64))]) (st := []) C (post := _) (ct_X8_in hw ((x).toInt64) (lN 0) ((5 : Int64)) h g) kX8_54 (by decide) (by decide) rfl rfl (Nat.le_of_ble_eq_true rfl) (D (6, .invokestatic 54, 3) (mg 4 rfl)) rfl (fun v3 H1 G2 hv3 => ?_)
  obtain ⟨rfl, rfl, rfl⟩ := hv3
  show X k w _ 9 [some (.int (x))] [.int (if (lN 0).toInt ≤ ((x).toInt64).toInt ∧ ((x).toInt64).toInt ≤ ((5 : Int64)).toInt then 1 else 0)] h g
  exact X_zret C (D (9, .ireturn, 1) (mg 5 rfl)) (nb_ite _) ⟨pe (by rw [i6, show (lN 0).toInt = 0 from by decide, show (5 : Int64).toInt = 5 from by decide]; omega), rfl, rfl⟩
set_option maxHeartbeats 4000000 in
set_option maxRecDepth 100000 in
theorem ct_X8_isStony {l : Launch} {w : Kw} (hw : wOk w) (x : Int32) (h : xI) (g : xJ)  : Ct l w yX8_isStony cX8_isStony 1 (some .boolean) 1 25 [.int (x)] h g (px (some (.int (if 0 ≤ x.toInt ∧ x.toInt < 5 then 1 else 0))) h g) := by
  refine Ct_of (ls := [some (.int (x))]) (by decide) hw (Nat.le_of_ble_eq_true rfl) rfl (fun k hkl C => ?_)
  have C : Cx k w cX8_isStony RX8 1 (some .boolean) 1 25 := C
  have D := dtX8_isStony
  subst hkl
  refine X_iload_n C 0 (D (0, .iload_n 0, 1) (mg 0 rfl)) rfl rfl ?_
  refine X_i2l C (D (1, .i2l, 1) (mg 1 rfl)) ?_
  refine X_lconst (v := lN 0) C (D (2, .lconst 0, 1) (mg 2 rfl)) (by decide) ?_
  refine X_ldc2 C (D (3, .ldc2_w 60, 3) (mg 3 rfl)) vX8_60 ?_
  refine X_cS (As := [.long ((x).toInt64), .long (lN 0), .long ((4 : Int64))]) (st := []) C (post := _) (ct_X8_in hw ((x).toInt64) (lN 0) ((4 : Int64)) h g) kX8_54 (by decide) (by decide) rfl rfl (Nat.le_of_ble_eq_true rfl) (D (6, .invokestatic 54, 3) (mg 4 rfl)) rfl (fun v3 H1 G2 hv3 => ?_)
  obtain ⟨rfl, rfl, rfl⟩ := hv3
  show X k w _ 9 [some (.int (x))] [.int (if (lN 0).toInt ≤ ((x).toInt64).toInt ∧ ((x).toInt64).toInt ≤ ((4 : Int64)).toInt then 1 else 0)] h g
  exact X_zret C (D (9, .ireturn, 1) (mg 5 rfl)) (nb_ite _) ⟨pe (by rw [i6, show (lN 0).toInt = 0 from by decide, show (4 : Int64).toInt = 4 from by decide]; omega), rfl, rfl⟩
set_option maxHeartbeats 4000000 in
set_option maxRecDepth 100000 in
theorem ct_X8_isDepth {l : Launch} {w : Kw} (hw : wOk w) (x : Int32) (h : xI) (g : xJ)  : Ct l w yX8_isDepth cX8_isDepth 1 (some .boolean) 1 25 [.int (x)] h g (px (some (.int (if 0 ≤ x.toInt ∧ x.toInt < 10 then 1 else 0))) h g) := by
  refine Ct_of (ls := [some (.int (x))]) (by decide) hw (Nat.le_of_ble_eq_true rfl) rfl (fun k hkl C => ?_)
  have C : Cx k w cX8_isDepth RX8 1 (some .boolean) 1 25 := C
  have D := dtX8_isDepth
  subst hkl
  refine X_iload_n C 0 (D (0, .iload_n 0, 1) (mg 0 rfl)) rfl rfl ?_
  refine X_i2l C (D (1, .i2l, 1) (mg 1 rfl)) ?_
  refine X_lconst (v := lN 0) C (D (2, .lconst 0, 1) (mg 2 rfl)) (by decide) ?_
  refine X_ldc2 C (D (3, .ldc2_w 62, 3) (mg 3 rfl)) vX8_62 ?_
  refine X_cS (As := [.long ((x).toInt64), .long (lN 0), .long ((9 : Int64))]) (st := []) C (post := _) (ct_X8_in hw ((x).toInt64) (lN 0) ((9 : Int64)) h g) kX8_54 (by decide) (by decide) rfl rfl (Nat.le_of_ble_eq_true rfl) (D (6, .invokestatic 54, 3) (mg 4 rfl)) rfl (fun v3 H1 G2 hv3 => ?_)
  obtain ⟨rfl, rfl, rfl⟩ := hv3
  show X k w _ 9 [some (.int (x))] [.int (if (lN 0).toInt ≤ ((x).toInt64).toInt ∧ ((x).toInt64).toInt ≤ ((9 : Int64)).toInt then 1 else 0)] h g
  exact X_zret C (D (9, .ireturn, 1) (mg 5 rfl)) (nb_ite _) ⟨pe (by rw [i6, show (lN 0).toInt = 0 from by decide, show (9 : Int64).toInt = 9 from by decide]; omega), rfl, rfl⟩
def rw56 (w : Kw) (q L : Nat) : Prop := q < wN w ∧ wS w q = .inr (.inl (0, L)) ∧ 56 ≤ L ∧ L < 2147483648
set_option maxHeartbeats 4000000 in
set_option maxRecDepth 100000 in
theorem ct_X8_lies {l : Launch} {w : Kw} (hw : wOk w) {q L : Nat} (hr : rw56 w q L) {j : Nat} (hj : j < 25) (h : xI) (g : xJ)  : Ct l w yX8_lies cX8_lies 2 (some .boolean) 0 0 [.ref (wA w (q)), .int (nI (j))] h g (px (some (.int (if ¬ h q (3 + j) = 0 then 1 else 0))) h g) := by
  refine Ct_of (ls := [some (.ref (wA w (q))), some (.int (nI (j)))]) (by decide) hw (Nat.le_of_ble_eq_true rfl) rfl (fun k hkl C => ?_)
  have C : Cx k w cX8_lies RX8 2 (some .boolean) 0 0 := C
  have D := dtX8_lies
  subst hkl
  obtain ⟨hq0, hs0, hL, hL2⟩ := hr
  refine X_aload_n C 0 (D (0, .aload_n 0, 1) (mg 0 rfl)) rfl rfl ?_
  refine X_iconst (v := nI (3)) C (D (1, .iconst 3, 1) (mg 1 rfl)) (by decide) ?_
  refine X_iload_n C 1 (D (2, .iload_n 1, 1) (mg 2 rfl)) rfl rfl ?_
  refine X_iadd C (D (3, .iadd, 1) (mg 3 rfl)) ?_
  refine X_ti (y := nI (3 + j)) (nI_add (3) (j)) ?_
  refine X_iald (v := h (q) (3 + j)) C (q) hq0 hs0 (vp_in_nI (by omega) (by omega)) (D (4, .iaload, 1) (mg 4 rfl)) (by rw [nI_clamp (by omega)]) ?_
  refine X_if_eq (tgt := 12) C (D (5, .ifCond .eq 7, 3) (mg 5 rfl)) (by decide) (fun q1 => ?_) (fun q1 => ?_)
  · skip
    refine X_iconst (v := nI (0)) C (D (12, .iconst 0, 1) (mg 8 rfl)) (by decide) ?_
    exact X_zret C (D (13, .ireturn, 1) (mg 9 rfl)) rfl ⟨pf (fun z => z ‹_›), rfl, rfl⟩
  · skip
    refine X_iconst (v := nI (1)) C (D (8, .iconst 1, 1) (mg 6 rfl)) (by decide) ?_
    refine X_goto (tgt := 13) C (D (9, .goto 4, 3) (mg 7 rfl)) (by decide) ?_
    exact X_zret C (D (13, .ireturn, 1) (mg 9 rfl)) rfl ⟨pt ‹_›, rfl, rfl⟩
def mK (v : Int32) : Int32 := (v - 1) - (v - 1) / 6 * 6
def mD (v : Int32) : Int32 := (v - 1) / 6 - (v - 1) / 6 / 10 * 10
def mA (v : Int32) : Int32 := (v - 1) / 60
def mV (k d a : Int32) : Int32 := 1 + k + 6 * d + 60 * a
set_option maxHeartbeats 4000000 in
set_option maxRecDepth 100000 in
theorem ct_X8_kindOf {l : Launch} {w : Kw} (hw : wOk w) {q L : Nat} (hr : rw56 w q L) {j : Nat} (hj : j < 25) (h : xI) (g : xJ)  : Ct l w yX8_kindOf cX8_kindOf 2 (some .int) 0 0 [.ref (wA w (q)), .int (nI (j))] h g (px (some (.int (mK (h q (3 + j))))) h g) := by
  refine Ct_of (ls := [some (.ref (wA w (q))), some (.int (nI (j)))]) (by decide) hw (Nat.le_of_ble_eq_true rfl) rfl (fun k hkl C => ?_)
  have C : Cx k w cX8_kindOf RX8 2 (some .int) 0 0 := C
  have D := dtX8_kindOf
  subst hkl
  obtain ⟨hq0, hs0, hL, hL2⟩ := hr
  refine X_aload_n C 0 (D (0, .aload_n 0, 1) (mg 0 rfl)) rfl rfl ?_
  refine X_iconst (v := nI (3)) C (D (1, .iconst 3, 1) (mg 1 rfl)) (by decide) ?_
  refine X_iload_n C 1 (D (2, .iload_n 1, 1) (mg 2 rfl)) rfl rfl ?_
  refine X_iadd C (D (3, .iadd, 1) (mg 3 rfl)) ?_
  refine X_ti (y := nI (3 + j)) (nI_add (3) (j)) ?_
  refine X_iald (v := h (q) (3 + j)) C (q) hq0 hs0 (vp_in_nI (by omega) (by omega)) (D (4, .iaload, 1) (mg 4 rfl)) (by rw [nI_clamp (by omega)]) ?_
  refine X_iconst (v := nI (1)) C (D (5, .iconst 1, 1) (mg 5 rfl)) (by decide) ?_
  refine X_isub C (D (6, .isub, 1) (mg 6 rfl)) ?_
  refine X_bipush (v := nI (6)) C (D (7, .bipush 6, 2) (mg 7 rfl)) (by decide) ?_
  refine X_irem C (D (9, .irem, 1) (mg 8 rfl)) (by decide) ?_
  exact X_iret C (D (10, .ireturn, 1) (mg 9 rfl)) ⟨rfl, rfl, rfl⟩
set_option maxHeartbeats 4000000 in
set_option maxRecDepth 100000 in
theorem ct_X8_depthOf {l : Launch} {w : Kw} (hw : wOk w) {q L : Nat} (hr : rw56 w q L) {j : Nat} (hj : j < 25) (h : xI) (g : xJ)  : Ct l w yX8_depthOf cX8_depthOf 2 (some .int) 0 0 [.ref (wA w (q)), .int (nI (j))] h g (px (some (.int (mD (h q (3 + j))))) h g) := by
  refine Ct_of (ls := [some (.ref (wA w (q))), some (.int (nI (j)))]) (by decide) hw (Nat.le_of_ble_eq_true rfl) rfl (fun k hkl C => ?_)
  have C : Cx k w cX8_depthOf RX8 2 (some .int) 0 0 := C
  have D := dtX8_depthOf
  subst hkl
  obtain ⟨hq0, hs0, hL, hL2⟩ := hr
  refine X_aload_n C 0 (D (0, .aload_n 0, 1) (mg 0 rfl)) rfl rfl ?_
  refine X_iconst (v := nI (3)) C (D (1, .iconst 3, 1) (mg 1 rfl)) (by decide) ?_
  refine X_iload_n C 1 (D (2, .iload_n 1, 1) (mg 2 rfl)) rfl rfl ?_
  refine X_iadd C (D (3, .iadd, 1) (mg 3 rfl)) ?_
  refine X_ti (y := nI (3 + j)) (nI_add (3) (j)) ?_
  refine X_iald (v := h (q) (3 + j)) C (q) hq0 hs0 (vp_in_nI (by omega) (by omega)) (D (4, .iaload, 1) (mg 4 rfl)) (by rw [nI_clamp (by omega)]) ?_
  refine X_iconst (v := nI (1)) C (D (5, .iconst 1, 1) (mg 5 rfl)) (by decide) ?_
  refine X_isub C (D (6, .isub, 1) (mg 6 rfl)) ?_
  refine X_bipush (v := nI (6)) C (D (7, .bipush 6, 2) (mg 7 rfl)) (by decide) ?_
  refine X_idiv C (D (9, .idiv, 1) (mg 8 rfl)) (by decide) ?_
  refine X_bipush (v := nI (10)) C (D (10, .bipush 10, 2) (mg 9 rfl)) (by decide) ?_
  refine X_irem C (D (12, .irem, 1) (mg 10 rfl)) (by decide) ?_
  exact X_iret C (D (13, .ireturn, 1) (mg 11 rfl)) ⟨rfl, rfl, rfl⟩
set_option maxHeartbeats 4000000 in
set_option maxRecDepth 100000 in
theorem ct_X8_ageOf {l : Launch} {w : Kw} (hw : wOk w) {q L : Nat} (hr : rw56 w q L) {j : Nat} (hj : j < 25) (h : xI) (g : xJ)  : Ct l w yX8_ageOf cX8_ageOf 2 (some .int) 0 0 [.ref (wA w (q)), .int (nI (j))] h g (px (some (.int (mA (h q (3 + j))))) h g) := by
  refine Ct_of (ls := [some (.ref (wA w (q))), some (.int (nI (j)))]) (by decide) hw (Nat.le_of_ble_eq_true rfl) rfl (fun k hkl C => ?_)
  have C : Cx k w cX8_ageOf RX8 2 (some .int) 0 0 := C
  have D := dtX8_ageOf
  subst hkl
  obtain ⟨hq0, hs0, hL, hL2⟩ := hr
  refine X_aload_n C 0 (D (0, .aload_n 0, 1) (mg 0 rfl)) rfl rfl ?_
  refine X_iconst (v := nI (3)) C (D (1, .iconst 3, 1) (mg 1 rfl)) (by decide) ?_
  refine X_iload_n C 1 (D (2, .iload_n 1, 1) (mg 2 rfl)) rfl rfl ?_
  refine X_iadd C (D (3, .iadd, 1) (mg 3 rfl)) ?_
  refine X_ti (y := nI (3 + j)) (nI_add (3) (j)) ?_
  refine X_iald (v := h (q) (3 + j)) C (q) hq0 hs0 (vp_in_nI (by omega) (by omega)) (D (4, .iaload, 1) (mg 4 rfl)) (by rw [nI_clamp (by omega)]) ?_
  refine X_iconst (v := nI (1)) C (D (5, .iconst 1, 1) (mg 5 rfl)) (by decide) ?_
  refine X_isub C (D (6, .isub, 1) (mg 6 rfl)) ?_
  refine X_bipush (v := nI (60)) C (D (7, .bipush 60, 2) (mg 7 rfl)) (by decide) ?_
  refine X_idiv C (D (9, .idiv, 1) (mg 8 rfl)) (by decide) ?_
  exact X_iret C (D (10, .ireturn, 1) (mg 9 rfl)) ⟨rfl, rfl, rfl⟩
set_option maxHeartbeats 4000000 in
set_option maxRecDepth 100000 in
theorem ct_X8_lay {l : Launch} {w : Kw} (hw : wOk w) {q L : Nat} (hr : rw56 w q L) {j : Nat} (hj : j < 25) (kd dp ag : Int32) (h : xI) (g : xJ)  : Ct l w yX8_lay cX8_lay 5 none 0 0 [.ref (wA w (q)), .int (nI (j)), .int (kd), .int (dp), .int (ag)] h g (px none (u2 h q (3 + j) (mV kd dp ag)) g) := by
  refine Ct_of (ls := [some (.ref (wA w (q))), some (.int (nI (j))), some (.int (kd)), some (.int (dp)), some (.int (ag))]) (by decide) hw (Nat.le_of_ble_eq_true rfl) rfl (fun k hkl C => ?_)
  have C : Cx k w cX8_lay RX8 5 none 0 0 := C
  have D := dtX8_lay
  subst hkl
  obtain ⟨hq0, hs0, hL, hL2⟩ := hr
  refine X_aload_n C 0 (D (0, .aload_n 0, 1) (mg 0 rfl)) rfl rfl ?_
  refine X_iconst (v := nI (3)) C (D (1, .iconst 3, 1) (mg 1 rfl)) (by decide) ?_
  refine X_iload_n C 1 (D (2, .iload_n 1, 1) (mg 2 rfl)) rfl rfl ?_
  refine X_iadd C (D (3, .iadd, 1) (mg 3 rfl)) ?_
  refine X_ti (y := nI (3 + j)) (nI_add (3) (j)) ?_
  refine X_iconst (v := nI (1)) C (D (4, .iconst 1, 1) (mg 4 rfl)) (by decide) ?_
  refine X_iload_n C 2 (D (5, .iload_n 2, 1) (mg 5 rfl)) rfl rfl ?_
  refine X_iadd C (D (6, .iadd, 1) (mg 6 rfl)) ?_
  refine X_bipush (v := nI (6)) C (D (7, .bipush 6, 2) (mg 7 rfl)) (by decide) ?_
  refine X_iload_n C 3 (D (9, .iload_n 3, 1) (mg 8 rfl)) rfl rfl ?_
  refine X_imul C (D (10, .imul, 1) (mg 9 rfl)) ?_
  refine X_iadd C (D (11, .iadd, 1) (mg 10 rfl)) ?_
  refine X_bipush (v := nI (60)) C (D (12, .bipush 60, 2) (mg 11 rfl)) (by decide) ?_
  refine X_iload C (D (14, .iload 4, 2) (mg 12 rfl)) rfl ?_
  refine X_imul C (D (16, .imul, 1) (mg 13 rfl)) ?_
  refine X_iadd C (D (17, .iadd, 1) (mg 14 rfl)) ?_
  refine X_iast (j := 3 + j) C (q) hq0 hs0 (vp_in_nI (by omega) (by omega)) (D (18, .iastore, 1) (mg 15 rfl)) (nI_clamp (by omega)) ?_
  exact X_vret C (D (19, .return_, 1) (mg 16 rfl)) ⟨rfl, rfl, rfl⟩
/-- how many of the first n have p -/
def cn (p : Nat → Prop) [DecidablePred p] : Nat → Nat
  | 0 => 0
  | n + 1 => cn p n + if p n then 1 else 0
theorem cn_le (p : Nat → Prop) [DecidablePred p] : ∀ n, cn p n ≤ n
  | 0 => Nat.le_refl _
  | n + 1 => by
    have := cn_le p n
    simp only [cn]
    split <;> omega
theorem cn_t {p : Nat → Prop} [DecidablePred p] {n : Nat} (h : p n) : cn p n + 1 = cn p (n + 1) := by simp [cn, h]
theorem cn_f {p : Nat → Prop} [DecidablePred p] {n : Nat} (h : ¬ p n) : cn p n + 0 = cn p (n + 1) := by simp [cn, h]
set_option maxHeartbeats 4000000 in
set_option maxRecDepth 100000 in
theorem ct_X8_manyLie {l : Launch} {w : Kw} (hw : wOk w) {q L : Nat} (hr : rw56 w q L) (h : xI) (g : xJ)  : Ct l w yX8_manyLie cX8_manyLie 3 (some .int) 1 21 [.ref (wA w (q))] h g (px (some (.int (nI (cn (fun c => ¬ h q (3 + c) = 0) 25)))) h g) := by
  refine Ct_of (ls := [some (.ref (wA w (q))), none, none]) (by decide) hw (Nat.le_of_ble_eq_true rfl) rfl (fun k hkl C => ?_)
  have C : Cx k w cX8_manyLie RX8 3 (some .int) 1 21 := C
  have D := dtX8_manyLie
  subst hkl
  refine X_iconst (v := nI (0)) C (D (0, .iconst 0, 1) (mg 0 rfl)) (by decide) ?_
  refine X_istore_n (ls' := [some (.ref (wA w (q))), some (.int (nI (0))), none]) C 1 (D (1, .istore_n 1, 1) (mg 1 rfl)) rfl (Nat.le_of_ble_eq_true rfl) rfl ?_
  refine X_iconst (v := nI (0)) C (D (2, .iconst 0, 1) (mg 2 rfl)) (by decide) ?_
  refine X_istore_n (ls' := [some (.ref (wA w (q))), some (.int (nI (0))), some (.int (nI (0)))]) C 2 (D (3, .istore_n 2, 1) (mg 3 rfl)) rfl (Nat.le_of_ble_eq_true rfl) rfl ?_
  have lp4 : ∀ (nn4 : Nat) (j : Nat), (j ≤ 25) → 26 - j ≤ nn4 → X k w (Zq k w (px (some (.int (nI (cn (fun c => ¬ h q (3 + c) = 0) 25)))) h g)) 4 [some (.ref (wA w (q))), some (.int (nI (cn (fun c => ¬ h q (3 + c) = 0) (j)))), some (.int (nI (j)))] [] h g := by
    intro nn4
    induction nn4 with
    | zero => intro j hc4_0 hz; exact absurd hz (by omega)
    | succ nn4 ih4 =>
      intro j hc4_0 hz4
      refine X_iload_n C 2 (D (4, .iload_n 2, 1) (mg 4 rfl)) rfl rfl ?_
      refine X_bipush (v := nI (25)) C (D (5, .bipush 25, 2) (mg 5 rfl)) (by decide) ?_
      refine X_icmp_ge (tgt := 32) C (D (7, .if_icmp .ge 25, 3) (mg 6 rfl)) (by decide) (fun q1 => ?_) (fun q1 => ?_)
      · skip
        have q1 : (j) ≥ (25) := by have z := (nI_leI (a := (25)) (b := (j)) (by omega) (by omega)).mp q1; omega
        refine X_iload_n C 1 (D (32, .iload_n 1, 1) (mg 19 rfl)) rfl rfl ?_
        exact X_iret C (D (33, .ireturn, 1) (mg 20 rfl)) ⟨by rw [show j = 25 by omega], rfl, rfl⟩
      · skip
        have q1 : (j) < (25) := by have z : ¬ ((25) ≤ (j)) := fun u => q1 ((nI_leI (a := (25)) (b := (j)) (by omega) (by omega)).mpr u); omega
        refine X_iload_n C 1 (D (10, .iload_n 1, 1) (mg 7 rfl)) rfl rfl ?_
        refine X_aload_n C 0 (D (11, .aload_n 0, 1) (mg 8 rfl)) rfl rfl ?_
        refine X_iload_n C 2 (D (12, .iload_n 2, 1) (mg 9 rfl)) rfl rfl ?_
        refine X_cS (As := [.ref (wA w (q)), .int (nI (j))]) (st := [.int (nI (cn (fun c => ¬ h q (3 + c) = 0) (j)))]) C (post := _) (ct_X8_lies hw hr (by omega) h g) kX8_64 (by decide) (by decide) rfl rfl (Nat.le_of_ble_eq_true rfl) (D (13, .invokestatic 64, 3) (mg 10 rfl)) rfl (fun v4 H2 G3 hv4 => ?_)
        obtain ⟨rfl, rfl, rfl⟩ := hv4
        show X k w _ 16 [some (.ref (wA w (q))), some (.int (nI (cn (fun c => ¬ h q (3 + c) = 0) (j)))), some (.int (nI (j)))] [.int (if ¬ h (q) (3 + (j)) = 0 then 1 else 0), .int (nI (cn (fun c => ¬ h q (3 + c) = 0) (j)))] h g
        refine X_if_eq (tgt := 23) C (D (16, .ifCond .eq 7, 3) (mg 11 rfl)) (by decide) (fun q5 => ?_) (fun q5 => ?_)
        · skip
          have q5 : ¬ (¬ h (q) (3 + (j)) = 0) := bz0.mp q5
          refine X_iconst (v := nI (0)) C (D (23, .iconst 0, 1) (mg 14 rfl)) (by decide) ?_
          refine X_iadd C (D (24, .iadd, 1) (mg 15 rfl)) ?_
          refine X_ti (y := nI (cn (fun c => ¬ h q (3 + c) = 0) (j) + 0)) (nI_add (cn (fun c => ¬ h q (3 + c) = 0) (j)) (0)) ?_
          refine X_istore_n (ls' := [some (.ref (wA w (q))), some (.int (nI (cn (fun c => ¬ h q (3 + c) = 0) (j) + 0))), some (.int (nI (j)))]) C 1 (D (25, .istore_n 1, 1) (mg 16 rfl)) rfl (Nat.le_of_ble_eq_true rfl) rfl ?_
          refine X_iinc (v := nI (j + 1)) (ls' := [some (.ref (wA w (q))), some (.int (nI (cn (fun c => ¬ h q (3 + c) = 0) (j) + 0))), some (.int (nI (j + 1)))]) C (D (26, .iinc 2 1, 3) (mg 17 rfl)) rfl (nI_add (j) 1) rfl ?_
          refine X_goto (tgt := 4) C (D (29, .goto (-25), 3) (mg 18 rfl)) (by decide) ?_
          refine X_eq (ls' := [some (.ref (wA w (q))), some (.int (nI (cn (fun c => ¬ h q (3 + c) = 0) (j + 1)))), some (.int (nI (j + 1)))]) (st' := []) (h' := h) (g' := g) (by rw [cn_f (by assumption)]) rfl rfl rfl ?_
          exact ih4 (j + 1) (by omega) (by omega)
        · skip
          have q5 : (¬ h (q) (3 + (j)) = 0) := bz1.mp q5
          refine X_iconst (v := nI (1)) C (D (19, .iconst 1, 1) (mg 12 rfl)) (by decide) ?_
          refine X_goto (tgt := 24) C (D (20, .goto 4, 3) (mg 13 rfl)) (by decide) ?_
          refine X_iadd C (D (24, .iadd, 1) (mg 15 rfl)) ?_
          refine X_ti (y := nI (cn (fun c => ¬ h q (3 + c) = 0) (j) + 1)) (nI_add (cn (fun c => ¬ h q (3 + c) = 0) (j)) (1)) ?_
          refine X_istore_n (ls' := [some (.ref (wA w (q))), some (.int (nI (cn (fun c => ¬ h q (3 + c) = 0) (j) + 1))), some (.int (nI (j)))]) C 1 (D (25, .istore_n 1, 1) (mg 16 rfl)) rfl (Nat.le_of_ble_eq_true rfl) rfl ?_
          refine X_iinc (v := nI (j + 1)) (ls' := [some (.ref (wA w (q))), some (.int (nI (cn (fun c => ¬ h q (3 + c) = 0) (j) + 1))), some (.int (nI (j + 1)))]) C (D (26, .iinc 2 1, 3) (mg 17 rfl)) rfl (nI_add (j) 1) rfl ?_
          refine X_goto (tgt := 4) C (D (29, .goto (-25), 3) (mg 18 rfl)) (by decide) ?_
          refine X_eq (ls' := [some (.ref (wA w (q))), some (.int (nI (cn (fun c => ¬ h q (3 + c) = 0) (j + 1)))), some (.int (nI (j + 1)))]) (st' := []) (h' := h) (g' := g) (by rw [cn_t (by assumption)]) rfl rfl rfl ?_
          exact ih4 (j + 1) (by omega) (by omega)
  refine X_eq (ls' := [some (.ref (wA w (q))), some (.int (nI (cn (fun c => ¬ h q (3 + c) = 0) (0)))), some (.int (nI (0)))]) (st' := []) (h' := h) (g' := g) rfl rfl rfl rfl ?_
  exact lp4 _ (0) (by omega) (Nat.le_refl _)
