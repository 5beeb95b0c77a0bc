/-! THE REFERENCE, 1: leaves -/
theorem bz0 {P : Prop} [Decidable P] : (if P then (1 : Int32) else 0) = 0 ↔ ¬ P := by
  by_cases h : P <;> simp [h]
theorem bz1 {P : Prop} [Decidable P] : ¬ (if P then (1 : Int32) else 0) = 0 ↔ P := by
  by_cases h : P <;> simp [h]
theorem nb_ite (P : Prop) [Decidable P] : narrow .boolean (.int (if P then 1 else 0)) = .int (if P then 1 else 0) := by
  by_cases h : P <;> simp [h] <;> rfl
theorem pt {P : Prop} [Decidable P] (h : P) : some (Value.int (if P then 1 else 0)) = some (Value.int (nI 1)) := by rw [if_pos h]; rfl
theorem pf {P : Prop} [Decidable P] (h : ¬ P) : some (Value.int (if P then 1 else 0)) = some (Value.int (nI 0)) := by rw [if_neg h]; rfl
theorem pe {P Q : Prop} [Decidable P] [Decidable Q] (h : Q ↔ P) : some (Value.int (if P then 1 else 0)) = some (Value.int (if Q then 1 else 0)) := by
  by_cases hq : Q
  · rw [if_pos (h.mp hq), if_pos hq]
  · rw [if_neg (fun z => hq (h.mpr z)), if_neg hq]
theorem lgI (x y : Int64) : (lg_cmp x y < 0 ↔ x.toInt < y.toInt) ∧ (0 < lg_cmp x y ↔ y.toInt < x.toInt) ∧ (0 ≤ lg_cmp x y ↔ y.toInt ≤ x.toInt) ∧ (lg_cmp x y ≤ 0 ↔ x.toInt ≤ y.toInt) := by
  unfold lg_cmp
  simp only [gt_iff_lt, Int64.lt_iff_toInt_lt, Int64.le_iff_toInt_le, ← Int64.toInt_inj]
  refine ⟨?_, ?_, ?_, ?_⟩ <;> (repeat' split) <;> (constructor <;> intro hh <;> first | omega | decide | exact absurd hh (by decide))
theorem nI_i {x : Int32} {n : Nat} (h1 : 0 ≤ x.toInt) (h2 : x.toInt < n) : ∃ j : Nat, j < n ∧ x = nI j := by
  refine ⟨x.toInt.toNat, by omega, ?_⟩
  apply Int32.toInt_inj.mp
  have hb : x.toInt < 2 ^ 31 := by have := x.toInt_lt; simpa using this
  rw [nI_toInt (by omega)]
  omega
set_option maxHeartbeats 4000000 in
set_option maxRecDepth 100000 in
theorem ct_X8_in {l : Launch} {w : Kw} (hw : wOk w) (a b d : Int64) (h : xI) (g : xJ) : Ct l w yX8_in cX8_in 6 (some .boolean) 0 0 [.long (a), .long (b), .long (d)] h g (px (some (.int (if b.toInt ≤ a.toInt ∧ a.toInt ≤ d.toInt then 1 else 0))) h g) := by
  refine Ct_of (ls := [some (.long (a)), none, some (.long (b)), none, some (.long (d)), none]) (by decide) hw (Nat.le_of_ble_eq_true rfl) rfl (fun k hkl C => ?_)
  have C : Cx k w cX8_in RX8 6 (some .boolean) 0 0 := C
  have D := dtX8_in
  subst hkl
  refine X_lload_n C 0 (D (0, .lload_n 0, 1) (mg 0 rfl)) rfl rfl ?_
  refine X_lload_n C 2 (D (1, .lload_n 2, 1) (mg 1 rfl)) rfl rfl ?_
  refine X_lcmp C (D (2, .lcmp, 1) (mg 2 rfl)) ?_
  refine X_if_lt (tgt := 17) C (D (3, .ifCond .lt 14, 3) (mg 3 rfl)) (by decide) (fun q1 => ?_) (fun q1 => ?_)
  · skip
    refine X_iconst (v := nI (0)) C (D (17, .iconst 0, 1) (mg 10 rfl)) (by decide) ?_
    exact X_zret C (D (18, .ireturn, 1) (mg 11 rfl)) rfl ⟨pf (by simp only [lgI] at *; omega), rfl, rfl⟩
  · skip
    refine X_lload_n C 0 (D (6, .lload_n 0, 1) (mg 4 rfl)) rfl rfl ?_
    refine X_lload C (D (7, .lload 4, 2) (mg 5 rfl)) rfl ?_
    refine X_lcmp C (D (9, .lcmp, 1) (mg 6 rfl)) ?_
    refine X_if_gt (tgt := 17) C (D (10, .ifCond .gt 7, 3) (mg 7 rfl)) (by decide) (fun q2 => ?_) (fun q2 => ?_)
    · skip
      refine X_iconst (v := nI (0)) C (D (17, .iconst 0, 1) (mg 10 rfl)) (by decide) ?_
      exact X_zret C (D (18, .ireturn, 1) (mg 11 rfl)) rfl ⟨pf (by simp only [lgI] at *; omega), rfl, rfl⟩
    · skip
      refine X_iconst (v := nI (1)) C (D (13, .iconst 1, 1) (mg 8 rfl)) (by decide) ?_
      refine X_goto (tgt := 18) C (D (14, .goto 4, 3) (mg 9 rfl)) (by decide) ?_
      exact X_zret C (D (18, .ireturn, 1) (mg 11 rfl)) rfl ⟨pt (by simp only [lgI] at *; omega), rfl, rfl⟩
theorem i6 (x : Int32) : x.toInt64.toInt = x.toInt := by simp
set_option maxHeartbeats 4000000 in
set_option maxRecDepth 100000 in
theorem ct_X8_isCell {l : Launch} {w : Kw} (hw : wOk w) (x : Int32) (h : xI) (g : xJ) : Ct l w yX8_isCell cX8_isCell 1 (some .boolean) 1 25 [.int (x)] h g (px (some (.int (if 0 ≤ x.toInt ∧ x.toInt < 25 then 1 else 0))) h g) := by
  refine Ct_of (ls := [some (.int (x))]) (by decide) hw (Nat.le_of_ble_eq_true rfl) rfl (fun k hkl C => ?_)
  have C : Cx k w cX8_isCell RX8 1 (some .boolean) 1 25 := C
  have D := dtX8_isCell
  subst hkl
  refine X_iload_n C 0 (D (0, .iload_n 0, 1) (mg 0 rfl)) rfl rfl ?_
  refine X_i2l C (D (1, .i2l, 1) (mg 1 rfl)) ?_
  refine X_lconst (v := lN 0) C (D (2, .lconst 0, 1) (mg 2 rfl)) (by decide) ?_
  refine X_ldc2 C (D (3, .ldc2_w 52, 3) (mg 3 rfl)) vX8_52 ?_
  refine X_cS (As := [.long ((x).toInt64), .long (lN 0), .long ((24 : Int64))]) (st := []) C (post := _) (ct_X8_in hw ((x).toInt64) (lN 0) ((24 : Int64)) h g) kX8_54 (by decide) (by decide) rfl rfl (Nat.le_of_ble_eq_true rfl) (D (6, .invokestatic 54, 3) (mg 4 rfl)) rfl (fun v h1 g1 hv => ?_)
  obtain ⟨rfl, rfl, rfl⟩ := hv
  show X k w _ 9 [some (.int (x))] [.int (if (lN 0).toInt ≤ ((x).toInt64).toInt ∧ ((x).toInt64).toInt ≤ ((24 : Int64)).toInt then 1 else 0)] h g
  exact X_zret C (D (9, .ireturn, 1) (mg 5 rfl)) (nb_ite _) ⟨pe (by rw [i6, show (lN 0).toInt = 0 from by decide, show (24 : Int64).toInt = 24 from by decide]; omega), rfl, rfl⟩
set_option maxHeartbeats 4000000 in
set_option maxRecDepth 100000 in
theorem ct_X8_isKind {l : Launch} {w : Kw} (hw : wOk w) (x : Int32) (h : xI) (g : xJ) : Ct l w yX8_isKind cX8_isKind 1 (some .boolean) 1 25 [.int (x)] h g (px (some (.int (if 0 ≤ x.toInt ∧ x.toInt < 6 then 1 else 0))) h g) := by
  refine Ct_of (ls := [some (.int (x))]) (by decide) hw (Nat.le_of_ble_eq_true rfl) rfl (fun k hkl C => ?_)
  have C : Cx k w cX8_isKind RX8 1 (some .boolean) 1 25 := C
  have D := dtX8_isKind
  subst hkl
  refine X_iload_n C 0 (D (0, .iload_n 0, 1) (mg 0 rfl)) rfl rfl ?_
  refine X_i2l C (D (1, .i2l, 1) (mg 1 rfl)) ?_
  refine X_lconst (v := lN 0) C (D (2, .lconst 0, 1) (mg 2 rfl)) (by decide) ?_
  refine X_ldc2 C (D (3, .ldc2_w 58, 3) (mg 3 rfl)) vX8_58 ?_
  refine X_cS (As := [.long ((x).toInt64), .long (lN 0), .long ((5 : Int64))]) (st := []) C (post := _) (ct_X8_in hw ((x).toInt64) (lN 0) ((5 : Int64)) h g) kX8_54 (by decide) (by decide) rfl rfl (Nat.le_of_ble_eq_true rfl) (D (6, .invokestatic 54, 3) (mg 4 rfl)) rfl (fun v h1 g1 hv => ?_)
  obtain ⟨rfl, rfl, rfl⟩ := hv
  show X k w _ 9 [some (.int (x))] [.int (if (lN 0).toInt ≤ ((x).toInt64).toInt ∧ ((x).toInt64).toInt ≤ ((5 : Int64)).toInt then 1 else 0)] h g
  exact X_zret C (D (9, .ireturn, 1) (mg 5 rfl)) (nb_ite _) ⟨pe (by rw [i6, show (lN 0).toInt = 0 from by decide, show (5 : Int64).toInt = 5 from by decide]; omega), rfl, rfl⟩
set_option maxHeartbeats 4000000 in
set_option maxRecDepth 100000 in
theorem ct_X8_isStony {l : Launch} {w : Kw} (hw : wOk w) (x : Int32) (h : xI) (g : xJ) : Ct l w yX8_isStony cX8_isStony 1 (some .boolean) 1 25 [.int (x)] h g (px (some (.int (if 0 ≤ x.toInt ∧ x.toInt < 5 then 1 else 0))) h g) := by
  refine Ct_of (ls := [some (.int (x))]) (by decide) hw (Nat.le_of_ble_eq_true rfl) rfl (fun k hkl C => ?_)
  have C : Cx k w cX8_isStony RX8 1 (some .boolean) 1 25 := C
  have D := dtX8_isStony
  subst hkl
  refine X_iload_n C 0 (D (0, .iload_n 0, 1) (mg 0 rfl)) rfl rfl ?_
  refine X_i2l C (D (1, .i2l, 1) (mg 1 rfl)) ?_
  refine X_lconst (v := lN 0) C (D (2, .lconst 0, 1) (mg 2 rfl)) (by decide) ?_
  refine X_ldc2 C (D (3, .ldc2_w 60, 3) (mg 3 rfl)) vX8_60 ?_
  refine X_cS (As := [.long ((x).toInt64), .long (lN 0), .long ((4 : Int64))]) (st := []) C (post := _) (ct_X8_in hw ((x).toInt64) (lN 0) ((4 : Int64)) h g) kX8_54 (by decide) (by decide) rfl rfl (Nat.le_of_ble_eq_true rfl) (D (6, .invokestatic 54, 3) (mg 4 rfl)) rfl (fun v h1 g1 hv => ?_)
  obtain ⟨rfl, rfl, rfl⟩ := hv
  show X k w _ 9 [some (.int (x))] [.int (if (lN 0).toInt ≤ ((x).toInt64).toInt ∧ ((x).toInt64).toInt ≤ ((4 : Int64)).toInt then 1 else 0)] h g
  exact X_zret C (D (9, .ireturn, 1) (mg 5 rfl)) (nb_ite _) ⟨pe (by rw [i6, show (lN 0).toInt = 0 from by decide, show (4 : Int64).toInt = 4 from by decide]; omega), rfl, rfl⟩
set_option maxHeartbeats 4000000 in
set_option maxRecDepth 100000 in
theorem ct_X8_isDepth {l : Launch} {w : Kw} (hw : wOk w) (x : Int32) (h : xI) (g : xJ) : Ct l w yX8_isDepth cX8_isDepth 1 (some .boolean) 1 25 [.int (x)] h g (px (some (.int (if 0 ≤ x.toInt ∧ x.toInt < 10 then 1 else 0))) h g) := by
  refine Ct_of (ls := [some (.int (x))]) (by decide) hw (Nat.le_of_ble_eq_true rfl) rfl (fun k hkl C => ?_)
  have C : Cx k w cX8_isDepth RX8 1 (some .boolean) 1 25 := C
  have D := dtX8_isDepth
  subst hkl
  refine X_iload_n C 0 (D (0, .iload_n 0, 1) (mg 0 rfl)) rfl rfl ?_
  refine X_i2l C (D (1, .i2l, 1) (mg 1 rfl)) ?_
  refine X_lconst (v := lN 0) C (D (2, .lconst 0, 1) (mg 2 rfl)) (by decide) ?_
  refine X_ldc2 C (D (3, .ldc2_w 62, 3) (mg 3 rfl)) vX8_62 ?_
  refine X_cS (As := [.long ((x).toInt64), .long (lN 0), .long ((9 : Int64))]) (st := []) C (post := _) (ct_X8_in hw ((x).toInt64) (lN 0) ((9 : Int64)) h g) kX8_54 (by decide) (by decide) rfl rfl (Nat.le_of_ble_eq_true rfl) (D (6, .invokestatic 54, 3) (mg 4 rfl)) rfl (fun v h1 g1 hv => ?_)
  obtain ⟨rfl, rfl, rfl⟩ := hv
  show X k w _ 9 [some (.int (x))] [.int (if (lN 0).toInt ≤ ((x).toInt64).toInt ∧ ((x).toInt64).toInt ≤ ((9 : Int64)).toInt then 1 else 0)] h g
  exact X_zret C (D (9, .ireturn, 1) (mg 5 rfl)) (nb_ite _) ⟨pe (by rw [i6, show (lN 0).toInt = 0 from by decide, show (9 : Int64).toInt = 9 from by decide]; omega), rfl, rfl⟩
