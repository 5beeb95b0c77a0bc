/-! THE REFERENCE, 9: of, count, when -/
def tdO (h : xI) (q : Nat) (j : Nat) (x : Int32) : Int32 := if x = 0 then h q (31 + j) else if x = 1 then (if ¬ h q (3 + j) = 0 then mK (h q (3 + j)) else (-1 : Int32)) else if x = 2 then (if ¬ h q (3 + j) = 0 then mD (h q (3 + j)) else (-1 : Int32)) else if x = 3 then (if ¬ h q (3 + j) = 0 then mA (h q (3 + j)) else (-1 : Int32)) else if x = 4 then hiV (h q (3 + j)) else (if ¬ h q (3 + j) = 0 then deA (h q 30) (h q (31 + j)) (mD (h q (3 + j))) else (-1 : Int32))
theorem tdO_0 {h : xI} {q : Nat} {j : Nat} {x : Int32} (e : x = 0) : tdO h q j x = h q (31 + j) := by subst e; rfl
theorem tdO_1 {h : xI} {q : Nat} {j : Nat} {x : Int32} (e : x = 1) : tdO h q j x = (if ¬ h q (3 + j) = 0 then mK (h q (3 + j)) else (-1 : Int32)) := by subst e; rfl
theorem tdO_2 {h : xI} {q : Nat} {j : Nat} {x : Int32} (e : x = 2) : tdO h q j x = (if ¬ h q (3 + j) = 0 then mD (h q (3 + j)) else (-1 : Int32)) := by subst e; rfl
theorem tdO_3 {h : xI} {q : Nat} {j : Nat} {x : Int32} (e : x = 3) : tdO h q j x = (if ¬ h q (3 + j) = 0 then mA (h q (3 + j)) else (-1 : Int32)) := by subst e; rfl
theorem tdO_4 {h : xI} {q : Nat} {j : Nat} {x : Int32} (e : x = 4) : tdO h q j x = hiV (h q (3 + j)) := by subst e; rfl
theorem tdO_o {h : xI} {q : Nat} {j : Nat} {x : Int32} (e : x.toInt < 0 ∨ 4 < x.toInt) : tdO h q j x = (if ¬ h q (3 + j) = 0 then deA (h q 30) (h q (31 + j)) (mD (h q (3 + j))) else (-1 : Int32)) := by
  have ee : ∀ y : Int32, x = y → x.toInt = y.toInt := fun y q => by rw [q]
  unfold tdO
  rw [if_neg (fun q => by have := ee _ q; rw [show (0 : Int32).toInt = 0 from by decide] at this; omega), if_neg (fun q => by have := ee _ q; rw [show (1 : Int32).toInt = 1 from by decide] at this; omega), if_neg (fun q => by have := ee _ q; rw [show (2 : Int32).toInt = 2 from by decide] at this; omega), if_neg (fun q => by have := ee _ q; rw [show (3 : Int32).toInt = 3 from by decide] at this; omega), if_neg (fun q => by have := ee _ q; rw [show (4 : Int32).toInt = 4 from by decide] at this; omega)]
theorem sw_0_4 (x : Int32) : x = 0 ∨ x = 1 ∨ x = 2 ∨ x = 3 ∨ x = 4 ∨ (x.toInt < 0 ∨ 4 < x.toInt) := by
  have e : ∀ y : Int32, x = y ↔ x.toInt = y.toInt := fun y => Int32.toInt_inj.symm
  simp only [e, show (0 : Int32).toInt = 0 from by decide, show (1 : Int32).toInt = 1 from by decide, show (2 : Int32).toInt = 2 from by decide, show (3 : Int32).toInt = 3 from by decide, show (4 : Int32).toInt = 4 from by decide]
  omega
set_option maxHeartbeats 4000000 in
set_option maxRecDepth 100000 in
theorem ct_X8_toldOf {l : Launch} {w : Kw} (hw : wOk w) {m : Nat} (hM : shM w m) {j : Nat} (hj : j < 25) (x : Int32) (h : xI) (g : xJ)  : Ct l w yX8_toldOf cX8_toldOf 4 (some .int) 2 46 [.ref (wA w (m)), .int (nI (j)), .int (x)] h g (px (some (.int (tdO h (m + 1) j x))) h g) := by
  refine Ct_of (ls := [some (.ref (wA w (m))), some (.int (nI (j))), some (.int (x)), none]) (by decide) hw (Nat.le_of_ble_eq_true rfl) rfl (fun k hkl C => ?_)
  have C : Cx k w cX8_toldOf RX8 4 (some .int) 2 46 := C
  have D := dtX8_toldOf
  subst hkl
  have hM0 := hM
  obtain ⟨hm, hsm, hs1, hs2, hs3, hs4, hs5, hs6, hs7, hs8, hs9, hs10, hs11⟩ := hM
  have hM := hM0
  refine X_aload_n C 0 (D (0, .aload_n 0, 1) (mg 0 rfl)) rfl rfl ?_
  refine X_get (v := .ref (wA w (m + 1))) C (m) 0 (by omega) hsm rfl rfl (by decide) inX8 fX8_7 rfl (D (1, .getfield 7, 3) (mg 1 rfl)) rfl ?_
  refine X_iload_n C 1 (D (4, .iload_n 1, 1) (mg 2 rfl)) rfl rfl ?_
  refine X_cS (As := [.ref (wA w (m + 1)), .int (nI (j))]) (st := []) C (post := _) (ct_X8_lies hw (⟨by omega, hs1, by omega, by omega⟩ : rw56 w (m + 1) 310) (by omega) h g) kX8_64 (by decide) (by decide) rfl rfl (Nat.le_of_ble_eq_true rfl) (D (5, .invokestatic 64, 3) (mg 3 rfl)) rfl (fun v3 H1 G2 hv3 => ?_)
  obtain ⟨rfl, rfl, rfl⟩ := hv3
  show X k w _ 8 [some (.ref (wA w (m))), some (.int (nI (j))), some (.int (x)), none] [.int (if ¬ h (m + 1) (3 + (j)) = 0 then 1 else 0)] h g
  refine X_istore_n (ls' := [some (.ref (wA w (m))), some (.int (nI (j))), some (.int (x)), some (.int (if ¬ h (m + 1) (3 + (j)) = 0 then 1 else 0))]) C 3 (D (8, .istore_n 3, 1) (mg 4 rfl)) rfl (Nat.le_of_ble_eq_true rfl) rfl ?_
  refine X_iload_n C 2 (D (9, .iload_n 2, 1) (mg 5 rfl)) rfl rfl ?_
  rcases sw_0_4 (x) with q4 | q4 | q4 | q4 | q4 | q4
  · refine X_swIn (tgt := 44) C (D (10, .tableswitch 104 0 4 #[34, 44, 61, 78, 95], 34) (mg 6 rfl)) (0) (by rw [q4]; decide) (by decide) (by decide) rfl (by decide) ?_
    refine X_aload_n C 0 (D (44, .aload_n 0, 1) (mg 7 rfl)) rfl rfl ?_
    refine X_get (v := .ref (wA w (m + 1))) C (m) 0 (by omega) hsm rfl rfl (by decide) inX8 fX8_7 rfl (D (45, .getfield 7, 3) (mg 8 rfl)) rfl ?_
    refine X_bipush (v := nI (31)) C (D (48, .bipush 31, 2) (mg 9 rfl)) (by decide) ?_
    refine X_iload_n C 1 (D (50, .iload_n 1, 1) (mg 10 rfl)) rfl rfl ?_
    refine X_iadd C (D (51, .iadd, 1) (mg 11 rfl)) ?_
    refine X_ti (y := nI (31 + j)) (nI_add (31) (j)) ?_
    refine X_iald (v := h (m + 1) (31 + j)) C (m + 1) (by omega) hs1 (vp_in_nI (by omega) (by omega)) (D (52, .iaload, 1) (mg 12 rfl)) (by rw [nI_clamp (by omega)]) ?_
    exact X_iret C (D (53, .ireturn, 1) (mg 13 rfl)) ⟨congrArg (fun z => some (Value.int z)) (tdO_0 (by assumption)), rfl, rfl⟩
  · refine X_swIn (tgt := 54) C (D (10, .tableswitch 104 0 4 #[34, 44, 61, 78, 95], 34) (mg 6 rfl)) (1) (by rw [q4]; decide) (by decide) (by decide) rfl (by decide) ?_
    refine X_iload_n C 3 (D (54, .iload_n 3, 1) (mg 14 rfl)) rfl rfl ?_
    refine X_if_eq (tgt := 69) C (D (55, .ifCond .eq 14, 3) (mg 15 rfl)) (by decide) (fun q5 => ?_) (fun q5 => ?_)
    · skip
      have q5 : ¬ (¬ h (m + 1) (3 + (j)) = 0) := bz0.mp q5
      refine X_iconst (v := (-1 : Int32)) C (D (69, .iconst (-1), 1) (mg 21 rfl)) (by decide) ?_
      exact X_iret C (D (70, .ireturn, 1) (mg 22 rfl)) ⟨congrArg (fun z => some (Value.int z)) ((tdO_1 (by assumption)).trans (if_neg (by assumption))), rfl, rfl⟩
    · skip
      have q5 : (¬ h (m + 1) (3 + (j)) = 0) := bz1.mp q5
      refine X_aload_n C 0 (D (58, .aload_n 0, 1) (mg 16 rfl)) rfl rfl ?_
      refine X_get (v := .ref (wA w (m + 1))) C (m) 0 (by omega) hsm rfl rfl (by decide) inX8 fX8_7 rfl (D (59, .getfield 7, 3) (mg 17 rfl)) rfl ?_
      refine X_iload_n C 1 (D (62, .iload_n 1, 1) (mg 18 rfl)) rfl rfl ?_
      refine X_cS (As := [.ref (wA w (m + 1)), .int (nI (j))]) (st := []) C (post := _) (ct_X8_kindOf hw (⟨by omega, hs1, by omega, by omega⟩ : rw56 w (m + 1) 310) (by omega) h g) kX8_86 (by decide) (by decide) rfl rfl (Nat.le_of_ble_eq_true rfl) (D (63, .invokestatic 86, 3) (mg 19 rfl)) rfl (fun v8 H6 G7 hv8 => ?_)
      obtain ⟨rfl, rfl, rfl⟩ := hv8
      show X k w _ 66 [some (.ref (wA w (m))), some (.int (nI (j))), some (.int (x)), some (.int (if ¬ h (m + 1) (3 + (j)) = 0 then 1 else 0))] [.int (mK (h (m + 1) (3 + (j))))] h g
      refine X_goto (tgt := 70) C (D (66, .goto 4, 3) (mg 20 rfl)) (by decide) ?_
      exact X_iret C (D (70, .ireturn, 1) (mg 22 rfl)) ⟨congrArg (fun z => some (Value.int z)) ((tdO_1 (by assumption)).trans (if_pos (by assumption))), rfl, rfl⟩
  · refine X_swIn (tgt := 71) C (D (10, .tableswitch 104 0 4 #[34, 44, 61, 78, 95], 34) (mg 6 rfl)) (2) (by rw [q4]; decide) (by decide) (by decide) rfl (by decide) ?_
    refine X_iload_n C 3 (D (71, .iload_n 3, 1) (mg 23 rfl)) rfl rfl ?_
    refine X_if_eq (tgt := 86) C (D (72, .ifCond .eq 14, 3) (mg 24 rfl)) (by decide) (fun q9 => ?_) (fun q9 => ?_)
    · skip
      have q9 : ¬ (¬ h (m + 1) (3 + (j)) = 0) := bz0.mp q9
      refine X_iconst (v := (-1 : Int32)) C (D (86, .iconst (-1), 1) (mg 30 rfl)) (by decide) ?_
      exact X_iret C (D (87, .ireturn, 1) (mg 31 rfl)) ⟨congrArg (fun z => some (Value.int z)) ((tdO_2 (by assumption)).trans (if_neg (by assumption))), rfl, rfl⟩
    · skip
      have q9 : (¬ h (m + 1) (3 + (j)) = 0) := bz1.mp q9
      refine X_aload_n C 0 (D (75, .aload_n 0, 1) (mg 25 rfl)) rfl rfl ?_
      refine X_get (v := .ref (wA w (m + 1))) C (m) 0 (by omega) hsm rfl rfl (by decide) inX8 fX8_7 rfl (D (76, .getfield 7, 3) (mg 26 rfl)) rfl ?_
      refine X_iload_n C 1 (D (79, .iload_n 1, 1) (mg 27 rfl)) rfl rfl ?_
      refine X_cS (As := [.ref (wA w (m + 1)), .int (nI (j))]) (st := []) C (post := _) (ct_X8_depthOf hw (⟨by omega, hs1, by omega, by omega⟩ : rw56 w (m + 1) 310) (by omega) h g) kX8_90 (by decide) (by decide) rfl rfl (Nat.le_of_ble_eq_true rfl) (D (80, .invokestatic 90, 3) (mg 28 rfl)) rfl (fun v12 H10 G11 hv12 => ?_)
      obtain ⟨rfl, rfl, rfl⟩ := hv12
      show X k w _ 83 [some (.ref (wA w (m))), some (.int (nI (j))), some (.int (x)), some (.int (if ¬ h (m + 1) (3 + (j)) = 0 then 1 else 0))] [.int (mD (h (m + 1) (3 + (j))))] h g
      refine X_goto (tgt := 87) C (D (83, .goto 4, 3) (mg 29 rfl)) (by decide) ?_
      exact X_iret C (D (87, .ireturn, 1) (mg 31 rfl)) ⟨congrArg (fun z => some (Value.int z)) ((tdO_2 (by assumption)).trans (if_pos (by assumption))), rfl, rfl⟩
  · refine X_swIn (tgt := 88) C (D (10, .tableswitch 104 0 4 #[34, 44, 61, 78, 95], 34) (mg 6 rfl)) (3) (by rw [q4]; decide) (by decide) (by decide) rfl (by decide) ?_
    refine X_iload_n C 3 (D (88, .iload_n 3, 1) (mg 32 rfl)) rfl rfl ?_
    refine X_if_eq (tgt := 103) C (D (89, .ifCond .eq 14, 3) (mg 33 rfl)) (by decide) (fun q13 => ?_) (fun q13 => ?_)
    · skip
      have q13 : ¬ (¬ h (m + 1) (3 + (j)) = 0) := bz0.mp q13
      refine X_iconst (v := (-1 : Int32)) C (D (103, .iconst (-1), 1) (mg 39 rfl)) (by decide) ?_
      exact X_iret C (D (104, .ireturn, 1) (mg 40 rfl)) ⟨congrArg (fun z => some (Value.int z)) ((tdO_3 (by assumption)).trans (if_neg (by assumption))), rfl, rfl⟩
    · skip
      have q13 : (¬ h (m + 1) (3 + (j)) = 0) := bz1.mp q13
      refine X_aload_n C 0 (D (92, .aload_n 0, 1) (mg 34 rfl)) rfl rfl ?_
      refine X_get (v := .ref (wA w (m + 1))) C (m) 0 (by omega) hsm rfl rfl (by decide) inX8 fX8_7 rfl (D (93, .getfield 7, 3) (mg 35 rfl)) rfl ?_
      refine X_iload_n C 1 (D (96, .iload_n 1, 1) (mg 36 rfl)) rfl rfl ?_
      refine X_cS (As := [.ref (wA w (m + 1)), .int (nI (j))]) (st := []) C (post := _) (ct_X8_ageOf hw (⟨by omega, hs1, by omega, by omega⟩ : rw56 w (m + 1) 310) (by omega) h g) kX8_93 (by decide) (by decide) rfl rfl (Nat.le_of_ble_eq_true rfl) (D (97, .invokestatic 93, 3) (mg 37 rfl)) rfl (fun v16 H14 G15 hv16 => ?_)
      obtain ⟨rfl, rfl, rfl⟩ := hv16
      show X k w _ 100 [some (.ref (wA w (m))), some (.int (nI (j))), some (.int (x)), some (.int (if ¬ h (m + 1) (3 + (j)) = 0 then 1 else 0))] [.int (mA (h (m + 1) (3 + (j))))] h g
      refine X_goto (tgt := 104) C (D (100, .goto 4, 3) (mg 38 rfl)) (by decide) ?_
      exact X_iret C (D (104, .ireturn, 1) (mg 40 rfl)) ⟨congrArg (fun z => some (Value.int z)) ((tdO_3 (by assumption)).trans (if_pos (by assumption))), rfl, rfl⟩
  · refine X_swIn (tgt := 105) C (D (10, .tableswitch 104 0 4 #[34, 44, 61, 78, 95], 34) (mg 6 rfl)) (4) (by rw [q4]; decide) (by decide) (by decide) rfl (by decide) ?_
    refine X_aload_n C 0 (D (105, .aload_n 0, 1) (mg 41 rfl)) rfl rfl ?_
    refine X_get (v := .ref (wA w (m + 1))) C (m) 0 (by omega) hsm rfl rfl (by decide) inX8 fX8_7 rfl (D (106, .getfield 7, 3) (mg 42 rfl)) rfl ?_
    refine X_iload_n C 1 (D (109, .iload_n 1, 1) (mg 43 rfl)) rfl rfl ?_
    refine X_cS (As := [.ref (wA w (m + 1)), .int (nI (j))]) (st := []) C (post := _) (ct_X8_highOf hw (⟨by omega, hs1, by omega, by omega⟩ : rw56 w (m + 1) 310) (by omega) h g) kX8_107 (by decide) (by decide) rfl rfl (Nat.le_of_ble_eq_true rfl) (D (110, .invokestatic 107, 3) (mg 44 rfl)) rfl (fun v19 H17 G18 hv19 => ?_)
    obtain ⟨rfl, rfl, rfl⟩ := hv19
    show X k w _ 113 [some (.ref (wA w (m))), some (.int (nI (j))), some (.int (x)), some (.int (if ¬ h (m + 1) (3 + (j)) = 0 then 1 else 0))] [.int (hiV (h (m + 1) (3 + (j))))] h g
    exact X_iret C (D (113, .ireturn, 1) (mg 45 rfl)) ⟨congrArg (fun z => some (Value.int z)) (tdO_4 (by assumption)), rfl, rfl⟩
  · refine X_swOut (tgt := 114) C (D (10, .tableswitch 104 0 4 #[34, 44, 61, 78, 95], 34) (mg 6 rfl)) q4 (by decide) ?_
    refine X_iload_n C 3 (D (114, .iload_n 3, 1) (mg 46 rfl)) rfl rfl ?_
    refine X_if_eq (tgt := 137) C (D (115, .ifCond .eq 22, 3) (mg 47 rfl)) (by decide) (fun q20 => ?_) (fun q20 => ?_)
    · skip
      have q20 : ¬ (¬ h (m + 1) (3 + (j)) = 0) := bz0.mp q20
      refine X_iconst (v := (-1 : Int32)) C (D (137, .iconst (-1), 1) (mg 57 rfl)) (by decide) ?_
      exact X_iret C (D (138, .ireturn, 1) (mg 58 rfl)) ⟨congrArg (fun z => some (Value.int z)) ((tdO_o (by assumption)).trans (if_neg (by assumption))), rfl, rfl⟩
    · skip
      have q20 : (¬ h (m + 1) (3 + (j)) = 0) := bz1.mp q20
      refine X_aload_n C 0 (D (118, .aload_n 0, 1) (mg 48 rfl)) rfl rfl ?_
      refine X_get (v := .ref (wA w (m + 1))) C (m) 0 (by omega) hsm rfl rfl (by decide) inX8 fX8_7 rfl (D (119, .getfield 7, 3) (mg 49 rfl)) rfl ?_
      refine X_iload_n C 1 (D (122, .iload_n 1, 1) (mg 50 rfl)) rfl rfl ?_
      refine X_aload_n C 0 (D (123, .aload_n 0, 1) (mg 51 rfl)) rfl rfl ?_
      refine X_get (v := .ref (wA w (m + 1))) C (m) 0 (by omega) hsm rfl rfl (by decide) inX8 fX8_7 rfl (D (124, .getfield 7, 3) (mg 52 rfl)) rfl ?_
      refine X_iload_n C 1 (D (127, .iload_n 1, 1) (mg 53 rfl)) rfl rfl ?_
      refine X_cS (As := [.ref (wA w (m + 1)), .int (nI (j))]) (st := [.int (nI (j)), .ref (wA w (m + 1))]) C (post := _) (ct_X8_depthOf hw (⟨by omega, hs1, by omega, by omega⟩ : rw56 w (m + 1) 310) (by omega) h g) kX8_90 (by decide) (by decide) rfl rfl (Nat.le_of_ble_eq_true rfl) (D (128, .invokestatic 90, 3) (mg 54 rfl)) rfl (fun v23 H21 G22 hv23 => ?_)
      obtain ⟨rfl, rfl, rfl⟩ := hv23
      show X k w _ 131 [some (.ref (wA w (m))), some (.int (nI (j))), some (.int (x)), some (.int (if ¬ h (m + 1) (3 + (j)) = 0 then 1 else 0))] [.int (mD (h (m + 1) (3 + (j)))), .int (nI (j)), .ref (wA w (m + 1))] h g
      refine X_cS (As := [.ref (wA w (m + 1)), .int (nI (j)), .int (mD (h (m + 1) (3 + (j))))]) (st := []) C (post := _) (ct_X8_deeperOf hw (⟨by omega, hs1, by omega, by omega⟩ : rw56 w (m + 1) 310) (by omega) (mD (h (m + 1) (3 + (j)))) h g) kX8_103 (by decide) (by decide) rfl rfl (Nat.le_of_ble_eq_true rfl) (D (131, .invokestatic 103, 3) (mg 55 rfl)) rfl (fun v26 H24 G25 hv26 => ?_)
      obtain ⟨rfl, rfl, rfl⟩ := hv26
      show X k w _ 134 [some (.ref (wA w (m))), some (.int (nI (j))), some (.int (x)), some (.int (if ¬ h (m + 1) (3 + (j)) = 0 then 1 else 0))] [.int (deA (h (m + 1) 30) (h (m + 1) (31 + (j))) (mD (h (m + 1) (3 + (j)))))] h g
      refine X_goto (tgt := 138) C (D (134, .goto 4, 3) (mg 56 rfl)) (by decide) ?_
      exact X_iret C (D (138, .ireturn, 1) (mg 58 rfl)) ⟨congrArg (fun z => some (Value.int z)) ((tdO_o (by assumption)).trans (if_pos (by assumption))), rfl, rfl⟩
set_option maxHeartbeats 4000000 in
set_option maxRecDepth 100000 in
theorem ct_X8_of {l : Launch} {w : Kw} (hw : wOk w) {m : Nat} (hM : shM w m) (c x : Int32) (h : xI) (g : xJ)  : Ct l w yX8_of cX8_of 3 (some .int) 3 69 [.ref (wA w (m)), .int (c), .int (x)] h g (pif ((0 ≤ c.toInt ∧ c.toInt < 25) ∧ (0 ≤ x.toInt ∧ x.toInt ≤ 5)) (px (some (.int (tdO h (m + 1) c.toInt.toNat x))) h g) (px (some (.int (-2 : Int32))) (rfH h m 0) g)) := by
  refine Ct_of (ls := [some (.ref (wA w (m))), some (.int (c)), some (.int (x))]) (by decide) hw (Nat.le_of_ble_eq_true rfl) rfl (fun k hkl C => ?_)
  have C : Cx k w cX8_of RX8 3 (some .int) 3 69 := C
  have D := dtX8_of
  subst hkl
  have hM0 := hM
  obtain ⟨hm, hsm, hs1, hs2, hs3, hs4, hs5, hs6, hs7, hs8, hs9, hs10, hs11⟩ := hM
  have hM := hM0
  refine X_iload_n C 1 (D (0, .iload_n 1, 1) (mg 0 rfl)) rfl rfl ?_
  refine X_cS (As := [.int (c)]) (st := []) C (post := _) (ct_X8_isCell hw (c) h g) kX8_72 (by decide) (by decide) rfl rfl (Nat.le_of_ble_eq_true rfl) (D (1, .invokestatic 72, 3) (mg 1 rfl)) rfl (fun v3 H1 G2 hv3 => ?_)
  obtain ⟨rfl, rfl, rfl⟩ := hv3
  show X k w _ 4 [some (.ref (wA w (m))), some (.int (c)), some (.int (x))] [.int (if 0 ≤ (c).toInt ∧ (c).toInt < 25 then 1 else 0)] h g
  refine X_if_eq (tgt := 28) C (D (4, .ifCond .eq 24, 3) (mg 2 rfl)) (by decide) (fun q4 => ?_) (fun q4 => ?_)
  · skip
    have q4 : ¬ (0 ≤ (c).toInt ∧ (c).toInt < 25) := bz0.mp q4
    refine X_aload_n C 0 (D (28, .aload_n 0, 1) (mg 14 rfl)) rfl rfl ?_
    refine X_bipush (v := (-2 : Int32)) C (D (29, .bipush (-2), 2) (mg 15 rfl)) (by decide) ?_
    refine X_cV (As := [.int ((-2 : Int32))]) (st := []) C (post := _) (m) (by omega) hsm rfl (ct_X8_bad hw hM ((-2 : Int32)) h g) kX8_75 (by decide) (by decide) rfl rfl (Nat.le_of_ble_eq_true rfl) (D (31, .invokevirtual 75, 3) (mg 16 rfl)) rfl (fun v7 H5 G6 hv7 => ?_)
    obtain ⟨rfl, rfl, rfl⟩ := hv7
    show X k w _ 34 [some (.ref (wA w (m))), some (.int (c)), some (.int (x))] [.int ((-2 : Int32))] (rfH h m 0) g
    exact X_iret C (D (34, .ireturn, 1) (mg 17 rfl)) ⟨fun z => absurd z (by omega), fun _ => ⟨rfl, rfl, rfl⟩⟩
  · skip
    have q4 : (0 ≤ (c).toInt ∧ (c).toInt < 25) := bz1.mp q4
    obtain ⟨j, hj, rfl⟩ := nI_i (n := 25) q4.1 (by omega)
    refine X_iload_n C 2 (D (7, .iload_n 2, 1) (mg 3 rfl)) rfl rfl ?_
    refine X_i2l C (D (8, .i2l, 1) (mg 4 rfl)) ?_
    refine X_lconst (v := lN 0) C (D (9, .lconst 0, 1) (mg 5 rfl)) (by decide) ?_
    refine X_ldc2 C (D (10, .ldc2_w 58, 3) (mg 6 rfl)) vX8_58 ?_
    refine X_cS (As := [.long ((x).toInt64), .long (lN 0), .long ((5 : Int64))]) (st := []) C (post := _) (ct_X8_in hw ((x).toInt64) (lN 0) ((5 : Int64)) h g) kX8_54 (by decide) (by decide) rfl rfl (Nat.le_of_ble_eq_true rfl) (D (13, .invokestatic 54, 3) (mg 7 rfl)) rfl (fun v10 H8 G9 hv10 => ?_)
    obtain ⟨rfl, rfl, rfl⟩ := hv10
    show X k w _ 16 [some (.ref (wA w (m))), some (.int (nI (j))), some (.int (x))] [.int (if (lN 0).toInt ≤ ((x).toInt64).toInt ∧ ((x).toInt64).toInt ≤ ((5 : Int64)).toInt then 1 else 0)] h g
    refine X_if_eq (tgt := 28) C (D (16, .ifCond .eq 12, 3) (mg 8 rfl)) (by decide) (fun q11 => ?_) (fun q11 => ?_)
    · skip
      have q11 : ¬ ((lN 0).toInt ≤ ((x).toInt64).toInt ∧ ((x).toInt64).toInt ≤ ((5 : Int64)).toInt) := bz0.mp q11
      simp only [i6, show (lN 0).toInt = 0 from by decide, show (5 : Int64).toInt = 5 from by decide] at q11
      refine X_aload_n C 0 (D (28, .aload_n 0, 1) (mg 14 rfl)) rfl rfl ?_
      refine X_bipush (v := (-2 : Int32)) C (D (29, .bipush (-2), 2) (mg 15 rfl)) (by decide) ?_
      refine X_cV (As := [.int ((-2 : Int32))]) (st := []) C (post := _) (m) (by omega) hsm rfl (ct_X8_bad hw hM ((-2 : Int32)) h g) kX8_75 (by decide) (by decide) rfl rfl (Nat.le_of_ble_eq_true rfl) (D (31, .invokevirtual 75, 3) (mg 16 rfl)) rfl (fun v14 H12 G13 hv14 => ?_)
      obtain ⟨rfl, rfl, rfl⟩ := hv14
      show X k w _ 34 [some (.ref (wA w (m))), some (.int (nI (j))), some (.int (x))] [.int ((-2 : Int32))] (rfH h m 0) g
      exact X_iret C (D (34, .ireturn, 1) (mg 17 rfl)) ⟨fun z => absurd z (by omega), fun _ => ⟨rfl, rfl, rfl⟩⟩
    · skip
      have q11 : ((lN 0).toInt ≤ ((x).toInt64).toInt ∧ ((x).toInt64).toInt ≤ ((5 : Int64)).toInt) := bz1.mp q11
      simp only [i6, show (lN 0).toInt = 0 from by decide, show (5 : Int64).toInt = 5 from by decide] at q11
      refine X_aload_n C 0 (D (19, .aload_n 0, 1) (mg 9 rfl)) rfl rfl ?_
      refine X_iload_n C 1 (D (20, .iload_n 1, 1) (mg 10 rfl)) rfl rfl ?_
      refine X_iload_n C 2 (D (21, .iload_n 2, 1) (mg 11 rfl)) rfl rfl ?_
      refine X_cV (As := [.int (nI (j)), .int (x)]) (st := []) C (post := _) (m) (by omega) hsm rfl (ct_X8_toldOf hw hM (by omega) (x) h g) kX8_146 (by decide) (by decide) rfl rfl (Nat.le_of_ble_eq_true rfl) (D (22, .invokevirtual 146, 3) (mg 12 rfl)) rfl (fun v17 H15 G16 hv17 => ?_)
      obtain ⟨rfl, rfl, rfl⟩ := hv17
      show X k w _ 25 [some (.ref (wA w (m))), some (.int (nI (j))), some (.int (x))] [.int (tdO h (m + 1) (j) (x))] h g
      refine X_goto (tgt := 34) C (D (25, .goto 9, 3) (mg 13 rfl)) (by decide) ?_
      exact X_iret C (D (34, .ireturn, 1) (mg 17 rfl)) ⟨fun _ => ⟨by rw [nI_toInt (n := j) (by omega), Int.toNat_natCast], rfl, rfl⟩, fun z => absurd (by omega) z⟩
def ctO (h : xI) (m : Nat) (i : Nat) : Int32 := if i = 0 then nI (cn (fun c => ¬ h (m + 1) (3 + c) = 0) 25) else if i = 1 then nI (cn (fun c => ¬ hiV (h (m + 1) (3 + c)) < nI 1) 25) else if i = 2 then nI (cn (fun c => ¬ hiV (h (m + 1) (3 + c)) < nI 8) 25) else if i = 3 then h (m + 1) 29 else if i = 4 then h (m + 1) 28 else if i = 5 then h (m + 1) 30 else if i = 9 then h m 11 else h (m + 1) (0 + i - 6)
theorem nI_lit {i k : Nat} (hi : i < 10) (hk : k < 10) (e : nI i = nI k) : i = k := (nI_eq (by omega) (by omega)).mp e
theorem sw_0_9 (x : Int32) : x = 0 ∨ x = 1 ∨ x = 2 ∨ x = 3 ∨ x = 4 ∨ x = 5 ∨ x = 6 ∨ x = 7 ∨ x = 8 ∨ x = 9 ∨ (x.toInt < 0 ∨ 9 < x.toInt) := by
  have e : ∀ y : Int32, x = y ↔ x.toInt = y.toInt := fun y => Int32.toInt_inj.symm
  simp only [e, show (0 : Int32).toInt = 0 from by decide, show (1 : Int32).toInt = 1 from by decide, show (2 : Int32).toInt = 2 from by decide, show (3 : Int32).toInt = 3 from by decide, show (4 : Int32).toInt = 4 from by decide, show (5 : Int32).toInt = 5 from by decide, show (6 : Int32).toInt = 6 from by decide, show (7 : Int32).toInt = 7 from by decide, show (8 : Int32).toInt = 8 from by decide, show (9 : Int32).toInt = 9 from by decide]
  omega
set_option maxHeartbeats 4000000 in
set_option maxRecDepth 100000 in
theorem ct_X8_counted {l : Launch} {w : Kw} (hw : wOk w) {m : Nat} (hM : shM w m) {i : Nat} (hi : i < 10) (h : xI) (g : xJ)  : Ct l w yX8_counted cX8_counted 2 (some .int) 3 69 [.ref (wA w (m)), .int (nI (i))] h g (px (some (.int (ctO h m i))) h g) := by
  refine Ct_of (ls := [some (.ref (wA w (m))), some (.int (nI (i)))]) (by decide) hw (Nat.le_of_ble_eq_true rfl) rfl (fun k hkl C => ?_)
  have C : Cx k w cX8_counted RX8 2 (some .int) 3 69 := C
  have D := dtX8_counted
  subst hkl
  have hM0 := hM
  obtain ⟨hm, hsm, hs1, hs2, hs3, hs4, hs5, hs6, hs7, hs8, hs9, hs10, hs11⟩ := hM
  have hM := hM0
  refine X_iload_n C 1 (D (0, .iload_n 1, 1) (mg 0 rfl)) rfl rfl ?_
  rcases sw_0_9 (nI (i)) with q1 | q1 | q1 | q1 | q1 | q1 | q1 | q1 | q1 | q1 | q1
  · refine X_swIn (tgt := 56) C (D (1, .tableswitch 111 0 9 #[55, 63, 72, 82, 90, 98, 111, 111, 111, 106], 55) (mg 1 rfl)) (0) (by rw [q1]; decide) (by decide) (by decide) rfl (by decide) ?_
    have q1 : i = 0 := (nI_eq (a := i) (b := 0) (by omega) (by omega)).mp q1
    refine X_aload_n C 0 (D (56, .aload_n 0, 1) (mg 2 rfl)) rfl rfl ?_
    refine X_get (v := .ref (wA w (m + 1))) C (m) 0 (by omega) hsm rfl rfl (by decide) inX8 fX8_7 rfl (D (57, .getfield 7, 3) (mg 3 rfl)) rfl ?_
    refine X_cS (As := [.ref (wA w (m + 1))]) (st := []) C (post := _) (ct_X8_manyLie hw (⟨by omega, hs1, by omega, by omega⟩ : rw56 w (m + 1) 310) h g) kX8_79 (by decide) (by decide) rfl rfl (Nat.le_of_ble_eq_true rfl) (D (60, .invokestatic 79, 3) (mg 4 rfl)) rfl (fun v4 H2 G3 hv4 => ?_)
    obtain ⟨rfl, rfl, rfl⟩ := hv4
    show X k w _ 63 [some (.ref (wA w (m))), some (.int (nI (i)))] [.int (nI (cn (fun c => ¬ h (m + 1) (3 + c) = 0) 25))] h g
    exact X_iret C (D (63, .ireturn, 1) (mg 5 rfl)) ⟨by rw [show i = 0 by omega]; rfl, rfl, rfl⟩
  · refine X_swIn (tgt := 64) C (D (1, .tableswitch 111 0 9 #[55, 63, 72, 82, 90, 98, 111, 111, 111, 106], 55) (mg 1 rfl)) (1) (by rw [q1]; decide) (by decide) (by decide) rfl (by decide) ?_
    have q1 : i = 1 := (nI_eq (a := i) (b := 1) (by omega) (by omega)).mp q1
    refine X_aload_n C 0 (D (64, .aload_n 0, 1) (mg 6 rfl)) rfl rfl ?_
    refine X_get (v := .ref (wA w (m + 1))) C (m) 0 (by omega) hsm rfl rfl (by decide) inX8 fX8_7 rfl (D (65, .getfield 7, 3) (mg 7 rfl)) rfl ?_
    refine X_iconst (v := nI (1)) C (D (68, .iconst 1, 1) (mg 8 rfl)) (by decide) ?_
    refine X_cS (As := [.ref (wA w (m + 1)), .int (nI (1))]) (st := []) C (post := _) (ct_X8_manyAtLeast hw (⟨by omega, hs1, by omega, by omega⟩ : rw56 w (m + 1) 310) (nI (1)) h g) kX8_143 (by decide) (by decide) rfl rfl (Nat.le_of_ble_eq_true rfl) (D (69, .invokestatic 143, 3) (mg 9 rfl)) rfl (fun v7 H5 G6 hv7 => ?_)
    obtain ⟨rfl, rfl, rfl⟩ := hv7
    show X k w _ 72 [some (.ref (wA w (m))), some (.int (nI (i)))] [.int (nI (cn (fun c => ¬ hiV (h (m + 1) (3 + c)) < nI (1)) 25))] h g
    exact X_iret C (D (72, .ireturn, 1) (mg 10 rfl)) ⟨by rw [show i = 1 by omega]; rfl, rfl, rfl⟩
  · refine X_swIn (tgt := 73) C (D (1, .tableswitch 111 0 9 #[55, 63, 72, 82, 90, 98, 111, 111, 111, 106], 55) (mg 1 rfl)) (2) (by rw [q1]; decide) (by decide) (by decide) rfl (by decide) ?_
    have q1 : i = 2 := (nI_eq (a := i) (b := 2) (by omega) (by omega)).mp q1
    refine X_aload_n C 0 (D (73, .aload_n 0, 1) (mg 11 rfl)) rfl rfl ?_
    refine X_get (v := .ref (wA w (m + 1))) C (m) 0 (by omega) hsm rfl rfl (by decide) inX8 fX8_7 rfl (D (74, .getfield 7, 3) (mg 12 rfl)) rfl ?_
    refine X_bipush (v := nI (8)) C (D (77, .bipush 8, 2) (mg 13 rfl)) (by decide) ?_
    refine X_cS (As := [.ref (wA w (m + 1)), .int (nI (8))]) (st := []) C (post := _) (ct_X8_manyAtLeast hw (⟨by omega, hs1, by omega, by omega⟩ : rw56 w (m + 1) 310) (nI (8)) h g) kX8_143 (by decide) (by decide) rfl rfl (Nat.le_of_ble_eq_true rfl) (D (79, .invokestatic 143, 3) (mg 14 rfl)) rfl (fun v10 H8 G9 hv10 => ?_)
    obtain ⟨rfl, rfl, rfl⟩ := hv10
    show X k w _ 82 [some (.ref (wA w (m))), some (.int (nI (i)))] [.int (nI (cn (fun c => ¬ hiV (h (m + 1) (3 + c)) < nI (8)) 25))] h g
    exact X_iret C (D (82, .ireturn, 1) (mg 15 rfl)) ⟨by rw [show i = 2 by omega]; rfl, rfl, rfl⟩
  · refine X_swIn (tgt := 83) C (D (1, .tableswitch 111 0 9 #[55, 63, 72, 82, 90, 98, 111, 111, 111, 106], 55) (mg 1 rfl)) (3) (by rw [q1]; decide) (by decide) (by decide) rfl (by decide) ?_
    have q1 : i = 3 := (nI_eq (a := i) (b := 3) (by omega) (by omega)).mp q1
    refine X_aload_n C 0 (D (83, .aload_n 0, 1) (mg 16 rfl)) rfl rfl ?_
    refine X_get (v := .ref (wA w (m + 1))) C (m) 0 (by omega) hsm rfl rfl (by decide) inX8 fX8_7 rfl (D (84, .getfield 7, 3) (mg 17 rfl)) rfl ?_
    refine X_bipush (v := nI (29)) C (D (87, .bipush 29, 2) (mg 18 rfl)) (by decide) ?_
    refine X_iald (v := h (m + 1) (29)) C (m + 1) (by omega) hs1 (vp_in_nI (by omega) (by omega)) (D (89, .iaload, 1) (mg 19 rfl)) (by rw [nI_clamp (by omega)]) ?_
    exact X_iret C (D (90, .ireturn, 1) (mg 20 rfl)) ⟨by rw [show i = 3 by omega]; rfl, rfl, rfl⟩
  · refine X_swIn (tgt := 91) C (D (1, .tableswitch 111 0 9 #[55, 63, 72, 82, 90, 98, 111, 111, 111, 106], 55) (mg 1 rfl)) (4) (by rw [q1]; decide) (by decide) (by decide) rfl (by decide) ?_
    have q1 : i = 4 := (nI_eq (a := i) (b := 4) (by omega) (by omega)).mp q1
    refine X_aload_n C 0 (D (91, .aload_n 0, 1) (mg 21 rfl)) rfl rfl ?_
    refine X_get (v := .ref (wA w (m + 1))) C (m) 0 (by omega) hsm rfl rfl (by decide) inX8 fX8_7 rfl (D (92, .getfield 7, 3) (mg 22 rfl)) rfl ?_
    refine X_bipush (v := nI (28)) C (D (95, .bipush 28, 2) (mg 23 rfl)) (by decide) ?_
    refine X_iald (v := h (m + 1) (28)) C (m + 1) (by omega) hs1 (vp_in_nI (by omega) (by omega)) (D (97, .iaload, 1) (mg 24 rfl)) (by rw [nI_clamp (by omega)]) ?_
    exact X_iret C (D (98, .ireturn, 1) (mg 25 rfl)) ⟨by rw [show i = 4 by omega]; rfl, rfl, rfl⟩
  · refine X_swIn (tgt := 99) C (D (1, .tableswitch 111 0 9 #[55, 63, 72, 82, 90, 98, 111, 111, 111, 106], 55) (mg 1 rfl)) (5) (by rw [q1]; decide) (by decide) (by decide) rfl (by decide) ?_
    have q1 : i = 5 := (nI_eq (a := i) (b := 5) (by omega) (by omega)).mp q1
    refine X_aload_n C 0 (D (99, .aload_n 0, 1) (mg 26 rfl)) rfl rfl ?_
    refine X_get (v := .ref (wA w (m + 1))) C (m) 0 (by omega) hsm rfl rfl (by decide) inX8 fX8_7 rfl (D (100, .getfield 7, 3) (mg 27 rfl)) rfl ?_
    refine X_bipush (v := nI (30)) C (D (103, .bipush 30, 2) (mg 28 rfl)) (by decide) ?_
    refine X_iald (v := h (m + 1) (30)) C (m + 1) (by omega) hs1 (vp_in_nI (by omega) (by omega)) (D (105, .iaload, 1) (mg 29 rfl)) (by rw [nI_clamp (by omega)]) ?_
    exact X_iret C (D (106, .ireturn, 1) (mg 30 rfl)) ⟨by rw [show i = 5 by omega]; rfl, rfl, rfl⟩
  · refine X_swIn (tgt := 112) C (D (1, .tableswitch 111 0 9 #[55, 63, 72, 82, 90, 98, 111, 111, 111, 106], 55) (mg 1 rfl)) (6) (by rw [q1]; decide) (by decide) (by decide) rfl (by decide) ?_
    have q1 : i = 6 := (nI_eq (a := i) (b := 6) (by omega) (by omega)).mp q1
    refine X_aload_n C 0 (D (112, .aload_n 0, 1) (mg 34 rfl)) rfl rfl ?_
    refine X_get (v := .ref (wA w (m + 1))) C (m) 0 (by omega) hsm rfl rfl (by decide) inX8 fX8_7 rfl (D (113, .getfield 7, 3) (mg 35 rfl)) rfl ?_
    refine X_iconst (v := nI (0)) C (D (116, .iconst 0, 1) (mg 36 rfl)) (by decide) ?_
    refine X_iload_n C 1 (D (117, .iload_n 1, 1) (mg 37 rfl)) rfl rfl ?_
    refine X_iadd C (D (118, .iadd, 1) (mg 38 rfl)) ?_
    refine X_ti (y := nI (0 + i)) (nI_add (0) (i)) ?_
    refine X_bipush (v := nI (6)) C (D (119, .bipush 6, 2) (mg 39 rfl)) (by decide) ?_
    refine X_isub C (D (121, .isub, 1) (mg 40 rfl)) ?_
    refine X_ti (y := nI (0 + i - 6)) (pk_sub (by omega)) ?_
    refine X_iald (v := h (m + 1) (0 + i - 6)) C (m + 1) (by omega) hs1 (vp_in_nI (by omega) (by omega)) (D (122, .iaload, 1) (mg 41 rfl)) (by rw [nI_clamp (by omega)]) ?_
    exact X_iret C (D (123, .ireturn, 1) (mg 42 rfl)) ⟨by rw [show ctO h m i = h (m + 1) (0 + i - 6) from by (unfold ctO; rw [if_neg (by omega), if_neg (by omega), if_neg (by omega), if_neg (by omega), if_neg (by omega), if_neg (by omega), if_neg (by omega)])], rfl, rfl⟩
  · refine X_swIn (tgt := 112) C (D (1, .tableswitch 111 0 9 #[55, 63, 72, 82, 90, 98, 111, 111, 111, 106], 55) (mg 1 rfl)) (7) (by rw [q1]; decide) (by decide) (by decide) rfl (by decide) ?_
    have q1 : i = 7 := (nI_eq (a := i) (b := 7) (by omega) (by omega)).mp q1
    refine X_aload_n C 0 (D (112, .aload_n 0, 1) (mg 34 rfl)) rfl rfl ?_
    refine X_get (v := .ref (wA w (m + 1))) C (m) 0 (by omega) hsm rfl rfl (by decide) inX8 fX8_7 rfl (D (113, .getfield 7, 3) (mg 35 rfl)) rfl ?_
    refine X_iconst (v := nI (0)) C (D (116, .iconst 0, 1) (mg 36 rfl)) (by decide) ?_
    refine X_iload_n C 1 (D (117, .iload_n 1, 1) (mg 37 rfl)) rfl rfl ?_
    refine X_iadd C (D (118, .iadd, 1) (mg 38 rfl)) ?_
    refine X_ti (y := nI (0 + i)) (nI_add (0) (i)) ?_
    refine X_bipush (v := nI (6)) C (D (119, .bipush 6, 2) (mg 39 rfl)) (by decide) ?_
    refine X_isub C (D (121, .isub, 1) (mg 40 rfl)) ?_
    refine X_ti (y := nI (0 + i - 6)) (pk_sub (by omega)) ?_
    refine X_iald (v := h (m + 1) (0 + i - 6)) C (m + 1) (by omega) hs1 (vp_in_nI (by omega) (by omega)) (D (122, .iaload, 1) (mg 41 rfl)) (by rw [nI_clamp (by omega)]) ?_
    exact X_iret C (D (123, .ireturn, 1) (mg 42 rfl)) ⟨by rw [show ctO h m i = h (m + 1) (0 + i - 6) from by (unfold ctO; rw [if_neg (by omega), if_neg (by omega), if_neg (by omega), if_neg (by omega), if_neg (by omega), if_neg (by omega), if_neg (by omega)])], rfl, rfl⟩
  · refine X_swIn (tgt := 112) C (D (1, .tableswitch 111 0 9 #[55, 63, 72, 82, 90, 98, 111, 111, 111, 106], 55) (mg 1 rfl)) (8) (by rw [q1]; decide) (by decide) (by decide) rfl (by decide) ?_
    have q1 : i = 8 := (nI_eq (a := i) (b := 8) (by omega) (by omega)).mp q1
    refine X_aload_n C 0 (D (112, .aload_n 0, 1) (mg 34 rfl)) rfl rfl ?_
    refine X_get (v := .ref (wA w (m + 1))) C (m) 0 (by omega) hsm rfl rfl (by decide) inX8 fX8_7 rfl (D (113, .getfield 7, 3) (mg 35 rfl)) rfl ?_
    refine X_iconst (v := nI (0)) C (D (116, .iconst 0, 1) (mg 36 rfl)) (by decide) ?_
    refine X_iload_n C 1 (D (117, .iload_n 1, 1) (mg 37 rfl)) rfl rfl ?_
    refine X_iadd C (D (118, .iadd, 1) (mg 38 rfl)) ?_
    refine X_ti (y := nI (0 + i)) (nI_add (0) (i)) ?_
    refine X_bipush (v := nI (6)) C (D (119, .bipush 6, 2) (mg 39 rfl)) (by decide) ?_
    refine X_isub C (D (121, .isub, 1) (mg 40 rfl)) ?_
    refine X_ti (y := nI (0 + i - 6)) (pk_sub (by omega)) ?_
    refine X_iald (v := h (m + 1) (0 + i - 6)) C (m + 1) (by omega) hs1 (vp_in_nI (by omega) (by omega)) (D (122, .iaload, 1) (mg 41 rfl)) (by rw [nI_clamp (by omega)]) ?_
    exact X_iret C (D (123, .ireturn, 1) (mg 42 rfl)) ⟨by rw [show ctO h m i = h (m + 1) (0 + i - 6) from by (unfold ctO; rw [if_neg (by omega), if_neg (by omega), if_neg (by omega), if_neg (by omega), if_neg (by omega), if_neg (by omega), if_neg (by omega)])], rfl, rfl⟩
  · refine X_swIn (tgt := 107) C (D (1, .tableswitch 111 0 9 #[55, 63, 72, 82, 90, 98, 111, 111, 111, 106], 55) (mg 1 rfl)) (9) (by rw [q1]; decide) (by decide) (by decide) rfl (by decide) ?_
    have q1 : i = 9 := (nI_eq (a := i) (b := 9) (by omega) (by omega)).mp q1
    refine X_aload_n C 0 (D (107, .aload_n 0, 1) (mg 31 rfl)) rfl rfl ?_
    refine X_get (v := .int (h (m) 11)) C (m) 11 (by omega) hsm rfl rfl (by decide) inX8 fX8_238 rfl (D (108, .getfield 238, 3) (mg 32 rfl)) rfl ?_
    exact X_iret C (D (111, .ireturn, 1) (mg 33 rfl)) ⟨by rw [show i = 9 by omega]; rfl, rfl, rfl⟩
  · refine X_swOut (tgt := 112) C (D (1, .tableswitch 111 0 9 #[55, 63, 72, 82, 90, 98, 111, 111, 111, 106], 55) (mg 1 rfl)) q1 (by decide) ?_
    rw [nI_toInt (n := i) (by omega)] at q1
    exact absurd hi (by omega)
set_option maxHeartbeats 4000000 in
set_option maxRecDepth 100000 in
theorem ct_X8_count {l : Launch} {w : Kw} (hw : wOk w) {m : Nat} (hM : shM w m) (x : Int32) (h : xI) (g : xJ)  : Ct l w yX8_count cX8_count 2 (some .int) 4 90 [.ref (wA w (m)), .int (x)] h g (pif (0 ≤ x.toInt ∧ x.toInt ≤ 9) (px (some (.int (ctO h m x.toInt.toNat))) h g) (px (some (.int (-2 : Int32))) (rfH h m 0) g)) := by
  refine Ct_of (ls := [some (.ref (wA w (m))), some (.int (x))]) (by decide) hw (Nat.le_of_ble_eq_true rfl) rfl (fun k hkl C => ?_)
  have C : Cx k w cX8_count RX8 2 (some .int) 4 90 := C
  have D := dtX8_count
  subst hkl
  have hM0 := hM
  obtain ⟨hm, hsm, hs1, hs2, hs3, hs4, hs5, hs6, hs7, hs8, hs9, hs10, hs11⟩ := hM
  have hM := hM0
  refine X_iload_n C 1 (D (0, .iload_n 1, 1) (mg 0 rfl)) rfl rfl ?_
  refine X_i2l C (D (1, .i2l, 1) (mg 1 rfl)) ?_
  refine X_lconst (v := lN 0) C (D (2, .lconst 0, 1) (mg 2 rfl)) (by decide) ?_
  refine X_ldc2 C (D (3, .ldc2_w 62, 3) (mg 3 rfl)) vX8_62 ?_
  refine X_cS (As := [.long ((x).toInt64), .long (lN 0), .long ((9 : Int64))]) (st := []) C (post := _) (ct_X8_in hw ((x).toInt64) (lN 0) ((9 : Int64)) h g) kX8_54 (by decide) (by decide) rfl rfl (Nat.le_of_ble_eq_true rfl) (D (6, .invokestatic 54, 3) (mg 4 rfl)) rfl (fun v3 H1 G2 hv3 => ?_)
  obtain ⟨rfl, rfl, rfl⟩ := hv3
  show X k w _ 9 [some (.ref (wA w (m))), some (.int (x))] [.int (if (lN 0).toInt ≤ ((x).toInt64).toInt ∧ ((x).toInt64).toInt ≤ ((9 : Int64)).toInt then 1 else 0)] h g
  refine X_if_eq (tgt := 20) C (D (9, .ifCond .eq 11, 3) (mg 5 rfl)) (by decide) (fun q4 => ?_) (fun q4 => ?_)
  · skip
    have q4 : ¬ ((lN 0).toInt ≤ ((x).toInt64).toInt ∧ ((x).toInt64).toInt ≤ ((9 : Int64)).toInt) := bz0.mp q4
    simp only [i6, show (lN 0).toInt = 0 from by decide, show (9 : Int64).toInt = 9 from by decide] at q4
    refine X_aload_n C 0 (D (20, .aload_n 0, 1) (mg 10 rfl)) rfl rfl ?_
    refine X_bipush (v := (-2 : Int32)) C (D (21, .bipush (-2), 2) (mg 11 rfl)) (by decide) ?_
    refine X_cV (As := [.int ((-2 : Int32))]) (st := []) C (post := _) (m) (by omega) hsm rfl (ct_X8_bad hw hM ((-2 : Int32)) h g) kX8_75 (by decide) (by decide) rfl rfl (Nat.le_of_ble_eq_true rfl) (D (23, .invokevirtual 75, 3) (mg 12 rfl)) rfl (fun v7 H5 G6 hv7 => ?_)
    obtain ⟨rfl, rfl, rfl⟩ := hv7
    show X k w _ 26 [some (.ref (wA w (m))), some (.int (x))] [.int ((-2 : Int32))] (rfH h m 0) g
    exact X_iret C (D (26, .ireturn, 1) (mg 13 rfl)) ⟨fun z => absurd z (by omega), fun _ => ⟨rfl, rfl, rfl⟩⟩
  · skip
    have q4 : ((lN 0).toInt ≤ ((x).toInt64).toInt ∧ ((x).toInt64).toInt ≤ ((9 : Int64)).toInt) := bz1.mp q4
    simp only [i6, show (lN 0).toInt = 0 from by decide, show (9 : Int64).toInt = 9 from by decide] at q4
    obtain ⟨i, hi, rfl⟩ := nI_i (n := 10) q4.1 (by omega)
    refine X_aload_n C 0 (D (12, .aload_n 0, 1) (mg 6 rfl)) rfl rfl ?_
    refine X_iload_n C 1 (D (13, .iload_n 1, 1) (mg 7 rfl)) rfl rfl ?_
    refine X_cV (As := [.int (nI (i))]) (st := []) C (post := _) (m) (by omega) hsm rfl (ct_X8_counted hw hM (by omega) h g) kX8_299 (by decide) (by decide) rfl rfl (Nat.le_of_ble_eq_true rfl) (D (14, .invokevirtual 299, 3) (mg 8 rfl)) rfl (fun v10 H8 G9 hv10 => ?_)
    obtain ⟨rfl, rfl, rfl⟩ := hv10
    show X k w _ 17 [some (.ref (wA w (m))), some (.int (nI (i)))] [.int (ctO h m (i))] h g
    refine X_goto (tgt := 26) C (D (17, .goto 9, 3) (mg 9 rfl)) (by decide) ?_
    exact X_iret C (D (26, .ireturn, 1) (mg 13 rfl)) ⟨fun _ => ⟨by rw [nI_toInt (n := i) (by omega), Int.toNat_natCast], rfl, rfl⟩, fun z => absurd (by omega) z⟩
