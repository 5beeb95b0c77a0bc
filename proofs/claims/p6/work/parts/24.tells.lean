/-! THE CLASS, 7: nave, harrow, stony, type, clear, seen, mark, forget, image, from: exact -/
/-- some int comes, the ints become hh -/
def pX (hh : xI) : Option Value → xI → xJ → Prop := fun v h' _ => (∃ y : Int32, v = some (.int y)) ∧ hh = h'
set_option maxHeartbeats 4000000 in
set_option maxRecDepth 100000 in
theorem ct_X7_harrow {l : Launch} {w : Kw} (hw : wOk w) {x : Nat} (hC : shC w x) (a1 : Int32) (h : xI) (g : xJ)  : Ct l w yX7_harrow cX7_harrow 3 (some .int) 1 21 [.ref (wA w (x)), .int (a1)] h g (pif (0 ≤ a1.toInt ∧ a1.toInt < 6) (px (some (.int (h (x + 2) 2))) (u2 (u2 h (x + 2) 2 a1) (x + 5) 1 (nI 0)) g) (px (some (.int (-2 : Int32))) (rcH h x 9) g)) := by
  refine Ct_of (ls := [some (.ref (wA w (x))), some (.int (a1)), none]) (by decide) hw (Nat.le_of_ble_eq_true rfl) rfl (fun k hkl C => ?_)
  have C : Cx k w cX7_harrow RX7 3 (some .int) 1 21 := C
  have D := dtX7_harrow
  subst hkl
  have hC0 := hC
  obtain ⟨hxn, hsx, hT, hsi, hTa, hTb, hsk, hNs, hY, hX, hsv⟩ := hC
  have hY2 := hY.1
  have hX2 := hX.1
  refine X_iload_n C 1 (D (0, .iload_n 1, 1) (mg 0 rfl)) rfl rfl ?_
  refine X_bipush (v := nI (6)) C (D (1, .bipush 6, 2) (mg 1 rfl)) (by decide) ?_
  refine X_cS (As := [.int (a1), .int (nI (6))]) (st := []) C (post := _) (ct_X7_isBelow hw (a1) (B := 6) (by decide) h g) kX7_53 (by decide) (by decide) rfl rfl (Nat.le_of_ble_eq_true rfl) (D (3, .invokestatic 53, 3) (mg 2 rfl)) rfl (fun v3 H1 G2 hv3 => ?_)
  obtain ⟨rfl, rfl, rfl⟩ := hv3
  show X k w _ 6 [some (.ref (wA w (x))), some (.int (a1)), none] [.int (if 0 ≤ (a1).toInt ∧ (a1).toInt < ((6 : Nat) : Int) then 1 else 0)] h g
  refine X_if_ne (tgt := 14) C (D (6, .ifCond .ne 8, 3) (mg 3 rfl)) (by decide) (fun q4 => ?_) (fun q4 => ?_)
  · skip
    have q4 : (0 ≤ (a1).toInt ∧ (a1).toInt < ((6 : Nat) : Int)) := bz1.mp q4
    refine X_aload_n C 0 (D (14, .aload_n 0, 1) (mg 7 rfl)) rfl rfl ?_
    refine X_get (v := .ref (wA w (x + 1))) C (x) 0 (by omega) hsx rfl rfl (by decide) inX7 fX7_10 rfl (D (15, .getfield 10, 3) (mg 8 rfl)) rfl ?_
    refine X_get (v := .ref (wA w (x + 2))) C (x + 1) 0 (by omega) hT.2.1 rfl rfl (by decide) inX4 fX7_61 rfl (D (18, .getfield 61, 3) (mg 9 rfl)) rfl ?_
    refine X_get (v := .int (h (x + 2) 2)) C (x + 2) 2 (by omega) hT.2.2.1.2.1 rfl rfl (by decide) inX1 fX7_74 rfl (D (21, .getfield 74, 3) (mg 10 rfl)) rfl ?_
    refine X_istore_n (ls' := [some (.ref (wA w (x))), some (.int (a1)), some (.int (h (x + 2) 2))]) C 2 (D (24, .istore_n 2, 1) (mg 11 rfl)) rfl (Nat.le_of_ble_eq_true rfl) rfl ?_
    refine X_aload_n C 0 (D (25, .aload_n 0, 1) (mg 12 rfl)) rfl rfl ?_
    refine X_get (v := .ref (wA w (x + 1))) C (x) 0 (by omega) hsx rfl rfl (by decide) inX7 fX7_10 rfl (D (26, .getfield 10, 3) (mg 13 rfl)) rfl ?_
    refine X_get (v := .ref (wA w (x + 2))) C (x + 1) 0 (by omega) hT.2.1 rfl rfl (by decide) inX4 fX7_61 rfl (D (29, .getfield 61, 3) (mg 14 rfl)) rfl ?_
    refine X_iload_n C 1 (D (32, .iload_n 1, 1) (mg 15 rfl)) rfl rfl ?_
    refine X_putI C (x + 2) 2 tyX1 tyX1_ok nmX1 (by omega) hT.2.2.1.2.1 rfl rfl (by decide) inX1 fX7_74 rfl rfl (by decide +kernel) (D (33, .putfield 74, 3) (mg 16 rfl)) ?_
    refine X_aload_n C 0 (D (36, .aload_n 0, 1) (mg 17 rfl)) rfl rfl ?_
    refine X_get (v := .ref (wA w (x + 1))) C (x) 0 (by omega) hsx rfl rfl (by decide) inX7 fX7_10 rfl (D (37, .getfield 10, 3) (mg 18 rfl)) rfl ?_
    refine X_get (v := .ref (wA w (x + 5))) C (x + 1) 1 (by omega) hT.2.1 rfl rfl (by decide) inX4 fX7_78 rfl (D (40, .getfield 78, 3) (mg 19 rfl)) rfl ?_
    refine X_iconst (v := nI (0)) C (D (43, .iconst 0, 1) (mg 20 rfl)) (by decide) ?_
    refine X_putI C (x + 5) 1 tyX2 tyX2_ok nmX2 (by omega) hT.2.2.2.1.2.1 rfl rfl (by decide) inX2 fX7_82 rfl rfl (by decide +kernel) (D (44, .putfield 82, 3) (mg 21 rfl)) ?_
    refine X_iload_n C 2 (D (47, .iload_n 2, 1) (mg 22 rfl)) rfl rfl ?_
    exact X_iret C (D (48, .ireturn, 1) (mg 23 rfl)) ⟨fun _ => ⟨rfl, rfl, rfl⟩, fun z => absurd (by omega) z⟩
  · skip
    have q4 : ¬ (0 ≤ (a1).toInt ∧ (a1).toInt < ((6 : Nat) : Int)) := bz0.mp q4
    refine X_aload_n C 0 (D (9, .aload_n 0, 1) (mg 4 rfl)) rfl rfl ?_
    refine X_cV (As := []) (st := []) C (post := _) (x) (by omega) hsx rfl (ct_X7_refuseBad hw hC0 h g) kX7_57 (by decide) (by decide) rfl rfl (Nat.le_of_ble_eq_true rfl) (D (10, .invokevirtual 57, 3) (mg 5 rfl)) rfl (fun v7 H5 G6 hv7 => ?_)
    obtain ⟨rfl, rfl, rfl⟩ := hv7
    show X k w _ 13 [some (.ref (wA w (x))), some (.int (a1)), none] [.int ((-2 : Int32))] (rcH h (x) 9) g
    exact X_iret C (D (13, .ireturn, 1) (mg 6 rfl)) ⟨fun z => absurd z (by omega), fun _ => ⟨rfl, rfl, rfl⟩⟩
set_option maxHeartbeats 4000000 in
set_option maxRecDepth 100000 in
theorem ct_X7_stony {l : Launch} {w : Kw} (hw : wOk w) {x : Nat} (hC : shC w x) (a1 a2 : Int32) (h : xI) (g : xJ)  : Ct l w yX7_stony cX7_stony 4 (some .int) 1 21 [.ref (wA w (x)), .int (a1), .int (a2)] h g (pif ((0 ≤ a1.toInt ∧ a1.toInt < 25) ∧ (0 ≤ a2.toInt ∧ a2.toInt < 5)) (px (some (.int (h (x + 3) a1.toInt.toNat))) (u2 (u2 h (x + 3) a1.toInt.toNat a2) (x + 5) 1 (nI 0)) g) (px (some (.int (-2 : Int32))) (rcH h x 9) g)) := by
  refine Ct_of (ls := [some (.ref (wA w (x))), some (.int (a1)), some (.int (a2)), none]) (by decide) hw (Nat.le_of_ble_eq_true rfl) rfl (fun k hkl C => ?_)
  have C : Cx k w cX7_stony RX7 4 (some .int) 1 21 := C
  have D := dtX7_stony
  subst hkl
  have hC0 := hC
  obtain ⟨hxn, hsx, hT, hsi, hTa, hTb, hsk, hNs, hY, hX, hsv⟩ := hC
  have hY2 := hY.1
  have hX2 := hX.1
  refine X_iload_n C 1 (D (0, .iload_n 1, 1) (mg 0 rfl)) rfl rfl ?_
  refine X_bipush (v := nI (25)) C (D (1, .bipush 25, 2) (mg 1 rfl)) (by decide) ?_
  refine X_cS (As := [.int (a1), .int (nI (25))]) (st := []) C (post := _) (ct_X7_isBelow hw (a1) (B := 25) (by decide) h g) kX7_53 (by decide) (by decide) rfl rfl (Nat.le_of_ble_eq_true rfl) (D (3, .invokestatic 53, 3) (mg 2 rfl)) rfl (fun v3 H1 G2 hv3 => ?_)
  obtain ⟨rfl, rfl, rfl⟩ := hv3
  show X k w _ 6 [some (.ref (wA w (x))), some (.int (a1)), some (.int (a2)), none] [.int (if 0 ≤ (a1).toInt ∧ (a1).toInt < ((25 : Nat) : Int) then 1 else 0)] h g
  refine X_if_eq (tgt := 17) C (D (6, .ifCond .eq 11, 3) (mg 3 rfl)) (by decide) (fun q4 => ?_) (fun q4 => ?_)
  · skip
    have q4 : ¬ (0 ≤ (a1).toInt ∧ (a1).toInt < ((25 : Nat) : Int)) := bz0.mp q4
    refine X_aload_n C 0 (D (17, .aload_n 0, 1) (mg 8 rfl)) rfl rfl ?_
    refine X_cV (As := []) (st := []) C (post := _) (x) (by omega) hsx rfl (ct_X7_refuseBad hw hC0 h g) kX7_57 (by decide) (by decide) rfl rfl (Nat.le_of_ble_eq_true rfl) (D (18, .invokevirtual 57, 3) (mg 9 rfl)) rfl (fun v7 H5 G6 hv7 => ?_)
    obtain ⟨rfl, rfl, rfl⟩ := hv7
    show X k w _ 21 [some (.ref (wA w (x))), some (.int (a1)), some (.int (a2)), none] [.int ((-2 : Int32))] (rcH h (x) 9) g
    exact X_iret C (D (21, .ireturn, 1) (mg 10 rfl)) ⟨fun z => absurd z (by omega), fun _ => ⟨rfl, rfl, rfl⟩⟩
  · skip
    have q4 : (0 ≤ (a1).toInt ∧ (a1).toInt < ((25 : Nat) : Int)) := bz1.mp q4
    obtain ⟨n8, hn8, rfl⟩ := nI_i (x := a1) (n := 25) q4.1 (by omega)
    refine X_iload_n C 2 (D (9, .iload_n 2, 1) (mg 4 rfl)) rfl rfl ?_
    refine X_iconst (v := nI (5)) C (D (10, .iconst 5, 1) (mg 5 rfl)) (by decide) ?_
    refine X_cS (As := [.int (a2), .int (nI (5))]) (st := []) C (post := _) (ct_X7_isBelow hw (a2) (B := 5) (by decide) h g) kX7_53 (by decide) (by decide) rfl rfl (Nat.le_of_ble_eq_true rfl) (D (11, .invokestatic 53, 3) (mg 6 rfl)) rfl (fun v11 H9 G10 hv11 => ?_)
    obtain ⟨rfl, rfl, rfl⟩ := hv11
    show X k w _ 14 [some (.ref (wA w (x))), some (.int (nI (n8))), some (.int (a2)), none] [.int (if 0 ≤ (a2).toInt ∧ (a2).toInt < ((5 : Nat) : Int) then 1 else 0)] h g
    refine X_if_ne (tgt := 22) C (D (14, .ifCond .ne 8, 3) (mg 7 rfl)) (by decide) (fun q12 => ?_) (fun q12 => ?_)
    · skip
      have q12 : (0 ≤ (a2).toInt ∧ (a2).toInt < ((5 : Nat) : Int)) := bz1.mp q12
      refine X_aload_n C 0 (D (22, .aload_n 0, 1) (mg 11 rfl)) rfl rfl ?_
      refine X_get (v := .ref (wA w (x + 1))) C (x) 0 (by omega) hsx rfl rfl (by decide) inX7 fX7_10 rfl (D (23, .getfield 10, 3) (mg 12 rfl)) rfl ?_
      refine X_get (v := .ref (wA w (x + 2))) C (x + 1) 0 (by omega) hT.2.1 rfl rfl (by decide) inX4 fX7_61 rfl (D (26, .getfield 61, 3) (mg 13 rfl)) rfl ?_
      refine X_get (v := .ref (wA w (x + 3))) C (x + 2) 0 (by omega) hT.2.2.1.2.1 rfl rfl (by decide) inX1 fX7_87 rfl (D (29, .getfield 87, 3) (mg 14 rfl)) rfl ?_
      refine X_iload_n C 1 (D (32, .iload_n 1, 1) (mg 15 rfl)) rfl rfl ?_
      refine X_iald (v := h (x + 3) (n8)) C (x + 3) (by omega) hT.2.2.1.2.2.1 (vp_in_nI (by omega) (by omega)) (D (33, .iaload, 1) (mg 16 rfl)) (by rw [nI_clamp (by omega)]) ?_
      refine X_istore_n (ls' := [some (.ref (wA w (x))), some (.int (nI (n8))), some (.int (a2)), some (.int (h (x + 3) (n8)))]) C 3 (D (34, .istore_n 3, 1) (mg 17 rfl)) rfl (Nat.le_of_ble_eq_true rfl) rfl ?_
      refine X_aload_n C 0 (D (35, .aload_n 0, 1) (mg 18 rfl)) rfl rfl ?_
      refine X_get (v := .ref (wA w (x + 1))) C (x) 0 (by omega) hsx rfl rfl (by decide) inX7 fX7_10 rfl (D (36, .getfield 10, 3) (mg 19 rfl)) rfl ?_
      refine X_get (v := .ref (wA w (x + 2))) C (x + 1) 0 (by omega) hT.2.1 rfl rfl (by decide) inX4 fX7_61 rfl (D (39, .getfield 61, 3) (mg 20 rfl)) rfl ?_
      refine X_get (v := .ref (wA w (x + 3))) C (x + 2) 0 (by omega) hT.2.2.1.2.1 rfl rfl (by decide) inX1 fX7_87 rfl (D (42, .getfield 87, 3) (mg 21 rfl)) rfl ?_
      refine X_iload_n C 1 (D (45, .iload_n 1, 1) (mg 22 rfl)) rfl rfl ?_
      refine X_iload_n C 2 (D (46, .iload_n 2, 1) (mg 23 rfl)) rfl rfl ?_
      refine X_iast (j := n8) C (x + 3) (by omega) hT.2.2.1.2.2.1 (vp_in_nI (by omega) (by omega)) (D (47, .iastore, 1) (mg 24 rfl)) (nI_clamp (by omega)) ?_
      refine X_aload_n C 0 (D (48, .aload_n 0, 1) (mg 25 rfl)) rfl rfl ?_
      refine X_get (v := .ref (wA w (x + 1))) C (x) 0 (by omega) hsx rfl rfl (by decide) inX7 fX7_10 rfl (D (49, .getfield 10, 3) (mg 26 rfl)) rfl ?_
      refine X_get (v := .ref (wA w (x + 5))) C (x + 1) 1 (by omega) hT.2.1 rfl rfl (by decide) inX4 fX7_78 rfl (D (52, .getfield 78, 3) (mg 27 rfl)) rfl ?_
      refine X_iconst (v := nI (0)) C (D (55, .iconst 0, 1) (mg 28 rfl)) (by decide) ?_
      refine X_putI C (x + 5) 1 tyX2 tyX2_ok nmX2 (by omega) hT.2.2.2.1.2.1 rfl rfl (by decide) inX2 fX7_82 rfl rfl (by decide +kernel) (D (56, .putfield 82, 3) (mg 29 rfl)) ?_
      refine X_iload_n C 3 (D (59, .iload_n 3, 1) (mg 30 rfl)) rfl rfl ?_
      exact X_iret C (D (60, .ireturn, 1) (mg 31 rfl)) ⟨fun _ => ⟨by rw [nI_toInt (n := n8) (by omega), Int.toNat_natCast], by rw [nI_toInt (n := n8) (by omega), Int.toNat_natCast], rfl⟩, fun z => absurd (by omega) z⟩
    · skip
      have q12 : ¬ (0 ≤ (a2).toInt ∧ (a2).toInt < ((5 : Nat) : Int)) := bz0.mp q12
      refine X_aload_n C 0 (D (17, .aload_n 0, 1) (mg 8 rfl)) rfl rfl ?_
      refine X_cV (As := []) (st := []) C (post := _) (x) (by omega) hsx rfl (ct_X7_refuseBad hw hC0 h g) kX7_57 (by decide) (by decide) rfl rfl (Nat.le_of_ble_eq_true rfl) (D (18, .invokevirtual 57, 3) (mg 9 rfl)) rfl (fun v15 H13 G14 hv15 => ?_)
      obtain ⟨rfl, rfl, rfl⟩ := hv15
      show X k w _ 21 [some (.ref (wA w (x))), some (.int (nI (n8))), some (.int (a2)), none] [.int ((-2 : Int32))] (rcH h (x) 9) g
      exact X_iret C (D (21, .ireturn, 1) (mg 10 rfl)) ⟨fun z => absurd z (by omega), fun _ => ⟨rfl, rfl, rfl⟩⟩
set_option maxHeartbeats 4000000 in
set_option maxRecDepth 100000 in
theorem ct_X7_nave {l : Launch} {w : Kw} (hw : wOk w) {x : Nat} (hC : shC w x) (a1 a2 : Int32) (h : xI) (g : xJ)  : Ct l w yX7_nave cX7_nave 4 (some .int) 2 45 [.ref (wA w (x)), .int (a1), .int (a2)] h g (pif ((0 ≤ a1.toInt ∧ a1.toInt < 6) ∧ (0 ≤ a2.toInt ∧ a2.toInt < 25)) (pX (dnH (cbH h (x + 2) a1 a2) (x + 1))) (px (some (.int (-2 : Int32))) (rcH h x 9) g)) := by
  refine Ct_of (ls := [some (.ref (wA w (x))), some (.int (a1)), some (.int (a2)), none]) (by decide) hw (Nat.le_of_ble_eq_true rfl) rfl (fun k hkl C => ?_)
  have C : Cx k w cX7_nave RX7 4 (some .int) 2 45 := C
  have D := dtX7_nave
  subst hkl
  have hC0 := hC
  obtain ⟨hxn, hsx, hT, hsi, hTa, hTb, hsk, hNs, hY, hX, hsv⟩ := hC
  have hY2 := hY.1
  have hX2 := hX.1
  refine X_iload_n C 1 (D (0, .iload_n 1, 1) (mg 0 rfl)) rfl rfl ?_
  refine X_bipush (v := nI (6)) C (D (1, .bipush 6, 2) (mg 1 rfl)) (by decide) ?_
  refine X_cS (As := [.int (a1), .int (nI (6))]) (st := []) C (post := _) (ct_X7_isBelow hw (a1) (B := 6) (by decide) h g) kX7_53 (by decide) (by decide) rfl rfl (Nat.le_of_ble_eq_true rfl) (D (3, .invokestatic 53, 3) (mg 2 rfl)) rfl (fun v3 H1 G2 hv3 => ?_)
  obtain ⟨rfl, rfl, rfl⟩ := hv3
  show X k w _ 6 [some (.ref (wA w (x))), some (.int (a1)), some (.int (a2)), none] [.int (if 0 ≤ (a1).toInt ∧ (a1).toInt < ((6 : Nat) : Int) then 1 else 0)] h g
  refine X_if_eq (tgt := 18) C (D (6, .ifCond .eq 12, 3) (mg 3 rfl)) (by decide) (fun q4 => ?_) (fun q4 => ?_)
  · skip
    have q4 : ¬ (0 ≤ (a1).toInt ∧ (a1).toInt < ((6 : Nat) : Int)) := bz0.mp q4
    refine X_aload_n C 0 (D (18, .aload_n 0, 1) (mg 8 rfl)) rfl rfl ?_
    refine X_cV (As := []) (st := []) C (post := _) (x) (by omega) hsx rfl (ct_X7_refuseBad hw hC0 h g) kX7_57 (by decide) (by decide) rfl rfl (Nat.le_of_ble_eq_true rfl) (D (19, .invokevirtual 57, 3) (mg 9 rfl)) rfl (fun v7 H5 G6 hv7 => ?_)
    obtain ⟨rfl, rfl, rfl⟩ := hv7
    show X k w _ 22 [some (.ref (wA w (x))), some (.int (a1)), some (.int (a2)), none] [.int ((-2 : Int32))] (rcH h (x) 9) g
    exact X_iret C (D (22, .ireturn, 1) (mg 10 rfl)) ⟨fun z => absurd z (by omega), fun _ => ⟨rfl, rfl, rfl⟩⟩
  · skip
    have q4 : (0 ≤ (a1).toInt ∧ (a1).toInt < ((6 : Nat) : Int)) := bz1.mp q4
    refine X_iload_n C 2 (D (9, .iload_n 2, 1) (mg 4 rfl)) rfl rfl ?_
    refine X_bipush (v := nI (25)) C (D (10, .bipush 25, 2) (mg 5 rfl)) (by decide) ?_
    refine X_cS (As := [.int (a2), .int (nI (25))]) (st := []) C (post := _) (ct_X7_isBelow hw (a2) (B := 25) (by decide) h g) kX7_53 (by decide) (by decide) rfl rfl (Nat.le_of_ble_eq_true rfl) (D (12, .invokestatic 53, 3) (mg 6 rfl)) rfl (fun v10 H8 G9 hv10 => ?_)
    obtain ⟨rfl, rfl, rfl⟩ := hv10
    show X k w _ 15 [some (.ref (wA w (x))), some (.int (a1)), some (.int (a2)), none] [.int (if 0 ≤ (a2).toInt ∧ (a2).toInt < ((25 : Nat) : Int) then 1 else 0)] h g
    refine X_if_ne (tgt := 23) C (D (15, .ifCond .ne 8, 3) (mg 7 rfl)) (by decide) (fun q11 => ?_) (fun q11 => ?_)
    · skip
      have q11 : (0 ≤ (a2).toInt ∧ (a2).toInt < ((25 : Nat) : Int)) := bz1.mp q11
      refine X_aload_n C 0 (D (23, .aload_n 0, 1) (mg 11 rfl)) rfl rfl ?_
      refine X_get (v := .ref (wA w (x + 1))) C (x) 0 (by omega) hsx rfl rfl (by decide) inX7 fX7_10 rfl (D (24, .getfield 10, 3) (mg 12 rfl)) rfl ?_
      refine X_get (v := .ref (wA w (x + 2))) C (x + 1) 0 (by omega) hT.2.1 rfl rfl (by decide) inX4 fX7_61 rfl (D (27, .getfield 61, 3) (mg 13 rfl)) rfl ?_
      refine X_cV (As := []) (st := []) C (post := _) (x + 2) (by omega) hT.2.2.1.2.1 rfl (ct_X1_filled hw (n := x + 2) hT.2.2.1  h g) kX7_64 (by decide) (by decide) rfl rfl (Nat.le_of_ble_eq_true rfl) (D (30, .invokevirtual 64, 3) (mg 14 rfl)) rfl (fun v14 H12 G13 hv14 => ?_)
      obtain ⟨⟨y15, rfl⟩, rfl, rfl⟩ := hv14
      show X k w _ 33 [some (.ref (wA w (x))), some (.int (a1)), some (.int (a2)), none] [.int (y15)] h g
      refine X_istore_n (ls' := [some (.ref (wA w (x))), some (.int (a1)), some (.int (a2)), some (.int (y15))]) C 3 (D (33, .istore_n 3, 1) (mg 15 rfl)) rfl (Nat.le_of_ble_eq_true rfl) rfl ?_
      refine X_aload_n C 0 (D (34, .aload_n 0, 1) (mg 16 rfl)) rfl rfl ?_
      refine X_get (v := .ref (wA w (x + 1))) C (x) 0 (by omega) hsx rfl rfl (by decide) inX7 fX7_10 rfl (D (35, .getfield 10, 3) (mg 17 rfl)) rfl ?_
      refine X_get (v := .ref (wA w (x + 2))) C (x + 1) 0 (by omega) hT.2.1 rfl rfl (by decide) inX4 fX7_61 rfl (D (38, .getfield 61, 3) (mg 18 rfl)) rfl ?_
      refine X_iload_n C 1 (D (41, .iload_n 1, 1) (mg 19 rfl)) rfl rfl ?_
      refine X_iload_n C 2 (D (42, .iload_n 2, 1) (mg 20 rfl)) rfl rfl ?_
      refine X_cV (As := [.int (a1), .int (a2)]) (st := []) C (post := _) (x + 2) (by omega) hT.2.2.1.2.1 rfl (ct_X1_begin hw (n := x + 2) hT.2.2.1 (a1) (a2) h g) kX7_67 (by decide) (by decide) rfl rfl (Nat.le_of_ble_eq_true rfl) (D (43, .invokevirtual 67, 3) (mg 21 rfl)) rfl (fun v18 H16 G17 hv18 => ?_)
      obtain ⟨rfl, rfl, rfl⟩ := hv18
      show X k w _ 46 [some (.ref (wA w (x))), some (.int (a1)), some (.int (a2)), some (.int (y15))] [] (cbH h (x + 2) (a1) (a2)) g
      refine X_aload_n C 0 (D (46, .aload_n 0, 1) (mg 22 rfl)) rfl rfl ?_
      refine X_get (v := .ref (wA w (x + 1))) C (x) 0 (by omega) hsx rfl rfl (by decide) inX7 fX7_10 rfl (D (47, .getfield 10, 3) (mg 23 rfl)) rfl ?_
      refine X_cV (As := []) (st := []) C (post := _) (x + 1) (by omega) hT.2.1 rfl (ct_X4_dropNotes hw (t := x + 1) hT  (cbH h (x + 2) (a1) (a2)) g) kX7_71 (by decide) (by decide) rfl rfl (Nat.le_of_ble_eq_true rfl) (D (50, .invokevirtual 71, 3) (mg 24 rfl)) rfl (fun v21 H19 G20 hv21 => ?_)
      obtain ⟨rfl, rfl, rfl⟩ := hv21
      show X k w _ 53 [some (.ref (wA w (x))), some (.int (a1)), some (.int (a2)), some (.int (y15))] [] (dnH (cbH h (x + 2) (a1) (a2)) (x + 1)) g
      refine X_iload_n C 3 (D (53, .iload_n 3, 1) (mg 25 rfl)) rfl rfl ?_
      exact X_iret C (D (54, .ireturn, 1) (mg 26 rfl)) ⟨fun _ => ⟨⟨_, rfl⟩, rfl⟩, fun z => absurd (by omega) z⟩
    · skip
      have q11 : ¬ (0 ≤ (a2).toInt ∧ (a2).toInt < ((25 : Nat) : Int)) := bz0.mp q11
      refine X_aload_n C 0 (D (18, .aload_n 0, 1) (mg 8 rfl)) rfl rfl ?_
      refine X_cV (As := []) (st := []) C (post := _) (x) (by omega) hsx rfl (ct_X7_refuseBad hw hC0 h g) kX7_57 (by decide) (by decide) rfl rfl (Nat.le_of_ble_eq_true rfl) (D (19, .invokevirtual 57, 3) (mg 9 rfl)) rfl (fun v24 H22 G23 hv24 => ?_)
      obtain ⟨rfl, rfl, rfl⟩ := hv24
      show X k w _ 22 [some (.ref (wA w (x))), some (.int (a1)), some (.int (a2)), none] [.int ((-2 : Int32))] (rcH h (x) 9) g
      exact X_iret C (D (22, .ireturn, 1) (mg 10 rfl)) ⟨fun z => absurd z (by omega), fun _ => ⟨rfl, rfl, rfl⟩⟩
set_option maxHeartbeats 4000000 in
set_option maxRecDepth 100000 in
theorem ct_X7_type {l : Launch} {w : Kw} (hw : wOk w) {x : Nat} (hC : shC w x) (a1 : Int32) {nt : Nat} (hnt : nt ≤ 150) (h : xI) (g : xJ) (htx : h (x + 33) 2 = nI nt) : Ct l w yX7_type cX7_type 2 (some .int) 1 21 [.ref (wA w (x)), .int (a1)] h g (pif (0 ≤ a1.toInt ∧ a1.toInt < 128) (pif (nt = 150) (px (some (.int (-4 : Int32))) (rcH h x 11) g) (px (some (.int (nI (nt + 1)))) (u2 (u2 h (x + 34) nt a1) (x + 33) 2 (nI (nt + 1))) g)) (px (some (.int (-2 : Int32))) (rcH h x 9) g)) := by
  refine Ct_of (ls := [some (.ref (wA w (x))), some (.int (a1))]) (by decide) hw (Nat.le_of_ble_eq_true rfl) rfl (fun k hkl C => ?_)
  have C : Cx k w cX7_type RX7 2 (some .int) 1 21 := C
  have D := dtX7_type
  subst hkl
  have hC0 := hC
  obtain ⟨hxn, hsx, hT, hsi, hTa, hTb, hsk, hNs, hY, hX, hsv⟩ := hC
  have hY2 := hY.1
  have hX2 := hX.1
  refine X_iload_n C 1 (D (0, .iload_n 1, 1) (mg 0 rfl)) rfl rfl ?_
  refine X_sipush (v := nI (128)) C (D (1, .sipush 128, 3) (mg 1 rfl)) (by decide) ?_
  refine X_cS (As := [.int (a1), .int (nI (128))]) (st := []) C (post := _) (ct_X7_isBelow hw (a1) (B := 128) (by decide) h g) kX7_53 (by decide) (by decide) rfl rfl (Nat.le_of_ble_eq_true rfl) (D (4, .invokestatic 53, 3) (mg 2 rfl)) rfl (fun v3 H1 G2 hv3 => ?_)
  obtain ⟨rfl, rfl, rfl⟩ := hv3
  show X k w _ 7 [some (.ref (wA w (x))), some (.int (a1))] [.int (if 0 ≤ (a1).toInt ∧ (a1).toInt < ((128 : Nat) : Int) then 1 else 0)] h g
  refine X_if_ne (tgt := 15) C (D (7, .ifCond .ne 8, 3) (mg 3 rfl)) (by decide) (fun q4 => ?_) (fun q4 => ?_)
  · skip
    have q4 : (0 ≤ (a1).toInt ∧ (a1).toInt < ((128 : Nat) : Int)) := bz1.mp q4
    refine X_aload_n C 0 (D (15, .aload_n 0, 1) (mg 7 rfl)) rfl rfl ?_
    refine X_get (v := .ref (wA w (x + 33))) C (x) 5 (by omega) hsx rfl rfl (by decide) inX7 fX7_41 rfl (D (16, .getfield 41, 3) (mg 8 rfl)) rfl ?_
    refine X_get (v := .int (h (x + 33) 2)) C (x + 33) 2 (by omega) hX.2.1 rfl rfl (by decide) inX5 fX7_90 rfl (D (19, .getfield 90, 3) (mg 9 rfl)) rfl ?_
    refine X_ti (y := nI (nt)) (htx) ?_
    refine X_sipush (v := nI (150)) C (D (22, .sipush 150, 3) (mg 10 rfl)) (by decide) ?_
    refine X_icmp_lt (tgt := 33) C (D (25, .if_icmp .lt 8, 3) (mg 11 rfl)) (by decide) (fun q5 => ?_) (fun q5 => ?_)
    · skip
      have q5 : (nt) < (150) := by have z := (nI_ltI (a := (nt)) (b := (150)) (by omega) (by omega)).mp q5; omega
      refine X_aload_n C 0 (D (33, .aload_n 0, 1) (mg 15 rfl)) rfl rfl ?_
      refine X_get (v := .ref (wA w (x + 33))) C (x) 5 (by omega) hsx rfl rfl (by decide) inX7 fX7_41 rfl (D (34, .getfield 41, 3) (mg 16 rfl)) rfl ?_
      refine X_get (v := .ref (wA w (x + 34))) C (x + 33) 0 (by omega) hX.2.1 rfl rfl (by decide) inX5 fX7_94 rfl (D (37, .getfield 94, 3) (mg 17 rfl)) rfl ?_
      refine X_aload_n C 0 (D (40, .aload_n 0, 1) (mg 18 rfl)) rfl rfl ?_
      refine X_get (v := .ref (wA w (x + 33))) C (x) 5 (by omega) hsx rfl rfl (by decide) inX7 fX7_41 rfl (D (41, .getfield 41, 3) (mg 19 rfl)) rfl ?_
      refine X_get (v := .int (h (x + 33) 2)) C (x + 33) 2 (by omega) hX.2.1 rfl rfl (by decide) inX5 fX7_90 rfl (D (44, .getfield 90, 3) (mg 20 rfl)) rfl ?_
      refine X_ti (y := nI (nt)) (htx) ?_
      refine X_iload_n C 1 (D (47, .iload_n 1, 1) (mg 21 rfl)) rfl rfl ?_
      refine X_iast (j := nt) C (x + 34) (by omega) hX.2.2.1 (vp_in_nI (by omega) (by omega)) (D (48, .iastore, 1) (mg 22 rfl)) (nI_clamp (by omega)) ?_
      refine X_aload_n C 0 (D (49, .aload_n 0, 1) (mg 23 rfl)) rfl rfl ?_
      refine X_get (v := .ref (wA w (x + 33))) C (x) 5 (by omega) hsx rfl rfl (by decide) inX7 fX7_41 rfl (D (50, .getfield 41, 3) (mg 24 rfl)) rfl ?_
      refine X_dup C (D (53, .dup, 1) (mg 25 rfl)) rfl ?_
      refine X_get (v := .int ((u2 h (x + 34) (nt) (a1)) (x + 33) 2)) C (x + 33) 2 (by omega) hX.2.1 rfl rfl (by decide) inX5 fX7_90 rfl (D (54, .getfield 90, 3) (mg 26 rfl)) rfl ?_
      refine X_ti (y := nI (nt)) (((u2_p _ _ _ _ (by omega))).trans htx) ?_
      refine X_iconst (v := nI (1)) C (D (57, .iconst 1, 1) (mg 27 rfl)) (by decide) ?_
      refine X_iadd C (D (58, .iadd, 1) (mg 28 rfl)) ?_
      refine X_ti (y := nI (nt + 1)) (nI_add (nt) (1)) ?_
      refine X_putI C (x + 33) 2 tyX5 tyX5_ok nmX5 (by omega) hX.2.1 rfl rfl (by decide) inX5 fX7_90 rfl rfl (by decide +kernel) (D (59, .putfield 90, 3) (mg 29 rfl)) ?_
      refine X_aload_n C 0 (D (62, .aload_n 0, 1) (mg 30 rfl)) rfl rfl ?_
      refine X_get (v := .ref (wA w (x + 33))) C (x) 5 (by omega) hsx rfl rfl (by decide) inX7 fX7_41 rfl (D (63, .getfield 41, 3) (mg 31 rfl)) rfl ?_
      refine X_get (v := .int ((u2 (u2 h (x + 34) (nt) (a1)) (x + 33) 2 (nI (nt + 1))) (x + 33) 2)) C (x + 33) 2 (by omega) hX.2.1 rfl rfl (by decide) inX5 fX7_90 rfl (D (66, .getfield 90, 3) (mg 32 rfl)) rfl ?_
      refine X_ti (y := nI (nt + 1)) ((u2_s _ _ _ _)) ?_
      exact X_iret C (D (69, .ireturn, 1) (mg 33 rfl)) ⟨fun _ => ⟨fun z => absurd z (by omega), fun _ => ⟨rfl, rfl, rfl⟩⟩, fun z => absurd (by omega) z⟩
    · skip
      have q5 : (nt) ≥ (150) := by have z : ¬ ((nt) < (150)) := fun u => q5 ((nI_ltI (a := (nt)) (b := (150)) (by omega) (by omega)).mpr u); omega
      refine X_aload_n C 0 (D (28, .aload_n 0, 1) (mg 12 rfl)) rfl rfl ?_
      refine X_cV (As := []) (st := []) C (post := _) (x) (by omega) hsx rfl (ct_X7_refuseFull hw hC0 h g) kX7_91 (by decide) (by decide) rfl rfl (Nat.le_of_ble_eq_true rfl) (D (29, .invokevirtual 91, 3) (mg 13 rfl)) rfl (fun v8 H6 G7 hv8 => ?_)
      obtain ⟨rfl, rfl, rfl⟩ := hv8
      show X k w _ 32 [some (.ref (wA w (x))), some (.int (a1))] [.int ((-4 : Int32))] (rcH h (x) 11) g
      exact X_iret C (D (32, .ireturn, 1) (mg 14 rfl)) ⟨fun _ => ⟨fun _ => ⟨rfl, rfl, rfl⟩, fun z => absurd (by omega) z⟩, fun z => absurd (by omega) z⟩
  · skip
    have q4 : ¬ (0 ≤ (a1).toInt ∧ (a1).toInt < ((128 : Nat) : Int)) := bz0.mp q4
    refine X_aload_n C 0 (D (10, .aload_n 0, 1) (mg 4 rfl)) rfl rfl ?_
    refine X_cV (As := []) (st := []) C (post := _) (x) (by omega) hsx rfl (ct_X7_refuseBad hw hC0 h g) kX7_57 (by decide) (by decide) rfl rfl (Nat.le_of_ble_eq_true rfl) (D (11, .invokevirtual 57, 3) (mg 5 rfl)) rfl (fun v11 H9 G10 hv11 => ?_)
    obtain ⟨rfl, rfl, rfl⟩ := hv11
    show X k w _ 14 [some (.ref (wA w (x))), some (.int (a1))] [.int ((-2 : Int32))] (rcH h (x) 9) g
    exact X_iret C (D (14, .ireturn, 1) (mg 6 rfl)) ⟨fun z => absurd z (by omega), fun _ => ⟨rfl, rfl, rfl⟩⟩
set_option maxHeartbeats 4000000 in
set_option maxRecDepth 100000 in
theorem ct_X7_clear {l : Launch} {w : Kw} (hw : wOk w) {x : Nat} (hC : shC w x) (h : xI) (g : xJ)  : Ct l w yX7_clear cX7_clear 2 (some .int) 0 0 [.ref (wA w (x))] h g (px (some (.int (h (x + 33) 2))) (u2 h (x + 33) 2 (nI 0)) g) := by
  refine Ct_of (ls := [some (.ref (wA w (x))), none]) (by decide) hw (Nat.le_of_ble_eq_true rfl) rfl (fun k hkl C => ?_)
  have C : Cx k w cX7_clear RX7 2 (some .int) 0 0 := C
  have D := dtX7_clear
  subst hkl
  have hC0 := hC
  obtain ⟨hxn, hsx, hT, hsi, hTa, hTb, hsk, hNs, hY, hX, hsv⟩ := hC
  have hY2 := hY.1
  have hX2 := hX.1
  refine X_aload_n C 0 (D (0, .aload_n 0, 1) (mg 0 rfl)) rfl rfl ?_
  refine X_get (v := .ref (wA w (x + 33))) C (x) 5 (by omega) hsx rfl rfl (by decide) inX7 fX7_41 rfl (D (1, .getfield 41, 3) (mg 1 rfl)) rfl ?_
  refine X_get (v := .int (h (x + 33) 2)) C (x + 33) 2 (by omega) hX.2.1 rfl rfl (by decide) inX5 fX7_90 rfl (D (4, .getfield 90, 3) (mg 2 rfl)) rfl ?_
  refine X_istore_n (ls' := [some (.ref (wA w (x))), some (.int (h (x + 33) 2))]) C 1 (D (7, .istore_n 1, 1) (mg 3 rfl)) rfl (Nat.le_of_ble_eq_true rfl) rfl ?_
  refine X_aload_n C 0 (D (8, .aload_n 0, 1) (mg 4 rfl)) rfl rfl ?_
  refine X_get (v := .ref (wA w (x + 33))) C (x) 5 (by omega) hsx rfl rfl (by decide) inX7 fX7_41 rfl (D (9, .getfield 41, 3) (mg 5 rfl)) rfl ?_
  refine X_iconst (v := nI (0)) C (D (12, .iconst 0, 1) (mg 6 rfl)) (by decide) ?_
  refine X_putI C (x + 33) 2 tyX5 tyX5_ok nmX5 (by omega) hX.2.1 rfl rfl (by decide) inX5 fX7_90 rfl rfl (by decide +kernel) (D (13, .putfield 90, 3) (mg 7 rfl)) ?_
  refine X_iload_n C 1 (D (16, .iload_n 1, 1) (mg 8 rfl)) rfl rfl ?_
  exact X_iret C (D (17, .ireturn, 1) (mg 9 rfl)) ⟨rfl, rfl, rfl⟩
set_option maxHeartbeats 4000000 in
set_option maxRecDepth 100000 in
theorem ct_X7_seen {l : Launch} {w : Kw} (hw : wOk w) {x : Nat} (hC : shC w x) (c d a v : Int32) {n : Nat} (hn : n ≤ 5) (h : xI) (g : xJ) (hse : h (x + 1) 4 = nI n) : Ct l w yX7_seen cX7_seen 6 (some .int) 1 21 [.ref (wA w (x)), .int (c), .int (d), .int (a), .int (v)] h g (pif ((0 ≤ c.toInt ∧ c.toInt < 25) ∧ (0 ≤ d.toInt ∧ d.toInt < 10) ∧ (0 ≤ a.toInt ∧ a.toInt < 100) ∧ (0 ≤ v.toInt ∧ v.toInt < 21)) (pif (n = 5) (px (some (.int (-4 : Int32))) (rcH h x 11) g) (px (some (.int (nI (n + 1)))) (u2 (u2 (u2 (u2 (u2 h (x + 7) (n * 4) c) (x + 7) (n * 4 + 1) d) (x + 7) (n * 4 + 2) a) (x + 7) (n * 4 + 3) v) (x + 1) 4 (nI (n + 1))) g)) (px (some (.int (-2 : Int32))) (rcH h x 9) g)) := by
  refine Ct_of (ls := [some (.ref (wA w (x))), some (.int (c)), some (.int (d)), some (.int (a)), some (.int (v)), none]) (by decide) hw (Nat.le_of_ble_eq_true rfl) rfl (fun k hkl C => ?_)
  have C : Cx k w cX7_seen RX7 6 (some .int) 1 21 := C
  have D := dtX7_seen
  subst hkl
  have hC0 := hC
  obtain ⟨hxn, hsx, hT, hsi, hTa, hTb, hsk, hNs, hY, hX, hsv⟩ := hC
  have hY2 := hY.1
  have hX2 := hX.1
  refine X_iload_n C 1 (D (0, .iload_n 1, 1) (mg 0 rfl)) rfl rfl ?_
  refine X_bipush (v := nI (25)) C (D (1, .bipush 25, 2) (mg 1 rfl)) (by decide) ?_
  refine X_cS (As := [.int (c), .int (nI (25))]) (st := []) C (post := _) (ct_X7_isBelow hw (c) (B := 25) (by decide) h g) kX7_53 (by decide) (by decide) rfl rfl (Nat.le_of_ble_eq_true rfl) (D (3, .invokestatic 53, 3) (mg 2 rfl)) rfl (fun v3 H1 G2 hv3 => ?_)
  obtain ⟨rfl, rfl, rfl⟩ := hv3
  show X k w _ 6 [some (.ref (wA w (x))), some (.int (c)), some (.int (d)), some (.int (a)), some (.int (v)), none] [.int (if 0 ≤ (c).toInt ∧ (c).toInt < ((25 : Nat) : Int) then 1 else 0)] h g
  refine X_if_eq (tgt := 37) C (D (6, .ifCond .eq 31, 3) (mg 3 rfl)) (by decide) (fun q4 => ?_) (fun q4 => ?_)
  · skip
    have q4 : ¬ (0 ≤ (c).toInt ∧ (c).toInt < ((25 : Nat) : Int)) := bz0.mp q4
    refine X_aload_n C 0 (D (37, .aload_n 0, 1) (mg 16 rfl)) rfl rfl ?_
    refine X_cV (As := []) (st := []) C (post := _) (x) (by omega) hsx rfl (ct_X7_refuseBad hw hC0 h g) kX7_57 (by decide) (by decide) rfl rfl (Nat.le_of_ble_eq_true rfl) (D (38, .invokevirtual 57, 3) (mg 17 rfl)) rfl (fun v7 H5 G6 hv7 => ?_)
    obtain ⟨rfl, rfl, rfl⟩ := hv7
    show X k w _ 41 [some (.ref (wA w (x))), some (.int (c)), some (.int (d)), some (.int (a)), some (.int (v)), none] [.int ((-2 : Int32))] (rcH h (x) 9) g
    exact X_iret C (D (41, .ireturn, 1) (mg 18 rfl)) ⟨fun z => absurd z (by omega), fun _ => ⟨rfl, rfl, rfl⟩⟩
  · skip
    have q4 : (0 ≤ (c).toInt ∧ (c).toInt < ((25 : Nat) : Int)) := bz1.mp q4
    refine X_iload_n C 2 (D (9, .iload_n 2, 1) (mg 4 rfl)) rfl rfl ?_
    refine X_bipush (v := nI (10)) C (D (10, .bipush 10, 2) (mg 5 rfl)) (by decide) ?_
    refine X_cS (As := [.int (d), .int (nI (10))]) (st := []) C (post := _) (ct_X7_isBelow hw (d) (B := 10) (by decide) h g) kX7_53 (by decide) (by decide) rfl rfl (Nat.le_of_ble_eq_true rfl) (D (12, .invokestatic 53, 3) (mg 6 rfl)) rfl (fun v10 H8 G9 hv10 => ?_)
    obtain ⟨rfl, rfl, rfl⟩ := hv10
    show X k w _ 15 [some (.ref (wA w (x))), some (.int (c)), some (.int (d)), some (.int (a)), some (.int (v)), none] [.int (if 0 ≤ (d).toInt ∧ (d).toInt < ((10 : Nat) : Int) then 1 else 0)] h g
    refine X_if_eq (tgt := 37) C (D (15, .ifCond .eq 22, 3) (mg 7 rfl)) (by decide) (fun q11 => ?_) (fun q11 => ?_)
    · skip
      have q11 : ¬ (0 ≤ (d).toInt ∧ (d).toInt < ((10 : Nat) : Int)) := bz0.mp q11
      refine X_aload_n C 0 (D (37, .aload_n 0, 1) (mg 16 rfl)) rfl rfl ?_
      refine X_cV (As := []) (st := []) C (post := _) (x) (by omega) hsx rfl (ct_X7_refuseBad hw hC0 h g) kX7_57 (by decide) (by decide) rfl rfl (Nat.le_of_ble_eq_true rfl) (D (38, .invokevirtual 57, 3) (mg 17 rfl)) rfl (fun v14 H12 G13 hv14 => ?_)
      obtain ⟨rfl, rfl, rfl⟩ := hv14
      show X k w _ 41 [some (.ref (wA w (x))), some (.int (c)), some (.int (d)), some (.int (a)), some (.int (v)), none] [.int ((-2 : Int32))] (rcH h (x) 9) g
      exact X_iret C (D (41, .ireturn, 1) (mg 18 rfl)) ⟨fun z => absurd z (by omega), fun _ => ⟨rfl, rfl, rfl⟩⟩
    · skip
      have q11 : (0 ≤ (d).toInt ∧ (d).toInt < ((10 : Nat) : Int)) := bz1.mp q11
      refine X_iload_n C 3 (D (18, .iload_n 3, 1) (mg 8 rfl)) rfl rfl ?_
      refine X_bipush (v := nI (100)) C (D (19, .bipush 100, 2) (mg 9 rfl)) (by decide) ?_
      refine X_cS (As := [.int (a), .int (nI (100))]) (st := []) C (post := _) (ct_X7_isBelow hw (a) (B := 100) (by decide) h g) kX7_53 (by decide) (by decide) rfl rfl (Nat.le_of_ble_eq_true rfl) (D (21, .invokestatic 53, 3) (mg 10 rfl)) rfl (fun v17 H15 G16 hv17 => ?_)
      obtain ⟨rfl, rfl, rfl⟩ := hv17
      show X k w _ 24 [some (.ref (wA w (x))), some (.int (c)), some (.int (d)), some (.int (a)), some (.int (v)), none] [.int (if 0 ≤ (a).toInt ∧ (a).toInt < ((100 : Nat) : Int) then 1 else 0)] h g
      refine X_if_eq (tgt := 37) C (D (24, .ifCond .eq 13, 3) (mg 11 rfl)) (by decide) (fun q18 => ?_) (fun q18 => ?_)
      · skip
        have q18 : ¬ (0 ≤ (a).toInt ∧ (a).toInt < ((100 : Nat) : Int)) := bz0.mp q18
        refine X_aload_n C 0 (D (37, .aload_n 0, 1) (mg 16 rfl)) rfl rfl ?_
        refine X_cV (As := []) (st := []) C (post := _) (x) (by omega) hsx rfl (ct_X7_refuseBad hw hC0 h g) kX7_57 (by decide) (by decide) rfl rfl (Nat.le_of_ble_eq_true rfl) (D (38, .invokevirtual 57, 3) (mg 17 rfl)) rfl (fun v21 H19 G20 hv21 => ?_)
        obtain ⟨rfl, rfl, rfl⟩ := hv21
        show X k w _ 41 [some (.ref (wA w (x))), some (.int (c)), some (.int (d)), some (.int (a)), some (.int (v)), none] [.int ((-2 : Int32))] (rcH h (x) 9) g
        exact X_iret C (D (41, .ireturn, 1) (mg 18 rfl)) ⟨fun z => absurd z (by omega), fun _ => ⟨rfl, rfl, rfl⟩⟩
      · skip
        have q18 : (0 ≤ (a).toInt ∧ (a).toInt < ((100 : Nat) : Int)) := bz1.mp q18
        refine X_iload C (D (27, .iload 4, 2) (mg 12 rfl)) rfl ?_
        refine X_bipush (v := nI (21)) C (D (29, .bipush 21, 2) (mg 13 rfl)) (by decide) ?_
        refine X_cS (As := [.int (v), .int (nI (21))]) (st := []) C (post := _) (ct_X7_isBelow hw (v) (B := 21) (by decide) h g) kX7_53 (by decide) (by decide) rfl rfl (Nat.le_of_ble_eq_true rfl) (D (31, .invokestatic 53, 3) (mg 14 rfl)) rfl (fun v24 H22 G23 hv24 => ?_)
        obtain ⟨rfl, rfl, rfl⟩ := hv24
        show X k w _ 34 [some (.ref (wA w (x))), some (.int (c)), some (.int (d)), some (.int (a)), some (.int (v)), none] [.int (if 0 ≤ (v).toInt ∧ (v).toInt < ((21 : Nat) : Int) then 1 else 0)] h g
        refine X_if_ne (tgt := 42) C (D (34, .ifCond .ne 8, 3) (mg 15 rfl)) (by decide) (fun q25 => ?_) (fun q25 => ?_)
        · skip
          have q25 : (0 ≤ (v).toInt ∧ (v).toInt < ((21 : Nat) : Int)) := bz1.mp q25
          refine X_aload_n C 0 (D (42, .aload_n 0, 1) (mg 19 rfl)) rfl rfl ?_
          refine X_get (v := .ref (wA w (x + 1))) C (x) 0 (by omega) hsx rfl rfl (by decide) inX7 fX7_10 rfl (D (43, .getfield 10, 3) (mg 20 rfl)) rfl ?_
          refine X_get (v := .int (h (x + 1) 4)) C (x + 1) 4 (by omega) hT.2.1 rfl rfl (by decide) inX4 fX7_185 rfl (D (46, .getfield 185, 3) (mg 21 rfl)) rfl ?_
          refine X_ti (y := nI (n)) (hse) ?_
          refine X_iconst (v := nI (5)) C (D (49, .iconst 5, 1) (mg 22 rfl)) (by decide) ?_
          refine X_icmp_lt (tgt := 58) C (D (50, .if_icmp .lt 8, 3) (mg 23 rfl)) (by decide) (fun q26 => ?_) (fun q26 => ?_)
          · skip
            have q26 : (n) < (5) := by have z := (nI_ltI (a := (n)) (b := (5)) (by omega) (by omega)).mp q26; omega
            refine X_aload_n C 0 (D (58, .aload_n 0, 1) (mg 27 rfl)) rfl rfl ?_
            refine X_get (v := .ref (wA w (x + 1))) C (x) 0 (by omega) hsx rfl rfl (by decide) inX7 fX7_10 rfl (D (59, .getfield 10, 3) (mg 28 rfl)) rfl ?_
            refine X_get (v := .int (h (x + 1) 4)) C (x + 1) 4 (by omega) hT.2.1 rfl rfl (by decide) inX4 fX7_185 rfl (D (62, .getfield 185, 3) (mg 29 rfl)) rfl ?_
            refine X_ti (y := nI (n)) (hse) ?_
            refine X_iconst (v := nI (4)) C (D (65, .iconst 4, 1) (mg 30 rfl)) (by decide) ?_
            refine X_imul C (D (66, .imul, 1) (mg 31 rfl)) ?_
            refine X_ti (y := nI ((n) * (4))) (pk_mul (n) (4)) ?_
            refine X_istore (ls' := [some (.ref (wA w (x))), some (.int (c)), some (.int (d)), some (.int (a)), some (.int (v)), some (.int (nI ((n) * (4))))]) C (D (67, .istore 5, 2) (mg 32 rfl)) (Nat.le_of_ble_eq_true rfl) rfl ?_
            refine X_aload_n C 0 (D (69, .aload_n 0, 1) (mg 33 rfl)) rfl rfl ?_
            refine X_get (v := .ref (wA w (x + 1))) C (x) 0 (by omega) hsx rfl rfl (by decide) inX7 fX7_10 rfl (D (70, .getfield 10, 3) (mg 34 rfl)) rfl ?_
            refine X_get (v := .ref (wA w (x + 7))) C (x + 1) 2 (by omega) hT.2.1 rfl rfl (by decide) inX4 fX7_188 rfl (D (73, .getfield 188, 3) (mg 35 rfl)) rfl ?_
            refine X_iload C (D (76, .iload 5, 2) (mg 36 rfl)) rfl ?_
            refine X_iload_n C 1 (D (78, .iload_n 1, 1) (mg 37 rfl)) rfl rfl ?_
            refine X_iast (j := (n) * (4)) C (x + 7) (by omega) hT.2.2.2.2.1 (vp_in_nI (by omega) (by omega)) (D (79, .iastore, 1) (mg 38 rfl)) (nI_clamp (by omega)) ?_
            refine X_aload_n C 0 (D (80, .aload_n 0, 1) (mg 39 rfl)) rfl rfl ?_
            refine X_get (v := .ref (wA w (x + 1))) C (x) 0 (by omega) hsx rfl rfl (by decide) inX7 fX7_10 rfl (D (81, .getfield 10, 3) (mg 40 rfl)) rfl ?_
            refine X_get (v := .ref (wA w (x + 7))) C (x + 1) 2 (by omega) hT.2.1 rfl rfl (by decide) inX4 fX7_188 rfl (D (84, .getfield 188, 3) (mg 41 rfl)) rfl ?_
            refine X_iload C (D (87, .iload 5, 2) (mg 42 rfl)) rfl ?_
            refine X_iconst (v := nI (1)) C (D (89, .iconst 1, 1) (mg 43 rfl)) (by decide) ?_
            refine X_iadd C (D (90, .iadd, 1) (mg 44 rfl)) ?_
            refine X_ti (y := nI ((n) * (4) + 1)) (nI_add ((n) * (4)) (1)) ?_
            refine X_iload_n C 2 (D (91, .iload_n 2, 1) (mg 45 rfl)) rfl rfl ?_
            refine X_iast (j := (n) * (4) + 1) C (x + 7) (by omega) hT.2.2.2.2.1 (vp_in_nI (by omega) (by omega)) (D (92, .iastore, 1) (mg 46 rfl)) (nI_clamp (by omega)) ?_
            refine X_aload_n C 0 (D (93, .aload_n 0, 1) (mg 47 rfl)) rfl rfl ?_
            refine X_get (v := .ref (wA w (x + 1))) C (x) 0 (by omega) hsx rfl rfl (by decide) inX7 fX7_10 rfl (D (94, .getfield 10, 3) (mg 48 rfl)) rfl ?_
            refine X_get (v := .ref (wA w (x + 7))) C (x + 1) 2 (by omega) hT.2.1 rfl rfl (by decide) inX4 fX7_188 rfl (D (97, .getfield 188, 3) (mg 49 rfl)) rfl ?_
            refine X_iload C (D (100, .iload 5, 2) (mg 50 rfl)) rfl ?_
            refine X_iconst (v := nI (2)) C (D (102, .iconst 2, 1) (mg 51 rfl)) (by decide) ?_
            refine X_iadd C (D (103, .iadd, 1) (mg 52 rfl)) ?_
            refine X_ti (y := nI ((n) * (4) + 2)) (nI_add ((n) * (4)) (2)) ?_
            refine X_iload_n C 3 (D (104, .iload_n 3, 1) (mg 53 rfl)) rfl rfl ?_
            refine X_iast (j := (n) * (4) + 2) C (x + 7) (by omega) hT.2.2.2.2.1 (vp_in_nI (by omega) (by omega)) (D (105, .iastore, 1) (mg 54 rfl)) (nI_clamp (by omega)) ?_
            refine X_aload_n C 0 (D (106, .aload_n 0, 1) (mg 55 rfl)) rfl rfl ?_
            refine X_get (v := .ref (wA w (x + 1))) C (x) 0 (by omega) hsx rfl rfl (by decide) inX7 fX7_10 rfl (D (107, .getfield 10, 3) (mg 56 rfl)) rfl ?_
            refine X_get (v := .ref (wA w (x + 7))) C (x + 1) 2 (by omega) hT.2.1 rfl rfl (by decide) inX4 fX7_188 rfl (D (110, .getfield 188, 3) (mg 57 rfl)) rfl ?_
            refine X_iload C (D (113, .iload 5, 2) (mg 58 rfl)) rfl ?_
            refine X_iconst (v := nI (3)) C (D (115, .iconst 3, 1) (mg 59 rfl)) (by decide) ?_
            refine X_iadd C (D (116, .iadd, 1) (mg 60 rfl)) ?_
            refine X_ti (y := nI ((n) * (4) + 3)) (nI_add ((n) * (4)) (3)) ?_
            refine X_iload C (D (117, .iload 4, 2) (mg 61 rfl)) rfl ?_
            refine X_iast (j := (n) * (4) + 3) C (x + 7) (by omega) hT.2.2.2.2.1 (vp_in_nI (by omega) (by omega)) (D (119, .iastore, 1) (mg 62 rfl)) (nI_clamp (by omega)) ?_
            refine X_aload_n C 0 (D (120, .aload_n 0, 1) (mg 63 rfl)) rfl rfl ?_
            refine X_get (v := .ref (wA w (x + 1))) C (x) 0 (by omega) hsx rfl rfl (by decide) inX7 fX7_10 rfl (D (121, .getfield 10, 3) (mg 64 rfl)) rfl ?_
            refine X_dup C (D (124, .dup, 1) (mg 65 rfl)) rfl ?_
            refine X_get (v := .int ((u2 (u2 (u2 (u2 h (x + 7) ((n) * (4)) (c)) (x + 7) ((n) * (4) + 1) (d)) (x + 7) ((n) * (4) + 2) (a)) (x + 7) ((n) * (4) + 3) (v)) (x + 1) 4)) C (x + 1) 4 (by omega) hT.2.1 rfl rfl (by decide) inX4 fX7_185 rfl (D (125, .getfield 185, 3) (mg 66 rfl)) rfl ?_
            refine X_ti (y := nI (n)) ((((((u2_p _ _ _ _ (by omega))).trans (u2_p _ _ _ _ (by omega))).trans (u2_p _ _ _ _ (by omega))).trans (u2_p _ _ _ _ (by omega))).trans hse) ?_
            refine X_iconst (v := nI (1)) C (D (128, .iconst 1, 1) (mg 67 rfl)) (by decide) ?_
            refine X_iadd C (D (129, .iadd, 1) (mg 68 rfl)) ?_
            refine X_ti (y := nI (n + 1)) (nI_add (n) (1)) ?_
            refine X_putI C (x + 1) 4 tyX4 tyX4_ok nmX4 (by omega) hT.2.1 rfl rfl (by decide) inX4 fX7_185 rfl rfl (by decide +kernel) (D (130, .putfield 185, 3) (mg 69 rfl)) ?_
            refine X_aload_n C 0 (D (133, .aload_n 0, 1) (mg 70 rfl)) rfl rfl ?_
            refine X_get (v := .ref (wA w (x + 1))) C (x) 0 (by omega) hsx rfl rfl (by decide) inX7 fX7_10 rfl (D (134, .getfield 10, 3) (mg 71 rfl)) rfl ?_
            refine X_get (v := .int ((u2 (u2 (u2 (u2 (u2 h (x + 7) ((n) * (4)) (c)) (x + 7) ((n) * (4) + 1) (d)) (x + 7) ((n) * (4) + 2) (a)) (x + 7) ((n) * (4) + 3) (v)) (x + 1) 4 (nI (n + 1))) (x + 1) 4)) C (x + 1) 4 (by omega) hT.2.1 rfl rfl (by decide) inX4 fX7_185 rfl (D (137, .getfield 185, 3) (mg 72 rfl)) rfl ?_
            refine X_ti (y := nI (n + 1)) ((u2_s _ _ _ _)) ?_
            exact X_iret C (D (140, .ireturn, 1) (mg 73 rfl)) ⟨fun _ => ⟨fun z => absurd z (by omega), fun _ => ⟨rfl, rfl, rfl⟩⟩, fun z => absurd (by omega) z⟩
          · skip
            have q26 : (n) ≥ (5) := by have z : ¬ ((n) < (5)) := fun u => q26 ((nI_ltI (a := (n)) (b := (5)) (by omega) (by omega)).mpr u); omega
            refine X_aload_n C 0 (D (53, .aload_n 0, 1) (mg 24 rfl)) rfl rfl ?_
            refine X_cV (As := []) (st := []) C (post := _) (x) (by omega) hsx rfl (ct_X7_refuseFull hw hC0 h g) kX7_91 (by decide) (by decide) rfl rfl (Nat.le_of_ble_eq_true rfl) (D (54, .invokevirtual 91, 3) (mg 25 rfl)) rfl (fun v29 H27 G28 hv29 => ?_)
            obtain ⟨rfl, rfl, rfl⟩ := hv29
            show X k w _ 57 [some (.ref (wA w (x))), some (.int (c)), some (.int (d)), some (.int (a)), some (.int (v)), none] [.int ((-4 : Int32))] (rcH h (x) 11) g
            exact X_iret C (D (57, .ireturn, 1) (mg 26 rfl)) ⟨fun _ => ⟨fun _ => ⟨rfl, rfl, rfl⟩, fun z => absurd (by omega) z⟩, fun z => absurd (by omega) z⟩
        · skip
          have q25 : ¬ (0 ≤ (v).toInt ∧ (v).toInt < ((21 : Nat) : Int)) := bz0.mp q25
          refine X_aload_n C 0 (D (37, .aload_n 0, 1) (mg 16 rfl)) rfl rfl ?_
          refine X_cV (As := []) (st := []) C (post := _) (x) (by omega) hsx rfl (ct_X7_refuseBad hw hC0 h g) kX7_57 (by decide) (by decide) rfl rfl (Nat.le_of_ble_eq_true rfl) (D (38, .invokevirtual 57, 3) (mg 17 rfl)) rfl (fun v32 H30 G31 hv32 => ?_)
          obtain ⟨rfl, rfl, rfl⟩ := hv32
          show X k w _ 41 [some (.ref (wA w (x))), some (.int (c)), some (.int (d)), some (.int (a)), some (.int (v)), none] [.int ((-2 : Int32))] (rcH h (x) 9) g
          exact X_iret C (D (41, .ireturn, 1) (mg 18 rfl)) ⟨fun z => absurd z (by omega), fun _ => ⟨rfl, rfl, rfl⟩⟩
set_option maxHeartbeats 4000000 in
set_option maxRecDepth 100000 in
theorem ct_X7_mark {l : Launch} {w : Kw} (hw : wOk w) {x : Nat} (hC : shC w x) (s d v : Int32) {n : Nat} (hn : n ≤ 6) (h : xI) (g : xJ) (hma : h (x + 1) 5 = nI n) : Ct l w yX7_mark cX7_mark 5 (some .int) 1 21 [.ref (wA w (x)), .int (s), .int (d), .int (v)] h g (pif ((0 ≤ s.toInt ∧ s.toInt < 5) ∧ (0 ≤ d.toInt ∧ d.toInt < 10) ∧ (0 ≤ v.toInt ∧ v.toInt < 10)) (pif (n = 6) (px (some (.int (-4 : Int32))) (rcH h x 11) g) (px (some (.int (nI (n + 1)))) (u2 (u2 (u2 (u2 h (x + 8) (n * 3) s) (x + 8) (n * 3 + 1) d) (x + 8) (n * 3 + 2) v) (x + 1) 5 (nI (n + 1))) g)) (px (some (.int (-2 : Int32))) (rcH h x 9) g)) := by
  refine Ct_of (ls := [some (.ref (wA w (x))), some (.int (s)), some (.int (d)), some (.int (v)), none]) (by decide) hw (Nat.le_of_ble_eq_true rfl) rfl (fun k hkl C => ?_)
  have C : Cx k w cX7_mark RX7 5 (some .int) 1 21 := C
  have D := dtX7_mark
  subst hkl
  have hC0 := hC
  obtain ⟨hxn, hsx, hT, hsi, hTa, hTb, hsk, hNs, hY, hX, hsv⟩ := hC
  have hY2 := hY.1
  have hX2 := hX.1
  refine X_iload_n C 1 (D (0, .iload_n 1, 1) (mg 0 rfl)) rfl rfl ?_
  refine X_iconst (v := nI (5)) C (D (1, .iconst 5, 1) (mg 1 rfl)) (by decide) ?_
  refine X_cS (As := [.int (s), .int (nI (5))]) (st := []) C (post := _) (ct_X7_isBelow hw (s) (B := 5) (by decide) h g) kX7_53 (by decide) (by decide) rfl rfl (Nat.le_of_ble_eq_true rfl) (D (2, .invokestatic 53, 3) (mg 2 rfl)) rfl (fun v3 H1 G2 hv3 => ?_)
  obtain ⟨rfl, rfl, rfl⟩ := hv3
  show X k w _ 5 [some (.ref (wA w (x))), some (.int (s)), some (.int (d)), some (.int (v)), none] [.int (if 0 ≤ (s).toInt ∧ (s).toInt < ((5 : Nat) : Int) then 1 else 0)] h g
  refine X_if_eq (tgt := 26) C (D (5, .ifCond .eq 21, 3) (mg 3 rfl)) (by decide) (fun q4 => ?_) (fun q4 => ?_)
  · skip
    have q4 : ¬ (0 ≤ (s).toInt ∧ (s).toInt < ((5 : Nat) : Int)) := bz0.mp q4
    refine X_aload_n C 0 (D (26, .aload_n 0, 1) (mg 12 rfl)) rfl rfl ?_
    refine X_cV (As := []) (st := []) C (post := _) (x) (by omega) hsx rfl (ct_X7_refuseBad hw hC0 h g) kX7_57 (by decide) (by decide) rfl rfl (Nat.le_of_ble_eq_true rfl) (D (27, .invokevirtual 57, 3) (mg 13 rfl)) rfl (fun v7 H5 G6 hv7 => ?_)
    obtain ⟨rfl, rfl, rfl⟩ := hv7
    show X k w _ 30 [some (.ref (wA w (x))), some (.int (s)), some (.int (d)), some (.int (v)), none] [.int ((-2 : Int32))] (rcH h (x) 9) g
    exact X_iret C (D (30, .ireturn, 1) (mg 14 rfl)) ⟨fun z => absurd z (by omega), fun _ => ⟨rfl, rfl, rfl⟩⟩
  · skip
    have q4 : (0 ≤ (s).toInt ∧ (s).toInt < ((5 : Nat) : Int)) := bz1.mp q4
    refine X_iload_n C 2 (D (8, .iload_n 2, 1) (mg 4 rfl)) rfl rfl ?_
    refine X_bipush (v := nI (10)) C (D (9, .bipush 10, 2) (mg 5 rfl)) (by decide) ?_
    refine X_cS (As := [.int (d), .int (nI (10))]) (st := []) C (post := _) (ct_X7_isBelow hw (d) (B := 10) (by decide) h g) kX7_53 (by decide) (by decide) rfl rfl (Nat.le_of_ble_eq_true rfl) (D (11, .invokestatic 53, 3) (mg 6 rfl)) rfl (fun v10 H8 G9 hv10 => ?_)
    obtain ⟨rfl, rfl, rfl⟩ := hv10
    show X k w _ 14 [some (.ref (wA w (x))), some (.int (s)), some (.int (d)), some (.int (v)), none] [.int (if 0 ≤ (d).toInt ∧ (d).toInt < ((10 : Nat) : Int) then 1 else 0)] h g
    refine X_if_eq (tgt := 26) C (D (14, .ifCond .eq 12, 3) (mg 7 rfl)) (by decide) (fun q11 => ?_) (fun q11 => ?_)
    · skip
      have q11 : ¬ (0 ≤ (d).toInt ∧ (d).toInt < ((10 : Nat) : Int)) := bz0.mp q11
      refine X_aload_n C 0 (D (26, .aload_n 0, 1) (mg 12 rfl)) rfl rfl ?_
      refine X_cV (As := []) (st := []) C (post := _) (x) (by omega) hsx rfl (ct_X7_refuseBad hw hC0 h g) kX7_57 (by decide) (by decide) rfl rfl (Nat.le_of_ble_eq_true rfl) (D (27, .invokevirtual 57, 3) (mg 13 rfl)) rfl (fun v14 H12 G13 hv14 => ?_)
      obtain ⟨rfl, rfl, rfl⟩ := hv14
      show X k w _ 30 [some (.ref (wA w (x))), some (.int (s)), some (.int (d)), some (.int (v)), none] [.int ((-2 : Int32))] (rcH h (x) 9) g
      exact X_iret C (D (30, .ireturn, 1) (mg 14 rfl)) ⟨fun z => absurd z (by omega), fun _ => ⟨rfl, rfl, rfl⟩⟩
    · skip
      have q11 : (0 ≤ (d).toInt ∧ (d).toInt < ((10 : Nat) : Int)) := bz1.mp q11
      refine X_iload_n C 3 (D (17, .iload_n 3, 1) (mg 8 rfl)) rfl rfl ?_
      refine X_bipush (v := nI (10)) C (D (18, .bipush 10, 2) (mg 9 rfl)) (by decide) ?_
      refine X_cS (As := [.int (v), .int (nI (10))]) (st := []) C (post := _) (ct_X7_isBelow hw (v) (B := 10) (by decide) h g) kX7_53 (by decide) (by decide) rfl rfl (Nat.le_of_ble_eq_true rfl) (D (20, .invokestatic 53, 3) (mg 10 rfl)) rfl (fun v17 H15 G16 hv17 => ?_)
      obtain ⟨rfl, rfl, rfl⟩ := hv17
      show X k w _ 23 [some (.ref (wA w (x))), some (.int (s)), some (.int (d)), some (.int (v)), none] [.int (if 0 ≤ (v).toInt ∧ (v).toInt < ((10 : Nat) : Int) then 1 else 0)] h g
      refine X_if_ne (tgt := 31) C (D (23, .ifCond .ne 8, 3) (mg 11 rfl)) (by decide) (fun q18 => ?_) (fun q18 => ?_)
      · skip
        have q18 : (0 ≤ (v).toInt ∧ (v).toInt < ((10 : Nat) : Int)) := bz1.mp q18
        refine X_aload_n C 0 (D (31, .aload_n 0, 1) (mg 15 rfl)) rfl rfl ?_
        refine X_get (v := .ref (wA w (x + 1))) C (x) 0 (by omega) hsx rfl rfl (by decide) inX7 fX7_10 rfl (D (32, .getfield 10, 3) (mg 16 rfl)) rfl ?_
        refine X_get (v := .int (h (x + 1) 5)) C (x + 1) 5 (by omega) hT.2.1 rfl rfl (by decide) inX4 fX7_203 rfl (D (35, .getfield 203, 3) (mg 17 rfl)) rfl ?_
        refine X_ti (y := nI (n)) (hma) ?_
        refine X_bipush (v := nI (6)) C (D (38, .bipush 6, 2) (mg 18 rfl)) (by decide) ?_
        refine X_icmp_lt (tgt := 48) C (D (40, .if_icmp .lt 8, 3) (mg 19 rfl)) (by decide) (fun q19 => ?_) (fun q19 => ?_)
        · skip
          have q19 : (n) < (6) := by have z := (nI_ltI (a := (n)) (b := (6)) (by omega) (by omega)).mp q19; omega
          refine X_aload_n C 0 (D (48, .aload_n 0, 1) (mg 23 rfl)) rfl rfl ?_
          refine X_get (v := .ref (wA w (x + 1))) C (x) 0 (by omega) hsx rfl rfl (by decide) inX7 fX7_10 rfl (D (49, .getfield 10, 3) (mg 24 rfl)) rfl ?_
          refine X_get (v := .int (h (x + 1) 5)) C (x + 1) 5 (by omega) hT.2.1 rfl rfl (by decide) inX4 fX7_203 rfl (D (52, .getfield 203, 3) (mg 25 rfl)) rfl ?_
          refine X_ti (y := nI (n)) (hma) ?_
          refine X_iconst (v := nI (3)) C (D (55, .iconst 3, 1) (mg 26 rfl)) (by decide) ?_
          refine X_imul C (D (56, .imul, 1) (mg 27 rfl)) ?_
          refine X_ti (y := nI ((n) * (3))) (pk_mul (n) (3)) ?_
          refine X_istore (ls' := [some (.ref (wA w (x))), some (.int (s)), some (.int (d)), some (.int (v)), some (.int (nI ((n) * (3))))]) C (D (57, .istore 4, 2) (mg 28 rfl)) (Nat.le_of_ble_eq_true rfl) rfl ?_
          refine X_aload_n C 0 (D (59, .aload_n 0, 1) (mg 29 rfl)) rfl rfl ?_
          refine X_get (v := .ref (wA w (x + 1))) C (x) 0 (by omega) hsx rfl rfl (by decide) inX7 fX7_10 rfl (D (60, .getfield 10, 3) (mg 30 rfl)) rfl ?_
          refine X_get (v := .ref (wA w (x + 8))) C (x + 1) 3 (by omega) hT.2.1 rfl rfl (by decide) inX4 fX7_206 rfl (D (63, .getfield 206, 3) (mg 31 rfl)) rfl ?_
          refine X_iload C (D (66, .iload 4, 2) (mg 32 rfl)) rfl ?_
          refine X_iload_n C 1 (D (68, .iload_n 1, 1) (mg 33 rfl)) rfl rfl ?_
          refine X_iast (j := (n) * (3)) C (x + 8) (by omega) hT.2.2.2.2.2 (vp_in_nI (by omega) (by omega)) (D (69, .iastore, 1) (mg 34 rfl)) (nI_clamp (by omega)) ?_
          refine X_aload_n C 0 (D (70, .aload_n 0, 1) (mg 35 rfl)) rfl rfl ?_
          refine X_get (v := .ref (wA w (x + 1))) C (x) 0 (by omega) hsx rfl rfl (by decide) inX7 fX7_10 rfl (D (71, .getfield 10, 3) (mg 36 rfl)) rfl ?_
          refine X_get (v := .ref (wA w (x + 8))) C (x + 1) 3 (by omega) hT.2.1 rfl rfl (by decide) inX4 fX7_206 rfl (D (74, .getfield 206, 3) (mg 37 rfl)) rfl ?_
          refine X_iload C (D (77, .iload 4, 2) (mg 38 rfl)) rfl ?_
          refine X_iconst (v := nI (1)) C (D (79, .iconst 1, 1) (mg 39 rfl)) (by decide) ?_
          refine X_iadd C (D (80, .iadd, 1) (mg 40 rfl)) ?_
          refine X_ti (y := nI ((n) * (3) + 1)) (nI_add ((n) * (3)) (1)) ?_
          refine X_iload_n C 2 (D (81, .iload_n 2, 1) (mg 41 rfl)) rfl rfl ?_
          refine X_iast (j := (n) * (3) + 1) C (x + 8) (by omega) hT.2.2.2.2.2 (vp_in_nI (by omega) (by omega)) (D (82, .iastore, 1) (mg 42 rfl)) (nI_clamp (by omega)) ?_
          refine X_aload_n C 0 (D (83, .aload_n 0, 1) (mg 43 rfl)) rfl rfl ?_
          refine X_get (v := .ref (wA w (x + 1))) C (x) 0 (by omega) hsx rfl rfl (by decide) inX7 fX7_10 rfl (D (84, .getfield 10, 3) (mg 44 rfl)) rfl ?_
          refine X_get (v := .ref (wA w (x + 8))) C (x + 1) 3 (by omega) hT.2.1 rfl rfl (by decide) inX4 fX7_206 rfl (D (87, .getfield 206, 3) (mg 45 rfl)) rfl ?_
          refine X_iload C (D (90, .iload 4, 2) (mg 46 rfl)) rfl ?_
          refine X_iconst (v := nI (2)) C (D (92, .iconst 2, 1) (mg 47 rfl)) (by decide) ?_
          refine X_iadd C (D (93, .iadd, 1) (mg 48 rfl)) ?_
          refine X_ti (y := nI ((n) * (3) + 2)) (nI_add ((n) * (3)) (2)) ?_
          refine X_iload_n C 3 (D (94, .iload_n 3, 1) (mg 49 rfl)) rfl rfl ?_
          refine X_iast (j := (n) * (3) + 2) C (x + 8) (by omega) hT.2.2.2.2.2 (vp_in_nI (by omega) (by omega)) (D (95, .iastore, 1) (mg 50 rfl)) (nI_clamp (by omega)) ?_
          refine X_aload_n C 0 (D (96, .aload_n 0, 1) (mg 51 rfl)) rfl rfl ?_
          refine X_get (v := .ref (wA w (x + 1))) C (x) 0 (by omega) hsx rfl rfl (by decide) inX7 fX7_10 rfl (D (97, .getfield 10, 3) (mg 52 rfl)) rfl ?_
          refine X_dup C (D (100, .dup, 1) (mg 53 rfl)) rfl ?_
          refine X_get (v := .int ((u2 (u2 (u2 h (x + 8) ((n) * (3)) (s)) (x + 8) ((n) * (3) + 1) (d)) (x + 8) ((n) * (3) + 2) (v)) (x + 1) 5)) C (x + 1) 5 (by omega) hT.2.1 rfl rfl (by decide) inX4 fX7_203 rfl (D (101, .getfield 203, 3) (mg 54 rfl)) rfl ?_
          refine X_ti (y := nI (n)) (((((u2_p _ _ _ _ (by omega))).trans (u2_p _ _ _ _ (by omega))).trans (u2_p _ _ _ _ (by omega))).trans hma) ?_
          refine X_iconst (v := nI (1)) C (D (104, .iconst 1, 1) (mg 55 rfl)) (by decide) ?_
          refine X_iadd C (D (105, .iadd, 1) (mg 56 rfl)) ?_
          refine X_ti (y := nI (n + 1)) (nI_add (n) (1)) ?_
          refine X_putI C (x + 1) 5 tyX4 tyX4_ok nmX4 (by omega) hT.2.1 rfl rfl (by decide) inX4 fX7_203 rfl rfl (by decide +kernel) (D (106, .putfield 203, 3) (mg 57 rfl)) ?_
          refine X_aload_n C 0 (D (109, .aload_n 0, 1) (mg 58 rfl)) rfl rfl ?_
          refine X_get (v := .ref (wA w (x + 1))) C (x) 0 (by omega) hsx rfl rfl (by decide) inX7 fX7_10 rfl (D (110, .getfield 10, 3) (mg 59 rfl)) rfl ?_
          refine X_get (v := .int ((u2 (u2 (u2 (u2 h (x + 8) ((n) * (3)) (s)) (x + 8) ((n) * (3) + 1) (d)) (x + 8) ((n) * (3) + 2) (v)) (x + 1) 5 (nI (n + 1))) (x + 1) 5)) C (x + 1) 5 (by omega) hT.2.1 rfl rfl (by decide) inX4 fX7_203 rfl (D (113, .getfield 203, 3) (mg 60 rfl)) rfl ?_
          refine X_ti (y := nI (n + 1)) ((u2_s _ _ _ _)) ?_
          exact X_iret C (D (116, .ireturn, 1) (mg 61 rfl)) ⟨fun _ => ⟨fun z => absurd z (by omega), fun _ => ⟨rfl, rfl, rfl⟩⟩, fun z => absurd (by omega) z⟩
        · skip
          have q19 : (n) ≥ (6) := by have z : ¬ ((n) < (6)) := fun u => q19 ((nI_ltI (a := (n)) (b := (6)) (by omega) (by omega)).mpr u); omega
          refine X_aload_n C 0 (D (43, .aload_n 0, 1) (mg 20 rfl)) rfl rfl ?_
          refine X_cV (As := []) (st := []) C (post := _) (x) (by omega) hsx rfl (ct_X7_refuseFull hw hC0 h g) kX7_91 (by decide) (by decide) rfl rfl (Nat.le_of_ble_eq_true rfl) (D (44, .invokevirtual 91, 3) (mg 21 rfl)) rfl (fun v22 H20 G21 hv22 => ?_)
          obtain ⟨rfl, rfl, rfl⟩ := hv22
          show X k w _ 47 [some (.ref (wA w (x))), some (.int (s)), some (.int (d)), some (.int (v)), none] [.int ((-4 : Int32))] (rcH h (x) 11) g
          exact X_iret C (D (47, .ireturn, 1) (mg 22 rfl)) ⟨fun _ => ⟨fun _ => ⟨rfl, rfl, rfl⟩, fun z => absurd (by omega) z⟩, fun z => absurd (by omega) z⟩
      · skip
        have q18 : ¬ (0 ≤ (v).toInt ∧ (v).toInt < ((10 : Nat) : Int)) := bz0.mp q18
        refine X_aload_n C 0 (D (26, .aload_n 0, 1) (mg 12 rfl)) rfl rfl ?_
        refine X_cV (As := []) (st := []) C (post := _) (x) (by omega) hsx rfl (ct_X7_refuseBad hw hC0 h g) kX7_57 (by decide) (by decide) rfl rfl (Nat.le_of_ble_eq_true rfl) (D (27, .invokevirtual 57, 3) (mg 13 rfl)) rfl (fun v25 H23 G24 hv25 => ?_)
        obtain ⟨rfl, rfl, rfl⟩ := hv25
        show X k w _ 30 [some (.ref (wA w (x))), some (.int (s)), some (.int (d)), some (.int (v)), none] [.int ((-2 : Int32))] (rcH h (x) 9) g
        exact X_iret C (D (30, .ireturn, 1) (mg 14 rfl)) ⟨fun z => absurd z (by omega), fun _ => ⟨rfl, rfl, rfl⟩⟩
set_option maxHeartbeats 4000000 in
set_option maxRecDepth 100000 in
theorem ct_X7_forget {l : Launch} {w : Kw} (hw : wOk w) {x : Nat} (hC : shC w x) (a1 : Int32) (h : xI) (g : xJ)  : Ct l w yX7_forget cX7_forget 3 (some .int) 1 21 [.ref (wA w (x)), .int (a1)] h g (pif (0 ≤ a1.toInt ∧ a1.toInt < 2) (pif (a1 = 0) (px (some (.int (h (x + 1) 4))) (u2 h (x + 1) 4 (nI 0)) g) (px (some (.int (h (x + 1) 5))) (u2 h (x + 1) 5 (nI 0)) g)) (px (some (.int (-2 : Int32))) (rcH h x 9) g)) := by
  refine Ct_of (ls := [some (.ref (wA w (x))), some (.int (a1)), none]) (by decide) hw (Nat.le_of_ble_eq_true rfl) rfl (fun k hkl C => ?_)
  have C : Cx k w cX7_forget RX7 3 (some .int) 1 21 := C
  have D := dtX7_forget
  subst hkl
  have hC0 := hC
  obtain ⟨hxn, hsx, hT, hsi, hTa, hTb, hsk, hNs, hY, hX, hsv⟩ := hC
  have hY2 := hY.1
  have hX2 := hX.1
  refine X_iload_n C 1 (D (0, .iload_n 1, 1) (mg 0 rfl)) rfl rfl ?_
  refine X_iconst (v := nI (2)) C (D (1, .iconst 2, 1) (mg 1 rfl)) (by decide) ?_
  refine X_cS (As := [.int (a1), .int (nI (2))]) (st := []) C (post := _) (ct_X7_isBelow hw (a1) (B := 2) (by decide) h g) kX7_53 (by decide) (by decide) rfl rfl (Nat.le_of_ble_eq_true rfl) (D (2, .invokestatic 53, 3) (mg 2 rfl)) rfl (fun v3 H1 G2 hv3 => ?_)
  obtain ⟨rfl, rfl, rfl⟩ := hv3
  show X k w _ 5 [some (.ref (wA w (x))), some (.int (a1)), none] [.int (if 0 ≤ (a1).toInt ∧ (a1).toInt < ((2 : Nat) : Int) then 1 else 0)] h g
  refine X_if_ne (tgt := 13) C (D (5, .ifCond .ne 8, 3) (mg 3 rfl)) (by decide) (fun q4 => ?_) (fun q4 => ?_)
  · skip
    have q4 : (0 ≤ (a1).toInt ∧ (a1).toInt < ((2 : Nat) : Int)) := bz1.mp q4
    refine X_iload_n C 1 (D (13, .iload_n 1, 1) (mg 7 rfl)) rfl rfl ?_
    refine X_if_ne (tgt := 27) C (D (14, .ifCond .ne 13, 3) (mg 8 rfl)) (by decide) (fun q5 => ?_) (fun q5 => ?_)
    · skip
      refine X_aload_n C 0 (D (27, .aload_n 0, 1) (mg 13 rfl)) rfl rfl ?_
      refine X_get (v := .ref (wA w (x + 1))) C (x) 0 (by omega) hsx rfl rfl (by decide) inX7 fX7_10 rfl (D (28, .getfield 10, 3) (mg 14 rfl)) rfl ?_
      refine X_get (v := .int (h (x + 1) 5)) C (x + 1) 5 (by omega) hT.2.1 rfl rfl (by decide) inX4 fX7_203 rfl (D (31, .getfield 203, 3) (mg 15 rfl)) rfl ?_
      refine X_istore_n (ls' := [some (.ref (wA w (x))), some (.int (a1)), some (.int (h (x + 1) 5))]) C 2 (D (34, .istore_n 2, 1) (mg 16 rfl)) rfl (Nat.le_of_ble_eq_true rfl) rfl ?_
      refine X_iload_n C 1 (D (35, .iload_n 1, 1) (mg 17 rfl)) rfl rfl ?_
      refine X_if_ne (tgt := 50) C (D (36, .ifCond .ne 14, 3) (mg 18 rfl)) (by decide) (fun q6 => ?_) (fun q6 => ?_)
      · skip
        refine X_aload_n C 0 (D (50, .aload_n 0, 1) (mg 24 rfl)) rfl rfl ?_
        refine X_get (v := .ref (wA w (x + 1))) C (x) 0 (by omega) hsx rfl rfl (by decide) inX7 fX7_10 rfl (D (51, .getfield 10, 3) (mg 25 rfl)) rfl ?_
        refine X_iconst (v := nI (0)) C (D (54, .iconst 0, 1) (mg 26 rfl)) (by decide) ?_
        refine X_putI C (x + 1) 5 tyX4 tyX4_ok nmX4 (by omega) hT.2.1 rfl rfl (by decide) inX4 fX7_203 rfl rfl (by decide +kernel) (D (55, .putfield 203, 3) (mg 27 rfl)) ?_
        refine X_iload_n C 2 (D (58, .iload_n 2, 1) (mg 28 rfl)) rfl rfl ?_
        exact X_iret C (D (59, .ireturn, 1) (mg 29 rfl)) ⟨fun _ => ⟨fun z => absurd z (by assumption), fun _ => ⟨rfl, rfl, rfl⟩⟩, fun z => absurd (by omega) z⟩
      · skip
        refine X_aload_n C 0 (D (39, .aload_n 0, 1) (mg 19 rfl)) rfl rfl ?_
        refine X_get (v := .ref (wA w (x + 1))) C (x) 0 (by omega) hsx rfl rfl (by decide) inX7 fX7_10 rfl (D (40, .getfield 10, 3) (mg 20 rfl)) rfl ?_
        refine X_iconst (v := nI (0)) C (D (43, .iconst 0, 1) (mg 21 rfl)) (by decide) ?_
        refine X_putI C (x + 1) 4 tyX4 tyX4_ok nmX4 (by omega) hT.2.1 rfl rfl (by decide) inX4 fX7_185 rfl rfl (by decide +kernel) (D (44, .putfield 185, 3) (mg 22 rfl)) ?_
        refine X_goto (tgt := 58) C (D (47, .goto 11, 3) (mg 23 rfl)) (by decide) ?_
        refine X_iload_n C 2 (D (58, .iload_n 2, 1) (mg 28 rfl)) rfl rfl ?_
        exact X_iret C (D (59, .ireturn, 1) (mg 29 rfl)) (absurd (by assumption : a1 = 0) (by assumption))
    · skip
      refine X_aload_n C 0 (D (17, .aload_n 0, 1) (mg 9 rfl)) rfl rfl ?_
      refine X_get (v := .ref (wA w (x + 1))) C (x) 0 (by omega) hsx rfl rfl (by decide) inX7 fX7_10 rfl (D (18, .getfield 10, 3) (mg 10 rfl)) rfl ?_
      refine X_get (v := .int (h (x + 1) 4)) C (x + 1) 4 (by omega) hT.2.1 rfl rfl (by decide) inX4 fX7_185 rfl (D (21, .getfield 185, 3) (mg 11 rfl)) rfl ?_
      refine X_goto (tgt := 34) C (D (24, .goto 10, 3) (mg 12 rfl)) (by decide) ?_
      refine X_istore_n (ls' := [some (.ref (wA w (x))), some (.int (a1)), some (.int (h (x + 1) 4))]) C 2 (D (34, .istore_n 2, 1) (mg 16 rfl)) rfl (Nat.le_of_ble_eq_true rfl) rfl ?_
      refine X_iload_n C 1 (D (35, .iload_n 1, 1) (mg 17 rfl)) rfl rfl ?_
      refine X_if_ne (tgt := 50) C (D (36, .ifCond .ne 14, 3) (mg 18 rfl)) (by decide) (fun q7 => ?_) (fun q7 => ?_)
      · skip
        refine X_aload_n C 0 (D (50, .aload_n 0, 1) (mg 24 rfl)) rfl rfl ?_
        refine X_get (v := .ref (wA w (x + 1))) C (x) 0 (by omega) hsx rfl rfl (by decide) inX7 fX7_10 rfl (D (51, .getfield 10, 3) (mg 25 rfl)) rfl ?_
        refine X_iconst (v := nI (0)) C (D (54, .iconst 0, 1) (mg 26 rfl)) (by decide) ?_
        refine X_putI C (x + 1) 5 tyX4 tyX4_ok nmX4 (by omega) hT.2.1 rfl rfl (by decide) inX4 fX7_203 rfl rfl (by decide +kernel) (D (55, .putfield 203, 3) (mg 27 rfl)) ?_
        refine X_iload_n C 2 (D (58, .iload_n 2, 1) (mg 28 rfl)) rfl rfl ?_
        exact X_iret C (D (59, .ireturn, 1) (mg 29 rfl)) (absurd (by assumption : a1 = 0) (by assumption))
      · skip
        refine X_aload_n C 0 (D (39, .aload_n 0, 1) (mg 19 rfl)) rfl rfl ?_
        refine X_get (v := .ref (wA w (x + 1))) C (x) 0 (by omega) hsx rfl rfl (by decide) inX7 fX7_10 rfl (D (40, .getfield 10, 3) (mg 20 rfl)) rfl ?_
        refine X_iconst (v := nI (0)) C (D (43, .iconst 0, 1) (mg 21 rfl)) (by decide) ?_
        refine X_putI C (x + 1) 4 tyX4 tyX4_ok nmX4 (by omega) hT.2.1 rfl rfl (by decide) inX4 fX7_185 rfl rfl (by decide +kernel) (D (44, .putfield 185, 3) (mg 22 rfl)) ?_
        refine X_goto (tgt := 58) C (D (47, .goto 11, 3) (mg 23 rfl)) (by decide) ?_
        refine X_iload_n C 2 (D (58, .iload_n 2, 1) (mg 28 rfl)) rfl rfl ?_
        exact X_iret C (D (59, .ireturn, 1) (mg 29 rfl)) ⟨fun _ => ⟨fun _ => ⟨rfl, rfl, rfl⟩, fun z => absurd (by assumption) z⟩, fun z => absurd (by omega) z⟩
  · skip
    have q4 : ¬ (0 ≤ (a1).toInt ∧ (a1).toInt < ((2 : Nat) : Int)) := bz0.mp q4
    refine X_aload_n C 0 (D (8, .aload_n 0, 1) (mg 4 rfl)) rfl rfl ?_
    refine X_cV (As := []) (st := []) C (post := _) (x) (by omega) hsx rfl (ct_X7_refuseBad hw hC0 h g) kX7_57 (by decide) (by decide) rfl rfl (Nat.le_of_ble_eq_true rfl) (D (9, .invokevirtual 57, 3) (mg 5 rfl)) rfl (fun v10 H8 G9 hv10 => ?_)
    obtain ⟨rfl, rfl, rfl⟩ := hv10
    show X k w _ 12 [some (.ref (wA w (x))), some (.int (a1)), none] [.int ((-2 : Int32))] (rcH h (x) 9) g
    exact X_iret C (D (12, .ireturn, 1) (mg 6 rfl)) ⟨fun z => absurd z (by omega), fun _ => ⟨rfl, rfl, rfl⟩⟩
theorem nb01 {a : Int32} (h : ¬ (0 ≤ a.toInt ∧ a.toInt < ((2 : Nat) : Int))) : ¬ a = 0 ∧ ¬ a = 1 := by
  refine ⟨fun e => h ?_, fun e => h ?_⟩ <;> rw [e] <;> decide
set_option maxHeartbeats 4000000 in
set_option maxRecDepth 100000 in
theorem ct_X7_image {l : Launch} {w : Kw} (hw : wOk w) {x : Nat} (hC : shC w x) (a1 : Int32) (h : xI) (g : xJ)  : Ct l w yX7_image cX7_image 2 (some .int) 3 68 [.ref (wA w (x)), .int (a1)] h g (pif (a1 = 0) (px (some (.int (nI 1))) (u2 (taH h (x + 10) (x + 1)) (x + 26) 0 (vp_nar .boolean (nI 1))) g) (pif (a1 = 1) (px (some (.int (nI 1))) (u2 (taH h (x + 18) (x + 1)) (x + 26) 1 (vp_nar .boolean (nI 1))) g) (px (some (.int (-2 : Int32))) (rcH h x 9) g))) := by
  refine Ct_of (ls := [some (.ref (wA w (x))), some (.int (a1))]) (by decide) hw (Nat.le_of_ble_eq_true rfl) rfl (fun k hkl C => ?_)
  have C : Cx k w cX7_image RX7 2 (some .int) 3 68 := C
  have D := dtX7_image
  subst hkl
  have hC0 := hC
  obtain ⟨hxn, hsx, hT, hsi, hTa, hTb, hsk, hNs, hY, hX, hsv⟩ := hC
  have hY2 := hY.1
  have hX2 := hX.1
  refine X_iload_n C 1 (D (0, .iload_n 1, 1) (mg 0 rfl)) rfl rfl ?_
  refine X_iconst (v := nI (2)) C (D (1, .iconst 2, 1) (mg 1 rfl)) (by decide) ?_
  refine X_cS (As := [.int (a1), .int (nI (2))]) (st := []) C (post := _) (ct_X7_isBelow hw (a1) (B := 2) (by decide) h g) kX7_53 (by decide) (by decide) rfl rfl (Nat.le_of_ble_eq_true rfl) (D (2, .invokestatic 53, 3) (mg 2 rfl)) rfl (fun v3 H1 G2 hv3 => ?_)
  obtain ⟨rfl, rfl, rfl⟩ := hv3
  show X k w _ 5 [some (.ref (wA w (x))), some (.int (a1))] [.int (if 0 ≤ (a1).toInt ∧ (a1).toInt < ((2 : Nat) : Int) then 1 else 0)] h g
  refine X_if_ne (tgt := 13) C (D (5, .ifCond .ne 8, 3) (mg 3 rfl)) (by decide) (fun q4 => ?_) (fun q4 => ?_)
  · skip
    have q4 : (0 ≤ (a1).toInt ∧ (a1).toInt < ((2 : Nat) : Int)) := bz1.mp q4
    obtain ⟨n5, hn5, rfl⟩ := nI_i (x := a1) (n := 2) q4.1 (by omega)
    rcases (by omega : n5 = 0 ∨ n5 = 1) with rfl | rfl
    · skip
      refine X_aload_n C 0 (D (13, .aload_n 0, 1) (mg 7 rfl)) rfl rfl ?_
      refine X_get (v := .ref (wA w (x + 9))) C (x) 1 (by omega) hsx rfl rfl (by decide) inX7 fX7_16 rfl (D (14, .getfield 16, 3) (mg 8 rfl)) rfl ?_
      refine X_iload_n C 1 (D (17, .iload_n 1, 1) (mg 9 rfl)) rfl rfl ?_
      refine X_aald C (x + 9) (x + 10) (by omega) hsi (vp_in_nI (Nat.le_of_ble_eq_true rfl) (Nat.le_of_ble_eq_true rfl)) rfl (D (18, .aaload, 1) (mg 10 rfl)) ?_
      refine X_aload_n C 0 (D (19, .aload_n 0, 1) (mg 11 rfl)) rfl rfl ?_
      refine X_get (v := .ref (wA w (x + 1))) C (x) 0 (by omega) hsx rfl rfl (by decide) inX7 fX7_10 rfl (D (20, .getfield 10, 3) (mg 12 rfl)) rfl ?_
      refine X_cV (As := [.ref (wA w (x + 1))]) (st := []) C (post := _) (x + 10) (by omega) hTa.2.1 rfl (ct_X4_takeFrom hw (t := x + 10) (o := x + 1) hTa hT h g) kX7_249 (by decide) (by decide) rfl rfl (Nat.le_of_ble_eq_true rfl) (D (23, .invokevirtual 249, 3) (mg 13 rfl)) rfl (fun v8 H6 G7 hv8 => ?_)
      obtain ⟨rfl, rfl, rfl⟩ := hv8
      show X k w _ 26 [some (.ref (wA w (x))), some (.int (nI (0)))] [] (taH h (x + 10) (x + 1)) g
      refine X_aload_n C 0 (D (26, .aload_n 0, 1) (mg 14 rfl)) rfl rfl ?_
      refine X_get (v := .ref (wA w (x + 26))) C (x) 2 (by omega) hsx rfl rfl (by decide) inX7 fX7_20 rfl (D (27, .getfield 20, 3) (mg 15 rfl)) rfl ?_
      refine X_iload_n C 1 (D (30, .iload_n 1, 1) (mg 16 rfl)) rfl rfl ?_
      refine X_iconst (v := nI (1)) C (D (31, .iconst 1, 1) (mg 17 rfl)) (by decide) ?_
      refine X_zast (j := 0) C (x + 26) (by omega) hsk (vp_in_nI (by omega) (by omega)) (D (32, .bastore, 1) (mg 18 rfl)) (nI_clamp (by omega)) ?_
      refine X_iconst (v := nI (1)) C (D (33, .iconst 1, 1) (mg 19 rfl)) (by decide) ?_
      exact X_iret C (D (34, .ireturn, 1) (mg 20 rfl)) ⟨fun _ => ⟨rfl, rfl, rfl⟩, fun z => absurd (by decide) z⟩
    · skip
      refine X_aload_n C 0 (D (13, .aload_n 0, 1) (mg 7 rfl)) rfl rfl ?_
      refine X_get (v := .ref (wA w (x + 9))) C (x) 1 (by omega) hsx rfl rfl (by decide) inX7 fX7_16 rfl (D (14, .getfield 16, 3) (mg 8 rfl)) rfl ?_
      refine X_iload_n C 1 (D (17, .iload_n 1, 1) (mg 9 rfl)) rfl rfl ?_
      refine X_aald C (x + 9) (x + 18) (by omega) hsi (vp_in_nI (Nat.le_of_ble_eq_true rfl) (Nat.le_of_ble_eq_true rfl)) rfl (D (18, .aaload, 1) (mg 10 rfl)) ?_
      refine X_aload_n C 0 (D (19, .aload_n 0, 1) (mg 11 rfl)) rfl rfl ?_
      refine X_get (v := .ref (wA w (x + 1))) C (x) 0 (by omega) hsx rfl rfl (by decide) inX7 fX7_10 rfl (D (20, .getfield 10, 3) (mg 12 rfl)) rfl ?_
      refine X_cV (As := [.ref (wA w (x + 1))]) (st := []) C (post := _) (x + 18) (by omega) hTb.2.1 rfl (ct_X4_takeFrom hw (t := x + 18) (o := x + 1) hTb hT h g) kX7_249 (by decide) (by decide) rfl rfl (Nat.le_of_ble_eq_true rfl) (D (23, .invokevirtual 249, 3) (mg 13 rfl)) rfl (fun v11 H9 G10 hv11 => ?_)
      obtain ⟨rfl, rfl, rfl⟩ := hv11
      show X k w _ 26 [some (.ref (wA w (x))), some (.int (nI (1)))] [] (taH h (x + 18) (x + 1)) g
      refine X_aload_n C 0 (D (26, .aload_n 0, 1) (mg 14 rfl)) rfl rfl ?_
      refine X_get (v := .ref (wA w (x + 26))) C (x) 2 (by omega) hsx rfl rfl (by decide) inX7 fX7_20 rfl (D (27, .getfield 20, 3) (mg 15 rfl)) rfl ?_
      refine X_iload_n C 1 (D (30, .iload_n 1, 1) (mg 16 rfl)) rfl rfl ?_
      refine X_iconst (v := nI (1)) C (D (31, .iconst 1, 1) (mg 17 rfl)) (by decide) ?_
      refine X_zast (j := 1) C (x + 26) (by omega) hsk (vp_in_nI (by omega) (by omega)) (D (32, .bastore, 1) (mg 18 rfl)) (nI_clamp (by omega)) ?_
      refine X_iconst (v := nI (1)) C (D (33, .iconst 1, 1) (mg 19 rfl)) (by decide) ?_
      exact X_iret C (D (34, .ireturn, 1) (mg 20 rfl)) ⟨fun z => absurd z (by decide), fun _ => ⟨fun _ => ⟨rfl, rfl, rfl⟩, fun z => absurd (by decide) z⟩⟩
  · skip
    have q4 : ¬ (0 ≤ (a1).toInt ∧ (a1).toInt < ((2 : Nat) : Int)) := bz0.mp q4
    refine X_aload_n C 0 (D (8, .aload_n 0, 1) (mg 4 rfl)) rfl rfl ?_
    refine X_cV (As := []) (st := []) C (post := _) (x) (by omega) hsx rfl (ct_X7_refuseBad hw hC0 h g) kX7_57 (by decide) (by decide) rfl rfl (Nat.le_of_ble_eq_true rfl) (D (9, .invokevirtual 57, 3) (mg 5 rfl)) rfl (fun v14 H12 G13 hv14 => ?_)
    obtain ⟨rfl, rfl, rfl⟩ := hv14
    show X k w _ 12 [some (.ref (wA w (x))), some (.int (a1))] [.int ((-2 : Int32))] (rcH h (x) 9) g
    exact X_iret C (D (12, .ireturn, 1) (mg 6 rfl)) ⟨fun z => absurd z (nb01 (by assumption)).1, fun _ => ⟨fun z => absurd z (nb01 (by assumption)).2, fun _ => ⟨rfl, rfl, rfl⟩⟩⟩
set_option maxHeartbeats 4000000 in
set_option maxRecDepth 100000 in
theorem ct_X7_from {l : Launch} {w : Kw} (hw : wOk w) {x : Nat} (hC : shC w x) (a1 : Int32) (h : xI) (g : xJ)  : Ct l w yX7_from cX7_from 2 (some .int) 3 68 [.ref (wA w (x)), .int (a1)] h g (pif (a1 = 0) (pif (h (x + 26) 0 = 0) (px (some (.int (-3 : Int32))) (rcH h x 10) g) (px (some (.int (nI 1))) (taH h (x + 1) (x + 10)) g)) (pif (a1 = 1) (pif (h (x + 26) 1 = 0) (px (some (.int (-3 : Int32))) (rcH h x 10) g) (px (some (.int (nI 1))) (taH h (x + 1) (x + 18)) g)) (px (some (.int (-2 : Int32))) (rcH h x 9) g))) := by
  refine Ct_of (ls := [some (.ref (wA w (x))), some (.int (a1))]) (by decide) hw (Nat.le_of_ble_eq_true rfl) rfl (fun k hkl C => ?_)
  have C : Cx k w cX7_from RX7 2 (some .int) 3 68 := C
  have D := dtX7_from
  subst hkl
  have hC0 := hC
  obtain ⟨hxn, hsx, hT, hsi, hTa, hTb, hsk, hNs, hY, hX, hsv⟩ := hC
  have hY2 := hY.1
  have hX2 := hX.1
  refine X_iload_n C 1 (D (0, .iload_n 1, 1) (mg 0 rfl)) rfl rfl ?_
  refine X_iconst (v := nI (2)) C (D (1, .iconst 2, 1) (mg 1 rfl)) (by decide) ?_
  refine X_cS (As := [.int (a1), .int (nI (2))]) (st := []) C (post := _) (ct_X7_isBelow hw (a1) (B := 2) (by decide) h g) kX7_53 (by decide) (by decide) rfl rfl (Nat.le_of_ble_eq_true rfl) (D (2, .invokestatic 53, 3) (mg 2 rfl)) rfl (fun v3 H1 G2 hv3 => ?_)
  obtain ⟨rfl, rfl, rfl⟩ := hv3
  show X k w _ 5 [some (.ref (wA w (x))), some (.int (a1))] [.int (if 0 ≤ (a1).toInt ∧ (a1).toInt < ((2 : Nat) : Int) then 1 else 0)] h g
  refine X_if_ne (tgt := 13) C (D (5, .ifCond .ne 8, 3) (mg 3 rfl)) (by decide) (fun q4 => ?_) (fun q4 => ?_)
  · skip
    have q4 : (0 ≤ (a1).toInt ∧ (a1).toInt < ((2 : Nat) : Int)) := bz1.mp q4
    obtain ⟨n5, hn5, rfl⟩ := nI_i (x := a1) (n := 2) q4.1 (by omega)
    rcases (by omega : n5 = 0 ∨ n5 = 1) with rfl | rfl
    · skip
      refine X_aload_n C 0 (D (13, .aload_n 0, 1) (mg 7 rfl)) rfl rfl ?_
      refine X_get (v := .ref (wA w (x + 26))) C (x) 2 (by omega) hsx rfl rfl (by decide) inX7 fX7_20 rfl (D (14, .getfield 20, 3) (mg 8 rfl)) rfl ?_
      refine X_iload_n C 1 (D (17, .iload_n 1, 1) (mg 9 rfl)) rfl rfl ?_
      refine X_zald (v := h (x + 26) (0)) C (x + 26) (by omega) hsk (vp_in_nI (by omega) (by omega)) (D (18, .baload, 1) (mg 10 rfl)) (by rw [nI_clamp (by omega)]) ?_
      refine X_if_ne (tgt := 27) C (D (19, .ifCond .ne 8, 3) (mg 11 rfl)) (by decide) (fun q6 => ?_) (fun q6 => ?_)
      · skip
        refine X_aload_n C 0 (D (27, .aload_n 0, 1) (mg 15 rfl)) rfl rfl ?_
        refine X_get (v := .ref (wA w (x + 1))) C (x) 0 (by omega) hsx rfl rfl (by decide) inX7 fX7_10 rfl (D (28, .getfield 10, 3) (mg 16 rfl)) rfl ?_
        refine X_aload_n C 0 (D (31, .aload_n 0, 1) (mg 17 rfl)) rfl rfl ?_
        refine X_get (v := .ref (wA w (x + 9))) C (x) 1 (by omega) hsx rfl rfl (by decide) inX7 fX7_16 rfl (D (32, .getfield 16, 3) (mg 18 rfl)) rfl ?_
        refine X_iload_n C 1 (D (35, .iload_n 1, 1) (mg 19 rfl)) rfl rfl ?_
        refine X_aald C (x + 9) (x + 10) (by omega) hsi (vp_in_nI (Nat.le_of_ble_eq_true rfl) (Nat.le_of_ble_eq_true rfl)) rfl (D (36, .aaload, 1) (mg 20 rfl)) ?_
        refine X_cV (As := [.ref (wA w (x + 10))]) (st := []) C (post := _) (x + 1) (by omega) hT.2.1 rfl (ct_X4_takeFrom hw (t := x + 1) (o := x + 10) hT hTa h g) kX7_249 (by decide) (by decide) rfl rfl (Nat.le_of_ble_eq_true rfl) (D (37, .invokevirtual 249, 3) (mg 21 rfl)) rfl (fun v9 H7 G8 hv9 => ?_)
        obtain ⟨rfl, rfl, rfl⟩ := hv9
        show X k w _ 40 [some (.ref (wA w (x))), some (.int (nI (0)))] [] (taH h (x + 1) (x + 10)) g
        refine X_iconst (v := nI (1)) C (D (40, .iconst 1, 1) (mg 22 rfl)) (by decide) ?_
        exact X_iret C (D (41, .ireturn, 1) (mg 23 rfl)) ⟨fun _ => ⟨fun z => absurd z (by assumption), fun _ => ⟨rfl, rfl, rfl⟩⟩, fun z => absurd (by decide) z⟩
      · skip
        refine X_aload_n C 0 (D (22, .aload_n 0, 1) (mg 12 rfl)) rfl rfl ?_
        refine X_cV (As := []) (st := []) C (post := _) (x) (by omega) hsx rfl (ct_X7_refuseNo hw hC0 h g) kX7_109 (by decide) (by decide) rfl rfl (Nat.le_of_ble_eq_true rfl) (D (23, .invokevirtual 109, 3) (mg 13 rfl)) rfl (fun v12 H10 G11 hv12 => ?_)
        obtain ⟨rfl, rfl, rfl⟩ := hv12
        show X k w _ 26 [some (.ref (wA w (x))), some (.int (nI (0)))] [.int ((-3 : Int32))] (rcH h (x) 10) g
        exact X_iret C (D (26, .ireturn, 1) (mg 14 rfl)) ⟨fun _ => ⟨fun _ => ⟨rfl, rfl, rfl⟩, fun z => absurd (by assumption) z⟩, fun z => absurd (by decide) z⟩
    · skip
      refine X_aload_n C 0 (D (13, .aload_n 0, 1) (mg 7 rfl)) rfl rfl ?_
      refine X_get (v := .ref (wA w (x + 26))) C (x) 2 (by omega) hsx rfl rfl (by decide) inX7 fX7_20 rfl (D (14, .getfield 20, 3) (mg 8 rfl)) rfl ?_
      refine X_iload_n C 1 (D (17, .iload_n 1, 1) (mg 9 rfl)) rfl rfl ?_
      refine X_zald (v := h (x + 26) (1)) C (x + 26) (by omega) hsk (vp_in_nI (by omega) (by omega)) (D (18, .baload, 1) (mg 10 rfl)) (by rw [nI_clamp (by omega)]) ?_
      refine X_if_ne (tgt := 27) C (D (19, .ifCond .ne 8, 3) (mg 11 rfl)) (by decide) (fun q13 => ?_) (fun q13 => ?_)
      · skip
        refine X_aload_n C 0 (D (27, .aload_n 0, 1) (mg 15 rfl)) rfl rfl ?_
        refine X_get (v := .ref (wA w (x + 1))) C (x) 0 (by omega) hsx rfl rfl (by decide) inX7 fX7_10 rfl (D (28, .getfield 10, 3) (mg 16 rfl)) rfl ?_
        refine X_aload_n C 0 (D (31, .aload_n 0, 1) (mg 17 rfl)) rfl rfl ?_
        refine X_get (v := .ref (wA w (x + 9))) C (x) 1 (by omega) hsx rfl rfl (by decide) inX7 fX7_16 rfl (D (32, .getfield 16, 3) (mg 18 rfl)) rfl ?_
        refine X_iload_n C 1 (D (35, .iload_n 1, 1) (mg 19 rfl)) rfl rfl ?_
        refine X_aald C (x + 9) (x + 18) (by omega) hsi (vp_in_nI (Nat.le_of_ble_eq_true rfl) (Nat.le_of_ble_eq_true rfl)) rfl (D (36, .aaload, 1) (mg 20 rfl)) ?_
        refine X_cV (As := [.ref (wA w (x + 18))]) (st := []) C (post := _) (x + 1) (by omega) hT.2.1 rfl (ct_X4_takeFrom hw (t := x + 1) (o := x + 18) hT hTb h g) kX7_249 (by decide) (by decide) rfl rfl (Nat.le_of_ble_eq_true rfl) (D (37, .invokevirtual 249, 3) (mg 21 rfl)) rfl (fun v16 H14 G15 hv16 => ?_)
        obtain ⟨rfl, rfl, rfl⟩ := hv16
        show X k w _ 40 [some (.ref (wA w (x))), some (.int (nI (1)))] [] (taH h (x + 1) (x + 18)) g
        refine X_iconst (v := nI (1)) C (D (40, .iconst 1, 1) (mg 22 rfl)) (by decide) ?_
        exact X_iret C (D (41, .ireturn, 1) (mg 23 rfl)) ⟨fun z => absurd z (by decide), fun _ => ⟨fun _ => ⟨fun z => absurd z (by assumption), fun _ => ⟨rfl, rfl, rfl⟩⟩, fun z => absurd (by decide) z⟩⟩
      · skip
        refine X_aload_n C 0 (D (22, .aload_n 0, 1) (mg 12 rfl)) rfl rfl ?_
        refine X_cV (As := []) (st := []) C (post := _) (x) (by omega) hsx rfl (ct_X7_refuseNo hw hC0 h g) kX7_109 (by decide) (by decide) rfl rfl (Nat.le_of_ble_eq_true rfl) (D (23, .invokevirtual 109, 3) (mg 13 rfl)) rfl (fun v19 H17 G18 hv19 => ?_)
        obtain ⟨rfl, rfl, rfl⟩ := hv19
        show X k w _ 26 [some (.ref (wA w (x))), some (.int (nI (1)))] [.int ((-3 : Int32))] (rcH h (x) 10) g
        exact X_iret C (D (26, .ireturn, 1) (mg 14 rfl)) ⟨fun z => absurd z (by decide), fun _ => ⟨fun _ => ⟨fun _ => ⟨rfl, rfl, rfl⟩, fun z => absurd (by assumption) z⟩, fun z => absurd (by decide) z⟩⟩
  · skip
    have q4 : ¬ (0 ≤ (a1).toInt ∧ (a1).toInt < ((2 : Nat) : Int)) := bz0.mp q4
    refine X_aload_n C 0 (D (8, .aload_n 0, 1) (mg 4 rfl)) rfl rfl ?_
    refine X_cV (As := []) (st := []) C (post := _) (x) (by omega) hsx rfl (ct_X7_refuseBad hw hC0 h g) kX7_57 (by decide) (by decide) rfl rfl (Nat.le_of_ble_eq_true rfl) (D (9, .invokevirtual 57, 3) (mg 5 rfl)) rfl (fun v22 H20 G21 hv22 => ?_)
    obtain ⟨rfl, rfl, rfl⟩ := hv22
    show X k w _ 12 [some (.ref (wA w (x))), some (.int (a1))] [.int ((-2 : Int32))] (rcH h (x) 9) g
    exact X_iret C (D (12, .ireturn, 1) (mg 6 rfl)) ⟨fun z => absurd z (nb01 (by assumption)).1, fun _ => ⟨fun z => absurd z (nb01 (by assumption)).2, fun _ => ⟨rfl, rfl, rfl⟩⟩⟩
