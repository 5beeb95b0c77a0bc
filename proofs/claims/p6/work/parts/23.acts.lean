/-! THE CLASS, 6: says, drags, reaps, weeks, undo, way, three, years -/
set_option maxHeartbeats 4000000 in
set_option maxRecDepth 100000 in
theorem ct_X7_says {l : Launch} {w : Kw} (hw : wOk w) {x : Nat} (hC : shC w x) (a1 a2 : Int32) (h : xI) (g : xJ) (hI : cOk h x) : Ct l w yX7_says cX7_says 3 (some .int) 2 48 [.ref (wA w (x)), .int (a1), .int (a2)] h g (pQ (wI x h)) := by
  refine Ct_of (ls := [some (.ref (wA w (x))), some (.int (a1)), some (.int (a2))]) (by decide) hw (Nat.le_of_ble_eq_true rfl) rfl (fun k hkl C => ?_)
  have C : Cx k w cX7_says RX7 3 (some .int) 2 48 := C
  have D := dtX7_says
  subst hkl
  have hC0 := hC
  obtain ⟨hxn, hsx, hT, hsi, hTa, hTb, hsk, hNs, hY, hX, hsv⟩ := hC
  have hY2 := hY.1
  have hX2 := hX.1
  have hI0 := hI
  obtain ⟨⟨⟨c0, hc0, hat⟩, hpa, ⟨ns, hns, hse⟩, ⟨nm, hnm, hma⟩⟩, -, -, ⟨nt, hnt, htx⟩, ⟨ct, hct, hatx⟩⟩ := hI
  have hI := hI0
  refine X_iload_n C 1 (D (0, .iload_n 1, 1) (mg 0 rfl)) rfl rfl ?_
  refine X_bipush (v := nI (25)) C (D (1, .bipush 25, 2) (mg 1 rfl)) (by decide) ?_
  refine X_cS (As := [.int (a1), .int (nI (25))]) (st := []) C (post := _) (ct_X7_isBelow hw (a1) (B := 25) (by decide) h g) kX7_53 (by decide) (by decide) rfl rfl (Nat.le_of_ble_eq_true rfl) (D (3, .invokestatic 53, 3) (mg 2 rfl)) rfl (fun v3 H1 G2 hv3 => ?_)
  obtain ⟨rfl, rfl, rfl⟩ := hv3
  show X k w _ 6 [some (.ref (wA w (x))), some (.int (a1)), some (.int (a2))] [.int (if 0 ≤ (a1).toInt ∧ (a1).toInt < ((25 : Nat) : Int) then 1 else 0)] h g
  refine X_if_eq (tgt := 18) C (D (6, .ifCond .eq 12, 3) (mg 3 rfl)) (by decide) (fun q4 => ?_) (fun q4 => ?_)
  · skip
    have q4 : ¬ (0 ≤ (a1).toInt ∧ (a1).toInt < ((25 : Nat) : Int)) := bz0.mp q4
    refine X_aload_n C 0 (D (18, .aload_n 0, 1) (mg 8 rfl)) rfl rfl ?_
    refine X_cV (As := []) (st := []) C (post := _) (x) (by omega) hsx rfl (ct_X7_refuseBad hw hC0 h g) kX7_57 (by decide) (by decide) rfl rfl (Nat.le_of_ble_eq_true rfl) (D (19, .invokevirtual 57, 3) (mg 9 rfl)) rfl (fun v7 H5 G6 hv7 => ?_)
    obtain ⟨rfl, rfl, rfl⟩ := hv7
    show X k w _ 22 [some (.ref (wA w (x))), some (.int (a1)), some (.int (a2))] [.int ((-2 : Int32))] (rcH h (x) 9) g
    exact X_iret C (D (22, .ireturn, 1) (mg 10 rfl)) ⟨⟨_, rfl⟩, ⟨fun q i z0 => by have z := z0; unfold SW at z; rw [rcH_ne _ _ _ (by omega)], ⟨c0, (by omega), (((rcH_ne _ _ _ (by omega))).trans hat)⟩, (paOk_k (fun q i z => by rw [rcH_ne _ _ _ (by omega)]) hpa)⟩⟩
  · skip
    have q4 : (0 ≤ (a1).toInt ∧ (a1).toInt < ((25 : Nat) : Int)) := bz1.mp q4
    obtain ⟨n8, hn8, rfl⟩ := nI_i (x := a1) (n := 25) q4.1 (by omega)
    refine X_iload_n C 2 (D (9, .iload_n 2, 1) (mg 4 rfl)) rfl rfl ?_
    refine X_bipush (v := nI (6)) C (D (10, .bipush 6, 2) (mg 5 rfl)) (by decide) ?_
    refine X_cS (As := [.int (a2), .int (nI (6))]) (st := []) C (post := _) (ct_X7_isBelow hw (a2) (B := 6) (by decide) h g) kX7_53 (by decide) (by decide) rfl rfl (Nat.le_of_ble_eq_true rfl) (D (12, .invokestatic 53, 3) (mg 6 rfl)) rfl (fun v11 H9 G10 hv11 => ?_)
    obtain ⟨rfl, rfl, rfl⟩ := hv11
    show X k w _ 15 [some (.ref (wA w (x))), some (.int (nI (n8))), some (.int (a2))] [.int (if 0 ≤ (a2).toInt ∧ (a2).toInt < ((6 : Nat) : Int) then 1 else 0)] h g
    refine X_if_ne (tgt := 23) C (D (15, .ifCond .ne 8, 3) (mg 7 rfl)) (by decide) (fun q12 => ?_) (fun q12 => ?_)
    · skip
      have q12 : (0 ≤ (a2).toInt ∧ (a2).toInt < ((6 : Nat) : Int)) := bz1.mp q12
      obtain ⟨n13, hn13, rfl⟩ := nI_i (x := a2) (n := 6) q12.1 (by omega)
      refine X_aload_n C 0 (D (23, .aload_n 0, 1) (mg 11 rfl)) rfl rfl ?_
      refine X_get (v := .ref (wA w (x + 1))) C (x) 0 (by omega) hsx rfl rfl (by decide) inX7 fX7_10 rfl (D (24, .getfield 10, 3) (mg 12 rfl)) rfl ?_
      refine X_get (v := .ref (wA w (x + 2))) C (x + 1) 0 (by omega) hT.2.1 rfl rfl (by decide) inX4 fX7_61 rfl (D (27, .getfield 61, 3) (mg 13 rfl)) rfl ?_
      refine X_iload_n C 1 (D (30, .iload_n 1, 1) (mg 14 rfl)) rfl rfl ?_
      refine X_cV (As := [.int (nI (n8))]) (st := []) C (post := _) (x + 2) (by omega) hT.2.2.1.2.1 rfl (ct_X1_liesIn hw (n := x + 2) hT.2.2.1 (j := n8) (by omega) h g) kX7_105 (by decide) (by decide) rfl rfl (Nat.le_of_ble_eq_true rfl) (D (31, .invokevirtual 105, 3) (mg 15 rfl)) rfl (fun v16 H14 G15 hv16 => ?_)
      obtain ⟨rfl, rfl, rfl⟩ := hv16
      show X k w _ 34 [some (.ref (wA w (x))), some (.int (nI (n8))), some (.int (nI (n13)))] [.int (if ¬ h (x + 4) (n8) = (-1 : Int32) then 1 else 0)] h g
      refine X_if_eq (tgt := 42) C (D (34, .ifCond .eq 8, 3) (mg 16 rfl)) (by decide) (fun q17 => ?_) (fun q17 => ?_)
      · skip
        have q17 : ¬ (¬ h (x + 4) (n8) = (-1 : Int32)) := bz0.mp q17
        refine X_aload_n C 0 (D (42, .aload_n 0, 1) (mg 20 rfl)) rfl rfl ?_
        refine X_get (v := .ref (wA w (x + 1))) C (x) 0 (by omega) hsx rfl rfl (by decide) inX7 fX7_10 rfl (D (43, .getfield 10, 3) (mg 21 rfl)) rfl ?_
        refine X_get (v := .ref (wA w (x + 5))) C (x + 1) 1 (by omega) hT.2.1 rfl rfl (by decide) inX4 fX7_78 rfl (D (46, .getfield 78, 3) (mg 22 rfl)) rfl ?_
        refine X_aload_n C 0 (D (49, .aload_n 0, 1) (mg 23 rfl)) rfl rfl ?_
        refine X_get (v := .ref (wA w (x + 1))) C (x) 0 (by omega) hsx rfl rfl (by decide) inX7 fX7_10 rfl (D (50, .getfield 10, 3) (mg 24 rfl)) rfl ?_
        refine X_get (v := .ref (wA w (x + 2))) C (x + 1) 0 (by omega) hT.2.1 rfl rfl (by decide) inX4 fX7_61 rfl (D (53, .getfield 61, 3) (mg 25 rfl)) rfl ?_
        refine X_cV (As := [.ref (wA w (x + 2))]) (st := []) C (post := _) (x + 5) (by omega) hT.2.2.2.1.2.1 rfl (ct_X2_keep hw (p := x + 5) hT.2.2.2.1 (n := x + 2) hT.2.2.1 (by omega) h g hpa ⟨c0, (by omega), (hat)⟩) kX7_112 (by decide) (by decide) rfl rfl (Nat.le_of_ble_eq_true rfl) (D (56, .invokevirtual 112, 3) (mg 26 rfl)) rfl (fun v20 H18 G19 hv20 => ?_)
        obtain ⟨rfl, f21⟩ := hv20
        show X k w _ 59 [some (.ref (wA w (x))), some (.int (nI (n8))), some (.int (nI (n13)))] [] H18 G19
        refine X_aload_n C 0 (D (59, .aload_n 0, 1) (mg 27 rfl)) rfl rfl ?_
        refine X_get (v := .ref (wA w (x + 1))) C (x) 0 (by omega) hsx rfl rfl (by decide) inX7 fX7_10 rfl (D (60, .getfield 10, 3) (mg 28 rfl)) rfl ?_
        refine X_get (v := .ref (wA w (x + 2))) C (x + 1) 0 (by omega) hT.2.1 rfl rfl (by decide) inX4 fX7_61 rfl (D (63, .getfield 61, 3) (mg 29 rfl)) rfl ?_
        refine X_iload_n C 1 (D (66, .iload_n 1, 1) (mg 30 rfl)) rfl rfl ?_
        refine X_iload_n C 2 (D (67, .iload_n 2, 1) (mg 31 rfl)) rfl rfl ?_
        refine X_cV (As := [.int (nI (n8)), .int (nI (n13))]) (st := []) C (post := _) (x + 2) (by omega) hT.2.2.1.2.1 rfl (ct_X1_put hw (n := x + 2) hT.2.2.1 (j := n8) (by omega) (nI (n13)) H18 G19) kX7_115 (by decide) (by decide) rfl rfl (Nat.le_of_ble_eq_true rfl) (D (68, .invokevirtual 115, 3) (mg 32 rfl)) rfl (fun v24 H22 G23 hv24 => ?_)
        obtain ⟨rfl, rfl, rfl⟩ := hv24
        show X k w _ 71 [some (.ref (wA w (x))), some (.int (nI (n8))), some (.int (nI (n13)))] [] (u2 H18 (x + 4) (n8) (nI 1000 * (nI (n13)))) G19
        refine X_aload_n C 0 (D (71, .aload_n 0, 1) (mg 33 rfl)) rfl rfl ?_
        refine X_get (v := .ref (wA w (x + 1))) C (x) 0 (by omega) hsx rfl rfl (by decide) inX7 fX7_10 rfl (D (72, .getfield 10, 3) (mg 34 rfl)) rfl ?_
        refine X_get (v := .ref (wA w (x + 2))) C (x + 1) 0 (by omega) hT.2.1 rfl rfl (by decide) inX4 fX7_61 rfl (D (75, .getfield 61, 3) (mg 35 rfl)) rfl ?_
        refine X_cV (As := []) (st := []) C (post := _) (x + 2) (by omega) hT.2.2.1.2.1 rfl (ct_X1_filled hw (n := x + 2) hT.2.2.1  (u2 H18 (x + 4) (n8) (nI 1000 * (nI (n13)))) G19) kX7_64 (by decide) (by decide) rfl rfl (Nat.le_of_ble_eq_true rfl) (D (78, .invokevirtual 64, 3) (mg 36 rfl)) rfl (fun v27 H25 G26 hv27 => ?_)
        obtain ⟨⟨y28, rfl⟩, rfl, rfl⟩ := hv27
        show X k w _ 81 [some (.ref (wA w (x))), some (.int (nI (n8))), some (.int (nI (n13)))] [.int (y28)] (u2 H18 (x + 4) (n8) (nI 1000 * (nI (n13)))) G19
        exact X_iret C (D (81, .ireturn, 1) (mg 37 rfl)) ⟨⟨_, rfl⟩, ⟨fun q i z0 => by have z := z0; unfold SW at z; rw [u2_ne _ _ _ _ (by omega), f21.1 _ _ (by omega) (by omega)], ⟨c0, (by omega), ((((u2_p _ _ _ _ (by omega))).trans (f21.1 _ _ (by omega) (by omega))).trans hat)⟩, (paOk_k (fun q i z => by rw [u2_ne _ _ _ _ (by omega)]) f21.2)⟩⟩
      · skip
        have q17 : (¬ h (x + 4) (n8) = (-1 : Int32)) := bz1.mp q17
        refine X_aload_n C 0 (D (37, .aload_n 0, 1) (mg 17 rfl)) rfl rfl ?_
        refine X_cV (As := []) (st := []) C (post := _) (x) (by omega) hsx rfl (ct_X7_refuseNo hw hC0 h g) kX7_109 (by decide) (by decide) rfl rfl (Nat.le_of_ble_eq_true rfl) (D (38, .invokevirtual 109, 3) (mg 18 rfl)) rfl (fun v31 H29 G30 hv31 => ?_)
        obtain ⟨rfl, rfl, rfl⟩ := hv31
        show X k w _ 41 [some (.ref (wA w (x))), some (.int (nI (n8))), some (.int (nI (n13)))] [.int ((-3 : Int32))] (rcH h (x) 10) g
        exact X_iret C (D (41, .ireturn, 1) (mg 19 rfl)) ⟨⟨_, rfl⟩, ⟨fun q i z0 => by have z := z0; unfold SW at z; rw [rcH_ne _ _ _ (by omega)], ⟨c0, (by omega), (((rcH_ne _ _ _ (by omega))).trans hat)⟩, (paOk_k (fun q i z => by rw [rcH_ne _ _ _ (by omega)]) hpa)⟩⟩
    · skip
      have q12 : ¬ (0 ≤ (a2).toInt ∧ (a2).toInt < ((6 : Nat) : Int)) := bz0.mp q12
      refine X_aload_n C 0 (D (18, .aload_n 0, 1) (mg 8 rfl)) rfl rfl ?_
      refine X_cV (As := []) (st := []) C (post := _) (x) (by omega) hsx rfl (ct_X7_refuseBad hw hC0 h g) kX7_57 (by decide) (by decide) rfl rfl (Nat.le_of_ble_eq_true rfl) (D (19, .invokevirtual 57, 3) (mg 9 rfl)) rfl (fun v34 H32 G33 hv34 => ?_)
      obtain ⟨rfl, rfl, rfl⟩ := hv34
      show X k w _ 22 [some (.ref (wA w (x))), some (.int (nI (n8))), some (.int (a2))] [.int ((-2 : Int32))] (rcH h (x) 9) g
      exact X_iret C (D (22, .ireturn, 1) (mg 10 rfl)) ⟨⟨_, rfl⟩, ⟨fun q i z0 => by have z := z0; unfold SW at z; rw [rcH_ne _ _ _ (by omega)], ⟨c0, (by omega), (((rcH_ne _ _ _ (by omega))).trans hat)⟩, (paOk_k (fun q i z => by rw [rcH_ne _ _ _ (by omega)]) hpa)⟩⟩
set_option maxHeartbeats 4000000 in
set_option maxRecDepth 100000 in
theorem ct_X7_drags {l : Launch} {w : Kw} (hw : wOk w) {x : Nat} (hC : shC w x) (a1 : Int32) (h : xI) (g : xJ) (hI : cOk h x) : Ct l w yX7_drags cX7_drags 3 (some .int) 3 71 [.ref (wA w (x)), .int (a1)] h g (pQ (wI x h)) := by
  refine Ct_of (ls := [some (.ref (wA w (x))), some (.int (a1)), none]) (by decide) hw (Nat.le_of_ble_eq_true rfl) rfl (fun k hkl C => ?_)
  have C : Cx k w cX7_drags RX7 3 (some .int) 3 71 := C
  have D := dtX7_drags
  subst hkl
  have hC0 := hC
  obtain ⟨hxn, hsx, hT, hsi, hTa, hTb, hsk, hNs, hY, hX, hsv⟩ := hC
  have hY2 := hY.1
  have hX2 := hX.1
  have hI0 := hI
  obtain ⟨⟨⟨c0, hc0, hat⟩, hpa, ⟨ns, hns, hse⟩, ⟨nm, hnm, hma⟩⟩, -, -, ⟨nt, hnt, htx⟩, ⟨ct, hct, hatx⟩⟩ := hI
  have hI := hI0
  refine X_iload_n C 1 (D (0, .iload_n 1, 1) (mg 0 rfl)) rfl rfl ?_
  refine X_iconst (v := nI (4)) C (D (1, .iconst 4, 1) (mg 1 rfl)) (by decide) ?_
  refine X_cS (As := [.int (a1), .int (nI (4))]) (st := []) C (post := _) (ct_X7_isBelow hw (a1) (B := 4) (by decide) h g) kX7_53 (by decide) (by decide) rfl rfl (Nat.le_of_ble_eq_true rfl) (D (2, .invokestatic 53, 3) (mg 2 rfl)) rfl (fun v3 H1 G2 hv3 => ?_)
  obtain ⟨rfl, rfl, rfl⟩ := hv3
  show X k w _ 5 [some (.ref (wA w (x))), some (.int (a1)), none] [.int (if 0 ≤ (a1).toInt ∧ (a1).toInt < ((4 : Nat) : Int) then 1 else 0)] h g
  refine X_if_ne (tgt := 13) C (D (5, .ifCond .ne 8, 3) (mg 3 rfl)) (by decide) (fun q4 => ?_) (fun q4 => ?_)
  · skip
    have q4 : (0 ≤ (a1).toInt ∧ (a1).toInt < ((4 : Nat) : Int)) := bz1.mp q4
    refine X_aload_n C 0 (D (13, .aload_n 0, 1) (mg 7 rfl)) rfl rfl ?_
    refine X_get (v := .ref (wA w (x + 1))) C (x) 0 (by omega) hsx rfl rfl (by decide) inX7 fX7_10 rfl (D (14, .getfield 10, 3) (mg 8 rfl)) rfl ?_
    refine X_get (v := .ref (wA w (x + 2))) C (x + 1) 0 (by omega) hT.2.1 rfl rfl (by decide) inX4 fX7_61 rfl (D (17, .getfield 61, 3) (mg 9 rfl)) rfl ?_
    refine X_get (v := .int (h (x + 2) 3)) C (x + 2) 3 (by omega) hT.2.2.1.2.1 rfl rfl (by decide) inX1 fX7_118 rfl (D (20, .getfield 118, 3) (mg 10 rfl)) rfl ?_
    refine X_ti (y := nI (c0)) (hat) ?_
    refine X_iload_n C 1 (D (23, .iload_n 1, 1) (mg 11 rfl)) rfl rfl ?_
    refine X_cS (As := [.int (nI (c0)), .int (a1)]) (st := []) C (post := _) (ct_X7_beside hw (j := c0) (by omega) (a1) h g) kX7_121 (by decide) (by decide) rfl rfl (Nat.le_of_ble_eq_true rfl) (D (24, .invokestatic 121, 3) (mg 12 rfl)) rfl (fun v7 H5 G6 hv7 => ?_)
    obtain ⟨⟨y8, rfl, hy8, ey8⟩, rfl, rfl⟩ := hv7
    show X k w _ 27 [some (.ref (wA w (x))), some (.int (a1)), none] [.int (y8)] h g
    refine X_istore_n (ls' := [some (.ref (wA w (x))), some (.int (a1)), some (.int (y8))]) C 2 (D (27, .istore_n 2, 1) (mg 13 rfl)) rfl (Nat.le_of_ble_eq_true rfl) rfl ?_
    refine X_iload_n C 2 (D (28, .iload_n 2, 1) (mg 14 rfl)) rfl rfl ?_
    refine X_iconst (v := (-1 : Int32)) C (D (29, .iconst (-1), 1) (mg 15 rfl)) (by decide) ?_
    refine X_icmp_ne (tgt := 38) C (D (30, .if_icmp .ne 8, 3) (mg 16 rfl)) (by decide) (fun q9 => ?_) (fun q9 => ?_)
    · skip
      obtain ⟨c10, hc10, rfl⟩ := hy8.resolve_left q9
      refine X_aload_n C 0 (D (38, .aload_n 0, 1) (mg 20 rfl)) rfl rfl ?_
      refine X_get (v := .ref (wA w (x + 1))) C (x) 0 (by omega) hsx rfl rfl (by decide) inX7 fX7_10 rfl (D (39, .getfield 10, 3) (mg 21 rfl)) rfl ?_
      refine X_get (v := .ref (wA w (x + 5))) C (x + 1) 1 (by omega) hT.2.1 rfl rfl (by decide) inX4 fX7_78 rfl (D (42, .getfield 78, 3) (mg 22 rfl)) rfl ?_
      refine X_aload_n C 0 (D (45, .aload_n 0, 1) (mg 23 rfl)) rfl rfl ?_
      refine X_get (v := .ref (wA w (x + 1))) C (x) 0 (by omega) hsx rfl rfl (by decide) inX7 fX7_10 rfl (D (46, .getfield 10, 3) (mg 24 rfl)) rfl ?_
      refine X_get (v := .ref (wA w (x + 2))) C (x + 1) 0 (by omega) hT.2.1 rfl rfl (by decide) inX4 fX7_61 rfl (D (49, .getfield 61, 3) (mg 25 rfl)) rfl ?_
      refine X_cV (As := [.ref (wA w (x + 2))]) (st := []) C (post := _) (x + 5) (by omega) hT.2.2.2.1.2.1 rfl (ct_X2_keep hw (p := x + 5) hT.2.2.2.1 (n := x + 2) hT.2.2.1 (by omega) h g hpa ⟨c0, (by omega), (hat)⟩) kX7_112 (by decide) (by decide) rfl rfl (Nat.le_of_ble_eq_true rfl) (D (52, .invokevirtual 112, 3) (mg 26 rfl)) rfl (fun v13 H11 G12 hv13 => ?_)
      obtain ⟨rfl, f14⟩ := hv13
      show X k w _ 55 [some (.ref (wA w (x))), some (.int (a1)), some (.int (nI (c10)))] [] H11 G12
      refine X_aload_n C 0 (D (55, .aload_n 0, 1) (mg 27 rfl)) rfl rfl ?_
      refine X_get (v := .ref (wA w (x + 1))) C (x) 0 (by omega) hsx rfl rfl (by decide) inX7 fX7_10 rfl (D (56, .getfield 10, 3) (mg 28 rfl)) rfl ?_
      refine X_get (v := .ref (wA w (x + 2))) C (x + 1) 0 (by omega) hT.2.1 rfl rfl (by decide) inX4 fX7_61 rfl (D (59, .getfield 61, 3) (mg 29 rfl)) rfl ?_
      refine X_iload_n C 2 (D (62, .iload_n 2, 1) (mg 30 rfl)) rfl rfl ?_
      refine X_cV (As := [.int (nI (c10))]) (st := []) C (post := _) (x + 2) (by omega) hT.2.2.1.2.1 rfl (ct_X1_stepTo hw (n := x + 2) hT.2.2.1 (j := c10) (by omega) H11 G12) kX7_125 (by decide) (by decide) rfl rfl (Nat.le_of_ble_eq_true rfl) (D (63, .invokevirtual 125, 3) (mg 31 rfl)) rfl (fun v17 H15 G16 hv17 => ?_)
      obtain ⟨rfl, rfl, rfl⟩ := hv17
      show X k w _ 66 [some (.ref (wA w (x))), some (.int (a1)), some (.int (nI (c10)))] [] (csH H11 (x + 2) (c10)) G12
      refine X_iload_n C 2 (D (66, .iload_n 2, 1) (mg 32 rfl)) rfl rfl ?_
      exact X_iret C (D (67, .ireturn, 1) (mg 33 rfl)) ⟨⟨_, rfl⟩, ⟨fun q i z0 => by have z := z0; unfold SW at z; rw [csH_ne _ _ _ (by omega), f14.1 _ _ (by omega) (by omega)], ⟨c10, (by omega), ((csH_at _ _ _))⟩, (paOk_k (fun q i z => by rw [csH_ne _ _ _ (by omega)]) f14.2)⟩⟩
    · skip
      subst q9
      refine X_aload_n C 0 (D (33, .aload_n 0, 1) (mg 17 rfl)) rfl rfl ?_
      refine X_cV (As := []) (st := []) C (post := _) (x) (by omega) hsx rfl (ct_X7_refuseNo hw hC0 h g) kX7_109 (by decide) (by decide) rfl rfl (Nat.le_of_ble_eq_true rfl) (D (34, .invokevirtual 109, 3) (mg 18 rfl)) rfl (fun v20 H18 G19 hv20 => ?_)
      obtain ⟨rfl, rfl, rfl⟩ := hv20
      show X k w _ 37 [some (.ref (wA w (x))), some (.int (a1)), some (.int ((-1 : Int32)))] [.int ((-3 : Int32))] (rcH h (x) 10) g
      exact X_iret C (D (37, .ireturn, 1) (mg 19 rfl)) ⟨⟨_, rfl⟩, ⟨fun q i z0 => by have z := z0; unfold SW at z; rw [rcH_ne _ _ _ (by omega)], ⟨c0, (by omega), (((rcH_ne _ _ _ (by omega))).trans hat)⟩, (paOk_k (fun q i z => by rw [rcH_ne _ _ _ (by omega)]) hpa)⟩⟩
  · skip
    have q4 : ¬ (0 ≤ (a1).toInt ∧ (a1).toInt < ((4 : Nat) : Int)) := bz0.mp q4
    refine X_aload_n C 0 (D (8, .aload_n 0, 1) (mg 4 rfl)) rfl rfl ?_
    refine X_cV (As := []) (st := []) C (post := _) (x) (by omega) hsx rfl (ct_X7_refuseBad hw hC0 h g) kX7_57 (by decide) (by decide) rfl rfl (Nat.le_of_ble_eq_true rfl) (D (9, .invokevirtual 57, 3) (mg 5 rfl)) rfl (fun v23 H21 G22 hv23 => ?_)
    obtain ⟨rfl, rfl, rfl⟩ := hv23
    show X k w _ 12 [some (.ref (wA w (x))), some (.int (a1)), none] [.int ((-2 : Int32))] (rcH h (x) 9) g
    exact X_iret C (D (12, .ireturn, 1) (mg 6 rfl)) ⟨⟨_, rfl⟩, ⟨fun q i z0 => by have z := z0; unfold SW at z; rw [rcH_ne _ _ _ (by omega)], ⟨c0, (by omega), (((rcH_ne _ _ _ (by omega))).trans hat)⟩, (paOk_k (fun q i z => by rw [rcH_ne _ _ _ (by omega)]) hpa)⟩⟩
set_option maxHeartbeats 4000000 in
set_option maxRecDepth 100000 in
theorem ct_X7_reaps {l : Launch} {w : Kw} (hw : wOk w) {x : Nat} (hC : shC w x) (a1 : Int32) (h : xI) (g : xJ) (hI : cOk h x) : Ct l w yX7_reaps cX7_reaps 3 (some .int) 3 68 [.ref (wA w (x)), .int (a1)] h g (pQ (wI x h)) := by
  refine Ct_of (ls := [some (.ref (wA w (x))), some (.int (a1)), none]) (by decide) hw (Nat.le_of_ble_eq_true rfl) rfl (fun k hkl C => ?_)
  have C : Cx k w cX7_reaps RX7 3 (some .int) 3 68 := C
  have D := dtX7_reaps
  subst hkl
  have hC0 := hC
  obtain ⟨hxn, hsx, hT, hsi, hTa, hTb, hsk, hNs, hY, hX, hsv⟩ := hC
  have hY2 := hY.1
  have hX2 := hX.1
  have hI0 := hI
  obtain ⟨⟨⟨c0, hc0, hat⟩, hpa, ⟨ns, hns, hse⟩, ⟨nm, hnm, hma⟩⟩, -, -, ⟨nt, hnt, htx⟩, ⟨ct, hct, hatx⟩⟩ := hI
  have hI := hI0
  refine X_iload_n C 1 (D (0, .iload_n 1, 1) (mg 0 rfl)) rfl rfl ?_
  refine X_bipush (v := nI (25)) C (D (1, .bipush 25, 2) (mg 1 rfl)) (by decide) ?_
  refine X_cS (As := [.int (a1), .int (nI (25))]) (st := []) C (post := _) (ct_X7_isBelow hw (a1) (B := 25) (by decide) h g) kX7_53 (by decide) (by decide) rfl rfl (Nat.le_of_ble_eq_true rfl) (D (3, .invokestatic 53, 3) (mg 2 rfl)) rfl (fun v3 H1 G2 hv3 => ?_)
  obtain ⟨rfl, rfl, rfl⟩ := hv3
  show X k w _ 6 [some (.ref (wA w (x))), some (.int (a1)), none] [.int (if 0 ≤ (a1).toInt ∧ (a1).toInt < ((25 : Nat) : Int) then 1 else 0)] h g
  refine X_if_ne (tgt := 14) C (D (6, .ifCond .ne 8, 3) (mg 3 rfl)) (by decide) (fun q4 => ?_) (fun q4 => ?_)
  · skip
    have q4 : (0 ≤ (a1).toInt ∧ (a1).toInt < ((25 : Nat) : Int)) := bz1.mp q4
    obtain ⟨n5, hn5, rfl⟩ := nI_i (x := a1) (n := 25) q4.1 (by omega)
    refine X_aload_n C 0 (D (14, .aload_n 0, 1) (mg 7 rfl)) rfl rfl ?_
    refine X_get (v := .ref (wA w (x + 1))) C (x) 0 (by omega) hsx rfl rfl (by decide) inX7 fX7_10 rfl (D (15, .getfield 10, 3) (mg 8 rfl)) rfl ?_
    refine X_get (v := .ref (wA w (x + 2))) C (x + 1) 0 (by omega) hT.2.1 rfl rfl (by decide) inX4 fX7_61 rfl (D (18, .getfield 61, 3) (mg 9 rfl)) rfl ?_
    refine X_iload_n C 1 (D (21, .iload_n 1, 1) (mg 10 rfl)) rfl rfl ?_
    refine X_cV (As := [.int (nI (n5))]) (st := []) C (post := _) (x + 2) (by omega) hT.2.2.1.2.1 rfl (ct_X1_liesIn hw (n := x + 2) hT.2.2.1 (j := n5) (by omega) h g) kX7_105 (by decide) (by decide) rfl rfl (Nat.le_of_ble_eq_true rfl) (D (22, .invokevirtual 105, 3) (mg 11 rfl)) rfl (fun v8 H6 G7 hv8 => ?_)
    obtain ⟨rfl, rfl, rfl⟩ := hv8
    show X k w _ 25 [some (.ref (wA w (x))), some (.int (nI (n5))), none] [.int (if ¬ h (x + 4) (n5) = (-1 : Int32) then 1 else 0)] h g
    refine X_if_ne (tgt := 33) C (D (25, .ifCond .ne 8, 3) (mg 12 rfl)) (by decide) (fun q9 => ?_) (fun q9 => ?_)
    · skip
      have q9 : (¬ h (x + 4) (n5) = (-1 : Int32)) := bz1.mp q9
      refine X_aload_n C 0 (D (33, .aload_n 0, 1) (mg 16 rfl)) rfl rfl ?_
      refine X_get (v := .ref (wA w (x + 1))) C (x) 0 (by omega) hsx rfl rfl (by decide) inX7 fX7_10 rfl (D (34, .getfield 10, 3) (mg 17 rfl)) rfl ?_
      refine X_get (v := .ref (wA w (x + 2))) C (x + 1) 0 (by omega) hT.2.1 rfl rfl (by decide) inX4 fX7_61 rfl (D (37, .getfield 61, 3) (mg 18 rfl)) rfl ?_
      refine X_iload_n C 1 (D (40, .iload_n 1, 1) (mg 19 rfl)) rfl rfl ?_
      refine X_iconst (v := nI (0)) C (D (41, .iconst 0, 1) (mg 20 rfl)) (by decide) ?_
      refine X_cV (As := [.int (nI (n5)), .int (nI (0))]) (st := []) C (post := _) (x + 2) (by omega) hT.2.2.1.2.1 rfl (ct_X1_heightAfter hw (n := x + 2) hT.2.2.1 (j := n5) (by omega) (nI (0)) h g) kX7_129 (by decide) (by decide) rfl rfl (Nat.le_of_ble_eq_true rfl) (D (42, .invokevirtual 129, 3) (mg 21 rfl)) rfl (fun v12 H10 G11 hv12 => ?_)
      obtain ⟨⟨y13, rfl⟩, rfl, rfl⟩ := hv12
      show X k w _ 45 [some (.ref (wA w (x))), some (.int (nI (n5))), none] [.int (y13)] h g
      refine X_istore_n (ls' := [some (.ref (wA w (x))), some (.int (nI (n5))), some (.int (y13))]) C 2 (D (45, .istore_n 2, 1) (mg 22 rfl)) rfl (Nat.le_of_ble_eq_true rfl) rfl ?_
      refine X_aload_n C 0 (D (46, .aload_n 0, 1) (mg 23 rfl)) rfl rfl ?_
      refine X_get (v := .ref (wA w (x + 1))) C (x) 0 (by omega) hsx rfl rfl (by decide) inX7 fX7_10 rfl (D (47, .getfield 10, 3) (mg 24 rfl)) rfl ?_
      refine X_get (v := .ref (wA w (x + 5))) C (x + 1) 1 (by omega) hT.2.1 rfl rfl (by decide) inX4 fX7_78 rfl (D (50, .getfield 78, 3) (mg 25 rfl)) rfl ?_
      refine X_aload_n C 0 (D (53, .aload_n 0, 1) (mg 26 rfl)) rfl rfl ?_
      refine X_get (v := .ref (wA w (x + 1))) C (x) 0 (by omega) hsx rfl rfl (by decide) inX7 fX7_10 rfl (D (54, .getfield 10, 3) (mg 27 rfl)) rfl ?_
      refine X_get (v := .ref (wA w (x + 2))) C (x + 1) 0 (by omega) hT.2.1 rfl rfl (by decide) inX4 fX7_61 rfl (D (57, .getfield 61, 3) (mg 28 rfl)) rfl ?_
      refine X_cV (As := [.ref (wA w (x + 2))]) (st := []) C (post := _) (x + 5) (by omega) hT.2.2.2.1.2.1 rfl (ct_X2_keep hw (p := x + 5) hT.2.2.2.1 (n := x + 2) hT.2.2.1 (by omega) h g hpa ⟨c0, (by omega), (hat)⟩) kX7_112 (by decide) (by decide) rfl rfl (Nat.le_of_ble_eq_true rfl) (D (60, .invokevirtual 112, 3) (mg 29 rfl)) rfl (fun v16 H14 G15 hv16 => ?_)
      obtain ⟨rfl, f17⟩ := hv16
      show X k w _ 63 [some (.ref (wA w (x))), some (.int (nI (n5))), some (.int (y13))] [] H14 G15
      refine X_aload_n C 0 (D (63, .aload_n 0, 1) (mg 30 rfl)) rfl rfl ?_
      refine X_get (v := .ref (wA w (x + 1))) C (x) 0 (by omega) hsx rfl rfl (by decide) inX7 fX7_10 rfl (D (64, .getfield 10, 3) (mg 31 rfl)) rfl ?_
      refine X_get (v := .ref (wA w (x + 2))) C (x + 1) 0 (by omega) hT.2.1 rfl rfl (by decide) inX4 fX7_61 rfl (D (67, .getfield 61, 3) (mg 32 rfl)) rfl ?_
      refine X_iload_n C 1 (D (70, .iload_n 1, 1) (mg 33 rfl)) rfl rfl ?_
      refine X_cV (As := [.int (nI (n5))]) (st := []) C (post := _) (x + 2) (by omega) hT.2.2.1.2.1 rfl (ct_X1_take hw (n := x + 2) hT.2.2.1 (j := n5) (by omega) H14 G15) kX7_132 (by decide) (by decide) rfl rfl (Nat.le_of_ble_eq_true rfl) (D (71, .invokevirtual 132, 3) (mg 34 rfl)) rfl (fun v20 H18 G19 hv20 => ?_)
      obtain ⟨rfl, rfl, rfl⟩ := hv20
      show X k w _ 74 [some (.ref (wA w (x))), some (.int (nI (n5))), some (.int (y13))] [] (u2 H14 (x + 4) (n5) (-1 : Int32)) G15
      refine X_iload_n C 2 (D (74, .iload_n 2, 1) (mg 35 rfl)) rfl rfl ?_
      exact X_iret C (D (75, .ireturn, 1) (mg 36 rfl)) ⟨⟨_, rfl⟩, ⟨fun q i z0 => by have z := z0; unfold SW at z; rw [u2_ne _ _ _ _ (by omega), f17.1 _ _ (by omega) (by omega)], ⟨c0, (by omega), ((((u2_p _ _ _ _ (by omega))).trans (f17.1 _ _ (by omega) (by omega))).trans hat)⟩, (paOk_k (fun q i z => by rw [u2_ne _ _ _ _ (by omega)]) f17.2)⟩⟩
    · skip
      have q9 : ¬ (¬ h (x + 4) (n5) = (-1 : Int32)) := bz0.mp q9
      refine X_aload_n C 0 (D (28, .aload_n 0, 1) (mg 13 rfl)) rfl rfl ?_
      refine X_cV (As := []) (st := []) C (post := _) (x) (by omega) hsx rfl (ct_X7_refuseNo hw hC0 h g) kX7_109 (by decide) (by decide) rfl rfl (Nat.le_of_ble_eq_true rfl) (D (29, .invokevirtual 109, 3) (mg 14 rfl)) rfl (fun v23 H21 G22 hv23 => ?_)
      obtain ⟨rfl, rfl, rfl⟩ := hv23
      show X k w _ 32 [some (.ref (wA w (x))), some (.int (nI (n5))), none] [.int ((-3 : Int32))] (rcH h (x) 10) g
      exact X_iret C (D (32, .ireturn, 1) (mg 15 rfl)) ⟨⟨_, rfl⟩, ⟨fun q i z0 => by have z := z0; unfold SW at z; rw [rcH_ne _ _ _ (by omega)], ⟨c0, (by omega), (((rcH_ne _ _ _ (by omega))).trans hat)⟩, (paOk_k (fun q i z => by rw [rcH_ne _ _ _ (by omega)]) hpa)⟩⟩
  · skip
    have q4 : ¬ (0 ≤ (a1).toInt ∧ (a1).toInt < ((25 : Nat) : Int)) := bz0.mp q4
    refine X_aload_n C 0 (D (9, .aload_n 0, 1) (mg 4 rfl)) rfl rfl ?_
    refine X_cV (As := []) (st := []) C (post := _) (x) (by omega) hsx rfl (ct_X7_refuseBad hw hC0 h g) kX7_57 (by decide) (by decide) rfl rfl (Nat.le_of_ble_eq_true rfl) (D (10, .invokevirtual 57, 3) (mg 5 rfl)) rfl (fun v26 H24 G25 hv26 => ?_)
    obtain ⟨rfl, rfl, rfl⟩ := hv26
    show X k w _ 13 [some (.ref (wA w (x))), some (.int (a1)), none] [.int ((-2 : Int32))] (rcH h (x) 9) g
    exact X_iret C (D (13, .ireturn, 1) (mg 6 rfl)) ⟨⟨_, rfl⟩, ⟨fun q i z0 => by have z := z0; unfold SW at z; rw [rcH_ne _ _ _ (by omega)], ⟨c0, (by omega), (((rcH_ne _ _ _ (by omega))).trans hat)⟩, (paOk_k (fun q i z => by rw [rcH_ne _ _ _ (by omega)]) hpa)⟩⟩
set_option maxHeartbeats 4000000 in
set_option maxRecDepth 100000 in
theorem ct_X7_weeks {l : Launch} {w : Kw} (hw : wOk w) {x : Nat} (hC : shC w x) (a1 : Int32) (h : xI) (g : xJ) (hI : cOk h x) : Ct l w yX7_weeks cX7_weeks 3 (some .int) 5 113 [.ref (wA w (x)), .int (a1)] h g (pQ (wI x h)) := by
  refine Ct_of (ls := [some (.ref (wA w (x))), some (.int (a1)), none]) (by decide) hw (Nat.le_of_ble_eq_true rfl) rfl (fun k hkl C => ?_)
  have C : Cx k w cX7_weeks RX7 3 (some .int) 5 113 := C
  have D := dtX7_weeks
  subst hkl
  have hC0 := hC
  obtain ⟨hxn, hsx, hT, hsi, hTa, hTb, hsk, hNs, hY, hX, hsv⟩ := hC
  have hY2 := hY.1
  have hX2 := hX.1
  have hI0 := hI
  obtain ⟨⟨⟨c0, hc0, hat⟩, hpa, ⟨ns, hns, hse⟩, ⟨nm, hnm, hma⟩⟩, -, -, ⟨nt, hnt, htx⟩, ⟨ct, hct, hatx⟩⟩ := hI
  have hI := hI0
  refine X_iload_n C 1 (D (0, .iload_n 1, 1) (mg 0 rfl)) rfl rfl ?_
  refine X_iconst (v := nI (1)) C (D (1, .iconst 1, 1) (mg 1 rfl)) (by decide) ?_
  refine X_icmp_lt (tgt := 11) C (D (2, .if_icmp .lt 9, 3) (mg 2 rfl)) (by decide) (fun q1 => ?_) (fun q1 => ?_)
  · skip
    refine X_aload_n C 0 (D (11, .aload_n 0, 1) (mg 6 rfl)) rfl rfl ?_
    refine X_cV (As := []) (st := []) C (post := _) (x) (by omega) hsx rfl (ct_X7_refuseBad hw hC0 h g) kX7_57 (by decide) (by decide) rfl rfl (Nat.le_of_ble_eq_true rfl) (D (12, .invokevirtual 57, 3) (mg 7 rfl)) rfl (fun v4 H2 G3 hv4 => ?_)
    obtain ⟨rfl, rfl, rfl⟩ := hv4
    show X k w _ 15 [some (.ref (wA w (x))), some (.int (a1)), none] [.int ((-2 : Int32))] (rcH h (x) 9) g
    exact X_iret C (D (15, .ireturn, 1) (mg 8 rfl)) ⟨⟨_, rfl⟩, ⟨fun q i z0 => by have z := z0; unfold SW at z; rw [rcH_ne _ _ _ (by omega)], ⟨c0, (by omega), (((rcH_ne _ _ _ (by omega))).trans hat)⟩, (paOk_k (fun q i z => by rw [rcH_ne _ _ _ (by omega)]) hpa)⟩⟩
  · skip
    refine X_iload_n C 1 (D (5, .iload_n 1, 1) (mg 3 rfl)) rfl rfl ?_
    refine X_bipush (v := nI (60)) C (D (6, .bipush 60, 2) (mg 4 rfl)) (by decide) ?_
    refine X_icmp_le (tgt := 16) C (D (8, .if_icmp .le 8, 3) (mg 5 rfl)) (by decide) (fun q5 => ?_) (fun q5 => ?_)
    · skip
      obtain ⟨n6, hn6, rfl⟩ := nI_i (x := a1) (n := 61) (by simp only [Int32.lt_iff_toInt_lt, Int32.le_iff_toInt_le, nI_i2 (n := 1) (by omega), nI_i2 (n := 60) (by omega)] at *; omega) (by simp only [Int32.lt_iff_toInt_lt, Int32.le_iff_toInt_le, nI_i2 (n := 1) (by omega), nI_i2 (n := 60) (by omega)] at *; omega)
      refine X_aload_n C 0 (D (16, .aload_n 0, 1) (mg 9 rfl)) rfl rfl ?_
      refine X_get (v := .ref (wA w (x + 1))) C (x) 0 (by omega) hsx rfl rfl (by decide) inX7 fX7_10 rfl (D (17, .getfield 10, 3) (mg 10 rfl)) rfl ?_
      refine X_get (v := .ref (wA w (x + 2))) C (x + 1) 0 (by omega) hT.2.1 rfl rfl (by decide) inX4 fX7_61 rfl (D (20, .getfield 61, 3) (mg 11 rfl)) rfl ?_
      refine X_get (v := .int (h (x + 2) 4)) C (x + 2) 4 (by omega) hT.2.2.1.2.1 rfl rfl (by decide) inX1 fX7_135 rfl (D (23, .getfield 135, 3) (mg 12 rfl)) rfl ?_
      refine X_sipush (v := nI (9999)) C (D (26, .sipush 9999, 3) (mg 13 rfl)) (by decide) ?_
      refine X_icmp_ge (tgt := 49) C (D (29, .if_icmp .ge 20, 3) (mg 14 rfl)) (by decide) (fun q7 => ?_) (fun q7 => ?_)
      · skip
        refine X_iconst (v := nI (0)) C (D (49, .iconst 0, 1) (mg 22 rfl)) (by decide) ?_
        refine X_istore_n (ls' := [some (.ref (wA w (x))), some (.int (nI (n6))), some (.int (nI (0)))]) C 2 (D (50, .istore_n 2, 1) (mg 23 rfl)) rfl (Nat.le_of_ble_eq_true rfl) rfl ?_
        have lp51 : ∀ (nn51 : Nat) (j : Nat) (hp51 : xI) (gp51 : xJ), (j ≤ 60) → (wI x h hp51) → 61 - j ≤ nn51 → X k w (Zq k w (pQ (wI x h))) 51 [some (.ref (wA w (x))), some (.int (nI (n6))), some (.int (nI (j)))] [] hp51 gp51 := by
          intro nn51
          induction nn51 with
          | zero => intro j hp51 gp51 hc51_0 hc51_1 hz; exact absurd hz (by omega)
          | succ nn51 ih51 =>
            intro j hp51 gp51 hc51_0 hc51_1 hz51
            obtain ⟨c8, hc8, hac8⟩ := (hc51_1).2.1
            refine X_iload_n C 2 (D (51, .iload_n 2, 1) (mg 24 rfl)) rfl rfl ?_
            refine X_iload_n C 1 (D (52, .iload_n 1, 1) (mg 25 rfl)) rfl rfl ?_
            refine X_icmp_ge (tgt := 88) C (D (53, .if_icmp .ge 35, 3) (mg 26 rfl)) (by decide) (fun q9 => ?_) (fun q9 => ?_)
            · skip
              have q9 : (j) ≥ (n6) := by have z := (nI_leI (a := (n6)) (b := (j)) (by omega) (by omega)).mp q9; omega
              refine X_aload_n C 0 (D (88, .aload_n 0, 1) (mg 39 rfl)) rfl rfl ?_
              refine X_get (v := .ref (wA w (x + 1))) C (x) 0 (by omega) hsx rfl rfl (by decide) inX7 fX7_10 rfl (D (89, .getfield 10, 3) (mg 40 rfl)) rfl ?_
              refine X_get (v := .ref (wA w (x + 2))) C (x + 1) 0 (by omega) hT.2.1 rfl rfl (by decide) inX4 fX7_61 rfl (D (92, .getfield 61, 3) (mg 41 rfl)) rfl ?_
              refine X_iconst (v := nI (0)) C (D (95, .iconst 0, 1) (mg 42 rfl)) (by decide) ?_
              refine X_cV (As := [.int (nI (0))]) (st := []) C (post := _) (x + 2) (by omega) hT.2.2.1.2.1 rfl (ct_X1_greenAfter hw (n := x + 2) hT.2.2.1 (nI (0)) hp51 gp51) kX7_141 (by decide) (by decide) rfl rfl (Nat.le_of_ble_eq_true rfl) (D (96, .invokevirtual 141, 3) (mg 43 rfl)) rfl (fun v12 H10 G11 hv12 => ?_)
              obtain ⟨⟨y13, rfl⟩, rfl, rfl⟩ := hv12
              show X k w _ 99 [some (.ref (wA w (x))), some (.int (nI (n6))), some (.int (nI (j)))] [.int (y13)] hp51 gp51
              exact X_iret C (D (99, .ireturn, 1) (mg 44 rfl)) ⟨⟨_, rfl⟩, hc51_1⟩
            · skip
              have q9 : (j) < (n6) := by have z : ¬ ((n6) ≤ (j)) := fun u => q9 ((nI_leI (a := (n6)) (b := (j)) (by omega) (by omega)).mpr u); omega
              refine X_aload_n C 0 (D (56, .aload_n 0, 1) (mg 27 rfl)) rfl rfl ?_
              refine X_get (v := .ref (wA w (x + 1))) C (x) 0 (by omega) hsx rfl rfl (by decide) inX7 fX7_10 rfl (D (57, .getfield 10, 3) (mg 28 rfl)) rfl ?_
              refine X_get (v := .ref (wA w (x + 2))) C (x + 1) 0 (by omega) hT.2.1 rfl rfl (by decide) inX4 fX7_61 rfl (D (60, .getfield 61, 3) (mg 29 rfl)) rfl ?_
              refine X_get (v := .int (hp51 (x + 2) 4)) C (x + 2) 4 (by omega) hT.2.2.1.2.1 rfl rfl (by decide) inX1 fX7_135 rfl (D (63, .getfield 135, 3) (mg 30 rfl)) rfl ?_
              refine X_sipush (v := nI (9999)) C (D (66, .sipush 9999, 3) (mg 31 rfl)) (by decide) ?_
              refine X_icmp_ge (tgt := 88) C (D (69, .if_icmp .ge 19, 3) (mg 32 rfl)) (by decide) (fun q14 => ?_) (fun q14 => ?_)
              · skip
                refine X_aload_n C 0 (D (88, .aload_n 0, 1) (mg 39 rfl)) rfl rfl ?_
                refine X_get (v := .ref (wA w (x + 1))) C (x) 0 (by omega) hsx rfl rfl (by decide) inX7 fX7_10 rfl (D (89, .getfield 10, 3) (mg 40 rfl)) rfl ?_
                refine X_get (v := .ref (wA w (x + 2))) C (x + 1) 0 (by omega) hT.2.1 rfl rfl (by decide) inX4 fX7_61 rfl (D (92, .getfield 61, 3) (mg 41 rfl)) rfl ?_
                refine X_iconst (v := nI (0)) C (D (95, .iconst 0, 1) (mg 42 rfl)) (by decide) ?_
                refine X_cV (As := [.int (nI (0))]) (st := []) C (post := _) (x + 2) (by omega) hT.2.2.1.2.1 rfl (ct_X1_greenAfter hw (n := x + 2) hT.2.2.1 (nI (0)) hp51 gp51) kX7_141 (by decide) (by decide) rfl rfl (Nat.le_of_ble_eq_true rfl) (D (96, .invokevirtual 141, 3) (mg 43 rfl)) rfl (fun v17 H15 G16 hv17 => ?_)
                obtain ⟨⟨y18, rfl⟩, rfl, rfl⟩ := hv17
                show X k w _ 99 [some (.ref (wA w (x))), some (.int (nI (n6))), some (.int (nI (j)))] [.int (y18)] hp51 gp51
                exact X_iret C (D (99, .ireturn, 1) (mg 44 rfl)) ⟨⟨_, rfl⟩, hc51_1⟩
              · skip
                refine X_aload_n C 0 (D (72, .aload_n 0, 1) (mg 33 rfl)) rfl rfl ?_
                refine X_get (v := .ref (wA w (x + 1))) C (x) 0 (by omega) hsx rfl rfl (by decide) inX7 fX7_10 rfl (D (73, .getfield 10, 3) (mg 34 rfl)) rfl ?_
                refine X_get (v := .ref (wA w (x + 2))) C (x + 1) 0 (by omega) hT.2.1 rfl rfl (by decide) inX4 fX7_61 rfl (D (76, .getfield 61, 3) (mg 35 rfl)) rfl ?_
                refine X_cV (As := []) (st := []) C (post := _) (x + 2) (by omega) hT.2.2.1.2.1 rfl (ct_X1_passWeek hw (n := x + 2) hT.2.2.1  hp51 gp51) kX7_138 (by decide) (by decide) rfl rfl (Nat.le_of_ble_eq_true rfl) (D (79, .invokevirtual 138, 3) (mg 36 rfl)) rfl (fun v21 H19 G20 hv21 => ?_)
                obtain ⟨rfl, rfl, rfl⟩ := hv21
                show X k w _ 82 [some (.ref (wA w (x))), some (.int (nI (n6))), some (.int (nI (j)))] [] (cwH hp51 (x + 2)) gp51
                refine X_iinc (v := nI (j + 1)) (ls' := [some (.ref (wA w (x))), some (.int (nI (n6))), some (.int (nI (j + 1)))]) C (D (82, .iinc 2 1, 3) (mg 37 rfl)) rfl (nI_add (j) 1) rfl ?_
                refine X_goto (tgt := 51) C (D (85, .goto (-34), 3) (mg 38 rfl)) (by decide) ?_
                refine X_eq (ls' := [some (.ref (wA w (x))), some (.int (nI (n6))), some (.int (nI (j + 1)))]) (st' := []) (h' := (cwH hp51 (x + 2))) (g' := gp51) rfl rfl rfl rfl ?_
                exact ih51 (j + 1) ((cwH hp51 (x + 2))) (gp51) (by omega) ⟨fun q i z0 => by have z := z0; unfold SW at z; rw [cwH_ne _ _ (by omega)]; exact (hc51_1).1 q i z0, ⟨c8, (by omega), (((cwH_ne _ _ (by omega))).trans hac8)⟩, (paOk_k (fun q i z => by rw [cwH_ne _ _ (by omega)]) (hc51_1).2.2)⟩ (by omega)
        refine X_eq (ls' := [some (.ref (wA w (x))), some (.int (nI (n6))), some (.int (nI (0)))]) (st' := []) (h' := h) (g' := g) rfl rfl rfl rfl ?_
        exact lp51 _ (0) (h) (g) (by omega) (wI_r hI) (Nat.le_refl _)
      · skip
        refine X_aload_n C 0 (D (32, .aload_n 0, 1) (mg 15 rfl)) rfl rfl ?_
        refine X_get (v := .ref (wA w (x + 1))) C (x) 0 (by omega) hsx rfl rfl (by decide) inX7 fX7_10 rfl (D (33, .getfield 10, 3) (mg 16 rfl)) rfl ?_
        refine X_get (v := .ref (wA w (x + 5))) C (x + 1) 1 (by omega) hT.2.1 rfl rfl (by decide) inX4 fX7_78 rfl (D (36, .getfield 78, 3) (mg 17 rfl)) rfl ?_
        refine X_aload_n C 0 (D (39, .aload_n 0, 1) (mg 18 rfl)) rfl rfl ?_
        refine X_get (v := .ref (wA w (x + 1))) C (x) 0 (by omega) hsx rfl rfl (by decide) inX7 fX7_10 rfl (D (40, .getfield 10, 3) (mg 19 rfl)) rfl ?_
        refine X_get (v := .ref (wA w (x + 2))) C (x + 1) 0 (by omega) hT.2.1 rfl rfl (by decide) inX4 fX7_61 rfl (D (43, .getfield 61, 3) (mg 20 rfl)) rfl ?_
        refine X_cV (As := [.ref (wA w (x + 2))]) (st := []) C (post := _) (x + 5) (by omega) hT.2.2.2.1.2.1 rfl (ct_X2_keep hw (p := x + 5) hT.2.2.2.1 (n := x + 2) hT.2.2.1 (by omega) h g hpa ⟨c0, (by omega), (hat)⟩) kX7_112 (by decide) (by decide) rfl rfl (Nat.le_of_ble_eq_true rfl) (D (46, .invokevirtual 112, 3) (mg 21 rfl)) rfl (fun v24 H22 G23 hv24 => ?_)
        obtain ⟨rfl, f25⟩ := hv24
        show X k w _ 49 [some (.ref (wA w (x))), some (.int (nI (n6))), none] [] H22 G23
        refine X_iconst (v := nI (0)) C (D (49, .iconst 0, 1) (mg 22 rfl)) (by decide) ?_
        refine X_istore_n (ls' := [some (.ref (wA w (x))), some (.int (nI (n6))), some (.int (nI (0)))]) C 2 (D (50, .istore_n 2, 1) (mg 23 rfl)) rfl (Nat.le_of_ble_eq_true rfl) rfl ?_
        have lp51 : ∀ (nn51 : Nat) (j : Nat) (hp51 : xI) (gp51 : xJ), (j ≤ 60) → (wI x h hp51) → 61 - j ≤ nn51 → X k w (Zq k w (pQ (wI x h))) 51 [some (.ref (wA w (x))), some (.int (nI (n6))), some (.int (nI (j)))] [] hp51 gp51 := by
          intro nn51
          induction nn51 with
          | zero => intro j hp51 gp51 hc51_0 hc51_1 hz; exact absurd hz (by omega)
          | succ nn51 ih51 =>
            intro j hp51 gp51 hc51_0 hc51_1 hz51
            obtain ⟨c26, hc26, hac26⟩ := (hc51_1).2.1
            refine X_iload_n C 2 (D (51, .iload_n 2, 1) (mg 24 rfl)) rfl rfl ?_
            refine X_iload_n C 1 (D (52, .iload_n 1, 1) (mg 25 rfl)) rfl rfl ?_
            refine X_icmp_ge (tgt := 88) C (D (53, .if_icmp .ge 35, 3) (mg 26 rfl)) (by decide) (fun q27 => ?_) (fun q27 => ?_)
            · skip
              have q27 : (j) ≥ (n6) := by have z := (nI_leI (a := (n6)) (b := (j)) (by omega) (by omega)).mp q27; omega
              refine X_aload_n C 0 (D (88, .aload_n 0, 1) (mg 39 rfl)) rfl rfl ?_
              refine X_get (v := .ref (wA w (x + 1))) C (x) 0 (by omega) hsx rfl rfl (by decide) inX7 fX7_10 rfl (D (89, .getfield 10, 3) (mg 40 rfl)) rfl ?_
              refine X_get (v := .ref (wA w (x + 2))) C (x + 1) 0 (by omega) hT.2.1 rfl rfl (by decide) inX4 fX7_61 rfl (D (92, .getfield 61, 3) (mg 41 rfl)) rfl ?_
              refine X_iconst (v := nI (0)) C (D (95, .iconst 0, 1) (mg 42 rfl)) (by decide) ?_
              refine X_cV (As := [.int (nI (0))]) (st := []) C (post := _) (x + 2) (by omega) hT.2.2.1.2.1 rfl (ct_X1_greenAfter hw (n := x + 2) hT.2.2.1 (nI (0)) hp51 gp51) kX7_141 (by decide) (by decide) rfl rfl (Nat.le_of_ble_eq_true rfl) (D (96, .invokevirtual 141, 3) (mg 43 rfl)) rfl (fun v30 H28 G29 hv30 => ?_)
              obtain ⟨⟨y31, rfl⟩, rfl, rfl⟩ := hv30
              show X k w _ 99 [some (.ref (wA w (x))), some (.int (nI (n6))), some (.int (nI (j)))] [.int (y31)] hp51 gp51
              exact X_iret C (D (99, .ireturn, 1) (mg 44 rfl)) ⟨⟨_, rfl⟩, hc51_1⟩
            · skip
              have q27 : (j) < (n6) := by have z : ¬ ((n6) ≤ (j)) := fun u => q27 ((nI_leI (a := (n6)) (b := (j)) (by omega) (by omega)).mpr u); omega
              refine X_aload_n C 0 (D (56, .aload_n 0, 1) (mg 27 rfl)) rfl rfl ?_
              refine X_get (v := .ref (wA w (x + 1))) C (x) 0 (by omega) hsx rfl rfl (by decide) inX7 fX7_10 rfl (D (57, .getfield 10, 3) (mg 28 rfl)) rfl ?_
              refine X_get (v := .ref (wA w (x + 2))) C (x + 1) 0 (by omega) hT.2.1 rfl rfl (by decide) inX4 fX7_61 rfl (D (60, .getfield 61, 3) (mg 29 rfl)) rfl ?_
              refine X_get (v := .int (hp51 (x + 2) 4)) C (x + 2) 4 (by omega) hT.2.2.1.2.1 rfl rfl (by decide) inX1 fX7_135 rfl (D (63, .getfield 135, 3) (mg 30 rfl)) rfl ?_
              refine X_sipush (v := nI (9999)) C (D (66, .sipush 9999, 3) (mg 31 rfl)) (by decide) ?_
              refine X_icmp_ge (tgt := 88) C (D (69, .if_icmp .ge 19, 3) (mg 32 rfl)) (by decide) (fun q32 => ?_) (fun q32 => ?_)
              · skip
                refine X_aload_n C 0 (D (88, .aload_n 0, 1) (mg 39 rfl)) rfl rfl ?_
                refine X_get (v := .ref (wA w (x + 1))) C (x) 0 (by omega) hsx rfl rfl (by decide) inX7 fX7_10 rfl (D (89, .getfield 10, 3) (mg 40 rfl)) rfl ?_
                refine X_get (v := .ref (wA w (x + 2))) C (x + 1) 0 (by omega) hT.2.1 rfl rfl (by decide) inX4 fX7_61 rfl (D (92, .getfield 61, 3) (mg 41 rfl)) rfl ?_
                refine X_iconst (v := nI (0)) C (D (95, .iconst 0, 1) (mg 42 rfl)) (by decide) ?_
                refine X_cV (As := [.int (nI (0))]) (st := []) C (post := _) (x + 2) (by omega) hT.2.2.1.2.1 rfl (ct_X1_greenAfter hw (n := x + 2) hT.2.2.1 (nI (0)) hp51 gp51) kX7_141 (by decide) (by decide) rfl rfl (Nat.le_of_ble_eq_true rfl) (D (96, .invokevirtual 141, 3) (mg 43 rfl)) rfl (fun v35 H33 G34 hv35 => ?_)
                obtain ⟨⟨y36, rfl⟩, rfl, rfl⟩ := hv35
                show X k w _ 99 [some (.ref (wA w (x))), some (.int (nI (n6))), some (.int (nI (j)))] [.int (y36)] hp51 gp51
                exact X_iret C (D (99, .ireturn, 1) (mg 44 rfl)) ⟨⟨_, rfl⟩, hc51_1⟩
              · skip
                refine X_aload_n C 0 (D (72, .aload_n 0, 1) (mg 33 rfl)) rfl rfl ?_
                refine X_get (v := .ref (wA w (x + 1))) C (x) 0 (by omega) hsx rfl rfl (by decide) inX7 fX7_10 rfl (D (73, .getfield 10, 3) (mg 34 rfl)) rfl ?_
                refine X_get (v := .ref (wA w (x + 2))) C (x + 1) 0 (by omega) hT.2.1 rfl rfl (by decide) inX4 fX7_61 rfl (D (76, .getfield 61, 3) (mg 35 rfl)) rfl ?_
                refine X_cV (As := []) (st := []) C (post := _) (x + 2) (by omega) hT.2.2.1.2.1 rfl (ct_X1_passWeek hw (n := x + 2) hT.2.2.1  hp51 gp51) kX7_138 (by decide) (by decide) rfl rfl (Nat.le_of_ble_eq_true rfl) (D (79, .invokevirtual 138, 3) (mg 36 rfl)) rfl (fun v39 H37 G38 hv39 => ?_)
                obtain ⟨rfl, rfl, rfl⟩ := hv39
                show X k w _ 82 [some (.ref (wA w (x))), some (.int (nI (n6))), some (.int (nI (j)))] [] (cwH hp51 (x + 2)) gp51
                refine X_iinc (v := nI (j + 1)) (ls' := [some (.ref (wA w (x))), some (.int (nI (n6))), some (.int (nI (j + 1)))]) C (D (82, .iinc 2 1, 3) (mg 37 rfl)) rfl (nI_add (j) 1) rfl ?_
                refine X_goto (tgt := 51) C (D (85, .goto (-34), 3) (mg 38 rfl)) (by decide) ?_
                refine X_eq (ls' := [some (.ref (wA w (x))), some (.int (nI (n6))), some (.int (nI (j + 1)))]) (st' := []) (h' := (cwH hp51 (x + 2))) (g' := gp51) rfl rfl rfl rfl ?_
                exact ih51 (j + 1) ((cwH hp51 (x + 2))) (gp51) (by omega) ⟨fun q i z0 => by have z := z0; unfold SW at z; rw [cwH_ne _ _ (by omega)]; exact (hc51_1).1 q i z0, ⟨c26, (by omega), (((cwH_ne _ _ (by omega))).trans hac26)⟩, (paOk_k (fun q i z => by rw [cwH_ne _ _ (by omega)]) (hc51_1).2.2)⟩ (by omega)
        refine X_eq (ls' := [some (.ref (wA w (x))), some (.int (nI (n6))), some (.int (nI (0)))]) (st' := []) (h' := H22) (g' := G23) rfl rfl rfl rfl ?_
        exact lp51 _ (0) (H22) (G23) (by omega) ⟨fun q i z0 => by have z := z0; unfold SW at z; rw [f25.1 _ _ (by omega) (by omega)], ⟨c0, (by omega), (((f25.1 _ _ (by omega) (by omega))).trans hat)⟩, f25.2⟩ (Nat.le_refl _)
    · skip
      refine X_aload_n C 0 (D (11, .aload_n 0, 1) (mg 6 rfl)) rfl rfl ?_
      refine X_cV (As := []) (st := []) C (post := _) (x) (by omega) hsx rfl (ct_X7_refuseBad hw hC0 h g) kX7_57 (by decide) (by decide) rfl rfl (Nat.le_of_ble_eq_true rfl) (D (12, .invokevirtual 57, 3) (mg 7 rfl)) rfl (fun v42 H40 G41 hv42 => ?_)
      obtain ⟨rfl, rfl, rfl⟩ := hv42
      show X k w _ 15 [some (.ref (wA w (x))), some (.int (a1)), none] [.int ((-2 : Int32))] (rcH h (x) 9) g
      exact X_iret C (D (15, .ireturn, 1) (mg 8 rfl)) ⟨⟨_, rfl⟩, ⟨fun q i z0 => by have z := z0; unfold SW at z; rw [rcH_ne _ _ _ (by omega)], ⟨c0, (by omega), (((rcH_ne _ _ _ (by omega))).trans hat)⟩, (paOk_k (fun q i z => by rw [rcH_ne _ _ _ (by omega)]) hpa)⟩⟩
set_option maxHeartbeats 4000000 in
set_option maxRecDepth 100000 in
theorem ct_X7_undo {l : Launch} {w : Kw} (hw : wOk w) {x : Nat} (hC : shC w x) (h : xI) (g : xJ) (hI : cOk h x) : Ct l w yX7_undo cX7_undo 1 (some .int) 2 48 [.ref (wA w (x))] h g (pQ (wI x h)) := by
  refine Ct_of (ls := [some (.ref (wA w (x)))]) (by decide) hw (Nat.le_of_ble_eq_true rfl) rfl (fun k hkl C => ?_)
  have C : Cx k w cX7_undo RX7 1 (some .int) 2 48 := C
  have D := dtX7_undo
  subst hkl
  have hC0 := hC
  obtain ⟨hxn, hsx, hT, hsi, hTa, hTb, hsk, hNs, hY, hX, hsv⟩ := hC
  have hY2 := hY.1
  have hX2 := hX.1
  have hI0 := hI
  obtain ⟨⟨⟨c0, hc0, hat⟩, hpa, ⟨ns, hns, hse⟩, ⟨nm, hnm, hma⟩⟩, -, -, ⟨nt, hnt, htx⟩, ⟨ct, hct, hatx⟩⟩ := hI
  have hI := hI0
  refine X_aload_n C 0 (D (0, .aload_n 0, 1) (mg 0 rfl)) rfl rfl ?_
  refine X_get (v := .ref (wA w (x + 1))) C (x) 0 (by omega) hsx rfl rfl (by decide) inX7 fX7_10 rfl (D (1, .getfield 10, 3) (mg 1 rfl)) rfl ?_
  refine X_get (v := .ref (wA w (x + 5))) C (x + 1) 1 (by omega) hT.2.1 rfl rfl (by decide) inX4 fX7_78 rfl (D (4, .getfield 78, 3) (mg 2 rfl)) rfl ?_
  refine X_get (v := .int (h (x + 5) 1)) C (x + 5) 1 (by omega) hT.2.2.2.1.2.1 rfl rfl (by decide) inX2 fX7_82 rfl (D (7, .getfield 82, 3) (mg 3 rfl)) rfl ?_
  refine X_if_ne (tgt := 18) C (D (10, .ifCond .ne 8, 3) (mg 4 rfl)) (by decide) (fun q1 => ?_) (fun q1 => ?_)
  · skip
    refine X_aload_n C 0 (D (18, .aload_n 0, 1) (mg 8 rfl)) rfl rfl ?_
    refine X_get (v := .ref (wA w (x + 1))) C (x) 0 (by omega) hsx rfl rfl (by decide) inX7 fX7_10 rfl (D (19, .getfield 10, 3) (mg 9 rfl)) rfl ?_
    refine X_get (v := .ref (wA w (x + 5))) C (x + 1) 1 (by omega) hT.2.1 rfl rfl (by decide) inX4 fX7_78 rfl (D (22, .getfield 78, 3) (mg 10 rfl)) rfl ?_
    refine X_aload_n C 0 (D (25, .aload_n 0, 1) (mg 11 rfl)) rfl rfl ?_
    refine X_get (v := .ref (wA w (x + 1))) C (x) 0 (by omega) hsx rfl rfl (by decide) inX7 fX7_10 rfl (D (26, .getfield 10, 3) (mg 12 rfl)) rfl ?_
    refine X_get (v := .ref (wA w (x + 2))) C (x + 1) 0 (by omega) hT.2.1 rfl rfl (by decide) inX4 fX7_61 rfl (D (29, .getfield 61, 3) (mg 13 rfl)) rfl ?_
    refine X_cV (As := [.ref (wA w (x + 2))]) (st := []) C (post := _) (x + 5) (by omega) hT.2.2.2.1.2.1 rfl (ct_X2_bringBack hw (p := x + 5) hT.2.2.2.1 (n := x + 2) hT.2.2.1 (by omega) h g hpa ⟨c0, (by omega), (hat)⟩) kX7_145 (by decide) (by decide) rfl rfl (Nat.le_of_ble_eq_true rfl) (D (32, .invokevirtual 145, 3) (mg 14 rfl)) rfl (fun v4 H2 G3 hv4 => ?_)
    obtain ⟨rfl, f5⟩ := hv4
    obtain ⟨c6, hc6, hac6⟩ := f5.2.2
    show X k w _ 35 [some (.ref (wA w (x)))] [] H2 G3
    refine X_aload_n C 0 (D (35, .aload_n 0, 1) (mg 15 rfl)) rfl rfl ?_
    refine X_get (v := .ref (wA w (x + 1))) C (x) 0 (by omega) hsx rfl rfl (by decide) inX7 fX7_10 rfl (D (36, .getfield 10, 3) (mg 16 rfl)) rfl ?_
    refine X_get (v := .ref (wA w (x + 2))) C (x + 1) 0 (by omega) hT.2.1 rfl rfl (by decide) inX4 fX7_61 rfl (D (39, .getfield 61, 3) (mg 17 rfl)) rfl ?_
    refine X_get (v := .int (H2 (x + 2) 4)) C (x + 2) 4 (by omega) hT.2.2.1.2.1 rfl rfl (by decide) inX1 fX7_135 rfl (D (42, .getfield 135, 3) (mg 18 rfl)) rfl ?_
    exact X_iret C (D (45, .ireturn, 1) (mg 19 rfl)) ⟨⟨_, rfl⟩, ⟨fun q i z0 => by have z := z0; unfold SW at z; rw [f5.1 _ _ (by omega) (by omega) (by omega)], ⟨c6, (by omega), (hac6)⟩, f5.2.1⟩⟩
  · skip
    refine X_aload_n C 0 (D (13, .aload_n 0, 1) (mg 5 rfl)) rfl rfl ?_
    refine X_cV (As := []) (st := []) C (post := _) (x) (by omega) hsx rfl (ct_X7_refuseNo hw hC0 h g) kX7_109 (by decide) (by decide) rfl rfl (Nat.le_of_ble_eq_true rfl) (D (14, .invokevirtual 109, 3) (mg 6 rfl)) rfl (fun v9 H7 G8 hv9 => ?_)
    obtain ⟨rfl, rfl, rfl⟩ := hv9
    show X k w _ 17 [some (.ref (wA w (x)))] [.int ((-3 : Int32))] (rcH h (x) 10) g
    exact X_iret C (D (17, .ireturn, 1) (mg 7 rfl)) ⟨⟨_, rfl⟩, ⟨fun q i z0 => by have z := z0; unfold SW at z; rw [rcH_ne _ _ _ (by omega)], ⟨c0, (by omega), (((rcH_ne _ _ _ (by omega))).trans hat)⟩, (paOk_k (fun q i z => by rw [rcH_ne _ _ _ (by omega)]) hpa)⟩⟩
set_option maxHeartbeats 4000000 in
set_option maxRecDepth 100000 in
theorem ct_X7_way {l : Launch} {w : Kw} (hw : wOk w) {x : Nat} (hC : shC w x) (a1 a2 : Int32) (h : xI) (g : xJ) (hI : cOk h x) : Ct l w yX7_way cX7_way 4 (some .int) 5 119 [.ref (wA w (x)), .int (a1), .int (a2)] h g (pQ (wI x h)) := by
  refine Ct_of (ls := [some (.ref (wA w (x))), some (.int (a1)), some (.int (a2)), none]) (by decide) hw (Nat.le_of_ble_eq_true rfl) rfl (fun k hkl C => ?_)
  have C : Cx k w cX7_way RX7 4 (some .int) 5 119 := C
  have D := dtX7_way
  subst hkl
  have hC0 := hC
  obtain ⟨hxn, hsx, hT, hsi, hTa, hTb, hsk, hNs, hY, hX, hsv⟩ := hC
  have hY2 := hY.1
  have hX2 := hX.1
  have hI0 := hI
  obtain ⟨⟨⟨c0, hc0, hat⟩, hpa, ⟨ns, hns, hse⟩, ⟨nm, hnm, hma⟩⟩, -, -, ⟨nt, hnt, htx⟩, ⟨ct, hct, hatx⟩⟩ := hI
  have hI := hI0
  refine X_iload_n C 1 (D (0, .iload_n 1, 1) (mg 0 rfl)) rfl rfl ?_
  refine X_ldc C (D (1, .ldc 163, 2) (mg 1 rfl)) vX7_163 ?_
  refine X_ti (y := nI (33554432)) (by decide) ?_
  refine X_cS (As := [.int (a1), .int (nI (33554432))]) (st := []) C (post := _) (ct_X7_isBelow hw (a1) (B := 33554432) (by decide) h g) kX7_53 (by decide) (by decide) rfl rfl (Nat.le_of_ble_eq_true rfl) (D (3, .invokestatic 53, 3) (mg 2 rfl)) rfl (fun v3 H1 G2 hv3 => ?_)
  obtain ⟨rfl, rfl, rfl⟩ := hv3
  show X k w _ 6 [some (.ref (wA w (x))), some (.int (a1)), some (.int (a2)), none] [.int (if 0 ≤ (a1).toInt ∧ (a1).toInt < ((33554432 : Nat) : Int) then 1 else 0)] h g
  refine X_if_eq (tgt := 22) C (D (6, .ifCond .eq 16, 3) (mg 3 rfl)) (by decide) (fun q4 => ?_) (fun q4 => ?_)
  · skip
    have q4 : ¬ (0 ≤ (a1).toInt ∧ (a1).toInt < ((33554432 : Nat) : Int)) := bz0.mp q4
    refine X_aload_n C 0 (D (22, .aload_n 0, 1) (mg 11 rfl)) rfl rfl ?_
    refine X_cV (As := []) (st := []) C (post := _) (x) (by omega) hsx rfl (ct_X7_refuseBadTen hw hC0 h g) kX7_169 (by decide) (by decide) rfl rfl (Nat.le_of_ble_eq_true rfl) (D (23, .invokevirtual 169, 3) (mg 12 rfl)) rfl (fun v7 H5 G6 hv7 => ?_)
    obtain ⟨rfl, rfl, rfl⟩ := hv7
    show X k w _ 26 [some (.ref (wA w (x))), some (.int (a1)), some (.int (a2)), none] [.int ((-10 : Int32))] (rcH h (x) 9) g
    exact X_iret C (D (26, .ireturn, 1) (mg 13 rfl)) ⟨⟨_, rfl⟩, ⟨fun q i z0 => by have z := z0; unfold SW at z; rw [rcH_ne _ _ _ (by omega)], ⟨c0, (by omega), (((rcH_ne _ _ _ (by omega))).trans hat)⟩, (paOk_k (fun q i z => by rw [rcH_ne _ _ _ (by omega)]) hpa)⟩⟩
  · skip
    have q4 : (0 ≤ (a1).toInt ∧ (a1).toInt < ((33554432 : Nat) : Int)) := bz1.mp q4
    refine X_iload_n C 1 (D (9, .iload_n 1, 1) (mg 4 rfl)) rfl rfl ?_
    refine X_cS (As := [.int (a1)]) (st := []) C (post := _) (ct_J6_bitCount_0f7a4 hw (a1) h g) kX7_164 (by decide) (by decide) rfl rfl (Nat.le_of_ble_eq_true rfl) (D (10, .invokestatic 164, 3) (mg 5 rfl)) rfl (fun v10 H8 G9 hv10 => ?_)
    obtain ⟨⟨y11, rfl⟩, rfl, rfl⟩ := hv10
    show X k w _ 13 [some (.ref (wA w (x))), some (.int (a1)), some (.int (a2)), none] [.int (y11)] h g
    refine X_iconst (v := nI (5)) C (D (13, .iconst 5, 1) (mg 6 rfl)) (by decide) ?_
    refine X_icmp_gt (tgt := 22) C (D (14, .if_icmp .gt 8, 3) (mg 7 rfl)) (by decide) (fun q12 => ?_) (fun q12 => ?_)
    · skip
      refine X_aload_n C 0 (D (22, .aload_n 0, 1) (mg 11 rfl)) rfl rfl ?_
      refine X_cV (As := []) (st := []) C (post := _) (x) (by omega) hsx rfl (ct_X7_refuseBadTen hw hC0 h g) kX7_169 (by decide) (by decide) rfl rfl (Nat.le_of_ble_eq_true rfl) (D (23, .invokevirtual 169, 3) (mg 12 rfl)) rfl (fun v15 H13 G14 hv15 => ?_)
      obtain ⟨rfl, rfl, rfl⟩ := hv15
      show X k w _ 26 [some (.ref (wA w (x))), some (.int (a1)), some (.int (a2)), none] [.int ((-10 : Int32))] (rcH h (x) 9) g
      exact X_iret C (D (26, .ireturn, 1) (mg 13 rfl)) ⟨⟨_, rfl⟩, ⟨fun q i z0 => by have z := z0; unfold SW at z; rw [rcH_ne _ _ _ (by omega)], ⟨c0, (by omega), (((rcH_ne _ _ _ (by omega))).trans hat)⟩, (paOk_k (fun q i z => by rw [rcH_ne _ _ _ (by omega)]) hpa)⟩⟩
    · skip
      refine X_iload_n C 2 (D (17, .iload_n 2, 1) (mg 8 rfl)) rfl rfl ?_
      refine X_iconst (v := (-1 : Int32)) C (D (18, .iconst (-1), 1) (mg 9 rfl)) (by decide) ?_
      refine X_icmp_ge (tgt := 27) C (D (19, .if_icmp .ge 8, 3) (mg 10 rfl)) (by decide) (fun q16 => ?_) (fun q16 => ?_)
      · skip
        refine X_aload_n C 0 (D (27, .aload_n 0, 1) (mg 14 rfl)) rfl rfl ?_
        refine X_get (v := .ref (wA w (x + 30))) C (x) 4 (by omega) hsx rfl rfl (by decide) inX7 fX7_34 rfl (D (28, .getfield 34, 3) (mg 15 rfl)) rfl ?_
        refine X_iload_n C 1 (D (31, .iload_n 1, 1) (mg 16 rfl)) rfl rfl ?_
        refine X_cV (As := [.int (a1)]) (st := []) C (post := _) (x + 30) (by omega) hY.2.1 rfl (ct_X6_prepare hw (y := x + 30) hY (a1) h g) kX7_172 (by decide) (by decide) rfl rfl (Nat.le_of_ble_eq_true rfl) (D (32, .invokevirtual 172, 3) (mg 17 rfl)) rfl (fun v19 H17 G18 hv19 => ?_)
        obtain ⟨rfl, f20, z21, hz21, ez21⟩ := hv19
        show X k w _ 35 [some (.ref (wA w (x))), some (.int (a1)), some (.int (a2)), none] [] H17 G18
        refine X_aload_n C 0 (D (35, .aload_n 0, 1) (mg 18 rfl)) rfl rfl ?_
        refine X_get (v := .ref (wA w (x + 30))) C (x) 4 (by omega) hsx rfl rfl (by decide) inX7 fX7_34 rfl (D (36, .getfield 34, 3) (mg 19 rfl)) rfl ?_
        refine X_aload_n C 0 (D (39, .aload_n 0, 1) (mg 20 rfl)) rfl rfl ?_
        refine X_get (v := .ref (wA w (x + 1))) C (x) 0 (by omega) hsx rfl rfl (by decide) inX7 fX7_10 rfl (D (40, .getfield 10, 3) (mg 21 rfl)) rfl ?_
        refine X_get (v := .ref (wA w (x + 2))) C (x + 1) 0 (by omega) hT.2.1 rfl rfl (by decide) inX4 fX7_61 rfl (D (43, .getfield 61, 3) (mg 22 rfl)) rfl ?_
        refine X_get (v := .int (H17 (x + 2) 3)) C (x + 2) 3 (by omega) hT.2.2.1.2.1 rfl rfl (by decide) inX1 fX7_118 rfl (D (46, .getfield 118, 3) (mg 23 rfl)) rfl ?_
        refine X_ti (y := nI (c0)) (((f20 _ _ (by omega) (by omega) (by omega))).trans hat) ?_
        refine X_cV (As := [.int (nI (c0))]) (st := []) C (post := _) (x + 30) (by omega) hY.2.1 rfl (ct_X6_fewestFrom hw (y := x + 30) hY (s := z21) (by omega) (nI (c0)) H17 G18 (ez21)) kX7_175 (by decide) (by decide) rfl rfl (Nat.le_of_ble_eq_true rfl) (D (49, .invokevirtual 175, 3) (mg 24 rfl)) rfl (fun v24 H22 G23 hv24 => ?_)
        obtain ⟨⟨y25, rfl⟩, rfl, rfl⟩ := hv24
        show X k w _ 52 [some (.ref (wA w (x))), some (.int (a1)), some (.int (a2)), none] [.int (y25)] H17 G18
        refine X_istore_n (ls' := [some (.ref (wA w (x))), some (.int (a1)), some (.int (a2)), some (.int (y25))]) C 3 (D (52, .istore_n 3, 1) (mg 25 rfl)) rfl (Nat.le_of_ble_eq_true rfl) rfl ?_
        refine X_iload_n C 2 (D (53, .iload_n 2, 1) (mg 26 rfl)) rfl rfl ?_
        refine X_iconst (v := (-1 : Int32)) C (D (54, .iconst (-1), 1) (mg 27 rfl)) (by decide) ?_
        refine X_icmp_ne (tgt := 60) C (D (55, .if_icmp .ne 5, 3) (mg 28 rfl)) (by decide) (fun q26 => ?_) (fun q26 => ?_)
        · skip
          refine X_iload_n C 2 (D (60, .iload_n 2, 1) (mg 31 rfl)) rfl rfl ?_
          refine X_iload_n C 3 (D (61, .iload_n 3, 1) (mg 32 rfl)) rfl rfl ?_
          refine X_icmp_ge (tgt := 86) C (D (62, .if_icmp .ge 24, 3) (mg 33 rfl)) (by decide) (fun q27 => ?_) (fun q27 => ?_)
          · skip
            refine X_bipush (v := (-5 : Int32)) C (D (86, .bipush (-5), 2) (mg 43 rfl)) (by decide) ?_
            exact X_iret C (D (88, .ireturn, 1) (mg 44 rfl)) ⟨⟨_, rfl⟩, ⟨fun q i z0 => by have z := z0; unfold SW at z; rw [f20 _ _ (by omega) (by omega) (by omega)], ⟨c0, (by omega), (((f20 _ _ (by omega) (by omega) (by omega))).trans hat)⟩, (paOk_k (fun q i z => by rw [f20 _ _ (by omega) (by omega) (by omega)]) hpa)⟩⟩
          · skip
            refine X_aload_n C 0 (D (65, .aload_n 0, 1) (mg 34 rfl)) rfl rfl ?_
            refine X_get (v := .ref (wA w (x + 30))) C (x) 4 (by omega) hsx rfl rfl (by decide) inX7 fX7_34 rfl (D (66, .getfield 34, 3) (mg 35 rfl)) rfl ?_
            refine X_aload_n C 0 (D (69, .aload_n 0, 1) (mg 36 rfl)) rfl rfl ?_
            refine X_get (v := .ref (wA w (x + 1))) C (x) 0 (by omega) hsx rfl rfl (by decide) inX7 fX7_10 rfl (D (70, .getfield 10, 3) (mg 37 rfl)) rfl ?_
            refine X_get (v := .ref (wA w (x + 2))) C (x + 1) 0 (by omega) hT.2.1 rfl rfl (by decide) inX4 fX7_61 rfl (D (73, .getfield 61, 3) (mg 38 rfl)) rfl ?_
            refine X_get (v := .int (H17 (x + 2) 3)) C (x + 2) 3 (by omega) hT.2.2.1.2.1 rfl rfl (by decide) inX1 fX7_118 rfl (D (76, .getfield 118, 3) (mg 39 rfl)) rfl ?_
            refine X_ti (y := nI (c0)) (((f20 _ _ (by omega) (by omega) (by omega))).trans hat) ?_
            refine X_iload_n C 2 (D (79, .iload_n 2, 1) (mg 40 rfl)) rfl rfl ?_
            refine X_cV (As := [.int (nI (c0)), .int (a2)]) (st := []) C (post := _) (x + 30) (by omega) hY.2.1 rfl (ct_X6_stepFrom hw (y := x + 30) hY (s := z21) (by omega) (c := c0) (by omega) (a2) H17 G18 (ez21)) kX7_178 (by decide) (by decide) rfl rfl (Nat.le_of_ble_eq_true rfl) (D (80, .invokevirtual 178, 3) (mg 41 rfl)) rfl (fun v30 H28 G29 hv30 => ?_)
            obtain ⟨⟨y31, rfl⟩, rfl, rfl⟩ := hv30
            show X k w _ 83 [some (.ref (wA w (x))), some (.int (a1)), some (.int (a2)), some (.int (y25))] [.int (y31)] H17 G18
            refine X_goto (tgt := 88) C (D (83, .goto 5, 3) (mg 42 rfl)) (by decide) ?_
            exact X_iret C (D (88, .ireturn, 1) (mg 44 rfl)) ⟨⟨_, rfl⟩, ⟨fun q i z0 => by have z := z0; unfold SW at z; rw [f20 _ _ (by omega) (by omega) (by omega)], ⟨c0, (by omega), (((f20 _ _ (by omega) (by omega) (by omega))).trans hat)⟩, (paOk_k (fun q i z => by rw [f20 _ _ (by omega) (by omega) (by omega)]) hpa)⟩⟩
        · skip
          refine X_iload_n C 3 (D (58, .iload_n 3, 1) (mg 29 rfl)) rfl rfl ?_
          exact X_iret C (D (59, .ireturn, 1) (mg 30 rfl)) ⟨⟨_, rfl⟩, ⟨fun q i z0 => by have z := z0; unfold SW at z; rw [f20 _ _ (by omega) (by omega) (by omega)], ⟨c0, (by omega), (((f20 _ _ (by omega) (by omega) (by omega))).trans hat)⟩, (paOk_k (fun q i z => by rw [f20 _ _ (by omega) (by omega) (by omega)]) hpa)⟩⟩
      · skip
        refine X_aload_n C 0 (D (22, .aload_n 0, 1) (mg 11 rfl)) rfl rfl ?_
        refine X_cV (As := []) (st := []) C (post := _) (x) (by omega) hsx rfl (ct_X7_refuseBadTen hw hC0 h g) kX7_169 (by decide) (by decide) rfl rfl (Nat.le_of_ble_eq_true rfl) (D (23, .invokevirtual 169, 3) (mg 12 rfl)) rfl (fun v34 H32 G33 hv34 => ?_)
        obtain ⟨rfl, rfl, rfl⟩ := hv34
        show X k w _ 26 [some (.ref (wA w (x))), some (.int (a1)), some (.int (a2)), none] [.int ((-10 : Int32))] (rcH h (x) 9) g
        exact X_iret C (D (26, .ireturn, 1) (mg 13 rfl)) ⟨⟨_, rfl⟩, ⟨fun q i z0 => by have z := z0; unfold SW at z; rw [rcH_ne _ _ _ (by omega)], ⟨c0, (by omega), (((rcH_ne _ _ _ (by omega))).trans hat)⟩, (paOk_k (fun q i z => by rw [rcH_ne _ _ _ (by omega)]) hpa)⟩⟩
set_option maxHeartbeats 4000000 in
set_option maxRecDepth 100000 in
theorem ct_X7_greensByThree {l : Launch} {w : Kw} (hw : wOk w) {x : Nat} (hC : shC w x) (a1 a2 a3 a4 : Int32) (h : xI) (g : xJ) (hI : cOk h x) : Ct l w yX7_greensByThree cX7_greensByThree 8 (some .int) 5 113 [.ref (wA w (x)), .int (a1), .int (a2), .int (a3), .int (a4)] h g (pQ (wI x h)) := by
  refine Ct_of (ls := [some (.ref (wA w (x))), some (.int (a1)), some (.int (a2)), some (.int (a3)), some (.int (a4)), none, none, none]) (by decide) hw (Nat.le_of_ble_eq_true rfl) rfl (fun k hkl C => ?_)
  have C : Cx k w cX7_greensByThree RX7 8 (some .int) 5 113 := C
  have D := dtX7_greensByThree
  subst hkl
  have hC0 := hC
  obtain ⟨hxn, hsx, hT, hsi, hTa, hTb, hsk, hNs, hY, hX, hsv⟩ := hC
  have hY2 := hY.1
  have hX2 := hX.1
  have hI0 := hI
  obtain ⟨⟨⟨c0, hc0, hat⟩, hpa, ⟨ns, hns, hse⟩, ⟨nm, hnm, hma⟩⟩, -, -, ⟨nt, hnt, htx⟩, ⟨ct, hct, hatx⟩⟩ := hI
  have hI := hI0
  refine X_aload_n C 0 (D (0, .aload_n 0, 1) (mg 0 rfl)) rfl rfl ?_
  refine X_get (v := .ref (wA w (x + 1))) C (x) 0 (by omega) hsx rfl rfl (by decide) inX7 fX7_10 rfl (D (1, .getfield 10, 3) (mg 1 rfl)) rfl ?_
  refine X_get (v := .ref (wA w (x + 2))) C (x + 1) 0 (by omega) hT.2.1 rfl rfl (by decide) inX4 fX7_61 rfl (D (4, .getfield 61, 3) (mg 2 rfl)) rfl ?_
  refine X_get (v := .int (h (x + 2) 3)) C (x + 2) 3 (by omega) hT.2.2.1.2.1 rfl rfl (by decide) inX1 fX7_118 rfl (D (7, .getfield 118, 3) (mg 3 rfl)) rfl ?_
  refine X_ti (y := nI (c0)) (hat) ?_
  refine X_iload_n C 1 (D (10, .iload_n 1, 1) (mg 4 rfl)) rfl rfl ?_
  refine X_cS (As := [.int (nI (c0)), .int (a1)]) (st := []) C (post := _) (ct_X7_beside hw (j := c0) (by omega) (a1) h g) kX7_121 (by decide) (by decide) rfl rfl (Nat.le_of_ble_eq_true rfl) (D (11, .invokestatic 121, 3) (mg 5 rfl)) rfl (fun v3 H1 G2 hv3 => ?_)
  obtain ⟨⟨y4, rfl, hy4, ey4⟩, rfl, rfl⟩ := hv3
  show X k w _ 14 [some (.ref (wA w (x))), some (.int (a1)), some (.int (a2)), some (.int (a3)), some (.int (a4)), none, none, none] [.int (y4)] h g
  refine X_istore (ls' := [some (.ref (wA w (x))), some (.int (a1)), some (.int (a2)), some (.int (a3)), some (.int (a4)), some (.int (y4)), none, none]) C (D (14, .istore 5, 2) (mg 6 rfl)) (Nat.le_of_ble_eq_true rfl) rfl ?_
  refine X_iload C (D (16, .iload 5, 2) (mg 7 rfl)) rfl ?_
  refine X_iconst (v := (-1 : Int32)) C (D (18, .iconst (-1), 1) (mg 8 rfl)) (by decide) ?_
  refine X_icmp_ne (tgt := 26) C (D (19, .if_icmp .ne 7, 3) (mg 9 rfl)) (by decide) (fun q5 => ?_) (fun q5 => ?_)
  · skip
    obtain ⟨c6, hc6, rfl⟩ := hy4.resolve_left q5
    refine X_iload C (D (26, .iload 5, 2) (mg 12 rfl)) rfl ?_
    refine X_iload_n C 2 (D (28, .iload_n 2, 1) (mg 13 rfl)) rfl rfl ?_
    refine X_cS (As := [.int (nI (c6)), .int (a2)]) (st := []) C (post := _) (ct_X7_beside hw (j := c6) (by omega) (a2) h g) kX7_121 (by decide) (by decide) rfl rfl (Nat.le_of_ble_eq_true rfl) (D (29, .invokestatic 121, 3) (mg 14 rfl)) rfl (fun v9 H7 G8 hv9 => ?_)
    obtain ⟨⟨y10, rfl, hy10, ey10⟩, rfl, rfl⟩ := hv9
    show X k w _ 32 [some (.ref (wA w (x))), some (.int (a1)), some (.int (a2)), some (.int (a3)), some (.int (a4)), some (.int (nI (c6))), none, none] [.int (y10)] h g
    refine X_istore (ls' := [some (.ref (wA w (x))), some (.int (a1)), some (.int (a2)), some (.int (a3)), some (.int (a4)), some (.int (nI (c6))), some (.int (y10)), none]) C (D (32, .istore 6, 2) (mg 15 rfl)) (Nat.le_of_ble_eq_true rfl) rfl ?_
    refine X_iload C (D (34, .iload 6, 2) (mg 16 rfl)) rfl ?_
    refine X_iconst (v := (-1 : Int32)) C (D (36, .iconst (-1), 1) (mg 17 rfl)) (by decide) ?_
    refine X_icmp_ne (tgt := 44) C (D (37, .if_icmp .ne 7, 3) (mg 18 rfl)) (by decide) (fun q11 => ?_) (fun q11 => ?_)
    · skip
      obtain ⟨c12, hc12, rfl⟩ := hy10.resolve_left q11
      refine X_iload C (D (44, .iload 6, 2) (mg 21 rfl)) rfl ?_
      refine X_iload_n C 3 (D (46, .iload_n 3, 1) (mg 22 rfl)) rfl rfl ?_
      refine X_cS (As := [.int (nI (c12)), .int (a3)]) (st := []) C (post := _) (ct_X7_beside hw (j := c12) (by omega) (a3) h g) kX7_121 (by decide) (by decide) rfl rfl (Nat.le_of_ble_eq_true rfl) (D (47, .invokestatic 121, 3) (mg 23 rfl)) rfl (fun v15 H13 G14 hv15 => ?_)
      obtain ⟨⟨y16, rfl, hy16, ey16⟩, rfl, rfl⟩ := hv15
      show X k w _ 50 [some (.ref (wA w (x))), some (.int (a1)), some (.int (a2)), some (.int (a3)), some (.int (a4)), some (.int (nI (c6))), some (.int (nI (c12))), none] [.int (y16)] h g
      refine X_istore (ls' := [some (.ref (wA w (x))), some (.int (a1)), some (.int (a2)), some (.int (a3)), some (.int (a4)), some (.int (nI (c6))), some (.int (nI (c12))), some (.int (y16))]) C (D (50, .istore 7, 2) (mg 24 rfl)) (Nat.le_of_ble_eq_true rfl) rfl ?_
      refine X_iload C (D (52, .iload 7, 2) (mg 25 rfl)) rfl ?_
      refine X_iconst (v := (-1 : Int32)) C (D (54, .iconst (-1), 1) (mg 26 rfl)) (by decide) ?_
      refine X_icmp_ne (tgt := 60) C (D (55, .if_icmp .ne 5, 3) (mg 27 rfl)) (by decide) (fun q17 => ?_) (fun q17 => ?_)
      · skip
        obtain ⟨c18, hc18, rfl⟩ := hy16.resolve_left q17
        refine X_aload_n C 0 (D (60, .aload_n 0, 1) (mg 30 rfl)) rfl rfl ?_
        refine X_get (v := .ref (wA w (x + 27))) C (x) 3 (by omega) hsx rfl rfl (by decide) inX7 fX7_27 rfl (D (61, .getfield 27, 3) (mg 31 rfl)) rfl ?_
        refine X_aload_n C 0 (D (64, .aload_n 0, 1) (mg 32 rfl)) rfl rfl ?_
        refine X_get (v := .ref (wA w (x + 1))) C (x) 0 (by omega) hsx rfl rfl (by decide) inX7 fX7_10 rfl (D (65, .getfield 10, 3) (mg 33 rfl)) rfl ?_
        refine X_get (v := .ref (wA w (x + 2))) C (x + 1) 0 (by omega) hT.2.1 rfl rfl (by decide) inX4 fX7_61 rfl (D (68, .getfield 61, 3) (mg 34 rfl)) rfl ?_
        refine X_cV (As := [.ref (wA w (x + 2))]) (st := []) C (post := _) (x + 27) (by omega) hNs.2.1 rfl (ct_X1_copyFrom hw (n := x + 27) hNs (o := x + 2) hT.2.2.1 h g) kX7_101 (by decide) (by decide) rfl rfl (Nat.le_of_ble_eq_true rfl) (D (71, .invokevirtual 101, 3) (mg 35 rfl)) rfl (fun v21 H19 G20 hv21 => ?_)
        obtain ⟨rfl, rfl, rfl⟩ := hv21
        show X k w _ 74 [some (.ref (wA w (x))), some (.int (a1)), some (.int (a2)), some (.int (a3)), some (.int (a4)), some (.int (nI (c6))), some (.int (nI (c12))), some (.int (nI (c18)))] [] (ccH h (x + 27) (x + 2)) g
        refine X_aload_n C 0 (D (74, .aload_n 0, 1) (mg 36 rfl)) rfl rfl ?_
        refine X_get (v := .ref (wA w (x + 27))) C (x) 3 (by omega) hsx rfl rfl (by decide) inX7 fX7_27 rfl (D (75, .getfield 27, 3) (mg 37 rfl)) rfl ?_
        refine X_iload C (D (78, .iload 5, 2) (mg 38 rfl)) rfl ?_
        refine X_cV (As := [.int (nI (c6))]) (st := []) C (post := _) (x + 27) (by omega) hNs.2.1 rfl (ct_X1_stepTo hw (n := x + 27) hNs (j := c6) (by omega) (ccH h (x + 27) (x + 2)) g) kX7_125 (by decide) (by decide) rfl rfl (Nat.le_of_ble_eq_true rfl) (D (80, .invokevirtual 125, 3) (mg 39 rfl)) rfl (fun v24 H22 G23 hv24 => ?_)
        obtain ⟨rfl, rfl, rfl⟩ := hv24
        show X k w _ 83 [some (.ref (wA w (x))), some (.int (a1)), some (.int (a2)), some (.int (a3)), some (.int (a4)), some (.int (nI (c6))), some (.int (nI (c12))), some (.int (nI (c18)))] [] (csH (ccH h (x + 27) (x + 2)) (x + 27) (c6)) g
        refine X_aload_n C 0 (D (83, .aload_n 0, 1) (mg 40 rfl)) rfl rfl ?_
        refine X_get (v := .ref (wA w (x + 27))) C (x) 3 (by omega) hsx rfl rfl (by decide) inX7 fX7_27 rfl (D (84, .getfield 27, 3) (mg 41 rfl)) rfl ?_
        refine X_iload C (D (87, .iload 6, 2) (mg 42 rfl)) rfl ?_
        refine X_cV (As := [.int (nI (c12))]) (st := []) C (post := _) (x + 27) (by omega) hNs.2.1 rfl (ct_X1_stepTo hw (n := x + 27) hNs (j := c12) (by omega) (csH (ccH h (x + 27) (x + 2)) (x + 27) (c6)) g) kX7_125 (by decide) (by decide) rfl rfl (Nat.le_of_ble_eq_true rfl) (D (89, .invokevirtual 125, 3) (mg 43 rfl)) rfl (fun v27 H25 G26 hv27 => ?_)
        obtain ⟨rfl, rfl, rfl⟩ := hv27
        show X k w _ 92 [some (.ref (wA w (x))), some (.int (a1)), some (.int (a2)), some (.int (a3)), some (.int (a4)), some (.int (nI (c6))), some (.int (nI (c12))), some (.int (nI (c18)))] [] (csH (csH (ccH h (x + 27) (x + 2)) (x + 27) (c6)) (x + 27) (c12)) g
        refine X_aload_n C 0 (D (92, .aload_n 0, 1) (mg 44 rfl)) rfl rfl ?_
        refine X_get (v := .ref (wA w (x + 27))) C (x) 3 (by omega) hsx rfl rfl (by decide) inX7 fX7_27 rfl (D (93, .getfield 27, 3) (mg 45 rfl)) rfl ?_
        refine X_iload C (D (96, .iload 7, 2) (mg 46 rfl)) rfl ?_
        refine X_cV (As := [.int (nI (c18))]) (st := []) C (post := _) (x + 27) (by omega) hNs.2.1 rfl (ct_X1_stepTo hw (n := x + 27) hNs (j := c18) (by omega) (csH (csH (ccH h (x + 27) (x + 2)) (x + 27) (c6)) (x + 27) (c12)) g) kX7_125 (by decide) (by decide) rfl rfl (Nat.le_of_ble_eq_true rfl) (D (98, .invokevirtual 125, 3) (mg 47 rfl)) rfl (fun v30 H28 G29 hv30 => ?_)
        obtain ⟨rfl, rfl, rfl⟩ := hv30
        show X k w _ 101 [some (.ref (wA w (x))), some (.int (a1)), some (.int (a2)), some (.int (a3)), some (.int (a4)), some (.int (nI (c6))), some (.int (nI (c12))), some (.int (nI (c18)))] [] (csH (csH (csH (ccH h (x + 27) (x + 2)) (x + 27) (c6)) (x + 27) (c12)) (x + 27) (c18)) g
        refine X_aload_n C 0 (D (101, .aload_n 0, 1) (mg 48 rfl)) rfl rfl ?_
        refine X_get (v := .ref (wA w (x + 27))) C (x) 3 (by omega) hsx rfl rfl (by decide) inX7 fX7_27 rfl (D (102, .getfield 27, 3) (mg 49 rfl)) rfl ?_
        refine X_iload C (D (105, .iload 4, 2) (mg 50 rfl)) rfl ?_
        refine X_cV (As := [.int (a4)]) (st := []) C (post := _) (x + 27) (by omega) hNs.2.1 rfl (ct_X1_greenAfter hw (n := x + 27) hNs (a4) (csH (csH (csH (ccH h (x + 27) (x + 2)) (x + 27) (c6)) (x + 27) (c12)) (x + 27) (c18)) g) kX7_141 (by decide) (by decide) rfl rfl (Nat.le_of_ble_eq_true rfl) (D (107, .invokevirtual 141, 3) (mg 51 rfl)) rfl (fun v33 H31 G32 hv33 => ?_)
        obtain ⟨⟨y34, rfl⟩, rfl, rfl⟩ := hv33
        show X k w _ 110 [some (.ref (wA w (x))), some (.int (a1)), some (.int (a2)), some (.int (a3)), some (.int (a4)), some (.int (nI (c6))), some (.int (nI (c12))), some (.int (nI (c18)))] [.int (y34)] (csH (csH (csH (ccH h (x + 27) (x + 2)) (x + 27) (c6)) (x + 27) (c12)) (x + 27) (c18)) g
        exact X_iret C (D (110, .ireturn, 1) (mg 52 rfl)) ⟨⟨_, rfl⟩, ⟨fun q i z0 => by have z := z0; unfold SW at z; rw [csH_ne _ _ _ (by omega), csH_ne _ _ _ (by omega), csH_ne _ _ _ (by omega), ccH_ne _ _ _ (by omega)], ⟨c0, (by omega), ((((((csH_ne _ _ _ (by omega))).trans (csH_ne _ _ _ (by omega))).trans (csH_ne _ _ _ (by omega))).trans (ccH_ne _ _ _ (by omega))).trans hat)⟩, (paOk_k (fun q i z => by rw [csH_ne _ _ _ (by omega), csH_ne _ _ _ (by omega), csH_ne _ _ _ (by omega), ccH_ne _ _ _ (by omega)]) hpa)⟩⟩
      · skip
        subst q17
        refine X_iconst (v := (-1 : Int32)) C (D (58, .iconst (-1), 1) (mg 28 rfl)) (by decide) ?_
        exact X_iret C (D (59, .ireturn, 1) (mg 29 rfl)) ⟨⟨_, rfl⟩, (wI_r hI)⟩
    · skip
      subst q11
      refine X_iconst (v := (-1 : Int32)) C (D (40, .iconst (-1), 1) (mg 19 rfl)) (by decide) ?_
      refine X_goto (tgt := 50) C (D (41, .goto 9, 3) (mg 20 rfl)) (by decide) ?_
      refine X_istore (ls' := [some (.ref (wA w (x))), some (.int (a1)), some (.int (a2)), some (.int (a3)), some (.int (a4)), some (.int (nI (c6))), some (.int ((-1 : Int32))), some (.int ((-1 : Int32)))]) C (D (50, .istore 7, 2) (mg 24 rfl)) (Nat.le_of_ble_eq_true rfl) rfl ?_
      refine X_iload C (D (52, .iload 7, 2) (mg 25 rfl)) rfl ?_
      refine X_iconst (v := (-1 : Int32)) C (D (54, .iconst (-1), 1) (mg 26 rfl)) (by decide) ?_
      refine X_icmp_ne (tgt := 60) C (D (55, .if_icmp .ne 5, 3) (mg 27 rfl)) (by decide) (fun q35 => ?_) (fun q35 => ?_)
      · skip
        exact absurd q35 (by decide)
      · skip
        refine X_iconst (v := (-1 : Int32)) C (D (58, .iconst (-1), 1) (mg 28 rfl)) (by decide) ?_
        exact X_iret C (D (59, .ireturn, 1) (mg 29 rfl)) ⟨⟨_, rfl⟩, (wI_r hI)⟩
  · skip
    subst q5
    refine X_iconst (v := (-1 : Int32)) C (D (22, .iconst (-1), 1) (mg 10 rfl)) (by decide) ?_
    refine X_goto (tgt := 32) C (D (23, .goto 9, 3) (mg 11 rfl)) (by decide) ?_
    refine X_istore (ls' := [some (.ref (wA w (x))), some (.int (a1)), some (.int (a2)), some (.int (a3)), some (.int (a4)), some (.int ((-1 : Int32))), some (.int ((-1 : Int32))), none]) C (D (32, .istore 6, 2) (mg 15 rfl)) (Nat.le_of_ble_eq_true rfl) rfl ?_
    refine X_iload C (D (34, .iload 6, 2) (mg 16 rfl)) rfl ?_
    refine X_iconst (v := (-1 : Int32)) C (D (36, .iconst (-1), 1) (mg 17 rfl)) (by decide) ?_
    refine X_icmp_ne (tgt := 44) C (D (37, .if_icmp .ne 7, 3) (mg 18 rfl)) (by decide) (fun q36 => ?_) (fun q36 => ?_)
    · skip
      exact absurd q36 (by decide)
    · skip
      refine X_iconst (v := (-1 : Int32)) C (D (40, .iconst (-1), 1) (mg 19 rfl)) (by decide) ?_
      refine X_goto (tgt := 50) C (D (41, .goto 9, 3) (mg 20 rfl)) (by decide) ?_
      refine X_istore (ls' := [some (.ref (wA w (x))), some (.int (a1)), some (.int (a2)), some (.int (a3)), some (.int (a4)), some (.int ((-1 : Int32))), some (.int ((-1 : Int32))), some (.int ((-1 : Int32)))]) C (D (50, .istore 7, 2) (mg 24 rfl)) (Nat.le_of_ble_eq_true rfl) rfl ?_
      refine X_iload C (D (52, .iload 7, 2) (mg 25 rfl)) rfl ?_
      refine X_iconst (v := (-1 : Int32)) C (D (54, .iconst (-1), 1) (mg 26 rfl)) (by decide) ?_
      refine X_icmp_ne (tgt := 60) C (D (55, .if_icmp .ne 5, 3) (mg 27 rfl)) (by decide) (fun q37 => ?_) (fun q37 => ?_)
      · skip
        exact absurd q37 (by decide)
      · skip
        refine X_iconst (v := (-1 : Int32)) C (D (58, .iconst (-1), 1) (mg 28 rfl)) (by decide) ?_
        exact X_iret C (D (59, .ireturn, 1) (mg 29 rfl)) ⟨⟨_, rfl⟩, (wI_r hI)⟩
set_option maxHeartbeats 4000000 in
set_option maxRecDepth 100000 in
theorem ct_X7_three {l : Launch} {w : Kw} (hw : wOk w) {x : Nat} (hC : shC w x) (a1 a2 : Int32) (h : xI) (g : xJ) (hI : cOk h x) : Ct l w yX7_three cX7_three 10 (some .int) 6 140 [.ref (wA w (x)), .int (a1), .int (a2)] h g (pQ (wI x h)) := by
  refine Ct_of (ls := [some (.ref (wA w (x))), some (.int (a1)), some (.int (a2)), none, none, none, none, none, none, none]) (by decide) hw (Nat.le_of_ble_eq_true rfl) rfl (fun k hkl C => ?_)
  have C : Cx k w cX7_three RX7 10 (some .int) 6 140 := C
  have D := dtX7_three
  subst hkl
  have hC0 := hC
  obtain ⟨hxn, hsx, hT, hsi, hTa, hTb, hsk, hNs, hY, hX, hsv⟩ := hC
  have hY2 := hY.1
  have hX2 := hX.1
  have hI0 := hI
  obtain ⟨⟨⟨c0, hc0, hat⟩, hpa, ⟨ns, hns, hse⟩, ⟨nm, hnm, hma⟩⟩, -, -, ⟨nt, hnt, htx⟩, ⟨ct, hct, hatx⟩⟩ := hI
  have hI := hI0
  refine X_iload_n C 1 (D (0, .iload_n 1, 1) (mg 0 rfl)) rfl rfl ?_
  refine X_cS (As := [.int (a1)]) (st := []) C (post := _) (ct_X7_isLookAhead hw (a1) h g) kX7_160 (by decide) (by decide) rfl rfl (Nat.le_of_ble_eq_true rfl) (D (1, .invokestatic 160, 3) (mg 1 rfl)) rfl (fun v3 H1 G2 hv3 => ?_)
  obtain ⟨rfl, rfl, rfl⟩ := hv3
  show X k w _ 4 [some (.ref (wA w (x))), some (.int (a1)), some (.int (a2)), none, none, none, none, none, none, none] [.int (if 0 ≤ (a1).toInt ∧ (a1).toInt < ((61 : Nat) : Int) then 1 else 0)] h g
  refine X_if_eq (tgt := 15) C (D (4, .ifCond .eq 11, 3) (mg 2 rfl)) (by decide) (fun q4 => ?_) (fun q4 => ?_)
  · skip
    have q4 : ¬ (0 ≤ (a1).toInt ∧ (a1).toInt < ((61 : Nat) : Int)) := bz0.mp q4
    refine X_aload_n C 0 (D (15, .aload_n 0, 1) (mg 7 rfl)) rfl rfl ?_
    refine X_cV (As := []) (st := []) C (post := _) (x) (by omega) hsx rfl (ct_X7_refuseBad hw hC0 h g) kX7_57 (by decide) (by decide) rfl rfl (Nat.le_of_ble_eq_true rfl) (D (16, .invokevirtual 57, 3) (mg 8 rfl)) rfl (fun v7 H5 G6 hv7 => ?_)
    obtain ⟨rfl, rfl, rfl⟩ := hv7
    show X k w _ 19 [some (.ref (wA w (x))), some (.int (a1)), some (.int (a2)), none, none, none, none, none, none, none] [.int ((-2 : Int32))] (rcH h (x) 9) g
    exact X_iret C (D (19, .ireturn, 1) (mg 9 rfl)) ⟨⟨_, rfl⟩, ⟨fun q i z0 => by have z := z0; unfold SW at z; rw [rcH_ne _ _ _ (by omega)], ⟨c0, (by omega), (((rcH_ne _ _ _ (by omega))).trans hat)⟩, (paOk_k (fun q i z => by rw [rcH_ne _ _ _ (by omega)]) hpa)⟩⟩
  · skip
    have q4 : (0 ≤ (a1).toInt ∧ (a1).toInt < ((61 : Nat) : Int)) := bz1.mp q4
    obtain ⟨n8, hn8, rfl⟩ := nI_i (x := a1) (n := 61) q4.1 (by omega)
    refine X_iload_n C 2 (D (7, .iload_n 2, 1) (mg 3 rfl)) rfl rfl ?_
    refine X_iconst (v := nI (2)) C (D (8, .iconst 2, 1) (mg 4 rfl)) (by decide) ?_
    refine X_cS (As := [.int (a2), .int (nI (2))]) (st := []) C (post := _) (ct_X7_isBelow hw (a2) (B := 2) (by decide) h g) kX7_53 (by decide) (by decide) rfl rfl (Nat.le_of_ble_eq_true rfl) (D (9, .invokestatic 53, 3) (mg 5 rfl)) rfl (fun v11 H9 G10 hv11 => ?_)
    obtain ⟨rfl, rfl, rfl⟩ := hv11
    show X k w _ 12 [some (.ref (wA w (x))), some (.int (nI (n8))), some (.int (a2)), none, none, none, none, none, none, none] [.int (if 0 ≤ (a2).toInt ∧ (a2).toInt < ((2 : Nat) : Int) then 1 else 0)] h g
    refine X_if_ne (tgt := 20) C (D (12, .ifCond .ne 8, 3) (mg 6 rfl)) (by decide) (fun q12 => ?_) (fun q12 => ?_)
    · skip
      have q12 : (0 ≤ (a2).toInt ∧ (a2).toInt < ((2 : Nat) : Int)) := bz1.mp q12
      refine X_iconst (v := (-1 : Int32)) C (D (20, .iconst (-1), 1) (mg 10 rfl)) (by decide) ?_
      refine X_istore_n (ls' := [some (.ref (wA w (x))), some (.int (nI (n8))), some (.int (a2)), some (.int ((-1 : Int32))), none, none, none, none, none, none]) C 3 (D (21, .istore_n 3, 1) (mg 11 rfl)) rfl (Nat.le_of_ble_eq_true rfl) rfl ?_
      refine X_iconst (v := nI (0)) C (D (22, .iconst 0, 1) (mg 12 rfl)) (by decide) ?_
      refine X_istore (ls' := [some (.ref (wA w (x))), some (.int (nI (n8))), some (.int (a2)), some (.int ((-1 : Int32))), some (.int (nI (0))), none, none, none, none, none]) C (D (23, .istore 4, 2) (mg 13 rfl)) (Nat.le_of_ble_eq_true rfl) rfl ?_
      refine X_iconst (v := nI (0)) C (D (25, .iconst 0, 1) (mg 14 rfl)) (by decide) ?_
      refine X_istore (ls' := [some (.ref (wA w (x))), some (.int (nI (n8))), some (.int (a2)), some (.int ((-1 : Int32))), some (.int (nI (0))), some (.int (nI (0))), none, none, none, none]) C (D (26, .istore 5, 2) (mg 15 rfl)) (Nat.le_of_ble_eq_true rfl) rfl ?_
      have lp28 : ∀ (nn28 : Nat) (j : Nat) (b3 : Int32) (b4 : Int32) (hp28 : xI) (gp28 : xJ), (j ≤ 64) → (wI x h hp28) → 65 - j ≤ nn28 → X k w (Zq k w (pQ (wI x h))) 28 [some (.ref (wA w (x))), some (.int (nI (n8))), some (.int (a2)), some (.int (b3)), some (.int (b4)), some (.int (nI (j))), none, none, none, none] [] hp28 gp28 := by
        intro nn28
        induction nn28 with
        | zero => intro j b3 b4 hp28 gp28 hc28_0 hc28_1 hz; exact absurd hz (by omega)
        | succ nn28 ih28 =>
          intro j b3 b4 hp28 gp28 hc28_0 hc28_1 hz28
          obtain ⟨c13, hc13, hac13⟩ := (hc28_1).2.1
          refine X_iload C (D (28, .iload 5, 2) (mg 16 rfl)) rfl ?_
          refine X_bipush (v := nI (64)) C (D (30, .bipush 64, 2) (mg 17 rfl)) (by decide) ?_
          refine X_icmp_ge (tgt := 100) C (D (32, .if_icmp .ge 68, 3) (mg 18 rfl)) (by decide) (fun q14 => ?_) (fun q14 => ?_)
          · skip
            have q14 : (j) ≥ (64) := by have z := (nI_leI (a := (64)) (b := (j)) (by omega) (by omega)).mp q14; omega
            refine X_iload_n C 2 (D (100, .iload_n 2, 1) (mg 57 rfl)) rfl rfl ?_
            refine X_if_ne (tgt := 108) C (D (101, .ifCond .ne 7, 3) (mg 58 rfl)) (by decide) (fun q15 => ?_) (fun q15 => ?_)
            · skip
              refine X_iload C (D (108, .iload 4, 2) (mg 61 rfl)) rfl ?_
              exact X_iret C (D (110, .ireturn, 1) (mg 62 rfl)) ⟨⟨_, rfl⟩, hc28_1⟩
            · skip
              refine X_iload_n C 3 (D (104, .iload_n 3, 1) (mg 59 rfl)) rfl rfl ?_
              refine X_goto (tgt := 110) C (D (105, .goto 5, 3) (mg 60 rfl)) (by decide) ?_
              exact X_iret C (D (110, .ireturn, 1) (mg 62 rfl)) ⟨⟨_, rfl⟩, hc28_1⟩
          · skip
            have q14 : (j) < (64) := by have z : ¬ ((64) ≤ (j)) := fun u => q14 ((nI_leI (a := (64)) (b := (j)) (by omega) (by omega)).mpr u); omega
            refine X_iload C (D (35, .iload 5, 2) (mg 19 rfl)) rfl ?_
            refine X_bipush (v := nI (16)) C (D (37, .bipush 16, 2) (mg 20 rfl)) (by decide) ?_
            refine X_idiv C (D (39, .idiv, 1) (mg 21 rfl)) (by decide) ?_
            refine X_ti (y := nI ((j) / (16))) (pk_div (by omega) (by omega) (by omega)) ?_
            refine X_istore (ls' := [some (.ref (wA w (x))), some (.int (nI (n8))), some (.int (a2)), some (.int (b3)), some (.int (b4)), some (.int (nI (j))), some (.int (nI ((j) / (16)))), none, none, none]) C (D (40, .istore 6, 2) (mg 22 rfl)) (Nat.le_of_ble_eq_true rfl) rfl ?_
            refine X_iload C (D (42, .iload 5, 2) (mg 23 rfl)) rfl ?_
            refine X_iconst (v := nI (4)) C (D (44, .iconst 4, 1) (mg 24 rfl)) (by decide) ?_
            refine X_idiv C (D (45, .idiv, 1) (mg 25 rfl)) (by decide) ?_
            refine X_ti (y := nI ((j) / (4))) (pk_div (by omega) (by omega) (by omega)) ?_
            refine X_iconst (v := nI (4)) C (D (46, .iconst 4, 1) (mg 26 rfl)) (by decide) ?_
            refine X_irem C (D (47, .irem, 1) (mg 27 rfl)) (by decide) ?_
            refine X_ti (y := nI (((j) / (4)) % (4))) (pk_rem (by omega) (by omega) (by omega)) ?_
            refine X_istore (ls' := [some (.ref (wA w (x))), some (.int (nI (n8))), some (.int (a2)), some (.int (b3)), some (.int (b4)), some (.int (nI (j))), some (.int (nI ((j) / (16)))), some (.int (nI (((j) / (4)) % (4)))), none, none]) C (D (48, .istore 7, 2) (mg 28 rfl)) (Nat.le_of_ble_eq_true rfl) rfl ?_
            refine X_iload C (D (50, .iload 5, 2) (mg 29 rfl)) rfl ?_
            refine X_iconst (v := nI (4)) C (D (52, .iconst 4, 1) (mg 30 rfl)) (by decide) ?_
            refine X_irem C (D (53, .irem, 1) (mg 31 rfl)) (by decide) ?_
            refine X_ti (y := nI ((j) % (4))) (pk_rem (by omega) (by omega) (by omega)) ?_
            refine X_istore (ls' := [some (.ref (wA w (x))), some (.int (nI (n8))), some (.int (a2)), some (.int (b3)), some (.int (b4)), some (.int (nI (j))), some (.int (nI ((j) / (16)))), some (.int (nI (((j) / (4)) % (4)))), some (.int (nI ((j) % (4)))), none]) C (D (54, .istore 8, 2) (mg 32 rfl)) (Nat.le_of_ble_eq_true rfl) rfl ?_
            refine X_aload_n C 0 (D (56, .aload_n 0, 1) (mg 33 rfl)) rfl rfl ?_
            refine X_iload C (D (57, .iload 6, 2) (mg 34 rfl)) rfl ?_
            refine X_iload C (D (59, .iload 7, 2) (mg 35 rfl)) rfl ?_
            refine X_iload C (D (61, .iload 8, 2) (mg 36 rfl)) rfl ?_
            refine X_iload_n C 1 (D (63, .iload_n 1, 1) (mg 37 rfl)) rfl rfl ?_
            refine X_cV (As := [.int (nI ((j) / (16))), .int (nI (((j) / (4)) % (4))), .int (nI ((j) % (4))), .int (nI (n8))]) (st := []) C (post := _) (x) (by omega) hsx rfl (ct_X7_greensByThree hw hC0 (nI ((j) / (16))) (nI (((j) / (4)) % (4))) (nI ((j) % (4))) (nI (n8)) hp28 gp28 (cOk_w hI hc28_1)) kX7_181 (by decide) (by decide) rfl rfl (Nat.le_of_ble_eq_true rfl) (D (64, .invokevirtual 181, 3) (mg 38 rfl)) rfl (fun v18 H16 G17 hv18 => ?_)
            obtain ⟨⟨y19, rfl⟩, w20⟩ := hv18
            have w20 := wI_t hc28_1 w20
            obtain ⟨c21, hc21, hac21⟩ := (w20).2.1
            show X k w _ 67 [some (.ref (wA w (x))), some (.int (nI (n8))), some (.int (a2)), some (.int (b3)), some (.int (b4)), some (.int (nI (j))), some (.int (nI ((j) / (16)))), some (.int (nI (((j) / (4)) % (4)))), some (.int (nI ((j) % (4)))), none] [.int (y19)] H16 G17
            refine X_istore (ls' := [some (.ref (wA w (x))), some (.int (nI (n8))), some (.int (a2)), some (.int (b3)), some (.int (b4)), some (.int (nI (j))), some (.int (nI ((j) / (16)))), some (.int (nI (((j) / (4)) % (4)))), some (.int (nI ((j) % (4)))), some (.int (y19))]) C (D (67, .istore 9, 2) (mg 39 rfl)) (Nat.le_of_ble_eq_true rfl) rfl ?_
            refine X_iload C (D (69, .iload 9, 2) (mg 40 rfl)) rfl ?_
            refine X_iload_n C 3 (D (71, .iload_n 3, 1) (mg 41 rfl)) rfl rfl ?_
            refine X_icmp_le (tgt := 94) C (D (72, .if_icmp .le 22, 3) (mg 42 rfl)) (by decide) (fun q22 => ?_) (fun q22 => ?_)
            · skip
              refine X_iinc (v := nI (j + 1)) (ls' := [some (.ref (wA w (x))), some (.int (nI (n8))), some (.int (a2)), some (.int (b3)), some (.int (b4)), some (.int (nI (j + 1))), some (.int (nI ((j) / (16)))), some (.int (nI (((j) / (4)) % (4)))), some (.int (nI ((j) % (4)))), some (.int (y19))]) C (D (94, .iinc 5 1, 3) (mg 55 rfl)) rfl (nI_add (j) 1) rfl ?_
              refine X_goto (tgt := 28) C (D (97, .goto (-69), 3) (mg 56 rfl)) (by decide) ?_
              refine X_los (ls' := [some (.ref (wA w (x))), some (.int (nI (n8))), some (.int (a2)), some (.int (b3)), some (.int (b4)), some (.int (nI (j + 1))), none, none, none, none]) (by simp [lsub]) ?_
              refine X_eq (ls' := [some (.ref (wA w (x))), some (.int (nI (n8))), some (.int (a2)), some (.int (b3)), some (.int (b4)), some (.int (nI (j + 1))), none, none, none, none]) (st' := []) (h' := H16) (g' := G17) rfl rfl rfl rfl ?_
              exact ih28 (j + 1) (b3) (b4) (H16) (G17) (by omega) w20 (by omega)
            · skip
              refine X_iload C (D (75, .iload 9, 2) (mg 43 rfl)) rfl ?_
              refine X_istore_n (ls' := [some (.ref (wA w (x))), some (.int (nI (n8))), some (.int (a2)), some (.int (y19)), some (.int (b4)), some (.int (nI (j))), some (.int (nI ((j) / (16)))), some (.int (nI (((j) / (4)) % (4)))), some (.int (nI ((j) % (4)))), some (.int (y19))]) C 3 (D (77, .istore_n 3, 1) (mg 44 rfl)) rfl (Nat.le_of_ble_eq_true rfl) rfl ?_
              refine X_bipush (v := nI (100)) C (D (78, .bipush 100, 2) (mg 45 rfl)) (by decide) ?_
              refine X_iload C (D (80, .iload 6, 2) (mg 46 rfl)) rfl ?_
              refine X_imul C (D (82, .imul, 1) (mg 47 rfl)) ?_
              refine X_ti (y := nI ((100) * ((j) / (16)))) (pk_mul (100) ((j) / (16))) ?_
              refine X_bipush (v := nI (10)) C (D (83, .bipush 10, 2) (mg 48 rfl)) (by decide) ?_
              refine X_iload C (D (85, .iload 7, 2) (mg 49 rfl)) rfl ?_
              refine X_imul C (D (87, .imul, 1) (mg 50 rfl)) ?_
              refine X_ti (y := nI ((10) * (((j) / (4)) % (4)))) (pk_mul (10) (((j) / (4)) % (4))) ?_
              refine X_iadd C (D (88, .iadd, 1) (mg 51 rfl)) ?_
              refine X_ti (y := nI ((100) * ((j) / (16)) + (10) * (((j) / (4)) % (4)))) (nI_add ((100) * ((j) / (16))) ((10) * (((j) / (4)) % (4)))) ?_
              refine X_iload C (D (89, .iload 8, 2) (mg 52 rfl)) rfl ?_
              refine X_iadd C (D (91, .iadd, 1) (mg 53 rfl)) ?_
              refine X_ti (y := nI ((100) * ((j) / (16)) + (10) * (((j) / (4)) % (4)) + (j) % (4))) (nI_add ((100) * ((j) / (16)) + (10) * (((j) / (4)) % (4))) ((j) % (4))) ?_
              refine X_istore (ls' := [some (.ref (wA w (x))), some (.int (nI (n8))), some (.int (a2)), some (.int (y19)), some (.int (nI ((100) * ((j) / (16)) + (10) * (((j) / (4)) % (4)) + (j) % (4)))), some (.int (nI (j))), some (.int (nI ((j) / (16)))), some (.int (nI (((j) / (4)) % (4)))), some (.int (nI ((j) % (4)))), some (.int (y19))]) C (D (92, .istore 4, 2) (mg 54 rfl)) (Nat.le_of_ble_eq_true rfl) rfl ?_
              refine X_iinc (v := nI (j + 1)) (ls' := [some (.ref (wA w (x))), some (.int (nI (n8))), some (.int (a2)), some (.int (y19)), some (.int (nI ((100) * ((j) / (16)) + (10) * (((j) / (4)) % (4)) + (j) % (4)))), some (.int (nI (j + 1))), some (.int (nI ((j) / (16)))), some (.int (nI (((j) / (4)) % (4)))), some (.int (nI ((j) % (4)))), some (.int (y19))]) C (D (94, .iinc 5 1, 3) (mg 55 rfl)) rfl (nI_add (j) 1) rfl ?_
              refine X_goto (tgt := 28) C (D (97, .goto (-69), 3) (mg 56 rfl)) (by decide) ?_
              refine X_los (ls' := [some (.ref (wA w (x))), some (.int (nI (n8))), some (.int (a2)), some (.int (y19)), some (.int (nI ((100) * ((j) / (16)) + (10) * (((j) / (4)) % (4)) + (j) % (4)))), some (.int (nI (j + 1))), none, none, none, none]) (by simp [lsub]) ?_
              refine X_eq (ls' := [some (.ref (wA w (x))), some (.int (nI (n8))), some (.int (a2)), some (.int (y19)), some (.int (nI ((100) * ((j) / (16)) + (10) * (((j) / (4)) % (4)) + (j) % (4)))), some (.int (nI (j + 1))), none, none, none, none]) (st' := []) (h' := H16) (g' := G17) rfl rfl rfl rfl ?_
              exact ih28 (j + 1) (y19) (nI ((100) * ((j) / (16)) + (10) * (((j) / (4)) % (4)) + (j) % (4))) (H16) (G17) (by omega) w20 (by omega)
      refine X_eq (ls' := [some (.ref (wA w (x))), some (.int (nI (n8))), some (.int (a2)), some (.int ((-1 : Int32))), some (.int (nI (0))), some (.int (nI (0))), none, none, none, none]) (st' := []) (h' := h) (g' := g) rfl rfl rfl rfl ?_
      exact lp28 _ (0) ((-1 : Int32)) (nI (0)) (h) (g) (by omega) (wI_r hI) (Nat.le_refl _)
    · skip
      have q12 : ¬ (0 ≤ (a2).toInt ∧ (a2).toInt < ((2 : Nat) : Int)) := bz0.mp q12
      refine X_aload_n C 0 (D (15, .aload_n 0, 1) (mg 7 rfl)) rfl rfl ?_
      refine X_cV (As := []) (st := []) C (post := _) (x) (by omega) hsx rfl (ct_X7_refuseBad hw hC0 h g) kX7_57 (by decide) (by decide) rfl rfl (Nat.le_of_ble_eq_true rfl) (D (16, .invokevirtual 57, 3) (mg 8 rfl)) rfl (fun v25 H23 G24 hv25 => ?_)
      obtain ⟨rfl, rfl, rfl⟩ := hv25
      show X k w _ 19 [some (.ref (wA w (x))), some (.int (nI (n8))), some (.int (a2)), none, none, none, none, none, none, none] [.int ((-2 : Int32))] (rcH h (x) 9) g
      exact X_iret C (D (19, .ireturn, 1) (mg 9 rfl)) ⟨⟨_, rfl⟩, ⟨fun q i z0 => by have z := z0; unfold SW at z; rw [rcH_ne _ _ _ (by omega)], ⟨c0, (by omega), (((rcH_ne _ _ _ (by omega))).trans hat)⟩, (paOk_k (fun q i z => by rw [rcH_ne _ _ _ (by omega)]) hpa)⟩⟩
set_option maxHeartbeats 4000000 in
set_option maxRecDepth 100000 in
theorem ct_X7_years {l : Launch} {w : Kw} (hw : wOk w) {x : Nat} (hC : shC w x) (a1 a2 : Int32) (h : xI) (g : xJ) (hI : cOk h x) : Ct l w yX7_years cX7_years 8 (some .int) 5 113 [.ref (wA w (x)), .int (a1), .int (a2)] h g (pQ (wI x h)) := by
  refine Ct_of (ls := [some (.ref (wA w (x))), some (.int (a1)), some (.int (a2)), none, none, none, none, none]) (by decide) hw (Nat.le_of_ble_eq_true rfl) rfl (fun k hkl C => ?_)
  have C : Cx k w cX7_years RX7 8 (some .int) 5 113 := C
  have D := dtX7_years
  subst hkl
  have hC0 := hC
  obtain ⟨hxn, hsx, hT, hsi, hTa, hTb, hsk, hNs, hY, hX, hsv⟩ := hC
  have hY2 := hY.1
  have hX2 := hX.1
  have hI0 := hI
  obtain ⟨⟨⟨c0, hc0, hat⟩, hpa, ⟨ns, hns, hse⟩, ⟨nm, hnm, hma⟩⟩, -, -, ⟨nt, hnt, htx⟩, ⟨ct, hct, hatx⟩⟩ := hI
  have hI := hI0
  refine X_iload_n C 1 (D (0, .iload_n 1, 1) (mg 0 rfl)) rfl rfl ?_
  refine X_ldc C (D (1, .ldc 227, 2) (mg 1 rfl)) vX7_227 ?_
  refine X_ti (y := nI (1000000)) (by decide) ?_
  refine X_cS (As := [.int (a1), .int (nI (1000000))]) (st := []) C (post := _) (ct_X7_isBelow hw (a1) (B := 1000000) (by decide) h g) kX7_53 (by decide) (by decide) rfl rfl (Nat.le_of_ble_eq_true rfl) (D (3, .invokestatic 53, 3) (mg 2 rfl)) rfl (fun v3 H1 G2 hv3 => ?_)
  obtain ⟨rfl, rfl, rfl⟩ := hv3
  show X k w _ 6 [some (.ref (wA w (x))), some (.int (a1)), some (.int (a2)), none, none, none, none, none] [.int (if 0 ≤ (a1).toInt ∧ (a1).toInt < ((1000000 : Nat) : Int) then 1 else 0)] h g
  refine X_if_eq (tgt := 16) C (D (6, .ifCond .eq 10, 3) (mg 3 rfl)) (by decide) (fun q4 => ?_) (fun q4 => ?_)
  · skip
    have q4 : ¬ (0 ≤ (a1).toInt ∧ (a1).toInt < ((1000000 : Nat) : Int)) := bz0.mp q4
    refine X_aload_n C 0 (D (16, .aload_n 0, 1) (mg 7 rfl)) rfl rfl ?_
    refine X_cV (As := []) (st := []) C (post := _) (x) (by omega) hsx rfl (ct_X7_refuseBad hw hC0 h g) kX7_57 (by decide) (by decide) rfl rfl (Nat.le_of_ble_eq_true rfl) (D (17, .invokevirtual 57, 3) (mg 8 rfl)) rfl (fun v7 H5 G6 hv7 => ?_)
    obtain ⟨rfl, rfl, rfl⟩ := hv7
    show X k w _ 20 [some (.ref (wA w (x))), some (.int (a1)), some (.int (a2)), none, none, none, none, none] [.int ((-2 : Int32))] (rcH h (x) 9) g
    exact X_iret C (D (20, .ireturn, 1) (mg 9 rfl)) ⟨⟨_, rfl⟩, ⟨fun q i z0 => by have z := z0; unfold SW at z; rw [rcH_ne _ _ _ (by omega)], ⟨c0, (by omega), (((rcH_ne _ _ _ (by omega))).trans hat)⟩, (paOk_k (fun q i z => by rw [rcH_ne _ _ _ (by omega)]) hpa)⟩⟩
  · skip
    have q4 : (0 ≤ (a1).toInt ∧ (a1).toInt < ((1000000 : Nat) : Int)) := bz1.mp q4
    obtain ⟨n8, hn8, rfl⟩ := nI_i (x := a1) (n := 1000000) q4.1 (by omega)
    refine X_iload_n C 2 (D (9, .iload_n 2, 1) (mg 4 rfl)) rfl rfl ?_
    refine X_cS (As := [.int (a2)]) (st := []) C (post := _) (ct_X7_isLookAhead hw (a2) h g) kX7_160 (by decide) (by decide) rfl rfl (Nat.le_of_ble_eq_true rfl) (D (10, .invokestatic 160, 3) (mg 5 rfl)) rfl (fun v11 H9 G10 hv11 => ?_)
    obtain ⟨rfl, rfl, rfl⟩ := hv11
    show X k w _ 13 [some (.ref (wA w (x))), some (.int (nI (n8))), some (.int (a2)), none, none, none, none, none] [.int (if 0 ≤ (a2).toInt ∧ (a2).toInt < ((61 : Nat) : Int) then 1 else 0)] h g
    refine X_if_ne (tgt := 21) C (D (13, .ifCond .ne 8, 3) (mg 6 rfl)) (by decide) (fun q12 => ?_) (fun q12 => ?_)
    · skip
      have q12 : (0 ≤ (a2).toInt ∧ (a2).toInt < ((61 : Nat) : Int)) := bz1.mp q12
      obtain ⟨n13, hn13, rfl⟩ := nI_i (x := a2) (n := 61) q12.1 (by omega)
      refine X_aload_n C 0 (D (21, .aload_n 0, 1) (mg 10 rfl)) rfl rfl ?_
      refine X_get (v := .ref (wA w (x + 27))) C (x) 3 (by omega) hsx rfl rfl (by decide) inX7 fX7_27 rfl (D (22, .getfield 27, 3) (mg 11 rfl)) rfl ?_
      refine X_aload_n C 0 (D (25, .aload_n 0, 1) (mg 12 rfl)) rfl rfl ?_
      refine X_get (v := .ref (wA w (x + 1))) C (x) 0 (by omega) hsx rfl rfl (by decide) inX7 fX7_10 rfl (D (26, .getfield 10, 3) (mg 13 rfl)) rfl ?_
      refine X_get (v := .ref (wA w (x + 2))) C (x + 1) 0 (by omega) hT.2.1 rfl rfl (by decide) inX4 fX7_61 rfl (D (29, .getfield 61, 3) (mg 14 rfl)) rfl ?_
      refine X_cV (As := [.ref (wA w (x + 2))]) (st := []) C (post := _) (x + 27) (by omega) hNs.2.1 rfl (ct_X1_copyFrom hw (n := x + 27) hNs (o := x + 2) hT.2.2.1 h g) kX7_101 (by decide) (by decide) rfl rfl (Nat.le_of_ble_eq_true rfl) (D (32, .invokevirtual 101, 3) (mg 15 rfl)) rfl (fun v16 H14 G15 hv16 => ?_)
      obtain ⟨rfl, rfl, rfl⟩ := hv16
      show X k w _ 35 [some (.ref (wA w (x))), some (.int (nI (n8))), some (.int (nI (n13))), none, none, none, none, none] [] (ccH h (x + 27) (x + 2)) g
      refine X_iload_n C 1 (D (35, .iload_n 1, 1) (mg 16 rfl)) rfl rfl ?_
      refine X_i2l C (D (36, .i2l, 1) (mg 17 rfl)) ?_
      refine X_tl (y := lN (n8)) (nI_l (by omega)) ?_
      refine X_lstore_n (ls' := [some (.ref (wA w (x))), some (.int (nI (n8))), some (.int (nI (n13))), some (.long (lN (n8))), none, none, none, none]) C 3 (D (37, .lstore_n 3, 1) (mg 18 rfl)) rfl (Nat.le_of_ble_eq_true rfl) rfl ?_
      refine X_iconst (v := nI (0)) C (D (38, .iconst 0, 1) (mg 19 rfl)) (by decide) ?_
      refine X_istore (ls' := [some (.ref (wA w (x))), some (.int (nI (n8))), some (.int (nI (n13))), some (.long (lN (n8))), none, some (.int (nI (0))), none, none]) C (D (39, .istore 5, 2) (mg 20 rfl)) (Nat.le_of_ble_eq_true rfl) rfl ?_
      have lp41 : ∀ (nn41 : Nat) (c7 : Nat) (X3 : Nat) (j : Nat) (hp41 : xI) (gp41 : xJ), (c7 < 25) → (X3 < 2147483648) → (j ≤ 60) → (hp41 (x + 27) 3 = nI c7) → (wI x h hp41) → 61 - j ≤ nn41 → X k w (Zq k w (pQ (wI x h))) 41 [some (.ref (wA w (x))), some (.int (nI (n8))), some (.int (nI (n13))), some (.long (lN (X3))), none, some (.int (nI (j))), none, none] [] hp41 gp41 := by
        intro nn41
        induction nn41 with
        | zero => intro c7 X3 j hp41 gp41 hc41_0 hc41_1 hc41_2 hc41_3 hc41_4 hz; exact absurd hz (by omega)
        | succ nn41 ih41 =>
          intro c7 X3 j hp41 gp41 hc41_0 hc41_1 hc41_2 hc41_3 hc41_4 hz41
          obtain ⟨c17, hc17, hac17⟩ := (hc41_4).2.1
          refine X_iload C (D (41, .iload 5, 2) (mg 21 rfl)) rfl ?_
          refine X_iload_n C 2 (D (43, .iload_n 2, 1) (mg 22 rfl)) rfl rfl ?_
          refine X_icmp_ge (tgt := 154) C (D (44, .if_icmp .ge 110, 3) (mg 23 rfl)) (by decide) (fun q18 => ?_) (fun q18 => ?_)
          · skip
            have q18 : (j) ≥ (n13) := by have z := (nI_leI (a := (n13)) (b := (j)) (by omega) (by omega)).mp q18; omega
            refine X_aload_n C 0 (D (154, .aload_n 0, 1) (mg 77 rfl)) rfl rfl ?_
            refine X_get (v := .ref (wA w (x + 27))) C (x) 3 (by omega) hsx rfl rfl (by decide) inX7 fX7_27 rfl (D (155, .getfield 27, 3) (mg 78 rfl)) rfl ?_
            refine X_iconst (v := nI (0)) C (D (158, .iconst 0, 1) (mg 79 rfl)) (by decide) ?_
            refine X_cV (As := [.int (nI (0))]) (st := []) C (post := _) (x + 27) (by omega) hNs.2.1 rfl (ct_X1_greenAfter hw (n := x + 27) hNs (nI (0)) hp41 gp41) kX7_141 (by decide) (by decide) rfl rfl (Nat.le_of_ble_eq_true rfl) (D (159, .invokevirtual 141, 3) (mg 80 rfl)) rfl (fun v21 H19 G20 hv21 => ?_)
            obtain ⟨⟨y22, rfl⟩, rfl, rfl⟩ := hv21
            show X k w _ 162 [some (.ref (wA w (x))), some (.int (nI (n8))), some (.int (nI (n13))), some (.long (lN (X3))), none, some (.int (nI (j))), none, none] [.int (y22)] hp41 gp41
            exact X_iret C (D (162, .ireturn, 1) (mg 81 rfl)) ⟨⟨_, rfl⟩, hc41_4⟩
          · skip
            have q18 : (j) < (n13) := by have z : ¬ ((n13) ≤ (j)) := fun u => q18 ((nI_leI (a := (n13)) (b := (j)) (by omega) (by omega)).mpr u); omega
            refine X_lload_n C 3 (D (47, .lload_n 3, 1) (mg 24 rfl)) rfl rfl ?_
            refine X_ldc2 C (D (48, .ldc2_w 228, 3) (mg 25 rfl)) vX7_228 ?_
            refine X_tl (y := lN (1103515245)) rfl ?_
            refine X_lmul C (D (51, .lmul, 1) (mg 26 rfl)) ?_
            refine X_tl (y := lN ((X3) * (1103515245))) (lN_mul (X3) (1103515245)) ?_
            refine X_ldc2 C (D (52, .ldc2_w 230, 3) (mg 27 rfl)) vX7_230 ?_
            refine X_tl (y := lN (12345)) rfl ?_
            refine X_ladd C (D (55, .ladd, 1) (mg 28 rfl)) ?_
            refine X_tl (y := lN (((X3) * (1103515245)) + (12345))) (lN_add ((X3) * (1103515245)) (12345)) ?_
            refine X_ldc2 C (D (56, .ldc2_w 232, 3) (mg 29 rfl)) vX7_232 ?_
            refine X_tl (y := lN (2147483648)) rfl ?_
            refine X_lrem C (D (59, .lrem, 1) (mg 30 rfl)) (by decide) ?_
            refine X_tl (y := lN ((((X3) * (1103515245)) + (12345)) % (2147483648))) (pk_lRem (by omega) (by omega) (by omega)) ?_
            refine X_lstore_n (ls' := [some (.ref (wA w (x))), some (.int (nI (n8))), some (.int (nI (n13))), some (.long (lN ((((X3) * (1103515245)) + (12345)) % (2147483648)))), none, some (.int (nI (j))), none, none]) C 3 (D (60, .lstore_n 3, 1) (mg 31 rfl)) rfl (Nat.le_of_ble_eq_true rfl) rfl ?_
            refine X_lload_n C 3 (D (61, .lload_n 3, 1) (mg 32 rfl)) rfl rfl ?_
            refine X_ldc2 C (D (62, .ldc2_w 234, 3) (mg 33 rfl)) vX7_234 ?_
            refine X_tl (y := lN (1048576)) rfl ?_
            refine X_ldiv C (D (65, .ldiv, 1) (mg 34 rfl)) (by decide) ?_
            refine X_tl (y := lN (((((X3) * (1103515245)) + (12345)) % (2147483648)) / (1048576))) (pk_lDiv (by omega) (by omega) (by omega)) ?_
            refine X_ldc2 C (D (66, .ldc2_w 236, 3) (mg 35 rfl)) vX7_236 ?_
            refine X_tl (y := lN (25)) rfl ?_
            refine X_lrem C (D (69, .lrem, 1) (mg 36 rfl)) (by decide) ?_
            refine X_tl (y := lN ((((((X3) * (1103515245)) + (12345)) % (2147483648)) / (1048576)) % (25))) (pk_lRem (by omega) (by omega) (by omega)) ?_
            refine X_l2i C (D (70, .l2i, 1) (mg 37 rfl)) ?_
            refine X_ti (y := nI ((((((X3) * (1103515245)) + (12345)) % (2147483648)) / (1048576)) % (25))) (lN_i _) ?_
            refine X_istore (ls' := [some (.ref (wA w (x))), some (.int (nI (n8))), some (.int (nI (n13))), some (.long (lN ((((X3) * (1103515245)) + (12345)) % (2147483648)))), none, some (.int (nI (j))), some (.int (nI ((((((X3) * (1103515245)) + (12345)) % (2147483648)) / (1048576)) % (25)))), none]) C (D (71, .istore 6, 2) (mg 38 rfl)) (Nat.le_of_ble_eq_true rfl) rfl ?_
            refine X_aload_n C 0 (D (73, .aload_n 0, 1) (mg 39 rfl)) rfl rfl ?_
            refine X_get (v := .ref (wA w (x + 27))) C (x) 3 (by omega) hsx rfl rfl (by decide) inX7 fX7_27 rfl (D (74, .getfield 27, 3) (mg 40 rfl)) rfl ?_
            refine X_iload C (D (77, .iload 6, 2) (mg 41 rfl)) rfl ?_
            refine X_cV (As := [.int (nI ((((((X3) * (1103515245)) + (12345)) % (2147483648)) / (1048576)) % (25)))]) (st := []) C (post := _) (x + 27) (by omega) hNs.2.1 rfl (ct_X1_liesIn hw (n := x + 27) hNs (j := (((((X3) * (1103515245)) + (12345)) % (2147483648)) / (1048576)) % (25)) (by omega) hp41 gp41) kX7_105 (by decide) (by decide) rfl rfl (Nat.le_of_ble_eq_true rfl) (D (79, .invokevirtual 105, 3) (mg 42 rfl)) rfl (fun v25 H23 G24 hv25 => ?_)
            obtain ⟨rfl, rfl, rfl⟩ := hv25
            show X k w _ 82 [some (.ref (wA w (x))), some (.int (nI (n8))), some (.int (nI (n13))), some (.long (lN ((((X3) * (1103515245)) + (12345)) % (2147483648)))), none, some (.int (nI (j))), some (.int (nI ((((((X3) * (1103515245)) + (12345)) % (2147483648)) / (1048576)) % (25)))), none] [.int (if ¬ hp41 (x + 29) ((((((X3) * (1103515245)) + (12345)) % (2147483648)) / (1048576)) % (25)) = (-1 : Int32) then 1 else 0)] hp41 gp41
            refine X_if_ne (tgt := 104) C (D (82, .ifCond .ne 22, 3) (mg 43 rfl)) (by decide) (fun q26 => ?_) (fun q26 => ?_)
            · skip
              have q26 : (¬ hp41 (x + 29) ((((((X3) * (1103515245)) + (12345)) % (2147483648)) / (1048576)) % (25)) = (-1 : Int32)) := bz1.mp q26
              refine X_aload_n C 0 (D (104, .aload_n 0, 1) (mg 54 rfl)) rfl rfl ?_
              refine X_get (v := .ref (wA w (x + 27))) C (x) 3 (by omega) hsx rfl rfl (by decide) inX7 fX7_27 rfl (D (105, .getfield 27, 3) (mg 55 rfl)) rfl ?_
              refine X_get (v := .int (hp41 (x + 27) 3)) C (x + 27) 3 (by omega) hNs.2.1 rfl rfl (by decide) inX1 fX7_118 rfl (D (108, .getfield 118, 3) (mg 56 rfl)) rfl ?_
              refine X_ti (y := nI (c7)) (hc41_3) ?_
              refine X_lload_n C 3 (D (111, .lload_n 3, 1) (mg 57 rfl)) rfl rfl ?_
              refine X_ldc2 C (D (112, .ldc2_w 242, 3) (mg 58 rfl)) vX7_242 ?_
              refine X_tl (y := lN (16384)) rfl ?_
              refine X_ldiv C (D (115, .ldiv, 1) (mg 59 rfl)) (by decide) ?_
              refine X_tl (y := lN (((((X3) * (1103515245)) + (12345)) % (2147483648)) / (16384))) (pk_lDiv (by omega) (by omega) (by omega)) ?_
              refine X_ldc2 C (D (116, .ldc2_w 244, 3) (mg 60 rfl)) vX7_244 ?_
              refine X_tl (y := lN (4)) rfl ?_
              refine X_lrem C (D (119, .lrem, 1) (mg 61 rfl)) (by decide) ?_
              refine X_tl (y := lN ((((((X3) * (1103515245)) + (12345)) % (2147483648)) / (16384)) % (4))) (pk_lRem (by omega) (by omega) (by omega)) ?_
              refine X_l2i C (D (120, .l2i, 1) (mg 62 rfl)) ?_
              refine X_ti (y := nI ((((((X3) * (1103515245)) + (12345)) % (2147483648)) / (16384)) % (4))) (lN_i _) ?_
              refine X_cS (As := [.int (nI (c7)), .int (nI ((((((X3) * (1103515245)) + (12345)) % (2147483648)) / (16384)) % (4)))]) (st := []) C (post := _) (ct_X7_beside hw (j := c7) (by omega) (nI ((((((X3) * (1103515245)) + (12345)) % (2147483648)) / (16384)) % (4))) hp41 gp41) kX7_121 (by decide) (by decide) rfl rfl (Nat.le_of_ble_eq_true rfl) (D (121, .invokestatic 121, 3) (mg 63 rfl)) rfl (fun v29 H27 G28 hv29 => ?_)
              obtain ⟨⟨y30, rfl, hy30, ey30⟩, rfl, rfl⟩ := hv29
              show X k w _ 124 [some (.ref (wA w (x))), some (.int (nI (n8))), some (.int (nI (n13))), some (.long (lN ((((X3) * (1103515245)) + (12345)) % (2147483648)))), none, some (.int (nI (j))), some (.int (nI ((((((X3) * (1103515245)) + (12345)) % (2147483648)) / (1048576)) % (25)))), none] [.int (y30)] hp41 gp41
              refine X_istore (ls' := [some (.ref (wA w (x))), some (.int (nI (n8))), some (.int (nI (n13))), some (.long (lN ((((X3) * (1103515245)) + (12345)) % (2147483648)))), none, some (.int (nI (j))), some (.int (nI ((((((X3) * (1103515245)) + (12345)) % (2147483648)) / (1048576)) % (25)))), some (.int (y30))]) C (D (124, .istore 7, 2) (mg 64 rfl)) (Nat.le_of_ble_eq_true rfl) rfl ?_
              refine X_iload C (D (126, .iload 7, 2) (mg 65 rfl)) rfl ?_
              refine X_iconst (v := (-1 : Int32)) C (D (128, .iconst (-1), 1) (mg 66 rfl)) (by decide) ?_
              refine X_icmp_eq (tgt := 141) C (D (129, .if_icmp .eq 12, 3) (mg 67 rfl)) (by decide) (fun q31 => ?_) (fun q31 => ?_)
              · skip
                subst q31
                refine X_aload_n C 0 (D (141, .aload_n 0, 1) (mg 72 rfl)) rfl rfl ?_
                refine X_get (v := .ref (wA w (x + 27))) C (x) 3 (by omega) hsx rfl rfl (by decide) inX7 fX7_27 rfl (D (142, .getfield 27, 3) (mg 73 rfl)) rfl ?_
                refine X_cV (As := []) (st := []) C (post := _) (x + 27) (by omega) hNs.2.1 rfl (ct_X1_passWeek hw (n := x + 27) hNs  hp41 gp41) kX7_138 (by decide) (by decide) rfl rfl (Nat.le_of_ble_eq_true rfl) (D (145, .invokevirtual 138, 3) (mg 74 rfl)) rfl (fun v34 H32 G33 hv34 => ?_)
                obtain ⟨rfl, rfl, rfl⟩ := hv34
                show X k w _ 148 [some (.ref (wA w (x))), some (.int (nI (n8))), some (.int (nI (n13))), some (.long (lN ((((X3) * (1103515245)) + (12345)) % (2147483648)))), none, some (.int (nI (j))), some (.int (nI ((((((X3) * (1103515245)) + (12345)) % (2147483648)) / (1048576)) % (25)))), some (.int ((-1 : Int32)))] [] (cwH hp41 (x + 27)) gp41
                refine X_iinc (v := nI (j + 1)) (ls' := [some (.ref (wA w (x))), some (.int (nI (n8))), some (.int (nI (n13))), some (.long (lN ((((X3) * (1103515245)) + (12345)) % (2147483648)))), none, some (.int (nI (j + 1))), some (.int (nI ((((((X3) * (1103515245)) + (12345)) % (2147483648)) / (1048576)) % (25)))), some (.int ((-1 : Int32)))]) C (D (148, .iinc 5 1, 3) (mg 75 rfl)) rfl (nI_add (j) 1) rfl ?_
                refine X_goto (tgt := 41) C (D (151, .goto (-110), 3) (mg 76 rfl)) (by decide) ?_
                refine X_los (ls' := [some (.ref (wA w (x))), some (.int (nI (n8))), some (.int (nI (n13))), some (.long (lN ((((X3) * (1103515245)) + (12345)) % (2147483648)))), none, some (.int (nI (j + 1))), none, none]) (by simp [lsub]) ?_
                refine X_eq (ls' := [some (.ref (wA w (x))), some (.int (nI (n8))), some (.int (nI (n13))), some (.long (lN ((((X3) * (1103515245)) + (12345)) % (2147483648)))), none, some (.int (nI (j + 1))), none, none]) (st' := []) (h' := (cwH hp41 (x + 27))) (g' := gp41) rfl rfl rfl rfl ?_
                exact ih41 (c7) ((((X3) * (1103515245)) + (12345)) % (2147483648)) (j + 1) ((cwH hp41 (x + 27))) (gp41) (by omega) (by omega) (by omega) (((cwH_ne _ _ (by omega))).trans hc41_3) ⟨fun q i z0 => by have z := z0; unfold SW at z; rw [cwH_ne _ _ (by omega)]; exact (hc41_4).1 q i z0, ⟨c17, (by omega), (((cwH_ne _ _ (by omega))).trans hac17)⟩, (paOk_k (fun q i z => by rw [cwH_ne _ _ (by omega)]) (hc41_4).2.2)⟩ (by omega)
              · skip
                obtain ⟨c35, hc35, rfl⟩ := hy30.resolve_left q31
                refine X_aload_n C 0 (D (132, .aload_n 0, 1) (mg 68 rfl)) rfl rfl ?_
                refine X_get (v := .ref (wA w (x + 27))) C (x) 3 (by omega) hsx rfl rfl (by decide) inX7 fX7_27 rfl (D (133, .getfield 27, 3) (mg 69 rfl)) rfl ?_
                refine X_iload C (D (136, .iload 7, 2) (mg 70 rfl)) rfl ?_
                refine X_cV (As := [.int (nI (c35))]) (st := []) C (post := _) (x + 27) (by omega) hNs.2.1 rfl (ct_X1_stepTo hw (n := x + 27) hNs (j := c35) (by omega) hp41 gp41) kX7_125 (by decide) (by decide) rfl rfl (Nat.le_of_ble_eq_true rfl) (D (138, .invokevirtual 125, 3) (mg 71 rfl)) rfl (fun v38 H36 G37 hv38 => ?_)
                obtain ⟨rfl, rfl, rfl⟩ := hv38
                show X k w _ 141 [some (.ref (wA w (x))), some (.int (nI (n8))), some (.int (nI (n13))), some (.long (lN ((((X3) * (1103515245)) + (12345)) % (2147483648)))), none, some (.int (nI (j))), some (.int (nI ((((((X3) * (1103515245)) + (12345)) % (2147483648)) / (1048576)) % (25)))), some (.int (nI (c35)))] [] (csH hp41 (x + 27) (c35)) gp41
                refine X_aload_n C 0 (D (141, .aload_n 0, 1) (mg 72 rfl)) rfl rfl ?_
                refine X_get (v := .ref (wA w (x + 27))) C (x) 3 (by omega) hsx rfl rfl (by decide) inX7 fX7_27 rfl (D (142, .getfield 27, 3) (mg 73 rfl)) rfl ?_
                refine X_cV (As := []) (st := []) C (post := _) (x + 27) (by omega) hNs.2.1 rfl (ct_X1_passWeek hw (n := x + 27) hNs  (csH hp41 (x + 27) (c35)) gp41) kX7_138 (by decide) (by decide) rfl rfl (Nat.le_of_ble_eq_true rfl) (D (145, .invokevirtual 138, 3) (mg 74 rfl)) rfl (fun v41 H39 G40 hv41 => ?_)
                obtain ⟨rfl, rfl, rfl⟩ := hv41
                show X k w _ 148 [some (.ref (wA w (x))), some (.int (nI (n8))), some (.int (nI (n13))), some (.long (lN ((((X3) * (1103515245)) + (12345)) % (2147483648)))), none, some (.int (nI (j))), some (.int (nI ((((((X3) * (1103515245)) + (12345)) % (2147483648)) / (1048576)) % (25)))), some (.int (nI (c35)))] [] (cwH (csH hp41 (x + 27) (c35)) (x + 27)) gp41
                refine X_iinc (v := nI (j + 1)) (ls' := [some (.ref (wA w (x))), some (.int (nI (n8))), some (.int (nI (n13))), some (.long (lN ((((X3) * (1103515245)) + (12345)) % (2147483648)))), none, some (.int (nI (j + 1))), some (.int (nI ((((((X3) * (1103515245)) + (12345)) % (2147483648)) / (1048576)) % (25)))), some (.int (nI (c35)))]) C (D (148, .iinc 5 1, 3) (mg 75 rfl)) rfl (nI_add (j) 1) rfl ?_
                refine X_goto (tgt := 41) C (D (151, .goto (-110), 3) (mg 76 rfl)) (by decide) ?_
                refine X_los (ls' := [some (.ref (wA w (x))), some (.int (nI (n8))), some (.int (nI (n13))), some (.long (lN ((((X3) * (1103515245)) + (12345)) % (2147483648)))), none, some (.int (nI (j + 1))), none, none]) (by simp [lsub]) ?_
                refine X_eq (ls' := [some (.ref (wA w (x))), some (.int (nI (n8))), some (.int (nI (n13))), some (.long (lN ((((X3) * (1103515245)) + (12345)) % (2147483648)))), none, some (.int (nI (j + 1))), none, none]) (st' := []) (h' := (cwH (csH hp41 (x + 27) (c35)) (x + 27))) (g' := gp41) rfl rfl rfl rfl ?_
                exact ih41 (c35) ((((X3) * (1103515245)) + (12345)) % (2147483648)) (j + 1) ((cwH (csH hp41 (x + 27) (c35)) (x + 27))) (gp41) (by omega) (by omega) (by omega) (((cwH_ne _ _ (by omega))).trans (csH_at _ _ _)) ⟨fun q i z0 => by have z := z0; unfold SW at z; rw [cwH_ne _ _ (by omega), csH_ne _ _ _ (by omega)]; exact (hc41_4).1 q i z0, ⟨c17, (by omega), ((((cwH_ne _ _ (by omega))).trans (csH_ne _ _ _ (by omega))).trans hac17)⟩, (paOk_k (fun q i z => by rw [cwH_ne _ _ (by omega), csH_ne _ _ _ (by omega)]) (hc41_4).2.2)⟩ (by omega)
            · skip
              have q26 : ¬ (¬ hp41 (x + 29) ((((((X3) * (1103515245)) + (12345)) % (2147483648)) / (1048576)) % (25)) = (-1 : Int32)) := bz0.mp q26
              refine X_aload_n C 0 (D (85, .aload_n 0, 1) (mg 44 rfl)) rfl rfl ?_
              refine X_get (v := .ref (wA w (x + 27))) C (x) 3 (by omega) hsx rfl rfl (by decide) inX7 fX7_27 rfl (D (86, .getfield 27, 3) (mg 45 rfl)) rfl ?_
              refine X_iload C (D (89, .iload 6, 2) (mg 46 rfl)) rfl ?_
              refine X_lload_n C 3 (D (91, .lload_n 3, 1) (mg 47 rfl)) rfl rfl ?_
              refine X_ldc2 C (D (92, .ldc2_w 238, 3) (mg 48 rfl)) vX7_238 ?_
              refine X_tl (y := lN (65536)) rfl ?_
              refine X_ldiv C (D (95, .ldiv, 1) (mg 49 rfl)) (by decide) ?_
              refine X_tl (y := lN (((((X3) * (1103515245)) + (12345)) % (2147483648)) / (65536))) (pk_lDiv (by omega) (by omega) (by omega)) ?_
              refine X_ldc2 C (D (96, .ldc2_w 240, 3) (mg 50 rfl)) vX7_240 ?_
              refine X_tl (y := lN (6)) rfl ?_
              refine X_lrem C (D (99, .lrem, 1) (mg 51 rfl)) (by decide) ?_
              refine X_tl (y := lN ((((((X3) * (1103515245)) + (12345)) % (2147483648)) / (65536)) % (6))) (pk_lRem (by omega) (by omega) (by omega)) ?_
              refine X_l2i C (D (100, .l2i, 1) (mg 52 rfl)) ?_
              refine X_ti (y := nI ((((((X3) * (1103515245)) + (12345)) % (2147483648)) / (65536)) % (6))) (lN_i _) ?_
              refine X_cV (As := [.int (nI ((((((X3) * (1103515245)) + (12345)) % (2147483648)) / (1048576)) % (25))), .int (nI ((((((X3) * (1103515245)) + (12345)) % (2147483648)) / (65536)) % (6)))]) (st := []) C (post := _) (x + 27) (by omega) hNs.2.1 rfl (ct_X1_put hw (n := x + 27) hNs (j := (((((X3) * (1103515245)) + (12345)) % (2147483648)) / (1048576)) % (25)) (by omega) (nI ((((((X3) * (1103515245)) + (12345)) % (2147483648)) / (65536)) % (6))) hp41 gp41) kX7_115 (by decide) (by decide) rfl rfl (Nat.le_of_ble_eq_true rfl) (D (101, .invokevirtual 115, 3) (mg 53 rfl)) rfl (fun v44 H42 G43 hv44 => ?_)
              obtain ⟨rfl, rfl, rfl⟩ := hv44
              show X k w _ 104 [some (.ref (wA w (x))), some (.int (nI (n8))), some (.int (nI (n13))), some (.long (lN ((((X3) * (1103515245)) + (12345)) % (2147483648)))), none, some (.int (nI (j))), some (.int (nI ((((((X3) * (1103515245)) + (12345)) % (2147483648)) / (1048576)) % (25)))), none] [] (u2 hp41 (x + 29) ((((((X3) * (1103515245)) + (12345)) % (2147483648)) / (1048576)) % (25)) (nI 1000 * (nI ((((((X3) * (1103515245)) + (12345)) % (2147483648)) / (65536)) % (6))))) gp41
              refine X_aload_n C 0 (D (104, .aload_n 0, 1) (mg 54 rfl)) rfl rfl ?_
              refine X_get (v := .ref (wA w (x + 27))) C (x) 3 (by omega) hsx rfl rfl (by decide) inX7 fX7_27 rfl (D (105, .getfield 27, 3) (mg 55 rfl)) rfl ?_
              refine X_get (v := .int ((u2 hp41 (x + 29) ((((((X3) * (1103515245)) + (12345)) % (2147483648)) / (1048576)) % (25)) (nI 1000 * (nI ((((((X3) * (1103515245)) + (12345)) % (2147483648)) / (65536)) % (6))))) (x + 27) 3)) C (x + 27) 3 (by omega) hNs.2.1 rfl rfl (by decide) inX1 fX7_118 rfl (D (108, .getfield 118, 3) (mg 56 rfl)) rfl ?_
              refine X_ti (y := nI (c7)) (((u2_p _ _ _ _ (by omega))).trans hc41_3) ?_
              refine X_lload_n C 3 (D (111, .lload_n 3, 1) (mg 57 rfl)) rfl rfl ?_
              refine X_ldc2 C (D (112, .ldc2_w 242, 3) (mg 58 rfl)) vX7_242 ?_
              refine X_tl (y := lN (16384)) rfl ?_
              refine X_ldiv C (D (115, .ldiv, 1) (mg 59 rfl)) (by decide) ?_
              refine X_tl (y := lN (((((X3) * (1103515245)) + (12345)) % (2147483648)) / (16384))) (pk_lDiv (by omega) (by omega) (by omega)) ?_
              refine X_ldc2 C (D (116, .ldc2_w 244, 3) (mg 60 rfl)) vX7_244 ?_
              refine X_tl (y := lN (4)) rfl ?_
              refine X_lrem C (D (119, .lrem, 1) (mg 61 rfl)) (by decide) ?_
              refine X_tl (y := lN ((((((X3) * (1103515245)) + (12345)) % (2147483648)) / (16384)) % (4))) (pk_lRem (by omega) (by omega) (by omega)) ?_
              refine X_l2i C (D (120, .l2i, 1) (mg 62 rfl)) ?_
              refine X_ti (y := nI ((((((X3) * (1103515245)) + (12345)) % (2147483648)) / (16384)) % (4))) (lN_i _) ?_
              refine X_cS (As := [.int (nI (c7)), .int (nI ((((((X3) * (1103515245)) + (12345)) % (2147483648)) / (16384)) % (4)))]) (st := []) C (post := _) (ct_X7_beside hw (j := c7) (by omega) (nI ((((((X3) * (1103515245)) + (12345)) % (2147483648)) / (16384)) % (4))) (u2 hp41 (x + 29) ((((((X3) * (1103515245)) + (12345)) % (2147483648)) / (1048576)) % (25)) (nI 1000 * (nI ((((((X3) * (1103515245)) + (12345)) % (2147483648)) / (65536)) % (6))))) gp41) kX7_121 (by decide) (by decide) rfl rfl (Nat.le_of_ble_eq_true rfl) (D (121, .invokestatic 121, 3) (mg 63 rfl)) rfl (fun v47 H45 G46 hv47 => ?_)
              obtain ⟨⟨y48, rfl, hy48, ey48⟩, rfl, rfl⟩ := hv47
              show X k w _ 124 [some (.ref (wA w (x))), some (.int (nI (n8))), some (.int (nI (n13))), some (.long (lN ((((X3) * (1103515245)) + (12345)) % (2147483648)))), none, some (.int (nI (j))), some (.int (nI ((((((X3) * (1103515245)) + (12345)) % (2147483648)) / (1048576)) % (25)))), none] [.int (y48)] (u2 hp41 (x + 29) ((((((X3) * (1103515245)) + (12345)) % (2147483648)) / (1048576)) % (25)) (nI 1000 * (nI ((((((X3) * (1103515245)) + (12345)) % (2147483648)) / (65536)) % (6))))) gp41
              refine X_istore (ls' := [some (.ref (wA w (x))), some (.int (nI (n8))), some (.int (nI (n13))), some (.long (lN ((((X3) * (1103515245)) + (12345)) % (2147483648)))), none, some (.int (nI (j))), some (.int (nI ((((((X3) * (1103515245)) + (12345)) % (2147483648)) / (1048576)) % (25)))), some (.int (y48))]) C (D (124, .istore 7, 2) (mg 64 rfl)) (Nat.le_of_ble_eq_true rfl) rfl ?_
              refine X_iload C (D (126, .iload 7, 2) (mg 65 rfl)) rfl ?_
              refine X_iconst (v := (-1 : Int32)) C (D (128, .iconst (-1), 1) (mg 66 rfl)) (by decide) ?_
              refine X_icmp_eq (tgt := 141) C (D (129, .if_icmp .eq 12, 3) (mg 67 rfl)) (by decide) (fun q49 => ?_) (fun q49 => ?_)
              · skip
                subst q49
                refine X_aload_n C 0 (D (141, .aload_n 0, 1) (mg 72 rfl)) rfl rfl ?_
                refine X_get (v := .ref (wA w (x + 27))) C (x) 3 (by omega) hsx rfl rfl (by decide) inX7 fX7_27 rfl (D (142, .getfield 27, 3) (mg 73 rfl)) rfl ?_
                refine X_cV (As := []) (st := []) C (post := _) (x + 27) (by omega) hNs.2.1 rfl (ct_X1_passWeek hw (n := x + 27) hNs  (u2 hp41 (x + 29) ((((((X3) * (1103515245)) + (12345)) % (2147483648)) / (1048576)) % (25)) (nI 1000 * (nI ((((((X3) * (1103515245)) + (12345)) % (2147483648)) / (65536)) % (6))))) gp41) kX7_138 (by decide) (by decide) rfl rfl (Nat.le_of_ble_eq_true rfl) (D (145, .invokevirtual 138, 3) (mg 74 rfl)) rfl (fun v52 H50 G51 hv52 => ?_)
                obtain ⟨rfl, rfl, rfl⟩ := hv52
                show X k w _ 148 [some (.ref (wA w (x))), some (.int (nI (n8))), some (.int (nI (n13))), some (.long (lN ((((X3) * (1103515245)) + (12345)) % (2147483648)))), none, some (.int (nI (j))), some (.int (nI ((((((X3) * (1103515245)) + (12345)) % (2147483648)) / (1048576)) % (25)))), some (.int ((-1 : Int32)))] [] (cwH (u2 hp41 (x + 29) ((((((X3) * (1103515245)) + (12345)) % (2147483648)) / (1048576)) % (25)) (nI 1000 * (nI ((((((X3) * (1103515245)) + (12345)) % (2147483648)) / (65536)) % (6))))) (x + 27)) gp41
                refine X_iinc (v := nI (j + 1)) (ls' := [some (.ref (wA w (x))), some (.int (nI (n8))), some (.int (nI (n13))), some (.long (lN ((((X3) * (1103515245)) + (12345)) % (2147483648)))), none, some (.int (nI (j + 1))), some (.int (nI ((((((X3) * (1103515245)) + (12345)) % (2147483648)) / (1048576)) % (25)))), some (.int ((-1 : Int32)))]) C (D (148, .iinc 5 1, 3) (mg 75 rfl)) rfl (nI_add (j) 1) rfl ?_
                refine X_goto (tgt := 41) C (D (151, .goto (-110), 3) (mg 76 rfl)) (by decide) ?_
                refine X_los (ls' := [some (.ref (wA w (x))), some (.int (nI (n8))), some (.int (nI (n13))), some (.long (lN ((((X3) * (1103515245)) + (12345)) % (2147483648)))), none, some (.int (nI (j + 1))), none, none]) (by simp [lsub]) ?_
                refine X_eq (ls' := [some (.ref (wA w (x))), some (.int (nI (n8))), some (.int (nI (n13))), some (.long (lN ((((X3) * (1103515245)) + (12345)) % (2147483648)))), none, some (.int (nI (j + 1))), none, none]) (st' := []) (h' := (cwH (u2 hp41 (x + 29) ((((((X3) * (1103515245)) + (12345)) % (2147483648)) / (1048576)) % (25)) (nI 1000 * (nI ((((((X3) * (1103515245)) + (12345)) % (2147483648)) / (65536)) % (6))))) (x + 27))) (g' := gp41) rfl rfl rfl rfl ?_
                exact ih41 (c7) ((((X3) * (1103515245)) + (12345)) % (2147483648)) (j + 1) ((cwH (u2 hp41 (x + 29) ((((((X3) * (1103515245)) + (12345)) % (2147483648)) / (1048576)) % (25)) (nI 1000 * (nI ((((((X3) * (1103515245)) + (12345)) % (2147483648)) / (65536)) % (6))))) (x + 27))) (gp41) (by omega) (by omega) (by omega) ((((cwH_ne _ _ (by omega))).trans (u2_p _ _ _ _ (by omega))).trans hc41_3) ⟨fun q i z0 => by have z := z0; unfold SW at z; rw [cwH_ne _ _ (by omega), u2_ne _ _ _ _ (by omega)]; exact (hc41_4).1 q i z0, ⟨c17, (by omega), ((((cwH_ne _ _ (by omega))).trans (u2_p _ _ _ _ (by omega))).trans hac17)⟩, (paOk_k (fun q i z => by rw [cwH_ne _ _ (by omega), u2_ne _ _ _ _ (by omega)]) (hc41_4).2.2)⟩ (by omega)
              · skip
                obtain ⟨c53, hc53, rfl⟩ := hy48.resolve_left q49
                refine X_aload_n C 0 (D (132, .aload_n 0, 1) (mg 68 rfl)) rfl rfl ?_
                refine X_get (v := .ref (wA w (x + 27))) C (x) 3 (by omega) hsx rfl rfl (by decide) inX7 fX7_27 rfl (D (133, .getfield 27, 3) (mg 69 rfl)) rfl ?_
                refine X_iload C (D (136, .iload 7, 2) (mg 70 rfl)) rfl ?_
                refine X_cV (As := [.int (nI (c53))]) (st := []) C (post := _) (x + 27) (by omega) hNs.2.1 rfl (ct_X1_stepTo hw (n := x + 27) hNs (j := c53) (by omega) (u2 hp41 (x + 29) ((((((X3) * (1103515245)) + (12345)) % (2147483648)) / (1048576)) % (25)) (nI 1000 * (nI ((((((X3) * (1103515245)) + (12345)) % (2147483648)) / (65536)) % (6))))) gp41) kX7_125 (by decide) (by decide) rfl rfl (Nat.le_of_ble_eq_true rfl) (D (138, .invokevirtual 125, 3) (mg 71 rfl)) rfl (fun v56 H54 G55 hv56 => ?_)
                obtain ⟨rfl, rfl, rfl⟩ := hv56
                show X k w _ 141 [some (.ref (wA w (x))), some (.int (nI (n8))), some (.int (nI (n13))), some (.long (lN ((((X3) * (1103515245)) + (12345)) % (2147483648)))), none, some (.int (nI (j))), some (.int (nI ((((((X3) * (1103515245)) + (12345)) % (2147483648)) / (1048576)) % (25)))), some (.int (nI (c53)))] [] (csH (u2 hp41 (x + 29) ((((((X3) * (1103515245)) + (12345)) % (2147483648)) / (1048576)) % (25)) (nI 1000 * (nI ((((((X3) * (1103515245)) + (12345)) % (2147483648)) / (65536)) % (6))))) (x + 27) (c53)) gp41
                refine X_aload_n C 0 (D (141, .aload_n 0, 1) (mg 72 rfl)) rfl rfl ?_
                refine X_get (v := .ref (wA w (x + 27))) C (x) 3 (by omega) hsx rfl rfl (by decide) inX7 fX7_27 rfl (D (142, .getfield 27, 3) (mg 73 rfl)) rfl ?_
                refine X_cV (As := []) (st := []) C (post := _) (x + 27) (by omega) hNs.2.1 rfl (ct_X1_passWeek hw (n := x + 27) hNs  (csH (u2 hp41 (x + 29) ((((((X3) * (1103515245)) + (12345)) % (2147483648)) / (1048576)) % (25)) (nI 1000 * (nI ((((((X3) * (1103515245)) + (12345)) % (2147483648)) / (65536)) % (6))))) (x + 27) (c53)) gp41) kX7_138 (by decide) (by decide) rfl rfl (Nat.le_of_ble_eq_true rfl) (D (145, .invokevirtual 138, 3) (mg 74 rfl)) rfl (fun v59 H57 G58 hv59 => ?_)
                obtain ⟨rfl, rfl, rfl⟩ := hv59
                show X k w _ 148 [some (.ref (wA w (x))), some (.int (nI (n8))), some (.int (nI (n13))), some (.long (lN ((((X3) * (1103515245)) + (12345)) % (2147483648)))), none, some (.int (nI (j))), some (.int (nI ((((((X3) * (1103515245)) + (12345)) % (2147483648)) / (1048576)) % (25)))), some (.int (nI (c53)))] [] (cwH (csH (u2 hp41 (x + 29) ((((((X3) * (1103515245)) + (12345)) % (2147483648)) / (1048576)) % (25)) (nI 1000 * (nI ((((((X3) * (1103515245)) + (12345)) % (2147483648)) / (65536)) % (6))))) (x + 27) (c53)) (x + 27)) gp41
                refine X_iinc (v := nI (j + 1)) (ls' := [some (.ref (wA w (x))), some (.int (nI (n8))), some (.int (nI (n13))), some (.long (lN ((((X3) * (1103515245)) + (12345)) % (2147483648)))), none, some (.int (nI (j + 1))), some (.int (nI ((((((X3) * (1103515245)) + (12345)) % (2147483648)) / (1048576)) % (25)))), some (.int (nI (c53)))]) C (D (148, .iinc 5 1, 3) (mg 75 rfl)) rfl (nI_add (j) 1) rfl ?_
                refine X_goto (tgt := 41) C (D (151, .goto (-110), 3) (mg 76 rfl)) (by decide) ?_
                refine X_los (ls' := [some (.ref (wA w (x))), some (.int (nI (n8))), some (.int (nI (n13))), some (.long (lN ((((X3) * (1103515245)) + (12345)) % (2147483648)))), none, some (.int (nI (j + 1))), none, none]) (by simp [lsub]) ?_
                refine X_eq (ls' := [some (.ref (wA w (x))), some (.int (nI (n8))), some (.int (nI (n13))), some (.long (lN ((((X3) * (1103515245)) + (12345)) % (2147483648)))), none, some (.int (nI (j + 1))), none, none]) (st' := []) (h' := (cwH (csH (u2 hp41 (x + 29) ((((((X3) * (1103515245)) + (12345)) % (2147483648)) / (1048576)) % (25)) (nI 1000 * (nI ((((((X3) * (1103515245)) + (12345)) % (2147483648)) / (65536)) % (6))))) (x + 27) (c53)) (x + 27))) (g' := gp41) rfl rfl rfl rfl ?_
                exact ih41 (c53) ((((X3) * (1103515245)) + (12345)) % (2147483648)) (j + 1) ((cwH (csH (u2 hp41 (x + 29) ((((((X3) * (1103515245)) + (12345)) % (2147483648)) / (1048576)) % (25)) (nI 1000 * (nI ((((((X3) * (1103515245)) + (12345)) % (2147483648)) / (65536)) % (6))))) (x + 27) (c53)) (x + 27))) (gp41) (by omega) (by omega) (by omega) (((cwH_ne _ _ (by omega))).trans (csH_at _ _ _)) ⟨fun q i z0 => by have z := z0; unfold SW at z; rw [cwH_ne _ _ (by omega), csH_ne _ _ _ (by omega), u2_ne _ _ _ _ (by omega)]; exact (hc41_4).1 q i z0, ⟨c17, (by omega), (((((cwH_ne _ _ (by omega))).trans (csH_ne _ _ _ (by omega))).trans (u2_p _ _ _ _ (by omega))).trans hac17)⟩, (paOk_k (fun q i z => by rw [cwH_ne _ _ (by omega), csH_ne _ _ _ (by omega), u2_ne _ _ _ _ (by omega)]) (hc41_4).2.2)⟩ (by omega)
      refine X_eq (ls' := [some (.ref (wA w (x))), some (.int (nI (n8))), some (.int (nI (n13))), some (.long (lN (n8))), none, some (.int (nI (0))), none, none]) (st' := []) (h' := (ccH h (x + 27) (x + 2))) (g' := g) rfl rfl rfl rfl ?_
      exact lp41 _ (c0) (n8) (0) ((ccH h (x + 27) (x + 2))) (g) (by omega) (by omega) (by omega) (((ccH_at _ _ _ (by omega))).trans hat) ⟨fun q i z0 => by have z := z0; unfold SW at z; rw [ccH_ne _ _ _ (by omega)], ⟨c0, (by omega), (((ccH_ne _ _ _ (by omega))).trans hat)⟩, (paOk_k (fun q i z => by rw [ccH_ne _ _ _ (by omega)]) hpa)⟩ (Nat.le_refl _)
    · skip
      have q12 : ¬ (0 ≤ (a2).toInt ∧ (a2).toInt < ((61 : Nat) : Int)) := bz0.mp q12
      refine X_aload_n C 0 (D (16, .aload_n 0, 1) (mg 7 rfl)) rfl rfl ?_
      refine X_cV (As := []) (st := []) C (post := _) (x) (by omega) hsx rfl (ct_X7_refuseBad hw hC0 h g) kX7_57 (by decide) (by decide) rfl rfl (Nat.le_of_ble_eq_true rfl) (D (17, .invokevirtual 57, 3) (mg 8 rfl)) rfl (fun v62 H60 G61 hv62 => ?_)
      obtain ⟨rfl, rfl, rfl⟩ := hv62
      show X k w _ 20 [some (.ref (wA w (x))), some (.int (nI (n8))), some (.int (a2)), none, none, none, none, none] [.int ((-2 : Int32))] (rcH h (x) 9) g
      exact X_iret C (D (20, .ireturn, 1) (mg 9 rfl)) ⟨⟨_, rfl⟩, ⟨fun q i z0 => by have z := z0; unfold SW at z; rw [rcH_ne _ _ _ (by omega)], ⟨c0, (by omega), (((rcH_ne _ _ _ (by omega))).trans hat)⟩, (paOk_k (fun q i z => by rw [rcH_ne _ _ _ (by omega)]) hpa)⟩⟩
