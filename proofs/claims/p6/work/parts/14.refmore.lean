/-! THE REFERENCE, 8: images, deep, sparrow and curate, of -/
set_option maxHeartbeats 4000000 in
set_option maxRecDepth 100000 in
theorem ct_X8_image {l : Launch} {w : Kw} (hw : wOk w) {m : Nat} (hM : shM w m) (x : Int32) (h : xI) (g : xJ)  : Ct l w yX8_image cX8_image 3 (some .int) 1 25 [.ref (wA w (m)), .int (x)] h g (pif (0 ≤ x.toInt ∧ x.toInt ≤ 1) (px (some (.int (nI 1))) (u2 (cpS h (m + 1) 0 (m + 2) (310 * x.toInt.toNat) 310) (m + 3) x.toInt.toNat (vp_nar .boolean (nI 1))) g) (px (some (.int (-2 : Int32))) (rfH h m 0) g)) := by
  refine Ct_of (ls := [some (.ref (wA w (m))), some (.int (x)), none]) (by decide) hw (Nat.le_of_ble_eq_true rfl) rfl (fun k hkl C => ?_)
  have C : Cx k w cX8_image RX8 3 (some .int) 1 25 := C
  have D := dtX8_image
  subst hkl
  generalize hPP : (pif (0 ≤ x.toInt ∧ x.toInt ≤ 1) (px (some (.int (nI 1))) (u2 (cpS h (m + 1) 0 (m + 2) (310 * x.toInt.toNat) 310) (m + 3) x.toInt.toNat (vp_nar .boolean (nI 1))) g) (px (some (.int (-2 : Int32))) (rfH h m 0) g)) = PP
  have hM0 := hM
  obtain ⟨hm, hsm, hs1, hs2, hs3, hs4, hs5, hs6, hs7, hs8, hs9, hs10, hs11⟩ := hM
  have hM := hM0
  refine X_iload_n C 1 (D (0, .iload_n 1, 1) (mg 0 rfl)) rfl rfl ?_
  refine X_i2l C (D (1, .i2l, 1) (mg 1 rfl)) ?_
  refine X_lconst (v := lN 0) C (D (2, .lconst 0, 1) (mg 2 rfl)) (by decide) ?_
  refine X_lconst (v := lN 1) C (D (3, .lconst 1, 1) (mg 3 rfl)) (by decide) ?_
  refine X_cS (As := [.long ((x).toInt64), .long (lN 0), .long (lN 1)]) (st := []) C (post := _) (ct_X8_in hw ((x).toInt64) (lN 0) (lN 1) h g) kX8_54 (by decide) (by decide) rfl rfl (Nat.le_of_ble_eq_true rfl) (D (4, .invokestatic 54, 3) (mg 4 rfl)) rfl (fun v3 H1 G2 hv3 => ?_)
  obtain ⟨rfl, rfl, rfl⟩ := hv3
  show X k w _ 7 [some (.ref (wA w (m))), some (.int (x)), none] [.int (if (lN 0).toInt ≤ ((x).toInt64).toInt ∧ ((x).toInt64).toInt ≤ (lN 1).toInt then 1 else 0)] h g
  refine X_if_ne (tgt := 17) C (D (7, .ifCond .ne 10, 3) (mg 5 rfl)) (by decide) (fun q4 => ?_) (fun q4 => ?_)
  · skip
    have q4 : ((lN 0).toInt ≤ ((x).toInt64).toInt ∧ ((x).toInt64).toInt ≤ (lN 1).toInt) := bz1.mp q4
    simp only [i6, show (lN 0).toInt = 0 from by decide, show (lN 1).toInt = 1 from by decide] at q4
    obtain ⟨i, hi, rfl⟩ := nI_i (n := 2) q4.1 (by omega)
    refine X_iconst (v := nI (0)) C (D (17, .iconst 0, 1) (mg 10 rfl)) (by decide) ?_
    refine X_istore_n (ls' := [some (.ref (wA w (m))), some (.int (nI (i))), some (.int (nI (0)))]) C 2 (D (18, .istore_n 2, 1) (mg 11 rfl)) rfl (Nat.le_of_ble_eq_true rfl) rfl ?_
    have lp19 : ∀ (nn19 : Nat) (j : Nat), (j ≤ 310) → 311 - j ≤ nn19 → X k w (Zq k w (PP)) 19 [some (.ref (wA w (m))), some (.int (nI (i))), some (.int (nI (j)))] [] (cpS h (m + 1) 0 (m + 2) (310 * i) (j)) g := by
      intro nn19
      induction nn19 with
      | zero => intro j hc19_0 hz; exact absurd hz (by omega)
      | succ nn19 ih19 =>
        intro j hc19_0 hz19
        refine X_iload_n C 2 (D (19, .iload_n 2, 1) (mg 12 rfl)) rfl rfl ?_
        refine X_sipush (v := nI (310)) C (D (20, .sipush 310, 3) (mg 13 rfl)) (by decide) ?_
        refine X_icmp_ge (tgt := 50) C (D (23, .if_icmp .ge 27, 3) (mg 14 rfl)) (by decide) (fun q5 => ?_) (fun q5 => ?_)
        · skip
          have q5 : (j) ≥ (310) := by have z := (nI_leI (a := (310)) (b := (j)) (by omega) (by omega)).mp q5; omega
          refine X_aload_n C 0 (D (50, .aload_n 0, 1) (mg 29 rfl)) rfl rfl ?_
          refine X_get (v := .ref (wA w (m + 3))) C (m) 2 (by omega) hsm rfl rfl (by decide) inX8 fX8_16 rfl (D (51, .getfield 16, 3) (mg 30 rfl)) rfl ?_
          refine X_iload_n C 1 (D (54, .iload_n 1, 1) (mg 31 rfl)) rfl rfl ?_
          refine X_iconst (v := nI (1)) C (D (55, .iconst 1, 1) (mg 32 rfl)) (by decide) ?_
          refine X_zast (j := i) C (m + 3) (by omega) hs3 (vp_in_nI (by omega) (by omega)) (D (56, .bastore, 1) (mg 33 rfl)) (nI_clamp (by omega)) ?_
          refine X_iconst (v := nI (1)) C (D (57, .iconst 1, 1) (mg 34 rfl)) (by decide) ?_
          exact X_iret C (D (58, .ireturn, 1) (mg 35 rfl)) (by rw [← hPP]; exact ⟨fun _ => ⟨rfl, by rw [nI_toInt (n := i) (by omega), Int.toNat_natCast, show j = 310 by omega], rfl⟩, fun z => absurd (by omega) z⟩)
        · skip
          have q5 : (j) < (310) := by have z : ¬ ((310) ≤ (j)) := fun u => q5 ((nI_leI (a := (310)) (b := (j)) (by omega) (by omega)).mpr u); omega
          refine X_aload_n C 0 (D (26, .aload_n 0, 1) (mg 15 rfl)) rfl rfl ?_
          refine X_get (v := .ref (wA w (m + 2))) C (m) 1 (by omega) hsm rfl rfl (by decide) inX8 fX8_13 rfl (D (27, .getfield 13, 3) (mg 16 rfl)) rfl ?_
          refine X_sipush (v := nI (310)) C (D (30, .sipush 310, 3) (mg 17 rfl)) (by decide) ?_
          refine X_iload_n C 1 (D (33, .iload_n 1, 1) (mg 18 rfl)) rfl rfl ?_
          refine X_imul C (D (34, .imul, 1) (mg 19 rfl)) ?_
          refine X_ti (y := nI ((310) * (i))) (pk_mul (310) (i)) ?_
          refine X_iload_n C 2 (D (35, .iload_n 2, 1) (mg 20 rfl)) rfl rfl ?_
          refine X_iadd C (D (36, .iadd, 1) (mg 21 rfl)) ?_
          refine X_ti (y := nI ((310) * (i) + j)) (nI_add ((310) * (i)) (j)) ?_
          refine X_aload_n C 0 (D (37, .aload_n 0, 1) (mg 22 rfl)) rfl rfl ?_
          refine X_get (v := .ref (wA w (m + 1))) C (m) 0 (by omega) hsm rfl rfl (by decide) inX8 fX8_7 rfl (D (38, .getfield 7, 3) (mg 23 rfl)) rfl ?_
          refine X_iload_n C 2 (D (41, .iload_n 2, 1) (mg 24 rfl)) rfl rfl ?_
          refine X_iald (v := (cpS h (m + 1) 0 (m + 2) (310 * i) (j)) (m + 1) (j)) C (m + 1) (by omega) hs1 (vp_in_nI (by omega) (by omega)) (D (42, .iaload, 1) (mg 25 rfl)) (by rw [nI_clamp (by omega)]) ?_
          refine X_iast (j := (310) * (i) + j) C (m + 2) (by omega) hs2 (vp_in_nI (by omega) (by omega)) (D (43, .iastore, 1) (mg 26 rfl)) (nI_clamp (by omega)) ?_
          refine X_iinc (v := nI (j + 1)) (ls' := [some (.ref (wA w (m))), some (.int (nI (i))), some (.int (nI (j + 1)))]) C (D (44, .iinc 2 1, 3) (mg 27 rfl)) rfl (nI_add (j) 1) rfl ?_
          refine X_goto (tgt := 19) C (D (47, .goto (-28), 3) (mg 28 rfl)) (by decide) ?_
          refine X_eq (ls' := [some (.ref (wA w (m))), some (.int (nI (i))), some (.int (nI (j + 1)))]) (st' := []) (h' := (cpS h (m + 1) 0 (m + 2) (310 * i) (j + 1))) (g' := g) rfl rfl (cpS_s h (m + 1) 0 (m + 2) (310 * i) (j) (by rw [Nat.zero_add]; exact (cpS_n h (m + 1) 0 (m + 2) (310 * i) (j) _ (by omega)).symm)) rfl ?_
          exact ih19 (j + 1) (by omega) (by omega)
    refine X_eq (ls' := [some (.ref (wA w (m))), some (.int (nI (i))), some (.int (nI (0)))]) (st' := []) (h' := (cpS h (m + 1) 0 (m + 2) (310 * i) (0))) (g' := g) rfl rfl (cpS_0 h (m + 1) 0 (m + 2) (310 * i)).symm rfl ?_
    exact lp19 _ (0) (by omega) (Nat.le_refl _)
  · skip
    have q4 : ¬ ((lN 0).toInt ≤ ((x).toInt64).toInt ∧ ((x).toInt64).toInt ≤ (lN 1).toInt) := bz0.mp q4
    simp only [i6, show (lN 0).toInt = 0 from by decide, show (lN 1).toInt = 1 from by decide] at q4
    refine X_aload_n C 0 (D (10, .aload_n 0, 1) (mg 6 rfl)) rfl rfl ?_
    refine X_bipush (v := (-2 : Int32)) C (D (11, .bipush (-2), 2) (mg 7 rfl)) (by decide) ?_
    refine X_cV (As := [.int ((-2 : Int32))]) (st := []) C (post := _) (m) (by omega) hsm rfl (ct_X8_bad hw hM ((-2 : Int32)) h g) kX8_75 (by decide) (by decide) rfl rfl (Nat.le_of_ble_eq_true rfl) (D (13, .invokevirtual 75, 3) (mg 8 rfl)) rfl (fun v8 H6 G7 hv8 => ?_)
    obtain ⟨rfl, rfl, rfl⟩ := hv8
    show X k w _ 16 [some (.ref (wA w (m))), some (.int (x)), none] [.int ((-2 : Int32))] (rfH h m 0) g
    exact X_iret C (D (16, .ireturn, 1) (mg 9 rfl)) (by rw [← hPP]; exact ⟨fun z => absurd z (by omega), fun _ => ⟨rfl, rfl, rfl⟩⟩)
set_option maxHeartbeats 4000000 in
set_option maxRecDepth 100000 in
theorem ct_X8_from {l : Launch} {w : Kw} (hw : wOk w) {m : Nat} (hM : shM w m) (x : Int32) (h : xI) (g : xJ)  : Ct l w yX8_from cX8_from 3 (some .int) 1 25 [.ref (wA w (m)), .int (x)] h g (pif (0 ≤ x.toInt ∧ x.toInt ≤ 1) (pif (¬ h (m + 3) x.toInt.toNat = 0) (px (some (.int (nI 1))) (cpS h (m + 2) (310 * x.toInt.toNat) (m + 1) 0 310) g) (px (some (.int (-3 : Int32))) (rfH h m 1) g)) (px (some (.int (-2 : Int32))) (rfH h m 0) g)) := by
  refine Ct_of (ls := [some (.ref (wA w (m))), some (.int (x)), none]) (by decide) hw (Nat.le_of_ble_eq_true rfl) rfl (fun k hkl C => ?_)
  have C : Cx k w cX8_from RX8 3 (some .int) 1 25 := C
  have D := dtX8_from
  subst hkl
  generalize hPP : (pif (0 ≤ x.toInt ∧ x.toInt ≤ 1) (pif (¬ h (m + 3) x.toInt.toNat = 0) (px (some (.int (nI 1))) (cpS h (m + 2) (310 * x.toInt.toNat) (m + 1) 0 310) g) (px (some (.int (-3 : Int32))) (rfH h m 1) g)) (px (some (.int (-2 : Int32))) (rfH h m 0) g)) = PP
  have hM0 := hM
  obtain ⟨hm, hsm, hs1, hs2, hs3, hs4, hs5, hs6, hs7, hs8, hs9, hs10, hs11⟩ := hM
  have hM := hM0
  refine X_iload_n C 1 (D (0, .iload_n 1, 1) (mg 0 rfl)) rfl rfl ?_
  refine X_i2l C (D (1, .i2l, 1) (mg 1 rfl)) ?_
  refine X_lconst (v := lN 0) C (D (2, .lconst 0, 1) (mg 2 rfl)) (by decide) ?_
  refine X_lconst (v := lN 1) C (D (3, .lconst 1, 1) (mg 3 rfl)) (by decide) ?_
  refine X_cS (As := [.long ((x).toInt64), .long (lN 0), .long (lN 1)]) (st := []) C (post := _) (ct_X8_in hw ((x).toInt64) (lN 0) (lN 1) h g) kX8_54 (by decide) (by decide) rfl rfl (Nat.le_of_ble_eq_true rfl) (D (4, .invokestatic 54, 3) (mg 4 rfl)) rfl (fun v3 H1 G2 hv3 => ?_)
  obtain ⟨rfl, rfl, rfl⟩ := hv3
  show X k w _ 7 [some (.ref (wA w (m))), some (.int (x)), none] [.int (if (lN 0).toInt ≤ ((x).toInt64).toInt ∧ ((x).toInt64).toInt ≤ (lN 1).toInt then 1 else 0)] h g
  refine X_if_ne (tgt := 17) C (D (7, .ifCond .ne 10, 3) (mg 5 rfl)) (by decide) (fun q4 => ?_) (fun q4 => ?_)
  · skip
    have q4 : ((lN 0).toInt ≤ ((x).toInt64).toInt ∧ ((x).toInt64).toInt ≤ (lN 1).toInt) := bz1.mp q4
    simp only [i6, show (lN 0).toInt = 0 from by decide, show (lN 1).toInt = 1 from by decide] at q4
    obtain ⟨i, hi, rfl⟩ := nI_i (n := 2) q4.1 (by omega)
    refine X_aload_n C 0 (D (17, .aload_n 0, 1) (mg 10 rfl)) rfl rfl ?_
    refine X_get (v := .ref (wA w (m + 3))) C (m) 2 (by omega) hsm rfl rfl (by decide) inX8 fX8_16 rfl (D (18, .getfield 16, 3) (mg 11 rfl)) rfl ?_
    refine X_iload_n C 1 (D (21, .iload_n 1, 1) (mg 12 rfl)) rfl rfl ?_
    refine X_zald (v := h (m + 3) (i)) C (m + 3) (by omega) hs3 (vp_in_nI (by omega) (by omega)) (D (22, .baload, 1) (mg 13 rfl)) (by rw [nI_clamp (by omega)]) ?_
    refine X_if_ne (tgt := 31) C (D (23, .ifCond .ne 8, 3) (mg 14 rfl)) (by decide) (fun q5 => ?_) (fun q5 => ?_)
    · skip
      refine X_iconst (v := nI (0)) C (D (31, .iconst 0, 1) (mg 18 rfl)) (by decide) ?_
      refine X_istore_n (ls' := [some (.ref (wA w (m))), some (.int (nI (i))), some (.int (nI (0)))]) C 2 (D (32, .istore_n 2, 1) (mg 19 rfl)) rfl (Nat.le_of_ble_eq_true rfl) rfl ?_
      have lp33 : ∀ (nn33 : Nat) (j : Nat), (j ≤ 310) → 311 - j ≤ nn33 → X k w (Zq k w (PP)) 33 [some (.ref (wA w (m))), some (.int (nI (i))), some (.int (nI (j)))] [] (cpS h (m + 2) (310 * i) (m + 1) 0 (j)) g := by
        intro nn33
        induction nn33 with
        | zero => intro j hc33_0 hz; exact absurd hz (by omega)
        | succ nn33 ih33 =>
          intro j hc33_0 hz33
          refine X_iload_n C 2 (D (33, .iload_n 2, 1) (mg 20 rfl)) rfl rfl ?_
          refine X_sipush (v := nI (310)) C (D (34, .sipush 310, 3) (mg 21 rfl)) (by decide) ?_
          refine X_icmp_ge (tgt := 64) C (D (37, .if_icmp .ge 27, 3) (mg 22 rfl)) (by decide) (fun q6 => ?_) (fun q6 => ?_)
          · skip
            have q6 : (j) ≥ (310) := by have z := (nI_leI (a := (310)) (b := (j)) (by omega) (by omega)).mp q6; omega
            refine X_iconst (v := nI (1)) C (D (64, .iconst 1, 1) (mg 37 rfl)) (by decide) ?_
            exact X_iret C (D (65, .ireturn, 1) (mg 38 rfl)) (by rw [← hPP]; exact ⟨fun _ => ⟨fun _ => ⟨rfl, by rw [nI_toInt (n := i) (by omega), Int.toNat_natCast, show j = 310 by omega], rfl⟩, fun z => absurd (by rw [nI_toInt (n := i) (by omega), Int.toNat_natCast]; assumption) z⟩, fun z => absurd (by omega) z⟩)
          · skip
            have q6 : (j) < (310) := by have z : ¬ ((310) ≤ (j)) := fun u => q6 ((nI_leI (a := (310)) (b := (j)) (by omega) (by omega)).mpr u); omega
            refine X_aload_n C 0 (D (40, .aload_n 0, 1) (mg 23 rfl)) rfl rfl ?_
            refine X_get (v := .ref (wA w (m + 1))) C (m) 0 (by omega) hsm rfl rfl (by decide) inX8 fX8_7 rfl (D (41, .getfield 7, 3) (mg 24 rfl)) rfl ?_
            refine X_iload_n C 2 (D (44, .iload_n 2, 1) (mg 25 rfl)) rfl rfl ?_
            refine X_aload_n C 0 (D (45, .aload_n 0, 1) (mg 26 rfl)) rfl rfl ?_
            refine X_get (v := .ref (wA w (m + 2))) C (m) 1 (by omega) hsm rfl rfl (by decide) inX8 fX8_13 rfl (D (46, .getfield 13, 3) (mg 27 rfl)) rfl ?_
            refine X_sipush (v := nI (310)) C (D (49, .sipush 310, 3) (mg 28 rfl)) (by decide) ?_
            refine X_iload_n C 1 (D (52, .iload_n 1, 1) (mg 29 rfl)) rfl rfl ?_
            refine X_imul C (D (53, .imul, 1) (mg 30 rfl)) ?_
            refine X_ti (y := nI ((310) * (i))) (pk_mul (310) (i)) ?_
            refine X_iload_n C 2 (D (54, .iload_n 2, 1) (mg 31 rfl)) rfl rfl ?_
            refine X_iadd C (D (55, .iadd, 1) (mg 32 rfl)) ?_
            refine X_ti (y := nI ((310) * (i) + j)) (nI_add ((310) * (i)) (j)) ?_
            refine X_iald (v := (cpS h (m + 2) (310 * i) (m + 1) 0 (j)) (m + 2) ((310) * (i) + j)) C (m + 2) (by omega) hs2 (vp_in_nI (by omega) (by omega)) (D (56, .iaload, 1) (mg 33 rfl)) (by rw [nI_clamp (by omega)]) ?_
            refine X_iast (j := j) C (m + 1) (by omega) hs1 (vp_in_nI (by omega) (by omega)) (D (57, .iastore, 1) (mg 34 rfl)) (nI_clamp (by omega)) ?_
            refine X_iinc (v := nI (j + 1)) (ls' := [some (.ref (wA w (m))), some (.int (nI (i))), some (.int (nI (j + 1)))]) C (D (58, .iinc 2 1, 3) (mg 35 rfl)) rfl (nI_add (j) 1) rfl ?_
            refine X_goto (tgt := 33) C (D (61, .goto (-28), 3) (mg 36 rfl)) (by decide) ?_
            refine X_eq (ls' := [some (.ref (wA w (m))), some (.int (nI (i))), some (.int (nI (j + 1)))]) (st' := []) (h' := (cpS h (m + 2) (310 * i) (m + 1) 0 (j + 1))) (g' := g) rfl rfl (by have z := cpS_s h (m + 2) (310 * i) (m + 1) 0 (j) (v := cpS h (m + 2) (310 * i) (m + 1) 0 (j) (m + 2) (310 * i + j)) (cpS_n h (m + 2) (310 * i) (m + 1) 0 (j) _ (by omega)).symm; rw [Nat.zero_add] at z; exact z) rfl ?_
            exact ih33 (j + 1) (by omega) (by omega)
      refine X_eq (ls' := [some (.ref (wA w (m))), some (.int (nI (i))), some (.int (nI (0)))]) (st' := []) (h' := (cpS h (m + 2) (310 * i) (m + 1) 0 (0))) (g' := g) rfl rfl (cpS_0 h (m + 2) (310 * i) (m + 1) 0).symm rfl ?_
      exact lp33 _ (0) (by omega) (Nat.le_refl _)
    · skip
      refine X_aload_n C 0 (D (26, .aload_n 0, 1) (mg 15 rfl)) rfl rfl ?_
      refine X_cV (As := []) (st := []) C (post := _) (m) (by omega) hsm rfl (ct_X8_no hw hM h g) kX8_125 (by decide) (by decide) rfl rfl (Nat.le_of_ble_eq_true rfl) (D (27, .invokevirtual 125, 3) (mg 16 rfl)) rfl (fun v9 H7 G8 hv9 => ?_)
      obtain ⟨rfl, rfl, rfl⟩ := hv9
      show X k w _ 30 [some (.ref (wA w (m))), some (.int (nI (i))), none] [.int ((-3 : Int32))] (rfH h m 1) g
      exact X_iret C (D (30, .ireturn, 1) (mg 17 rfl)) (by rw [← hPP]; exact ⟨fun _ => ⟨fun z => absurd (show h (m + 3) (nI i).toInt.toNat = 0 from by rw [nI_toInt (n := i) (by omega), Int.toNat_natCast]; assumption) z, fun _ => ⟨rfl, rfl, rfl⟩⟩, fun z => absurd (by omega) z⟩)
  · skip
    have q4 : ¬ ((lN 0).toInt ≤ ((x).toInt64).toInt ∧ ((x).toInt64).toInt ≤ (lN 1).toInt) := bz0.mp q4
    simp only [i6, show (lN 0).toInt = 0 from by decide, show (lN 1).toInt = 1 from by decide] at q4
    refine X_aload_n C 0 (D (10, .aload_n 0, 1) (mg 6 rfl)) rfl rfl ?_
    refine X_bipush (v := (-2 : Int32)) C (D (11, .bipush (-2), 2) (mg 7 rfl)) (by decide) ?_
    refine X_cV (As := [.int ((-2 : Int32))]) (st := []) C (post := _) (m) (by omega) hsm rfl (ct_X8_bad hw hM ((-2 : Int32)) h g) kX8_75 (by decide) (by decide) rfl rfl (Nat.le_of_ble_eq_true rfl) (D (13, .invokevirtual 75, 3) (mg 8 rfl)) rfl (fun v12 H10 G11 hv12 => ?_)
    obtain ⟨rfl, rfl, rfl⟩ := hv12
    show X k w _ 16 [some (.ref (wA w (m))), some (.int (x)), none] [.int ((-2 : Int32))] (rfH h m 0) g
    exact X_iret C (D (16, .ireturn, 1) (mg 9 rfl)) (by rw [← hPP]; exact ⟨fun z => absurd z (by omega), fun _ => ⟨rfl, rfl, rfl⟩⟩)
def spP (v : Int32) (b d : Nat) : Int32 := if ¬ v = 0 then (if mD v = 0 then (if b = d then (-1 : Int32) else nI 5) else (-1 : Int32)) else (-1 : Int32)
def cuP (v x : Int32) : Int32 := if x = nI 5 then (if ¬ v = 0 then nI 4 else nI 0) - nI 2 else (if ¬ v = 0 then nI 4 else nI 0)
set_option maxHeartbeats 4000000 in
set_option maxRecDepth 100000 in
theorem ct_X8_toSparrow {l : Launch} {w : Kw} (hw : wOk w) {m : Nat} (hM : shM w m) {a b d : Nat} (ha : a < 5) (hb : b < 5) (hd : d < 5) (h : xI) (g : xJ)  : Ct l w yX8_toSparrow cX8_toSparrow 5 (some .int) 1 21 [.ref (wA w (m)), .int (nI (a)), .int (nI (b)), .int (nI (d))] h g (px (some (.int (spP (h (m + 1) (3 + (5 * a + d))) b d))) h g) := by
  refine Ct_of (ls := [some (.ref (wA w (m))), some (.int (nI (a))), some (.int (nI (b))), some (.int (nI (d))), none]) (by decide) hw (Nat.le_of_ble_eq_true rfl) rfl (fun k hkl C => ?_)
  have C : Cx k w cX8_toSparrow RX8 5 (some .int) 1 21 := C
  have D := dtX8_toSparrow
  subst hkl
  have hM0 := hM
  obtain ⟨hm, hsm, hs1, hs2, hs3, hs4, hs5, hs6, hs7, hs8, hs9, hs10, hs11⟩ := hM
  have hM := hM0
  refine X_iconst (v := nI (5)) C (D (0, .iconst 5, 1) (mg 0 rfl)) (by decide) ?_
  refine X_iload_n C 1 (D (1, .iload_n 1, 1) (mg 1 rfl)) rfl rfl ?_
  refine X_imul C (D (2, .imul, 1) (mg 2 rfl)) ?_
  refine X_ti (y := nI ((5) * (a))) (pk_mul (5) (a)) ?_
  refine X_iload_n C 3 (D (3, .iload_n 3, 1) (mg 3 rfl)) rfl rfl ?_
  refine X_iadd C (D (4, .iadd, 1) (mg 4 rfl)) ?_
  refine X_ti (y := nI ((5) * (a) + d)) (nI_add ((5) * (a)) (d)) ?_
  refine X_istore (ls' := [some (.ref (wA w (m))), some (.int (nI (a))), some (.int (nI (b))), some (.int (nI (d))), some (.int (nI ((5) * (a) + d)))]) C (D (5, .istore 4, 2) (mg 5 rfl)) (Nat.le_of_ble_eq_true rfl) rfl ?_
  refine X_aload_n C 0 (D (7, .aload_n 0, 1) (mg 6 rfl)) rfl rfl ?_
  refine X_get (v := .ref (wA w (m + 1))) C (m) 0 (by omega) hsm rfl rfl (by decide) inX8 fX8_7 rfl (D (8, .getfield 7, 3) (mg 7 rfl)) rfl ?_
  refine X_iload C (D (11, .iload 4, 2) (mg 8 rfl)) rfl ?_
  refine X_cS (As := [.ref (wA w (m + 1)), .int (nI ((5) * (a) + d))]) (st := []) C (post := _) (ct_X8_lies hw (⟨by omega, hs1, by omega, by omega⟩ : rw56 w (m + 1) 310) (by omega) h g) kX8_64 (by decide) (by decide) rfl rfl (Nat.le_of_ble_eq_true rfl) (D (13, .invokestatic 64, 3) (mg 9 rfl)) rfl (fun v3 H1 G2 hv3 => ?_)
  obtain ⟨rfl, rfl, rfl⟩ := hv3
  show X k w _ 16 [some (.ref (wA w (m))), some (.int (nI (a))), some (.int (nI (b))), some (.int (nI (d))), some (.int (nI ((5) * (a) + d)))] [.int (if ¬ h (m + 1) (3 + ((5) * (a) + d)) = 0 then 1 else 0)] h g
  refine X_if_eq (tgt := 40) C (D (16, .ifCond .eq 24, 3) (mg 10 rfl)) (by decide) (fun q4 => ?_) (fun q4 => ?_)
  · skip
    have q4 : ¬ (¬ h (m + 1) (3 + ((5) * (a) + d)) = 0) := bz0.mp q4
    refine X_iconst (v := (-1 : Int32)) C (D (40, .iconst (-1), 1) (mg 21 rfl)) (by decide) ?_
    exact X_iret C (D (41, .ireturn, 1) (mg 22 rfl)) ⟨congrArg (fun z => some (Value.int z)) (by first | exact (if_neg (by assumption)) | exact ((if_pos (by assumption)).trans (if_neg (by assumption))) | exact (((if_pos (by assumption)).trans (if_pos (by assumption))).trans (if_pos (by assumption)))), rfl, rfl⟩
  · skip
    have q4 : (¬ h (m + 1) (3 + ((5) * (a) + d)) = 0) := bz1.mp q4
    refine X_aload_n C 0 (D (19, .aload_n 0, 1) (mg 11 rfl)) rfl rfl ?_
    refine X_get (v := .ref (wA w (m + 1))) C (m) 0 (by omega) hsm rfl rfl (by decide) inX8 fX8_7 rfl (D (20, .getfield 7, 3) (mg 12 rfl)) rfl ?_
    refine X_iload C (D (23, .iload 4, 2) (mg 13 rfl)) rfl ?_
    refine X_cS (As := [.ref (wA w (m + 1)), .int (nI ((5) * (a) + d))]) (st := []) C (post := _) (ct_X8_depthOf hw (⟨by omega, hs1, by omega, by omega⟩ : rw56 w (m + 1) 310) (by omega) h g) kX8_90 (by decide) (by decide) rfl rfl (Nat.le_of_ble_eq_true rfl) (D (25, .invokestatic 90, 3) (mg 14 rfl)) rfl (fun v7 H5 G6 hv7 => ?_)
    obtain ⟨rfl, rfl, rfl⟩ := hv7
    show X k w _ 28 [some (.ref (wA w (m))), some (.int (nI (a))), some (.int (nI (b))), some (.int (nI (d))), some (.int (nI ((5) * (a) + d)))] [.int (mD (h (m + 1) (3 + ((5) * (a) + d))))] h g
    refine X_if_ne (tgt := 40) C (D (28, .ifCond .ne 12, 3) (mg 15 rfl)) (by decide) (fun q8 => ?_) (fun q8 => ?_)
    · skip
      refine X_iconst (v := (-1 : Int32)) C (D (40, .iconst (-1), 1) (mg 21 rfl)) (by decide) ?_
      exact X_iret C (D (41, .ireturn, 1) (mg 22 rfl)) ⟨congrArg (fun z => some (Value.int z)) (by first | exact (if_neg (by assumption)) | exact ((if_pos (by assumption)).trans (if_neg (by assumption))) | exact (((if_pos (by assumption)).trans (if_pos (by assumption))).trans (if_pos (by assumption)))), rfl, rfl⟩
    · skip
      refine X_iload_n C 2 (D (31, .iload_n 2, 1) (mg 16 rfl)) rfl rfl ?_
      refine X_iload_n C 3 (D (32, .iload_n 3, 1) (mg 17 rfl)) rfl rfl ?_
      refine X_icmp_eq (tgt := 40) C (D (33, .if_icmp .eq 7, 3) (mg 18 rfl)) (by decide) (fun q9 => ?_) (fun q9 => ?_)
      · skip
        have q9 : (b) = (d) := by have z := (nI_eq (a := (b)) (b := (d)) (by omega) (by omega)).mp q9; omega
        refine X_iconst (v := (-1 : Int32)) C (D (40, .iconst (-1), 1) (mg 21 rfl)) (by decide) ?_
        exact X_iret C (D (41, .ireturn, 1) (mg 22 rfl)) ⟨congrArg (fun z => some (Value.int z)) (by first | exact (if_neg (by assumption)) | exact ((if_pos (by assumption)).trans (if_neg (by assumption))) | exact (((if_pos (by assumption)).trans (if_pos (by assumption))).trans (if_pos (by assumption)))), rfl, rfl⟩
      · skip
        have q9 : (b) ≠ (d) := by have z : ¬ ((b) = (d)) := fun u => q9 ((nI_eq (a := (b)) (b := (d)) (by omega) (by omega)).mpr u); omega
        refine X_iconst (v := nI (5)) C (D (36, .iconst 5, 1) (mg 19 rfl)) (by decide) ?_
        refine X_goto (tgt := 41) C (D (37, .goto 4, 3) (mg 20 rfl)) (by decide) ?_
        exact X_iret C (D (41, .ireturn, 1) (mg 22 rfl)) ⟨congrArg (fun z => some (Value.int z)) (((if_pos (by assumption)).trans (if_pos (by assumption))).trans (if_neg (by assumption))), rfl, rfl⟩
set_option maxHeartbeats 4000000 in
set_option maxRecDepth 100000 in
theorem ct_X8_toCurate {l : Launch} {w : Kw} (hw : wOk w) {m : Nat} (hM : shM w m) {a b d : Nat} (ha : a < 5) (hb : b < 5) (hd : d < 5) (h : xI) (g : xJ)  : Ct l w yX8_toCurate cX8_toCurate 5 (some .int) 2 45 [.ref (wA w (m)), .int (nI (a)), .int (nI (b)), .int (nI (d))] h g (px (some (.int (cuP (h (m + 1) (3 + (5 * a + b))) (spP (h (m + 1) (3 + (5 * a + d))) b d)))) h g) := by
  refine Ct_of (ls := [some (.ref (wA w (m))), some (.int (nI (a))), some (.int (nI (b))), some (.int (nI (d))), none]) (by decide) hw (Nat.le_of_ble_eq_true rfl) rfl (fun k hkl C => ?_)
  have C : Cx k w cX8_toCurate RX8 5 (some .int) 2 45 := C
  have D := dtX8_toCurate
  subst hkl
  have hM0 := hM
  obtain ⟨hm, hsm, hs1, hs2, hs3, hs4, hs5, hs6, hs7, hs8, hs9, hs10, hs11⟩ := hM
  have hM := hM0
  have jn20 : X k w (Zq k w (px (some (.int (cuP (h (m + 1) (3 + (5 * a + b))) (spP (h (m + 1) (3 + (5 * a + d))) b d)))) h g)) 20 [some (.ref (wA w (m))), some (.int (nI (a))), some (.int (nI (b))), some (.int (nI (d))), none] [.int (if ¬ h (m + 1) (3 + (5 * a + b)) = 0 then nI 4 else nI 0)] h g := by
    refine X_istore (ls' := [some (.ref (wA w (m))), some (.int (nI (a))), some (.int (nI (b))), some (.int (nI (d))), some (.int (if ¬ h (m + 1) (3 + (5 * a + b)) = 0 then nI 4 else nI 0))]) C (D (20, .istore 4, 2) (mg 12 rfl)) (Nat.le_of_ble_eq_true rfl) rfl ?_
    refine X_aload_n C 0 (D (22, .aload_n 0, 1) (mg 13 rfl)) rfl rfl ?_
    refine X_iload_n C 1 (D (23, .iload_n 1, 1) (mg 14 rfl)) rfl rfl ?_
    refine X_iload_n C 2 (D (24, .iload_n 2, 1) (mg 15 rfl)) rfl rfl ?_
    refine X_iload_n C 3 (D (25, .iload_n 3, 1) (mg 16 rfl)) rfl rfl ?_
    refine X_cV (As := [.int (nI (a)), .int (nI (b)), .int (nI (d))]) (st := []) C (post := _) (m) (by omega) hsm rfl (ct_X8_toSparrow hw hM (a := a) (b := b) (d := d) (by omega) (by omega) (by omega) h g) kX8_197 (by decide) (by decide) rfl rfl (Nat.le_of_ble_eq_true rfl) (D (26, .invokevirtual 197, 3) (mg 17 rfl)) rfl (fun v3 H1 G2 hv3 => ?_)
    obtain ⟨rfl, rfl, rfl⟩ := hv3
    show X k w _ 29 [some (.ref (wA w (m))), some (.int (nI (a))), some (.int (nI (b))), some (.int (nI (d))), some (.int (if ¬ h (m + 1) (3 + (5 * a + b)) = 0 then nI 4 else nI 0))] [.int (spP (h (m + 1) (3 + (5 * (a) + (d)))) (b) (d))] h g
    refine X_iconst (v := nI (5)) C (D (29, .iconst 5, 1) (mg 18 rfl)) (by decide) ?_
    refine X_icmp_ne (tgt := 40) C (D (30, .if_icmp .ne 10, 3) (mg 19 rfl)) (by decide) (fun q4 => ?_) (fun q4 => ?_)
    · skip
      refine X_iload C (D (40, .iload 4, 2) (mg 24 rfl)) rfl ?_
      exact X_iret C (D (42, .ireturn, 1) (mg 25 rfl)) ⟨congrArg (fun z => some (Value.int z)) (if_neg (by assumption)), rfl, rfl⟩
    · skip
      refine X_iload C (D (33, .iload 4, 2) (mg 20 rfl)) rfl ?_
      refine X_iconst (v := nI (2)) C (D (35, .iconst 2, 1) (mg 21 rfl)) (by decide) ?_
      refine X_isub C (D (36, .isub, 1) (mg 22 rfl)) ?_
      refine X_goto (tgt := 42) C (D (37, .goto 5, 3) (mg 23 rfl)) (by decide) ?_
      exact X_iret C (D (42, .ireturn, 1) (mg 25 rfl)) ⟨congrArg (fun z => some (Value.int z)) (if_pos (by assumption)), rfl, rfl⟩
  refine X_aload_n C 0 (D (0, .aload_n 0, 1) (mg 0 rfl)) rfl rfl ?_
  refine X_get (v := .ref (wA w (m + 1))) C (m) 0 (by omega) hsm rfl rfl (by decide) inX8 fX8_7 rfl (D (1, .getfield 7, 3) (mg 1 rfl)) rfl ?_
  refine X_iconst (v := nI (5)) C (D (4, .iconst 5, 1) (mg 2 rfl)) (by decide) ?_
  refine X_iload_n C 1 (D (5, .iload_n 1, 1) (mg 3 rfl)) rfl rfl ?_
  refine X_imul C (D (6, .imul, 1) (mg 4 rfl)) ?_
  refine X_ti (y := nI ((5) * (a))) (pk_mul (5) (a)) ?_
  refine X_iload_n C 2 (D (7, .iload_n 2, 1) (mg 5 rfl)) rfl rfl ?_
  refine X_iadd C (D (8, .iadd, 1) (mg 6 rfl)) ?_
  refine X_ti (y := nI ((5) * (a) + b)) (nI_add ((5) * (a)) (b)) ?_
  refine X_cS (As := [.ref (wA w (m + 1)), .int (nI ((5) * (a) + b))]) (st := []) C (post := _) (ct_X8_lies hw (⟨by omega, hs1, by omega, by omega⟩ : rw56 w (m + 1) 310) (by omega) h g) kX8_64 (by decide) (by decide) rfl rfl (Nat.le_of_ble_eq_true rfl) (D (9, .invokestatic 64, 3) (mg 7 rfl)) rfl (fun v7 H5 G6 hv7 => ?_)
  obtain ⟨rfl, rfl, rfl⟩ := hv7
  show X k w _ 12 [some (.ref (wA w (m))), some (.int (nI (a))), some (.int (nI (b))), some (.int (nI (d))), none] [.int (if ¬ h (m + 1) (3 + ((5) * (a) + b)) = 0 then 1 else 0)] h g
  refine X_if_eq (tgt := 19) C (D (12, .ifCond .eq 7, 3) (mg 8 rfl)) (by decide) (fun q8 => ?_) (fun q8 => ?_)
  · skip
    have q8 : ¬ (¬ h (m + 1) (3 + ((5) * (a) + b)) = 0) := bz0.mp q8
    refine X_iconst (v := nI (0)) C (D (19, .iconst 0, 1) (mg 11 rfl)) (by decide) ?_
    refine X_eq (ls' := [some (.ref (wA w (m))), some (.int (nI (a))), some (.int (nI (b))), some (.int (nI (d))), none]) (st' := [.int (if ¬ h (m + 1) (3 + (5 * a + b)) = 0 then nI 4 else nI 0)]) (h' := h) (g' := g) rfl (congrArg (fun z => [Value.int z]) (Eq.symm (a := (if ¬ h (m + 1) (3 + (5 * a + b)) = 0 then nI 4 else nI 0)) (if_neg (by assumption)))) rfl rfl ?_
    exact jn20  
  · skip
    have q8 : (¬ h (m + 1) (3 + ((5) * (a) + b)) = 0) := bz1.mp q8
    refine X_iconst (v := nI (4)) C (D (15, .iconst 4, 1) (mg 9 rfl)) (by decide) ?_
    refine X_goto (tgt := 20) C (D (16, .goto 4, 3) (mg 10 rfl)) (by decide) ?_
    refine X_eq (ls' := [some (.ref (wA w (m))), some (.int (nI (a))), some (.int (nI (b))), some (.int (nI (d))), none]) (st' := [.int (if ¬ h (m + 1) (3 + (5 * a + b)) = 0 then nI 4 else nI 0)]) (h' := h) (g' := g) rfl (congrArg (fun z => [Value.int z]) (Eq.symm (a := (if ¬ h (m + 1) (3 + (5 * a + b)) = 0 then nI 4 else nI 0)) (if_pos (by assumption)))) rfl rfl ?_
    exact jn20  
def dpB (P : Nat → Prop) [DecidablePred P] : Nat → Int32
  | 0 => nI 0
  | n + 1 => dpB P n ||| (if P n then nI 1 <<< (nI n &&& 31) else nI 0)
theorem dpB_t {P : Nat → Prop} [DecidablePred P] {n : Nat} (h : P n) : dpB P n ||| (nI 1 <<< (nI n &&& 31)) = dpB P (n + 1) := by
  show _ = dpB P n ||| _
  rw [if_pos h]
theorem dpB_f {P : Nat → Prop} [DecidablePred P] {n : Nat} (h : ¬ P n) : dpB P n ||| nI 0 = dpB P (n + 1) := by
  show _ = dpB P n ||| _
  rw [if_neg h]
set_option maxHeartbeats 4000000 in
set_option maxRecDepth 100000 in
theorem ct_X8_deep {l : Launch} {w : Kw} (hw : wOk w) {m : Nat} (hM : shM w m) (c d : Int32) (h : xI) (g : xJ)  : Ct l w yX8_deep cX8_deep 5 (some .int) 3 69 [.ref (wA w (m)), .int (c), .int (d)] h g (pif ((0 ≤ c.toInt ∧ c.toInt < 25) ∧ (0 ≤ d.toInt ∧ d.toInt < 10)) (px (some (.int (dpB (fun e => coV (h (m + 1) 30) (h (m + 1) (31 + c.toInt.toNat)) (nI e) = d) 10))) h g) (px (some (.int (-2 : Int32))) (rfH h m 0) g)) := by
  refine Ct_of (ls := [some (.ref (wA w (m))), some (.int (c)), some (.int (d)), none, none]) (by decide) hw (Nat.le_of_ble_eq_true rfl) rfl (fun k hkl C => ?_)
  have C : Cx k w cX8_deep RX8 5 (some .int) 3 69 := C
  have D := dtX8_deep
  subst hkl
  generalize hPP : (pif ((0 ≤ c.toInt ∧ c.toInt < 25) ∧ (0 ≤ d.toInt ∧ d.toInt < 10)) (px (some (.int (dpB (fun e => coV (h (m + 1) 30) (h (m + 1) (31 + c.toInt.toNat)) (nI e) = d) 10))) h g) (px (some (.int (-2 : Int32))) (rfH h m 0) g)) = PP
  have hM0 := hM
  obtain ⟨hm, hsm, hs1, hs2, hs3, hs4, hs5, hs6, hs7, hs8, hs9, hs10, hs11⟩ := hM
  have hM := hM0
  refine X_iload_n C 1 (D (0, .iload_n 1, 1) (mg 0 rfl)) rfl rfl ?_
  refine X_cS (As := [.int (c)]) (st := []) C (post := _) (ct_X8_isCell hw (c) h g) kX8_72 (by decide) (by decide) rfl rfl (Nat.le_of_ble_eq_true rfl) (D (1, .invokestatic 72, 3) (mg 1 rfl)) rfl (fun v3 H1 G2 hv3 => ?_)
  obtain ⟨rfl, rfl, rfl⟩ := hv3
  show X k w _ 4 [some (.ref (wA w (m))), some (.int (c)), some (.int (d)), none, none] [.int (if 0 ≤ (c).toInt ∧ (c).toInt < 25 then 1 else 0)] h g
  refine X_if_eq (tgt := 14) C (D (4, .ifCond .eq 10, 3) (mg 2 rfl)) (by decide) (fun q4 => ?_) (fun q4 => ?_)
  · skip
    have q4 : ¬ (0 ≤ (c).toInt ∧ (c).toInt < 25) := bz0.mp q4
    refine X_aload_n C 0 (D (14, .aload_n 0, 1) (mg 6 rfl)) rfl rfl ?_
    refine X_bipush (v := (-2 : Int32)) C (D (15, .bipush (-2), 2) (mg 7 rfl)) (by decide) ?_
    refine X_cV (As := [.int ((-2 : Int32))]) (st := []) C (post := _) (m) (by omega) hsm rfl (ct_X8_bad hw hM ((-2 : Int32)) h g) kX8_75 (by decide) (by decide) rfl rfl (Nat.le_of_ble_eq_true rfl) (D (17, .invokevirtual 75, 3) (mg 8 rfl)) rfl (fun v7 H5 G6 hv7 => ?_)
    obtain ⟨rfl, rfl, rfl⟩ := hv7
    show X k w _ 20 [some (.ref (wA w (m))), some (.int (c)), some (.int (d)), none, none] [.int ((-2 : Int32))] (rfH h m 0) g
    exact X_iret C (D (20, .ireturn, 1) (mg 9 rfl)) (by rw [← hPP]; exact ⟨fun z => absurd z (by omega), fun _ => ⟨rfl, rfl, rfl⟩⟩)
  · skip
    have q4 : (0 ≤ (c).toInt ∧ (c).toInt < 25) := bz1.mp q4
    obtain ⟨j, hj, rfl⟩ := nI_i (n := 25) q4.1 (by omega)
    refine X_iload_n C 2 (D (7, .iload_n 2, 1) (mg 3 rfl)) rfl rfl ?_
    refine X_cS (As := [.int (d)]) (st := []) C (post := _) (ct_X8_isDepth hw (d) h g) kX8_180 (by decide) (by decide) rfl rfl (Nat.le_of_ble_eq_true rfl) (D (8, .invokestatic 180, 3) (mg 4 rfl)) rfl (fun v10 H8 G9 hv10 => ?_)
    obtain ⟨rfl, rfl, rfl⟩ := hv10
    show X k w _ 11 [some (.ref (wA w (m))), some (.int (nI (j))), some (.int (d)), none, none] [.int (if 0 ≤ (d).toInt ∧ (d).toInt < 10 then 1 else 0)] h g
    refine X_if_ne (tgt := 21) C (D (11, .ifCond .ne 10, 3) (mg 5 rfl)) (by decide) (fun q11 => ?_) (fun q11 => ?_)
    · skip
      have q11 : (0 ≤ (d).toInt ∧ (d).toInt < 10) := bz1.mp q11
      refine X_iconst (v := nI (0)) C (D (21, .iconst 0, 1) (mg 10 rfl)) (by decide) ?_
      refine X_istore_n (ls' := [some (.ref (wA w (m))), some (.int (nI (j))), some (.int (d)), some (.int (nI (0))), none]) C 3 (D (22, .istore_n 3, 1) (mg 11 rfl)) rfl (Nat.le_of_ble_eq_true rfl) rfl ?_
      refine X_iconst (v := nI (0)) C (D (23, .iconst 0, 1) (mg 12 rfl)) (by decide) ?_
      refine X_istore (ls' := [some (.ref (wA w (m))), some (.int (nI (j))), some (.int (d)), some (.int (nI (0))), some (.int (nI (0)))]) C (D (24, .istore 4, 2) (mg 13 rfl)) (Nat.le_of_ble_eq_true rfl) rfl ?_
      have lp26 : ∀ (nn26 : Nat) (t : Nat), (t ≤ 10) → 11 - t ≤ nn26 → X k w (Zq k w (PP)) 26 [some (.ref (wA w (m))), some (.int (nI (j))), some (.int (d)), some (.int (dpB (fun e => coV (h (m + 1) 30) (h (m + 1) (31 + j)) (nI e) = d) (t))), some (.int (nI (t)))] [] h g := by
        intro nn26
        induction nn26 with
        | zero => intro t hc26_0 hz; exact absurd hz (by omega)
        | succ nn26 ih26 =>
          intro t hc26_0 hz26
          refine X_iload C (D (26, .iload 4, 2) (mg 14 rfl)) rfl ?_
          refine X_bipush (v := nI (10)) C (D (28, .bipush 10, 2) (mg 15 rfl)) (by decide) ?_
          refine X_icmp_ge (tgt := 64) C (D (30, .if_icmp .ge 34, 3) (mg 16 rfl)) (by decide) (fun q12 => ?_) (fun q12 => ?_)
          · skip
            have q12 : (t) ≥ (10) := by have z := (nI_leI (a := (10)) (b := (t)) (by omega) (by omega)).mp q12; omega
            refine X_iload_n C 3 (D (64, .iload_n 3, 1) (mg 34 rfl)) rfl rfl ?_
            exact X_iret C (D (65, .ireturn, 1) (mg 35 rfl)) (by rw [← hPP]; exact ⟨fun _ => ⟨by rw [nI_toInt (n := j) (by omega), Int.toNat_natCast, show t = 10 by omega], rfl, rfl⟩, fun z => absurd (by omega) z⟩)
          · skip
            have q12 : (t) < (10) := by have z : ¬ ((10) ≤ (t)) := fun u => q12 ((nI_leI (a := (10)) (b := (t)) (by omega) (by omega)).mpr u); omega
            refine X_iload_n C 3 (D (33, .iload_n 3, 1) (mg 17 rfl)) rfl rfl ?_
            refine X_aload_n C 0 (D (34, .aload_n 0, 1) (mg 18 rfl)) rfl rfl ?_
            refine X_get (v := .ref (wA w (m + 1))) C (m) 0 (by omega) hsm rfl rfl (by decide) inX8 fX8_7 rfl (D (35, .getfield 7, 3) (mg 19 rfl)) rfl ?_
            refine X_iload_n C 1 (D (38, .iload_n 1, 1) (mg 20 rfl)) rfl rfl ?_
            refine X_iload C (D (39, .iload 4, 2) (mg 21 rfl)) rfl ?_
            refine X_cS (As := [.ref (wA w (m + 1)), .int (nI (j)), .int (nI (t))]) (st := [.int (dpB (fun e => coV (h (m + 1) 30) (h (m + 1) (31 + j)) (nI e) = d) (t))]) C (post := _) (ct_X8_comesTo hw (⟨by omega, hs1, by omega, by omega⟩ : rw56 w (m + 1) 310) (by omega) (nI (t)) h g) kX8_114 (by decide) (by decide) rfl rfl (Nat.le_of_ble_eq_true rfl) (D (41, .invokestatic 114, 3) (mg 22 rfl)) rfl (fun v15 H13 G14 hv15 => ?_)
            obtain ⟨rfl, rfl, rfl⟩ := hv15
            show X k w _ 44 [some (.ref (wA w (m))), some (.int (nI (j))), some (.int (d)), some (.int (dpB (fun e => coV (h (m + 1) 30) (h (m + 1) (31 + j)) (nI e) = d) (t))), some (.int (nI (t)))] [.int (coV (h (m + 1) 30) (h (m + 1) (31 + (j))) (nI (t))), .int (dpB (fun e => coV (h (m + 1) 30) (h (m + 1) (31 + j)) (nI e) = d) (t))] h g
            refine X_iload_n C 2 (D (44, .iload_n 2, 1) (mg 23 rfl)) rfl rfl ?_
            refine X_icmp_ne (tgt := 55) C (D (45, .if_icmp .ne 10, 3) (mg 24 rfl)) (by decide) (fun q16 => ?_) (fun q16 => ?_)
            · skip
              refine X_iconst (v := nI (0)) C (D (55, .iconst 0, 1) (mg 29 rfl)) (by decide) ?_
              refine X_ior C (D (56, .ior, 1) (mg 30 rfl)) ?_
              refine X_istore_n (ls' := [some (.ref (wA w (m))), some (.int (nI (j))), some (.int (d)), some (.int ((dpB (fun e => coV (h (m + 1) 30) (h (m + 1) (31 + j)) (nI e) = d) (t)) ||| (nI (0)))), some (.int (nI (t)))]) C 3 (D (57, .istore_n 3, 1) (mg 31 rfl)) rfl (Nat.le_of_ble_eq_true rfl) rfl ?_
              refine X_iinc (v := nI (t + 1)) (ls' := [some (.ref (wA w (m))), some (.int (nI (j))), some (.int (d)), some (.int ((dpB (fun e => coV (h (m + 1) 30) (h (m + 1) (31 + j)) (nI e) = d) (t)) ||| (nI (0)))), some (.int (nI (t + 1)))]) C (D (58, .iinc 4 1, 3) (mg 32 rfl)) rfl (nI_add (t) 1) rfl ?_
              refine X_goto (tgt := 26) C (D (61, .goto (-35), 3) (mg 33 rfl)) (by decide) ?_
              refine X_eq (ls' := [some (.ref (wA w (m))), some (.int (nI (j))), some (.int (d)), some (.int (dpB (fun e => coV (h (m + 1) 30) (h (m + 1) (31 + j)) (nI e) = d) (t + 1))), some (.int (nI (t + 1)))]) (st' := []) (h' := h) (g' := g) (by rw [dpB_f (by assumption)]) rfl rfl rfl ?_
              exact ih26 (t + 1) (by omega) (by omega)
            · skip
              refine X_iconst (v := nI (1)) C (D (48, .iconst 1, 1) (mg 25 rfl)) (by decide) ?_
              refine X_iload C (D (49, .iload 4, 2) (mg 26 rfl)) rfl ?_
              refine X_ishl C (D (51, .ishl, 1) (mg 27 rfl)) ?_
              refine X_goto (tgt := 56) C (D (52, .goto 4, 3) (mg 28 rfl)) (by decide) ?_
              refine X_ior C (D (56, .ior, 1) (mg 30 rfl)) ?_
              refine X_istore_n (ls' := [some (.ref (wA w (m))), some (.int (nI (j))), some (.int (d)), some (.int ((dpB (fun e => coV (h (m + 1) 30) (h (m + 1) (31 + j)) (nI e) = d) (t)) ||| ((nI (1)) <<< ((nI (t)) &&& 31)))), some (.int (nI (t)))]) C 3 (D (57, .istore_n 3, 1) (mg 31 rfl)) rfl (Nat.le_of_ble_eq_true rfl) rfl ?_
              refine X_iinc (v := nI (t + 1)) (ls' := [some (.ref (wA w (m))), some (.int (nI (j))), some (.int (d)), some (.int ((dpB (fun e => coV (h (m + 1) 30) (h (m + 1) (31 + j)) (nI e) = d) (t)) ||| ((nI (1)) <<< ((nI (t)) &&& 31)))), some (.int (nI (t + 1)))]) C (D (58, .iinc 4 1, 3) (mg 32 rfl)) rfl (nI_add (t) 1) rfl ?_
              refine X_goto (tgt := 26) C (D (61, .goto (-35), 3) (mg 33 rfl)) (by decide) ?_
              refine X_eq (ls' := [some (.ref (wA w (m))), some (.int (nI (j))), some (.int (d)), some (.int (dpB (fun e => coV (h (m + 1) 30) (h (m + 1) (31 + j)) (nI e) = d) (t + 1))), some (.int (nI (t + 1)))]) (st' := []) (h' := h) (g' := g) (by rw [dpB_t (by assumption)]) rfl rfl rfl ?_
              exact ih26 (t + 1) (by omega) (by omega)
      refine X_eq (ls' := [some (.ref (wA w (m))), some (.int (nI (j))), some (.int (d)), some (.int (dpB (fun e => coV (h (m + 1) 30) (h (m + 1) (31 + j)) (nI e) = d) (0))), some (.int (nI (0)))]) (st' := []) (h' := h) (g' := g) rfl rfl rfl rfl ?_
      exact lp26 _ (0) (by omega) (Nat.le_refl _)
    · skip
      have q11 : ¬ (0 ≤ (d).toInt ∧ (d).toInt < 10) := bz0.mp q11
      refine X_aload_n C 0 (D (14, .aload_n 0, 1) (mg 6 rfl)) rfl rfl ?_
      refine X_bipush (v := (-2 : Int32)) C (D (15, .bipush (-2), 2) (mg 7 rfl)) (by decide) ?_
      refine X_cV (As := [.int ((-2 : Int32))]) (st := []) C (post := _) (m) (by omega) hsm rfl (ct_X8_bad hw hM ((-2 : Int32)) h g) kX8_75 (by decide) (by decide) rfl rfl (Nat.le_of_ble_eq_true rfl) (D (17, .invokevirtual 75, 3) (mg 8 rfl)) rfl (fun v19 H17 G18 hv19 => ?_)
      obtain ⟨rfl, rfl, rfl⟩ := hv19
      show X k w _ 20 [some (.ref (wA w (m))), some (.int (nI (j))), some (.int (d)), none, none] [.int ((-2 : Int32))] (rfH h m 0) g
      exact X_iret C (D (20, .ireturn, 1) (mg 9 rfl)) (by rw [← hPP]; exact ⟨fun z => absurd z (by omega), fun _ => ⟨rfl, rfl, rfl⟩⟩)
