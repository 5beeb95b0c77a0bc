/-! THE REFERENCE, 5: stony, type, clear, status, forget, part, seen, mark -/
set_option maxHeartbeats 4000000 in
set_option maxRecDepth 100000 in
theorem ct_X8_stony {l : Launch} {w : Kw} (hw : wOk w) {m : Nat} (hM : shM w m) (c s : Int32) (h : xI) (g : xJ)  : Ct l w yX8_stony cX8_stony 4 (some .int) 2 45 [.ref (wA w (m)), .int (c), .int (s)] h g (pif ((0 ≤ c.toInt ∧ c.toInt < 25) ∧ (0 ≤ s.toInt ∧ s.toInt < 5)) (px (some (.int (h (m + 1) (31 + c.toInt.toNat)))) (u2 (u2 h (m + 1) (31 + c.toInt.toNat) s) (m + 1) 2 (nI 0)) g) (px (some (.int (-2 : Int32))) (rfH h m 0) g)) := by
  refine Ct_of (ls := [some (.ref (wA w (m))), some (.int (c)), some (.int (s)), none]) (by decide) hw (Nat.le_of_ble_eq_true rfl) rfl (fun k hkl C => ?_)
  have C : Cx k w cX8_stony RX8 4 (some .int) 2 45 := C
  have D := dtX8_stony
  subst hkl
  have hM0 := hM
  obtain ⟨hm, hsm, hs1, hs2, hs3, hs4, hs5, hs6, hs7, hs8, hs9, hs10, hs11⟩ := hM
  have hM := hM0
  refine X_iload_n C 1 (D (0, .iload_n 1, 1) (mg 0 rfl)) rfl rfl ?_
  refine X_cS (As := [.int (c)]) (st := []) C (post := _) (ct_X8_isCell hw (c) h g) kX8_72 (by decide) (by decide) rfl rfl (Nat.le_of_ble_eq_true rfl) (D (1, .invokestatic 72, 3) (mg 1 rfl)) rfl (fun v3 H1 G2 hv3 => ?_)
  obtain ⟨rfl, rfl, rfl⟩ := hv3
  show X k w _ 4 [some (.ref (wA w (m))), some (.int (c)), some (.int (s)), none] [.int (if 0 ≤ (c).toInt ∧ (c).toInt < 25 then 1 else 0)] h g
  refine X_if_eq (tgt := 14) C (D (4, .ifCond .eq 10, 3) (mg 2 rfl)) (by decide) (fun q4 => ?_) (fun q4 => ?_)
  · skip
    have q4 : ¬ (0 ≤ (c).toInt ∧ (c).toInt < 25) := bz0.mp q4
    refine X_aload_n C 0 (D (14, .aload_n 0, 1) (mg 6 rfl)) rfl rfl ?_
    refine X_bipush (v := (-2 : Int32)) C (D (15, .bipush (-2), 2) (mg 7 rfl)) (by decide) ?_
    refine X_cV (As := [.int ((-2 : Int32))]) (st := []) C (post := _) (m) (by omega) hsm rfl (ct_X8_bad hw hM ((-2 : Int32)) h g) kX8_75 (by decide) (by decide) rfl rfl (Nat.le_of_ble_eq_true rfl) (D (17, .invokevirtual 75, 3) (mg 8 rfl)) rfl (fun v7 H5 G6 hv7 => ?_)
    obtain ⟨rfl, rfl, rfl⟩ := hv7
    show X k w _ 20 [some (.ref (wA w (m))), some (.int (c)), some (.int (s)), none] [.int ((-2 : Int32))] (rfH h m 0) g
    exact X_iret C (D (20, .ireturn, 1) (mg 9 rfl)) ⟨fun z => absurd z (by omega), fun _ => ⟨rfl, rfl, rfl⟩⟩
  · skip
    have q4 : (0 ≤ (c).toInt ∧ (c).toInt < 25) := bz1.mp q4
    obtain ⟨j, hj, rfl⟩ := nI_i (n := 25) q4.1 (by omega)
    refine X_iload_n C 2 (D (7, .iload_n 2, 1) (mg 3 rfl)) rfl rfl ?_
    refine X_cS (As := [.int (s)]) (st := []) C (post := _) (ct_X8_isStony hw (s) h g) kX8_83 (by decide) (by decide) rfl rfl (Nat.le_of_ble_eq_true rfl) (D (8, .invokestatic 83, 3) (mg 4 rfl)) rfl (fun v10 H8 G9 hv10 => ?_)
    obtain ⟨rfl, rfl, rfl⟩ := hv10
    show X k w _ 11 [some (.ref (wA w (m))), some (.int (nI (j))), some (.int (s)), none] [.int (if 0 ≤ (s).toInt ∧ (s).toInt < 5 then 1 else 0)] h g
    refine X_if_ne (tgt := 21) C (D (11, .ifCond .ne 10, 3) (mg 5 rfl)) (by decide) (fun q11 => ?_) (fun q11 => ?_)
    · skip
      have q11 : (0 ≤ (s).toInt ∧ (s).toInt < 5) := bz1.mp q11
      refine X_aload_n C 0 (D (21, .aload_n 0, 1) (mg 10 rfl)) rfl rfl ?_
      refine X_get (v := .ref (wA w (m + 1))) C (m) 0 (by omega) hsm rfl rfl (by decide) inX8 fX8_7 rfl (D (22, .getfield 7, 3) (mg 11 rfl)) rfl ?_
      refine X_bipush (v := nI (31)) C (D (25, .bipush 31, 2) (mg 12 rfl)) (by decide) ?_
      refine X_iload_n C 1 (D (27, .iload_n 1, 1) (mg 13 rfl)) rfl rfl ?_
      refine X_iadd C (D (28, .iadd, 1) (mg 14 rfl)) ?_
      refine X_ti (y := nI (31 + j)) (nI_add (31) (j)) ?_
      refine X_iald (v := h (m + 1) (31 + j)) C (m + 1) (by omega) hs1 (vp_in_nI (by omega) (by omega)) (D (29, .iaload, 1) (mg 15 rfl)) (by rw [nI_clamp (by omega)]) ?_
      refine X_istore_n (ls' := [some (.ref (wA w (m))), some (.int (nI (j))), some (.int (s)), some (.int (h (m + 1) (31 + j)))]) C 3 (D (30, .istore_n 3, 1) (mg 16 rfl)) rfl (Nat.le_of_ble_eq_true rfl) rfl ?_
      refine X_aload_n C 0 (D (31, .aload_n 0, 1) (mg 17 rfl)) rfl rfl ?_
      refine X_get (v := .ref (wA w (m + 1))) C (m) 0 (by omega) hsm rfl rfl (by decide) inX8 fX8_7 rfl (D (32, .getfield 7, 3) (mg 18 rfl)) rfl ?_
      refine X_bipush (v := nI (31)) C (D (35, .bipush 31, 2) (mg 19 rfl)) (by decide) ?_
      refine X_iload_n C 1 (D (37, .iload_n 1, 1) (mg 20 rfl)) rfl rfl ?_
      refine X_iadd C (D (38, .iadd, 1) (mg 21 rfl)) ?_
      refine X_ti (y := nI (31 + j)) (nI_add (31) (j)) ?_
      refine X_iload_n C 2 (D (39, .iload_n 2, 1) (mg 22 rfl)) rfl rfl ?_
      refine X_iast (j := 31 + j) C (m + 1) (by omega) hs1 (vp_in_nI (by omega) (by omega)) (D (40, .iastore, 1) (mg 23 rfl)) (nI_clamp (by omega)) ?_
      refine X_aload_n C 0 (D (41, .aload_n 0, 1) (mg 24 rfl)) rfl rfl ?_
      refine X_get (v := .ref (wA w (m + 1))) C (m) 0 (by omega) hsm rfl rfl (by decide) inX8 fX8_7 rfl (D (42, .getfield 7, 3) (mg 25 rfl)) rfl ?_
      refine X_iconst (v := nI (2)) C (D (45, .iconst 2, 1) (mg 26 rfl)) (by decide) ?_
      refine X_iconst (v := nI (0)) C (D (46, .iconst 0, 1) (mg 27 rfl)) (by decide) ?_
      refine X_iast (j := 2) C (m + 1) (by omega) hs1 (vp_in_nI (by omega) (by omega)) (D (47, .iastore, 1) (mg 28 rfl)) (nI_clamp (by omega)) ?_
      refine X_iload_n C 3 (D (48, .iload_n 3, 1) (mg 29 rfl)) rfl rfl ?_
      exact X_iret C (D (49, .ireturn, 1) (mg 30 rfl)) ⟨fun _ => ⟨by rw [nI_toInt (by omega), Int.toNat_natCast], by rw [nI_toInt (by omega), Int.toNat_natCast], rfl⟩, fun z => absurd (by omega) z⟩
    · skip
      have q11 : ¬ (0 ≤ (s).toInt ∧ (s).toInt < 5) := bz0.mp q11
      refine X_aload_n C 0 (D (14, .aload_n 0, 1) (mg 6 rfl)) rfl rfl ?_
      refine X_bipush (v := (-2 : Int32)) C (D (15, .bipush (-2), 2) (mg 7 rfl)) (by decide) ?_
      refine X_cV (As := [.int ((-2 : Int32))]) (st := []) C (post := _) (m) (by omega) hsm rfl (ct_X8_bad hw hM ((-2 : Int32)) h g) kX8_75 (by decide) (by decide) rfl rfl (Nat.le_of_ble_eq_true rfl) (D (17, .invokevirtual 75, 3) (mg 8 rfl)) rfl (fun v14 H12 G13 hv14 => ?_)
      obtain ⟨rfl, rfl, rfl⟩ := hv14
      show X k w _ 20 [some (.ref (wA w (m))), some (.int (nI (j))), some (.int (s)), none] [.int ((-2 : Int32))] (rfH h m 0) g
      exact X_iret C (D (20, .ireturn, 1) (mg 9 rfl)) ⟨fun z => absurd z (by omega), fun _ => ⟨rfl, rfl, rfl⟩⟩
set_option maxHeartbeats 4000000 in
set_option maxRecDepth 100000 in
theorem ct_X8_clear {l : Launch} {w : Kw} (hw : wOk w) {m : Nat} (hM : shM w m) (h : xI) (g : xJ)  : Ct l w yX8_clear cX8_clear 2 (some .int) 0 0 [.ref (wA w (m))] h g (px (some (.int (h m 11))) (u2 h m 11 (nI 0)) g) := by
  refine Ct_of (ls := [some (.ref (wA w (m))), none]) (by decide) hw (Nat.le_of_ble_eq_true rfl) rfl (fun k hkl C => ?_)
  have C : Cx k w cX8_clear RX8 2 (some .int) 0 0 := C
  have D := dtX8_clear
  subst hkl
  have hM0 := hM
  obtain ⟨hm, hsm, hs1, hs2, hs3, hs4, hs5, hs6, hs7, hs8, hs9, hs10, hs11⟩ := hM
  have hM := hM0
  refine X_aload_n C 0 (D (0, .aload_n 0, 1) (mg 0 rfl)) rfl rfl ?_
  refine X_get (v := .int (h (m) 11)) C (m) 11 (by omega) hsm rfl rfl (by decide) inX8 fX8_238 rfl (D (1, .getfield 238, 3) (mg 1 rfl)) rfl ?_
  refine X_istore_n (ls' := [some (.ref (wA w (m))), some (.int (h (m) 11))]) C 1 (D (4, .istore_n 1, 1) (mg 2 rfl)) rfl (Nat.le_of_ble_eq_true rfl) rfl ?_
  refine X_aload_n C 0 (D (5, .aload_n 0, 1) (mg 3 rfl)) rfl rfl ?_
  refine X_iconst (v := nI (0)) C (D (6, .iconst 0, 1) (mg 4 rfl)) (by decide) ?_
  refine X_putI C (m) 11 tyX8 tyX8_ok nmX8 (by omega) hsm rfl rfl (by decide) inX8 fX8_238 rfl rfl (by decide +kernel) (D (7, .putfield 238, 3) (mg 5 rfl)) ?_
  refine X_iload_n C 1 (D (10, .iload_n 1, 1) (mg 6 rfl)) rfl rfl ?_
  exact X_iret C (D (11, .ireturn, 1) (mg 7 rfl)) ⟨rfl, rfl, rfl⟩
set_option maxHeartbeats 4000000 in
set_option maxRecDepth 100000 in
theorem ct_X8_type {l : Launch} {w : Kw} (hw : wOk w) {m : Nat} (hM : shM w m) (c : Int32) {n : Nat} (hn : n ≤ 150) (h : xI) (g : xJ) (hb : h m 11 = nI n) : Ct l w yX8_type cX8_type 2 (some .int) 1 25 [.ref (wA w (m)), .int (c)] h g (pif (0 ≤ c.toInt ∧ c.toInt ≤ 127) (pif (n = 150) (px (some (.int (-4 : Int32))) (rfH h m 2) g) (px (some (.int (nI (n + 1)))) (u2 (u2 h (m + 9) n c) m 11 (nI (n + 1))) g)) (px (some (.int (-2 : Int32))) (rfH h m 0) g)) := by
  refine Ct_of (ls := [some (.ref (wA w (m))), some (.int (c))]) (by decide) hw (Nat.le_of_ble_eq_true rfl) rfl (fun k hkl C => ?_)
  have C : Cx k w cX8_type RX8 2 (some .int) 1 25 := C
  have D := dtX8_type
  subst hkl
  have hM0 := hM
  obtain ⟨hm, hsm, hs1, hs2, hs3, hs4, hs5, hs6, hs7, hs8, hs9, hs10, hs11⟩ := hM
  have hM := hM0
  refine X_iload_n C 1 (D (0, .iload_n 1, 1) (mg 0 rfl)) rfl rfl ?_
  refine X_i2l C (D (1, .i2l, 1) (mg 1 rfl)) ?_
  refine X_lconst (v := lN 0) C (D (2, .lconst 0, 1) (mg 2 rfl)) (by decide) ?_
  refine X_ldc2 C (D (3, .ldc2_w 236, 3) (mg 3 rfl)) vX8_236 ?_
  refine X_cS (As := [.long ((c).toInt64), .long (lN 0), .long ((127 : Int64))]) (st := []) C (post := _) (ct_X8_in hw ((c).toInt64) (lN 0) ((127 : Int64)) h g) kX8_54 (by decide) (by decide) rfl rfl (Nat.le_of_ble_eq_true rfl) (D (6, .invokestatic 54, 3) (mg 4 rfl)) rfl (fun v3 H1 G2 hv3 => ?_)
  obtain ⟨rfl, rfl, rfl⟩ := hv3
  show X k w _ 9 [some (.ref (wA w (m))), some (.int (c))] [.int (if (lN 0).toInt ≤ ((c).toInt64).toInt ∧ ((c).toInt64).toInt ≤ ((127 : Int64)).toInt then 1 else 0)] h g
  refine X_if_ne (tgt := 19) C (D (9, .ifCond .ne 10, 3) (mg 5 rfl)) (by decide) (fun q4 => ?_) (fun q4 => ?_)
  · skip
    have q4 : ((lN 0).toInt ≤ ((c).toInt64).toInt ∧ ((c).toInt64).toInt ≤ ((127 : Int64)).toInt) := bz1.mp q4
    simp only [i6, show (lN 0).toInt = 0 from by decide, show (127 : Int64).toInt = 127 from by decide] at q4
    refine X_aload_n C 0 (D (19, .aload_n 0, 1) (mg 10 rfl)) rfl rfl ?_
    refine X_get (v := .int (h (m) 11)) C (m) 11 (by omega) hsm rfl rfl (by decide) inX8 fX8_238 rfl (D (20, .getfield 238, 3) (mg 11 rfl)) rfl ?_
    refine X_ti (y := nI (n)) hb ?_
    refine X_sipush (v := nI (150)) C (D (23, .sipush 150, 3) (mg 12 rfl)) (by decide) ?_
    refine X_icmp_ne (tgt := 34) C (D (26, .if_icmp .ne 8, 3) (mg 13 rfl)) (by decide) (fun q5 => ?_) (fun q5 => ?_)
    · skip
      have q5 : (n) ≠ (150) := by have z : ¬ ((n) = (150)) := fun u => q5 ((nI_eq (a := (n)) (b := (150)) (by omega) (by omega)).mpr u); omega
      refine X_aload_n C 0 (D (34, .aload_n 0, 1) (mg 17 rfl)) rfl rfl ?_
      refine X_get (v := .ref (wA w (m + 9))) C (m) 10 (by omega) hsm rfl rfl (by decide) inX8 fX8_39 rfl (D (35, .getfield 39, 3) (mg 18 rfl)) rfl ?_
      refine X_aload_n C 0 (D (38, .aload_n 0, 1) (mg 19 rfl)) rfl rfl ?_
      refine X_get (v := .int (h (m) 11)) C (m) 11 (by omega) hsm rfl rfl (by decide) inX8 fX8_238 rfl (D (39, .getfield 238, 3) (mg 20 rfl)) rfl ?_
      refine X_ti (y := nI (n)) hb ?_
      refine X_iload_n C 1 (D (42, .iload_n 1, 1) (mg 21 rfl)) rfl rfl ?_
      refine X_iast (j := n) C (m + 9) (by omega) hs9 (vp_in_nI (by omega) (by omega)) (D (43, .iastore, 1) (mg 22 rfl)) (nI_clamp (by omega)) ?_
      refine X_aload_n C 0 (D (44, .aload_n 0, 1) (mg 23 rfl)) rfl rfl ?_
      refine X_dup C (D (45, .dup, 1) (mg 24 rfl)) rfl ?_
      refine X_get (v := .int ((u2 h (m + 9) (n) (c)) (m) 11)) C (m) 11 (by omega) hsm rfl rfl (by decide) inX8 fX8_238 rfl (D (46, .getfield 238, 3) (mg 25 rfl)) rfl ?_
      refine X_ti (y := nI (n)) (by rw [u2_p _ _ _ _ (by omega)]; exact hb) ?_
      refine X_iconst (v := nI (1)) C (D (49, .iconst 1, 1) (mg 26 rfl)) (by decide) ?_
      refine X_iadd C (D (50, .iadd, 1) (mg 27 rfl)) ?_
      refine X_ti (y := nI (n + 1)) (nI_add (n) (1)) ?_
      refine X_putI C (m) 11 tyX8 tyX8_ok nmX8 (by omega) hsm rfl rfl (by decide) inX8 fX8_238 rfl rfl (by decide +kernel) (D (51, .putfield 238, 3) (mg 28 rfl)) ?_
      refine X_aload_n C 0 (D (54, .aload_n 0, 1) (mg 29 rfl)) rfl rfl ?_
      refine X_get (v := .int ((u2 (u2 h (m + 9) (n) (c)) (m) 11 (nI (n + 1))) (m) 11)) C (m) 11 (by omega) hsm rfl rfl (by decide) inX8 fX8_238 rfl (D (55, .getfield 238, 3) (mg 30 rfl)) rfl ?_
      refine X_ti (y := nI (n + 1)) (u2_s _ _ _ _) ?_
      exact X_iret C (D (58, .ireturn, 1) (mg 31 rfl)) ⟨fun _ => ⟨fun z => absurd z (by omega), fun _ => ⟨rfl, rfl, rfl⟩⟩, fun z => absurd (by omega) z⟩
    · skip
      have q5 : (n) = (150) := by have z := (nI_eq (a := (n)) (b := (150)) (by omega) (by omega)).mp q5; omega
      refine X_aload_n C 0 (D (29, .aload_n 0, 1) (mg 14 rfl)) rfl rfl ?_
      refine X_cV (As := []) (st := []) C (post := _) (m) (by omega) hsm rfl (ct_X8_full hw hM h g) kX8_185 (by decide) (by decide) rfl rfl (Nat.le_of_ble_eq_true rfl) (D (30, .invokevirtual 185, 3) (mg 15 rfl)) rfl (fun v8 H6 G7 hv8 => ?_)
      obtain ⟨rfl, rfl, rfl⟩ := hv8
      show X k w _ 33 [some (.ref (wA w (m))), some (.int (c))] [.int ((-4 : Int32))] (rfH h m 2) g
      exact X_iret C (D (33, .ireturn, 1) (mg 16 rfl)) ⟨fun _ => ⟨fun _ => ⟨rfl, rfl, rfl⟩, fun z => absurd (by omega) z⟩, fun z => absurd (by omega) z⟩
  · skip
    have q4 : ¬ ((lN 0).toInt ≤ ((c).toInt64).toInt ∧ ((c).toInt64).toInt ≤ ((127 : Int64)).toInt) := bz0.mp q4
    simp only [i6, show (lN 0).toInt = 0 from by decide, show (127 : Int64).toInt = 127 from by decide] at q4
    refine X_aload_n C 0 (D (12, .aload_n 0, 1) (mg 6 rfl)) rfl rfl ?_
    refine X_bipush (v := (-2 : Int32)) C (D (13, .bipush (-2), 2) (mg 7 rfl)) (by decide) ?_
    refine X_cV (As := [.int ((-2 : Int32))]) (st := []) C (post := _) (m) (by omega) hsm rfl (ct_X8_bad hw hM ((-2 : Int32)) h g) kX8_75 (by decide) (by decide) rfl rfl (Nat.le_of_ble_eq_true rfl) (D (15, .invokevirtual 75, 3) (mg 8 rfl)) rfl (fun v11 H9 G10 hv11 => ?_)
    obtain ⟨rfl, rfl, rfl⟩ := hv11
    show X k w _ 18 [some (.ref (wA w (m))), some (.int (c))] [.int ((-2 : Int32))] (rfH h m 0) g
    exact X_iret C (D (18, .ireturn, 1) (mg 9 rfl)) ⟨fun z => absurd z (by omega), fun _ => ⟨rfl, rfl, rfl⟩⟩
set_option maxHeartbeats 4000000 in
set_option maxRecDepth 100000 in
theorem ct_X8_status {l : Launch} {w : Kw} (hw : wOk w) {m : Nat} (hM : shM w m) (x : Int32) (h : xI) (g : xJ)  : Ct l w yX8_status cX8_status 2 (some .int) 1 25 [.ref (wA w (m)), .int (x)] h g (pif (0 ≤ x.toInt ∧ x.toInt ≤ 2) (px (some (.int (h (m + 4) x.toInt.toNat))) h g) (px (some (.int (-1 : Int32))) (rfH h m 0) g)) := by
  refine Ct_of (ls := [some (.ref (wA w (m))), some (.int (x))]) (by decide) hw (Nat.le_of_ble_eq_true rfl) rfl (fun k hkl C => ?_)
  have C : Cx k w cX8_status RX8 2 (some .int) 1 25 := C
  have D := dtX8_status
  subst hkl
  have hM0 := hM
  obtain ⟨hm, hsm, hs1, hs2, hs3, hs4, hs5, hs6, hs7, hs8, hs9, hs10, hs11⟩ := hM
  have hM := hM0
  refine X_iload_n C 1 (D (0, .iload_n 1, 1) (mg 0 rfl)) rfl rfl ?_
  refine X_i2l C (D (1, .i2l, 1) (mg 1 rfl)) ?_
  refine X_lconst (v := lN 0) C (D (2, .lconst 0, 1) (mg 2 rfl)) (by decide) ?_
  refine X_ldc2 C (D (3, .ldc2_w 297, 3) (mg 3 rfl)) vX8_297 ?_
  refine X_cS (As := [.long ((x).toInt64), .long (lN 0), .long ((2 : Int64))]) (st := []) C (post := _) (ct_X8_in hw ((x).toInt64) (lN 0) ((2 : Int64)) h g) kX8_54 (by decide) (by decide) rfl rfl (Nat.le_of_ble_eq_true rfl) (D (6, .invokestatic 54, 3) (mg 4 rfl)) rfl (fun v3 H1 G2 hv3 => ?_)
  obtain ⟨rfl, rfl, rfl⟩ := hv3
  show X k w _ 9 [some (.ref (wA w (m))), some (.int (x))] [.int (if (lN 0).toInt ≤ ((x).toInt64).toInt ∧ ((x).toInt64).toInt ≤ ((2 : Int64)).toInt then 1 else 0)] h g
  refine X_if_eq (tgt := 21) C (D (9, .ifCond .eq 12, 3) (mg 5 rfl)) (by decide) (fun q4 => ?_) (fun q4 => ?_)
  · skip
    have q4 : ¬ ((lN 0).toInt ≤ ((x).toInt64).toInt ∧ ((x).toInt64).toInt ≤ ((2 : Int64)).toInt) := bz0.mp q4
    simp only [i6, show (lN 0).toInt = 0 from by decide, show (2 : Int64).toInt = 2 from by decide] at q4
    refine X_aload_n C 0 (D (21, .aload_n 0, 1) (mg 11 rfl)) rfl rfl ?_
    refine X_iconst (v := (-1 : Int32)) C (D (22, .iconst (-1), 1) (mg 12 rfl)) (by decide) ?_
    refine X_cV (As := [.int ((-1 : Int32))]) (st := []) C (post := _) (m) (by omega) hsm rfl (ct_X8_bad hw hM ((-1 : Int32)) h g) kX8_75 (by decide) (by decide) rfl rfl (Nat.le_of_ble_eq_true rfl) (D (23, .invokevirtual 75, 3) (mg 13 rfl)) rfl (fun v7 H5 G6 hv7 => ?_)
    obtain ⟨rfl, rfl, rfl⟩ := hv7
    show X k w _ 26 [some (.ref (wA w (m))), some (.int (x))] [.int ((-1 : Int32))] (rfH h m 0) g
    exact X_iret C (D (26, .ireturn, 1) (mg 14 rfl)) ⟨fun z => absurd z (by omega), fun _ => ⟨rfl, rfl, rfl⟩⟩
  · skip
    have q4 : ((lN 0).toInt ≤ ((x).toInt64).toInt ∧ ((x).toInt64).toInt ≤ ((2 : Int64)).toInt) := bz1.mp q4
    simp only [i6, show (lN 0).toInt = 0 from by decide, show (2 : Int64).toInt = 2 from by decide] at q4
    obtain ⟨j, hj, rfl⟩ := nI_i (n := 3) q4.1 (by omega)
    refine X_aload_n C 0 (D (12, .aload_n 0, 1) (mg 6 rfl)) rfl rfl ?_
    refine X_get (v := .ref (wA w (m + 4))) C (m) 3 (by omega) hsm rfl rfl (by decide) inX8 fX8_20 rfl (D (13, .getfield 20, 3) (mg 7 rfl)) rfl ?_
    refine X_iload_n C 1 (D (16, .iload_n 1, 1) (mg 8 rfl)) rfl rfl ?_
    refine X_iald (v := h (m + 4) (j)) C (m + 4) (by omega) hs4 (vp_in_nI (by omega) (by omega)) (D (17, .iaload, 1) (mg 9 rfl)) (by rw [nI_clamp (by omega)]) ?_
    refine X_goto (tgt := 26) C (D (18, .goto 8, 3) (mg 10 rfl)) (by decide) ?_
    exact X_iret C (D (26, .ireturn, 1) (mg 14 rfl)) ⟨fun _ => ⟨by rw [nI_toInt (by omega), Int.toNat_natCast], rfl, rfl⟩, fun z => absurd (by omega) z⟩
set_option maxHeartbeats 4000000 in
set_option maxRecDepth 100000 in
theorem ct_X8_forget {l : Launch} {w : Kw} (hw : wOk w) {m : Nat} (hM : shM w m) (x : Int32) (h : xI) (g : xJ)  : Ct l w yX8_forget cX8_forget 3 (some .int) 1 25 [.ref (wA w (m)), .int (x)] h g (pif (0 ≤ x.toInt ∧ x.toInt ≤ 1) (px (some (.int (h (m + 1) (0 + x.toInt.toNat)))) (u2 h (m + 1) (0 + x.toInt.toNat) (nI 0)) g) (px (some (.int (-2 : Int32))) (rfH h m 0) g)) := by
  refine Ct_of (ls := [some (.ref (wA w (m))), some (.int (x)), none]) (by decide) hw (Nat.le_of_ble_eq_true rfl) rfl (fun k hkl C => ?_)
  have C : Cx k w cX8_forget RX8 3 (some .int) 1 25 := C
  have D := dtX8_forget
  subst hkl
  have hM0 := hM
  obtain ⟨hm, hsm, hs1, hs2, hs3, hs4, hs5, hs6, hs7, hs8, hs9, hs10, hs11⟩ := hM
  have hM := hM0
  refine X_iload_n C 1 (D (0, .iload_n 1, 1) (mg 0 rfl)) rfl rfl ?_
  refine X_i2l C (D (1, .i2l, 1) (mg 1 rfl)) ?_
  refine X_lconst (v := lN 0) C (D (2, .lconst 0, 1) (mg 2 rfl)) (by decide) ?_
  refine X_lconst (v := lN 1) C (D (3, .lconst 1, 1) (mg 3 rfl)) (by decide) ?_
  refine X_cS (As := [.long ((x).toInt64), .long (lN 0), .long (lN 1)]) (st := []) C (post := _) (ct_X8_in hw ((x).toInt64) (lN 0) (lN 1) h g) kX8_54 (by decide) (by decide) rfl rfl (Nat.le_of_ble_eq_true rfl) (D (4, .invokestatic 54, 3) (mg 4 rfl)) rfl (fun v3 H1 G2 hv3 => ?_)
  obtain ⟨rfl, rfl, rfl⟩ := hv3
  show X k w _ 7 [some (.ref (wA w (m))), some (.int (x)), none] [.int (if (lN 0).toInt ≤ ((x).toInt64).toInt ∧ ((x).toInt64).toInt ≤ (lN 1).toInt then 1 else 0)] h g
  refine X_if_ne (tgt := 17) C (D (7, .ifCond .ne 10, 3) (mg 5 rfl)) (by decide) (fun q4 => ?_) (fun q4 => ?_)
  · skip
    have q4 : ((lN 0).toInt ≤ ((x).toInt64).toInt ∧ ((x).toInt64).toInt ≤ (lN 1).toInt) := bz1.mp q4
    simp only [i6, show (lN 0).toInt = 0 from by decide, show (lN 1).toInt = 1 from by decide] at q4
    obtain ⟨j, hj, rfl⟩ := nI_i (n := 2) q4.1 (by omega)
    refine X_aload_n C 0 (D (17, .aload_n 0, 1) (mg 10 rfl)) rfl rfl ?_
    refine X_get (v := .ref (wA w (m + 1))) C (m) 0 (by omega) hsm rfl rfl (by decide) inX8 fX8_7 rfl (D (18, .getfield 7, 3) (mg 11 rfl)) rfl ?_
    refine X_iconst (v := nI (0)) C (D (21, .iconst 0, 1) (mg 12 rfl)) (by decide) ?_
    refine X_iload_n C 1 (D (22, .iload_n 1, 1) (mg 13 rfl)) rfl rfl ?_
    refine X_iadd C (D (23, .iadd, 1) (mg 14 rfl)) ?_
    refine X_ti (y := nI (0 + j)) (nI_add (0) (j)) ?_
    refine X_iald (v := h (m + 1) (0 + j)) C (m + 1) (by omega) hs1 (vp_in_nI (by omega) (by omega)) (D (24, .iaload, 1) (mg 15 rfl)) (by rw [nI_clamp (by omega)]) ?_
    refine X_istore_n (ls' := [some (.ref (wA w (m))), some (.int (nI (j))), some (.int (h (m + 1) (0 + j)))]) C 2 (D (25, .istore_n 2, 1) (mg 16 rfl)) rfl (Nat.le_of_ble_eq_true rfl) rfl ?_
    refine X_aload_n C 0 (D (26, .aload_n 0, 1) (mg 17 rfl)) rfl rfl ?_
    refine X_get (v := .ref (wA w (m + 1))) C (m) 0 (by omega) hsm rfl rfl (by decide) inX8 fX8_7 rfl (D (27, .getfield 7, 3) (mg 18 rfl)) rfl ?_
    refine X_iconst (v := nI (0)) C (D (30, .iconst 0, 1) (mg 19 rfl)) (by decide) ?_
    refine X_iload_n C 1 (D (31, .iload_n 1, 1) (mg 20 rfl)) rfl rfl ?_
    refine X_iadd C (D (32, .iadd, 1) (mg 21 rfl)) ?_
    refine X_ti (y := nI (0 + j)) (nI_add (0) (j)) ?_
    refine X_iconst (v := nI (0)) C (D (33, .iconst 0, 1) (mg 22 rfl)) (by decide) ?_
    refine X_iast (j := 0 + j) C (m + 1) (by omega) hs1 (vp_in_nI (by omega) (by omega)) (D (34, .iastore, 1) (mg 23 rfl)) (nI_clamp (by omega)) ?_
    refine X_iload_n C 2 (D (35, .iload_n 2, 1) (mg 24 rfl)) rfl rfl ?_
    exact X_iret C (D (36, .ireturn, 1) (mg 25 rfl)) ⟨fun _ => ⟨by rw [nI_toInt (by omega), Int.toNat_natCast], by rw [nI_toInt (by omega), Int.toNat_natCast], rfl⟩, fun z => absurd (by omega) z⟩
  · skip
    have q4 : ¬ ((lN 0).toInt ≤ ((x).toInt64).toInt ∧ ((x).toInt64).toInt ≤ (lN 1).toInt) := bz0.mp q4
    simp only [i6, show (lN 0).toInt = 0 from by decide, show (lN 1).toInt = 1 from by decide] at q4
    refine X_aload_n C 0 (D (10, .aload_n 0, 1) (mg 6 rfl)) rfl rfl ?_
    refine X_bipush (v := (-2 : Int32)) C (D (11, .bipush (-2), 2) (mg 7 rfl)) (by decide) ?_
    refine X_cV (As := [.int ((-2 : Int32))]) (st := []) C (post := _) (m) (by omega) hsm rfl (ct_X8_bad hw hM ((-2 : Int32)) h g) kX8_75 (by decide) (by decide) rfl rfl (Nat.le_of_ble_eq_true rfl) (D (13, .invokevirtual 75, 3) (mg 8 rfl)) rfl (fun v7 H5 G6 hv7 => ?_)
    obtain ⟨rfl, rfl, rfl⟩ := hv7
    show X k w _ 16 [some (.ref (wA w (m))), some (.int (x)), none] [.int ((-2 : Int32))] (rfH h m 0) g
    exact X_iret C (D (16, .ireturn, 1) (mg 9 rfl)) ⟨fun z => absurd z (by omega), fun _ => ⟨rfl, rfl, rfl⟩⟩
set_option maxHeartbeats 4000000 in
set_option maxRecDepth 100000 in
theorem ct_X8_part {l : Launch} {w : Kw} (hw : wOk w) {m : Nat} (hM : shM w m) (x : Int32) (h : xI) (g : xJ)  : Ct l w yX8_part cX8_part 2 (some .long) 1 21 [.ref (wA w (m)), .int (x)] h g (pif (x = 0) (px (some (.long (g m 4))) h g) (pif (x = nI 1) (px (some (.long (g m 5))) h g) (px (some (.long ((-2 : Int32).toInt64))) (rfH h m 0) g))) := by
  refine Ct_of (ls := [some (.ref (wA w (m))), some (.int (x))]) (by decide) hw (Nat.le_of_ble_eq_true rfl) rfl (fun k hkl C => ?_)
  have C : Cx k w cX8_part RX8 2 (some .long) 1 21 := C
  have D := dtX8_part
  subst hkl
  have hM0 := hM
  obtain ⟨hm, hsm, hs1, hs2, hs3, hs4, hs5, hs6, hs7, hs8, hs9, hs10, hs11⟩ := hM
  have hM := hM0
  refine X_iload_n C 1 (D (0, .iload_n 1, 1) (mg 0 rfl)) rfl rfl ?_
  refine X_if_ne (tgt := 11) C (D (1, .ifCond .ne 10, 3) (mg 1 rfl)) (by decide) (fun q1 => ?_) (fun q1 => ?_)
  · skip
    refine X_iload_n C 1 (D (11, .iload_n 1, 1) (mg 5 rfl)) rfl rfl ?_
    refine X_iconst (v := nI (1)) C (D (12, .iconst 1, 1) (mg 6 rfl)) (by decide) ?_
    refine X_icmp_ne (tgt := 23) C (D (13, .if_icmp .ne 10, 3) (mg 7 rfl)) (by decide) (fun q2 => ?_) (fun q2 => ?_)
    · skip
      refine X_aload_n C 0 (D (23, .aload_n 0, 1) (mg 11 rfl)) rfl rfl ?_
      refine X_bipush (v := (-2 : Int32)) C (D (24, .bipush (-2), 2) (mg 12 rfl)) (by decide) ?_
      refine X_cV (As := [.int ((-2 : Int32))]) (st := []) C (post := _) (m) (by omega) hsm rfl (ct_X8_bad hw hM ((-2 : Int32)) h g) kX8_75 (by decide) (by decide) rfl rfl (Nat.le_of_ble_eq_true rfl) (D (26, .invokevirtual 75, 3) (mg 13 rfl)) rfl (fun v5 H3 G4 hv5 => ?_)
      obtain ⟨rfl, rfl, rfl⟩ := hv5
      show X k w _ 29 [some (.ref (wA w (m))), some (.int (x))] [.int ((-2 : Int32))] (rfH h m 0) g
      refine X_i2l C (D (29, .i2l, 1) (mg 14 rfl)) ?_
      exact X_lret C (D (30, .lreturn, 1) (mg 15 rfl)) ⟨fun z => absurd z (by assumption), fun _ => ⟨fun z => absurd z (by assumption), fun _ => ⟨rfl, rfl, rfl⟩⟩⟩
    · skip
      refine X_aload_n C 0 (D (16, .aload_n 0, 1) (mg 8 rfl)) rfl rfl ?_
      refine X_get (v := .long (g (m) 5)) C (m) 5 (by omega) hsm rfl rfl (by decide) inX8 fX8_23 rfl (D (17, .getfield 23, 3) (mg 9 rfl)) rfl ?_
      refine X_goto (tgt := 30) C (D (20, .goto 10, 3) (mg 10 rfl)) (by decide) ?_
      exact X_lret C (D (30, .lreturn, 1) (mg 15 rfl)) ⟨fun z => absurd z (by assumption), fun _ => ⟨fun _ => ⟨rfl, rfl, rfl⟩, fun z => absurd (by assumption) z⟩⟩
  · skip
    refine X_aload_n C 0 (D (4, .aload_n 0, 1) (mg 2 rfl)) rfl rfl ?_
    refine X_get (v := .long (g (m) 4)) C (m) 4 (by omega) hsm rfl rfl (by decide) inX8 fX8_207 rfl (D (5, .getfield 207, 3) (mg 3 rfl)) rfl ?_
    refine X_goto (tgt := 30) C (D (8, .goto 22, 3) (mg 4 rfl)) (by decide) ?_
    exact X_lret C (D (30, .lreturn, 1) (mg 15 rfl)) ⟨fun _ => ⟨rfl, rfl, rfl⟩, fun z => absurd (by assumption) z⟩
set_option maxHeartbeats 4000000 in
set_option maxRecDepth 100000 in
theorem ct_X8_seen {l : Launch} {w : Kw} (hw : wOk w) {m : Nat} (hM : shM w m) (c d a x : Int32) {n : Nat} (hn : n ≤ 5) (h : xI) (g : xJ) (hb : h (m + 1) 0 = nI n) : Ct l w yX8_seen cX8_seen 6 (some .int) 2 45 [.ref (wA w (m)), .int (c), .int (d), .int (a), .int (x)] h g (pif ((0 ≤ c.toInt ∧ c.toInt < 25) ∧ (0 ≤ d.toInt ∧ d.toInt < 10) ∧ (0 ≤ a.toInt ∧ a.toInt ≤ 99) ∧ (0 ≤ x.toInt ∧ x.toInt ≤ 20)) (pif (n = 5) (px (some (.int (-4 : Int32))) (rfH h m 2) g) (px (some (.int (nI (n + 1)))) (u2 (u2 (u2 (u2 (u2 h (m + 1) (56 + 4 * n) c) (m + 1) (56 + 4 * n + 1) d) (m + 1) (56 + 4 * n + 2) a) (m + 1) (56 + 4 * n + 3) x) (m + 1) 0 (nI (n + 1))) g)) (px (some (.int (-2 : Int32))) (rfH h m 0) g)) := by
  refine Ct_of (ls := [some (.ref (wA w (m))), some (.int (c)), some (.int (d)), some (.int (a)), some (.int (x)), none]) (by decide) hw (Nat.le_of_ble_eq_true rfl) rfl (fun k hkl C => ?_)
  have C : Cx k w cX8_seen RX8 6 (some .int) 2 45 := C
  have D := dtX8_seen
  subst hkl
  have hM0 := hM
  obtain ⟨hm, hsm, hs1, hs2, hs3, hs4, hs5, hs6, hs7, hs8, hs9, hs10, hs11⟩ := hM
  have hM := hM0
  refine X_iload_n C 1 (D (0, .iload_n 1, 1) (mg 0 rfl)) rfl rfl ?_
  refine X_cS (As := [.int (c)]) (st := []) C (post := _) (ct_X8_isCell hw (c) h g) kX8_72 (by decide) (by decide) rfl rfl (Nat.le_of_ble_eq_true rfl) (D (1, .invokestatic 72, 3) (mg 1 rfl)) rfl (fun v3 H1 G2 hv3 => ?_)
  obtain ⟨rfl, rfl, rfl⟩ := hv3
  show X k w _ 4 [some (.ref (wA w (m))), some (.int (c)), some (.int (d)), some (.int (a)), some (.int (x)), none] [.int (if 0 ≤ (c).toInt ∧ (c).toInt < 25 then 1 else 0)] h g
  refine X_if_eq (tgt := 39) C (D (4, .ifCond .eq 35, 3) (mg 2 rfl)) (by decide) (fun q4 => ?_) (fun q4 => ?_)
  · skip
    have q4 : ¬ (0 ≤ (c).toInt ∧ (c).toInt < 25) := bz0.mp q4
    refine X_aload_n C 0 (D (39, .aload_n 0, 1) (mg 18 rfl)) rfl rfl ?_
    refine X_bipush (v := (-2 : Int32)) C (D (40, .bipush (-2), 2) (mg 19 rfl)) (by decide) ?_
    refine X_cV (As := [.int ((-2 : Int32))]) (st := []) C (post := _) (m) (by omega) hsm rfl (ct_X8_bad hw hM ((-2 : Int32)) h g) kX8_75 (by decide) (by decide) rfl rfl (Nat.le_of_ble_eq_true rfl) (D (42, .invokevirtual 75, 3) (mg 20 rfl)) rfl (fun v7 H5 G6 hv7 => ?_)
    obtain ⟨rfl, rfl, rfl⟩ := hv7
    show X k w _ 45 [some (.ref (wA w (m))), some (.int (c)), some (.int (d)), some (.int (a)), some (.int (x)), none] [.int ((-2 : Int32))] (rfH h m 0) g
    exact X_iret C (D (45, .ireturn, 1) (mg 21 rfl)) ⟨fun z => absurd z (by omega), fun _ => ⟨rfl, rfl, rfl⟩⟩
  · skip
    have q4 : (0 ≤ (c).toInt ∧ (c).toInt < 25) := bz1.mp q4
    refine X_iload_n C 2 (D (7, .iload_n 2, 1) (mg 3 rfl)) rfl rfl ?_
    refine X_cS (As := [.int (d)]) (st := []) C (post := _) (ct_X8_isDepth hw (d) h g) kX8_180 (by decide) (by decide) rfl rfl (Nat.le_of_ble_eq_true rfl) (D (8, .invokestatic 180, 3) (mg 4 rfl)) rfl (fun v10 H8 G9 hv10 => ?_)
    obtain ⟨rfl, rfl, rfl⟩ := hv10
    show X k w _ 11 [some (.ref (wA w (m))), some (.int (c)), some (.int (d)), some (.int (a)), some (.int (x)), none] [.int (if 0 ≤ (d).toInt ∧ (d).toInt < 10 then 1 else 0)] h g
    refine X_if_eq (tgt := 39) C (D (11, .ifCond .eq 28, 3) (mg 5 rfl)) (by decide) (fun q11 => ?_) (fun q11 => ?_)
    · skip
      have q11 : ¬ (0 ≤ (d).toInt ∧ (d).toInt < 10) := bz0.mp q11
      refine X_aload_n C 0 (D (39, .aload_n 0, 1) (mg 18 rfl)) rfl rfl ?_
      refine X_bipush (v := (-2 : Int32)) C (D (40, .bipush (-2), 2) (mg 19 rfl)) (by decide) ?_
      refine X_cV (As := [.int ((-2 : Int32))]) (st := []) C (post := _) (m) (by omega) hsm rfl (ct_X8_bad hw hM ((-2 : Int32)) h g) kX8_75 (by decide) (by decide) rfl rfl (Nat.le_of_ble_eq_true rfl) (D (42, .invokevirtual 75, 3) (mg 20 rfl)) rfl (fun v14 H12 G13 hv14 => ?_)
      obtain ⟨rfl, rfl, rfl⟩ := hv14
      show X k w _ 45 [some (.ref (wA w (m))), some (.int (c)), some (.int (d)), some (.int (a)), some (.int (x)), none] [.int ((-2 : Int32))] (rfH h m 0) g
      exact X_iret C (D (45, .ireturn, 1) (mg 21 rfl)) ⟨fun z => absurd z (by omega), fun _ => ⟨rfl, rfl, rfl⟩⟩
    · skip
      have q11 : (0 ≤ (d).toInt ∧ (d).toInt < 10) := bz1.mp q11
      refine X_iload_n C 3 (D (14, .iload_n 3, 1) (mg 6 rfl)) rfl rfl ?_
      refine X_i2l C (D (15, .i2l, 1) (mg 7 rfl)) ?_
      refine X_lconst (v := lN 0) C (D (16, .lconst 0, 1) (mg 8 rfl)) (by decide) ?_
      refine X_ldc2 C (D (17, .ldc2_w 183, 3) (mg 9 rfl)) vX8_183 ?_
      refine X_cS (As := [.long ((a).toInt64), .long (lN 0), .long ((99 : Int64))]) (st := []) C (post := _) (ct_X8_in hw ((a).toInt64) (lN 0) ((99 : Int64)) h g) kX8_54 (by decide) (by decide) rfl rfl (Nat.le_of_ble_eq_true rfl) (D (20, .invokestatic 54, 3) (mg 10 rfl)) rfl (fun v17 H15 G16 hv17 => ?_)
      obtain ⟨rfl, rfl, rfl⟩ := hv17
      show X k w _ 23 [some (.ref (wA w (m))), some (.int (c)), some (.int (d)), some (.int (a)), some (.int (x)), none] [.int (if (lN 0).toInt ≤ ((a).toInt64).toInt ∧ ((a).toInt64).toInt ≤ ((99 : Int64)).toInt then 1 else 0)] h g
      refine X_if_eq (tgt := 39) C (D (23, .ifCond .eq 16, 3) (mg 11 rfl)) (by decide) (fun q18 => ?_) (fun q18 => ?_)
      · skip
        have q18 : ¬ ((lN 0).toInt ≤ ((a).toInt64).toInt ∧ ((a).toInt64).toInt ≤ ((99 : Int64)).toInt) := bz0.mp q18
        simp only [i6, show (lN 0).toInt = 0 from by decide, show (99 : Int64).toInt = 99 from by decide] at q18
        refine X_aload_n C 0 (D (39, .aload_n 0, 1) (mg 18 rfl)) rfl rfl ?_
        refine X_bipush (v := (-2 : Int32)) C (D (40, .bipush (-2), 2) (mg 19 rfl)) (by decide) ?_
        refine X_cV (As := [.int ((-2 : Int32))]) (st := []) C (post := _) (m) (by omega) hsm rfl (ct_X8_bad hw hM ((-2 : Int32)) h g) kX8_75 (by decide) (by decide) rfl rfl (Nat.le_of_ble_eq_true rfl) (D (42, .invokevirtual 75, 3) (mg 20 rfl)) rfl (fun v21 H19 G20 hv21 => ?_)
        obtain ⟨rfl, rfl, rfl⟩ := hv21
        show X k w _ 45 [some (.ref (wA w (m))), some (.int (c)), some (.int (d)), some (.int (a)), some (.int (x)), none] [.int ((-2 : Int32))] (rfH h m 0) g
        exact X_iret C (D (45, .ireturn, 1) (mg 21 rfl)) ⟨fun z => absurd z (by omega), fun _ => ⟨rfl, rfl, rfl⟩⟩
      · skip
        have q18 : ((lN 0).toInt ≤ ((a).toInt64).toInt ∧ ((a).toInt64).toInt ≤ ((99 : Int64)).toInt) := bz1.mp q18
        simp only [i6, show (lN 0).toInt = 0 from by decide, show (99 : Int64).toInt = 99 from by decide] at q18
        refine X_iload C (D (26, .iload 4, 2) (mg 12 rfl)) rfl ?_
        refine X_i2l C (D (28, .i2l, 1) (mg 13 rfl)) ?_
        refine X_lconst (v := lN 0) C (D (29, .lconst 0, 1) (mg 14 rfl)) (by decide) ?_
        refine X_ldc2 C (D (30, .ldc2_w 156, 3) (mg 15 rfl)) vX8_156 ?_
        refine X_cS (As := [.long ((x).toInt64), .long (lN 0), .long ((20 : Int64))]) (st := []) C (post := _) (ct_X8_in hw ((x).toInt64) (lN 0) ((20 : Int64)) h g) kX8_54 (by decide) (by decide) rfl rfl (Nat.le_of_ble_eq_true rfl) (D (33, .invokestatic 54, 3) (mg 16 rfl)) rfl (fun v24 H22 G23 hv24 => ?_)
        obtain ⟨rfl, rfl, rfl⟩ := hv24
        show X k w _ 36 [some (.ref (wA w (m))), some (.int (c)), some (.int (d)), some (.int (a)), some (.int (x)), none] [.int (if (lN 0).toInt ≤ ((x).toInt64).toInt ∧ ((x).toInt64).toInt ≤ ((20 : Int64)).toInt then 1 else 0)] h g
        refine X_if_ne (tgt := 46) C (D (36, .ifCond .ne 10, 3) (mg 17 rfl)) (by decide) (fun q25 => ?_) (fun q25 => ?_)
        · skip
          have q25 : ((lN 0).toInt ≤ ((x).toInt64).toInt ∧ ((x).toInt64).toInt ≤ ((20 : Int64)).toInt) := bz1.mp q25
          simp only [i6, show (lN 0).toInt = 0 from by decide, show (20 : Int64).toInt = 20 from by decide] at q25
          refine X_aload_n C 0 (D (46, .aload_n 0, 1) (mg 22 rfl)) rfl rfl ?_
          refine X_get (v := .ref (wA w (m + 1))) C (m) 0 (by omega) hsm rfl rfl (by decide) inX8 fX8_7 rfl (D (47, .getfield 7, 3) (mg 23 rfl)) rfl ?_
          refine X_iconst (v := nI (0)) C (D (50, .iconst 0, 1) (mg 24 rfl)) (by decide) ?_
          refine X_iald (v := h (m + 1) (0)) C (m + 1) (by omega) hs1 (vp_in_nI (by omega) (by omega)) (D (51, .iaload, 1) (mg 25 rfl)) (by rw [nI_clamp (by omega)]) ?_
          refine X_ti (y := nI (n)) hb ?_
          refine X_iconst (v := nI (5)) C (D (52, .iconst 5, 1) (mg 26 rfl)) (by decide) ?_
          refine X_icmp_ne (tgt := 61) C (D (53, .if_icmp .ne 8, 3) (mg 27 rfl)) (by decide) (fun q26 => ?_) (fun q26 => ?_)
          · skip
            have q26 : (n) ≠ (5) := by have z : ¬ ((n) = (5)) := fun u => q26 ((nI_eq (a := (n)) (b := (5)) (by omega) (by omega)).mpr u); omega
            refine X_bipush (v := nI (56)) C (D (61, .bipush 56, 2) (mg 31 rfl)) (by decide) ?_
            refine X_iconst (v := nI (4)) C (D (63, .iconst 4, 1) (mg 32 rfl)) (by decide) ?_
            refine X_aload_n C 0 (D (64, .aload_n 0, 1) (mg 33 rfl)) rfl rfl ?_
            refine X_get (v := .ref (wA w (m + 1))) C (m) 0 (by omega) hsm rfl rfl (by decide) inX8 fX8_7 rfl (D (65, .getfield 7, 3) (mg 34 rfl)) rfl ?_
            refine X_iconst (v := nI (0)) C (D (68, .iconst 0, 1) (mg 35 rfl)) (by decide) ?_
            refine X_iald (v := h (m + 1) (0)) C (m + 1) (by omega) hs1 (vp_in_nI (by omega) (by omega)) (D (69, .iaload, 1) (mg 36 rfl)) (by rw [nI_clamp (by omega)]) ?_
            refine X_ti (y := nI (n)) hb ?_
            refine X_imul C (D (70, .imul, 1) (mg 37 rfl)) ?_
            refine X_ti (y := nI ((4) * (n))) (pk_mul (4) (n)) ?_
            refine X_iadd C (D (71, .iadd, 1) (mg 38 rfl)) ?_
            refine X_ti (y := nI (56 + (4) * (n))) (nI_add (56) ((4) * (n))) ?_
            refine X_istore (ls' := [some (.ref (wA w (m))), some (.int (c)), some (.int (d)), some (.int (a)), some (.int (x)), some (.int (nI (56 + (4) * (n))))]) C (D (72, .istore 5, 2) (mg 39 rfl)) (Nat.le_of_ble_eq_true rfl) rfl ?_
            refine X_aload_n C 0 (D (74, .aload_n 0, 1) (mg 40 rfl)) rfl rfl ?_
            refine X_get (v := .ref (wA w (m + 1))) C (m) 0 (by omega) hsm rfl rfl (by decide) inX8 fX8_7 rfl (D (75, .getfield 7, 3) (mg 41 rfl)) rfl ?_
            refine X_iload C (D (78, .iload 5, 2) (mg 42 rfl)) rfl ?_
            refine X_iload_n C 1 (D (80, .iload_n 1, 1) (mg 43 rfl)) rfl rfl ?_
            refine X_iast (j := 56 + (4) * (n)) C (m + 1) (by omega) hs1 (vp_in_nI (by omega) (by omega)) (D (81, .iastore, 1) (mg 44 rfl)) (nI_clamp (by omega)) ?_
            refine X_aload_n C 0 (D (82, .aload_n 0, 1) (mg 45 rfl)) rfl rfl ?_
            refine X_get (v := .ref (wA w (m + 1))) C (m) 0 (by omega) hsm rfl rfl (by decide) inX8 fX8_7 rfl (D (83, .getfield 7, 3) (mg 46 rfl)) rfl ?_
            refine X_iload C (D (86, .iload 5, 2) (mg 47 rfl)) rfl ?_
            refine X_iconst (v := nI (1)) C (D (88, .iconst 1, 1) (mg 48 rfl)) (by decide) ?_
            refine X_iadd C (D (89, .iadd, 1) (mg 49 rfl)) ?_
            refine X_ti (y := nI (56 + (4) * (n) + 1)) (nI_add (56 + (4) * (n)) (1)) ?_
            refine X_iload_n C 2 (D (90, .iload_n 2, 1) (mg 50 rfl)) rfl rfl ?_
            refine X_iast (j := 56 + (4) * (n) + 1) C (m + 1) (by omega) hs1 (vp_in_nI (by omega) (by omega)) (D (91, .iastore, 1) (mg 51 rfl)) (nI_clamp (by omega)) ?_
            refine X_aload_n C 0 (D (92, .aload_n 0, 1) (mg 52 rfl)) rfl rfl ?_
            refine X_get (v := .ref (wA w (m + 1))) C (m) 0 (by omega) hsm rfl rfl (by decide) inX8 fX8_7 rfl (D (93, .getfield 7, 3) (mg 53 rfl)) rfl ?_
            refine X_iload C (D (96, .iload 5, 2) (mg 54 rfl)) rfl ?_
            refine X_iconst (v := nI (2)) C (D (98, .iconst 2, 1) (mg 55 rfl)) (by decide) ?_
            refine X_iadd C (D (99, .iadd, 1) (mg 56 rfl)) ?_
            refine X_ti (y := nI (56 + (4) * (n) + 2)) (nI_add (56 + (4) * (n)) (2)) ?_
            refine X_iload_n C 3 (D (100, .iload_n 3, 1) (mg 57 rfl)) rfl rfl ?_
            refine X_iast (j := 56 + (4) * (n) + 2) C (m + 1) (by omega) hs1 (vp_in_nI (by omega) (by omega)) (D (101, .iastore, 1) (mg 58 rfl)) (nI_clamp (by omega)) ?_
            refine X_aload_n C 0 (D (102, .aload_n 0, 1) (mg 59 rfl)) rfl rfl ?_
            refine X_get (v := .ref (wA w (m + 1))) C (m) 0 (by omega) hsm rfl rfl (by decide) inX8 fX8_7 rfl (D (103, .getfield 7, 3) (mg 60 rfl)) rfl ?_
            refine X_iload C (D (106, .iload 5, 2) (mg 61 rfl)) rfl ?_
            refine X_iconst (v := nI (3)) C (D (108, .iconst 3, 1) (mg 62 rfl)) (by decide) ?_
            refine X_iadd C (D (109, .iadd, 1) (mg 63 rfl)) ?_
            refine X_ti (y := nI (56 + (4) * (n) + 3)) (nI_add (56 + (4) * (n)) (3)) ?_
            refine X_iload C (D (110, .iload 4, 2) (mg 64 rfl)) rfl ?_
            refine X_iast (j := 56 + (4) * (n) + 3) C (m + 1) (by omega) hs1 (vp_in_nI (by omega) (by omega)) (D (112, .iastore, 1) (mg 65 rfl)) (nI_clamp (by omega)) ?_
            refine X_aload_n C 0 (D (113, .aload_n 0, 1) (mg 66 rfl)) rfl rfl ?_
            refine X_get (v := .ref (wA w (m + 1))) C (m) 0 (by omega) hsm rfl rfl (by decide) inX8 fX8_7 rfl (D (114, .getfield 7, 3) (mg 67 rfl)) rfl ?_
            refine X_iconst (v := nI (0)) C (D (117, .iconst 0, 1) (mg 68 rfl)) (by decide) ?_
            refine X_dup2 C (D (118, .dup2, 1) (mg 69 rfl)) rfl rfl ?_
            refine X_iald (v := (u2 (u2 (u2 (u2 h (m + 1) (56 + (4) * (n)) (c)) (m + 1) (56 + (4) * (n) + 1) (d)) (m + 1) (56 + (4) * (n) + 2) (a)) (m + 1) (56 + (4) * (n) + 3) (x)) (m + 1) (0)) C (m + 1) (by omega) hs1 (vp_in_nI (by omega) (by omega)) (D (119, .iaload, 1) (mg 70 rfl)) (by rw [nI_clamp (by omega)]) ?_
            refine X_ti (y := nI (n)) (by rw [u2_i _ _ _ _ (by omega), u2_i _ _ _ _ (by omega), u2_i _ _ _ _ (by omega), u2_i _ _ _ _ (by omega)]; exact hb) ?_
            refine X_iconst (v := nI (1)) C (D (120, .iconst 1, 1) (mg 71 rfl)) (by decide) ?_
            refine X_iadd C (D (121, .iadd, 1) (mg 72 rfl)) ?_
            refine X_ti (y := nI (n + 1)) (nI_add (n) (1)) ?_
            refine X_iast (j := 0) C (m + 1) (by omega) hs1 (vp_in_nI (by omega) (by omega)) (D (122, .iastore, 1) (mg 73 rfl)) (nI_clamp (by omega)) ?_
            refine X_aload_n C 0 (D (123, .aload_n 0, 1) (mg 74 rfl)) rfl rfl ?_
            refine X_get (v := .ref (wA w (m + 1))) C (m) 0 (by omega) hsm rfl rfl (by decide) inX8 fX8_7 rfl (D (124, .getfield 7, 3) (mg 75 rfl)) rfl ?_
            refine X_iconst (v := nI (0)) C (D (127, .iconst 0, 1) (mg 76 rfl)) (by decide) ?_
            refine X_iald (v := (u2 (u2 (u2 (u2 (u2 h (m + 1) (56 + (4) * (n)) (c)) (m + 1) (56 + (4) * (n) + 1) (d)) (m + 1) (56 + (4) * (n) + 2) (a)) (m + 1) (56 + (4) * (n) + 3) (x)) (m + 1) (0) (nI (n + 1))) (m + 1) (0)) C (m + 1) (by omega) hs1 (vp_in_nI (by omega) (by omega)) (D (128, .iaload, 1) (mg 77 rfl)) (by rw [nI_clamp (by omega)]) ?_
            refine X_ti (y := nI (n + 1)) (u2_s _ _ _ _) ?_
            exact X_iret C (D (129, .ireturn, 1) (mg 78 rfl)) ⟨fun _ => ⟨fun z => absurd z (by omega), fun _ => ⟨rfl, rfl, rfl⟩⟩, fun z => absurd (by omega) z⟩
          · skip
            have q26 : (n) = (5) := by have z := (nI_eq (a := (n)) (b := (5)) (by omega) (by omega)).mp q26; omega
            refine X_aload_n C 0 (D (56, .aload_n 0, 1) (mg 28 rfl)) rfl rfl ?_
            refine X_cV (As := []) (st := []) C (post := _) (m) (by omega) hsm rfl (ct_X8_full hw hM h g) kX8_185 (by decide) (by decide) rfl rfl (Nat.le_of_ble_eq_true rfl) (D (57, .invokevirtual 185, 3) (mg 29 rfl)) rfl (fun v29 H27 G28 hv29 => ?_)
            obtain ⟨rfl, rfl, rfl⟩ := hv29
            show X k w _ 60 [some (.ref (wA w (m))), some (.int (c)), some (.int (d)), some (.int (a)), some (.int (x)), none] [.int ((-4 : Int32))] (rfH h m 2) g
            exact X_iret C (D (60, .ireturn, 1) (mg 30 rfl)) ⟨fun _ => ⟨fun _ => ⟨rfl, rfl, rfl⟩, fun z => absurd (by omega) z⟩, fun z => absurd (by omega) z⟩
        · skip
          have q25 : ¬ ((lN 0).toInt ≤ ((x).toInt64).toInt ∧ ((x).toInt64).toInt ≤ ((20 : Int64)).toInt) := bz0.mp q25
          simp only [i6, show (lN 0).toInt = 0 from by decide, show (20 : Int64).toInt = 20 from by decide] at q25
          refine X_aload_n C 0 (D (39, .aload_n 0, 1) (mg 18 rfl)) rfl rfl ?_
          refine X_bipush (v := (-2 : Int32)) C (D (40, .bipush (-2), 2) (mg 19 rfl)) (by decide) ?_
          refine X_cV (As := [.int ((-2 : Int32))]) (st := []) C (post := _) (m) (by omega) hsm rfl (ct_X8_bad hw hM ((-2 : Int32)) h g) kX8_75 (by decide) (by decide) rfl rfl (Nat.le_of_ble_eq_true rfl) (D (42, .invokevirtual 75, 3) (mg 20 rfl)) rfl (fun v32 H30 G31 hv32 => ?_)
          obtain ⟨rfl, rfl, rfl⟩ := hv32
          show X k w _ 45 [some (.ref (wA w (m))), some (.int (c)), some (.int (d)), some (.int (a)), some (.int (x)), none] [.int ((-2 : Int32))] (rfH h m 0) g
          exact X_iret C (D (45, .ireturn, 1) (mg 21 rfl)) ⟨fun z => absurd z (by omega), fun _ => ⟨rfl, rfl, rfl⟩⟩
set_option maxHeartbeats 4000000 in
set_option maxRecDepth 100000 in
theorem ct_X8_mark {l : Launch} {w : Kw} (hw : wOk w) {m : Nat} (hM : shM w m) (s d x : Int32) {n : Nat} (hn : n ≤ 6) (h : xI) (g : xJ) (hb : h (m + 1) 1 = nI n) : Ct l w yX8_mark cX8_mark 5 (some .int) 2 45 [.ref (wA w (m)), .int (s), .int (d), .int (x)] h g (pif ((0 ≤ s.toInt ∧ s.toInt < 5) ∧ (0 ≤ d.toInt ∧ d.toInt < 10) ∧ (0 ≤ x.toInt ∧ x.toInt < 10)) (pif (n = 6) (px (some (.int (-4 : Int32))) (rfH h m 2) g) (px (some (.int (nI (n + 1)))) (u2 (u2 (u2 (u2 h (m + 1) (76 + 3 * n) s) (m + 1) (76 + 3 * n + 1) d) (m + 1) (76 + 3 * n + 2) x) (m + 1) 1 (nI (n + 1))) g)) (px (some (.int (-2 : Int32))) (rfH h m 0) g)) := by
  refine Ct_of (ls := [some (.ref (wA w (m))), some (.int (s)), some (.int (d)), some (.int (x)), none]) (by decide) hw (Nat.le_of_ble_eq_true rfl) rfl (fun k hkl C => ?_)
  have C : Cx k w cX8_mark RX8 5 (some .int) 2 45 := C
  have D := dtX8_mark
  subst hkl
  have hM0 := hM
  obtain ⟨hm, hsm, hs1, hs2, hs3, hs4, hs5, hs6, hs7, hs8, hs9, hs10, hs11⟩ := hM
  have hM := hM0
  refine X_iload_n C 1 (D (0, .iload_n 1, 1) (mg 0 rfl)) rfl rfl ?_
  refine X_cS (As := [.int (s)]) (st := []) C (post := _) (ct_X8_isStony hw (s) h g) kX8_83 (by decide) (by decide) rfl rfl (Nat.le_of_ble_eq_true rfl) (D (1, .invokestatic 83, 3) (mg 1 rfl)) rfl (fun v3 H1 G2 hv3 => ?_)
  obtain ⟨rfl, rfl, rfl⟩ := hv3
  show X k w _ 4 [some (.ref (wA w (m))), some (.int (s)), some (.int (d)), some (.int (x)), none] [.int (if 0 ≤ (s).toInt ∧ (s).toInt < 5 then 1 else 0)] h g
  refine X_if_eq (tgt := 21) C (D (4, .ifCond .eq 17, 3) (mg 2 rfl)) (by decide) (fun q4 => ?_) (fun q4 => ?_)
  · skip
    have q4 : ¬ (0 ≤ (s).toInt ∧ (s).toInt < 5) := bz0.mp q4
    refine X_aload_n C 0 (D (21, .aload_n 0, 1) (mg 9 rfl)) rfl rfl ?_
    refine X_bipush (v := (-2 : Int32)) C (D (22, .bipush (-2), 2) (mg 10 rfl)) (by decide) ?_
    refine X_cV (As := [.int ((-2 : Int32))]) (st := []) C (post := _) (m) (by omega) hsm rfl (ct_X8_bad hw hM ((-2 : Int32)) h g) kX8_75 (by decide) (by decide) rfl rfl (Nat.le_of_ble_eq_true rfl) (D (24, .invokevirtual 75, 3) (mg 11 rfl)) rfl (fun v7 H5 G6 hv7 => ?_)
    obtain ⟨rfl, rfl, rfl⟩ := hv7
    show X k w _ 27 [some (.ref (wA w (m))), some (.int (s)), some (.int (d)), some (.int (x)), none] [.int ((-2 : Int32))] (rfH h m 0) g
    exact X_iret C (D (27, .ireturn, 1) (mg 12 rfl)) ⟨fun z => absurd z (by omega), fun _ => ⟨rfl, rfl, rfl⟩⟩
  · skip
    have q4 : (0 ≤ (s).toInt ∧ (s).toInt < 5) := bz1.mp q4
    refine X_iload_n C 2 (D (7, .iload_n 2, 1) (mg 3 rfl)) rfl rfl ?_
    refine X_cS (As := [.int (d)]) (st := []) C (post := _) (ct_X8_isDepth hw (d) h g) kX8_180 (by decide) (by decide) rfl rfl (Nat.le_of_ble_eq_true rfl) (D (8, .invokestatic 180, 3) (mg 4 rfl)) rfl (fun v10 H8 G9 hv10 => ?_)
    obtain ⟨rfl, rfl, rfl⟩ := hv10
    show X k w _ 11 [some (.ref (wA w (m))), some (.int (s)), some (.int (d)), some (.int (x)), none] [.int (if 0 ≤ (d).toInt ∧ (d).toInt < 10 then 1 else 0)] h g
    refine X_if_eq (tgt := 21) C (D (11, .ifCond .eq 10, 3) (mg 5 rfl)) (by decide) (fun q11 => ?_) (fun q11 => ?_)
    · skip
      have q11 : ¬ (0 ≤ (d).toInt ∧ (d).toInt < 10) := bz0.mp q11
      refine X_aload_n C 0 (D (21, .aload_n 0, 1) (mg 9 rfl)) rfl rfl ?_
      refine X_bipush (v := (-2 : Int32)) C (D (22, .bipush (-2), 2) (mg 10 rfl)) (by decide) ?_
      refine X_cV (As := [.int ((-2 : Int32))]) (st := []) C (post := _) (m) (by omega) hsm rfl (ct_X8_bad hw hM ((-2 : Int32)) h g) kX8_75 (by decide) (by decide) rfl rfl (Nat.le_of_ble_eq_true rfl) (D (24, .invokevirtual 75, 3) (mg 11 rfl)) rfl (fun v14 H12 G13 hv14 => ?_)
      obtain ⟨rfl, rfl, rfl⟩ := hv14
      show X k w _ 27 [some (.ref (wA w (m))), some (.int (s)), some (.int (d)), some (.int (x)), none] [.int ((-2 : Int32))] (rfH h m 0) g
      exact X_iret C (D (27, .ireturn, 1) (mg 12 rfl)) ⟨fun z => absurd z (by omega), fun _ => ⟨rfl, rfl, rfl⟩⟩
    · skip
      have q11 : (0 ≤ (d).toInt ∧ (d).toInt < 10) := bz1.mp q11
      refine X_iload_n C 3 (D (14, .iload_n 3, 1) (mg 6 rfl)) rfl rfl ?_
      refine X_cS (As := [.int (x)]) (st := []) C (post := _) (ct_X8_isDepth hw (x) h g) kX8_180 (by decide) (by decide) rfl rfl (Nat.le_of_ble_eq_true rfl) (D (15, .invokestatic 180, 3) (mg 7 rfl)) rfl (fun v17 H15 G16 hv17 => ?_)
      obtain ⟨rfl, rfl, rfl⟩ := hv17
      show X k w _ 18 [some (.ref (wA w (m))), some (.int (s)), some (.int (d)), some (.int (x)), none] [.int (if 0 ≤ (x).toInt ∧ (x).toInt < 10 then 1 else 0)] h g
      refine X_if_ne (tgt := 28) C (D (18, .ifCond .ne 10, 3) (mg 8 rfl)) (by decide) (fun q18 => ?_) (fun q18 => ?_)
      · skip
        have q18 : (0 ≤ (x).toInt ∧ (x).toInt < 10) := bz1.mp q18
        refine X_aload_n C 0 (D (28, .aload_n 0, 1) (mg 13 rfl)) rfl rfl ?_
        refine X_get (v := .ref (wA w (m + 1))) C (m) 0 (by omega) hsm rfl rfl (by decide) inX8 fX8_7 rfl (D (29, .getfield 7, 3) (mg 14 rfl)) rfl ?_
        refine X_iconst (v := nI (1)) C (D (32, .iconst 1, 1) (mg 15 rfl)) (by decide) ?_
        refine X_iald (v := h (m + 1) (1)) C (m + 1) (by omega) hs1 (vp_in_nI (by omega) (by omega)) (D (33, .iaload, 1) (mg 16 rfl)) (by rw [nI_clamp (by omega)]) ?_
        refine X_ti (y := nI (n)) hb ?_
        refine X_bipush (v := nI (6)) C (D (34, .bipush 6, 2) (mg 17 rfl)) (by decide) ?_
        refine X_icmp_ne (tgt := 44) C (D (36, .if_icmp .ne 8, 3) (mg 18 rfl)) (by decide) (fun q19 => ?_) (fun q19 => ?_)
        · skip
          have q19 : (n) ≠ (6) := by have z : ¬ ((n) = (6)) := fun u => q19 ((nI_eq (a := (n)) (b := (6)) (by omega) (by omega)).mpr u); omega
          refine X_bipush (v := nI (76)) C (D (44, .bipush 76, 2) (mg 22 rfl)) (by decide) ?_
          refine X_iconst (v := nI (3)) C (D (46, .iconst 3, 1) (mg 23 rfl)) (by decide) ?_
          refine X_aload_n C 0 (D (47, .aload_n 0, 1) (mg 24 rfl)) rfl rfl ?_
          refine X_get (v := .ref (wA w (m + 1))) C (m) 0 (by omega) hsm rfl rfl (by decide) inX8 fX8_7 rfl (D (48, .getfield 7, 3) (mg 25 rfl)) rfl ?_
          refine X_iconst (v := nI (1)) C (D (51, .iconst 1, 1) (mg 26 rfl)) (by decide) ?_
          refine X_iald (v := h (m + 1) (1)) C (m + 1) (by omega) hs1 (vp_in_nI (by omega) (by omega)) (D (52, .iaload, 1) (mg 27 rfl)) (by rw [nI_clamp (by omega)]) ?_
          refine X_ti (y := nI (n)) hb ?_
          refine X_imul C (D (53, .imul, 1) (mg 28 rfl)) ?_
          refine X_ti (y := nI ((3) * (n))) (pk_mul (3) (n)) ?_
          refine X_iadd C (D (54, .iadd, 1) (mg 29 rfl)) ?_
          refine X_ti (y := nI (76 + (3) * (n))) (nI_add (76) ((3) * (n))) ?_
          refine X_istore (ls' := [some (.ref (wA w (m))), some (.int (s)), some (.int (d)), some (.int (x)), some (.int (nI (76 + (3) * (n))))]) C (D (55, .istore 4, 2) (mg 30 rfl)) (Nat.le_of_ble_eq_true rfl) rfl ?_
          refine X_aload_n C 0 (D (57, .aload_n 0, 1) (mg 31 rfl)) rfl rfl ?_
          refine X_get (v := .ref (wA w (m + 1))) C (m) 0 (by omega) hsm rfl rfl (by decide) inX8 fX8_7 rfl (D (58, .getfield 7, 3) (mg 32 rfl)) rfl ?_
          refine X_iload C (D (61, .iload 4, 2) (mg 33 rfl)) rfl ?_
          refine X_iload_n C 1 (D (63, .iload_n 1, 1) (mg 34 rfl)) rfl rfl ?_
          refine X_iast (j := 76 + (3) * (n)) C (m + 1) (by omega) hs1 (vp_in_nI (by omega) (by omega)) (D (64, .iastore, 1) (mg 35 rfl)) (nI_clamp (by omega)) ?_
          refine X_aload_n C 0 (D (65, .aload_n 0, 1) (mg 36 rfl)) rfl rfl ?_
          refine X_get (v := .ref (wA w (m + 1))) C (m) 0 (by omega) hsm rfl rfl (by decide) inX8 fX8_7 rfl (D (66, .getfield 7, 3) (mg 37 rfl)) rfl ?_
          refine X_iload C (D (69, .iload 4, 2) (mg 38 rfl)) rfl ?_
          refine X_iconst (v := nI (1)) C (D (71, .iconst 1, 1) (mg 39 rfl)) (by decide) ?_
          refine X_iadd C (D (72, .iadd, 1) (mg 40 rfl)) ?_
          refine X_ti (y := nI (76 + (3) * (n) + 1)) (nI_add (76 + (3) * (n)) (1)) ?_
          refine X_iload_n C 2 (D (73, .iload_n 2, 1) (mg 41 rfl)) rfl rfl ?_
          refine X_iast (j := 76 + (3) * (n) + 1) C (m + 1) (by omega) hs1 (vp_in_nI (by omega) (by omega)) (D (74, .iastore, 1) (mg 42 rfl)) (nI_clamp (by omega)) ?_
          refine X_aload_n C 0 (D (75, .aload_n 0, 1) (mg 43 rfl)) rfl rfl ?_
          refine X_get (v := .ref (wA w (m + 1))) C (m) 0 (by omega) hsm rfl rfl (by decide) inX8 fX8_7 rfl (D (76, .getfield 7, 3) (mg 44 rfl)) rfl ?_
          refine X_iload C (D (79, .iload 4, 2) (mg 45 rfl)) rfl ?_
          refine X_iconst (v := nI (2)) C (D (81, .iconst 2, 1) (mg 46 rfl)) (by decide) ?_
          refine X_iadd C (D (82, .iadd, 1) (mg 47 rfl)) ?_
          refine X_ti (y := nI (76 + (3) * (n) + 2)) (nI_add (76 + (3) * (n)) (2)) ?_
          refine X_iload_n C 3 (D (83, .iload_n 3, 1) (mg 48 rfl)) rfl rfl ?_
          refine X_iast (j := 76 + (3) * (n) + 2) C (m + 1) (by omega) hs1 (vp_in_nI (by omega) (by omega)) (D (84, .iastore, 1) (mg 49 rfl)) (nI_clamp (by omega)) ?_
          refine X_aload_n C 0 (D (85, .aload_n 0, 1) (mg 50 rfl)) rfl rfl ?_
          refine X_get (v := .ref (wA w (m + 1))) C (m) 0 (by omega) hsm rfl rfl (by decide) inX8 fX8_7 rfl (D (86, .getfield 7, 3) (mg 51 rfl)) rfl ?_
          refine X_iconst (v := nI (1)) C (D (89, .iconst 1, 1) (mg 52 rfl)) (by decide) ?_
          refine X_dup2 C (D (90, .dup2, 1) (mg 53 rfl)) rfl rfl ?_
          refine X_iald (v := (u2 (u2 (u2 h (m + 1) (76 + (3) * (n)) (s)) (m + 1) (76 + (3) * (n) + 1) (d)) (m + 1) (76 + (3) * (n) + 2) (x)) (m + 1) (1)) C (m + 1) (by omega) hs1 (vp_in_nI (by omega) (by omega)) (D (91, .iaload, 1) (mg 54 rfl)) (by rw [nI_clamp (by omega)]) ?_
          refine X_ti (y := nI (n)) (by rw [u2_i _ _ _ _ (by omega), u2_i _ _ _ _ (by omega), u2_i _ _ _ _ (by omega)]; exact hb) ?_
          refine X_iconst (v := nI (1)) C (D (92, .iconst 1, 1) (mg 55 rfl)) (by decide) ?_
          refine X_iadd C (D (93, .iadd, 1) (mg 56 rfl)) ?_
          refine X_ti (y := nI (n + 1)) (nI_add (n) (1)) ?_
          refine X_iast (j := 1) C (m + 1) (by omega) hs1 (vp_in_nI (by omega) (by omega)) (D (94, .iastore, 1) (mg 57 rfl)) (nI_clamp (by omega)) ?_
          refine X_aload_n C 0 (D (95, .aload_n 0, 1) (mg 58 rfl)) rfl rfl ?_
          refine X_get (v := .ref (wA w (m + 1))) C (m) 0 (by omega) hsm rfl rfl (by decide) inX8 fX8_7 rfl (D (96, .getfield 7, 3) (mg 59 rfl)) rfl ?_
          refine X_iconst (v := nI (1)) C (D (99, .iconst 1, 1) (mg 60 rfl)) (by decide) ?_
          refine X_iald (v := (u2 (u2 (u2 (u2 h (m + 1) (76 + (3) * (n)) (s)) (m + 1) (76 + (3) * (n) + 1) (d)) (m + 1) (76 + (3) * (n) + 2) (x)) (m + 1) (1) (nI (n + 1))) (m + 1) (1)) C (m + 1) (by omega) hs1 (vp_in_nI (by omega) (by omega)) (D (100, .iaload, 1) (mg 61 rfl)) (by rw [nI_clamp (by omega)]) ?_
          refine X_ti (y := nI (n + 1)) (u2_s _ _ _ _) ?_
          exact X_iret C (D (101, .ireturn, 1) (mg 62 rfl)) ⟨fun _ => ⟨fun z => absurd z (by omega), fun _ => ⟨rfl, rfl, rfl⟩⟩, fun z => absurd (by omega) z⟩
        · skip
          have q19 : (n) = (6) := by have z := (nI_eq (a := (n)) (b := (6)) (by omega) (by omega)).mp q19; omega
          refine X_aload_n C 0 (D (39, .aload_n 0, 1) (mg 19 rfl)) rfl rfl ?_
          refine X_cV (As := []) (st := []) C (post := _) (m) (by omega) hsm rfl (ct_X8_full hw hM h g) kX8_185 (by decide) (by decide) rfl rfl (Nat.le_of_ble_eq_true rfl) (D (40, .invokevirtual 185, 3) (mg 20 rfl)) rfl (fun v22 H20 G21 hv22 => ?_)
          obtain ⟨rfl, rfl, rfl⟩ := hv22
          show X k w _ 43 [some (.ref (wA w (m))), some (.int (s)), some (.int (d)), some (.int (x)), none] [.int ((-4 : Int32))] (rfH h m 2) g
          exact X_iret C (D (43, .ireturn, 1) (mg 21 rfl)) ⟨fun _ => ⟨fun _ => ⟨rfl, rfl, rfl⟩, fun z => absurd (by omega) z⟩, fun z => absurd (by omega) z⟩
      · skip
        have q18 : ¬ (0 ≤ (x).toInt ∧ (x).toInt < 10) := bz0.mp q18
        refine X_aload_n C 0 (D (21, .aload_n 0, 1) (mg 9 rfl)) rfl rfl ?_
        refine X_bipush (v := (-2 : Int32)) C (D (22, .bipush (-2), 2) (mg 10 rfl)) (by decide) ?_
        refine X_cV (As := [.int ((-2 : Int32))]) (st := []) C (post := _) (m) (by omega) hsm rfl (ct_X8_bad hw hM ((-2 : Int32)) h g) kX8_75 (by decide) (by decide) rfl rfl (Nat.le_of_ble_eq_true rfl) (D (24, .invokevirtual 75, 3) (mg 11 rfl)) rfl (fun v25 H23 G24 hv25 => ?_)
        obtain ⟨rfl, rfl, rfl⟩ := hv25
        show X k w _ 27 [some (.ref (wA w (m))), some (.int (s)), some (.int (d)), some (.int (x)), none] [.int ((-2 : Int32))] (rfH h m 0) g
        exact X_iret C (D (27, .ireturn, 1) (mg 12 rfl)) ⟨fun z => absurd z (by omega), fun _ => ⟨rfl, rfl, rfl⟩⟩
