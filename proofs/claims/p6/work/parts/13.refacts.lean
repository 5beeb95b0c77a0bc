/-! THE REFERENCE, 7: says, reaps, weeks, undo, drags -/
def bsN (p i : Nat) : Nat := if i = 0 then (if 5 ≤ p then p - 5 else 25) else if i = 1 then (if p % 5 < 4 then p + 1 else 25) else if i = 2 then (if p < 20 then p + 5 else 25) else (if p % 5 = 0 then 25 else p - 1)
theorem bs_all : ∀ p, p < 25 → ∀ i, i < 4 → bsA p (nI i) = (if bsN p i < 25 then nI (bsN p i) else (-1 : Int32)) := by decide +kernel
theorem bs_lt {p i : Nat} (hp : p < 25) (hi : i < 4) (h : ¬ bsA p (nI i) = (-1 : Int32)) : bsN p i < 25 := by
  rcases Nat.lt_or_ge (bsN p i) 25 with q | q
  · exact q
  · exact absurd (by rw [bs_all p hp i hi, if_neg (by omega)]) h
theorem bs_ge {p i : Nat} (hp : p < 25) (hi : i < 4) (h : bsA p (nI i) = (-1 : Int32)) : ¬ bsN p i < 25 := by
  intro q
  rw [bs_all p hp i hi, if_pos q] at h
  have := congrArg Int32.toInt h
  rw [nI_toInt (by omega), show ((-1 : Int32)).toInt = -1 from by decide] at this
  omega
theorem bs_eq {p i : Nat} (hp : p < 25) (hi : i < 4) (h : bsN p i < 25) : bsA p (nI i) = nI (bsN p i) := by rw [bs_all p hp i hi, if_pos h]
theorem sn_le {n : Nat} (hn : n ≤ 8) : sn n ≤ 7 := by unfold sn; split <;> omega
theorem sv0_lo (h : xI) (q n : Nat) {i : Nat} (hi : i < 94) (h2 : i ≠ 2) : sv0 h q n q i = h q i := by
  unfold sv0
  split
  · rw [u2_i _ _ _ _ h2, cpS_o _ _ _ _ _ _ _ (by omega)]
  · rfl
theorem sv_lo (h : xI) (q n : Nat) {i : Nat} (hi : i < 94) (h2 : i ≠ 2) : svH h q n q i = h q i := by
  unfold svH
  rw [u2_i _ _ _ _ h2, cpS_o _ _ _ _ _ _ _ (by omega), sv0_lo h q n hi h2]
theorem st_28 (h : xI) (q c : Nat) (hc : c < 25) : stH h q c q 28 = nI c := by
  unfold stH
  split
  · rw [u2_s]
  · rw [u2_i _ _ _ _ (by omega), u2_s]
set_option maxHeartbeats 4000000 in
set_option maxRecDepth 100000 in
theorem ct_X8_says {l : Launch} {w : Kw} (hw : wOk w) {m : Nat} (hM : shM w m) (c kd : Int32) {n : Nat} (hn : n ≤ 8) (h : xI) (g : xJ) (hb : h (m + 1) 2 = nI n) : Ct l w yX8_says cX8_says 3 (some .int) 2 45 [.ref (wA w (m)), .int (c), .int (kd)] h g (pif ((0 ≤ c.toInt ∧ c.toInt < 25) ∧ (0 ≤ kd.toInt ∧ kd.toInt < 6)) (pif (h (m + 1) (3 + c.toInt.toNat) = 0) (px (some (.int (nI (cn (fun z => ¬ u2 (svH h (m + 1) n) (m + 1) (3 + c.toInt.toNat) (mV kd (nI 0) (nI 0)) (m + 1) (3 + z) = 0) 25)))) (u2 (svH h (m + 1) n) (m + 1) (3 + c.toInt.toNat) (mV kd (nI 0) (nI 0))) g) (px (some (.int (-3 : Int32))) (rfH h m 1) g)) (px (some (.int (-2 : Int32))) (rfH h m 0) g)) := by
  refine Ct_of (ls := [some (.ref (wA w (m))), some (.int (c)), some (.int (kd))]) (by decide) hw (Nat.le_of_ble_eq_true rfl) rfl (fun k hkl C => ?_)
  have C : Cx k w cX8_says RX8 3 (some .int) 2 45 := C
  have D := dtX8_says
  subst hkl
  have hM0 := hM
  obtain ⟨hm, hsm, hs1, hs2, hs3, hs4, hs5, hs6, hs7, hs8, hs9, hs10, hs11⟩ := hM
  have hM := hM0
  refine X_iload_n C 1 (D (0, .iload_n 1, 1) (mg 0 rfl)) rfl rfl ?_
  refine X_cS (As := [.int (c)]) (st := []) C (post := _) (ct_X8_isCell hw (c) h g) kX8_72 (by decide) (by decide) rfl rfl (Nat.le_of_ble_eq_true rfl) (D (1, .invokestatic 72, 3) (mg 1 rfl)) rfl (fun v3 H1 G2 hv3 => ?_)
  obtain ⟨rfl, rfl, rfl⟩ := hv3
  show X k w _ 4 [some (.ref (wA w (m))), some (.int (c)), some (.int (kd))] [.int (if 0 ≤ (c).toInt ∧ (c).toInt < 25 then 1 else 0)] h g
  refine X_if_eq (tgt := 14) C (D (4, .ifCond .eq 10, 3) (mg 2 rfl)) (by decide) (fun q4 => ?_) (fun q4 => ?_)
  · skip
    have q4 : ¬ (0 ≤ (c).toInt ∧ (c).toInt < 25) := bz0.mp q4
    refine X_aload_n C 0 (D (14, .aload_n 0, 1) (mg 6 rfl)) rfl rfl ?_
    refine X_bipush (v := (-2 : Int32)) C (D (15, .bipush (-2), 2) (mg 7 rfl)) (by decide) ?_
    refine X_cV (As := [.int ((-2 : Int32))]) (st := []) C (post := _) (m) (by omega) hsm rfl (ct_X8_bad hw hM ((-2 : Int32)) h g) kX8_75 (by decide) (by decide) rfl rfl (Nat.le_of_ble_eq_true rfl) (D (17, .invokevirtual 75, 3) (mg 8 rfl)) rfl (fun v7 H5 G6 hv7 => ?_)
    obtain ⟨rfl, rfl, rfl⟩ := hv7
    show X k w _ 20 [some (.ref (wA w (m))), some (.int (c)), some (.int (kd))] [.int ((-2 : Int32))] (rfH h m 0) g
    exact X_iret C (D (20, .ireturn, 1) (mg 9 rfl)) ⟨fun z => absurd z (by omega), fun _ => ⟨rfl, rfl, rfl⟩⟩
  · skip
    have q4 : (0 ≤ (c).toInt ∧ (c).toInt < 25) := bz1.mp q4
    obtain ⟨j, hj, rfl⟩ := nI_i (n := 25) q4.1 (by omega)
    refine X_iload_n C 2 (D (7, .iload_n 2, 1) (mg 3 rfl)) rfl rfl ?_
    refine X_cS (As := [.int (kd)]) (st := []) C (post := _) (ct_X8_isKind hw (kd) h g) kX8_68 (by decide) (by decide) rfl rfl (Nat.le_of_ble_eq_true rfl) (D (8, .invokestatic 68, 3) (mg 4 rfl)) rfl (fun v10 H8 G9 hv10 => ?_)
    obtain ⟨rfl, rfl, rfl⟩ := hv10
    show X k w _ 11 [some (.ref (wA w (m))), some (.int (nI (j))), some (.int (kd))] [.int (if 0 ≤ (kd).toInt ∧ (kd).toInt < 6 then 1 else 0)] h g
    refine X_if_ne (tgt := 21) C (D (11, .ifCond .ne 10, 3) (mg 5 rfl)) (by decide) (fun q11 => ?_) (fun q11 => ?_)
    · skip
      have q11 : (0 ≤ (kd).toInt ∧ (kd).toInt < 6) := bz1.mp q11
      refine X_aload_n C 0 (D (21, .aload_n 0, 1) (mg 10 rfl)) rfl rfl ?_
      refine X_get (v := .ref (wA w (m + 1))) C (m) 0 (by omega) hsm rfl rfl (by decide) inX8 fX8_7 rfl (D (22, .getfield 7, 3) (mg 11 rfl)) rfl ?_
      refine X_iload_n C 1 (D (25, .iload_n 1, 1) (mg 12 rfl)) rfl rfl ?_
      refine X_cS (As := [.ref (wA w (m + 1)), .int (nI (j))]) (st := []) C (post := _) (ct_X8_lies hw (⟨by omega, hs1, by omega, by omega⟩ : rw56 w (m + 1) 310) (by omega) h g) kX8_64 (by decide) (by decide) rfl rfl (Nat.le_of_ble_eq_true rfl) (D (26, .invokestatic 64, 3) (mg 13 rfl)) rfl (fun v14 H12 G13 hv14 => ?_)
      obtain ⟨rfl, rfl, rfl⟩ := hv14
      show X k w _ 29 [some (.ref (wA w (m))), some (.int (nI (j))), some (.int (kd))] [.int (if ¬ h (m + 1) (3 + (j)) = 0 then 1 else 0)] h g
      refine X_if_eq (tgt := 37) C (D (29, .ifCond .eq 8, 3) (mg 14 rfl)) (by decide) (fun q15 => ?_) (fun q15 => ?_)
      · skip
        have q15 : ¬ (¬ h (m + 1) (3 + (j)) = 0) := bz0.mp q15
        refine X_aload_n C 0 (D (37, .aload_n 0, 1) (mg 18 rfl)) rfl rfl ?_
        refine X_cV (As := []) (st := []) C (post := _) (m) (by omega) hsm rfl (ct_X8_save hw hM hn h g hb) kX8_129 (by decide) (by decide) rfl rfl (Nat.le_of_ble_eq_true rfl) (D (38, .invokevirtual 129, 3) (mg 19 rfl)) rfl (fun v18 H16 G17 hv18 => ?_)
        obtain ⟨rfl, rfl, rfl⟩ := hv18
        show X k w _ 41 [some (.ref (wA w (m))), some (.int (nI (j))), some (.int (kd))] [] (svH h (m + 1) n) g
        refine X_aload_n C 0 (D (41, .aload_n 0, 1) (mg 20 rfl)) rfl rfl ?_
        refine X_get (v := .ref (wA w (m + 1))) C (m) 0 (by omega) hsm rfl rfl (by decide) inX8 fX8_7 rfl (D (42, .getfield 7, 3) (mg 21 rfl)) rfl ?_
        refine X_iload_n C 1 (D (45, .iload_n 1, 1) (mg 22 rfl)) rfl rfl ?_
        refine X_iload_n C 2 (D (46, .iload_n 2, 1) (mg 23 rfl)) rfl rfl ?_
        refine X_iconst (v := nI (0)) C (D (47, .iconst 0, 1) (mg 24 rfl)) (by decide) ?_
        refine X_iconst (v := nI (0)) C (D (48, .iconst 0, 1) (mg 25 rfl)) (by decide) ?_
        refine X_cS (As := [.ref (wA w (m + 1)), .int (nI (j)), .int (kd), .int (nI (0)), .int (nI (0))]) (st := []) C (post := _) (ct_X8_lay hw (⟨by omega, hs1, by omega, by omega⟩ : rw56 w (m + 1) 310) (by omega) (kd) (nI (0)) (nI (0)) (svH h (m + 1) n) g) kX8_117 (by decide) (by decide) rfl rfl (Nat.le_of_ble_eq_true rfl) (D (49, .invokestatic 117, 3) (mg 26 rfl)) rfl (fun v21 H19 G20 hv21 => ?_)
        obtain ⟨rfl, rfl, rfl⟩ := hv21
        show X k w _ 52 [some (.ref (wA w (m))), some (.int (nI (j))), some (.int (kd))] [] (u2 (svH h (m + 1) n) (m + 1) (3 + (j)) (mV (kd) (nI (0)) (nI (0)))) g
        refine X_aload_n C 0 (D (52, .aload_n 0, 1) (mg 27 rfl)) rfl rfl ?_
        refine X_get (v := .ref (wA w (m + 1))) C (m) 0 (by omega) hsm rfl rfl (by decide) inX8 fX8_7 rfl (D (53, .getfield 7, 3) (mg 28 rfl)) rfl ?_
        refine X_cS (As := [.ref (wA w (m + 1))]) (st := []) C (post := _) (ct_X8_manyLie hw (⟨by omega, hs1, by omega, by omega⟩ : rw56 w (m + 1) 310) (u2 (svH h (m + 1) n) (m + 1) (3 + (j)) (mV (kd) (nI (0)) (nI (0)))) g) kX8_79 (by decide) (by decide) rfl rfl (Nat.le_of_ble_eq_true rfl) (D (56, .invokestatic 79, 3) (mg 29 rfl)) rfl (fun v24 H22 G23 hv24 => ?_)
        obtain ⟨rfl, rfl, rfl⟩ := hv24
        show X k w _ 59 [some (.ref (wA w (m))), some (.int (nI (j))), some (.int (kd))] [.int (nI (cn (fun c => ¬ (u2 (svH h (m + 1) n) (m + 1) (3 + (j)) (mV (kd) (nI (0)) (nI (0)))) (m + 1) (3 + c) = 0) 25))] (u2 (svH h (m + 1) n) (m + 1) (3 + (j)) (mV (kd) (nI (0)) (nI (0)))) g
        exact X_iret C (D (59, .ireturn, 1) (mg 30 rfl)) ⟨fun _ => ⟨fun _ => ⟨by rw [nI_toInt (n := j) (by omega), Int.toNat_natCast], by rw [nI_toInt (n := j) (by omega), Int.toNat_natCast], rfl⟩, fun z => absurd (by rw [nI_toInt (n := j) (by omega), Int.toNat_natCast]; exact Classical.not_not.mp (by assumption)) z⟩, fun z => absurd (by omega) z⟩
      · skip
        have q15 : (¬ h (m + 1) (3 + (j)) = 0) := bz1.mp q15
        refine X_aload_n C 0 (D (32, .aload_n 0, 1) (mg 15 rfl)) rfl rfl ?_
        refine X_cV (As := []) (st := []) C (post := _) (m) (by omega) hsm rfl (ct_X8_no hw hM h g) kX8_125 (by decide) (by decide) rfl rfl (Nat.le_of_ble_eq_true rfl) (D (33, .invokevirtual 125, 3) (mg 16 rfl)) rfl (fun v27 H25 G26 hv27 => ?_)
        obtain ⟨rfl, rfl, rfl⟩ := hv27
        show X k w _ 36 [some (.ref (wA w (m))), some (.int (nI (j))), some (.int (kd))] [.int ((-3 : Int32))] (rfH h m 1) g
        exact X_iret C (D (36, .ireturn, 1) (mg 17 rfl)) ⟨fun _ => ⟨fun z => absurd z (by rw [nI_toInt (n := j) (by omega), Int.toNat_natCast]; assumption), fun _ => ⟨rfl, rfl, rfl⟩⟩, fun z => absurd (by omega) z⟩
    · skip
      have q11 : ¬ (0 ≤ (kd).toInt ∧ (kd).toInt < 6) := bz0.mp q11
      refine X_aload_n C 0 (D (14, .aload_n 0, 1) (mg 6 rfl)) rfl rfl ?_
      refine X_bipush (v := (-2 : Int32)) C (D (15, .bipush (-2), 2) (mg 7 rfl)) (by decide) ?_
      refine X_cV (As := [.int ((-2 : Int32))]) (st := []) C (post := _) (m) (by omega) hsm rfl (ct_X8_bad hw hM ((-2 : Int32)) h g) kX8_75 (by decide) (by decide) rfl rfl (Nat.le_of_ble_eq_true rfl) (D (17, .invokevirtual 75, 3) (mg 8 rfl)) rfl (fun v30 H28 G29 hv30 => ?_)
      obtain ⟨rfl, rfl, rfl⟩ := hv30
      show X k w _ 20 [some (.ref (wA w (m))), some (.int (nI (j))), some (.int (kd))] [.int ((-2 : Int32))] (rfH h m 0) g
      exact X_iret C (D (20, .ireturn, 1) (mg 9 rfl)) ⟨fun z => absurd z (by omega), fun _ => ⟨rfl, rfl, rfl⟩⟩
set_option maxHeartbeats 4000000 in
set_option maxRecDepth 100000 in
theorem ct_X8_reaps {l : Launch} {w : Kw} (hw : wOk w) {m : Nat} (hM : shM w m) (c : Int32) {n : Nat} (hn : n ≤ 8) (h : xI) (g : xJ) (hb : h (m + 1) 2 = nI n) : Ct l w yX8_reaps cX8_reaps 3 (some .int) 2 46 [.ref (wA w (m)), .int (c)] h g (pif (0 ≤ c.toInt ∧ c.toInt < 25) (pif (¬ h (m + 1) (3 + c.toInt.toNat) = 0) (px (some (.int (hiV (h (m + 1) (3 + c.toInt.toNat))))) (u2 (svH h (m + 1) n) (m + 1) (3 + c.toInt.toNat) (nI 0)) g) (px (some (.int (-3 : Int32))) (rfH h m 1) g)) (px (some (.int (-2 : Int32))) (rfH h m 0) g)) := by
  refine Ct_of (ls := [some (.ref (wA w (m))), some (.int (c)), none]) (by decide) hw (Nat.le_of_ble_eq_true rfl) rfl (fun k hkl C => ?_)
  have C : Cx k w cX8_reaps RX8 3 (some .int) 2 46 := C
  have D := dtX8_reaps
  subst hkl
  have hM0 := hM
  obtain ⟨hm, hsm, hs1, hs2, hs3, hs4, hs5, hs6, hs7, hs8, hs9, hs10, hs11⟩ := hM
  have hM := hM0
  refine X_iload_n C 1 (D (0, .iload_n 1, 1) (mg 0 rfl)) rfl rfl ?_
  refine X_cS (As := [.int (c)]) (st := []) C (post := _) (ct_X8_isCell hw (c) h g) kX8_72 (by decide) (by decide) rfl rfl (Nat.le_of_ble_eq_true rfl) (D (1, .invokestatic 72, 3) (mg 1 rfl)) rfl (fun v3 H1 G2 hv3 => ?_)
  obtain ⟨rfl, rfl, rfl⟩ := hv3
  show X k w _ 4 [some (.ref (wA w (m))), some (.int (c)), none] [.int (if 0 ≤ (c).toInt ∧ (c).toInt < 25 then 1 else 0)] h g
  refine X_if_ne (tgt := 14) C (D (4, .ifCond .ne 10, 3) (mg 2 rfl)) (by decide) (fun q4 => ?_) (fun q4 => ?_)
  · skip
    have q4 : (0 ≤ (c).toInt ∧ (c).toInt < 25) := bz1.mp q4
    obtain ⟨j, hj, rfl⟩ := nI_i (n := 25) q4.1 (by omega)
    refine X_aload_n C 0 (D (14, .aload_n 0, 1) (mg 7 rfl)) rfl rfl ?_
    refine X_get (v := .ref (wA w (m + 1))) C (m) 0 (by omega) hsm rfl rfl (by decide) inX8 fX8_7 rfl (D (15, .getfield 7, 3) (mg 8 rfl)) rfl ?_
    refine X_iload_n C 1 (D (18, .iload_n 1, 1) (mg 9 rfl)) rfl rfl ?_
    refine X_cS (As := [.ref (wA w (m + 1)), .int (nI (j))]) (st := []) C (post := _) (ct_X8_lies hw (⟨by omega, hs1, by omega, by omega⟩ : rw56 w (m + 1) 310) (by omega) h g) kX8_64 (by decide) (by decide) rfl rfl (Nat.le_of_ble_eq_true rfl) (D (19, .invokestatic 64, 3) (mg 10 rfl)) rfl (fun v7 H5 G6 hv7 => ?_)
    obtain ⟨rfl, rfl, rfl⟩ := hv7
    show X k w _ 22 [some (.ref (wA w (m))), some (.int (nI (j))), none] [.int (if ¬ h (m + 1) (3 + (j)) = 0 then 1 else 0)] h g
    refine X_if_ne (tgt := 30) C (D (22, .ifCond .ne 8, 3) (mg 11 rfl)) (by decide) (fun q8 => ?_) (fun q8 => ?_)
    · skip
      have q8 : (¬ h (m + 1) (3 + (j)) = 0) := bz1.mp q8
      refine X_aload_n C 0 (D (30, .aload_n 0, 1) (mg 15 rfl)) rfl rfl ?_
      refine X_get (v := .ref (wA w (m + 1))) C (m) 0 (by omega) hsm rfl rfl (by decide) inX8 fX8_7 rfl (D (31, .getfield 7, 3) (mg 16 rfl)) rfl ?_
      refine X_iload_n C 1 (D (34, .iload_n 1, 1) (mg 17 rfl)) rfl rfl ?_
      refine X_cS (As := [.ref (wA w (m + 1)), .int (nI (j))]) (st := []) C (post := _) (ct_X8_highOf hw (⟨by omega, hs1, by omega, by omega⟩ : rw56 w (m + 1) 310) (by omega) h g) kX8_107 (by decide) (by decide) rfl rfl (Nat.le_of_ble_eq_true rfl) (D (35, .invokestatic 107, 3) (mg 18 rfl)) rfl (fun v11 H9 G10 hv11 => ?_)
      obtain ⟨rfl, rfl, rfl⟩ := hv11
      show X k w _ 38 [some (.ref (wA w (m))), some (.int (nI (j))), none] [.int (hiV (h (m + 1) (3 + (j))))] h g
      refine X_istore_n (ls' := [some (.ref (wA w (m))), some (.int (nI (j))), some (.int (hiV (h (m + 1) (3 + (j)))))]) C 2 (D (38, .istore_n 2, 1) (mg 19 rfl)) rfl (Nat.le_of_ble_eq_true rfl) rfl ?_
      refine X_aload_n C 0 (D (39, .aload_n 0, 1) (mg 20 rfl)) rfl rfl ?_
      refine X_cV (As := []) (st := []) C (post := _) (m) (by omega) hsm rfl (ct_X8_save hw hM hn h g hb) kX8_129 (by decide) (by decide) rfl rfl (Nat.le_of_ble_eq_true rfl) (D (40, .invokevirtual 129, 3) (mg 21 rfl)) rfl (fun v14 H12 G13 hv14 => ?_)
      obtain ⟨rfl, rfl, rfl⟩ := hv14
      show X k w _ 43 [some (.ref (wA w (m))), some (.int (nI (j))), some (.int (hiV (h (m + 1) (3 + (j)))))] [] (svH h (m + 1) n) g
      refine X_aload_n C 0 (D (43, .aload_n 0, 1) (mg 22 rfl)) rfl rfl ?_
      refine X_get (v := .ref (wA w (m + 1))) C (m) 0 (by omega) hsm rfl rfl (by decide) inX8 fX8_7 rfl (D (44, .getfield 7, 3) (mg 23 rfl)) rfl ?_
      refine X_iconst (v := nI (3)) C (D (47, .iconst 3, 1) (mg 24 rfl)) (by decide) ?_
      refine X_iload_n C 1 (D (48, .iload_n 1, 1) (mg 25 rfl)) rfl rfl ?_
      refine X_iadd C (D (49, .iadd, 1) (mg 26 rfl)) ?_
      refine X_ti (y := nI (3 + j)) (nI_add (3) (j)) ?_
      refine X_iconst (v := nI (0)) C (D (50, .iconst 0, 1) (mg 27 rfl)) (by decide) ?_
      refine X_iast (j := 3 + j) C (m + 1) (by omega) hs1 (vp_in_nI (by omega) (by omega)) (D (51, .iastore, 1) (mg 28 rfl)) (nI_clamp (by omega)) ?_
      refine X_iload_n C 2 (D (52, .iload_n 2, 1) (mg 29 rfl)) rfl rfl ?_
      exact X_iret C (D (53, .ireturn, 1) (mg 30 rfl)) ⟨fun _ => ⟨fun _ => ⟨by rw [nI_toInt (n := j) (by omega), Int.toNat_natCast], by rw [nI_toInt (n := j) (by omega), Int.toNat_natCast], rfl⟩, fun z => absurd (by rw [nI_toInt (n := j) (by omega), Int.toNat_natCast]; assumption) z⟩, fun z => absurd (by omega) z⟩
    · skip
      have q8 : ¬ (¬ h (m + 1) (3 + (j)) = 0) := bz0.mp q8
      refine X_aload_n C 0 (D (25, .aload_n 0, 1) (mg 12 rfl)) rfl rfl ?_
      refine X_cV (As := []) (st := []) C (post := _) (m) (by omega) hsm rfl (ct_X8_no hw hM h g) kX8_125 (by decide) (by decide) rfl rfl (Nat.le_of_ble_eq_true rfl) (D (26, .invokevirtual 125, 3) (mg 13 rfl)) rfl (fun v17 H15 G16 hv17 => ?_)
      obtain ⟨rfl, rfl, rfl⟩ := hv17
      show X k w _ 29 [some (.ref (wA w (m))), some (.int (nI (j))), none] [.int ((-3 : Int32))] (rfH h m 1) g
      exact X_iret C (D (29, .ireturn, 1) (mg 14 rfl)) ⟨fun _ => ⟨fun z => absurd z (by rw [nI_toInt (n := j) (by omega), Int.toNat_natCast]; assumption), fun _ => ⟨rfl, rfl, rfl⟩⟩, fun z => absurd (by omega) z⟩
  · skip
    have q4 : ¬ (0 ≤ (c).toInt ∧ (c).toInt < 25) := bz0.mp q4
    refine X_aload_n C 0 (D (7, .aload_n 0, 1) (mg 3 rfl)) rfl rfl ?_
    refine X_bipush (v := (-2 : Int32)) C (D (8, .bipush (-2), 2) (mg 4 rfl)) (by decide) ?_
    refine X_cV (As := [.int ((-2 : Int32))]) (st := []) C (post := _) (m) (by omega) hsm rfl (ct_X8_bad hw hM ((-2 : Int32)) h g) kX8_75 (by decide) (by decide) rfl rfl (Nat.le_of_ble_eq_true rfl) (D (10, .invokevirtual 75, 3) (mg 5 rfl)) rfl (fun v20 H18 G19 hv20 => ?_)
    obtain ⟨rfl, rfl, rfl⟩ := hv20
    show X k w _ 13 [some (.ref (wA w (m))), some (.int (c)), none] [.int ((-2 : Int32))] (rfH h m 0) g
    exact X_iret C (D (13, .ireturn, 1) (mg 6 rfl)) ⟨fun z => absurd z (by omega), fun _ => ⟨rfl, rfl, rfl⟩⟩
set_option maxHeartbeats 4000000 in
set_option maxRecDepth 100000 in
theorem ct_X8_weeks {l : Launch} {w : Kw} (hw : wOk w) {m : Nat} (hM : shM w m) (x : Int32) {n : Nat} (hn : n ≤ 8) (h : xI) (g : xJ) (hb : h (m + 1) 2 = nI n) : Ct l w yX8_weeks cX8_weeks 2 (some .int) 3 69 [.ref (wA w (m)), .int (x)] h g (pif (1 ≤ x.toInt ∧ x.toInt ≤ 60) (px (some (.int (nI (cn (fun z => ¬ hiV ((wks (m + 1) x.toInt.toNat (svH h (m + 1) n)) (m + 1) (3 + z)) < nI 1) 25)))) (wks (m + 1) x.toInt.toNat (svH h (m + 1) n)) g) (px (some (.int (-2 : Int32))) (rfH h m 0) g)) := by
  refine Ct_of (ls := [some (.ref (wA w (m))), some (.int (x))]) (by decide) hw (Nat.le_of_ble_eq_true rfl) rfl (fun k hkl C => ?_)
  have C : Cx k w cX8_weeks RX8 2 (some .int) 3 69 := C
  have D := dtX8_weeks
  subst hkl
  have hM0 := hM
  obtain ⟨hm, hsm, hs1, hs2, hs3, hs4, hs5, hs6, hs7, hs8, hs9, hs10, hs11⟩ := hM
  have hM := hM0
  refine X_iload_n C 1 (D (0, .iload_n 1, 1) (mg 0 rfl)) rfl rfl ?_
  refine X_i2l C (D (1, .i2l, 1) (mg 1 rfl)) ?_
  refine X_lconst (v := lN 1) C (D (2, .lconst 1, 1) (mg 2 rfl)) (by decide) ?_
  refine X_ldc2 C (D (3, .ldc2_w 138, 3) (mg 3 rfl)) vX8_138 ?_
  refine X_cS (As := [.long ((x).toInt64), .long (lN 1), .long ((60 : Int64))]) (st := []) C (post := _) (ct_X8_in hw ((x).toInt64) (lN 1) ((60 : Int64)) h g) kX8_54 (by decide) (by decide) rfl rfl (Nat.le_of_ble_eq_true rfl) (D (6, .invokestatic 54, 3) (mg 4 rfl)) rfl (fun v3 H1 G2 hv3 => ?_)
  obtain ⟨rfl, rfl, rfl⟩ := hv3
  show X k w _ 9 [some (.ref (wA w (m))), some (.int (x))] [.int (if (lN 1).toInt ≤ ((x).toInt64).toInt ∧ ((x).toInt64).toInt ≤ ((60 : Int64)).toInt then 1 else 0)] h g
  refine X_if_ne (tgt := 19) C (D (9, .ifCond .ne 10, 3) (mg 5 rfl)) (by decide) (fun q4 => ?_) (fun q4 => ?_)
  · skip
    have q4 : ((lN 1).toInt ≤ ((x).toInt64).toInt ∧ ((x).toInt64).toInt ≤ ((60 : Int64)).toInt) := bz1.mp q4
    simp only [i6, show (lN 1).toInt = 1 from by decide, show (60 : Int64).toInt = 60 from by decide] at q4
    obtain ⟨i, hi, rfl⟩ := nI_i (x := x) (n := 61) (by omega) (by omega)
    refine X_aload_n C 0 (D (19, .aload_n 0, 1) (mg 10 rfl)) rfl rfl ?_
    refine X_cV (As := []) (st := []) C (post := _) (m) (by omega) hsm rfl (ct_X8_save hw hM hn h g hb) kX8_129 (by decide) (by decide) rfl rfl (Nat.le_of_ble_eq_true rfl) (D (20, .invokevirtual 129, 3) (mg 11 rfl)) rfl (fun v7 H5 G6 hv7 => ?_)
    obtain ⟨rfl, rfl, rfl⟩ := hv7
    show X k w _ 23 [some (.ref (wA w (m))), some (.int (nI (i)))] [] (svH h (m + 1) n) g
    refine X_aload_n C 0 (D (23, .aload_n 0, 1) (mg 12 rfl)) rfl rfl ?_
    refine X_get (v := .ref (wA w (m + 1))) C (m) 0 (by omega) hsm rfl rfl (by decide) inX8 fX8_7 rfl (D (24, .getfield 7, 3) (mg 13 rfl)) rfl ?_
    refine X_iload_n C 1 (D (27, .iload_n 1, 1) (mg 14 rfl)) rfl rfl ?_
    refine X_cS (As := [.ref (wA w (m + 1)), .int (nI (i))]) (st := []) C (post := _) (ct_X8_goWeeks hw (⟨by omega, hs1, by omega, by omega⟩ : rw56 w (m + 1) 310) (by omega) (svH h (m + 1) n) g) kX8_140 (by decide) (by decide) rfl rfl (Nat.le_of_ble_eq_true rfl) (D (28, .invokestatic 140, 3) (mg 15 rfl)) rfl (fun v10 H8 G9 hv10 => ?_)
    obtain ⟨rfl, rfl, rfl⟩ := hv10
    show X k w _ 31 [some (.ref (wA w (m))), some (.int (nI (i)))] [] (wks (m + 1) (i) (svH h (m + 1) n)) g
    refine X_aload_n C 0 (D (31, .aload_n 0, 1) (mg 16 rfl)) rfl rfl ?_
    refine X_get (v := .ref (wA w (m + 1))) C (m) 0 (by omega) hsm rfl rfl (by decide) inX8 fX8_7 rfl (D (32, .getfield 7, 3) (mg 17 rfl)) rfl ?_
    refine X_iconst (v := nI (1)) C (D (35, .iconst 1, 1) (mg 18 rfl)) (by decide) ?_
    refine X_cS (As := [.ref (wA w (m + 1)), .int (nI (1))]) (st := []) C (post := _) (ct_X8_manyAtLeast hw (⟨by omega, hs1, by omega, by omega⟩ : rw56 w (m + 1) 310) (nI (1)) (wks (m + 1) (i) (svH h (m + 1) n)) g) kX8_143 (by decide) (by decide) rfl rfl (Nat.le_of_ble_eq_true rfl) (D (36, .invokestatic 143, 3) (mg 19 rfl)) rfl (fun v13 H11 G12 hv13 => ?_)
    obtain ⟨rfl, rfl, rfl⟩ := hv13
    show X k w _ 39 [some (.ref (wA w (m))), some (.int (nI (i)))] [.int (nI (cn (fun c => ¬ hiV ((wks (m + 1) (i) (svH h (m + 1) n)) (m + 1) (3 + c)) < nI (1)) 25))] (wks (m + 1) (i) (svH h (m + 1) n)) g
    exact X_iret C (D (39, .ireturn, 1) (mg 20 rfl)) ⟨fun _ => ⟨by rw [nI_toInt (n := i) (by omega), Int.toNat_natCast], by rw [nI_toInt (n := i) (by omega), Int.toNat_natCast], rfl⟩, fun z => absurd (by omega) z⟩
  · skip
    have q4 : ¬ ((lN 1).toInt ≤ ((x).toInt64).toInt ∧ ((x).toInt64).toInt ≤ ((60 : Int64)).toInt) := bz0.mp q4
    simp only [i6, show (lN 1).toInt = 1 from by decide, show (60 : Int64).toInt = 60 from by decide] at q4
    refine X_aload_n C 0 (D (12, .aload_n 0, 1) (mg 6 rfl)) rfl rfl ?_
    refine X_bipush (v := (-2 : Int32)) C (D (13, .bipush (-2), 2) (mg 7 rfl)) (by decide) ?_
    refine X_cV (As := [.int ((-2 : Int32))]) (st := []) C (post := _) (m) (by omega) hsm rfl (ct_X8_bad hw hM ((-2 : Int32)) h g) kX8_75 (by decide) (by decide) rfl rfl (Nat.le_of_ble_eq_true rfl) (D (15, .invokevirtual 75, 3) (mg 8 rfl)) rfl (fun v16 H14 G15 hv16 => ?_)
    obtain ⟨rfl, rfl, rfl⟩ := hv16
    show X k w _ 18 [some (.ref (wA w (m))), some (.int (x))] [.int ((-2 : Int32))] (rfH h m 0) g
    exact X_iret C (D (18, .ireturn, 1) (mg 9 rfl)) ⟨fun z => absurd z (by omega), fun _ => ⟨rfl, rfl, rfl⟩⟩
set_option maxHeartbeats 4000000 in
set_option maxRecDepth 100000 in
theorem ct_X8_undo {l : Launch} {w : Kw} (hw : wOk w) {m : Nat} (hM : shM w m) {n : Nat} (hn : n ≤ 8) (h : xI) (g : xJ) (hb : h (m + 1) 2 = nI n) : Ct l w yX8_undo cX8_undo 2 (some .int) 1 20 [.ref (wA w (m))] h g (pif (n = 0) (px (some (.int (-3 : Int32))) (rfH h m 1) g) (px (some (.int ((cpS (u2 h (m + 1) 2 (nI (n - 1))) (m + 1) (94 + 27 * (n - 1)) (m + 1) 3 27) (m + 1) 29))) (cpS (u2 h (m + 1) 2 (nI (n - 1))) (m + 1) (94 + 27 * (n - 1)) (m + 1) 3 27) g)) := by
  refine Ct_of (ls := [some (.ref (wA w (m))), none]) (by decide) hw (Nat.le_of_ble_eq_true rfl) rfl (fun k hkl C => ?_)
  have C : Cx k w cX8_undo RX8 2 (some .int) 1 20 := C
  have D := dtX8_undo
  subst hkl
  have hM0 := hM
  obtain ⟨hm, hsm, hs1, hs2, hs3, hs4, hs5, hs6, hs7, hs8, hs9, hs10, hs11⟩ := hM
  have hM := hM0
  refine X_aload_n C 0 (D (0, .aload_n 0, 1) (mg 0 rfl)) rfl rfl ?_
  refine X_get (v := .ref (wA w (m + 1))) C (m) 0 (by omega) hsm rfl rfl (by decide) inX8 fX8_7 rfl (D (1, .getfield 7, 3) (mg 1 rfl)) rfl ?_
  refine X_iconst (v := nI (2)) C (D (4, .iconst 2, 1) (mg 2 rfl)) (by decide) ?_
  refine X_iald (v := h (m + 1) (2)) C (m + 1) (by omega) hs1 (vp_in_nI (by omega) (by omega)) (D (5, .iaload, 1) (mg 3 rfl)) (by rw [nI_clamp (by omega)]) ?_
  refine X_ti (y := nI (n)) hb ?_
  refine X_if_ne (tgt := 14) C (D (6, .ifCond .ne 8, 3) (mg 4 rfl)) (by decide) (fun q1 => ?_) (fun q1 => ?_)
  · skip
    have q1 : (n) ≠ (0) := by have z : ¬ ((n) = (0)) := fun u => q1 ((nI_eq (a := (n)) (b := (0)) (by omega) (by omega)).mpr u); omega
    refine X_aload_n C 0 (D (14, .aload_n 0, 1) (mg 8 rfl)) rfl rfl ?_
    refine X_get (v := .ref (wA w (m + 1))) C (m) 0 (by omega) hsm rfl rfl (by decide) inX8 fX8_7 rfl (D (15, .getfield 7, 3) (mg 9 rfl)) rfl ?_
    refine X_iconst (v := nI (2)) C (D (18, .iconst 2, 1) (mg 10 rfl)) (by decide) ?_
    refine X_dup2 C (D (19, .dup2, 1) (mg 11 rfl)) rfl rfl ?_
    refine X_iald (v := h (m + 1) (2)) C (m + 1) (by omega) hs1 (vp_in_nI (by omega) (by omega)) (D (20, .iaload, 1) (mg 12 rfl)) (by rw [nI_clamp (by omega)]) ?_
    refine X_ti (y := nI (n)) hb ?_
    refine X_iconst (v := nI (1)) C (D (21, .iconst 1, 1) (mg 13 rfl)) (by decide) ?_
    refine X_isub C (D (22, .isub, 1) (mg 14 rfl)) ?_
    refine X_ti (y := nI (n - 1)) (pk_sub (by omega)) ?_
    refine X_iast (j := 2) C (m + 1) (by omega) hs1 (vp_in_nI (by omega) (by omega)) (D (23, .iastore, 1) (mg 15 rfl)) (nI_clamp (by omega)) ?_
    refine X_iconst (v := nI (0)) C (D (24, .iconst 0, 1) (mg 16 rfl)) (by decide) ?_
    refine X_istore_n (ls' := [some (.ref (wA w (m))), some (.int (nI (0)))]) C 1 (D (25, .istore_n 1, 1) (mg 17 rfl)) rfl (Nat.le_of_ble_eq_true rfl) rfl ?_
    have lp26 : ∀ (nn26 : Nat) (j : Nat), (j ≤ 27) → 28 - j ≤ nn26 → X k w (Zq k w (pif (n = 0) (px (some (.int (-3 : Int32))) (rfH h m 1) g) (px (some (.int ((cpS (u2 h (m + 1) 2 (nI (n - 1))) (m + 1) (94 + 27 * (n - 1)) (m + 1) 3 27) (m + 1) 29))) (cpS (u2 h (m + 1) 2 (nI (n - 1))) (m + 1) (94 + 27 * (n - 1)) (m + 1) 3 27) g))) 26 [some (.ref (wA w (m))), some (.int (nI (j)))] [] (cpS (u2 h (m + 1) 2 (nI (n - 1))) (m + 1) (94 + 27 * (n - 1)) (m + 1) 3 (j)) g := by
      intro nn26
      induction nn26 with
      | zero => intro j hc26_0 hz; exact absurd hz (by omega)
      | succ nn26 ih26 =>
        intro j hc26_0 hz26
        refine X_iload_n C 1 (D (26, .iload_n 1, 1) (mg 18 rfl)) rfl rfl ?_
        refine X_bipush (v := nI (27)) C (D (27, .bipush 27, 2) (mg 19 rfl)) (by decide) ?_
        refine X_icmp_ge (tgt := 65) C (D (29, .if_icmp .ge 36, 3) (mg 20 rfl)) (by decide) (fun q2 => ?_) (fun q2 => ?_)
        · skip
          have q2 : (j) ≥ (27) := by have z := (nI_leI (a := (27)) (b := (j)) (by omega) (by omega)).mp q2; omega
          refine X_aload_n C 0 (D (65, .aload_n 0, 1) (mg 42 rfl)) rfl rfl ?_
          refine X_get (v := .ref (wA w (m + 1))) C (m) 0 (by omega) hsm rfl rfl (by decide) inX8 fX8_7 rfl (D (66, .getfield 7, 3) (mg 43 rfl)) rfl ?_
          refine X_bipush (v := nI (29)) C (D (69, .bipush 29, 2) (mg 44 rfl)) (by decide) ?_
          refine X_iald (v := (cpS (u2 h (m + 1) 2 (nI (n - 1))) (m + 1) (94 + 27 * (n - 1)) (m + 1) 3 (j)) (m + 1) (29)) C (m + 1) (by omega) hs1 (vp_in_nI (by omega) (by omega)) (D (71, .iaload, 1) (mg 45 rfl)) (by rw [nI_clamp (by omega)]) ?_
          exact X_iret C (D (72, .ireturn, 1) (mg 46 rfl)) ⟨fun z => absurd z (by omega), fun _ => ⟨by rw [show j = 27 by omega], by rw [show j = 27 by omega], rfl⟩⟩
        · skip
          have q2 : (j) < (27) := by have z : ¬ ((27) ≤ (j)) := fun u => q2 ((nI_leI (a := (27)) (b := (j)) (by omega) (by omega)).mpr u); omega
          refine X_aload_n C 0 (D (32, .aload_n 0, 1) (mg 21 rfl)) rfl rfl ?_
          refine X_get (v := .ref (wA w (m + 1))) C (m) 0 (by omega) hsm rfl rfl (by decide) inX8 fX8_7 rfl (D (33, .getfield 7, 3) (mg 22 rfl)) rfl ?_
          refine X_iconst (v := nI (3)) C (D (36, .iconst 3, 1) (mg 23 rfl)) (by decide) ?_
          refine X_iload_n C 1 (D (37, .iload_n 1, 1) (mg 24 rfl)) rfl rfl ?_
          refine X_iadd C (D (38, .iadd, 1) (mg 25 rfl)) ?_
          refine X_ti (y := nI (3 + j)) (nI_add (3) (j)) ?_
          refine X_aload_n C 0 (D (39, .aload_n 0, 1) (mg 26 rfl)) rfl rfl ?_
          refine X_get (v := .ref (wA w (m + 1))) C (m) 0 (by omega) hsm rfl rfl (by decide) inX8 fX8_7 rfl (D (40, .getfield 7, 3) (mg 27 rfl)) rfl ?_
          refine X_bipush (v := nI (94)) C (D (43, .bipush 94, 2) (mg 28 rfl)) (by decide) ?_
          refine X_bipush (v := nI (27)) C (D (45, .bipush 27, 2) (mg 29 rfl)) (by decide) ?_
          refine X_aload_n C 0 (D (47, .aload_n 0, 1) (mg 30 rfl)) rfl rfl ?_
          refine X_get (v := .ref (wA w (m + 1))) C (m) 0 (by omega) hsm rfl rfl (by decide) inX8 fX8_7 rfl (D (48, .getfield 7, 3) (mg 31 rfl)) rfl ?_
          refine X_iconst (v := nI (2)) C (D (51, .iconst 2, 1) (mg 32 rfl)) (by decide) ?_
          refine X_iald (v := (cpS (u2 h (m + 1) 2 (nI (n - 1))) (m + 1) (94 + 27 * (n - 1)) (m + 1) 3 (j)) (m + 1) (2)) C (m + 1) (by omega) hs1 (vp_in_nI (by omega) (by omega)) (D (52, .iaload, 1) (mg 33 rfl)) (by rw [nI_clamp (by omega)]) ?_
          refine X_ti (y := nI (n - 1)) (by rw [cpS_o _ _ _ _ _ _ _ (by omega)]; exact u2_s _ _ _ _) ?_
          refine X_imul C (D (53, .imul, 1) (mg 34 rfl)) ?_
          refine X_ti (y := nI ((27) * (n - 1))) (pk_mul (27) (n - 1)) ?_
          refine X_iadd C (D (54, .iadd, 1) (mg 35 rfl)) ?_
          refine X_ti (y := nI (94 + (27) * (n - 1))) (nI_add (94) ((27) * (n - 1))) ?_
          refine X_iload_n C 1 (D (55, .iload_n 1, 1) (mg 36 rfl)) rfl rfl ?_
          refine X_iadd C (D (56, .iadd, 1) (mg 37 rfl)) ?_
          refine X_ti (y := nI (94 + (27) * (n - 1) + j)) (nI_add (94 + (27) * (n - 1)) (j)) ?_
          refine X_iald (v := (cpS (u2 h (m + 1) 2 (nI (n - 1))) (m + 1) (94 + 27 * (n - 1)) (m + 1) 3 (j)) (m + 1) (94 + (27) * (n - 1) + j)) C (m + 1) (by omega) hs1 (vp_in_nI (by omega) (by omega)) (D (57, .iaload, 1) (mg 38 rfl)) (by rw [nI_clamp (by omega)]) ?_
          refine X_iast (j := 3 + j) C (m + 1) (by omega) hs1 (vp_in_nI (by omega) (by omega)) (D (58, .iastore, 1) (mg 39 rfl)) (nI_clamp (by omega)) ?_
          refine X_iinc (v := nI (j + 1)) (ls' := [some (.ref (wA w (m))), some (.int (nI (j + 1)))]) C (D (59, .iinc 1 1, 3) (mg 40 rfl)) rfl (nI_add (j) 1) rfl ?_
          refine X_goto (tgt := 26) C (D (62, .goto (-36), 3) (mg 41 rfl)) (by decide) ?_
          refine X_eq (ls' := [some (.ref (wA w (m))), some (.int (nI (j + 1)))]) (st' := []) (h' := (cpS (u2 h (m + 1) 2 (nI (n - 1))) (m + 1) (94 + 27 * (n - 1)) (m + 1) 3 (j + 1))) (g' := g) rfl rfl (cpS_s (u2 h (m + 1) 2 (nI (n - 1))) (m + 1) (94 + 27 * (n - 1)) (m + 1) 3 (j) (cpS_o (u2 h (m + 1) 2 (nI (n - 1))) (m + 1) (94 + 27 * (n - 1)) (m + 1) 3 (j) (m + 1) (by omega)).symm) rfl ?_
          exact ih26 (j + 1) (by omega) (by omega)
    refine X_eq (ls' := [some (.ref (wA w (m))), some (.int (nI (0)))]) (st' := []) (h' := (cpS (u2 h (m + 1) 2 (nI (n - 1))) (m + 1) (94 + 27 * (n - 1)) (m + 1) 3 (0))) (g' := g) rfl rfl (cpS_0 (u2 h (m + 1) 2 (nI (n - 1))) (m + 1) (94 + 27 * (n - 1)) (m + 1) 3).symm rfl ?_
    exact lp26 _ (0) (by omega) (Nat.le_refl _)
  · skip
    have q1 : (n) = (0) := by have z := (nI_eq (a := (n)) (b := (0)) (by omega) (by omega)).mp q1; omega
    refine X_aload_n C 0 (D (9, .aload_n 0, 1) (mg 5 rfl)) rfl rfl ?_
    refine X_cV (As := []) (st := []) C (post := _) (m) (by omega) hsm rfl (ct_X8_no hw hM h g) kX8_125 (by decide) (by decide) rfl rfl (Nat.le_of_ble_eq_true rfl) (D (10, .invokevirtual 125, 3) (mg 6 rfl)) rfl (fun v5 H3 G4 hv5 => ?_)
    obtain ⟨rfl, rfl, rfl⟩ := hv5
    show X k w _ 13 [some (.ref (wA w (m))), none] [.int ((-3 : Int32))] (rfH h m 1) g
    exact X_iret C (D (13, .ireturn, 1) (mg 7 rfl)) ⟨fun _ => ⟨rfl, rfl, rfl⟩, fun z => absurd (by omega) z⟩
set_option maxHeartbeats 4000000 in
set_option maxRecDepth 100000 in
theorem ct_X8_drags {l : Launch} {w : Kw} (hw : wOk w) {m : Nat} (hM : shM w m) (x : Int32) {n : Nat} (hn : n ≤ 8) {p : Nat} (hp : p < 25) (h : xI) (g : xJ) (hb : h (m + 1) 2 = nI n) (hpl : h (m + 1) 28 = nI p) : Ct l w yX8_drags cX8_drags 2 (some .int) 4 91 [.ref (wA w (m)), .int (x)] h g (pif (0 ≤ x.toInt ∧ x.toInt ≤ 3) (pif (bsN p x.toInt.toNat < 25) (px (some (.int (nI (bsN p x.toInt.toNat)))) (stH (svH h (m + 1) n) (m + 1) (bsN p x.toInt.toNat)) g) (px (some (.int (-3 : Int32))) (rfH h m 1) g)) (px (some (.int (-2 : Int32))) (rfH h m 0) g)) := by
  refine Ct_of (ls := [some (.ref (wA w (m))), some (.int (x))]) (by decide) hw (Nat.le_of_ble_eq_true rfl) rfl (fun k hkl C => ?_)
  have C : Cx k w cX8_drags RX8 2 (some .int) 4 91 := C
  have D := dtX8_drags
  subst hkl
  have hM0 := hM
  obtain ⟨hm, hsm, hs1, hs2, hs3, hs4, hs5, hs6, hs7, hs8, hs9, hs10, hs11⟩ := hM
  have hM := hM0
  refine X_iload_n C 1 (D (0, .iload_n 1, 1) (mg 0 rfl)) rfl rfl ?_
  refine X_i2l C (D (1, .i2l, 1) (mg 1 rfl)) ?_
  refine X_lconst (v := lN 0) C (D (2, .lconst 0, 1) (mg 2 rfl)) (by decide) ?_
  refine X_ldc2 C (D (3, .ldc2_w 132, 3) (mg 3 rfl)) vX8_132 ?_
  refine X_cS (As := [.long ((x).toInt64), .long (lN 0), .long ((3 : Int64))]) (st := []) C (post := _) (ct_X8_in hw ((x).toInt64) (lN 0) ((3 : Int64)) h g) kX8_54 (by decide) (by decide) rfl rfl (Nat.le_of_ble_eq_true rfl) (D (6, .invokestatic 54, 3) (mg 4 rfl)) rfl (fun v3 H1 G2 hv3 => ?_)
  obtain ⟨rfl, rfl, rfl⟩ := hv3
  show X k w _ 9 [some (.ref (wA w (m))), some (.int (x))] [.int (if (lN 0).toInt ≤ ((x).toInt64).toInt ∧ ((x).toInt64).toInt ≤ ((3 : Int64)).toInt then 1 else 0)] h g
  refine X_if_ne (tgt := 19) C (D (9, .ifCond .ne 10, 3) (mg 5 rfl)) (by decide) (fun q4 => ?_) (fun q4 => ?_)
  · skip
    have q4 : ((lN 0).toInt ≤ ((x).toInt64).toInt ∧ ((x).toInt64).toInt ≤ ((3 : Int64)).toInt) := bz1.mp q4
    simp only [i6, show (lN 0).toInt = 0 from by decide, show (3 : Int64).toInt = 3 from by decide] at q4
    obtain ⟨i, hi, rfl⟩ := nI_i (x := x) (n := 4) (by omega) (by omega)
    refine X_aload_n C 0 (D (19, .aload_n 0, 1) (mg 10 rfl)) rfl rfl ?_
    refine X_get (v := .ref (wA w (m + 1))) C (m) 0 (by omega) hsm rfl rfl (by decide) inX8 fX8_7 rfl (D (20, .getfield 7, 3) (mg 11 rfl)) rfl ?_
    refine X_bipush (v := nI (28)) C (D (23, .bipush 28, 2) (mg 12 rfl)) (by decide) ?_
    refine X_iald (v := h (m + 1) (28)) C (m + 1) (by omega) hs1 (vp_in_nI (by omega) (by omega)) (D (25, .iaload, 1) (mg 13 rfl)) (by rw [nI_clamp (by omega)]) ?_
    refine X_ti (y := nI (p)) hpl ?_
    refine X_iload_n C 1 (D (26, .iload_n 1, 1) (mg 14 rfl)) rfl rfl ?_
    refine X_cS (As := [.int (nI (p)), .int (nI (i))]) (st := []) C (post := _) (ct_X8_beside hw (by omega) (nI (i)) h g) kX8_110 (by decide) (by decide) rfl rfl (Nat.le_of_ble_eq_true rfl) (D (27, .invokestatic 110, 3) (mg 15 rfl)) rfl (fun v7 H5 G6 hv7 => ?_)
    obtain ⟨rfl, rfl, rfl⟩ := hv7
    show X k w _ 30 [some (.ref (wA w (m))), some (.int (nI (i)))] [.int (bsA (p) (nI (i)))] h g
    refine X_iconst (v := (-1 : Int32)) C (D (30, .iconst (-1), 1) (mg 16 rfl)) (by decide) ?_
    refine X_icmp_ne (tgt := 39) C (D (31, .if_icmp .ne 8, 3) (mg 17 rfl)) (by decide) (fun q8 => ?_) (fun q8 => ?_)
    · skip
      have hc := bs_lt hp hi q8
      refine X_aload_n C 0 (D (39, .aload_n 0, 1) (mg 21 rfl)) rfl rfl ?_
      refine X_cV (As := []) (st := []) C (post := _) (m) (by omega) hsm rfl (ct_X8_save hw hM hn h g hb) kX8_129 (by decide) (by decide) rfl rfl (Nat.le_of_ble_eq_true rfl) (D (40, .invokevirtual 129, 3) (mg 22 rfl)) rfl (fun v11 H9 G10 hv11 => ?_)
      obtain ⟨rfl, rfl, rfl⟩ := hv11
      show X k w _ 43 [some (.ref (wA w (m))), some (.int (nI (i)))] [] (svH h (m + 1) n) g
      refine X_aload_n C 0 (D (43, .aload_n 0, 1) (mg 23 rfl)) rfl rfl ?_
      refine X_get (v := .ref (wA w (m + 1))) C (m) 0 (by omega) hsm rfl rfl (by decide) inX8 fX8_7 rfl (D (44, .getfield 7, 3) (mg 24 rfl)) rfl ?_
      refine X_iload_n C 1 (D (47, .iload_n 1, 1) (mg 25 rfl)) rfl rfl ?_
      refine X_cS (As := [.ref (wA w (m + 1)), .int (nI (i))]) (st := []) C (post := _) (ct_X8_goStep hw (⟨by omega, hs1, by omega, by omega⟩ : rw56 w (m + 1) 310) hp hc (nI (i)) (svH h (m + 1) n) g (by rw [sv_lo h (m + 1) n (by omega) (by omega)]; exact hpl) (bs_eq hp hi hc)) kX8_134 (by decide) (by decide) rfl rfl (Nat.le_of_ble_eq_true rfl) (D (48, .invokestatic 134, 3) (mg 26 rfl)) rfl (fun v14 H12 G13 hv14 => ?_)
      obtain ⟨rfl, rfl, rfl⟩ := hv14
      show X k w _ 51 [some (.ref (wA w (m))), some (.int (nI (i)))] [] (stH (svH h (m + 1) n) (m + 1) (bsN p i)) g
      refine X_aload_n C 0 (D (51, .aload_n 0, 1) (mg 27 rfl)) rfl rfl ?_
      refine X_get (v := .ref (wA w (m + 1))) C (m) 0 (by omega) hsm rfl rfl (by decide) inX8 fX8_7 rfl (D (52, .getfield 7, 3) (mg 28 rfl)) rfl ?_
      refine X_bipush (v := nI (28)) C (D (55, .bipush 28, 2) (mg 29 rfl)) (by decide) ?_
      refine X_iald (v := (stH (svH h (m + 1) n) (m + 1) (bsN p i)) (m + 1) (28)) C (m + 1) (by omega) hs1 (vp_in_nI (by omega) (by omega)) (D (57, .iaload, 1) (mg 30 rfl)) (by rw [nI_clamp (by omega)]) ?_
      refine X_ti (y := nI (bsN p i)) (st_28 _ _ _ hc) ?_
      exact X_iret C (D (58, .ireturn, 1) (mg 31 rfl)) ⟨fun _ => ⟨fun _ => ⟨by rw [nI_toInt (n := i) (by omega), Int.toNat_natCast], by rw [nI_toInt (n := i) (by omega), Int.toNat_natCast], rfl⟩, fun z => absurd (by rw [nI_toInt (n := i) (by omega), Int.toNat_natCast]; exact hc) z⟩, fun z => absurd (by omega) z⟩
    · skip
      have hc := bs_ge hp hi q8
      refine X_aload_n C 0 (D (34, .aload_n 0, 1) (mg 18 rfl)) rfl rfl ?_
      refine X_cV (As := []) (st := []) C (post := _) (m) (by omega) hsm rfl (ct_X8_no hw hM h g) kX8_125 (by decide) (by decide) rfl rfl (Nat.le_of_ble_eq_true rfl) (D (35, .invokevirtual 125, 3) (mg 19 rfl)) rfl (fun v17 H15 G16 hv17 => ?_)
      obtain ⟨rfl, rfl, rfl⟩ := hv17
      show X k w _ 38 [some (.ref (wA w (m))), some (.int (nI (i)))] [.int ((-3 : Int32))] (rfH h m 1) g
      exact X_iret C (D (38, .ireturn, 1) (mg 20 rfl)) ⟨fun _ => ⟨fun z => absurd z (by rw [nI_toInt (n := i) (by omega), Int.toNat_natCast]; exact hc), fun _ => ⟨rfl, rfl, rfl⟩⟩, fun z => absurd (by omega) z⟩
  · skip
    have q4 : ¬ ((lN 0).toInt ≤ ((x).toInt64).toInt ∧ ((x).toInt64).toInt ≤ ((3 : Int64)).toInt) := bz0.mp q4
    simp only [i6, show (lN 0).toInt = 0 from by decide, show (3 : Int64).toInt = 3 from by decide] at q4
    refine X_aload_n C 0 (D (12, .aload_n 0, 1) (mg 6 rfl)) rfl rfl ?_
    refine X_bipush (v := (-2 : Int32)) C (D (13, .bipush (-2), 2) (mg 7 rfl)) (by decide) ?_
    refine X_cV (As := [.int ((-2 : Int32))]) (st := []) C (post := _) (m) (by omega) hsm rfl (ct_X8_bad hw hM ((-2 : Int32)) h g) kX8_75 (by decide) (by decide) rfl rfl (Nat.le_of_ble_eq_true rfl) (D (15, .invokevirtual 75, 3) (mg 8 rfl)) rfl (fun v20 H18 G19 hv20 => ?_)
    obtain ⟨rfl, rfl, rfl⟩ := hv20
    show X k w _ 18 [some (.ref (wA w (m))), some (.int (x))] [.int ((-2 : Int32))] (rfH h m 0) g
    exact X_iret C (D (18, .ireturn, 1) (mg 9 rfl)) ⟨fun z => absurd z (by omega), fun _ => ⟨rfl, rfl, rfl⟩⟩
