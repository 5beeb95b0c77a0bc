/-! PHASE 3, THE CLASS: calls on a fresh object -/
/-- a fresh object of the class -/
def cFr (x : Nat) (h : xI) : Prop := cOk h x ∧ (∀ c, c < 25 → h (x + 4) c = (-1 : Int32)) ∧ (∀ c, c < 25 → h (x + 3) c = nI 0) ∧ h (x + 2) 2 = nI 0 ∧ h (x + 2) 3 = nI 0 ∧ h (x + 2) 4 = nI 0 ∧ h (x + 5) 1 = nI 0 ∧ h (x + 1) 4 = nI 0 ∧ h (x + 1) 5 = nI 0 ∧ h (x + 33) 2 = nI 0 ∧ h x 9 = nI 0 ∧ h x 10 = nI 0 ∧ h x 11 = nI 0
/-- y comes, and nothing of the reference changes -/
def pF (y : Int32) (x : Nat) (h : xI) : Option Value → xI → xJ → Prop := fun v h' _ => v = some (.int y) ∧ ∀ q i, x + 38 < q → h' q i = h q i
theorem pF_i {y y' : Int32} {x : Nat} {h h' : xI} {g : xJ} (e : y = y') (f : ∀ q i, x + 38 < q → h' q i = h q i) : pF y x h (some (.int y')) h' g := ⟨by rw [e], f⟩
theorem cn_e {h : xI} {q : Nat} {x : Int32} (hE : ∀ c, c < 25 → h q c = (-1 : Int32)) : cn (fun c => ¬ htC (h q c) x < nI 1) 25 = 0 := cn_0 25 (fun c hc z => z (by rw [hE c hc, htC_0]; decide))
theorem cn_e8 {h : xI} {q : Nat} {x : Int32} (hE : ∀ c, c < 25 → h q c = (-1 : Int32)) : cn (fun c => ¬ htC (h q c) x < nI 8) 25 = 0 := cn_0 25 (fun c hc z => z (by rw [hE c hc, htC_0]; decide))
theorem cn_put {h H : xI} {q n k : Nat} (hn : n < 25) (hk : k < 6) (hE : ∀ c, c < 25 → h q c = (-1 : Int32)) (f : ∀ c, H q c = h q c) : cn (fun c => ¬ u2 H q n (nI 1000 * nI k) q c = (-1 : Int32)) 25 = 1 := cn_1 25 hn (fun c hc => by
  by_cases e : c = n
  · subst e
    rw [u2_s, pk_mul]
    exact ⟨fun _ => rfl, fun _ => nI_nm (by omega)⟩
  · rw [u2_ne _ _ _ _ (by omega), f, hE c hc]
    exact ⟨fun z => absurd rfl z, fun z => absurd z e⟩)
theorem cw_emp {h : xI} {n : Nat} (hE : ∀ c, c < 25 → h (n + 2) c = (-1 : Int32)) : ∀ c, c < 25 → cwH h n (n + 2) c = (-1 : Int32) := fun c hc => by
  unfold cwH
  rw [u2_ne _ _ _ _ (by omega)]
  unfold mp
  rw [if_pos (by omega), hE c hc]
  decide
theorem cs_emp {h : xI} {n j : Nat} (hj : j < 25) (hE : ∀ c, c < 25 → h (n + 2) c = (-1 : Int32)) : ∀ c, c < 25 → csH h n j (n + 2) c = (-1 : Int32) := fun c hc => by
  unfold csH
  rw [if_neg (fun z => z (by rw [u2_ne _ _ _ _ (by omega)]; exact hE j hj)), u2_ne _ _ _ _ (by omega)]
  exact hE c hc
theorem cc_emp {h : xI} {n o : Nat} (hn : o + 2 < n ∨ n + 2 < o) (hE : ∀ c, c < 25 → h (o + 2) c = (-1 : Int32)) : ∀ c, c < 25 → ccH h n o (n + 2) c = (-1 : Int32) := fun c hc => by
  unfold ccH cc2 cc1 cc0
  rw [u2_ne _ _ _ _ (by omega), u2_ne _ _ _ _ (by omega), u2_ne _ _ _ _ (by omega), cpS_at _ _ _ _ _ _ ⟨rfl, by omega, by omega⟩, cpS_ne _ _ _ _ _ _ (by omega)]
  exact hE c hc
def drY (a : Int32) : Int32 := if a = 1 then nI 1 else if a = 2 then nI 5 else (-3 : Int32)
theorem drY_t : ∀ n, n < 4 → bsN 0 n < 25 → drY (nI n) = nI (bsN 0 n) := by decide +kernel
theorem drY_f : ∀ n, n < 4 → ¬ bsN 0 n < 25 → drY (nI n) = (-3 : Int32) := by decide +kernel
def ofY (a : Int32) : Int32 := if a = 0 then nI 0 else if a = 1 then (-1 : Int32) else if a = 2 then (-1 : Int32) else if a = 3 then (-1 : Int32) else if a = 4 then nI 0 else if a = 5 then (-1 : Int32) else (-2 : Int32)
theorem ofY_o {a : Int32} (h : a.toInt < 0 ∨ 5 < a.toInt) : ofY a = (-2 : Int32) := by
  unfold ofY
  rw [if_neg (ne_o h (by decide)), if_neg (ne_o h (by decide)), if_neg (ne_o h (by decide)), if_neg (ne_o h (by decide)), if_neg (ne_o h (by decide)), if_neg (ne_o h (by decide))]
theorem cn_f0 {h : xI} {q : Nat} (hE : ∀ c, c < 25 → h q c = (-1 : Int32)) : cn (fun c => ¬ h q c = (-1 : Int32)) 25 = 0 := cn_0 25 (fun c hc z => z (hE c hc))
set_option maxHeartbeats 4000000 in
set_option maxRecDepth 100000 in
theorem cx_X7_nave {l : Launch} {w : Kw} (hw : wOk w) {x : Nat} (hC : shC w x) (a1 a2 : Int32) (h : xI) (g : xJ) (hF : cFr x h) : Ct l w yX7_nave cX7_nave 4 (some .int) 2 45 [.ref (wA w (x)), .int (a1), .int (a2)] h g (pF (if (0 ≤ a1.toInt ∧ a1.toInt < 6) ∧ (0 ≤ a2.toInt ∧ a2.toInt < 25) then nI 0 else (-2 : Int32)) x h) := by
  refine Ct_of (ls := [some (.ref (wA w (x))), some (.int (a1)), some (.int (a2)), none]) (by decide) hw (Nat.le_of_ble_eq_true rfl) rfl (fun k hkl C => ?_)
  have C : Cx k w cX7_nave RX7 4 (some .int) 2 45 := C
  have D := dtX7_nave
  subst hkl
  have hC0 := hC
  obtain ⟨hxn, hsx, hT, hsi, hTa, hTb, hsk, hNs, hY, hX, hsv⟩ := hC
  have hY2 := hY.1
  have hX2 := hX.1
  obtain ⟨hI, hE, hSt, hk2, hk3, hk4, hps, hse, hma, htx, hr9, hr10, hr11⟩ := hF
  have hI0 := hI
  obtain ⟨⟨⟨c0_, hc0_, hat_⟩, hpa, -, -⟩, -, -, -, -⟩ := hI
  have hI := hI0
  refine X_iload_n C 1 (D (0, .iload_n 1, 1) (mg 0 rfl)) rfl rfl ?_
  refine X_bipush (v := nI (6)) C (D (1, .bipush 6, 2) (mg 1 rfl)) (by decide) ?_
  refine X_cS (As := [.int (a1), .int (nI (6))]) (st := []) C (post := _) (ct_X7_isBelow hw (a1) (B := 6) (by decide) h g) kX7_53 (by decide) (by decide) rfl rfl (Nat.le_of_ble_eq_true rfl) (D (3, .invokestatic 53, 3) (mg 2 rfl)) rfl (fun v3 H1 G2 hv3 => ?_)
  obtain ⟨rfl, rfl, rfl⟩ := hv3
  show X k w _ 6 [some (.ref (wA w (x))), some (.int (a1)), some (.int (a2)), none] [.int (if 0 ≤ (a1).toInt ∧ (a1).toInt < ((6 : Nat) : Int) then 1 else 0)] h g
  refine X_if_eq (tgt := 18) C (D (6, .ifCond .eq 12, 3) (mg 3 rfl)) (by decide) (fun q4 => ?_) (fun q4 => ?_)
  · skip
    have q4 : ¬ (0 ≤ (a1).toInt ∧ (a1).toInt < ((6 : Nat) : Int)) := bz0.mp q4
    refine X_aload_n C 0 (D (18, .aload_n 0, 1) (mg 8 rfl)) rfl rfl ?_
    refine X_cV (As := []) (st := []) C (post := _) (x) (by omega) hsx rfl (ct_X7_refuseBad hw hC0 h g) kX7_57 (by decide) (by decide) rfl rfl (Nat.le_of_ble_eq_true rfl) (D (19, .invokevirtual 57, 3) (mg 9 rfl)) rfl (fun v7 H5 G6 hv7 => ?_)
    obtain ⟨rfl, rfl, rfl⟩ := hv7
    show X k w _ 22 [some (.ref (wA w (x))), some (.int (a1)), some (.int (a2)), none] [.int ((-2 : Int32))] (rcH h (x) 9) g
    exact X_iret C (D (22, .ireturn, 1) (mg 10 rfl)) (pF_i (if_neg (by omega)) (fun q i z => by rw [rcH_ne _ _ _ (by omega)]))
  · skip
    have q4 : (0 ≤ (a1).toInt ∧ (a1).toInt < ((6 : Nat) : Int)) := bz1.mp q4
    refine X_iload_n C 2 (D (9, .iload_n 2, 1) (mg 4 rfl)) rfl rfl ?_
    refine X_bipush (v := nI (25)) C (D (10, .bipush 25, 2) (mg 5 rfl)) (by decide) ?_
    refine X_cS (As := [.int (a2), .int (nI (25))]) (st := []) C (post := _) (ct_X7_isBelow hw (a2) (B := 25) (by decide) h g) kX7_53 (by decide) (by decide) rfl rfl (Nat.le_of_ble_eq_true rfl) (D (12, .invokestatic 53, 3) (mg 6 rfl)) rfl (fun v10 H8 G9 hv10 => ?_)
    obtain ⟨rfl, rfl, rfl⟩ := hv10
    show X k w _ 15 [some (.ref (wA w (x))), some (.int (a1)), some (.int (a2)), none] [.int (if 0 ≤ (a2).toInt ∧ (a2).toInt < ((25 : Nat) : Int) then 1 else 0)] h g
    refine X_if_ne (tgt := 23) C (D (15, .ifCond .ne 8, 3) (mg 7 rfl)) (by decide) (fun q11 => ?_) (fun q11 => ?_)
    · skip
      have q11 : (0 ≤ (a2).toInt ∧ (a2).toInt < ((25 : Nat) : Int)) := bz1.mp q11
      refine X_aload_n C 0 (D (23, .aload_n 0, 1) (mg 11 rfl)) rfl rfl ?_
      refine X_get (v := .ref (wA w (x + 1))) C (x) 0 (by omega) hsx rfl rfl (by decide) inX7 fX7_10 rfl (D (24, .getfield 10, 3) (mg 12 rfl)) rfl ?_
      refine X_get (v := .ref (wA w (x + 2))) C (x + 1) 0 (by omega) hT.2.1 rfl rfl (by decide) inX4 fX7_61 rfl (D (27, .getfield 61, 3) (mg 13 rfl)) rfl ?_
      refine X_cV (As := []) (st := []) C (post := _) (x + 2) (by omega) hT.2.2.1.2.1 rfl (cx_X1_filled hw (n := x + 2) hT.2.2.1  h g) kX7_64 (by decide) (by decide) rfl rfl (Nat.le_of_ble_eq_true rfl) (D (30, .invokevirtual 64, 3) (mg 14 rfl)) rfl (fun v14 H12 G13 hv14 => ?_)
      obtain ⟨rfl, rfl, rfl⟩ := hv14
      show X k w _ 33 [some (.ref (wA w (x))), some (.int (a1)), some (.int (a2)), none] [.int (nI (cn (fun c => ¬ h (x + 4) c = (-1 : Int32)) 25))] h g
      refine X_ti (y := nI (0)) (congrArg nI (cn_f0 (q := x + 4) hE)) ?_
      refine X_istore_n (ls' := [some (.ref (wA w (x))), some (.int (a1)), some (.int (a2)), some (.int (nI (0)))]) C 3 (D (33, .istore_n 3, 1) (mg 15 rfl)) rfl (Nat.le_of_ble_eq_true rfl) rfl ?_
      refine X_aload_n C 0 (D (34, .aload_n 0, 1) (mg 16 rfl)) rfl rfl ?_
      refine X_get (v := .ref (wA w (x + 1))) C (x) 0 (by omega) hsx rfl rfl (by decide) inX7 fX7_10 rfl (D (35, .getfield 10, 3) (mg 17 rfl)) rfl ?_
      refine X_get (v := .ref (wA w (x + 2))) C (x + 1) 0 (by omega) hT.2.1 rfl rfl (by decide) inX4 fX7_61 rfl (D (38, .getfield 61, 3) (mg 18 rfl)) rfl ?_
      refine X_iload_n C 1 (D (41, .iload_n 1, 1) (mg 19 rfl)) rfl rfl ?_
      refine X_iload_n C 2 (D (42, .iload_n 2, 1) (mg 20 rfl)) rfl rfl ?_
      refine X_cV (As := [.int (a1), .int (a2)]) (st := []) C (post := _) (x + 2) (by omega) hT.2.2.1.2.1 rfl (ct_X1_begin hw (n := x + 2) hT.2.2.1 (a1) (a2) h g) kX7_67 (by decide) (by decide) rfl rfl (Nat.le_of_ble_eq_true rfl) (D (43, .invokevirtual 67, 3) (mg 21 rfl)) rfl (fun v17 H15 G16 hv17 => ?_)
      obtain ⟨rfl, rfl, rfl⟩ := hv17
      show X k w _ 46 [some (.ref (wA w (x))), some (.int (a1)), some (.int (a2)), some (.int (nI (0)))] [] (cbH h (x + 2) (a1) (a2)) g
      refine X_aload_n C 0 (D (46, .aload_n 0, 1) (mg 22 rfl)) rfl rfl ?_
      refine X_get (v := .ref (wA w (x + 1))) C (x) 0 (by omega) hsx rfl rfl (by decide) inX7 fX7_10 rfl (D (47, .getfield 10, 3) (mg 23 rfl)) rfl ?_
      refine X_cV (As := []) (st := []) C (post := _) (x + 1) (by omega) hT.2.1 rfl (ct_X4_dropNotes hw (t := x + 1) hT  (cbH h (x + 2) (a1) (a2)) g) kX7_71 (by decide) (by decide) rfl rfl (Nat.le_of_ble_eq_true rfl) (D (50, .invokevirtual 71, 3) (mg 24 rfl)) rfl (fun v20 H18 G19 hv20 => ?_)
      obtain ⟨rfl, rfl, rfl⟩ := hv20
      show X k w _ 53 [some (.ref (wA w (x))), some (.int (a1)), some (.int (a2)), some (.int (nI (0)))] [] (dnH (cbH h (x + 2) (a1) (a2)) (x + 1)) g
      refine X_iload_n C 3 (D (53, .iload_n 3, 1) (mg 25 rfl)) rfl rfl ?_
      exact X_iret C (D (54, .ireturn, 1) (mg 26 rfl)) (pF_i (if_pos (by omega)) (fun q i z => by rw [dnH_ne _ _ (by omega), cbH_ne _ _ _ _ (by omega)]))
    · skip
      have q11 : ¬ (0 ≤ (a2).toInt ∧ (a2).toInt < ((25 : Nat) : Int)) := bz0.mp q11
      refine X_aload_n C 0 (D (18, .aload_n 0, 1) (mg 8 rfl)) rfl rfl ?_
      refine X_cV (As := []) (st := []) C (post := _) (x) (by omega) hsx rfl (ct_X7_refuseBad hw hC0 h g) kX7_57 (by decide) (by decide) rfl rfl (Nat.le_of_ble_eq_true rfl) (D (19, .invokevirtual 57, 3) (mg 9 rfl)) rfl (fun v23 H21 G22 hv23 => ?_)
      obtain ⟨rfl, rfl, rfl⟩ := hv23
      show X k w _ 22 [some (.ref (wA w (x))), some (.int (a1)), some (.int (a2)), none] [.int ((-2 : Int32))] (rcH h (x) 9) g
      exact X_iret C (D (22, .ireturn, 1) (mg 10 rfl)) (pF_i (if_neg (by omega)) (fun q i z => by rw [rcH_ne _ _ _ (by omega)]))
set_option maxHeartbeats 4000000 in
set_option maxRecDepth 100000 in
theorem cx_X7_undo {l : Launch} {w : Kw} (hw : wOk w) {x : Nat} (hC : shC w x) (h : xI) (g : xJ) (hF : cFr x h) : Ct l w yX7_undo cX7_undo 1 (some .int) 1 20 [.ref (wA w (x))] h g (pF ((-3 : Int32)) x h) := by
  refine Ct_of (ls := [some (.ref (wA w (x)))]) (by decide) hw (Nat.le_of_ble_eq_true rfl) rfl (fun k hkl C => ?_)
  have C : Cx k w cX7_undo RX7 1 (some .int) 1 20 := C
  have D := dtX7_undo
  subst hkl
  have hC0 := hC
  obtain ⟨hxn, hsx, hT, hsi, hTa, hTb, hsk, hNs, hY, hX, hsv⟩ := hC
  have hY2 := hY.1
  have hX2 := hX.1
  obtain ⟨hI, hE, hSt, hk2, hk3, hk4, hps, hse, hma, htx, hr9, hr10, hr11⟩ := hF
  have hI0 := hI
  obtain ⟨⟨⟨c0_, hc0_, hat_⟩, hpa, -, -⟩, -, -, -, -⟩ := hI
  have hI := hI0
  refine X_aload_n C 0 (D (0, .aload_n 0, 1) (mg 0 rfl)) rfl rfl ?_
  refine X_get (v := .ref (wA w (x + 1))) C (x) 0 (by omega) hsx rfl rfl (by decide) inX7 fX7_10 rfl (D (1, .getfield 10, 3) (mg 1 rfl)) rfl ?_
  refine X_get (v := .ref (wA w (x + 5))) C (x + 1) 1 (by omega) hT.2.1 rfl rfl (by decide) inX4 fX7_78 rfl (D (4, .getfield 78, 3) (mg 2 rfl)) rfl ?_
  refine X_get (v := .int (h (x + 5) 1)) C (x + 5) 1 (by omega) hT.2.2.2.1.2.1 rfl rfl (by decide) inX2 fX7_82 rfl (D (7, .getfield 82, 3) (mg 3 rfl)) rfl ?_
  refine X_ti (y := nI (0)) (hps) ?_
  refine X_if_ne (tgt := 18) C (D (10, .ifCond .ne 8, 3) (mg 4 rfl)) (by decide) (fun q1 => ?_) (fun q1 => ?_)
  · skip
    exact absurd q1 (by decide)
  · skip
    refine X_aload_n C 0 (D (13, .aload_n 0, 1) (mg 5 rfl)) rfl rfl ?_
    refine X_cV (As := []) (st := []) C (post := _) (x) (by omega) hsx rfl (ct_X7_refuseNo hw hC0 h g) kX7_109 (by decide) (by decide) rfl rfl (Nat.le_of_ble_eq_true rfl) (D (14, .invokevirtual 109, 3) (mg 6 rfl)) rfl (fun v4 H2 G3 hv4 => ?_)
    obtain ⟨rfl, rfl, rfl⟩ := hv4
    show X k w _ 17 [some (.ref (wA w (x)))] [.int ((-3 : Int32))] (rcH h (x) 10) g
    exact X_iret C (D (17, .ireturn, 1) (mg 7 rfl)) (pF_i (rfl) (fun q i z => by rw [rcH_ne _ _ _ (by omega)]))
set_option maxHeartbeats 4000000 in
set_option maxRecDepth 100000 in
theorem cx_X7_green {l : Launch} {w : Kw} (hw : wOk w) {x : Nat} (hC : shC w x) (a1 : Int32) (h : xI) (g : xJ) (hF : cFr x h) : Ct l w yX7_green cX7_green 2 (some .int) 5 113 [.ref (wA w (x)), .int (a1)] h g (pF (if 0 ≤ a1.toInt ∧ a1.toInt ≤ 60 then nI 0 else (-2 : Int32)) x h) := by
  refine Ct_of (ls := [some (.ref (wA w (x))), some (.int (a1))]) (by decide) hw (Nat.le_of_ble_eq_true rfl) rfl (fun k hkl C => ?_)
  have C : Cx k w cX7_green RX7 2 (some .int) 5 113 := C
  have D := dtX7_green
  subst hkl
  have hC0 := hC
  obtain ⟨hxn, hsx, hT, hsi, hTa, hTb, hsk, hNs, hY, hX, hsv⟩ := hC
  have hY2 := hY.1
  have hX2 := hX.1
  obtain ⟨hI, hE, hSt, hk2, hk3, hk4, hps, hse, hma, htx, hr9, hr10, hr11⟩ := hF
  have hI0 := hI
  obtain ⟨⟨⟨c0_, hc0_, hat_⟩, hpa, -, -⟩, -, -, -, -⟩ := hI
  have hI := hI0
  refine X_iload_n C 1 (D (0, .iload_n 1, 1) (mg 0 rfl)) rfl rfl ?_
  refine X_cS (As := [.int (a1)]) (st := []) C (post := _) (ct_X7_isLookAhead hw (a1) h g) kX7_160 (by decide) (by decide) rfl rfl (Nat.le_of_ble_eq_true rfl) (D (1, .invokestatic 160, 3) (mg 1 rfl)) rfl (fun v3 H1 G2 hv3 => ?_)
  obtain ⟨rfl, rfl, rfl⟩ := hv3
  show X k w _ 4 [some (.ref (wA w (x))), some (.int (a1))] [.int (if 0 ≤ (a1).toInt ∧ (a1).toInt < ((61 : Nat) : Int) then 1 else 0)] h g
  refine X_if_ne (tgt := 12) C (D (4, .ifCond .ne 8, 3) (mg 2 rfl)) (by decide) (fun q4 => ?_) (fun q4 => ?_)
  · skip
    have q4 : (0 ≤ (a1).toInt ∧ (a1).toInt < ((61 : Nat) : Int)) := bz1.mp q4
    refine X_aload_n C 0 (D (12, .aload_n 0, 1) (mg 6 rfl)) rfl rfl ?_
    refine X_get (v := .ref (wA w (x + 1))) C (x) 0 (by omega) hsx rfl rfl (by decide) inX7 fX7_10 rfl (D (13, .getfield 10, 3) (mg 7 rfl)) rfl ?_
    refine X_get (v := .ref (wA w (x + 2))) C (x + 1) 0 (by omega) hT.2.1 rfl rfl (by decide) inX4 fX7_61 rfl (D (16, .getfield 61, 3) (mg 8 rfl)) rfl ?_
    refine X_iload_n C 1 (D (19, .iload_n 1, 1) (mg 9 rfl)) rfl rfl ?_
    refine X_cV (As := [.int (a1)]) (st := []) C (post := _) (x + 2) (by omega) hT.2.2.1.2.1 rfl (cx_X1_greenAfter hw (n := x + 2) hT.2.2.1 (a1) h g) kX7_141 (by decide) (by decide) rfl rfl (Nat.le_of_ble_eq_true rfl) (D (20, .invokevirtual 141, 3) (mg 10 rfl)) rfl (fun v7 H5 G6 hv7 => ?_)
    obtain ⟨rfl, rfl, rfl⟩ := hv7
    show X k w _ 23 [some (.ref (wA w (x))), some (.int (a1))] [.int (nI (cn (fun c => ¬ htC (h (x + 4) c) (a1) < nI 1) 25))] h g
    refine X_ti (y := nI (0)) (congrArg nI (cn_e (q := x + 4) hE)) ?_
    exact X_iret C (D (23, .ireturn, 1) (mg 11 rfl)) (pF_i (if_pos (by omega)) (fun q i z => rfl))
  · skip
    have q4 : ¬ (0 ≤ (a1).toInt ∧ (a1).toInt < ((61 : Nat) : Int)) := bz0.mp q4
    refine X_aload_n C 0 (D (7, .aload_n 0, 1) (mg 3 rfl)) rfl rfl ?_
    refine X_cV (As := []) (st := []) C (post := _) (x) (by omega) hsx rfl (ct_X7_refuseBad hw hC0 h g) kX7_57 (by decide) (by decide) rfl rfl (Nat.le_of_ble_eq_true rfl) (D (8, .invokevirtual 57, 3) (mg 4 rfl)) rfl (fun v10 H8 G9 hv10 => ?_)
    obtain ⟨rfl, rfl, rfl⟩ := hv10
    show X k w _ 11 [some (.ref (wA w (x))), some (.int (a1))] [.int ((-2 : Int32))] (rcH h (x) 9) g
    exact X_iret C (D (11, .ireturn, 1) (mg 5 rfl)) (pF_i (if_neg (by omega)) (fun q i z => by rw [rcH_ne _ _ _ (by omega)]))
set_option maxHeartbeats 4000000 in
set_option maxRecDepth 100000 in
theorem cx_X7_says {l : Launch} {w : Kw} (hw : wOk w) {x : Nat} (hC : shC w x) (a1 a2 : Int32) (h : xI) (g : xJ) (hF : cFr x h) : Ct l w yX7_says cX7_says 3 (some .int) 2 48 [.ref (wA w (x)), .int (a1), .int (a2)] h g (pF (if (0 ≤ a1.toInt ∧ a1.toInt < 25) ∧ (0 ≤ a2.toInt ∧ a2.toInt < 6) then nI 1 else (-2 : Int32)) x h) := by
  refine Ct_of (ls := [some (.ref (wA w (x))), some (.int (a1)), some (.int (a2))]) (by decide) hw (Nat.le_of_ble_eq_true rfl) rfl (fun k hkl C => ?_)
  have C : Cx k w cX7_says RX7 3 (some .int) 2 48 := C
  have D := dtX7_says
  subst hkl
  have hC0 := hC
  obtain ⟨hxn, hsx, hT, hsi, hTa, hTb, hsk, hNs, hY, hX, hsv⟩ := hC
  have hY2 := hY.1
  have hX2 := hX.1
  obtain ⟨hI, hE, hSt, hk2, hk3, hk4, hps, hse, hma, htx, hr9, hr10, hr11⟩ := hF
  have hI0 := hI
  obtain ⟨⟨⟨c0_, hc0_, hat_⟩, hpa, -, -⟩, -, -, -, -⟩ := hI
  have hI := hI0
  refine X_iload_n C 1 (D (0, .iload_n 1, 1) (mg 0 rfl)) rfl rfl ?_
  refine X_bipush (v := nI (25)) C (D (1, .bipush 25, 2) (mg 1 rfl)) (by decide) ?_
  refine X_cS (As := [.int (a1), .int (nI (25))]) (st := []) C (post := _) (ct_X7_isBelow hw (a1) (B := 25) (by decide) h g) kX7_53 (by decide) (by decide) rfl rfl (Nat.le_of_ble_eq_true rfl) (D (3, .invokestatic 53, 3) (mg 2 rfl)) rfl (fun v3 H1 G2 hv3 => ?_)
  obtain ⟨rfl, rfl, rfl⟩ := hv3
  show X k w _ 6 [some (.ref (wA w (x))), some (.int (a1)), some (.int (a2))] [.int (if 0 ≤ (a1).toInt ∧ (a1).toInt < ((25 : Nat) : Int) then 1 else 0)] h g
  refine X_if_eq (tgt := 18) C (D (6, .ifCond .eq 12, 3) (mg 3 rfl)) (by decide) (fun q4 => ?_) (fun q4 => ?_)
  · skip
    have q4 : ¬ (0 ≤ (a1).toInt ∧ (a1).toInt < ((25 : Nat) : Int)) := bz0.mp q4
    refine X_aload_n C 0 (D (18, .aload_n 0, 1) (mg 8 rfl)) rfl rfl ?_
    refine X_cV (As := []) (st := []) C (post := _) (x) (by omega) hsx rfl (ct_X7_refuseBad hw hC0 h g) kX7_57 (by decide) (by decide) rfl rfl (Nat.le_of_ble_eq_true rfl) (D (19, .invokevirtual 57, 3) (mg 9 rfl)) rfl (fun v7 H5 G6 hv7 => ?_)
    obtain ⟨rfl, rfl, rfl⟩ := hv7
    show X k w _ 22 [some (.ref (wA w (x))), some (.int (a1)), some (.int (a2))] [.int ((-2 : Int32))] (rcH h (x) 9) g
    exact X_iret C (D (22, .ireturn, 1) (mg 10 rfl)) (pF_i (if_neg (by omega)) (fun q i z => by rw [rcH_ne _ _ _ (by omega)]))
  · skip
    have q4 : (0 ≤ (a1).toInt ∧ (a1).toInt < ((25 : Nat) : Int)) := bz1.mp q4
    obtain ⟨n8, hn8, rfl⟩ := nI_i (x := a1) (n := 25) q4.1 (by omega)
    refine X_iload_n C 2 (D (9, .iload_n 2, 1) (mg 4 rfl)) rfl rfl ?_
    refine X_bipush (v := nI (6)) C (D (10, .bipush 6, 2) (mg 5 rfl)) (by decide) ?_
    refine X_cS (As := [.int (a2), .int (nI (6))]) (st := []) C (post := _) (ct_X7_isBelow hw (a2) (B := 6) (by decide) h g) kX7_53 (by decide) (by decide) rfl rfl (Nat.le_of_ble_eq_true rfl) (D (12, .invokestatic 53, 3) (mg 6 rfl)) rfl (fun v11 H9 G10 hv11 => ?_)
    obtain ⟨rfl, rfl, rfl⟩ := hv11
    show X k w _ 15 [some (.ref (wA w (x))), some (.int (nI (n8))), some (.int (a2))] [.int (if 0 ≤ (a2).toInt ∧ (a2).toInt < ((6 : Nat) : Int) then 1 else 0)] h g
    refine X_if_ne (tgt := 23) C (D (15, .ifCond .ne 8, 3) (mg 7 rfl)) (by decide) (fun q12 => ?_) (fun q12 => ?_)
    · skip
      have q12 : (0 ≤ (a2).toInt ∧ (a2).toInt < ((6 : Nat) : Int)) := bz1.mp q12
      obtain ⟨n13, hn13, rfl⟩ := nI_i (x := a2) (n := 6) q12.1 (by omega)
      refine X_aload_n C 0 (D (23, .aload_n 0, 1) (mg 11 rfl)) rfl rfl ?_
      refine X_get (v := .ref (wA w (x + 1))) C (x) 0 (by omega) hsx rfl rfl (by decide) inX7 fX7_10 rfl (D (24, .getfield 10, 3) (mg 12 rfl)) rfl ?_
      refine X_get (v := .ref (wA w (x + 2))) C (x + 1) 0 (by omega) hT.2.1 rfl rfl (by decide) inX4 fX7_61 rfl (D (27, .getfield 61, 3) (mg 13 rfl)) rfl ?_
      refine X_iload_n C 1 (D (30, .iload_n 1, 1) (mg 14 rfl)) rfl rfl ?_
      refine X_cV (As := [.int (nI (n8))]) (st := []) C (post := _) (x + 2) (by omega) hT.2.2.1.2.1 rfl (ct_X1_liesIn hw (n := x + 2) hT.2.2.1 (j := n8) (by omega) h g) kX7_105 (by decide) (by decide) rfl rfl (Nat.le_of_ble_eq_true rfl) (D (31, .invokevirtual 105, 3) (mg 15 rfl)) rfl (fun v16 H14 G15 hv16 => ?_)
      obtain ⟨rfl, rfl, rfl⟩ := hv16
      show X k w _ 34 [some (.ref (wA w (x))), some (.int (nI (n8))), some (.int (nI (n13)))] [.int (if ¬ h (x + 4) (n8) = (-1 : Int32) then 1 else 0)] h g
      refine X_if_eq (tgt := 42) C (D (34, .ifCond .eq 8, 3) (mg 16 rfl)) (by decide) (fun q17 => ?_) (fun q17 => ?_)
      · skip
        have q17 : ¬ (¬ h (x + 4) (n8) = (-1 : Int32)) := bz0.mp q17
        refine X_aload_n C 0 (D (42, .aload_n 0, 1) (mg 20 rfl)) rfl rfl ?_
        refine X_get (v := .ref (wA w (x + 1))) C (x) 0 (by omega) hsx rfl rfl (by decide) inX7 fX7_10 rfl (D (43, .getfield 10, 3) (mg 21 rfl)) rfl ?_
        refine X_get (v := .ref (wA w (x + 5))) C (x + 1) 1 (by omega) hT.2.1 rfl rfl (by decide) inX4 fX7_78 rfl (D (46, .getfield 78, 3) (mg 22 rfl)) rfl ?_
        refine X_aload_n C 0 (D (49, .aload_n 0, 1) (mg 23 rfl)) rfl rfl ?_
        refine X_get (v := .ref (wA w (x + 1))) C (x) 0 (by omega) hsx rfl rfl (by decide) inX7 fX7_10 rfl (D (50, .getfield 10, 3) (mg 24 rfl)) rfl ?_
        refine X_get (v := .ref (wA w (x + 2))) C (x + 1) 0 (by omega) hT.2.1 rfl rfl (by decide) inX4 fX7_61 rfl (D (53, .getfield 61, 3) (mg 25 rfl)) rfl ?_
        refine X_cV (As := [.ref (wA w (x + 2))]) (st := []) C (post := _) (x + 5) (by omega) hT.2.2.2.1.2.1 rfl (ct_X2_keep hw (p := x + 5) hT.2.2.2.1 (n := x + 2) hT.2.2.1 (by omega) h g hpa ⟨0, (by omega), (hk3)⟩) kX7_112 (by decide) (by decide) rfl rfl (Nat.le_of_ble_eq_true rfl) (D (56, .invokevirtual 112, 3) (mg 26 rfl)) rfl (fun v20 H18 G19 hv20 => ?_)
        obtain ⟨rfl, f21⟩ := hv20
        show X k w _ 59 [some (.ref (wA w (x))), some (.int (nI (n8))), some (.int (nI (n13)))] [] H18 G19
        refine X_aload_n C 0 (D (59, .aload_n 0, 1) (mg 27 rfl)) rfl rfl ?_
        refine X_get (v := .ref (wA w (x + 1))) C (x) 0 (by omega) hsx rfl rfl (by decide) inX7 fX7_10 rfl (D (60, .getfield 10, 3) (mg 28 rfl)) rfl ?_
        refine X_get (v := .ref (wA w (x + 2))) C (x + 1) 0 (by omega) hT.2.1 rfl rfl (by decide) inX4 fX7_61 rfl (D (63, .getfield 61, 3) (mg 29 rfl)) rfl ?_
        refine X_iload_n C 1 (D (66, .iload_n 1, 1) (mg 30 rfl)) rfl rfl ?_
        refine X_iload_n C 2 (D (67, .iload_n 2, 1) (mg 31 rfl)) rfl rfl ?_
        refine X_cV (As := [.int (nI (n8)), .int (nI (n13))]) (st := []) C (post := _) (x + 2) (by omega) hT.2.2.1.2.1 rfl (ct_X1_put hw (n := x + 2) hT.2.2.1 (j := n8) (by omega) (nI (n13)) H18 G19) kX7_115 (by decide) (by decide) rfl rfl (Nat.le_of_ble_eq_true rfl) (D (68, .invokevirtual 115, 3) (mg 32 rfl)) rfl (fun v24 H22 G23 hv24 => ?_)
        obtain ⟨rfl, rfl, rfl⟩ := hv24
        show X k w _ 71 [some (.ref (wA w (x))), some (.int (nI (n8))), some (.int (nI (n13)))] [] (u2 H18 (x + 4) (n8) (nI 1000 * (nI (n13)))) G19
        refine X_aload_n C 0 (D (71, .aload_n 0, 1) (mg 33 rfl)) rfl rfl ?_
        refine X_get (v := .ref (wA w (x + 1))) C (x) 0 (by omega) hsx rfl rfl (by decide) inX7 fX7_10 rfl (D (72, .getfield 10, 3) (mg 34 rfl)) rfl ?_
        refine X_get (v := .ref (wA w (x + 2))) C (x + 1) 0 (by omega) hT.2.1 rfl rfl (by decide) inX4 fX7_61 rfl (D (75, .getfield 61, 3) (mg 35 rfl)) rfl ?_
        refine X_cV (As := []) (st := []) C (post := _) (x + 2) (by omega) hT.2.2.1.2.1 rfl (cx_X1_filled hw (n := x + 2) hT.2.2.1  (u2 H18 (x + 4) (n8) (nI 1000 * (nI (n13)))) G19) kX7_64 (by decide) (by decide) rfl rfl (Nat.le_of_ble_eq_true rfl) (D (78, .invokevirtual 64, 3) (mg 36 rfl)) rfl (fun v27 H25 G26 hv27 => ?_)
        obtain ⟨rfl, rfl, rfl⟩ := hv27
        show X k w _ 81 [some (.ref (wA w (x))), some (.int (nI (n8))), some (.int (nI (n13)))] [.int (nI (cn (fun c => ¬ (u2 H18 (x + 4) (n8) (nI 1000 * (nI (n13)))) (x + 4) c = (-1 : Int32)) 25))] (u2 H18 (x + 4) (n8) (nI 1000 * (nI (n13)))) G19
        refine X_ti (y := nI (1)) (congrArg nI (cn_put (h := h) (by omega) (by omega) hE (fun c => f21.1 _ _ (by omega) (by omega)))) ?_
        exact X_iret C (D (81, .ireturn, 1) (mg 37 rfl)) (pF_i (if_pos (by omega)) (fun q i z => by rw [u2_ne _ _ _ _ (by omega), f21.1 _ _ (by omega) (by omega)]))
      · skip
        have q17 : (¬ h (x + 4) (n8) = (-1 : Int32)) := bz1.mp q17
        exact absurd (hE _ (by omega)) q17
    · skip
      have q12 : ¬ (0 ≤ (a2).toInt ∧ (a2).toInt < ((6 : Nat) : Int)) := bz0.mp q12
      refine X_aload_n C 0 (D (18, .aload_n 0, 1) (mg 8 rfl)) rfl rfl ?_
      refine X_cV (As := []) (st := []) C (post := _) (x) (by omega) hsx rfl (ct_X7_refuseBad hw hC0 h g) kX7_57 (by decide) (by decide) rfl rfl (Nat.le_of_ble_eq_true rfl) (D (19, .invokevirtual 57, 3) (mg 9 rfl)) rfl (fun v30 H28 G29 hv30 => ?_)
      obtain ⟨rfl, rfl, rfl⟩ := hv30
      show X k w _ 22 [some (.ref (wA w (x))), some (.int (nI (n8))), some (.int (a2))] [.int ((-2 : Int32))] (rcH h (x) 9) g
      exact X_iret C (D (22, .ireturn, 1) (mg 10 rfl)) (pF_i (if_neg (by omega)) (fun q i z => by rw [rcH_ne _ _ _ (by omega)]))
set_option maxHeartbeats 4000000 in
set_option maxRecDepth 100000 in
theorem cx_X7_drags {l : Launch} {w : Kw} (hw : wOk w) {x : Nat} (hC : shC w x) (a1 : Int32) (h : xI) (g : xJ) (hF : cFr x h) : Ct l w yX7_drags cX7_drags 3 (some .int) 3 71 [.ref (wA w (x)), .int (a1)] h g (pF (if 0 ≤ a1.toInt ∧ a1.toInt < 4 then drY a1 else (-2 : Int32)) x h) := by
  refine Ct_of (ls := [some (.ref (wA w (x))), some (.int (a1)), none]) (by decide) hw (Nat.le_of_ble_eq_true rfl) rfl (fun k hkl C => ?_)
  have C : Cx k w cX7_drags RX7 3 (some .int) 3 71 := C
  have D := dtX7_drags
  subst hkl
  have hC0 := hC
  obtain ⟨hxn, hsx, hT, hsi, hTa, hTb, hsk, hNs, hY, hX, hsv⟩ := hC
  have hY2 := hY.1
  have hX2 := hX.1
  obtain ⟨hI, hE, hSt, hk2, hk3, hk4, hps, hse, hma, htx, hr9, hr10, hr11⟩ := hF
  have hI0 := hI
  obtain ⟨⟨⟨c0_, hc0_, hat_⟩, hpa, -, -⟩, -, -, -, -⟩ := hI
  have hI := hI0
  refine X_iload_n C 1 (D (0, .iload_n 1, 1) (mg 0 rfl)) rfl rfl ?_
  refine X_iconst (v := nI (4)) C (D (1, .iconst 4, 1) (mg 1 rfl)) (by decide) ?_
  refine X_cS (As := [.int (a1), .int (nI (4))]) (st := []) C (post := _) (ct_X7_isBelow hw (a1) (B := 4) (by decide) h g) kX7_53 (by decide) (by decide) rfl rfl (Nat.le_of_ble_eq_true rfl) (D (2, .invokestatic 53, 3) (mg 2 rfl)) rfl (fun v3 H1 G2 hv3 => ?_)
  obtain ⟨rfl, rfl, rfl⟩ := hv3
  show X k w _ 5 [some (.ref (wA w (x))), some (.int (a1)), none] [.int (if 0 ≤ (a1).toInt ∧ (a1).toInt < ((4 : Nat) : Int) then 1 else 0)] h g
  refine X_if_ne (tgt := 13) C (D (5, .ifCond .ne 8, 3) (mg 3 rfl)) (by decide) (fun q4 => ?_) (fun q4 => ?_)
  · skip
    have q4 : (0 ≤ (a1).toInt ∧ (a1).toInt < ((4 : Nat) : Int)) := bz1.mp q4
    obtain ⟨n5, hn5, rfl⟩ := nI_i (x := a1) (n := 4) q4.1 (by omega)
    refine X_aload_n C 0 (D (13, .aload_n 0, 1) (mg 7 rfl)) rfl rfl ?_
    refine X_get (v := .ref (wA w (x + 1))) C (x) 0 (by omega) hsx rfl rfl (by decide) inX7 fX7_10 rfl (D (14, .getfield 10, 3) (mg 8 rfl)) rfl ?_
    refine X_get (v := .ref (wA w (x + 2))) C (x + 1) 0 (by omega) hT.2.1 rfl rfl (by decide) inX4 fX7_61 rfl (D (17, .getfield 61, 3) (mg 9 rfl)) rfl ?_
    refine X_get (v := .int (h (x + 2) 3)) C (x + 2) 3 (by omega) hT.2.2.1.2.1 rfl rfl (by decide) inX1 fX7_118 rfl (D (20, .getfield 118, 3) (mg 10 rfl)) rfl ?_
    refine X_ti (y := nI (0)) (hk3) ?_
    refine X_iload_n C 1 (D (23, .iload_n 1, 1) (mg 11 rfl)) rfl rfl ?_
    refine X_cS (As := [.int (nI (0)), .int (nI (n5))]) (st := []) C (post := _) (ct_X7_beside hw (j := 0) (by omega) (nI (n5)) h g) kX7_121 (by decide) (by decide) rfl rfl (Nat.le_of_ble_eq_true rfl) (D (24, .invokestatic 121, 3) (mg 12 rfl)) rfl (fun v8 H6 G7 hv8 => ?_)
    obtain ⟨⟨y9, rfl, hy9, ey9⟩, rfl, rfl⟩ := hv8
    show X k w _ 27 [some (.ref (wA w (x))), some (.int (nI (n5))), none] [.int (y9)] h g
    refine X_istore_n (ls' := [some (.ref (wA w (x))), some (.int (nI (n5))), some (.int (y9))]) C 2 (D (27, .istore_n 2, 1) (mg 13 rfl)) rfl (Nat.le_of_ble_eq_true rfl) rfl ?_
    refine X_iload_n C 2 (D (28, .iload_n 2, 1) (mg 14 rfl)) rfl rfl ?_
    refine X_iconst (v := (-1 : Int32)) C (D (29, .iconst (-1), 1) (mg 15 rfl)) (by decide) ?_
    refine X_icmp_ne (tgt := 38) C (D (30, .if_icmp .ne 8, 3) (mg 16 rfl)) (by decide) (fun q10 => ?_) (fun q10 => ?_)
    · skip
      obtain ⟨c11, hc11, rfl⟩ := hy9.resolve_left q10
      obtain ⟨hbs, hcc⟩ := bq_c (j := 0) (i := n5) (by omega) (by omega) hc11 ey9
      refine X_aload_n C 0 (D (38, .aload_n 0, 1) (mg 20 rfl)) rfl rfl ?_
      refine X_get (v := .ref (wA w (x + 1))) C (x) 0 (by omega) hsx rfl rfl (by decide) inX7 fX7_10 rfl (D (39, .getfield 10, 3) (mg 21 rfl)) rfl ?_
      refine X_get (v := .ref (wA w (x + 5))) C (x + 1) 1 (by omega) hT.2.1 rfl rfl (by decide) inX4 fX7_78 rfl (D (42, .getfield 78, 3) (mg 22 rfl)) rfl ?_
      refine X_aload_n C 0 (D (45, .aload_n 0, 1) (mg 23 rfl)) rfl rfl ?_
      refine X_get (v := .ref (wA w (x + 1))) C (x) 0 (by omega) hsx rfl rfl (by decide) inX7 fX7_10 rfl (D (46, .getfield 10, 3) (mg 24 rfl)) rfl ?_
      refine X_get (v := .ref (wA w (x + 2))) C (x + 1) 0 (by omega) hT.2.1 rfl rfl (by decide) inX4 fX7_61 rfl (D (49, .getfield 61, 3) (mg 25 rfl)) rfl ?_
      refine X_cV (As := [.ref (wA w (x + 2))]) (st := []) C (post := _) (x + 5) (by omega) hT.2.2.2.1.2.1 rfl (ct_X2_keep hw (p := x + 5) hT.2.2.2.1 (n := x + 2) hT.2.2.1 (by omega) h g hpa ⟨0, (by omega), (hk3)⟩) kX7_112 (by decide) (by decide) rfl rfl (Nat.le_of_ble_eq_true rfl) (D (52, .invokevirtual 112, 3) (mg 26 rfl)) rfl (fun v14 H12 G13 hv14 => ?_)
      obtain ⟨rfl, f15⟩ := hv14
      show X k w _ 55 [some (.ref (wA w (x))), some (.int (nI (n5))), some (.int (nI (c11)))] [] H12 G13
      refine X_aload_n C 0 (D (55, .aload_n 0, 1) (mg 27 rfl)) rfl rfl ?_
      refine X_get (v := .ref (wA w (x + 1))) C (x) 0 (by omega) hsx rfl rfl (by decide) inX7 fX7_10 rfl (D (56, .getfield 10, 3) (mg 28 rfl)) rfl ?_
      refine X_get (v := .ref (wA w (x + 2))) C (x + 1) 0 (by omega) hT.2.1 rfl rfl (by decide) inX4 fX7_61 rfl (D (59, .getfield 61, 3) (mg 29 rfl)) rfl ?_
      refine X_iload_n C 2 (D (62, .iload_n 2, 1) (mg 30 rfl)) rfl rfl ?_
      refine X_cV (As := [.int (nI (c11))]) (st := []) C (post := _) (x + 2) (by omega) hT.2.2.1.2.1 rfl (ct_X1_stepTo hw (n := x + 2) hT.2.2.1 (j := c11) (by omega) H12 G13) kX7_125 (by decide) (by decide) rfl rfl (Nat.le_of_ble_eq_true rfl) (D (63, .invokevirtual 125, 3) (mg 31 rfl)) rfl (fun v18 H16 G17 hv18 => ?_)
      obtain ⟨rfl, rfl, rfl⟩ := hv18
      show X k w _ 66 [some (.ref (wA w (x))), some (.int (nI (n5))), some (.int (nI (c11)))] [] (csH H12 (x + 2) (c11)) G13
      refine X_iload_n C 2 (D (66, .iload_n 2, 1) (mg 32 rfl)) rfl rfl ?_
      exact X_iret C (D (67, .ireturn, 1) (mg 33 rfl)) (pF_i ((if_pos (by omega)).trans ((drY_t _ (by omega) hbs).trans (congrArg nI hcc.symm))) (fun q i z => by rw [csH_ne _ _ _ (by omega), f15.1 _ _ (by omega) (by omega)]))
    · skip
      subst q10
      have hbs : ¬ bsN 0 n5 < 25 := bq_m (by omega) (by omega) ey9
      refine X_aload_n C 0 (D (33, .aload_n 0, 1) (mg 17 rfl)) rfl rfl ?_
      refine X_cV (As := []) (st := []) C (post := _) (x) (by omega) hsx rfl (ct_X7_refuseNo hw hC0 h g) kX7_109 (by decide) (by decide) rfl rfl (Nat.le_of_ble_eq_true rfl) (D (34, .invokevirtual 109, 3) (mg 18 rfl)) rfl (fun v21 H19 G20 hv21 => ?_)
      obtain ⟨rfl, rfl, rfl⟩ := hv21
      show X k w _ 37 [some (.ref (wA w (x))), some (.int (nI (n5))), some (.int ((-1 : Int32)))] [.int ((-3 : Int32))] (rcH h (x) 10) g
      exact X_iret C (D (37, .ireturn, 1) (mg 19 rfl)) (pF_i ((if_pos (by omega)).trans (drY_f _ (by omega) hbs)) (fun q i z => by rw [rcH_ne _ _ _ (by omega)]))
  · skip
    have q4 : ¬ (0 ≤ (a1).toInt ∧ (a1).toInt < ((4 : Nat) : Int)) := bz0.mp q4
    refine X_aload_n C 0 (D (8, .aload_n 0, 1) (mg 4 rfl)) rfl rfl ?_
    refine X_cV (As := []) (st := []) C (post := _) (x) (by omega) hsx rfl (ct_X7_refuseBad hw hC0 h g) kX7_57 (by decide) (by decide) rfl rfl (Nat.le_of_ble_eq_true rfl) (D (9, .invokevirtual 57, 3) (mg 5 rfl)) rfl (fun v24 H22 G23 hv24 => ?_)
    obtain ⟨rfl, rfl, rfl⟩ := hv24
    show X k w _ 12 [some (.ref (wA w (x))), some (.int (a1)), none] [.int ((-2 : Int32))] (rcH h (x) 9) g
    exact X_iret C (D (12, .ireturn, 1) (mg 6 rfl)) (pF_i (if_neg (by omega)) (fun q i z => by rw [rcH_ne _ _ _ (by omega)]))
set_option maxHeartbeats 4000000 in
set_option maxRecDepth 100000 in
theorem cx_X7_reaps {l : Launch} {w : Kw} (hw : wOk w) {x : Nat} (hC : shC w x) (a1 : Int32) (h : xI) (g : xJ) (hF : cFr x h) : Ct l w yX7_reaps cX7_reaps 3 (some .int) 1 21 [.ref (wA w (x)), .int (a1)] h g (pF (if 0 ≤ a1.toInt ∧ a1.toInt < 25 then (-3 : Int32) else (-2 : Int32)) x h) := by
  refine Ct_of (ls := [some (.ref (wA w (x))), some (.int (a1)), none]) (by decide) hw (Nat.le_of_ble_eq_true rfl) rfl (fun k hkl C => ?_)
  have C : Cx k w cX7_reaps RX7 3 (some .int) 1 21 := C
  have D := dtX7_reaps
  subst hkl
  have hC0 := hC
  obtain ⟨hxn, hsx, hT, hsi, hTa, hTb, hsk, hNs, hY, hX, hsv⟩ := hC
  have hY2 := hY.1
  have hX2 := hX.1
  obtain ⟨hI, hE, hSt, hk2, hk3, hk4, hps, hse, hma, htx, hr9, hr10, hr11⟩ := hF
  have hI0 := hI
  obtain ⟨⟨⟨c0_, hc0_, hat_⟩, hpa, -, -⟩, -, -, -, -⟩ := hI
  have hI := hI0
  refine X_iload_n C 1 (D (0, .iload_n 1, 1) (mg 0 rfl)) rfl rfl ?_
  refine X_bipush (v := nI (25)) C (D (1, .bipush 25, 2) (mg 1 rfl)) (by decide) ?_
  refine X_cS (As := [.int (a1), .int (nI (25))]) (st := []) C (post := _) (ct_X7_isBelow hw (a1) (B := 25) (by decide) h g) kX7_53 (by decide) (by decide) rfl rfl (Nat.le_of_ble_eq_true rfl) (D (3, .invokestatic 53, 3) (mg 2 rfl)) rfl (fun v3 H1 G2 hv3 => ?_)
  obtain ⟨rfl, rfl, rfl⟩ := hv3
  show X k w _ 6 [some (.ref (wA w (x))), some (.int (a1)), none] [.int (if 0 ≤ (a1).toInt ∧ (a1).toInt < ((25 : Nat) : Int) then 1 else 0)] h g
  refine X_if_ne (tgt := 14) C (D (6, .ifCond .ne 8, 3) (mg 3 rfl)) (by decide) (fun q4 => ?_) (fun q4 => ?_)
  · skip
    have q4 : (0 ≤ (a1).toInt ∧ (a1).toInt < ((25 : Nat) : Int)) := bz1.mp q4
    obtain ⟨n5, hn5, rfl⟩ := nI_i (x := a1) (n := 25) q4.1 (by omega)
    refine X_aload_n C 0 (D (14, .aload_n 0, 1) (mg 7 rfl)) rfl rfl ?_
    refine X_get (v := .ref (wA w (x + 1))) C (x) 0 (by omega) hsx rfl rfl (by decide) inX7 fX7_10 rfl (D (15, .getfield 10, 3) (mg 8 rfl)) rfl ?_
    refine X_get (v := .ref (wA w (x + 2))) C (x + 1) 0 (by omega) hT.2.1 rfl rfl (by decide) inX4 fX7_61 rfl (D (18, .getfield 61, 3) (mg 9 rfl)) rfl ?_
    refine X_iload_n C 1 (D (21, .iload_n 1, 1) (mg 10 rfl)) rfl rfl ?_
    refine X_cV (As := [.int (nI (n5))]) (st := []) C (post := _) (x + 2) (by omega) hT.2.2.1.2.1 rfl (ct_X1_liesIn hw (n := x + 2) hT.2.2.1 (j := n5) (by omega) h g) kX7_105 (by decide) (by decide) rfl rfl (Nat.le_of_ble_eq_true rfl) (D (22, .invokevirtual 105, 3) (mg 11 rfl)) rfl (fun v8 H6 G7 hv8 => ?_)
    obtain ⟨rfl, rfl, rfl⟩ := hv8
    show X k w _ 25 [some (.ref (wA w (x))), some (.int (nI (n5))), none] [.int (if ¬ h (x + 4) (n5) = (-1 : Int32) then 1 else 0)] h g
    refine X_if_ne (tgt := 33) C (D (25, .ifCond .ne 8, 3) (mg 12 rfl)) (by decide) (fun q9 => ?_) (fun q9 => ?_)
    · skip
      have q9 : (¬ h (x + 4) (n5) = (-1 : Int32)) := bz1.mp q9
      exact absurd (hE _ (by omega)) q9
    · skip
      have q9 : ¬ (¬ h (x + 4) (n5) = (-1 : Int32)) := bz0.mp q9
      refine X_aload_n C 0 (D (28, .aload_n 0, 1) (mg 13 rfl)) rfl rfl ?_
      refine X_cV (As := []) (st := []) C (post := _) (x) (by omega) hsx rfl (ct_X7_refuseNo hw hC0 h g) kX7_109 (by decide) (by decide) rfl rfl (Nat.le_of_ble_eq_true rfl) (D (29, .invokevirtual 109, 3) (mg 14 rfl)) rfl (fun v12 H10 G11 hv12 => ?_)
      obtain ⟨rfl, rfl, rfl⟩ := hv12
      show X k w _ 32 [some (.ref (wA w (x))), some (.int (nI (n5))), none] [.int ((-3 : Int32))] (rcH h (x) 10) g
      exact X_iret C (D (32, .ireturn, 1) (mg 15 rfl)) (pF_i (if_pos (by omega)) (fun q i z => by rw [rcH_ne _ _ _ (by omega)]))
  · skip
    have q4 : ¬ (0 ≤ (a1).toInt ∧ (a1).toInt < ((25 : Nat) : Int)) := bz0.mp q4
    refine X_aload_n C 0 (D (9, .aload_n 0, 1) (mg 4 rfl)) rfl rfl ?_
    refine X_cV (As := []) (st := []) C (post := _) (x) (by omega) hsx rfl (ct_X7_refuseBad hw hC0 h g) kX7_57 (by decide) (by decide) rfl rfl (Nat.le_of_ble_eq_true rfl) (D (10, .invokevirtual 57, 3) (mg 5 rfl)) rfl (fun v15 H13 G14 hv15 => ?_)
    obtain ⟨rfl, rfl, rfl⟩ := hv15
    show X k w _ 13 [some (.ref (wA w (x))), some (.int (a1)), none] [.int ((-2 : Int32))] (rcH h (x) 9) g
    exact X_iret C (D (13, .ireturn, 1) (mg 6 rfl)) (pF_i (if_neg (by omega)) (fun q i z => by rw [rcH_ne _ _ _ (by omega)]))
set_option maxHeartbeats 4000000 in
set_option maxRecDepth 100000 in
theorem cx_X7_of {l : Launch} {w : Kw} (hw : wOk w) {x : Nat} (hC : shC w x) (a1 a2 : Int32) (h : xI) (g : xJ) (hF : cFr x h) : Ct l w yX7_of cX7_of 3 (some .int) 3 68 [.ref (wA w (x)), .int (a1), .int (a2)] h g (pF (if 0 ≤ a1.toInt ∧ a1.toInt < 25 then ofY a2 else (-2 : Int32)) x h) := by
  refine Ct_of (ls := [some (.ref (wA w (x))), some (.int (a1)), some (.int (a2))]) (by decide) hw (Nat.le_of_ble_eq_true rfl) rfl (fun k hkl C => ?_)
  have C : Cx k w cX7_of RX7 3 (some .int) 3 68 := C
  have D := dtX7_of
  subst hkl
  have hC0 := hC
  obtain ⟨hxn, hsx, hT, hsi, hTa, hTb, hsk, hNs, hY, hX, hsv⟩ := hC
  have hY2 := hY.1
  have hX2 := hX.1
  obtain ⟨hI, hE, hSt, hk2, hk3, hk4, hps, hse, hma, htx, hr9, hr10, hr11⟩ := hF
  have hI0 := hI
  obtain ⟨⟨⟨c0_, hc0_, hat_⟩, hpa, -, -⟩, -, -, -, -⟩ := hI
  have hI := hI0
  refine X_iload_n C 1 (D (0, .iload_n 1, 1) (mg 0 rfl)) rfl rfl ?_
  refine X_bipush (v := nI (25)) C (D (1, .bipush 25, 2) (mg 1 rfl)) (by decide) ?_
  refine X_cS (As := [.int (a1), .int (nI (25))]) (st := []) C (post := _) (ct_X7_isBelow hw (a1) (B := 25) (by decide) h g) kX7_53 (by decide) (by decide) rfl rfl (Nat.le_of_ble_eq_true rfl) (D (3, .invokestatic 53, 3) (mg 2 rfl)) rfl (fun v3 H1 G2 hv3 => ?_)
  obtain ⟨rfl, rfl, rfl⟩ := hv3
  show X k w _ 6 [some (.ref (wA w (x))), some (.int (a1)), some (.int (a2))] [.int (if 0 ≤ (a1).toInt ∧ (a1).toInt < ((25 : Nat) : Int) then 1 else 0)] h g
  refine X_if_ne (tgt := 14) C (D (6, .ifCond .ne 8, 3) (mg 3 rfl)) (by decide) (fun q4 => ?_) (fun q4 => ?_)
  · skip
    have q4 : (0 ≤ (a1).toInt ∧ (a1).toInt < ((25 : Nat) : Int)) := bz1.mp q4
    obtain ⟨n5, hn5, rfl⟩ := nI_i (x := a1) (n := 25) q4.1 (by omega)
    refine X_iload_n C 2 (D (14, .iload_n 2, 1) (mg 7 rfl)) rfl rfl ?_
    rcases sw_0_5 (a2) with q6 | q6 | q6 | q6 | q6 | q6 | q6
    · refine X_swIn (tgt := 52) C (D (15, .tableswitch 111 0 5 #[37, 50, 62, 74, 86, 99], 37) (mg 8 rfl)) (0) (by rw [q6]; decide) (by decide) (by decide) rfl (by decide) ?_
      refine X_aload_n C 0 (D (52, .aload_n 0, 1) (mg 9 rfl)) rfl rfl ?_
      refine X_get (v := .ref (wA w (x + 1))) C (x) 0 (by omega) hsx rfl rfl (by decide) inX7 fX7_10 rfl (D (53, .getfield 10, 3) (mg 10 rfl)) rfl ?_
      refine X_get (v := .ref (wA w (x + 2))) C (x + 1) 0 (by omega) hT.2.1 rfl rfl (by decide) inX4 fX7_61 rfl (D (56, .getfield 61, 3) (mg 11 rfl)) rfl ?_
      refine X_get (v := .ref (wA w (x + 3))) C (x + 2) 0 (by omega) hT.2.2.1.2.1 rfl rfl (by decide) inX1 fX7_87 rfl (D (59, .getfield 87, 3) (mg 12 rfl)) rfl ?_
      refine X_iload_n C 1 (D (62, .iload_n 1, 1) (mg 13 rfl)) rfl rfl ?_
      refine X_iald (v := h (x + 3) (n5)) C (x + 3) (by omega) hT.2.2.1.2.2.1 (vp_in_nI (by omega) (by omega)) (D (63, .iaload, 1) (mg 14 rfl)) (by rw [nI_clamp (by omega)]) ?_
      exact X_iret C (D (64, .ireturn, 1) (mg 15 rfl)) (pF_i ((if_pos (by omega)).trans ((show ofY a2 = nI 0 from by rw [(by assumption : a2 = 0)]; rfl).trans (Eq.symm (hSt _ (by omega))))) (fun q i z => rfl))
    · refine X_swIn (tgt := 65) C (D (15, .tableswitch 111 0 5 #[37, 50, 62, 74, 86, 99], 37) (mg 8 rfl)) (1) (by rw [q6]; decide) (by decide) (by decide) rfl (by decide) ?_
      refine X_aload_n C 0 (D (65, .aload_n 0, 1) (mg 16 rfl)) rfl rfl ?_
      refine X_get (v := .ref (wA w (x + 1))) C (x) 0 (by omega) hsx rfl rfl (by decide) inX7 fX7_10 rfl (D (66, .getfield 10, 3) (mg 17 rfl)) rfl ?_
      refine X_get (v := .ref (wA w (x + 2))) C (x + 1) 0 (by omega) hT.2.1 rfl rfl (by decide) inX4 fX7_61 rfl (D (69, .getfield 61, 3) (mg 18 rfl)) rfl ?_
      refine X_iload_n C 1 (D (72, .iload_n 1, 1) (mg 19 rfl)) rfl rfl ?_
      refine X_cV (As := [.int (nI (n5))]) (st := []) C (post := _) (x + 2) (by omega) hT.2.2.1.2.1 rfl (ct_X1_kindIn hw (n := x + 2) hT.2.2.1 (j := n5) (by omega) h g) kX7_148 (by decide) (by decide) rfl rfl (Nat.le_of_ble_eq_true rfl) (D (73, .invokevirtual 148, 3) (mg 20 rfl)) rfl (fun v9 H7 G8 hv9 => ?_)
      obtain ⟨rfl, rfl, rfl⟩ := hv9
      show X k w _ 76 [some (.ref (wA w (x))), some (.int (nI (n5))), some (.int (a2))] [.int (cK (h (x + 4) (n5)))] h g
      exact X_iret C (D (76, .ireturn, 1) (mg 21 rfl)) (pF_i ((if_pos (by omega)).trans ((show ofY a2 = (-1 : Int32) from by rw [(by assumption : a2 = 1)]; rfl).trans (Eq.symm (by rw [hE _ (by omega)]; rfl)))) (fun q i z => rfl))
    · refine X_swIn (tgt := 77) C (D (15, .tableswitch 111 0 5 #[37, 50, 62, 74, 86, 99], 37) (mg 8 rfl)) (2) (by rw [q6]; decide) (by decide) (by decide) rfl (by decide) ?_
      refine X_aload_n C 0 (D (77, .aload_n 0, 1) (mg 22 rfl)) rfl rfl ?_
      refine X_get (v := .ref (wA w (x + 1))) C (x) 0 (by omega) hsx rfl rfl (by decide) inX7 fX7_10 rfl (D (78, .getfield 10, 3) (mg 23 rfl)) rfl ?_
      refine X_get (v := .ref (wA w (x + 2))) C (x + 1) 0 (by omega) hT.2.1 rfl rfl (by decide) inX4 fX7_61 rfl (D (81, .getfield 61, 3) (mg 24 rfl)) rfl ?_
      refine X_iload_n C 1 (D (84, .iload_n 1, 1) (mg 25 rfl)) rfl rfl ?_
      refine X_cV (As := [.int (nI (n5))]) (st := []) C (post := _) (x + 2) (by omega) hT.2.2.1.2.1 rfl (ct_X1_depthIn hw (n := x + 2) hT.2.2.1 (j := n5) (by omega) h g) kX7_151 (by decide) (by decide) rfl rfl (Nat.le_of_ble_eq_true rfl) (D (85, .invokevirtual 151, 3) (mg 26 rfl)) rfl (fun v12 H10 G11 hv12 => ?_)
      obtain ⟨rfl, rfl, rfl⟩ := hv12
      show X k w _ 88 [some (.ref (wA w (x))), some (.int (nI (n5))), some (.int (a2))] [.int (cD (h (x + 4) (n5)))] h g
      exact X_iret C (D (88, .ireturn, 1) (mg 27 rfl)) (pF_i ((if_pos (by omega)).trans ((show ofY a2 = (-1 : Int32) from by rw [(by assumption : a2 = 2)]; rfl).trans (Eq.symm (by rw [hE _ (by omega)]; rfl)))) (fun q i z => rfl))
    · refine X_swIn (tgt := 89) C (D (15, .tableswitch 111 0 5 #[37, 50, 62, 74, 86, 99], 37) (mg 8 rfl)) (3) (by rw [q6]; decide) (by decide) (by decide) rfl (by decide) ?_
      refine X_aload_n C 0 (D (89, .aload_n 0, 1) (mg 28 rfl)) rfl rfl ?_
      refine X_get (v := .ref (wA w (x + 1))) C (x) 0 (by omega) hsx rfl rfl (by decide) inX7 fX7_10 rfl (D (90, .getfield 10, 3) (mg 29 rfl)) rfl ?_
      refine X_get (v := .ref (wA w (x + 2))) C (x + 1) 0 (by omega) hT.2.1 rfl rfl (by decide) inX4 fX7_61 rfl (D (93, .getfield 61, 3) (mg 30 rfl)) rfl ?_
      refine X_iload_n C 1 (D (96, .iload_n 1, 1) (mg 31 rfl)) rfl rfl ?_
      refine X_cV (As := [.int (nI (n5))]) (st := []) C (post := _) (x + 2) (by omega) hT.2.2.1.2.1 rfl (ct_X1_ageIn hw (n := x + 2) hT.2.2.1 (j := n5) (by omega) h g) kX7_154 (by decide) (by decide) rfl rfl (Nat.le_of_ble_eq_true rfl) (D (97, .invokevirtual 154, 3) (mg 32 rfl)) rfl (fun v15 H13 G14 hv15 => ?_)
      obtain ⟨rfl, rfl, rfl⟩ := hv15
      show X k w _ 100 [some (.ref (wA w (x))), some (.int (nI (n5))), some (.int (a2))] [.int (cA (h (x + 4) (n5)))] h g
      exact X_iret C (D (100, .ireturn, 1) (mg 33 rfl)) (pF_i ((if_pos (by omega)).trans ((show ofY a2 = (-1 : Int32) from by rw [(by assumption : a2 = 3)]; rfl).trans (Eq.symm (by rw [hE _ (by omega)]; rfl)))) (fun q i z => rfl))
    · refine X_swIn (tgt := 101) C (D (15, .tableswitch 111 0 5 #[37, 50, 62, 74, 86, 99], 37) (mg 8 rfl)) (4) (by rw [q6]; decide) (by decide) (by decide) rfl (by decide) ?_
      refine X_aload_n C 0 (D (101, .aload_n 0, 1) (mg 34 rfl)) rfl rfl ?_
      refine X_get (v := .ref (wA w (x + 1))) C (x) 0 (by omega) hsx rfl rfl (by decide) inX7 fX7_10 rfl (D (102, .getfield 10, 3) (mg 35 rfl)) rfl ?_
      refine X_get (v := .ref (wA w (x + 2))) C (x + 1) 0 (by omega) hT.2.1 rfl rfl (by decide) inX4 fX7_61 rfl (D (105, .getfield 61, 3) (mg 36 rfl)) rfl ?_
      refine X_iload_n C 1 (D (108, .iload_n 1, 1) (mg 37 rfl)) rfl rfl ?_
      refine X_iconst (v := nI (0)) C (D (109, .iconst 0, 1) (mg 38 rfl)) (by decide) ?_
      refine X_cV (As := [.int (nI (n5)), .int (nI (0))]) (st := []) C (post := _) (x + 2) (by omega) hT.2.2.1.2.1 rfl (cx_X1_heightAfter hw (n := x + 2) hT.2.2.1 (j := n5) (by omega) (nI (0)) h g) kX7_129 (by decide) (by decide) rfl rfl (Nat.le_of_ble_eq_true rfl) (D (110, .invokevirtual 129, 3) (mg 39 rfl)) rfl (fun v18 H16 G17 hv18 => ?_)
      obtain ⟨rfl, rfl, rfl⟩ := hv18
      show X k w _ 113 [some (.ref (wA w (x))), some (.int (nI (n5))), some (.int (a2))] [.int (htC (h (x + 4) (n5)) (nI (0)))] h g
      exact X_iret C (D (113, .ireturn, 1) (mg 40 rfl)) (pF_i ((if_pos (by omega)).trans ((show ofY a2 = nI 0 from by rw [(by assumption : a2 = 4)]; rfl).trans (Eq.symm (by rw [hE _ (by omega)]; exact htC_0 _)))) (fun q i z => rfl))
    · refine X_swIn (tgt := 114) C (D (15, .tableswitch 111 0 5 #[37, 50, 62, 74, 86, 99], 37) (mg 8 rfl)) (5) (by rw [q6]; decide) (by decide) (by decide) rfl (by decide) ?_
      refine X_aload_n C 0 (D (114, .aload_n 0, 1) (mg 41 rfl)) rfl rfl ?_
      refine X_get (v := .ref (wA w (x + 1))) C (x) 0 (by omega) hsx rfl rfl (by decide) inX7 fX7_10 rfl (D (115, .getfield 10, 3) (mg 42 rfl)) rfl ?_
      refine X_get (v := .ref (wA w (x + 2))) C (x + 1) 0 (by omega) hT.2.1 rfl rfl (by decide) inX4 fX7_61 rfl (D (118, .getfield 61, 3) (mg 43 rfl)) rfl ?_
      refine X_iload_n C 1 (D (121, .iload_n 1, 1) (mg 44 rfl)) rfl rfl ?_
      refine X_cV (As := [.int (nI (n5))]) (st := []) C (post := _) (x + 2) (by omega) hT.2.2.1.2.1 rfl (cx_X1_dragIn hw (n := x + 2) hT.2.2.1 (j := n5) (by omega) h g) kX7_157 (by decide) (by decide) rfl rfl (Nat.le_of_ble_eq_true rfl) (D (122, .invokevirtual 157, 3) (mg 45 rfl)) rfl (fun v21 H19 G20 hv21 => ?_)
      obtain ⟨rfl, rfl, rfl⟩ := hv21
      show X k w _ 125 [some (.ref (wA w (x))), some (.int (nI (n5))), some (.int (a2))] [.int (drC (h (x + 2) 2) (h (x + 3) (n5)) (h (x + 4) (n5)))] h g
      exact X_iret C (D (125, .ireturn, 1) (mg 46 rfl)) (pF_i ((if_pos (by omega)).trans ((show ofY a2 = (-1 : Int32) from by rw [(by assumption : a2 = 5)]; rfl).trans (Eq.symm (by rw [hE _ (by omega)]; rfl)))) (fun q i z => rfl))
    · refine X_swOut (tgt := 126) C (D (15, .tableswitch 111 0 5 #[37, 50, 62, 74, 86, 99], 37) (mg 8 rfl)) q6 (by decide) ?_
      refine X_aload_n C 0 (D (126, .aload_n 0, 1) (mg 47 rfl)) rfl rfl ?_
      refine X_cV (As := []) (st := []) C (post := _) (x) (by omega) hsx rfl (ct_X7_refuseBad hw hC0 h g) kX7_57 (by decide) (by decide) rfl rfl (Nat.le_of_ble_eq_true rfl) (D (127, .invokevirtual 57, 3) (mg 48 rfl)) rfl (fun v24 H22 G23 hv24 => ?_)
      obtain ⟨rfl, rfl, rfl⟩ := hv24
      show X k w _ 130 [some (.ref (wA w (x))), some (.int (nI (n5))), some (.int (a2))] [.int ((-2 : Int32))] (rcH h (x) 9) g
      exact X_iret C (D (130, .ireturn, 1) (mg 49 rfl)) (pF_i (by first | exact if_neg (by omega) | exact (if_pos (by omega)).trans (ofY_o (by assumption))) (fun q i z => by rw [rcH_ne _ _ _ (by omega)]))
  · skip
    have q4 : ¬ (0 ≤ (a1).toInt ∧ (a1).toInt < ((25 : Nat) : Int)) := bz0.mp q4
    refine X_aload_n C 0 (D (9, .aload_n 0, 1) (mg 4 rfl)) rfl rfl ?_
    refine X_cV (As := []) (st := []) C (post := _) (x) (by omega) hsx rfl (ct_X7_refuseBad hw hC0 h g) kX7_57 (by decide) (by decide) rfl rfl (Nat.le_of_ble_eq_true rfl) (D (10, .invokevirtual 57, 3) (mg 5 rfl)) rfl (fun v27 H25 G26 hv27 => ?_)
    obtain ⟨rfl, rfl, rfl⟩ := hv27
    show X k w _ 13 [some (.ref (wA w (x))), some (.int (a1)), some (.int (a2))] [.int ((-2 : Int32))] (rcH h (x) 9) g
    exact X_iret C (D (13, .ireturn, 1) (mg 6 rfl)) (pF_i (by first | exact if_neg (by omega) | exact (if_pos (by omega)).trans (ofY_o (by assumption))) (fun q i z => by rw [rcH_ne _ _ _ (by omega)]))
set_option maxHeartbeats 4000000 in
set_option maxRecDepth 100000 in
theorem cx_X7_high {l : Launch} {w : Kw} (hw : wOk w) {x : Nat} (hC : shC w x) (a1 a2 : Int32) (h : xI) (g : xJ) (hF : cFr x h) : Ct l w yX7_high cX7_high 3 (some .int) 3 68 [.ref (wA w (x)), .int (a1), .int (a2)] h g (pF (if (0 ≤ a1.toInt ∧ a1.toInt < 25) ∧ (0 ≤ a2.toInt ∧ a2.toInt ≤ 60) then nI 0 else (-2 : Int32)) x h) := by
  refine Ct_of (ls := [some (.ref (wA w (x))), some (.int (a1)), some (.int (a2))]) (by decide) hw (Nat.le_of_ble_eq_true rfl) rfl (fun k hkl C => ?_)
  have C : Cx k w cX7_high RX7 3 (some .int) 3 68 := C
  have D := dtX7_high
  subst hkl
  have hC0 := hC
  obtain ⟨hxn, hsx, hT, hsi, hTa, hTb, hsk, hNs, hY, hX, hsv⟩ := hC
  have hY2 := hY.1
  have hX2 := hX.1
  obtain ⟨hI, hE, hSt, hk2, hk3, hk4, hps, hse, hma, htx, hr9, hr10, hr11⟩ := hF
  have hI0 := hI
  obtain ⟨⟨⟨c0_, hc0_, hat_⟩, hpa, -, -⟩, -, -, -, -⟩ := hI
  have hI := hI0
  refine X_iload_n C 1 (D (0, .iload_n 1, 1) (mg 0 rfl)) rfl rfl ?_
  refine X_bipush (v := nI (25)) C (D (1, .bipush 25, 2) (mg 1 rfl)) (by decide) ?_
  refine X_cS (As := [.int (a1), .int (nI (25))]) (st := []) C (post := _) (ct_X7_isBelow hw (a1) (B := 25) (by decide) h g) kX7_53 (by decide) (by decide) rfl rfl (Nat.le_of_ble_eq_true rfl) (D (3, .invokestatic 53, 3) (mg 2 rfl)) rfl (fun v3 H1 G2 hv3 => ?_)
  obtain ⟨rfl, rfl, rfl⟩ := hv3
  show X k w _ 6 [some (.ref (wA w (x))), some (.int (a1)), some (.int (a2))] [.int (if 0 ≤ (a1).toInt ∧ (a1).toInt < ((25 : Nat) : Int) then 1 else 0)] h g
  refine X_if_eq (tgt := 16) C (D (6, .ifCond .eq 10, 3) (mg 3 rfl)) (by decide) (fun q4 => ?_) (fun q4 => ?_)
  · skip
    have q4 : ¬ (0 ≤ (a1).toInt ∧ (a1).toInt < ((25 : Nat) : Int)) := bz0.mp q4
    refine X_aload_n C 0 (D (16, .aload_n 0, 1) (mg 7 rfl)) rfl rfl ?_
    refine X_cV (As := []) (st := []) C (post := _) (x) (by omega) hsx rfl (ct_X7_refuseBad hw hC0 h g) kX7_57 (by decide) (by decide) rfl rfl (Nat.le_of_ble_eq_true rfl) (D (17, .invokevirtual 57, 3) (mg 8 rfl)) rfl (fun v7 H5 G6 hv7 => ?_)
    obtain ⟨rfl, rfl, rfl⟩ := hv7
    show X k w _ 20 [some (.ref (wA w (x))), some (.int (a1)), some (.int (a2))] [.int ((-2 : Int32))] (rcH h (x) 9) g
    exact X_iret C (D (20, .ireturn, 1) (mg 9 rfl)) (pF_i (if_neg (by omega)) (fun q i z => by rw [rcH_ne _ _ _ (by omega)]))
  · skip
    have q4 : (0 ≤ (a1).toInt ∧ (a1).toInt < ((25 : Nat) : Int)) := bz1.mp q4
    obtain ⟨n8, hn8, rfl⟩ := nI_i (x := a1) (n := 25) q4.1 (by omega)
    refine X_iload_n C 2 (D (9, .iload_n 2, 1) (mg 4 rfl)) rfl rfl ?_
    refine X_cS (As := [.int (a2)]) (st := []) C (post := _) (ct_X7_isLookAhead hw (a2) h g) kX7_160 (by decide) (by decide) rfl rfl (Nat.le_of_ble_eq_true rfl) (D (10, .invokestatic 160, 3) (mg 5 rfl)) rfl (fun v11 H9 G10 hv11 => ?_)
    obtain ⟨rfl, rfl, rfl⟩ := hv11
    show X k w _ 13 [some (.ref (wA w (x))), some (.int (nI (n8))), some (.int (a2))] [.int (if 0 ≤ (a2).toInt ∧ (a2).toInt < ((61 : Nat) : Int) then 1 else 0)] h g
    refine X_if_ne (tgt := 21) C (D (13, .ifCond .ne 8, 3) (mg 6 rfl)) (by decide) (fun q12 => ?_) (fun q12 => ?_)
    · skip
      have q12 : (0 ≤ (a2).toInt ∧ (a2).toInt < ((61 : Nat) : Int)) := bz1.mp q12
      refine X_aload_n C 0 (D (21, .aload_n 0, 1) (mg 10 rfl)) rfl rfl ?_
      refine X_get (v := .ref (wA w (x + 1))) C (x) 0 (by omega) hsx rfl rfl (by decide) inX7 fX7_10 rfl (D (22, .getfield 10, 3) (mg 11 rfl)) rfl ?_
      refine X_get (v := .ref (wA w (x + 2))) C (x + 1) 0 (by omega) hT.2.1 rfl rfl (by decide) inX4 fX7_61 rfl (D (25, .getfield 61, 3) (mg 12 rfl)) rfl ?_
      refine X_iload_n C 1 (D (28, .iload_n 1, 1) (mg 13 rfl)) rfl rfl ?_
      refine X_iload_n C 2 (D (29, .iload_n 2, 1) (mg 14 rfl)) rfl rfl ?_
      refine X_cV (As := [.int (nI (n8)), .int (a2)]) (st := []) C (post := _) (x + 2) (by omega) hT.2.2.1.2.1 rfl (cx_X1_heightAfter hw (n := x + 2) hT.2.2.1 (j := n8) (by omega) (a2) h g) kX7_129 (by decide) (by decide) rfl rfl (Nat.le_of_ble_eq_true rfl) (D (30, .invokevirtual 129, 3) (mg 15 rfl)) rfl (fun v15 H13 G14 hv15 => ?_)
      obtain ⟨rfl, rfl, rfl⟩ := hv15
      show X k w _ 33 [some (.ref (wA w (x))), some (.int (nI (n8))), some (.int (a2))] [.int (htC (h (x + 4) (n8)) (a2))] h g
      exact X_iret C (D (33, .ireturn, 1) (mg 16 rfl)) (pF_i ((if_pos (by omega)).trans (Eq.symm (by rw [hE _ (by omega)]; exact htC_0 _))) (fun q i z => rfl))
    · skip
      have q12 : ¬ (0 ≤ (a2).toInt ∧ (a2).toInt < ((61 : Nat) : Int)) := bz0.mp q12
      refine X_aload_n C 0 (D (16, .aload_n 0, 1) (mg 7 rfl)) rfl rfl ?_
      refine X_cV (As := []) (st := []) C (post := _) (x) (by omega) hsx rfl (ct_X7_refuseBad hw hC0 h g) kX7_57 (by decide) (by decide) rfl rfl (Nat.le_of_ble_eq_true rfl) (D (17, .invokevirtual 57, 3) (mg 8 rfl)) rfl (fun v18 H16 G17 hv18 => ?_)
      obtain ⟨rfl, rfl, rfl⟩ := hv18
      show X k w _ 20 [some (.ref (wA w (x))), some (.int (nI (n8))), some (.int (a2))] [.int ((-2 : Int32))] (rcH h (x) 9) g
      exact X_iret C (D (20, .ireturn, 1) (mg 9 rfl)) (pF_i (if_neg (by omega)) (fun q i z => by rw [rcH_ne _ _ _ (by omega)]))
set_option maxHeartbeats 4000000 in
set_option maxRecDepth 100000 in
theorem cx_X7_weeks {l : Launch} {w : Kw} (hw : wOk w) {x : Nat} (hC : shC w x) (a1 : Int32) (h : xI) (g : xJ) (hF : cFr x h) : Ct l w yX7_weeks cX7_weeks 3 (some .int) 5 113 [.ref (wA w (x)), .int (a1)] h g (pF (if 1 ≤ a1.toInt ∧ a1.toInt ≤ 60 then nI 0 else (-2 : Int32)) x h) := by
  refine Ct_of (ls := [some (.ref (wA w (x))), some (.int (a1)), none]) (by decide) hw (Nat.le_of_ble_eq_true rfl) rfl (fun k hkl C => ?_)
  have C : Cx k w cX7_weeks RX7 3 (some .int) 5 113 := C
  have D := dtX7_weeks
  subst hkl
  generalize hPP : (pF (if 1 ≤ a1.toInt ∧ a1.toInt ≤ 60 then nI 0 else (-2 : Int32)) x h) = PP
  have hC0 := hC
  obtain ⟨hxn, hsx, hT, hsi, hTa, hTb, hsk, hNs, hY, hX, hsv⟩ := hC
  have hY2 := hY.1
  have hX2 := hX.1
  obtain ⟨hI, hE, hSt, hk2, hk3, hk4, hps, hse, hma, htx, hr9, hr10, hr11⟩ := hF
  have hI0 := hI
  obtain ⟨⟨⟨c0_, hc0_, hat_⟩, hpa, -, -⟩, -, -, -, -⟩ := hI
  have hI := hI0
  refine X_iload_n C 1 (D (0, .iload_n 1, 1) (mg 0 rfl)) rfl rfl ?_
  refine X_iconst (v := nI (1)) C (D (1, .iconst 1, 1) (mg 1 rfl)) (by decide) ?_
  refine X_icmp_lt (tgt := 11) C (D (2, .if_icmp .lt 9, 3) (mg 2 rfl)) (by decide) (fun q1 => ?_) (fun q1 => ?_)
  · skip
    refine X_aload_n C 0 (D (11, .aload_n 0, 1) (mg 6 rfl)) rfl rfl ?_
    refine X_cV (As := []) (st := []) C (post := _) (x) (by omega) hsx rfl (ct_X7_refuseBad hw hC0 h g) kX7_57 (by decide) (by decide) rfl rfl (Nat.le_of_ble_eq_true rfl) (D (12, .invokevirtual 57, 3) (mg 7 rfl)) rfl (fun v4 H2 G3 hv4 => ?_)
    obtain ⟨rfl, rfl, rfl⟩ := hv4
    show X k w _ 15 [some (.ref (wA w (x))), some (.int (a1)), none] [.int ((-2 : Int32))] (rcH h (x) 9) g
    exact X_iret C (D (15, .ireturn, 1) (mg 8 rfl)) (by rw [← hPP]; exact pF_i (if_neg (by simp only [Int32.lt_iff_toInt_lt, Int32.le_iff_toInt_le, nI_i2 (n := 1) (by omega), nI_i2 (n := 60) (by omega)] at *; omega)) (fun q i z => by rw [rcH_ne _ _ _ (by omega)]))
  · skip
    refine X_iload_n C 1 (D (5, .iload_n 1, 1) (mg 3 rfl)) rfl rfl ?_
    refine X_bipush (v := nI (60)) C (D (6, .bipush 60, 2) (mg 4 rfl)) (by decide) ?_
    refine X_icmp_le (tgt := 16) C (D (8, .if_icmp .le 8, 3) (mg 5 rfl)) (by decide) (fun q5 => ?_) (fun q5 => ?_)
    · skip
      have hq_ : 1 ≤ a1.toInt ∧ a1.toInt ≤ 60 := (by simp only [Int32.lt_iff_toInt_lt, Int32.le_iff_toInt_le, nI_i2 (n := 1) (by omega), nI_i2 (n := 60) (by omega)] at *; omega)
      obtain ⟨n6, hn6, rfl⟩ := nI_i (x := a1) (n := 61) (by simp only [Int32.lt_iff_toInt_lt, Int32.le_iff_toInt_le, nI_i2 (n := 1) (by omega), nI_i2 (n := 60) (by omega)] at *; omega) (by simp only [Int32.lt_iff_toInt_lt, Int32.le_iff_toInt_le, nI_i2 (n := 1) (by omega), nI_i2 (n := 60) (by omega)] at *; omega)
      refine X_aload_n C 0 (D (16, .aload_n 0, 1) (mg 9 rfl)) rfl rfl ?_
      refine X_get (v := .ref (wA w (x + 1))) C (x) 0 (by omega) hsx rfl rfl (by decide) inX7 fX7_10 rfl (D (17, .getfield 10, 3) (mg 10 rfl)) rfl ?_
      refine X_get (v := .ref (wA w (x + 2))) C (x + 1) 0 (by omega) hT.2.1 rfl rfl (by decide) inX4 fX7_61 rfl (D (20, .getfield 61, 3) (mg 11 rfl)) rfl ?_
      refine X_get (v := .int (h (x + 2) 4)) C (x + 2) 4 (by omega) hT.2.2.1.2.1 rfl rfl (by decide) inX1 fX7_135 rfl (D (23, .getfield 135, 3) (mg 12 rfl)) rfl ?_
      refine X_ti (y := nI (0)) (hk4) ?_
      refine X_sipush (v := nI (9999)) C (D (26, .sipush 9999, 3) (mg 13 rfl)) (by decide) ?_
      refine X_icmp_ge (tgt := 49) C (D (29, .if_icmp .ge 20, 3) (mg 14 rfl)) (by decide) (fun q7 => ?_) (fun q7 => ?_)
      · skip
        exact absurd q7 (by decide)
      · skip
        refine X_aload_n C 0 (D (32, .aload_n 0, 1) (mg 15 rfl)) rfl rfl ?_
        refine X_get (v := .ref (wA w (x + 1))) C (x) 0 (by omega) hsx rfl rfl (by decide) inX7 fX7_10 rfl (D (33, .getfield 10, 3) (mg 16 rfl)) rfl ?_
        refine X_get (v := .ref (wA w (x + 5))) C (x + 1) 1 (by omega) hT.2.1 rfl rfl (by decide) inX4 fX7_78 rfl (D (36, .getfield 78, 3) (mg 17 rfl)) rfl ?_
        refine X_aload_n C 0 (D (39, .aload_n 0, 1) (mg 18 rfl)) rfl rfl ?_
        refine X_get (v := .ref (wA w (x + 1))) C (x) 0 (by omega) hsx rfl rfl (by decide) inX7 fX7_10 rfl (D (40, .getfield 10, 3) (mg 19 rfl)) rfl ?_
        refine X_get (v := .ref (wA w (x + 2))) C (x + 1) 0 (by omega) hT.2.1 rfl rfl (by decide) inX4 fX7_61 rfl (D (43, .getfield 61, 3) (mg 20 rfl)) rfl ?_
        refine X_cV (As := [.ref (wA w (x + 2))]) (st := []) C (post := _) (x + 5) (by omega) hT.2.2.2.1.2.1 rfl (ct_X2_keep hw (p := x + 5) hT.2.2.2.1 (n := x + 2) hT.2.2.1 (by omega) h g hpa ⟨0, (by omega), (hk3)⟩) kX7_112 (by decide) (by decide) rfl rfl (Nat.le_of_ble_eq_true rfl) (D (46, .invokevirtual 112, 3) (mg 21 rfl)) rfl (fun v10 H8 G9 hv10 => ?_)
        obtain ⟨rfl, f11⟩ := hv10
        show X k w _ 49 [some (.ref (wA w (x))), some (.int (nI (n6))), none] [] H8 G9
        refine X_iconst (v := nI (0)) C (D (49, .iconst 0, 1) (mg 22 rfl)) (by decide) ?_
        refine X_istore_n (ls' := [some (.ref (wA w (x))), some (.int (nI (n6))), some (.int (nI (0)))]) C 2 (D (50, .istore_n 2, 1) (mg 23 rfl)) rfl (Nat.le_of_ble_eq_true rfl) rfl ?_
        have lp51 : ∀ (nn51 : Nat) (j : Nat) (hp51 : xI) (gp51 : xJ), (j ≤ 60) → (∀ c, c < 25 → hp51 (x + 4) c = (-1 : Int32)) → (∀ q i, x + 38 < q → hp51 q i = h q i) → 61 - j ≤ nn51 → X k w (Zq k w (PP)) 51 [some (.ref (wA w (x))), some (.int (nI (n6))), some (.int (nI (j)))] [] hp51 gp51 := by
          intro nn51
          induction nn51 with
          | zero => intro j hp51 gp51 hc51_0 hc51_1 hc51_2 hz; exact absurd hz (by omega)
          | succ nn51 ih51 =>
            intro j hp51 gp51 hc51_0 hc51_1 hc51_2 hz51
            refine X_iload_n C 2 (D (51, .iload_n 2, 1) (mg 24 rfl)) rfl rfl ?_
            refine X_iload_n C 1 (D (52, .iload_n 1, 1) (mg 25 rfl)) rfl rfl ?_
            refine X_icmp_ge (tgt := 88) C (D (53, .if_icmp .ge 35, 3) (mg 26 rfl)) (by decide) (fun q12 => ?_) (fun q12 => ?_)
            · skip
              have q12 : (j) ≥ (n6) := by have z := (nI_leI (a := (n6)) (b := (j)) (by omega) (by omega)).mp q12; omega
              refine X_aload_n C 0 (D (88, .aload_n 0, 1) (mg 39 rfl)) rfl rfl ?_
              refine X_get (v := .ref (wA w (x + 1))) C (x) 0 (by omega) hsx rfl rfl (by decide) inX7 fX7_10 rfl (D (89, .getfield 10, 3) (mg 40 rfl)) rfl ?_
              refine X_get (v := .ref (wA w (x + 2))) C (x + 1) 0 (by omega) hT.2.1 rfl rfl (by decide) inX4 fX7_61 rfl (D (92, .getfield 61, 3) (mg 41 rfl)) rfl ?_
              refine X_iconst (v := nI (0)) C (D (95, .iconst 0, 1) (mg 42 rfl)) (by decide) ?_
              refine X_cV (As := [.int (nI (0))]) (st := []) C (post := _) (x + 2) (by omega) hT.2.2.1.2.1 rfl (cx_X1_greenAfter hw (n := x + 2) hT.2.2.1 (nI (0)) hp51 gp51) kX7_141 (by decide) (by decide) rfl rfl (Nat.le_of_ble_eq_true rfl) (D (96, .invokevirtual 141, 3) (mg 43 rfl)) rfl (fun v15 H13 G14 hv15 => ?_)
              obtain ⟨rfl, rfl, rfl⟩ := hv15
              show X k w _ 99 [some (.ref (wA w (x))), some (.int (nI (n6))), some (.int (nI (j)))] [.int (nI (cn (fun c => ¬ htC (hp51 (x + 4) c) (nI (0)) < nI 1) 25))] hp51 gp51
              refine X_ti (y := nI (0)) (congrArg nI (cn_e (q := x + 4) hc51_1)) ?_
              exact X_iret C (D (99, .ireturn, 1) (mg 44 rfl)) (by rw [← hPP]; exact pF_i (if_pos (by omega)) hc51_2)
            · skip
              have q12 : (j) < (n6) := by have z : ¬ ((n6) ≤ (j)) := fun u => q12 ((nI_leI (a := (n6)) (b := (j)) (by omega) (by omega)).mpr u); omega
              refine X_aload_n C 0 (D (56, .aload_n 0, 1) (mg 27 rfl)) rfl rfl ?_
              refine X_get (v := .ref (wA w (x + 1))) C (x) 0 (by omega) hsx rfl rfl (by decide) inX7 fX7_10 rfl (D (57, .getfield 10, 3) (mg 28 rfl)) rfl ?_
              refine X_get (v := .ref (wA w (x + 2))) C (x + 1) 0 (by omega) hT.2.1 rfl rfl (by decide) inX4 fX7_61 rfl (D (60, .getfield 61, 3) (mg 29 rfl)) rfl ?_
              refine X_get (v := .int (hp51 (x + 2) 4)) C (x + 2) 4 (by omega) hT.2.2.1.2.1 rfl rfl (by decide) inX1 fX7_135 rfl (D (63, .getfield 135, 3) (mg 30 rfl)) rfl ?_
              refine X_sipush (v := nI (9999)) C (D (66, .sipush 9999, 3) (mg 31 rfl)) (by decide) ?_
              refine X_icmp_ge (tgt := 88) C (D (69, .if_icmp .ge 19, 3) (mg 32 rfl)) (by decide) (fun q16 => ?_) (fun q16 => ?_)
              · skip
                refine X_aload_n C 0 (D (88, .aload_n 0, 1) (mg 39 rfl)) rfl rfl ?_
                refine X_get (v := .ref (wA w (x + 1))) C (x) 0 (by omega) hsx rfl rfl (by decide) inX7 fX7_10 rfl (D (89, .getfield 10, 3) (mg 40 rfl)) rfl ?_
                refine X_get (v := .ref (wA w (x + 2))) C (x + 1) 0 (by omega) hT.2.1 rfl rfl (by decide) inX4 fX7_61 rfl (D (92, .getfield 61, 3) (mg 41 rfl)) rfl ?_
                refine X_iconst (v := nI (0)) C (D (95, .iconst 0, 1) (mg 42 rfl)) (by decide) ?_
                refine X_cV (As := [.int (nI (0))]) (st := []) C (post := _) (x + 2) (by omega) hT.2.2.1.2.1 rfl (cx_X1_greenAfter hw (n := x + 2) hT.2.2.1 (nI (0)) hp51 gp51) kX7_141 (by decide) (by decide) rfl rfl (Nat.le_of_ble_eq_true rfl) (D (96, .invokevirtual 141, 3) (mg 43 rfl)) rfl (fun v19 H17 G18 hv19 => ?_)
                obtain ⟨rfl, rfl, rfl⟩ := hv19
                show X k w _ 99 [some (.ref (wA w (x))), some (.int (nI (n6))), some (.int (nI (j)))] [.int (nI (cn (fun c => ¬ htC (hp51 (x + 4) c) (nI (0)) < nI 1) 25))] hp51 gp51
                refine X_ti (y := nI (0)) (congrArg nI (cn_e (q := x + 4) hc51_1)) ?_
                exact X_iret C (D (99, .ireturn, 1) (mg 44 rfl)) (by rw [← hPP]; exact pF_i (if_pos (by omega)) hc51_2)
              · skip
                refine X_aload_n C 0 (D (72, .aload_n 0, 1) (mg 33 rfl)) rfl rfl ?_
                refine X_get (v := .ref (wA w (x + 1))) C (x) 0 (by omega) hsx rfl rfl (by decide) inX7 fX7_10 rfl (D (73, .getfield 10, 3) (mg 34 rfl)) rfl ?_
                refine X_get (v := .ref (wA w (x + 2))) C (x + 1) 0 (by omega) hT.2.1 rfl rfl (by decide) inX4 fX7_61 rfl (D (76, .getfield 61, 3) (mg 35 rfl)) rfl ?_
                refine X_cV (As := []) (st := []) C (post := _) (x + 2) (by omega) hT.2.2.1.2.1 rfl (ct_X1_passWeek hw (n := x + 2) hT.2.2.1  hp51 gp51) kX7_138 (by decide) (by decide) rfl rfl (Nat.le_of_ble_eq_true rfl) (D (79, .invokevirtual 138, 3) (mg 36 rfl)) rfl (fun v22 H20 G21 hv22 => ?_)
                obtain ⟨rfl, rfl, rfl⟩ := hv22
                show X k w _ 82 [some (.ref (wA w (x))), some (.int (nI (n6))), some (.int (nI (j)))] [] (cwH hp51 (x + 2)) gp51
                refine X_iinc (v := nI (j + 1)) (ls' := [some (.ref (wA w (x))), some (.int (nI (n6))), some (.int (nI (j + 1)))]) C (D (82, .iinc 2 1, 3) (mg 37 rfl)) rfl (nI_add (j) 1) rfl ?_
                refine X_goto (tgt := 51) C (D (85, .goto (-34), 3) (mg 38 rfl)) (by decide) ?_
                refine X_eq (ls' := [some (.ref (wA w (x))), some (.int (nI (n6))), some (.int (nI (j + 1)))]) (st' := []) (h' := (cwH hp51 (x + 2))) (g' := gp51) rfl rfl rfl rfl ?_
                exact ih51 (j + 1) ((cwH hp51 (x + 2))) (gp51) (by omega) (cw_emp (n := x + 2) hc51_1) (fun q i z => by rw [cwH_ne _ _ (by omega)]; exact hc51_2 q i z) (by omega)
        refine X_eq (ls' := [some (.ref (wA w (x))), some (.int (nI (n6))), some (.int (nI (0)))]) (st' := []) (h' := H8) (g' := G9) rfl rfl rfl rfl ?_
        exact lp51 _ (0) (H8) (G9) (by omega) (fun c hc => by rw [f11.1 _ _ (by omega) (by omega)]; exact hE c hc) (fun q i z => by rw [f11.1 _ _ (by omega) (by omega)]) (Nat.le_refl _)
    · skip
      refine X_aload_n C 0 (D (11, .aload_n 0, 1) (mg 6 rfl)) rfl rfl ?_
      refine X_cV (As := []) (st := []) C (post := _) (x) (by omega) hsx rfl (ct_X7_refuseBad hw hC0 h g) kX7_57 (by decide) (by decide) rfl rfl (Nat.le_of_ble_eq_true rfl) (D (12, .invokevirtual 57, 3) (mg 7 rfl)) rfl (fun v25 H23 G24 hv25 => ?_)
      obtain ⟨rfl, rfl, rfl⟩ := hv25
      show X k w _ 15 [some (.ref (wA w (x))), some (.int (a1)), none] [.int ((-2 : Int32))] (rcH h (x) 9) g
      exact X_iret C (D (15, .ireturn, 1) (mg 8 rfl)) (by rw [← hPP]; exact pF_i (if_neg (by simp only [Int32.lt_iff_toInt_lt, Int32.le_iff_toInt_le, nI_i2 (n := 1) (by omega), nI_i2 (n := 60) (by omega)] at *; omega)) (fun q i z => by rw [rcH_ne _ _ _ (by omega)]))
set_option maxHeartbeats 4000000 in
set_option maxRecDepth 100000 in
theorem cx_X7_when {l : Launch} {w : Kw} (hw : wOk w) {x : Nat} (hC : shC w x) (a1 a2 : Int32) (h : xI) (g : xJ) (hF : cFr x h) : Ct l w yX7_when cX7_when 4 (some .int) 3 68 [.ref (wA w (x)), .int (a1), .int (a2)] h g (pF (if (0 ≤ a1.toInt ∧ a1.toInt < 25) ∧ (1 ≤ a2.toInt ∧ a2.toInt ≤ 20) then (-1 : Int32) else (-2 : Int32)) x h) := by
  refine Ct_of (ls := [some (.ref (wA w (x))), some (.int (a1)), some (.int (a2)), none]) (by decide) hw (Nat.le_of_ble_eq_true rfl) rfl (fun k hkl C => ?_)
  have C : Cx k w cX7_when RX7 4 (some .int) 3 68 := C
  have D := dtX7_when
  subst hkl
  generalize hPP : (pF (if (0 ≤ a1.toInt ∧ a1.toInt < 25) ∧ (1 ≤ a2.toInt ∧ a2.toInt ≤ 20) then (-1 : Int32) else (-2 : Int32)) x h) = PP
  have hC0 := hC
  obtain ⟨hxn, hsx, hT, hsi, hTa, hTb, hsk, hNs, hY, hX, hsv⟩ := hC
  have hY2 := hY.1
  have hX2 := hX.1
  obtain ⟨hI, hE, hSt, hk2, hk3, hk4, hps, hse, hma, htx, hr9, hr10, hr11⟩ := hF
  have hI0 := hI
  obtain ⟨⟨⟨c0_, hc0_, hat_⟩, hpa, -, -⟩, -, -, -, -⟩ := hI
  have hI := hI0
  refine X_iload_n C 1 (D (0, .iload_n 1, 1) (mg 0 rfl)) rfl rfl ?_
  refine X_bipush (v := nI (25)) C (D (1, .bipush 25, 2) (mg 1 rfl)) (by decide) ?_
  refine X_cS (As := [.int (a1), .int (nI (25))]) (st := []) C (post := _) (ct_X7_isBelow hw (a1) (B := 25) (by decide) h g) kX7_53 (by decide) (by decide) rfl rfl (Nat.le_of_ble_eq_true rfl) (D (3, .invokestatic 53, 3) (mg 2 rfl)) rfl (fun v3 H1 G2 hv3 => ?_)
  obtain ⟨rfl, rfl, rfl⟩ := hv3
  show X k w _ 6 [some (.ref (wA w (x))), some (.int (a1)), some (.int (a2)), none] [.int (if 0 ≤ (a1).toInt ∧ (a1).toInt < ((25 : Nat) : Int) then 1 else 0)] h g
  refine X_if_eq (tgt := 20) C (D (6, .ifCond .eq 14, 3) (mg 3 rfl)) (by decide) (fun q4 => ?_) (fun q4 => ?_)
  · skip
    have q4 : ¬ (0 ≤ (a1).toInt ∧ (a1).toInt < ((25 : Nat) : Int)) := bz0.mp q4
    refine X_aload_n C 0 (D (20, .aload_n 0, 1) (mg 10 rfl)) rfl rfl ?_
    refine X_cV (As := []) (st := []) C (post := _) (x) (by omega) hsx rfl (ct_X7_refuseBad hw hC0 h g) kX7_57 (by decide) (by decide) rfl rfl (Nat.le_of_ble_eq_true rfl) (D (21, .invokevirtual 57, 3) (mg 11 rfl)) rfl (fun v7 H5 G6 hv7 => ?_)
    obtain ⟨rfl, rfl, rfl⟩ := hv7
    show X k w _ 24 [some (.ref (wA w (x))), some (.int (a1)), some (.int (a2)), none] [.int ((-2 : Int32))] (rcH h (x) 9) g
    exact X_iret C (D (24, .ireturn, 1) (mg 12 rfl)) (by rw [← hPP]; exact pF_i (if_neg (by first | omega | (simp only [Int32.lt_iff_toInt_lt, Int32.le_iff_toInt_le, nI_i2 (n := 1) (by omega), nI_i2 (n := 20) (by omega)] at *; omega))) (fun q i z => by rw [rcH_ne _ _ _ (by omega)]))
  · skip
    have q4 : (0 ≤ (a1).toInt ∧ (a1).toInt < ((25 : Nat) : Int)) := bz1.mp q4
    obtain ⟨n8, hn8, rfl⟩ := nI_i (x := a1) (n := 25) q4.1 (by omega)
    refine X_iload_n C 2 (D (9, .iload_n 2, 1) (mg 4 rfl)) rfl rfl ?_
    refine X_iconst (v := nI (1)) C (D (10, .iconst 1, 1) (mg 5 rfl)) (by decide) ?_
    refine X_icmp_lt (tgt := 20) C (D (11, .if_icmp .lt 9, 3) (mg 6 rfl)) (by decide) (fun q9 => ?_) (fun q9 => ?_)
    · skip
      refine X_aload_n C 0 (D (20, .aload_n 0, 1) (mg 10 rfl)) rfl rfl ?_
      refine X_cV (As := []) (st := []) C (post := _) (x) (by omega) hsx rfl (ct_X7_refuseBad hw hC0 h g) kX7_57 (by decide) (by decide) rfl rfl (Nat.le_of_ble_eq_true rfl) (D (21, .invokevirtual 57, 3) (mg 11 rfl)) rfl (fun v12 H10 G11 hv12 => ?_)
      obtain ⟨rfl, rfl, rfl⟩ := hv12
      show X k w _ 24 [some (.ref (wA w (x))), some (.int (nI (n8))), some (.int (a2)), none] [.int ((-2 : Int32))] (rcH h (x) 9) g
      exact X_iret C (D (24, .ireturn, 1) (mg 12 rfl)) (by rw [← hPP]; exact pF_i (if_neg (by first | omega | (simp only [Int32.lt_iff_toInt_lt, Int32.le_iff_toInt_le, nI_i2 (n := 1) (by omega), nI_i2 (n := 20) (by omega)] at *; omega))) (fun q i z => by rw [rcH_ne _ _ _ (by omega)]))
    · skip
      refine X_iload_n C 2 (D (14, .iload_n 2, 1) (mg 7 rfl)) rfl rfl ?_
      refine X_bipush (v := nI (20)) C (D (15, .bipush 20, 2) (mg 8 rfl)) (by decide) ?_
      refine X_icmp_le (tgt := 25) C (D (17, .if_icmp .le 8, 3) (mg 9 rfl)) (by decide) (fun q13 => ?_) (fun q13 => ?_)
      · skip
        have hq_ : 1 ≤ a2.toInt ∧ a2.toInt ≤ 20 := (by simp only [Int32.lt_iff_toInt_lt, Int32.le_iff_toInt_le, nI_i2 (n := 1) (by omega), nI_i2 (n := 20) (by omega)] at *; omega)
        refine X_iconst (v := nI (0)) C (D (25, .iconst 0, 1) (mg 13 rfl)) (by decide) ?_
        refine X_istore_n (ls' := [some (.ref (wA w (x))), some (.int (nI (n8))), some (.int (a2)), some (.int (nI (0)))]) C 3 (D (26, .istore_n 3, 1) (mg 14 rfl)) rfl (Nat.le_of_ble_eq_true rfl) rfl ?_
        have lp27 : ∀ (nn27 : Nat) (j : Nat), (j ≤ 61) → 62 - j ≤ nn27 → X k w (Zq k w (PP)) 27 [some (.ref (wA w (x))), some (.int (nI (n8))), some (.int (a2)), some (.int (nI (j)))] [] h g := by
          intro nn27
          induction nn27 with
          | zero => intro j hc27_0 hz; exact absurd hz (by omega)
          | succ nn27 ih27 =>
            intro j hc27_0 hz27
            refine X_iload_n C 3 (D (27, .iload_n 3, 1) (mg 15 rfl)) rfl rfl ?_
            refine X_bipush (v := nI (60)) C (D (28, .bipush 60, 2) (mg 16 rfl)) (by decide) ?_
            refine X_icmp_gt (tgt := 57) C (D (30, .if_icmp .gt 27, 3) (mg 17 rfl)) (by decide) (fun q14 => ?_) (fun q14 => ?_)
            · skip
              have q14 : (j) > (60) := by have z := (nI_ltI (a := (60)) (b := (j)) (by omega) (by omega)).mp q14; omega
              refine X_iconst (v := (-1 : Int32)) C (D (57, .iconst (-1), 1) (mg 30 rfl)) (by decide) ?_
              exact X_iret C (D (58, .ireturn, 1) (mg 31 rfl)) (by rw [← hPP]; exact pF_i (if_pos ⟨by omega, hq_⟩) (fun q i z => rfl))
            · skip
              have q14 : (j) ≤ (60) := by have z : ¬ ((60) < (j)) := fun u => q14 ((nI_ltI (a := (60)) (b := (j)) (by omega) (by omega)).mpr u); omega
              refine X_aload_n C 0 (D (33, .aload_n 0, 1) (mg 18 rfl)) rfl rfl ?_
              refine X_get (v := .ref (wA w (x + 1))) C (x) 0 (by omega) hsx rfl rfl (by decide) inX7 fX7_10 rfl (D (34, .getfield 10, 3) (mg 19 rfl)) rfl ?_
              refine X_get (v := .ref (wA w (x + 2))) C (x + 1) 0 (by omega) hT.2.1 rfl rfl (by decide) inX4 fX7_61 rfl (D (37, .getfield 61, 3) (mg 20 rfl)) rfl ?_
              refine X_iload_n C 1 (D (40, .iload_n 1, 1) (mg 21 rfl)) rfl rfl ?_
              refine X_iload_n C 3 (D (41, .iload_n 3, 1) (mg 22 rfl)) rfl rfl ?_
              refine X_cV (As := [.int (nI (n8)), .int (nI (j))]) (st := []) C (post := _) (x + 2) (by omega) hT.2.2.1.2.1 rfl (cx_X1_heightAfter hw (n := x + 2) hT.2.2.1 (j := n8) (by omega) (nI (j)) h g) kX7_129 (by decide) (by decide) rfl rfl (Nat.le_of_ble_eq_true rfl) (D (42, .invokevirtual 129, 3) (mg 23 rfl)) rfl (fun v17 H15 G16 hv17 => ?_)
              obtain ⟨rfl, rfl, rfl⟩ := hv17
              show X k w _ 45 [some (.ref (wA w (x))), some (.int (nI (n8))), some (.int (a2)), some (.int (nI (j)))] [.int (htC (h (x + 4) (n8)) (nI (j)))] h g
              refine X_iload_n C 2 (D (45, .iload_n 2, 1) (mg 24 rfl)) rfl rfl ?_
              refine X_icmp_lt (tgt := 51) C (D (46, .if_icmp .lt 5, 3) (mg 25 rfl)) (by decide) (fun q18 => ?_) (fun q18 => ?_)
              · skip
                refine X_iinc (v := nI (j + 1)) (ls' := [some (.ref (wA w (x))), some (.int (nI (n8))), some (.int (a2)), some (.int (nI (j + 1)))]) C (D (51, .iinc 3 1, 3) (mg 28 rfl)) rfl (nI_add (j) 1) rfl ?_
                refine X_goto (tgt := 27) C (D (54, .goto (-27), 3) (mg 29 rfl)) (by decide) ?_
                refine X_eq (ls' := [some (.ref (wA w (x))), some (.int (nI (n8))), some (.int (a2)), some (.int (nI (j + 1)))]) (st' := []) (h' := h) (g' := g) rfl rfl rfl rfl ?_
                exact ih27 (j + 1) (by omega) (by omega)
              · skip
                exact absurd (by rw [hE _ (by omega), htC_0, Int32.lt_iff_toInt_lt, nI_i2 (n := 0) (by omega)]; omega) q18
        refine X_eq (ls' := [some (.ref (wA w (x))), some (.int (nI (n8))), some (.int (a2)), some (.int (nI (0)))]) (st' := []) (h' := h) (g' := g) rfl rfl rfl rfl ?_
        exact lp27 _ (0) (by omega) (Nat.le_refl _)
      · skip
        refine X_aload_n C 0 (D (20, .aload_n 0, 1) (mg 10 rfl)) rfl rfl ?_
        refine X_cV (As := []) (st := []) C (post := _) (x) (by omega) hsx rfl (ct_X7_refuseBad hw hC0 h g) kX7_57 (by decide) (by decide) rfl rfl (Nat.le_of_ble_eq_true rfl) (D (21, .invokevirtual 57, 3) (mg 11 rfl)) rfl (fun v21 H19 G20 hv21 => ?_)
        obtain ⟨rfl, rfl, rfl⟩ := hv21
        show X k w _ 24 [some (.ref (wA w (x))), some (.int (nI (n8))), some (.int (a2)), none] [.int ((-2 : Int32))] (rcH h (x) 9) g
        exact X_iret C (D (24, .ireturn, 1) (mg 12 rfl)) (by rw [← hPP]; exact pF_i (if_neg (by first | omega | (simp only [Int32.lt_iff_toInt_lt, Int32.le_iff_toInt_le, nI_i2 (n := 1) (by omega), nI_i2 (n := 20) (by omega)] at *; omega))) (fun q i z => by rw [rcH_ne _ _ _ (by omega)]))
def stY (a : Int32) : Int32 := if a = 0 then nI 0 else if a = 1 then nI 0 else if a = 2 then nI 0 else (-1 : Int32)
theorem stY_o {a : Int32} (h : a.toInt < 0 ∨ 2 < a.toInt) : stY a = (-1 : Int32) := by
  unfold stY
  rw [if_neg (ne_o h (by decide)), if_neg (ne_o h (by decide)), if_neg (ne_o h (by decide))]
set_option maxHeartbeats 4000000 in
set_option maxRecDepth 100000 in
theorem cx_X7_status {l : Launch} {w : Kw} (hw : wOk w) {x : Nat} (hC : shC w x) (a1 : Int32) (h : xI) (g : xJ) (hF : cFr x h) : Ct l w yX7_status cX7_status 2 (some .int) 0 0 [.ref (wA w (x)), .int (a1)] h g (pF (stY a1) x h) := by
  refine Ct_of (ls := [some (.ref (wA w (x))), some (.int (a1))]) (by decide) hw (Nat.le_of_ble_eq_true rfl) rfl (fun k hkl C => ?_)
  have C : Cx k w cX7_status RX7 2 (some .int) 0 0 := C
  have D := dtX7_status
  subst hkl
  have hC0 := hC
  obtain ⟨hxn, hsx, hT, hsi, hTa, hTb, hsk, hNs, hY, hX, hsv⟩ := hC
  have hY2 := hY.1
  have hX2 := hX.1
  obtain ⟨hI, hE, hSt, hk2, hk3, hk4, hps, hse, hma, htx, hr9, hr10, hr11⟩ := hF
  have hI0 := hI
  obtain ⟨⟨⟨c0_, hc0_, hat_⟩, hpa, -, -⟩, -, -, -, -⟩ := hI
  have hI := hI0
  refine X_iload_n C 1 (D (0, .iload_n 1, 1) (mg 0 rfl)) rfl rfl ?_
  rcases sw_0_2 (a1) with q1 | q1 | q1 | q1
  · refine X_swIn (tgt := 28) C (D (1, .tableswitch 42 0 2 #[27, 32, 37], 27) (mg 1 rfl)) (0) (by rw [q1]; decide) (by decide) (by decide) rfl (by decide) ?_
    refine X_aload_n C 0 (D (28, .aload_n 0, 1) (mg 2 rfl)) rfl rfl ?_
    refine X_get (v := .int (h (x) 9)) C (x) 9 (by omega) hsx rfl rfl (by decide) inX7 fX7_253 rfl (D (29, .getfield 253, 3) (mg 3 rfl)) rfl ?_
    refine X_ti (y := nI (0)) (hr9) ?_
    exact X_iret C (D (32, .ireturn, 1) (mg 4 rfl)) (pF_i (by rw [(by assumption : a1 = 0)]; rfl) (fun q i z => rfl))
  · refine X_swIn (tgt := 33) C (D (1, .tableswitch 42 0 2 #[27, 32, 37], 27) (mg 1 rfl)) (1) (by rw [q1]; decide) (by decide) (by decide) rfl (by decide) ?_
    refine X_aload_n C 0 (D (33, .aload_n 0, 1) (mg 5 rfl)) rfl rfl ?_
    refine X_get (v := .int (h (x) 10)) C (x) 10 (by omega) hsx rfl rfl (by decide) inX7 fX7_256 rfl (D (34, .getfield 256, 3) (mg 6 rfl)) rfl ?_
    refine X_ti (y := nI (0)) (hr10) ?_
    exact X_iret C (D (37, .ireturn, 1) (mg 7 rfl)) (pF_i (by rw [(by assumption : a1 = 1)]; rfl) (fun q i z => rfl))
  · refine X_swIn (tgt := 38) C (D (1, .tableswitch 42 0 2 #[27, 32, 37], 27) (mg 1 rfl)) (2) (by rw [q1]; decide) (by decide) (by decide) rfl (by decide) ?_
    refine X_aload_n C 0 (D (38, .aload_n 0, 1) (mg 8 rfl)) rfl rfl ?_
    refine X_get (v := .int (h (x) 11)) C (x) 11 (by omega) hsx rfl rfl (by decide) inX7 fX7_259 rfl (D (39, .getfield 259, 3) (mg 9 rfl)) rfl ?_
    refine X_ti (y := nI (0)) (hr11) ?_
    exact X_iret C (D (42, .ireturn, 1) (mg 10 rfl)) (pF_i (by rw [(by assumption : a1 = 2)]; rfl) (fun q i z => rfl))
  · refine X_swOut (tgt := 43) C (D (1, .tableswitch 42 0 2 #[27, 32, 37], 27) (mg 1 rfl)) q1 (by decide) ?_
    refine X_aload_n C 0 (D (43, .aload_n 0, 1) (mg 11 rfl)) rfl rfl ?_
    refine X_dup C (D (44, .dup, 1) (mg 12 rfl)) rfl ?_
    refine X_get (v := .int (h (x) 9)) C (x) 9 (by omega) hsx rfl rfl (by decide) inX7 fX7_253 rfl (D (45, .getfield 253, 3) (mg 13 rfl)) rfl ?_
    refine X_ti (y := nI (0)) (hr9) ?_
    refine X_iconst (v := nI (1)) C (D (48, .iconst 1, 1) (mg 14 rfl)) (by decide) ?_
    refine X_iadd C (D (49, .iadd, 1) (mg 15 rfl)) ?_
    refine X_ti (y := nI (0 + 1)) (nI_add (0) (1)) ?_
    refine X_putI C (x) 9 tyX7 tyX7_ok nmX7 (by omega) hsx rfl rfl (by decide) inX7 fX7_253 rfl rfl (by decide +kernel) (D (50, .putfield 253, 3) (mg 16 rfl)) ?_
    refine X_iconst (v := (-1 : Int32)) C (D (53, .iconst (-1), 1) (mg 17 rfl)) (by decide) ?_
    exact X_iret C (D (54, .ireturn, 1) (mg 18 rfl)) (pF_i (stY_o (by assumption)) (fun q i z => by rw [u2_ne _ _ _ _ (by omega)]))
set_option maxHeartbeats 4000000 in
set_option maxRecDepth 100000 in
theorem cx_X7_howMany {l : Launch} {w : Kw} (hw : wOk w) {x : Nat} (hC : shC w x) (a1 : Int32) (h : xI) (g : xJ) (hF : cFr x h) : Ct l w yX7_howMany cX7_howMany 2 (some .int) 5 113 [.ref (wA w (x)), .int (a1)] h g (px (some (.int (nI 0))) h g) := by
  refine Ct_of (ls := [some (.ref (wA w (x))), some (.int (a1))]) (by decide) hw (Nat.le_of_ble_eq_true rfl) rfl (fun k hkl C => ?_)
  have C : Cx k w cX7_howMany RX7 2 (some .int) 5 113 := C
  have D := dtX7_howMany
  subst hkl
  have hC0 := hC
  obtain ⟨hxn, hsx, hT, hsi, hTa, hTb, hsk, hNs, hY, hX, hsv⟩ := hC
  have hY2 := hY.1
  have hX2 := hX.1
  have hF0 := hF
  obtain ⟨hI, hE, hSt, hk2, hk3, hk4, hps, hse, hma, htx, hr9, hr10, hr11⟩ := hF
  have hI0 := hI
  obtain ⟨⟨⟨c0_, hc0_, hat_⟩, hpa, -, -⟩, -, -, -, -⟩ := hI
  have hI := hI0
  refine X_iload_n C 1 (D (0, .iload_n 1, 1) (mg 0 rfl)) rfl rfl ?_
  rcases sw_0_8 (a1) with q1 | q1 | q1 | q1 | q1 | q1 | q1 | q1 | q1 | q1
  · refine X_swIn (tgt := 52) C (D (1, .tableswitch 148 0 8 #[51, 62, 74, 88, 99, 110, 121, 129, 137], 51) (mg 1 rfl)) (0) (by rw [q1]; decide) (by decide) (by decide) rfl (by decide) ?_
    refine X_aload_n C 0 (D (52, .aload_n 0, 1) (mg 2 rfl)) rfl rfl ?_
    refine X_get (v := .ref (wA w (x + 1))) C (x) 0 (by omega) hsx rfl rfl (by decide) inX7 fX7_10 rfl (D (53, .getfield 10, 3) (mg 3 rfl)) rfl ?_
    refine X_get (v := .ref (wA w (x + 2))) C (x + 1) 0 (by omega) hT.2.1 rfl rfl (by decide) inX4 fX7_61 rfl (D (56, .getfield 61, 3) (mg 4 rfl)) rfl ?_
    refine X_cV (As := []) (st := []) C (post := _) (x + 2) (by omega) hT.2.2.1.2.1 rfl (cx_X1_filled hw (n := x + 2) hT.2.2.1  h g) kX7_64 (by decide) (by decide) rfl rfl (Nat.le_of_ble_eq_true rfl) (D (59, .invokevirtual 64, 3) (mg 5 rfl)) rfl (fun v4 H2 G3 hv4 => ?_)
    obtain ⟨rfl, rfl, rfl⟩ := hv4
    show X k w _ 62 [some (.ref (wA w (x))), some (.int (a1))] [.int (nI (cn (fun c => ¬ h (x + 4) c = (-1 : Int32)) 25))] h g
    refine X_ti (y := nI (0)) (congrArg nI (cn_f0 (q := x + 4) hE)) ?_
    exact X_iret C (D (62, .ireturn, 1) (mg 6 rfl)) ⟨rfl, rfl, rfl⟩
  · refine X_swIn (tgt := 63) C (D (1, .tableswitch 148 0 8 #[51, 62, 74, 88, 99, 110, 121, 129, 137], 51) (mg 1 rfl)) (1) (by rw [q1]; decide) (by decide) (by decide) rfl (by decide) ?_
    refine X_aload_n C 0 (D (63, .aload_n 0, 1) (mg 7 rfl)) rfl rfl ?_
    refine X_get (v := .ref (wA w (x + 1))) C (x) 0 (by omega) hsx rfl rfl (by decide) inX7 fX7_10 rfl (D (64, .getfield 10, 3) (mg 8 rfl)) rfl ?_
    refine X_get (v := .ref (wA w (x + 2))) C (x + 1) 0 (by omega) hT.2.1 rfl rfl (by decide) inX4 fX7_61 rfl (D (67, .getfield 61, 3) (mg 9 rfl)) rfl ?_
    refine X_iconst (v := nI (0)) C (D (70, .iconst 0, 1) (mg 10 rfl)) (by decide) ?_
    refine X_cV (As := [.int (nI (0))]) (st := []) C (post := _) (x + 2) (by omega) hT.2.2.1.2.1 rfl (cx_X1_greenAfter hw (n := x + 2) hT.2.2.1 (nI (0)) h g) kX7_141 (by decide) (by decide) rfl rfl (Nat.le_of_ble_eq_true rfl) (D (71, .invokevirtual 141, 3) (mg 11 rfl)) rfl (fun v7 H5 G6 hv7 => ?_)
    obtain ⟨rfl, rfl, rfl⟩ := hv7
    show X k w _ 74 [some (.ref (wA w (x))), some (.int (a1))] [.int (nI (cn (fun c => ¬ htC (h (x + 4) c) (nI (0)) < nI 1) 25))] h g
    refine X_ti (y := nI (0)) (congrArg nI (cn_e (q := x + 4) hE)) ?_
    exact X_iret C (D (74, .ireturn, 1) (mg 12 rfl)) ⟨rfl, rfl, rfl⟩
  · refine X_swIn (tgt := 75) C (D (1, .tableswitch 148 0 8 #[51, 62, 74, 88, 99, 110, 121, 129, 137], 51) (mg 1 rfl)) (2) (by rw [q1]; decide) (by decide) (by decide) rfl (by decide) ?_
    refine X_aload_n C 0 (D (75, .aload_n 0, 1) (mg 13 rfl)) rfl rfl ?_
    refine X_get (v := .ref (wA w (x + 1))) C (x) 0 (by omega) hsx rfl rfl (by decide) inX7 fX7_10 rfl (D (76, .getfield 10, 3) (mg 14 rfl)) rfl ?_
    refine X_get (v := .ref (wA w (x + 2))) C (x + 1) 0 (by omega) hT.2.1 rfl rfl (by decide) inX4 fX7_61 rfl (D (79, .getfield 61, 3) (mg 15 rfl)) rfl ?_
    refine X_bipush (v := nI (8)) C (D (82, .bipush 8, 2) (mg 16 rfl)) (by decide) ?_
    refine X_iconst (v := nI (0)) C (D (84, .iconst 0, 1) (mg 17 rfl)) (by decide) ?_
    refine X_cV (As := [.int (nI (8)), .int (nI (0))]) (st := []) C (post := _) (x + 2) (by omega) hT.2.2.1.2.1 rfl (cx_X1_atLeast hw (n := x + 2) hT.2.2.1 (nI (8)) (nI (0)) h g) kX7_289 (by decide) (by decide) rfl rfl (Nat.le_of_ble_eq_true rfl) (D (85, .invokevirtual 289, 3) (mg 18 rfl)) rfl (fun v10 H8 G9 hv10 => ?_)
    obtain ⟨rfl, rfl, rfl⟩ := hv10
    show X k w _ 88 [some (.ref (wA w (x))), some (.int (a1))] [.int (nI (cn (fun c => ¬ htC (h (x + 4) c) (nI (0)) < (nI (8))) 25))] h g
    refine X_ti (y := nI (0)) (congrArg nI (cn_e8 (q := x + 4) hE)) ?_
    exact X_iret C (D (88, .ireturn, 1) (mg 19 rfl)) ⟨rfl, rfl, rfl⟩
  · refine X_swIn (tgt := 89) C (D (1, .tableswitch 148 0 8 #[51, 62, 74, 88, 99, 110, 121, 129, 137], 51) (mg 1 rfl)) (3) (by rw [q1]; decide) (by decide) (by decide) rfl (by decide) ?_
    refine X_aload_n C 0 (D (89, .aload_n 0, 1) (mg 20 rfl)) rfl rfl ?_
    refine X_get (v := .ref (wA w (x + 1))) C (x) 0 (by omega) hsx rfl rfl (by decide) inX7 fX7_10 rfl (D (90, .getfield 10, 3) (mg 21 rfl)) rfl ?_
    refine X_get (v := .ref (wA w (x + 2))) C (x + 1) 0 (by omega) hT.2.1 rfl rfl (by decide) inX4 fX7_61 rfl (D (93, .getfield 61, 3) (mg 22 rfl)) rfl ?_
    refine X_get (v := .int (h (x + 2) 4)) C (x + 2) 4 (by omega) hT.2.2.1.2.1 rfl rfl (by decide) inX1 fX7_135 rfl (D (96, .getfield 135, 3) (mg 23 rfl)) rfl ?_
    refine X_ti (y := nI (0)) (hk4) ?_
    exact X_iret C (D (99, .ireturn, 1) (mg 24 rfl)) ⟨rfl, rfl, rfl⟩
  · refine X_swIn (tgt := 100) C (D (1, .tableswitch 148 0 8 #[51, 62, 74, 88, 99, 110, 121, 129, 137], 51) (mg 1 rfl)) (4) (by rw [q1]; decide) (by decide) (by decide) rfl (by decide) ?_
    refine X_aload_n C 0 (D (100, .aload_n 0, 1) (mg 25 rfl)) rfl rfl ?_
    refine X_get (v := .ref (wA w (x + 1))) C (x) 0 (by omega) hsx rfl rfl (by decide) inX7 fX7_10 rfl (D (101, .getfield 10, 3) (mg 26 rfl)) rfl ?_
    refine X_get (v := .ref (wA w (x + 2))) C (x + 1) 0 (by omega) hT.2.1 rfl rfl (by decide) inX4 fX7_61 rfl (D (104, .getfield 61, 3) (mg 27 rfl)) rfl ?_
    refine X_get (v := .int (h (x + 2) 3)) C (x + 2) 3 (by omega) hT.2.2.1.2.1 rfl rfl (by decide) inX1 fX7_118 rfl (D (107, .getfield 118, 3) (mg 28 rfl)) rfl ?_
    refine X_ti (y := nI (0)) (hk3) ?_
    exact X_iret C (D (110, .ireturn, 1) (mg 29 rfl)) ⟨rfl, rfl, rfl⟩
  · refine X_swIn (tgt := 111) C (D (1, .tableswitch 148 0 8 #[51, 62, 74, 88, 99, 110, 121, 129, 137], 51) (mg 1 rfl)) (5) (by rw [q1]; decide) (by decide) (by decide) rfl (by decide) ?_
    refine X_aload_n C 0 (D (111, .aload_n 0, 1) (mg 30 rfl)) rfl rfl ?_
    refine X_get (v := .ref (wA w (x + 1))) C (x) 0 (by omega) hsx rfl rfl (by decide) inX7 fX7_10 rfl (D (112, .getfield 10, 3) (mg 31 rfl)) rfl ?_
    refine X_get (v := .ref (wA w (x + 2))) C (x + 1) 0 (by omega) hT.2.1 rfl rfl (by decide) inX4 fX7_61 rfl (D (115, .getfield 61, 3) (mg 32 rfl)) rfl ?_
    refine X_get (v := .int (h (x + 2) 2)) C (x + 2) 2 (by omega) hT.2.2.1.2.1 rfl rfl (by decide) inX1 fX7_74 rfl (D (118, .getfield 74, 3) (mg 33 rfl)) rfl ?_
    refine X_ti (y := nI (0)) (hk2) ?_
    exact X_iret C (D (121, .ireturn, 1) (mg 34 rfl)) ⟨rfl, rfl, rfl⟩
  · refine X_swIn (tgt := 122) C (D (1, .tableswitch 148 0 8 #[51, 62, 74, 88, 99, 110, 121, 129, 137], 51) (mg 1 rfl)) (6) (by rw [q1]; decide) (by decide) (by decide) rfl (by decide) ?_
    refine X_aload_n C 0 (D (122, .aload_n 0, 1) (mg 35 rfl)) rfl rfl ?_
    refine X_get (v := .ref (wA w (x + 1))) C (x) 0 (by omega) hsx rfl rfl (by decide) inX7 fX7_10 rfl (D (123, .getfield 10, 3) (mg 36 rfl)) rfl ?_
    refine X_get (v := .int (h (x + 1) 4)) C (x + 1) 4 (by omega) hT.2.1 rfl rfl (by decide) inX4 fX7_185 rfl (D (126, .getfield 185, 3) (mg 37 rfl)) rfl ?_
    refine X_ti (y := nI (0)) (hse) ?_
    exact X_iret C (D (129, .ireturn, 1) (mg 38 rfl)) ⟨rfl, rfl, rfl⟩
  · refine X_swIn (tgt := 130) C (D (1, .tableswitch 148 0 8 #[51, 62, 74, 88, 99, 110, 121, 129, 137], 51) (mg 1 rfl)) (7) (by rw [q1]; decide) (by decide) (by decide) rfl (by decide) ?_
    refine X_aload_n C 0 (D (130, .aload_n 0, 1) (mg 39 rfl)) rfl rfl ?_
    refine X_get (v := .ref (wA w (x + 1))) C (x) 0 (by omega) hsx rfl rfl (by decide) inX7 fX7_10 rfl (D (131, .getfield 10, 3) (mg 40 rfl)) rfl ?_
    refine X_get (v := .int (h (x + 1) 5)) C (x + 1) 5 (by omega) hT.2.1 rfl rfl (by decide) inX4 fX7_203 rfl (D (134, .getfield 203, 3) (mg 41 rfl)) rfl ?_
    refine X_ti (y := nI (0)) (hma) ?_
    exact X_iret C (D (137, .ireturn, 1) (mg 42 rfl)) ⟨rfl, rfl, rfl⟩
  · refine X_swIn (tgt := 138) C (D (1, .tableswitch 148 0 8 #[51, 62, 74, 88, 99, 110, 121, 129, 137], 51) (mg 1 rfl)) (8) (by rw [q1]; decide) (by decide) (by decide) rfl (by decide) ?_
    refine X_aload_n C 0 (D (138, .aload_n 0, 1) (mg 43 rfl)) rfl rfl ?_
    refine X_get (v := .ref (wA w (x + 1))) C (x) 0 (by omega) hsx rfl rfl (by decide) inX7 fX7_10 rfl (D (139, .getfield 10, 3) (mg 44 rfl)) rfl ?_
    refine X_get (v := .ref (wA w (x + 5))) C (x + 1) 1 (by omega) hT.2.1 rfl rfl (by decide) inX4 fX7_78 rfl (D (142, .getfield 78, 3) (mg 45 rfl)) rfl ?_
    refine X_get (v := .int (h (x + 5) 1)) C (x + 5) 1 (by omega) hT.2.2.2.1.2.1 rfl rfl (by decide) inX2 fX7_82 rfl (D (145, .getfield 82, 3) (mg 46 rfl)) rfl ?_
    refine X_ti (y := nI (0)) (hps) ?_
    exact X_iret C (D (148, .ireturn, 1) (mg 47 rfl)) ⟨rfl, rfl, rfl⟩
  · refine X_swOut (tgt := 149) C (D (1, .tableswitch 148 0 8 #[51, 62, 74, 88, 99, 110, 121, 129, 137], 51) (mg 1 rfl)) q1 (by decide) ?_
    refine X_aload_n C 0 (D (149, .aload_n 0, 1) (mg 48 rfl)) rfl rfl ?_
    refine X_get (v := .ref (wA w (x + 33))) C (x) 5 (by omega) hsx rfl rfl (by decide) inX7 fX7_41 rfl (D (150, .getfield 41, 3) (mg 49 rfl)) rfl ?_
    refine X_get (v := .int (h (x + 33) 2)) C (x + 33) 2 (by omega) hX.2.1 rfl rfl (by decide) inX5 fX7_90 rfl (D (153, .getfield 90, 3) (mg 50 rfl)) rfl ?_
    refine X_ti (y := nI (0)) (htx) ?_
    exact X_iret C (D (156, .ireturn, 1) (mg 51 rfl)) ⟨rfl, rfl, rfl⟩
set_option maxHeartbeats 4000000 in
set_option maxRecDepth 100000 in
theorem cx_X7_count {l : Launch} {w : Kw} (hw : wOk w) {x : Nat} (hC : shC w x) (a1 : Int32) (h : xI) (g : xJ) (hF : cFr x h) : Ct l w yX7_count cX7_count 2 (some .int) 6 134 [.ref (wA w (x)), .int (a1)] h g (pF (if 0 ≤ a1.toInt ∧ a1.toInt < 10 then nI 0 else (-2 : Int32)) x h) := by
  refine Ct_of (ls := [some (.ref (wA w (x))), some (.int (a1))]) (by decide) hw (Nat.le_of_ble_eq_true rfl) rfl (fun k hkl C => ?_)
  have C : Cx k w cX7_count RX7 2 (some .int) 6 134 := C
  have D := dtX7_count
  subst hkl
  have hC0 := hC
  obtain ⟨hxn, hsx, hT, hsi, hTa, hTb, hsk, hNs, hY, hX, hsv⟩ := hC
  have hY2 := hY.1
  have hX2 := hX.1
  have hF0 := hF
  obtain ⟨hI, hE, hSt, hk2, hk3, hk4, hps, hse, hma, htx, hr9, hr10, hr11⟩ := hF
  have hI0 := hI
  obtain ⟨⟨⟨c0_, hc0_, hat_⟩, hpa, -, -⟩, -, -, -, -⟩ := hI
  have hI := hI0
  have hF := hF0
  refine X_iload_n C 1 (D (0, .iload_n 1, 1) (mg 0 rfl)) rfl rfl ?_
  refine X_bipush (v := nI (10)) C (D (1, .bipush 10, 2) (mg 1 rfl)) (by decide) ?_
  refine X_cS (As := [.int (a1), .int (nI (10))]) (st := []) C (post := _) (ct_X7_isBelow hw (a1) (B := 10) (by decide) h g) kX7_53 (by decide) (by decide) rfl rfl (Nat.le_of_ble_eq_true rfl) (D (3, .invokestatic 53, 3) (mg 2 rfl)) rfl (fun v3 H1 G2 hv3 => ?_)
  obtain ⟨rfl, rfl, rfl⟩ := hv3
  show X k w _ 6 [some (.ref (wA w (x))), some (.int (a1))] [.int (if 0 ≤ (a1).toInt ∧ (a1).toInt < ((10 : Nat) : Int) then 1 else 0)] h g
  refine X_if_ne (tgt := 14) C (D (6, .ifCond .ne 8, 3) (mg 3 rfl)) (by decide) (fun q4 => ?_) (fun q4 => ?_)
  · skip
    have q4 : (0 ≤ (a1).toInt ∧ (a1).toInt < ((10 : Nat) : Int)) := bz1.mp q4
    refine X_aload_n C 0 (D (14, .aload_n 0, 1) (mg 7 rfl)) rfl rfl ?_
    refine X_iload_n C 1 (D (15, .iload_n 1, 1) (mg 8 rfl)) rfl rfl ?_
    refine X_cV (As := [.int (a1)]) (st := []) C (post := _) (x) (by omega) hsx rfl (cx_X7_howMany hw hC0 (a1) h g hF) kX7_262 (by decide) (by decide) rfl rfl (Nat.le_of_ble_eq_true rfl) (D (16, .invokevirtual 262, 3) (mg 9 rfl)) rfl (fun v7 H5 G6 hv7 => ?_)
    obtain ⟨rfl, rfl, rfl⟩ := hv7
    show X k w _ 19 [some (.ref (wA w (x))), some (.int (a1))] [.int (nI (0))] h g
    exact X_iret C (D (19, .ireturn, 1) (mg 10 rfl)) (pF_i (if_pos (by omega)) (fun q i z => rfl))
  · skip
    have q4 : ¬ (0 ≤ (a1).toInt ∧ (a1).toInt < ((10 : Nat) : Int)) := bz0.mp q4
    refine X_aload_n C 0 (D (9, .aload_n 0, 1) (mg 4 rfl)) rfl rfl ?_
    refine X_cV (As := []) (st := []) C (post := _) (x) (by omega) hsx rfl (ct_X7_refuseBad hw hC0 h g) kX7_57 (by decide) (by decide) rfl rfl (Nat.le_of_ble_eq_true rfl) (D (10, .invokevirtual 57, 3) (mg 5 rfl)) rfl (fun v10 H8 G9 hv10 => ?_)
    obtain ⟨rfl, rfl, rfl⟩ := hv10
    show X k w _ 13 [some (.ref (wA w (x))), some (.int (a1))] [.int ((-2 : Int32))] (rcH h (x) 9) g
    exact X_iret C (D (13, .ireturn, 1) (mg 6 rfl)) (pF_i (if_neg (by omega)) (fun q i z => by rw [rcH_ne _ _ _ (by omega)]))
set_option maxHeartbeats 4000000 in
set_option maxRecDepth 100000 in
theorem cx_X7_sparrowGets {l : Launch} {w : Kw} (hw : wOk w) {x : Nat} (hC : shC w x) {r1 : Nat} (hr1 : r1 < 5) {i1 : Nat} (hi1 : i1 < 5) {j1 : Nat} (hj1 : j1 < 5) (h : xI) (g : xJ) (hF : cFr x h) : Ct l w yX7_sparrowGets cX7_sparrowGets 4 (some .int) 2 42 [.ref (wA w (x)), .int (nI (r1)), .int (nI (i1)), .int (nI (j1))] h g (px (some (.int ((-1 : Int32)))) h g) := by
  refine Ct_of (ls := [some (.ref (wA w (x))), some (.int (nI (r1))), some (.int (nI (i1))), some (.int (nI (j1)))]) (by decide) hw (Nat.le_of_ble_eq_true rfl) rfl (fun k hkl C => ?_)
  have C : Cx k w cX7_sparrowGets RX7 4 (some .int) 2 42 := C
  have D := dtX7_sparrowGets
  subst hkl
  have hC0 := hC
  obtain ⟨hxn, hsx, hT, hsi, hTa, hTb, hsk, hNs, hY, hX, hsv⟩ := hC
  have hY2 := hY.1
  have hX2 := hX.1
  have hF0 := hF
  obtain ⟨hI, hE, hSt, hk2, hk3, hk4, hps, hse, hma, htx, hr9, hr10, hr11⟩ := hF
  have hI0 := hI
  obtain ⟨⟨⟨c0_, hc0_, hat_⟩, hpa, -, -⟩, -, -, -, -⟩ := hI
  have hI := hI0
  have hF := hF0
  refine X_iload_n C 2 (D (0, .iload_n 2, 1) (mg 0 rfl)) rfl rfl ?_
  refine X_iload_n C 3 (D (1, .iload_n 3, 1) (mg 1 rfl)) rfl rfl ?_
  refine X_icmp_eq (tgt := 27) C (D (2, .if_icmp .eq 25, 3) (mg 2 rfl)) (by decide) (fun q1 => ?_) (fun q1 => ?_)
  · skip
    have q1 : (i1) = (j1) := by have z := (nI_eq (a := (i1)) (b := (j1)) (by omega) (by omega)).mp q1; omega
    refine X_iconst (v := (-1 : Int32)) C (D (27, .iconst (-1), 1) (mg 15 rfl)) (by decide) ?_
    exact X_iret C (D (28, .ireturn, 1) (mg 16 rfl)) ⟨rfl, rfl, rfl⟩
  · skip
    have q1 : (i1) ≠ (j1) := by have z : ¬ ((i1) = (j1)) := fun u => q1 ((nI_eq (a := (i1)) (b := (j1)) (by omega) (by omega)).mpr u); omega
    refine X_aload_n C 0 (D (5, .aload_n 0, 1) (mg 3 rfl)) rfl rfl ?_
    refine X_get (v := .ref (wA w (x + 1))) C (x) 0 (by omega) hsx rfl rfl (by decide) inX7 fX7_10 rfl (D (6, .getfield 10, 3) (mg 4 rfl)) rfl ?_
    refine X_get (v := .ref (wA w (x + 2))) C (x + 1) 0 (by omega) hT.2.1 rfl rfl (by decide) inX4 fX7_61 rfl (D (9, .getfield 61, 3) (mg 5 rfl)) rfl ?_
    refine X_iload_n C 1 (D (12, .iload_n 1, 1) (mg 6 rfl)) rfl rfl ?_
    refine X_iconst (v := nI (5)) C (D (13, .iconst 5, 1) (mg 7 rfl)) (by decide) ?_
    refine X_imul C (D (14, .imul, 1) (mg 8 rfl)) ?_
    refine X_ti (y := nI ((r1) * (5))) (pk_mul (r1) (5)) ?_
    refine X_iload_n C 3 (D (15, .iload_n 3, 1) (mg 9 rfl)) rfl rfl ?_
    refine X_iadd C (D (16, .iadd, 1) (mg 10 rfl)) ?_
    refine X_ti (y := nI ((r1) * (5) + j1)) (nI_add ((r1) * (5)) (j1)) ?_
    refine X_cV (As := [.int (nI ((r1) * (5) + j1))]) (st := []) C (post := _) (x + 2) (by omega) hT.2.2.1.2.1 rfl (ct_X1_depthIn hw (n := x + 2) hT.2.2.1 (j := (r1) * (5) + j1) (by omega) h g) kX7_151 (by decide) (by decide) rfl rfl (Nat.le_of_ble_eq_true rfl) (D (17, .invokevirtual 151, 3) (mg 11 rfl)) rfl (fun v4 H2 G3 hv4 => ?_)
    obtain ⟨rfl, rfl, rfl⟩ := hv4
    show X k w _ 20 [some (.ref (wA w (x))), some (.int (nI (r1))), some (.int (nI (i1))), some (.int (nI (j1)))] [.int (cD (h (x + 4) ((r1) * (5) + j1)))] h g
    refine X_if_ne (tgt := 27) C (D (20, .ifCond .ne 7, 3) (mg 12 rfl)) (by decide) (fun q5 => ?_) (fun q5 => ?_)
    · skip
      refine X_iconst (v := (-1 : Int32)) C (D (27, .iconst (-1), 1) (mg 15 rfl)) (by decide) ?_
      exact X_iret C (D (28, .ireturn, 1) (mg 16 rfl)) ⟨rfl, rfl, rfl⟩
    · skip
      exact absurd ((by rw [hE _ (by omega)]; decide : ¬ cD (h (x + 4) _) = 0)) (fun u_ => u_ q5)
set_option maxHeartbeats 4000000 in
set_option maxRecDepth 100000 in
theorem cx_X7_curateGets {l : Launch} {w : Kw} (hw : wOk w) {x : Nat} (hC : shC w x) {r1 : Nat} (hr1 : r1 < 5) {i1 : Nat} (hi1 : i1 < 5) {j1 : Nat} (hj1 : j1 < 5) (h : xI) (g : xJ) (hF : cFr x h) : Ct l w yX7_curateGets cX7_curateGets 5 (some .int) 3 65 [.ref (wA w (x)), .int (nI (r1)), .int (nI (i1)), .int (nI (j1))] h g (px (some (.int (nI 0))) h g) := by
  refine Ct_of (ls := [some (.ref (wA w (x))), some (.int (nI (r1))), some (.int (nI (i1))), some (.int (nI (j1))), none]) (by decide) hw (Nat.le_of_ble_eq_true rfl) rfl (fun k hkl C => ?_)
  have C : Cx k w cX7_curateGets RX7 5 (some .int) 3 65 := C
  have D := dtX7_curateGets
  subst hkl
  have hC0 := hC
  obtain ⟨hxn, hsx, hT, hsi, hTa, hTb, hsk, hNs, hY, hX, hsv⟩ := hC
  have hY2 := hY.1
  have hX2 := hX.1
  have hF0 := hF
  obtain ⟨hI, hE, hSt, hk2, hk3, hk4, hps, hse, hma, htx, hr9, hr10, hr11⟩ := hF
  have hI0 := hI
  obtain ⟨⟨⟨c0_, hc0_, hat_⟩, hpa, -, -⟩, -, -, -, -⟩ := hI
  have hI := hI0
  have hF := hF0
  refine X_aload_n C 0 (D (0, .aload_n 0, 1) (mg 0 rfl)) rfl rfl ?_
  refine X_get (v := .ref (wA w (x + 1))) C (x) 0 (by omega) hsx rfl rfl (by decide) inX7 fX7_10 rfl (D (1, .getfield 10, 3) (mg 1 rfl)) rfl ?_
  refine X_get (v := .ref (wA w (x + 2))) C (x + 1) 0 (by omega) hT.2.1 rfl rfl (by decide) inX4 fX7_61 rfl (D (4, .getfield 61, 3) (mg 2 rfl)) rfl ?_
  refine X_iload_n C 1 (D (7, .iload_n 1, 1) (mg 3 rfl)) rfl rfl ?_
  refine X_iconst (v := nI (5)) C (D (8, .iconst 5, 1) (mg 4 rfl)) (by decide) ?_
  refine X_imul C (D (9, .imul, 1) (mg 5 rfl)) ?_
  refine X_ti (y := nI ((r1) * (5))) (pk_mul (r1) (5)) ?_
  refine X_iload_n C 2 (D (10, .iload_n 2, 1) (mg 6 rfl)) rfl rfl ?_
  refine X_iadd C (D (11, .iadd, 1) (mg 7 rfl)) ?_
  refine X_ti (y := nI ((r1) * (5) + i1)) (nI_add ((r1) * (5)) (i1)) ?_
  refine X_cV (As := [.int (nI ((r1) * (5) + i1))]) (st := []) C (post := _) (x + 2) (by omega) hT.2.2.1.2.1 rfl (ct_X1_liesIn hw (n := x + 2) hT.2.2.1 (j := (r1) * (5) + i1) (by omega) h g) kX7_105 (by decide) (by decide) rfl rfl (Nat.le_of_ble_eq_true rfl) (D (12, .invokevirtual 105, 3) (mg 8 rfl)) rfl (fun v3 H1 G2 hv3 => ?_)
  obtain ⟨rfl, rfl, rfl⟩ := hv3
  show X k w _ 15 [some (.ref (wA w (x))), some (.int (nI (r1))), some (.int (nI (i1))), some (.int (nI (j1))), none] [.int (if ¬ h (x + 4) ((r1) * (5) + i1) = (-1 : Int32) then 1 else 0)] h g
  refine X_if_eq (tgt := 22) C (D (15, .ifCond .eq 7, 3) (mg 9 rfl)) (by decide) (fun q4 => ?_) (fun q4 => ?_)
  · skip
    have q4 : ¬ (¬ h (x + 4) ((r1) * (5) + i1) = (-1 : Int32)) := bz0.mp q4
    refine X_iconst (v := nI (0)) C (D (22, .iconst 0, 1) (mg 12 rfl)) (by decide) ?_
    refine X_istore (ls' := [some (.ref (wA w (x))), some (.int (nI (r1))), some (.int (nI (i1))), some (.int (nI (j1))), some (.int (nI (0)))]) C (D (23, .istore 4, 2) (mg 13 rfl)) (Nat.le_of_ble_eq_true rfl) rfl ?_
    refine X_aload_n C 0 (D (25, .aload_n 0, 1) (mg 14 rfl)) rfl rfl ?_
    refine X_iload_n C 1 (D (26, .iload_n 1, 1) (mg 15 rfl)) rfl rfl ?_
    refine X_iload_n C 2 (D (27, .iload_n 2, 1) (mg 16 rfl)) rfl rfl ?_
    refine X_iload_n C 3 (D (28, .iload_n 3, 1) (mg 17 rfl)) rfl rfl ?_
    refine X_cV (As := [.int (nI (r1)), .int (nI (i1)), .int (nI (j1))]) (st := []) C (post := _) (x) (by omega) hsx rfl (cx_X7_sparrowGets hw hC0 (r1 := r1) (by omega) (i1 := i1) (by omega) (j1 := j1) (by omega) h g hF) kX7_280 (by decide) (by decide) rfl rfl (Nat.le_of_ble_eq_true rfl) (D (29, .invokevirtual 280, 3) (mg 18 rfl)) rfl (fun v7 H5 G6 hv7 => ?_)
    obtain ⟨rfl, rfl, rfl⟩ := hv7
    show X k w _ 32 [some (.ref (wA w (x))), some (.int (nI (r1))), some (.int (nI (i1))), some (.int (nI (j1))), some (.int (nI (0)))] [.int ((-1 : Int32))] h g
    refine X_iconst (v := nI (5)) C (D (32, .iconst 5, 1) (mg 19 rfl)) (by decide) ?_
    refine X_icmp_ne (tgt := 43) C (D (33, .if_icmp .ne 10, 3) (mg 20 rfl)) (by decide) (fun q8 => ?_) (fun q8 => ?_)
    · skip
      refine X_iload C (D (43, .iload 4, 2) (mg 25 rfl)) rfl ?_
      exact X_iret C (D (45, .ireturn, 1) (mg 26 rfl)) ⟨rfl, rfl, rfl⟩
    · skip
      exact absurd q8 (by decide)
  · skip
    have q4 : (¬ h (x + 4) ((r1) * (5) + i1) = (-1 : Int32)) := bz1.mp q4
    exact absurd (hE _ (by omega)) q4
set_option maxHeartbeats 4000000 in
set_option maxRecDepth 100000 in
theorem cx_X7_rests {l : Launch} {w : Kw} (hw : wOk w) {x : Nat} (hC : shC w x) {r1 : Nat} (hr1 : r1 < 5) {i1 : Nat} (hi1 : i1 < 5) {j1 : Nat} (hj1 : j1 < 5) (h : xI) (g : xJ) (hF : cFr x h) : Ct l w yX7_rests cX7_rests 5 (some .boolean) 4 89 [.ref (wA w (x)), .int (nI (r1)), .int (nI (i1)), .int (nI (j1))] h g (px (some (.int (nI 1))) h g) := by
  refine Ct_of (ls := [some (.ref (wA w (x))), some (.int (nI (r1))), some (.int (nI (i1))), some (.int (nI (j1))), none]) (by decide) hw (Nat.le_of_ble_eq_true rfl) rfl (fun k hkl C => ?_)
  have C : Cx k w cX7_rests RX7 5 (some .boolean) 4 89 := C
  have D := dtX7_rests
  subst hkl
  have hC0 := hC
  obtain ⟨hxn, hsx, hT, hsi, hTa, hTb, hsk, hNs, hY, hX, hsv⟩ := hC
  have hY2 := hY.1
  have hX2 := hX.1
  have hF0 := hF
  obtain ⟨hI, hE, hSt, hk2, hk3, hk4, hps, hse, hma, htx, hr9, hr10, hr11⟩ := hF
  have hI0 := hI
  obtain ⟨⟨⟨c0_, hc0_, hat_⟩, hpa, -, -⟩, -, -, -, -⟩ := hI
  have hI := hI0
  have hF := hF0
  refine X_iconst (v := nI (0)) C (D (0, .iconst 0, 1) (mg 0 rfl)) (by decide) ?_
  refine X_istore (ls' := [some (.ref (wA w (x))), some (.int (nI (r1))), some (.int (nI (i1))), some (.int (nI (j1))), some (.int (nI (0)))]) C (D (1, .istore 4, 2) (mg 1 rfl)) (Nat.le_of_ble_eq_true rfl) rfl ?_
  have lp3 : ∀ (nn3 : Nat) (j : Nat), (j ≤ 5) → 6 - j ≤ nn3 → X k w (Zq k w (px (some (.int (nI 1))) h g)) 3 [some (.ref (wA w (x))), some (.int (nI (r1))), some (.int (nI (i1))), some (.int (nI (j1))), some (.int (nI (j)))] [] h g := by
    intro nn3
    induction nn3 with
    | zero => intro j hc3_0 hz; exact absurd hz (by omega)
    | succ nn3 ih3 =>
      intro j hc3_0 hz3
      refine X_iload C (D (3, .iload 4, 2) (mg 2 rfl)) rfl ?_
      refine X_iconst (v := nI (5)) C (D (5, .iconst 5, 1) (mg 3 rfl)) (by decide) ?_
      refine X_icmp_ge (tgt := 53) C (D (6, .if_icmp .ge 47, 3) (mg 4 rfl)) (by decide) (fun q1 => ?_) (fun q1 => ?_)
      · skip
        have q1 : (j) ≥ (5) := by have z := (nI_leI (a := (5)) (b := (j)) (by omega) (by omega)).mp q1; omega
        refine X_iconst (v := nI (1)) C (D (53, .iconst 1, 1) (mg 31 rfl)) (by decide) ?_
        exact X_zret C (D (54, .ireturn, 1) (mg 32 rfl)) rfl ⟨rfl, rfl, rfl⟩
      · skip
        have q1 : (j) < (5) := by have z : ¬ ((5) ≤ (j)) := fun u => q1 ((nI_leI (a := (5)) (b := (j)) (by omega) (by omega)).mpr u); omega
        refine X_aload_n C 0 (D (9, .aload_n 0, 1) (mg 5 rfl)) rfl rfl ?_
        refine X_iload_n C 1 (D (10, .iload_n 1, 1) (mg 6 rfl)) rfl rfl ?_
        refine X_iload C (D (11, .iload 4, 2) (mg 7 rfl)) rfl ?_
        refine X_iload_n C 3 (D (13, .iload_n 3, 1) (mg 8 rfl)) rfl rfl ?_
        refine X_cV (As := [.int (nI (r1)), .int (nI (j)), .int (nI (j1))]) (st := []) C (post := _) (x) (by omega) hsx rfl (cx_X7_curateGets hw hC0 (r1 := r1) (by omega) (i1 := j) (by omega) (j1 := j1) (by omega) h g hF) kX7_283 (by decide) (by decide) rfl rfl (Nat.le_of_ble_eq_true rfl) (D (14, .invokevirtual 283, 3) (mg 9 rfl)) rfl (fun v4 H2 G3 hv4 => ?_)
        obtain ⟨rfl, rfl, rfl⟩ := hv4
        show X k w _ 17 [some (.ref (wA w (x))), some (.int (nI (r1))), some (.int (nI (i1))), some (.int (nI (j1))), some (.int (nI (j)))] [.int (nI (0))] h g
        refine X_aload_n C 0 (D (17, .aload_n 0, 1) (mg 10 rfl)) rfl rfl ?_
        refine X_iload_n C 1 (D (18, .iload_n 1, 1) (mg 11 rfl)) rfl rfl ?_
        refine X_iload_n C 2 (D (19, .iload_n 2, 1) (mg 12 rfl)) rfl rfl ?_
        refine X_iload_n C 3 (D (20, .iload_n 3, 1) (mg 13 rfl)) rfl rfl ?_
        refine X_cV (As := [.int (nI (r1)), .int (nI (i1)), .int (nI (j1))]) (st := [.int (nI (0))]) C (post := _) (x) (by omega) hsx rfl (cx_X7_curateGets hw hC0 (r1 := r1) (by omega) (i1 := i1) (by omega) (j1 := j1) (by omega) h g hF) kX7_283 (by decide) (by decide) rfl rfl (Nat.le_of_ble_eq_true rfl) (D (21, .invokevirtual 283, 3) (mg 14 rfl)) rfl (fun v7 H5 G6 hv7 => ?_)
        obtain ⟨rfl, rfl, rfl⟩ := hv7
        show X k w _ 24 [some (.ref (wA w (x))), some (.int (nI (r1))), some (.int (nI (i1))), some (.int (nI (j1))), some (.int (nI (j)))] [.int (nI (0)), .int (nI (0))] h g
        refine X_icmp_gt (tgt := 45) C (D (24, .if_icmp .gt 21, 3) (mg 15 rfl)) (by decide) (fun q8 => ?_) (fun q8 => ?_)
        · skip
          exact absurd q8 (by decide)
        · skip
          refine X_aload_n C 0 (D (27, .aload_n 0, 1) (mg 16 rfl)) rfl rfl ?_
          refine X_iload_n C 1 (D (28, .iload_n 1, 1) (mg 17 rfl)) rfl rfl ?_
          refine X_iload_n C 2 (D (29, .iload_n 2, 1) (mg 18 rfl)) rfl rfl ?_
          refine X_iload C (D (30, .iload 4, 2) (mg 19 rfl)) rfl ?_
          refine X_cV (As := [.int (nI (r1)), .int (nI (i1)), .int (nI (j))]) (st := []) C (post := _) (x) (by omega) hsx rfl (cx_X7_sparrowGets hw hC0 (r1 := r1) (by omega) (i1 := i1) (by omega) (j1 := j) (by omega) h g hF) kX7_280 (by decide) (by decide) rfl rfl (Nat.le_of_ble_eq_true rfl) (D (32, .invokevirtual 280, 3) (mg 20 rfl)) rfl (fun v11 H9 G10 hv11 => ?_)
          obtain ⟨rfl, rfl, rfl⟩ := hv11
          show X k w _ 35 [some (.ref (wA w (x))), some (.int (nI (r1))), some (.int (nI (i1))), some (.int (nI (j1))), some (.int (nI (j)))] [.int ((-1 : Int32))] h g
          refine X_aload_n C 0 (D (35, .aload_n 0, 1) (mg 21 rfl)) rfl rfl ?_
          refine X_iload_n C 1 (D (36, .iload_n 1, 1) (mg 22 rfl)) rfl rfl ?_
          refine X_iload_n C 2 (D (37, .iload_n 2, 1) (mg 23 rfl)) rfl rfl ?_
          refine X_iload_n C 3 (D (38, .iload_n 3, 1) (mg 24 rfl)) rfl rfl ?_
          refine X_cV (As := [.int (nI (r1)), .int (nI (i1)), .int (nI (j1))]) (st := [.int ((-1 : Int32))]) C (post := _) (x) (by omega) hsx rfl (cx_X7_sparrowGets hw hC0 (r1 := r1) (by omega) (i1 := i1) (by omega) (j1 := j1) (by omega) h g hF) kX7_280 (by decide) (by decide) rfl rfl (Nat.le_of_ble_eq_true rfl) (D (39, .invokevirtual 280, 3) (mg 25 rfl)) rfl (fun v14 H12 G13 hv14 => ?_)
          obtain ⟨rfl, rfl, rfl⟩ := hv14
          show X k w _ 42 [some (.ref (wA w (x))), some (.int (nI (r1))), some (.int (nI (i1))), some (.int (nI (j1))), some (.int (nI (j)))] [.int ((-1 : Int32)), .int ((-1 : Int32))] h g
          refine X_icmp_le (tgt := 47) C (D (42, .if_icmp .le 5, 3) (mg 26 rfl)) (by decide) (fun q15 => ?_) (fun q15 => ?_)
          · skip
            refine X_iinc (v := nI (j + 1)) (ls' := [some (.ref (wA w (x))), some (.int (nI (r1))), some (.int (nI (i1))), some (.int (nI (j1))), some (.int (nI (j + 1)))]) C (D (47, .iinc 4 1, 3) (mg 29 rfl)) rfl (nI_add (j) 1) rfl ?_
            refine X_goto (tgt := 3) C (D (50, .goto (-47), 3) (mg 30 rfl)) (by decide) ?_
            refine X_eq (ls' := [some (.ref (wA w (x))), some (.int (nI (r1))), some (.int (nI (i1))), some (.int (nI (j1))), some (.int (nI (j + 1)))]) (st' := []) (h' := h) (g' := g) rfl rfl rfl rfl ?_
            exact ih3 (j + 1) (by omega) (by omega)
          · skip
            exact absurd q15 (by decide)
  refine X_eq (ls' := [some (.ref (wA w (x))), some (.int (nI (r1))), some (.int (nI (i1))), some (.int (nI (j1))), some (.int (nI (0)))]) (st' := []) (h' := h) (g' := g) rfl rfl rfl rfl ?_
  exact lp3 _ (0) (by omega) (Nat.le_refl _)
def spY (k : Int32) : Int32 := if k = (-1 : Int32) then nI 25 else if 0 ≤ k.toInt ∧ k.toInt < 25 then nI (10 * (k.toInt.toNat / 5) + k.toInt.toNat % 5) else (-5 : Int32)
theorem spY_k {j : Nat} (hj : j < 25) : spY (nI j) = nI (10 * (j / 5) + j % 5) := by
  unfold spY
  rw [if_neg (nI_nm (by omega)), if_pos (by rw [nI_toInt (by omega)]; omega), nI_toInt (by omega), Int.toNat_natCast]
theorem spY_n {k : Int32} (h1 : ¬ k = (-1 : Int32)) (H : ∀ i, i < 25 → ¬ nI i = k) : spY k = (-5 : Int32) := by
  unfold spY
  rw [if_neg h1, if_neg (fun z => by obtain ⟨j, hj, e⟩ := nI_i (x := k) (n := 25) z.1 (by omega); exact H j hj e.symm)]
theorem m1_i : ((-1 : Int32)).toInt = -1 := by decide
set_option maxHeartbeats 4000000 in
set_option maxRecDepth 100000 in
theorem cx_X7_sparrow {l : Launch} {w : Kw} (hw : wOk w) {x : Nat} (hC : shC w x) (a1 a2 : Int32) (h : xI) (g : xJ) (hF : cFr x h) : Ct l w yX7_sparrow cX7_sparrow 7 (some .int) 5 113 [.ref (wA w (x)), .int (a1), .int (a2)] h g (pF (if (0 ≤ a1.toInt ∧ a1.toInt < 5) ∧ -1 ≤ a2.toInt then spY a2 else (-10 : Int32)) x h) := by
  refine Ct_of (ls := [some (.ref (wA w (x))), some (.int (a1)), some (.int (a2)), none, none, none, none]) (by decide) hw (Nat.le_of_ble_eq_true rfl) rfl (fun k hkl C => ?_)
  have C : Cx k w cX7_sparrow RX7 7 (some .int) 5 113 := C
  have D := dtX7_sparrow
  subst hkl
  generalize hPP : (pF (if (0 ≤ a1.toInt ∧ a1.toInt < 5) ∧ -1 ≤ a2.toInt then spY a2 else (-10 : Int32)) x h) = PP
  have hC0 := hC
  obtain ⟨hxn, hsx, hT, hsi, hTa, hTb, hsk, hNs, hY, hX, hsv⟩ := hC
  have hY2 := hY.1
  have hX2 := hX.1
  have hF0 := hF
  obtain ⟨hI, hE, hSt, hk2, hk3, hk4, hps, hse, hma, htx, hr9, hr10, hr11⟩ := hF
  have hI0 := hI
  obtain ⟨⟨⟨c0_, hc0_, hat_⟩, hpa, -, -⟩, -, -, -, -⟩ := hI
  have hI := hI0
  have hF := hF0
  refine X_iload_n C 1 (D (0, .iload_n 1, 1) (mg 0 rfl)) rfl rfl ?_
  refine X_iconst (v := nI (5)) C (D (1, .iconst 5, 1) (mg 1 rfl)) (by decide) ?_
  refine X_cS (As := [.int (a1), .int (nI (5))]) (st := []) C (post := _) (ct_X7_isBelow hw (a1) (B := 5) (by decide) h g) kX7_53 (by decide) (by decide) rfl rfl (Nat.le_of_ble_eq_true rfl) (D (2, .invokestatic 53, 3) (mg 2 rfl)) rfl (fun v3 H1 G2 hv3 => ?_)
  obtain ⟨rfl, rfl, rfl⟩ := hv3
  show X k w _ 5 [some (.ref (wA w (x))), some (.int (a1)), some (.int (a2)), none, none, none, none] [.int (if 0 ≤ (a1).toInt ∧ (a1).toInt < ((5 : Nat) : Int) then 1 else 0)] h g
  refine X_if_eq (tgt := 13) C (D (5, .ifCond .eq 8, 3) (mg 3 rfl)) (by decide) (fun q4 => ?_) (fun q4 => ?_)
  · skip
    have q4 : ¬ (0 ≤ (a1).toInt ∧ (a1).toInt < ((5 : Nat) : Int)) := bz0.mp q4
    refine X_aload_n C 0 (D (13, .aload_n 0, 1) (mg 7 rfl)) rfl rfl ?_
    refine X_cV (As := []) (st := []) C (post := _) (x) (by omega) hsx rfl (ct_X7_refuseBadTen hw hC0 h g) kX7_169 (by decide) (by decide) rfl rfl (Nat.le_of_ble_eq_true rfl) (D (14, .invokevirtual 169, 3) (mg 8 rfl)) rfl (fun v7 H5 G6 hv7 => ?_)
    obtain ⟨rfl, rfl, rfl⟩ := hv7
    show X k w _ 17 [some (.ref (wA w (x))), some (.int (a1)), some (.int (a2)), none, none, none, none] [.int ((-10 : Int32))] (rcH h (x) 9) g
    exact X_iret C (D (17, .ireturn, 1) (mg 9 rfl)) (by rw [← hPP]; exact pF_i (if_neg (by first | omega | (rw [Int32.le_iff_toInt_le, m1_i] at *; omega))) (fun q i z => by rw [rcH_ne _ _ _ (by omega)]))
  · skip
    have q4 : (0 ≤ (a1).toInt ∧ (a1).toInt < ((5 : Nat) : Int)) := bz1.mp q4
    obtain ⟨n8, hn8, rfl⟩ := nI_i (x := a1) (n := 5) q4.1 (by omega)
    refine X_iload_n C 2 (D (8, .iload_n 2, 1) (mg 4 rfl)) rfl rfl ?_
    refine X_iconst (v := (-1 : Int32)) C (D (9, .iconst (-1), 1) (mg 5 rfl)) (by decide) ?_
    refine X_icmp_ge (tgt := 18) C (D (10, .if_icmp .ge 8, 3) (mg 6 rfl)) (by decide) (fun q9 => ?_) (fun q9 => ?_)
    · skip
      refine X_iconst (v := nI (0)) C (D (18, .iconst 0, 1) (mg 10 rfl)) (by decide) ?_
      refine X_istore_n (ls' := [some (.ref (wA w (x))), some (.int (nI (n8))), some (.int (a2)), some (.int (nI (0))), none, none, none]) C 3 (D (19, .istore_n 3, 1) (mg 11 rfl)) rfl (Nat.le_of_ble_eq_true rfl) rfl ?_
      refine X_iconst (v := nI (0)) C (D (20, .iconst 0, 1) (mg 12 rfl)) (by decide) ?_
      refine X_istore (ls' := [some (.ref (wA w (x))), some (.int (nI (n8))), some (.int (a2)), some (.int (nI (0))), some (.int (nI (0))), none, none]) C (D (21, .istore 4, 2) (mg 13 rfl)) (Nat.le_of_ble_eq_true rfl) rfl ?_
      have lp23 : ∀ (nn23 : Nat) (j : Nat), (j ≤ 25) → (∀ i, i < j → ¬ nI i = a2) → 26 - j ≤ nn23 → X k w (Zq k w (PP)) 23 [some (.ref (wA w (x))), some (.int (nI (n8))), some (.int (a2)), some (.int (nI (j))), some (.int (nI (j))), none, none] [] h g := by
        intro nn23
        induction nn23 with
        | zero => intro j hc23_0 hc23_1 hz; exact absurd hz (by omega)
        | succ nn23 ih23 =>
          intro j hc23_0 hc23_1 hz23
          refine X_iload C (D (23, .iload 4, 2) (mg 14 rfl)) rfl ?_
          refine X_bipush (v := nI (25)) C (D (25, .bipush 25, 2) (mg 15 rfl)) (by decide) ?_
          refine X_icmp_ge (tgt := 77) C (D (27, .if_icmp .ge 50, 3) (mg 16 rfl)) (by decide) (fun q10 => ?_) (fun q10 => ?_)
          · skip
            have q10 : (j) ≥ (25) := by have z := (nI_leI (a := (25)) (b := (j)) (by omega) (by omega)).mp q10; omega
            refine X_iload_n C 2 (D (77, .iload_n 2, 1) (mg 43 rfl)) rfl rfl ?_
            refine X_iconst (v := (-1 : Int32)) C (D (78, .iconst (-1), 1) (mg 44 rfl)) (by decide) ?_
            refine X_icmp_ne (tgt := 86) C (D (79, .if_icmp .ne 7, 3) (mg 45 rfl)) (by decide) (fun q11 => ?_) (fun q11 => ?_)
            · skip
              refine X_bipush (v := (-5 : Int32)) C (D (86, .bipush (-5), 2) (mg 48 rfl)) (by decide) ?_
              exact X_iret C (D (88, .ireturn, 1) (mg 49 rfl)) (by rw [← hPP]; exact pF_i ((if_pos ⟨by omega, by rw [Int32.le_iff_toInt_le, m1_i] at *; omega⟩).trans (spY_n (by assumption) (fun i hi => hc23_1 i (by omega)))) (fun q i z => rfl))
            · skip
              refine X_iload_n C 3 (D (82, .iload_n 3, 1) (mg 46 rfl)) rfl rfl ?_
              refine X_goto (tgt := 88) C (D (83, .goto 5, 3) (mg 47 rfl)) (by decide) ?_
              exact X_iret C (D (88, .ireturn, 1) (mg 49 rfl)) (by rw [← hPP]; exact pF_i ((if_pos ⟨by omega, by rw [Int32.le_iff_toInt_le, m1_i] at *; omega⟩).trans (by rw [(by assumption : a2 = (-1 : Int32)), show j = 25 by omega]; rfl)) (fun q i z => rfl))
          · skip
            have q10 : (j) < (25) := by have z : ¬ ((25) ≤ (j)) := fun u => q10 ((nI_leI (a := (25)) (b := (j)) (by omega) (by omega)).mpr u); omega
            refine X_iload C (D (30, .iload 4, 2) (mg 17 rfl)) rfl ?_
            refine X_iconst (v := nI (5)) C (D (32, .iconst 5, 1) (mg 18 rfl)) (by decide) ?_
            refine X_idiv C (D (33, .idiv, 1) (mg 19 rfl)) (by decide) ?_
            refine X_ti (y := nI ((j) / (5))) (pk_div (by omega) (by omega) (by omega)) ?_
            refine X_istore (ls' := [some (.ref (wA w (x))), some (.int (nI (n8))), some (.int (a2)), some (.int (nI (j))), some (.int (nI (j))), some (.int (nI ((j) / (5)))), none]) C (D (34, .istore 5, 2) (mg 20 rfl)) (Nat.le_of_ble_eq_true rfl) rfl ?_
            refine X_iload C (D (36, .iload 4, 2) (mg 21 rfl)) rfl ?_
            refine X_iconst (v := nI (5)) C (D (38, .iconst 5, 1) (mg 22 rfl)) (by decide) ?_
            refine X_irem C (D (39, .irem, 1) (mg 23 rfl)) (by decide) ?_
            refine X_ti (y := nI ((j) % (5))) (pk_rem (by omega) (by omega) (by omega)) ?_
            refine X_istore (ls' := [some (.ref (wA w (x))), some (.int (nI (n8))), some (.int (a2)), some (.int (nI (j))), some (.int (nI (j))), some (.int (nI ((j) / (5)))), some (.int (nI ((j) % (5))))]) C (D (40, .istore 6, 2) (mg 24 rfl)) (Nat.le_of_ble_eq_true rfl) rfl ?_
            refine X_aload_n C 0 (D (42, .aload_n 0, 1) (mg 25 rfl)) rfl rfl ?_
            refine X_iload_n C 1 (D (43, .iload_n 1, 1) (mg 26 rfl)) rfl rfl ?_
            refine X_iload C (D (44, .iload 5, 2) (mg 27 rfl)) rfl ?_
            refine X_iload C (D (46, .iload 6, 2) (mg 28 rfl)) rfl ?_
            refine X_cV (As := [.int (nI (n8)), .int (nI ((j) / (5))), .int (nI ((j) % (5)))]) (st := []) C (post := _) (x) (by omega) hsx rfl (cx_X7_rests hw hC0 (r1 := n8) (by omega) (i1 := (j) / (5)) (by omega) (j1 := (j) % (5)) (by omega) h g hF) kX7_220 (by decide) (by decide) rfl rfl (Nat.le_of_ble_eq_true rfl) (D (48, .invokevirtual 220, 3) (mg 29 rfl)) rfl (fun v14 H12 G13 hv14 => ?_)
            obtain ⟨rfl, rfl, rfl⟩ := hv14
            show X k w _ 51 [some (.ref (wA w (x))), some (.int (nI (n8))), some (.int (a2)), some (.int (nI (j))), some (.int (nI (j))), some (.int (nI ((j) / (5)))), some (.int (nI ((j) % (5))))] [.int (nI (1))] h g
            refine X_if_eq (tgt := 71) C (D (51, .ifCond .eq 20, 3) (mg 30 rfl)) (by decide) (fun q15 => ?_) (fun q15 => ?_)
            · skip
              exact absurd q15 (by decide)
            · skip
              refine X_iload_n C 3 (D (54, .iload_n 3, 1) (mg 31 rfl)) rfl rfl ?_
              refine X_iload_n C 2 (D (55, .iload_n 2, 1) (mg 32 rfl)) rfl rfl ?_
              refine X_icmp_ne (tgt := 68) C (D (56, .if_icmp .ne 12, 3) (mg 33 rfl)) (by decide) (fun q16 => ?_) (fun q16 => ?_)
              · skip
                refine X_iinc (v := nI (j + 1)) (ls' := [some (.ref (wA w (x))), some (.int (nI (n8))), some (.int (a2)), some (.int (nI (j + 1))), some (.int (nI (j))), some (.int (nI ((j) / (5)))), some (.int (nI ((j) % (5))))]) C (D (68, .iinc 3 1, 3) (mg 40 rfl)) rfl (nI_add (j) 1) rfl ?_
                refine X_iinc (v := nI (j + 1)) (ls' := [some (.ref (wA w (x))), some (.int (nI (n8))), some (.int (a2)), some (.int (nI (j + 1))), some (.int (nI (j + 1))), some (.int (nI ((j) / (5)))), some (.int (nI ((j) % (5))))]) C (D (71, .iinc 4 1, 3) (mg 41 rfl)) rfl (nI_add (j) 1) rfl ?_
                refine X_goto (tgt := 23) C (D (74, .goto (-51), 3) (mg 42 rfl)) (by decide) ?_
                refine X_los (ls' := [some (.ref (wA w (x))), some (.int (nI (n8))), some (.int (a2)), some (.int (nI (j + 1))), some (.int (nI (j + 1))), none, none]) (by simp [lsub]) ?_
                refine X_eq (ls' := [some (.ref (wA w (x))), some (.int (nI (n8))), some (.int (a2)), some (.int (nI (j + 1))), some (.int (nI (j + 1))), none, none]) (st' := []) (h' := h) (g' := g) rfl rfl rfl rfl ?_
                exact ih23 (j + 1) (by omega) (al_s hc23_1 (by assumption)) (by omega)
              · skip
                refine X_bipush (v := nI (10)) C (D (59, .bipush 10, 2) (mg 34 rfl)) (by decide) ?_
                refine X_iload C (D (61, .iload 5, 2) (mg 35 rfl)) rfl ?_
                refine X_imul C (D (63, .imul, 1) (mg 36 rfl)) ?_
                refine X_ti (y := nI ((10) * ((j) / (5)))) (pk_mul (10) ((j) / (5))) ?_
                refine X_iload C (D (64, .iload 6, 2) (mg 37 rfl)) rfl ?_
                refine X_iadd C (D (66, .iadd, 1) (mg 38 rfl)) ?_
                refine X_ti (y := nI ((10) * ((j) / (5)) + (j) % (5))) (nI_add ((10) * ((j) / (5))) ((j) % (5))) ?_
                exact X_iret C (D (67, .ireturn, 1) (mg 39 rfl)) (by rw [← hPP]; exact pF_i ((if_pos ⟨by omega, by rw [Int32.le_iff_toInt_le, m1_i] at *; omega⟩).trans (by rw [← (by assumption : nI j = a2)]; exact spY_k (by omega))) (fun q i z => rfl))
      refine X_eq (ls' := [some (.ref (wA w (x))), some (.int (nI (n8))), some (.int (a2)), some (.int (nI (0))), some (.int (nI (0))), none, none]) (st' := []) (h' := h) (g' := g) rfl rfl rfl rfl ?_
      exact lp23 _ (0) (by omega) (fun i hi => absurd hi (by omega)) (Nat.le_refl _)
    · skip
      refine X_aload_n C 0 (D (13, .aload_n 0, 1) (mg 7 rfl)) rfl rfl ?_
      refine X_cV (As := []) (st := []) C (post := _) (x) (by omega) hsx rfl (ct_X7_refuseBadTen hw hC0 h g) kX7_169 (by decide) (by decide) rfl rfl (Nat.le_of_ble_eq_true rfl) (D (14, .invokevirtual 169, 3) (mg 8 rfl)) rfl (fun v19 H17 G18 hv19 => ?_)
      obtain ⟨rfl, rfl, rfl⟩ := hv19
      show X k w _ 17 [some (.ref (wA w (x))), some (.int (nI (n8))), some (.int (a2)), none, none, none, none] [.int ((-10 : Int32))] (rcH h (x) 9) g
      exact X_iret C (D (17, .ireturn, 1) (mg 9 rfl)) (by rw [← hPP]; exact pF_i (if_neg (by first | omega | (rw [Int32.le_iff_toInt_le, m1_i] at *; omega))) (fun q i z => by rw [rcH_ne _ _ _ (by omega)]))
abbrev vld (a b d : Nat) : Prop := bsN 0 a < 25 ∧ bsN (bsN 0 a) b < 25 ∧ bsN (bsN (bsN 0 a) b) d < 25
def gbI (j : Nat) : Int32 := if vld (j / 16) (j / 4 % 4) (j % 4) then nI 0 else (-1 : Int32)
def thM : Nat → Int32
  | 0 => (-1 : Int32)
  | n + 1 => if gbI n ≤ thM n then thM n else gbI n
def thB : Nat → Int32
  | 0 => nI 0
  | n + 1 => if gbI n ≤ thM n then thB n else nI (100 * (n / 16) + 10 * (n / 4 % 4) + n % 4)
theorem th_64 : thM 64 = nI 0 ∧ thB 64 = nI 111 := by decide +kernel
theorem cFr_k {x : Nat} {h h' : xI} (f : ∀ q i, (q < x + 27 ∨ x + 29 < q) → h' q i = h q i) (H : cFr x h) : cFr x h' := by
  obtain ⟨⟨b1, b2, b3, ⟨n, hn, e⟩, ⟨c, hc, e2⟩⟩, hE, hSt, k2, k3, k4, k5, k6, k7, k8, k9, k10, k11⟩ := H
  exact ⟨⟨tOk_k (fun q i z1 z2 => f q i (by omega)) b1, tOk_k (fun q i z1 z2 => f q i (by omega)) b2, tOk_k (fun q i z1 z2 => f q i (by omega)) b3, ⟨n, hn, (f _ _ (by omega)).trans e⟩, ⟨c, hc, (f _ _ (by omega)).trans e2⟩⟩, fun c hc => (f _ _ (by omega)).trans (hE c hc), fun c hc => (f _ _ (by omega)).trans (hSt c hc), (f _ _ (by omega)).trans k2, (f _ _ (by omega)).trans k3, (f _ _ (by omega)).trans k4, (f _ _ (by omega)).trans k5, (f _ _ (by omega)).trans k6, (f _ _ (by omega)).trans k7, (f _ _ (by omega)).trans k8, (f _ _ (by omega)).trans k9, (f _ _ (by omega)).trans k10, (f _ _ (by omega)).trans k11⟩
def pS (y : Int32) (x : Nat) (h : xI) : Option Value → xI → xJ → Prop := fun v h' _ => v = some (.int y) ∧ ∀ q i, (q < x + 27 ∨ x + 29 < q) → h' q i = h q i
theorem pS_i {y y' : Int32} {x : Nat} {h h' : xI} {g : xJ} (e : y = y') (f : ∀ q i, (q < x + 27 ∨ x + 29 < q) → h' q i = h q i) : pS y x h (some (.int y')) h' g := ⟨by rw [e], f⟩
set_option maxHeartbeats 4000000 in
set_option maxRecDepth 100000 in
theorem cx_X7_greensByThree {l : Launch} {w : Kw} (hw : wOk w) {x : Nat} (hC : shC w x) {a b d : Nat} (ha : a < 4) (hb : b < 4) (hd : d < 4) (mm : Int32) (h : xI) (g : xJ) (hF : cFr x h) : Ct l w yX7_greensByThree cX7_greensByThree 8 (some .int) 5 113 [.ref (wA w (x)), .int (nI (a)), .int (nI (b)), .int (nI (d)), .int (mm)] h g (pS (if vld a b d then nI 0 else (-1 : Int32)) x h) := by
  refine Ct_of (ls := [some (.ref (wA w (x))), some (.int (nI (a))), some (.int (nI (b))), some (.int (nI (d))), some (.int (mm)), none, none, none]) (by decide) hw (Nat.le_of_ble_eq_true rfl) rfl (fun k hkl C => ?_)
  have C : Cx k w cX7_greensByThree RX7 8 (some .int) 5 113 := C
  have D := dtX7_greensByThree
  subst hkl
  have hC0 := hC
  obtain ⟨hxn, hsx, hT, hsi, hTa, hTb, hsk, hNs, hY, hX, hsv⟩ := hC
  have hY2 := hY.1
  have hX2 := hX.1
  have hF0 := hF
  obtain ⟨hI, hE, hSt, hk2, hk3, hk4, hps, hse, hma, htx, hr9, hr10, hr11⟩ := hF
  have hI0 := hI
  obtain ⟨⟨⟨c0_, hc0_, hat_⟩, hpa, -, -⟩, -, -, -, -⟩ := hI
  have hI := hI0
  have hF := hF0
  refine X_aload_n C 0 (D (0, .aload_n 0, 1) (mg 0 rfl)) rfl rfl ?_
  refine X_get (v := .ref (wA w (x + 1))) C (x) 0 (by omega) hsx rfl rfl (by decide) inX7 fX7_10 rfl (D (1, .getfield 10, 3) (mg 1 rfl)) rfl ?_
  refine X_get (v := .ref (wA w (x + 2))) C (x + 1) 0 (by omega) hT.2.1 rfl rfl (by decide) inX4 fX7_61 rfl (D (4, .getfield 61, 3) (mg 2 rfl)) rfl ?_
  refine X_get (v := .int (h (x + 2) 3)) C (x + 2) 3 (by omega) hT.2.2.1.2.1 rfl rfl (by decide) inX1 fX7_118 rfl (D (7, .getfield 118, 3) (mg 3 rfl)) rfl ?_
  refine X_ti (y := nI (0)) (hk3) ?_
  refine X_iload_n C 1 (D (10, .iload_n 1, 1) (mg 4 rfl)) rfl rfl ?_
  refine X_cS (As := [.int (nI (0)), .int (nI (a))]) (st := []) C (post := _) (ct_X7_beside hw (j := 0) (by omega) (nI (a)) h g) kX7_121 (by decide) (by decide) rfl rfl (Nat.le_of_ble_eq_true rfl) (D (11, .invokestatic 121, 3) (mg 5 rfl)) rfl (fun v3 H1 G2 hv3 => ?_)
  obtain ⟨⟨y4, rfl, hy4, ey4⟩, rfl, rfl⟩ := hv3
  show X k w _ 14 [some (.ref (wA w (x))), some (.int (nI (a))), some (.int (nI (b))), some (.int (nI (d))), some (.int (mm)), none, none, none] [.int (y4)] h g
  refine X_istore (ls' := [some (.ref (wA w (x))), some (.int (nI (a))), some (.int (nI (b))), some (.int (nI (d))), some (.int (mm)), some (.int (y4)), none, none]) C (D (14, .istore 5, 2) (mg 6 rfl)) (Nat.le_of_ble_eq_true rfl) rfl ?_
  refine X_iload C (D (16, .iload 5, 2) (mg 7 rfl)) rfl ?_
  refine X_iconst (v := (-1 : Int32)) C (D (18, .iconst (-1), 1) (mg 8 rfl)) (by decide) ?_
  refine X_icmp_ne (tgt := 26) C (D (19, .if_icmp .ne 7, 3) (mg 9 rfl)) (by decide) (fun q5 => ?_) (fun q5 => ?_)
  · skip
    obtain ⟨c6, hc6, rfl⟩ := hy4.resolve_left q5
    obtain ⟨hb1, rfl⟩ := bq_c (by omega) (by omega) hc6 ey4
    refine X_iload C (D (26, .iload 5, 2) (mg 12 rfl)) rfl ?_
    refine X_iload_n C 2 (D (28, .iload_n 2, 1) (mg 13 rfl)) rfl rfl ?_
    refine X_cS (As := [.int (nI ((bsN 0 a))), .int (nI (b))]) (st := []) C (post := _) (ct_X7_beside hw (j := (bsN 0 a)) (by omega) (nI (b)) h g) kX7_121 (by decide) (by decide) rfl rfl (Nat.le_of_ble_eq_true rfl) (D (29, .invokestatic 121, 3) (mg 14 rfl)) rfl (fun v9 H7 G8 hv9 => ?_)
    obtain ⟨⟨y10, rfl, hy10, ey10⟩, rfl, rfl⟩ := hv9
    show X k w _ 32 [some (.ref (wA w (x))), some (.int (nI (a))), some (.int (nI (b))), some (.int (nI (d))), some (.int (mm)), some (.int (nI ((bsN 0 a)))), none, none] [.int (y10)] h g
    refine X_istore (ls' := [some (.ref (wA w (x))), some (.int (nI (a))), some (.int (nI (b))), some (.int (nI (d))), some (.int (mm)), some (.int (nI ((bsN 0 a)))), some (.int (y10)), none]) C (D (32, .istore 6, 2) (mg 15 rfl)) (Nat.le_of_ble_eq_true rfl) rfl ?_
    refine X_iload C (D (34, .iload 6, 2) (mg 16 rfl)) rfl ?_
    refine X_iconst (v := (-1 : Int32)) C (D (36, .iconst (-1), 1) (mg 17 rfl)) (by decide) ?_
    refine X_icmp_ne (tgt := 44) C (D (37, .if_icmp .ne 7, 3) (mg 18 rfl)) (by decide) (fun q11 => ?_) (fun q11 => ?_)
    · skip
      obtain ⟨c12, hc12, rfl⟩ := hy10.resolve_left q11
      obtain ⟨hb2, rfl⟩ := bq_c (by omega) (by omega) hc12 ey10
      refine X_iload C (D (44, .iload 6, 2) (mg 21 rfl)) rfl ?_
      refine X_iload_n C 3 (D (46, .iload_n 3, 1) (mg 22 rfl)) rfl rfl ?_
      refine X_cS (As := [.int (nI ((bsN (bsN 0 a) b))), .int (nI (d))]) (st := []) C (post := _) (ct_X7_beside hw (j := (bsN (bsN 0 a) b)) (by omega) (nI (d)) h g) kX7_121 (by decide) (by decide) rfl rfl (Nat.le_of_ble_eq_true rfl) (D (47, .invokestatic 121, 3) (mg 23 rfl)) rfl (fun v15 H13 G14 hv15 => ?_)
      obtain ⟨⟨y16, rfl, hy16, ey16⟩, rfl, rfl⟩ := hv15
      show X k w _ 50 [some (.ref (wA w (x))), some (.int (nI (a))), some (.int (nI (b))), some (.int (nI (d))), some (.int (mm)), some (.int (nI ((bsN 0 a)))), some (.int (nI ((bsN (bsN 0 a) b)))), none] [.int (y16)] h g
      refine X_istore (ls' := [some (.ref (wA w (x))), some (.int (nI (a))), some (.int (nI (b))), some (.int (nI (d))), some (.int (mm)), some (.int (nI ((bsN 0 a)))), some (.int (nI ((bsN (bsN 0 a) b)))), some (.int (y16))]) C (D (50, .istore 7, 2) (mg 24 rfl)) (Nat.le_of_ble_eq_true rfl) rfl ?_
      refine X_iload C (D (52, .iload 7, 2) (mg 25 rfl)) rfl ?_
      refine X_iconst (v := (-1 : Int32)) C (D (54, .iconst (-1), 1) (mg 26 rfl)) (by decide) ?_
      refine X_icmp_ne (tgt := 60) C (D (55, .if_icmp .ne 5, 3) (mg 27 rfl)) (by decide) (fun q17 => ?_) (fun q17 => ?_)
      · skip
        obtain ⟨c18, hc18, rfl⟩ := hy16.resolve_left q17
        obtain ⟨hb3, rfl⟩ := bq_c (by omega) (by omega) hc18 ey16
        refine X_aload_n C 0 (D (60, .aload_n 0, 1) (mg 30 rfl)) rfl rfl ?_
        refine X_get (v := .ref (wA w (x + 27))) C (x) 3 (by omega) hsx rfl rfl (by decide) inX7 fX7_27 rfl (D (61, .getfield 27, 3) (mg 31 rfl)) rfl ?_
        refine X_aload_n C 0 (D (64, .aload_n 0, 1) (mg 32 rfl)) rfl rfl ?_
        refine X_get (v := .ref (wA w (x + 1))) C (x) 0 (by omega) hsx rfl rfl (by decide) inX7 fX7_10 rfl (D (65, .getfield 10, 3) (mg 33 rfl)) rfl ?_
        refine X_get (v := .ref (wA w (x + 2))) C (x + 1) 0 (by omega) hT.2.1 rfl rfl (by decide) inX4 fX7_61 rfl (D (68, .getfield 61, 3) (mg 34 rfl)) rfl ?_
        refine X_cV (As := [.ref (wA w (x + 2))]) (st := []) C (post := _) (x + 27) (by omega) hNs.2.1 rfl (ct_X1_copyFrom hw (n := x + 27) hNs (o := x + 2) hT.2.2.1 h g) kX7_101 (by decide) (by decide) rfl rfl (Nat.le_of_ble_eq_true rfl) (D (71, .invokevirtual 101, 3) (mg 35 rfl)) rfl (fun v21 H19 G20 hv21 => ?_)
        obtain ⟨rfl, rfl, rfl⟩ := hv21
        show X k w _ 74 [some (.ref (wA w (x))), some (.int (nI (a))), some (.int (nI (b))), some (.int (nI (d))), some (.int (mm)), some (.int (nI ((bsN 0 a)))), some (.int (nI ((bsN (bsN 0 a) b)))), some (.int (nI ((bsN (bsN (bsN 0 a) b) d))))] [] (ccH h (x + 27) (x + 2)) g
        refine X_aload_n C 0 (D (74, .aload_n 0, 1) (mg 36 rfl)) rfl rfl ?_
        refine X_get (v := .ref (wA w (x + 27))) C (x) 3 (by omega) hsx rfl rfl (by decide) inX7 fX7_27 rfl (D (75, .getfield 27, 3) (mg 37 rfl)) rfl ?_
        refine X_iload C (D (78, .iload 5, 2) (mg 38 rfl)) rfl ?_
        refine X_cV (As := [.int (nI ((bsN 0 a)))]) (st := []) C (post := _) (x + 27) (by omega) hNs.2.1 rfl (ct_X1_stepTo hw (n := x + 27) hNs (j := (bsN 0 a)) (by omega) (ccH h (x + 27) (x + 2)) g) kX7_125 (by decide) (by decide) rfl rfl (Nat.le_of_ble_eq_true rfl) (D (80, .invokevirtual 125, 3) (mg 39 rfl)) rfl (fun v24 H22 G23 hv24 => ?_)
        obtain ⟨rfl, rfl, rfl⟩ := hv24
        show X k w _ 83 [some (.ref (wA w (x))), some (.int (nI (a))), some (.int (nI (b))), some (.int (nI (d))), some (.int (mm)), some (.int (nI ((bsN 0 a)))), some (.int (nI ((bsN (bsN 0 a) b)))), some (.int (nI ((bsN (bsN (bsN 0 a) b) d))))] [] (csH (ccH h (x + 27) (x + 2)) (x + 27) ((bsN 0 a))) g
        refine X_aload_n C 0 (D (83, .aload_n 0, 1) (mg 40 rfl)) rfl rfl ?_
        refine X_get (v := .ref (wA w (x + 27))) C (x) 3 (by omega) hsx rfl rfl (by decide) inX7 fX7_27 rfl (D (84, .getfield 27, 3) (mg 41 rfl)) rfl ?_
        refine X_iload C (D (87, .iload 6, 2) (mg 42 rfl)) rfl ?_
        refine X_cV (As := [.int (nI ((bsN (bsN 0 a) b)))]) (st := []) C (post := _) (x + 27) (by omega) hNs.2.1 rfl (ct_X1_stepTo hw (n := x + 27) hNs (j := (bsN (bsN 0 a) b)) (by omega) (csH (ccH h (x + 27) (x + 2)) (x + 27) ((bsN 0 a))) g) kX7_125 (by decide) (by decide) rfl rfl (Nat.le_of_ble_eq_true rfl) (D (89, .invokevirtual 125, 3) (mg 43 rfl)) rfl (fun v27 H25 G26 hv27 => ?_)
        obtain ⟨rfl, rfl, rfl⟩ := hv27
        show X k w _ 92 [some (.ref (wA w (x))), some (.int (nI (a))), some (.int (nI (b))), some (.int (nI (d))), some (.int (mm)), some (.int (nI ((bsN 0 a)))), some (.int (nI ((bsN (bsN 0 a) b)))), some (.int (nI ((bsN (bsN (bsN 0 a) b) d))))] [] (csH (csH (ccH h (x + 27) (x + 2)) (x + 27) ((bsN 0 a))) (x + 27) ((bsN (bsN 0 a) b))) g
        refine X_aload_n C 0 (D (92, .aload_n 0, 1) (mg 44 rfl)) rfl rfl ?_
        refine X_get (v := .ref (wA w (x + 27))) C (x) 3 (by omega) hsx rfl rfl (by decide) inX7 fX7_27 rfl (D (93, .getfield 27, 3) (mg 45 rfl)) rfl ?_
        refine X_iload C (D (96, .iload 7, 2) (mg 46 rfl)) rfl ?_
        refine X_cV (As := [.int (nI ((bsN (bsN (bsN 0 a) b) d)))]) (st := []) C (post := _) (x + 27) (by omega) hNs.2.1 rfl (ct_X1_stepTo hw (n := x + 27) hNs (j := (bsN (bsN (bsN 0 a) b) d)) (by omega) (csH (csH (ccH h (x + 27) (x + 2)) (x + 27) ((bsN 0 a))) (x + 27) ((bsN (bsN 0 a) b))) g) kX7_125 (by decide) (by decide) rfl rfl (Nat.le_of_ble_eq_true rfl) (D (98, .invokevirtual 125, 3) (mg 47 rfl)) rfl (fun v30 H28 G29 hv30 => ?_)
        obtain ⟨rfl, rfl, rfl⟩ := hv30
        show X k w _ 101 [some (.ref (wA w (x))), some (.int (nI (a))), some (.int (nI (b))), some (.int (nI (d))), some (.int (mm)), some (.int (nI ((bsN 0 a)))), some (.int (nI ((bsN (bsN 0 a) b)))), some (.int (nI ((bsN (bsN (bsN 0 a) b) d))))] [] (csH (csH (csH (ccH h (x + 27) (x + 2)) (x + 27) ((bsN 0 a))) (x + 27) ((bsN (bsN 0 a) b))) (x + 27) ((bsN (bsN (bsN 0 a) b) d))) g
        refine X_aload_n C 0 (D (101, .aload_n 0, 1) (mg 48 rfl)) rfl rfl ?_
        refine X_get (v := .ref (wA w (x + 27))) C (x) 3 (by omega) hsx rfl rfl (by decide) inX7 fX7_27 rfl (D (102, .getfield 27, 3) (mg 49 rfl)) rfl ?_
        refine X_iload C (D (105, .iload 4, 2) (mg 50 rfl)) rfl ?_
        refine X_cV (As := [.int (mm)]) (st := []) C (post := _) (x + 27) (by omega) hNs.2.1 rfl (cx_X1_greenAfter hw (n := x + 27) hNs (mm) (csH (csH (csH (ccH h (x + 27) (x + 2)) (x + 27) ((bsN 0 a))) (x + 27) ((bsN (bsN 0 a) b))) (x + 27) ((bsN (bsN (bsN 0 a) b) d))) g) kX7_141 (by decide) (by decide) rfl rfl (Nat.le_of_ble_eq_true rfl) (D (107, .invokevirtual 141, 3) (mg 51 rfl)) rfl (fun v33 H31 G32 hv33 => ?_)
        obtain ⟨rfl, rfl, rfl⟩ := hv33
        show X k w _ 110 [some (.ref (wA w (x))), some (.int (nI (a))), some (.int (nI (b))), some (.int (nI (d))), some (.int (mm)), some (.int (nI ((bsN 0 a)))), some (.int (nI ((bsN (bsN 0 a) b)))), some (.int (nI ((bsN (bsN (bsN 0 a) b) d))))] [.int (nI (cn (fun c => ¬ htC ((csH (csH (csH (ccH h (x + 27) (x + 2)) (x + 27) ((bsN 0 a))) (x + 27) ((bsN (bsN 0 a) b))) (x + 27) ((bsN (bsN (bsN 0 a) b) d))) (x + 29) c) (mm) < nI 1) 25))] (csH (csH (csH (ccH h (x + 27) (x + 2)) (x + 27) ((bsN 0 a))) (x + 27) ((bsN (bsN 0 a) b))) (x + 27) ((bsN (bsN (bsN 0 a) b) d))) g
        refine X_ti (y := nI (0)) (congrArg nI (cn_e (q := x + 29) (cs_emp (n := x + 27) (by omega) (cs_emp (n := x + 27) (by omega) (cs_emp (n := x + 27) (by omega) (cc_emp (n := x + 27) (o := x + 2) (by omega) hE)))))) ?_
        exact X_iret C (D (110, .ireturn, 1) (mg 52 rfl)) (pS_i (if_pos ⟨hb1, hb2, hb3⟩) (fun q i z => by rw [csH_ne _ _ _ (by omega), csH_ne _ _ _ (by omega), csH_ne _ _ _ (by omega), ccH_ne _ _ _ (by omega)]))
      · skip
        subst q17
        have hb3 := bq_m (by omega) (by omega) ey16
        refine X_iconst (v := (-1 : Int32)) C (D (58, .iconst (-1), 1) (mg 28 rfl)) (by decide) ?_
        exact X_iret C (D (59, .ireturn, 1) (mg 29 rfl)) (pS_i (if_neg (fun u_ => by first | exact absurd u_.1 (by assumption) | exact absurd u_.2.1 (by assumption) | exact absurd u_.2.2 (by assumption))) (fun q i z => rfl))
    · skip
      subst q11
      have hb2 := bq_m (by omega) (by omega) ey10
      refine X_iconst (v := (-1 : Int32)) C (D (40, .iconst (-1), 1) (mg 19 rfl)) (by decide) ?_
      refine X_goto (tgt := 50) C (D (41, .goto 9, 3) (mg 20 rfl)) (by decide) ?_
      refine X_istore (ls' := [some (.ref (wA w (x))), some (.int (nI (a))), some (.int (nI (b))), some (.int (nI (d))), some (.int (mm)), some (.int (nI ((bsN 0 a)))), some (.int ((-1 : Int32))), some (.int ((-1 : Int32)))]) C (D (50, .istore 7, 2) (mg 24 rfl)) (Nat.le_of_ble_eq_true rfl) rfl ?_
      refine X_iload C (D (52, .iload 7, 2) (mg 25 rfl)) rfl ?_
      refine X_iconst (v := (-1 : Int32)) C (D (54, .iconst (-1), 1) (mg 26 rfl)) (by decide) ?_
      refine X_icmp_ne (tgt := 60) C (D (55, .if_icmp .ne 5, 3) (mg 27 rfl)) (by decide) (fun q34 => ?_) (fun q34 => ?_)
      · skip
        exact absurd q34 (by decide)
      · skip
        refine X_iconst (v := (-1 : Int32)) C (D (58, .iconst (-1), 1) (mg 28 rfl)) (by decide) ?_
        exact X_iret C (D (59, .ireturn, 1) (mg 29 rfl)) (pS_i (if_neg (fun u_ => by first | exact absurd u_.1 (by assumption) | exact absurd u_.2.1 (by assumption) | exact absurd u_.2.2 (by assumption))) (fun q i z => rfl))
  · skip
    subst q5
    have hb1 := bq_m (by omega) (by omega) ey4
    refine X_iconst (v := (-1 : Int32)) C (D (22, .iconst (-1), 1) (mg 10 rfl)) (by decide) ?_
    refine X_goto (tgt := 32) C (D (23, .goto 9, 3) (mg 11 rfl)) (by decide) ?_
    refine X_istore (ls' := [some (.ref (wA w (x))), some (.int (nI (a))), some (.int (nI (b))), some (.int (nI (d))), some (.int (mm)), some (.int ((-1 : Int32))), some (.int ((-1 : Int32))), none]) C (D (32, .istore 6, 2) (mg 15 rfl)) (Nat.le_of_ble_eq_true rfl) rfl ?_
    refine X_iload C (D (34, .iload 6, 2) (mg 16 rfl)) rfl ?_
    refine X_iconst (v := (-1 : Int32)) C (D (36, .iconst (-1), 1) (mg 17 rfl)) (by decide) ?_
    refine X_icmp_ne (tgt := 44) C (D (37, .if_icmp .ne 7, 3) (mg 18 rfl)) (by decide) (fun q35 => ?_) (fun q35 => ?_)
    · skip
      exact absurd q35 (by decide)
    · skip
      refine X_iconst (v := (-1 : Int32)) C (D (40, .iconst (-1), 1) (mg 19 rfl)) (by decide) ?_
      refine X_goto (tgt := 50) C (D (41, .goto 9, 3) (mg 20 rfl)) (by decide) ?_
      refine X_istore (ls' := [some (.ref (wA w (x))), some (.int (nI (a))), some (.int (nI (b))), some (.int (nI (d))), some (.int (mm)), some (.int ((-1 : Int32))), some (.int ((-1 : Int32))), some (.int ((-1 : Int32)))]) C (D (50, .istore 7, 2) (mg 24 rfl)) (Nat.le_of_ble_eq_true rfl) rfl ?_
      refine X_iload C (D (52, .iload 7, 2) (mg 25 rfl)) rfl ?_
      refine X_iconst (v := (-1 : Int32)) C (D (54, .iconst (-1), 1) (mg 26 rfl)) (by decide) ?_
      refine X_icmp_ne (tgt := 60) C (D (55, .if_icmp .ne 5, 3) (mg 27 rfl)) (by decide) (fun q36 => ?_) (fun q36 => ?_)
      · skip
        exact absurd q36 (by decide)
      · skip
        refine X_iconst (v := (-1 : Int32)) C (D (58, .iconst (-1), 1) (mg 28 rfl)) (by decide) ?_
        exact X_iret C (D (59, .ireturn, 1) (mg 29 rfl)) (pS_i (if_neg (fun u_ => by first | exact absurd u_.1 (by assumption) | exact absurd u_.2.1 (by assumption) | exact absurd u_.2.2 (by assumption))) (fun q i z => rfl))
set_option maxHeartbeats 4000000 in
set_option maxRecDepth 100000 in
theorem cx_X7_three {l : Launch} {w : Kw} (hw : wOk w) {x : Nat} (hC : shC w x) (a1 a2 : Int32) (h : xI) (g : xJ) (hF : cFr x h) : Ct l w yX7_three cX7_three 10 (some .int) 6 140 [.ref (wA w (x)), .int (a1), .int (a2)] h g (pF (if (0 ≤ a1.toInt ∧ a1.toInt ≤ 60) ∧ (0 ≤ a2.toInt ∧ a2.toInt < 2) then (if a2 = 0 then nI 0 else nI 111) else (-2 : Int32)) x h) := by
  refine Ct_of (ls := [some (.ref (wA w (x))), some (.int (a1)), some (.int (a2)), none, none, none, none, none, none, none]) (by decide) hw (Nat.le_of_ble_eq_true rfl) rfl (fun k hkl C => ?_)
  have C : Cx k w cX7_three RX7 10 (some .int) 6 140 := C
  have D := dtX7_three
  subst hkl
  generalize hPP : (pF (if (0 ≤ a1.toInt ∧ a1.toInt ≤ 60) ∧ (0 ≤ a2.toInt ∧ a2.toInt < 2) then (if a2 = 0 then nI 0 else nI 111) else (-2 : Int32)) x h) = PP
  have hC0 := hC
  obtain ⟨hxn, hsx, hT, hsi, hTa, hTb, hsk, hNs, hY, hX, hsv⟩ := hC
  have hY2 := hY.1
  have hX2 := hX.1
  have hF0 := hF
  obtain ⟨hI, hE, hSt, hk2, hk3, hk4, hps, hse, hma, htx, hr9, hr10, hr11⟩ := hF
  have hI0 := hI
  obtain ⟨⟨⟨c0_, hc0_, hat_⟩, hpa, -, -⟩, -, -, -, -⟩ := hI
  have hI := hI0
  have hF := hF0
  refine X_iload_n C 1 (D (0, .iload_n 1, 1) (mg 0 rfl)) rfl rfl ?_
  refine X_cS (As := [.int (a1)]) (st := []) C (post := _) (ct_X7_isLookAhead hw (a1) h g) kX7_160 (by decide) (by decide) rfl rfl (Nat.le_of_ble_eq_true rfl) (D (1, .invokestatic 160, 3) (mg 1 rfl)) rfl (fun v3 H1 G2 hv3 => ?_)
  obtain ⟨rfl, rfl, rfl⟩ := hv3
  show X k w _ 4 [some (.ref (wA w (x))), some (.int (a1)), some (.int (a2)), none, none, none, none, none, none, none] [.int (if 0 ≤ (a1).toInt ∧ (a1).toInt < ((61 : Nat) : Int) then 1 else 0)] h g
  refine X_if_eq (tgt := 15) C (D (4, .ifCond .eq 11, 3) (mg 2 rfl)) (by decide) (fun q4 => ?_) (fun q4 => ?_)
  · skip
    have q4 : ¬ (0 ≤ (a1).toInt ∧ (a1).toInt < ((61 : Nat) : Int)) := bz0.mp q4
    refine X_aload_n C 0 (D (15, .aload_n 0, 1) (mg 7 rfl)) rfl rfl ?_
    refine X_cV (As := []) (st := []) C (post := _) (x) (by omega) hsx rfl (ct_X7_refuseBad hw hC0 h g) kX7_57 (by decide) (by decide) rfl rfl (Nat.le_of_ble_eq_true rfl) (D (16, .invokevirtual 57, 3) (mg 8 rfl)) rfl (fun v7 H5 G6 hv7 => ?_)
    obtain ⟨rfl, rfl, rfl⟩ := hv7
    show X k w _ 19 [some (.ref (wA w (x))), some (.int (a1)), some (.int (a2)), none, none, none, none, none, none, none] [.int ((-2 : Int32))] (rcH h (x) 9) g
    exact X_iret C (D (19, .ireturn, 1) (mg 9 rfl)) (by rw [← hPP]; exact pF_i (if_neg (by omega)) (fun q i z => by rw [rcH_ne _ _ _ (by omega)]))
  · skip
    have q4 : (0 ≤ (a1).toInt ∧ (a1).toInt < ((61 : Nat) : Int)) := bz1.mp q4
    obtain ⟨n8, hn8, rfl⟩ := nI_i (x := a1) (n := 61) q4.1 (by omega)
    refine X_iload_n C 2 (D (7, .iload_n 2, 1) (mg 3 rfl)) rfl rfl ?_
    refine X_iconst (v := nI (2)) C (D (8, .iconst 2, 1) (mg 4 rfl)) (by decide) ?_
    refine X_cS (As := [.int (a2), .int (nI (2))]) (st := []) C (post := _) (ct_X7_isBelow hw (a2) (B := 2) (by decide) h g) kX7_53 (by decide) (by decide) rfl rfl (Nat.le_of_ble_eq_true rfl) (D (9, .invokestatic 53, 3) (mg 5 rfl)) rfl (fun v11 H9 G10 hv11 => ?_)
    obtain ⟨rfl, rfl, rfl⟩ := hv11
    show X k w _ 12 [some (.ref (wA w (x))), some (.int (nI (n8))), some (.int (a2)), none, none, none, none, none, none, none] [.int (if 0 ≤ (a2).toInt ∧ (a2).toInt < ((2 : Nat) : Int) then 1 else 0)] h g
    refine X_if_ne (tgt := 20) C (D (12, .ifCond .ne 8, 3) (mg 6 rfl)) (by decide) (fun q12 => ?_) (fun q12 => ?_)
    · skip
      have q12 : (0 ≤ (a2).toInt ∧ (a2).toInt < ((2 : Nat) : Int)) := bz1.mp q12
      refine X_iconst (v := (-1 : Int32)) C (D (20, .iconst (-1), 1) (mg 10 rfl)) (by decide) ?_
      refine X_istore_n (ls' := [some (.ref (wA w (x))), some (.int (nI (n8))), some (.int (a2)), some (.int ((-1 : Int32))), none, none, none, none, none, none]) C 3 (D (21, .istore_n 3, 1) (mg 11 rfl)) rfl (Nat.le_of_ble_eq_true rfl) rfl ?_
      refine X_iconst (v := nI (0)) C (D (22, .iconst 0, 1) (mg 12 rfl)) (by decide) ?_
      refine X_istore (ls' := [some (.ref (wA w (x))), some (.int (nI (n8))), some (.int (a2)), some (.int ((-1 : Int32))), some (.int (nI (0))), none, none, none, none, none]) C (D (23, .istore 4, 2) (mg 13 rfl)) (Nat.le_of_ble_eq_true rfl) rfl ?_
      refine X_iconst (v := nI (0)) C (D (25, .iconst 0, 1) (mg 14 rfl)) (by decide) ?_
      refine X_istore (ls' := [some (.ref (wA w (x))), some (.int (nI (n8))), some (.int (a2)), some (.int ((-1 : Int32))), some (.int (nI (0))), some (.int (nI (0))), none, none, none, none]) C (D (26, .istore 5, 2) (mg 15 rfl)) (Nat.le_of_ble_eq_true rfl) rfl ?_
      have lp28 : ∀ (nn28 : Nat) (j : Nat) (hp28 : xI) (gp28 : xJ), (j ≤ 64) → (cFr x hp28) → (∀ q i, x + 38 < q → hp28 q i = h q i) → 65 - j ≤ nn28 → X k w (Zq k w (PP)) 28 [some (.ref (wA w (x))), some (.int (nI (n8))), some (.int (a2)), some (.int (thM (j))), some (.int (thB (j))), some (.int (nI (j))), none, none, none, none] [] hp28 gp28 := by
        intro nn28
        induction nn28 with
        | zero => intro j hp28 gp28 hc28_0 hc28_1 hc28_2 hz; exact absurd hz (by omega)
        | succ nn28 ih28 =>
          intro j hp28 gp28 hc28_0 hc28_1 hc28_2 hz28
          refine X_iload C (D (28, .iload 5, 2) (mg 16 rfl)) rfl ?_
          refine X_bipush (v := nI (64)) C (D (30, .bipush 64, 2) (mg 17 rfl)) (by decide) ?_
          refine X_icmp_ge (tgt := 100) C (D (32, .if_icmp .ge 68, 3) (mg 18 rfl)) (by decide) (fun q13 => ?_) (fun q13 => ?_)
          · skip
            have q13 : (j) ≥ (64) := by have z := (nI_leI (a := (64)) (b := (j)) (by omega) (by omega)).mp q13; omega
            refine X_iload_n C 2 (D (100, .iload_n 2, 1) (mg 57 rfl)) rfl rfl ?_
            refine X_if_ne (tgt := 108) C (D (101, .ifCond .ne 7, 3) (mg 58 rfl)) (by decide) (fun q14 => ?_) (fun q14 => ?_)
            · skip
              refine X_iload C (D (108, .iload 4, 2) (mg 61 rfl)) rfl ?_
              exact X_iret C (D (110, .ireturn, 1) (mg 62 rfl)) (by rw [← hPP]; exact pF_i ((if_pos (by omega)).trans (by rw [show j = 64 by omega]; exact (if_neg (by assumption)).trans th_64.2.symm)) hc28_2)
            · skip
              refine X_iload_n C 3 (D (104, .iload_n 3, 1) (mg 59 rfl)) rfl rfl ?_
              refine X_goto (tgt := 110) C (D (105, .goto 5, 3) (mg 60 rfl)) (by decide) ?_
              exact X_iret C (D (110, .ireturn, 1) (mg 62 rfl)) (by rw [← hPP]; exact pF_i ((if_pos (by omega)).trans (by rw [show j = 64 by omega]; exact (if_pos (by assumption)).trans th_64.1.symm)) hc28_2)
          · skip
            have q13 : (j) < (64) := by have z : ¬ ((64) ≤ (j)) := fun u => q13 ((nI_leI (a := (64)) (b := (j)) (by omega) (by omega)).mpr u); omega
            refine X_iload C (D (35, .iload 5, 2) (mg 19 rfl)) rfl ?_
            refine X_bipush (v := nI (16)) C (D (37, .bipush 16, 2) (mg 20 rfl)) (by decide) ?_
            refine X_idiv C (D (39, .idiv, 1) (mg 21 rfl)) (by decide) ?_
            refine X_ti (y := nI ((j) / (16))) (pk_div (by omega) (by omega) (by omega)) ?_
            refine X_istore (ls' := [some (.ref (wA w (x))), some (.int (nI (n8))), some (.int (a2)), some (.int (thM (j))), some (.int (thB (j))), some (.int (nI (j))), some (.int (nI ((j) / (16)))), none, none, none]) C (D (40, .istore 6, 2) (mg 22 rfl)) (Nat.le_of_ble_eq_true rfl) rfl ?_
            refine X_iload C (D (42, .iload 5, 2) (mg 23 rfl)) rfl ?_
            refine X_iconst (v := nI (4)) C (D (44, .iconst 4, 1) (mg 24 rfl)) (by decide) ?_
            refine X_idiv C (D (45, .idiv, 1) (mg 25 rfl)) (by decide) ?_
            refine X_ti (y := nI ((j) / (4))) (pk_div (by omega) (by omega) (by omega)) ?_
            refine X_iconst (v := nI (4)) C (D (46, .iconst 4, 1) (mg 26 rfl)) (by decide) ?_
            refine X_irem C (D (47, .irem, 1) (mg 27 rfl)) (by decide) ?_
            refine X_ti (y := nI (((j) / (4)) % (4))) (pk_rem (by omega) (by omega) (by omega)) ?_
            refine X_istore (ls' := [some (.ref (wA w (x))), some (.int (nI (n8))), some (.int (a2)), some (.int (thM (j))), some (.int (thB (j))), some (.int (nI (j))), some (.int (nI ((j) / (16)))), some (.int (nI (((j) / (4)) % (4)))), none, none]) C (D (48, .istore 7, 2) (mg 28 rfl)) (Nat.le_of_ble_eq_true rfl) rfl ?_
            refine X_iload C (D (50, .iload 5, 2) (mg 29 rfl)) rfl ?_
            refine X_iconst (v := nI (4)) C (D (52, .iconst 4, 1) (mg 30 rfl)) (by decide) ?_
            refine X_irem C (D (53, .irem, 1) (mg 31 rfl)) (by decide) ?_
            refine X_ti (y := nI ((j) % (4))) (pk_rem (by omega) (by omega) (by omega)) ?_
            refine X_istore (ls' := [some (.ref (wA w (x))), some (.int (nI (n8))), some (.int (a2)), some (.int (thM (j))), some (.int (thB (j))), some (.int (nI (j))), some (.int (nI ((j) / (16)))), some (.int (nI (((j) / (4)) % (4)))), some (.int (nI ((j) % (4)))), none]) C (D (54, .istore 8, 2) (mg 32 rfl)) (Nat.le_of_ble_eq_true rfl) rfl ?_
            refine X_aload_n C 0 (D (56, .aload_n 0, 1) (mg 33 rfl)) rfl rfl ?_
            refine X_iload C (D (57, .iload 6, 2) (mg 34 rfl)) rfl ?_
            refine X_iload C (D (59, .iload 7, 2) (mg 35 rfl)) rfl ?_
            refine X_iload C (D (61, .iload 8, 2) (mg 36 rfl)) rfl ?_
            refine X_iload_n C 1 (D (63, .iload_n 1, 1) (mg 37 rfl)) rfl rfl ?_
            refine X_cV (As := [.int (nI ((j) / (16))), .int (nI (((j) / (4)) % (4))), .int (nI ((j) % (4))), .int (nI (n8))]) (st := []) C (post := _) (x) (by omega) hsx rfl (cx_X7_greensByThree hw hC0 (a := (j) / (16)) (b := ((j) / (4)) % (4)) (d := (j) % (4)) (by omega) (by omega) (by omega) (nI (n8)) hp28 gp28 hc28_1) kX7_181 (by decide) (by decide) rfl rfl (Nat.le_of_ble_eq_true rfl) (D (64, .invokevirtual 181, 3) (mg 38 rfl)) rfl (fun v17 H15 G16 hv17 => ?_)
            obtain ⟨rfl, f18⟩ := hv17
            show X k w _ 67 [some (.ref (wA w (x))), some (.int (nI (n8))), some (.int (a2)), some (.int (thM (j))), some (.int (thB (j))), some (.int (nI (j))), some (.int (nI ((j) / (16)))), some (.int (nI (((j) / (4)) % (4)))), some (.int (nI ((j) % (4)))), none] [.int (gbI j)] H15 G16
            refine X_istore (ls' := [some (.ref (wA w (x))), some (.int (nI (n8))), some (.int (a2)), some (.int (thM (j))), some (.int (thB (j))), some (.int (nI (j))), some (.int (nI ((j) / (16)))), some (.int (nI (((j) / (4)) % (4)))), some (.int (nI ((j) % (4)))), some (.int (gbI j))]) C (D (67, .istore 9, 2) (mg 39 rfl)) (Nat.le_of_ble_eq_true rfl) rfl ?_
            refine X_iload C (D (69, .iload 9, 2) (mg 40 rfl)) rfl ?_
            refine X_iload_n C 3 (D (71, .iload_n 3, 1) (mg 41 rfl)) rfl rfl ?_
            refine X_icmp_le (tgt := 94) C (D (72, .if_icmp .le 22, 3) (mg 42 rfl)) (by decide) (fun q19 => ?_) (fun q19 => ?_)
            · skip
              refine X_iinc (v := nI (j + 1)) (ls' := [some (.ref (wA w (x))), some (.int (nI (n8))), some (.int (a2)), some (.int (thM (j))), some (.int (thB (j))), some (.int (nI (j + 1))), some (.int (nI ((j) / (16)))), some (.int (nI (((j) / (4)) % (4)))), some (.int (nI ((j) % (4)))), some (.int (gbI j))]) C (D (94, .iinc 5 1, 3) (mg 55 rfl)) rfl (nI_add (j) 1) rfl ?_
              refine X_goto (tgt := 28) C (D (97, .goto (-69), 3) (mg 56 rfl)) (by decide) ?_
              refine X_los (ls' := [some (.ref (wA w (x))), some (.int (nI (n8))), some (.int (a2)), some (.int (thM (j))), some (.int (thB (j))), some (.int (nI (j + 1))), none, none, none, none]) (by simp [lsub]) ?_
              refine X_eq (ls' := [some (.ref (wA w (x))), some (.int (nI (n8))), some (.int (a2)), some (.int (thM (j + 1))), some (.int (thB (j + 1))), some (.int (nI (j + 1))), none, none, none, none]) (st' := []) (h' := H15) (g' := G16) (by rw [show thM (j) = thM (j + 1) from (if_pos (by assumption)).symm, show thB (j) = thB (j + 1) from (if_pos (by assumption)).symm]) rfl rfl rfl ?_
              exact ih28 (j + 1) (H15) (G16) (by omega) (cFr_k (fun q i z => by rw [f18 _ _ (by omega)]) hc28_1) (fun q i z => by rw [f18 _ _ (by omega)]; exact hc28_2 q i z) (by omega)
            · skip
              refine X_iload C (D (75, .iload 9, 2) (mg 43 rfl)) rfl ?_
              refine X_istore_n (ls' := [some (.ref (wA w (x))), some (.int (nI (n8))), some (.int (a2)), some (.int (gbI j)), some (.int (thB (j))), some (.int (nI (j))), some (.int (nI ((j) / (16)))), some (.int (nI (((j) / (4)) % (4)))), some (.int (nI ((j) % (4)))), some (.int (gbI j))]) C 3 (D (77, .istore_n 3, 1) (mg 44 rfl)) rfl (Nat.le_of_ble_eq_true rfl) rfl ?_
              refine X_bipush (v := nI (100)) C (D (78, .bipush 100, 2) (mg 45 rfl)) (by decide) ?_
              refine X_iload C (D (80, .iload 6, 2) (mg 46 rfl)) rfl ?_
              refine X_imul C (D (82, .imul, 1) (mg 47 rfl)) ?_
              refine X_ti (y := nI ((100) * ((j) / (16)))) (pk_mul (100) ((j) / (16))) ?_
              refine X_bipush (v := nI (10)) C (D (83, .bipush 10, 2) (mg 48 rfl)) (by decide) ?_
              refine X_iload C (D (85, .iload 7, 2) (mg 49 rfl)) rfl ?_
              refine X_imul C (D (87, .imul, 1) (mg 50 rfl)) ?_
              refine X_ti (y := nI ((10) * (((j) / (4)) % (4)))) (pk_mul (10) (((j) / (4)) % (4))) ?_
              refine X_iadd C (D (88, .iadd, 1) (mg 51 rfl)) ?_
              refine X_ti (y := nI ((100) * ((j) / (16)) + (10) * (((j) / (4)) % (4)))) (nI_add ((100) * ((j) / (16))) ((10) * (((j) / (4)) % (4)))) ?_
              refine X_iload C (D (89, .iload 8, 2) (mg 52 rfl)) rfl ?_
              refine X_iadd C (D (91, .iadd, 1) (mg 53 rfl)) ?_
              refine X_ti (y := nI ((100) * ((j) / (16)) + (10) * (((j) / (4)) % (4)) + (j) % (4))) (nI_add ((100) * ((j) / (16)) + (10) * (((j) / (4)) % (4))) ((j) % (4))) ?_
              refine X_istore (ls' := [some (.ref (wA w (x))), some (.int (nI (n8))), some (.int (a2)), some (.int (gbI j)), some (.int (nI ((100) * ((j) / (16)) + (10) * (((j) / (4)) % (4)) + (j) % (4)))), some (.int (nI (j))), some (.int (nI ((j) / (16)))), some (.int (nI (((j) / (4)) % (4)))), some (.int (nI ((j) % (4)))), some (.int (gbI j))]) C (D (92, .istore 4, 2) (mg 54 rfl)) (Nat.le_of_ble_eq_true rfl) rfl ?_
              refine X_iinc (v := nI (j + 1)) (ls' := [some (.ref (wA w (x))), some (.int (nI (n8))), some (.int (a2)), some (.int (gbI j)), some (.int (nI ((100) * ((j) / (16)) + (10) * (((j) / (4)) % (4)) + (j) % (4)))), some (.int (nI (j + 1))), some (.int (nI ((j) / (16)))), some (.int (nI (((j) / (4)) % (4)))), some (.int (nI ((j) % (4)))), some (.int (gbI j))]) C (D (94, .iinc 5 1, 3) (mg 55 rfl)) rfl (nI_add (j) 1) rfl ?_
              refine X_goto (tgt := 28) C (D (97, .goto (-69), 3) (mg 56 rfl)) (by decide) ?_
              refine X_los (ls' := [some (.ref (wA w (x))), some (.int (nI (n8))), some (.int (a2)), some (.int (gbI j)), some (.int (nI ((100) * ((j) / (16)) + (10) * (((j) / (4)) % (4)) + (j) % (4)))), some (.int (nI (j + 1))), none, none, none, none]) (by simp [lsub]) ?_
              refine X_eq (ls' := [some (.ref (wA w (x))), some (.int (nI (n8))), some (.int (a2)), some (.int (thM (j + 1))), some (.int (thB (j + 1))), some (.int (nI (j + 1))), none, none, none, none]) (st' := []) (h' := H15) (g' := G16) (by rw [show gbI j = thM (j + 1) from (if_neg (by assumption)).symm, show nI ((100) * ((j) / (16)) + (10) * (((j) / (4)) % (4)) + (j) % (4)) = thB (j + 1) from (if_neg (by assumption)).symm]) rfl rfl rfl ?_
              exact ih28 (j + 1) (H15) (G16) (by omega) (cFr_k (fun q i z => by rw [f18 _ _ (by omega)]) hc28_1) (fun q i z => by rw [f18 _ _ (by omega)]; exact hc28_2 q i z) (by omega)
      refine X_eq (ls' := [some (.ref (wA w (x))), some (.int (nI (n8))), some (.int (a2)), some (.int (thM (0))), some (.int (thB (0))), some (.int (nI (0))), none, none, none, none]) (st' := []) (h' := h) (g' := g) rfl rfl rfl rfl ?_
      exact lp28 _ (0) (h) (g) (by omega) hF (fun q i z => rfl) (Nat.le_refl _)
    · skip
      have q12 : ¬ (0 ≤ (a2).toInt ∧ (a2).toInt < ((2 : Nat) : Int)) := bz0.mp q12
      refine X_aload_n C 0 (D (15, .aload_n 0, 1) (mg 7 rfl)) rfl rfl ?_
      refine X_cV (As := []) (st := []) C (post := _) (x) (by omega) hsx rfl (ct_X7_refuseBad hw hC0 h g) kX7_57 (by decide) (by decide) rfl rfl (Nat.le_of_ble_eq_true rfl) (D (16, .invokevirtual 57, 3) (mg 8 rfl)) rfl (fun v22 H20 G21 hv22 => ?_)
      obtain ⟨rfl, rfl, rfl⟩ := hv22
      show X k w _ 19 [some (.ref (wA w (x))), some (.int (nI (n8))), some (.int (a2)), none, none, none, none, none, none, none] [.int ((-2 : Int32))] (rcH h (x) 9) g
      exact X_iret C (D (19, .ireturn, 1) (mg 9 rfl)) (by rw [← hPP]; exact pF_i (if_neg (by omega)) (fun q i z => by rw [rcH_ne _ _ _ (by omega)]))
