/-! THE REFERENCE, 4: weeks, beside, steps, refusals, nave, harrow, stony -/
set_option maxHeartbeats 4000000 in
set_option maxRecDepth 100000 in
theorem ct_X8_goWeeks {l : Launch} {w : Kw} (hw : wOk w) {q L : Nat} (hr : rw56 w q L) {N : Nat} (hN : N ≤ 99) (h : xI) (g : xJ)  : Ct l w yX8_goWeeks cX8_goWeeks 3 none 2 42 [.ref (wA w (q)), .int (nI (N))] h g (px none (wks q N h) g) := by
  refine Ct_of (ls := [some (.ref (wA w (q))), some (.int (nI (N))), none]) (by decide) hw (Nat.le_of_ble_eq_true rfl) rfl (fun k hkl C => ?_)
  have C : Cx k w cX8_goWeeks RX8 3 none 2 42 := C
  have D := dtX8_goWeeks
  subst hkl
  have hr0 := hr
  obtain ⟨hq0, hs0, hL, hL2⟩ := hr
  have hr := hr0
  refine X_iconst (v := nI (0)) C (D (0, .iconst 0, 1) (mg 0 rfl)) (by decide) ?_
  refine X_istore_n (ls' := [some (.ref (wA w (q))), some (.int (nI (N))), some (.int (nI (0)))]) C 2 (D (1, .istore_n 2, 1) (mg 1 rfl)) rfl (Nat.le_of_ble_eq_true rfl) rfl ?_
  have lp2 : ∀ (nn2 : Nat) (j : Nat) (hh : xI), (j ≤ N) → (wks q (N - j) hh = wks q N h) → N + 1 - j ≤ nn2 → X k w (Zq k w (px none (wks q N h) g)) 2 [some (.ref (wA w (q))), some (.int (nI (N))), some (.int (nI (j)))] [] hh g := by
    intro nn2
    induction nn2 with
    | zero => intro j hh hc2_0 hc2_1 hz; exact absurd hz (by omega)
    | succ nn2 ih2 =>
      intro j hh hc2_0 hc2_1 hz2
      refine X_iload_n C 2 (D (2, .iload_n 2, 1) (mg 2 rfl)) rfl rfl ?_
      refine X_iload_n C 1 (D (3, .iload_n 1, 1) (mg 3 rfl)) rfl rfl ?_
      refine X_icmp_ge (tgt := 27) C (D (4, .if_icmp .ge 23, 3) (mg 4 rfl)) (by decide) (fun q1 => ?_) (fun q1 => ?_)
      · skip
        have q1 : (j) ≥ (N) := by have z := (nI_leI (a := (N)) (b := (j)) (by omega) (by omega)).mp q1; omega
        exact X_vret C (D (27, .return_, 1) (mg 14 rfl)) ⟨rfl, by (first | (rw [show N - j = 0 by omega] at hc2_1; exact hc2_1.symm) | (rw [show N - j = (N - (j + 1)) + 1 by omega] at hc2_1; exact hc2_1.symm.trans (if_pos (by assumption)))), rfl⟩
      · skip
        have q1 : (j) < (N) := by have z : ¬ ((N) ≤ (j)) := fun u => q1 ((nI_leI (a := (N)) (b := (j)) (by omega) (by omega)).mpr u); omega
        refine X_aload_n C 0 (D (7, .aload_n 0, 1) (mg 5 rfl)) rfl rfl ?_
        refine X_bipush (v := nI (29)) C (D (8, .bipush 29, 2) (mg 6 rfl)) (by decide) ?_
        refine X_iald (v := hh (q) (29)) C (q) hq0 hs0 (vp_in_nI (by omega) (by omega)) (D (10, .iaload, 1) (mg 7 rfl)) (by rw [nI_clamp (by omega)]) ?_
        refine X_sipush (v := nI (9999)) C (D (11, .sipush 9999, 3) (mg 8 rfl)) (by decide) ?_
        refine X_icmp_ge (tgt := 27) C (D (14, .if_icmp .ge 13, 3) (mg 9 rfl)) (by decide) (fun q2 => ?_) (fun q2 => ?_)
        · skip
          exact X_vret C (D (27, .return_, 1) (mg 14 rfl)) ⟨rfl, by (first | (rw [show N - j = 0 by omega] at hc2_1; exact hc2_1.symm) | (rw [show N - j = (N - (j + 1)) + 1 by omega] at hc2_1; exact hc2_1.symm.trans (if_pos (by assumption)))), rfl⟩
        · skip
          refine X_aload_n C 0 (D (17, .aload_n 0, 1) (mg 10 rfl)) rfl rfl ?_
          refine X_cS (As := [.ref (wA w (q))]) (st := []) C (post := _) (ct_X8_goWeek hw hr hh g) kX8_121 (by decide) (by decide) rfl rfl (Nat.le_of_ble_eq_true rfl) (D (18, .invokestatic 121, 3) (mg 11 rfl)) rfl (fun v5 H3 G4 hv5 => ?_)
          obtain ⟨rfl, rfl, rfl⟩ := hv5
          show X k w _ 21 [some (.ref (wA w (q))), some (.int (nI (N))), some (.int (nI (j)))] [] (wkH hh (q)) g
          refine X_iinc (v := nI (j + 1)) (ls' := [some (.ref (wA w (q))), some (.int (nI (N))), some (.int (nI (j + 1)))]) C (D (21, .iinc 2 1, 3) (mg 12 rfl)) rfl (nI_add (j) 1) rfl ?_
          refine X_goto (tgt := 2) C (D (24, .goto (-22), 3) (mg 13 rfl)) (by decide) ?_
          refine X_eq (ls' := [some (.ref (wA w (q))), some (.int (nI (N))), some (.int (nI (j + 1)))]) (st' := []) (h' := (wkH hh (q))) (g' := g) rfl rfl rfl rfl ?_
          exact ih2 (j + 1) ((wkH hh (q))) (by omega) (by rw [← hc2_1, show N - j = (N - (j + 1)) + 1 by omega]; exact (if_neg (by assumption)).symm) (by omega)
  refine X_eq (ls' := [some (.ref (wA w (q))), some (.int (nI (N))), some (.int (nI (0)))]) (st' := []) (h' := h) (g' := g) rfl rfl rfl rfl ?_
  exact lp2 _ (0) (h) (by omega) (by rw [Nat.sub_zero]) (Nat.le_refl _)
def dR (t : Int32) : Int32 := if t = 0 then (-1 : Int32) else if t = nI 2 then nI 1 else nI 0
def dC (t : Int32) : Int32 := if t = nI 1 then nI 1 else if t = nI 3 then (-1 : Int32) else nI 0
def bsA (j : Nat) (t : Int32) : Int32 := if 0 ≤ (nI (j / 5) + dR t).toInt ∧ (nI (j / 5) + dR t).toInt ≤ 4 ∧ 0 ≤ (nI (j % 5) + dC t).toInt ∧ (nI (j % 5) + dC t).toInt ≤ 4 then nI 5 * (nI (j / 5) + dR t) + (nI (j % 5) + dC t) else (-1 : Int32)
set_option maxHeartbeats 4000000 in
set_option maxRecDepth 100000 in
theorem ct_X8_beside {l : Launch} {w : Kw} (hw : wOk w) {j : Nat} (hj : j < 25) (t : Int32) (h : xI) (g : xJ)  : Ct l w yX8_beside cX8_beside 4 (some .int) 1 25 [.int (nI (j)), .int (t)] h g (px (some (.int (bsA j t))) h g) := by
  refine Ct_of (ls := [some (.int (nI (j))), some (.int (t)), none, none]) (by decide) hw (Nat.le_of_ble_eq_true rfl) rfl (fun k hkl C => ?_)
  have C : Cx k w cX8_beside RX8 4 (some .int) 1 25 := C
  have D := dtX8_beside
  subst hkl
  have jn45 : X k w (Zq k w (px (some (.int (bsA j t))) h g)) 45 [some (.int (nI (j))), some (.int (t)), some (.int ((nI (j / 5) + dR t))), none] [.int (dC t), .int (nI (j % 5))] h g := by
    refine X_iadd C (D (45, .iadd, 1) (mg 29 rfl)) ?_
    refine X_ti (y := (nI (j % 5) + dC t)) rfl ?_
    refine X_istore_n (ls' := [some (.int (nI (j))), some (.int (t)), some (.int ((nI (j / 5) + dR t))), some (.int ((nI (j % 5) + dC t)))]) C 3 (D (46, .istore_n 3, 1) (mg 30 rfl)) rfl (Nat.le_of_ble_eq_true rfl) rfl ?_
    refine X_iload_n C 2 (D (47, .iload_n 2, 1) (mg 31 rfl)) rfl rfl ?_
    refine X_i2l C (D (48, .i2l, 1) (mg 32 rfl)) ?_
    refine X_lconst (v := lN 0) C (D (49, .lconst 0, 1) (mg 33 rfl)) (by decide) ?_
    refine X_ldc2 C (D (50, .ldc2_w 60, 3) (mg 34 rfl)) vX8_60 ?_
    refine X_cS (As := [.long (((nI (j / 5) + dR t)).toInt64), .long (lN 0), .long ((4 : Int64))]) (st := []) C (post := _) (ct_X8_in hw (((nI (j / 5) + dR t)).toInt64) (lN 0) ((4 : Int64)) h g) kX8_54 (by decide) (by decide) rfl rfl (Nat.le_of_ble_eq_true rfl) (D (53, .invokestatic 54, 3) (mg 35 rfl)) rfl (fun v3 H1 G2 hv3 => ?_)
    obtain ⟨rfl, rfl, rfl⟩ := hv3
    show X k w _ 56 [some (.int (nI (j))), some (.int (t)), some (.int ((nI (j / 5) + dR t))), some (.int ((nI (j % 5) + dC t)))] [.int (if (lN 0).toInt ≤ (((nI (j / 5) + dR t)).toInt64).toInt ∧ (((nI (j / 5) + dR t)).toInt64).toInt ≤ ((4 : Int64)).toInt then 1 else 0)] h g
    refine X_if_eq (tgt := 79) C (D (56, .ifCond .eq 23, 3) (mg 36 rfl)) (by decide) (fun q4 => ?_) (fun q4 => ?_)
    · skip
      have q4 : ¬ ((lN 0).toInt ≤ (((nI (j / 5) + dR t)).toInt64).toInt ∧ (((nI (j / 5) + dR t)).toInt64).toInt ≤ ((4 : Int64)).toInt) := bz0.mp q4
      refine X_iconst (v := (-1 : Int32)) C (D (79, .iconst (-1), 1) (mg 49 rfl)) (by decide) ?_
      exact X_iret C (D (80, .ireturn, 1) (mg 50 rfl)) ⟨congrArg (fun z => some (Value.int z)) (if_neg (by simp only [i6, show (lN 0).toInt = 0 from by decide, show (4 : Int64).toInt = 4 from by decide] at *; omega)), rfl, rfl⟩
    · skip
      have q4 : ((lN 0).toInt ≤ (((nI (j / 5) + dR t)).toInt64).toInt ∧ (((nI (j / 5) + dR t)).toInt64).toInt ≤ ((4 : Int64)).toInt) := bz1.mp q4
      refine X_iload_n C 3 (D (59, .iload_n 3, 1) (mg 37 rfl)) rfl rfl ?_
      refine X_i2l C (D (60, .i2l, 1) (mg 38 rfl)) ?_
      refine X_lconst (v := lN 0) C (D (61, .lconst 0, 1) (mg 39 rfl)) (by decide) ?_
      refine X_ldc2 C (D (62, .ldc2_w 60, 3) (mg 40 rfl)) vX8_60 ?_
      refine X_cS (As := [.long (((nI (j % 5) + dC t)).toInt64), .long (lN 0), .long ((4 : Int64))]) (st := []) C (post := _) (ct_X8_in hw (((nI (j % 5) + dC t)).toInt64) (lN 0) ((4 : Int64)) h g) kX8_54 (by decide) (by decide) rfl rfl (Nat.le_of_ble_eq_true rfl) (D (65, .invokestatic 54, 3) (mg 41 rfl)) rfl (fun v7 H5 G6 hv7 => ?_)
      obtain ⟨rfl, rfl, rfl⟩ := hv7
      show X k w _ 68 [some (.int (nI (j))), some (.int (t)), some (.int ((nI (j / 5) + dR t))), some (.int ((nI (j % 5) + dC t)))] [.int (if (lN 0).toInt ≤ (((nI (j % 5) + dC t)).toInt64).toInt ∧ (((nI (j % 5) + dC t)).toInt64).toInt ≤ ((4 : Int64)).toInt then 1 else 0)] h g
      refine X_if_eq (tgt := 79) C (D (68, .ifCond .eq 11, 3) (mg 42 rfl)) (by decide) (fun q8 => ?_) (fun q8 => ?_)
      · skip
        have q8 : ¬ ((lN 0).toInt ≤ (((nI (j % 5) + dC t)).toInt64).toInt ∧ (((nI (j % 5) + dC t)).toInt64).toInt ≤ ((4 : Int64)).toInt) := bz0.mp q8
        refine X_iconst (v := (-1 : Int32)) C (D (79, .iconst (-1), 1) (mg 49 rfl)) (by decide) ?_
        exact X_iret C (D (80, .ireturn, 1) (mg 50 rfl)) ⟨congrArg (fun z => some (Value.int z)) (if_neg (by simp only [i6, show (lN 0).toInt = 0 from by decide, show (4 : Int64).toInt = 4 from by decide] at *; omega)), rfl, rfl⟩
      · skip
        have q8 : ((lN 0).toInt ≤ (((nI (j % 5) + dC t)).toInt64).toInt ∧ (((nI (j % 5) + dC t)).toInt64).toInt ≤ ((4 : Int64)).toInt) := bz1.mp q8
        refine X_iconst (v := nI (5)) C (D (71, .iconst 5, 1) (mg 43 rfl)) (by decide) ?_
        refine X_iload_n C 2 (D (72, .iload_n 2, 1) (mg 44 rfl)) rfl rfl ?_
        refine X_imul C (D (73, .imul, 1) (mg 45 rfl)) ?_
        refine X_iload_n C 3 (D (74, .iload_n 3, 1) (mg 46 rfl)) rfl rfl ?_
        refine X_iadd C (D (75, .iadd, 1) (mg 47 rfl)) ?_
        refine X_goto (tgt := 80) C (D (76, .goto 4, 3) (mg 48 rfl)) (by decide) ?_
        exact X_iret C (D (80, .ireturn, 1) (mg 50 rfl)) ⟨congrArg (fun z => some (Value.int z)) (if_pos (by simp only [i6, show (lN 0).toInt = 0 from by decide, show (4 : Int64).toInt = 4 from by decide] at *; omega)), rfl, rfl⟩
  have jn21 : X k w (Zq k w (px (some (.int (bsA j t))) h g)) 21 [some (.int (nI (j))), some (.int (t)), none, none] [.int (dR t), .int (nI (j / 5))] h g := by
    refine X_iadd C (D (21, .iadd, 1) (mg 13 rfl)) ?_
    refine X_ti (y := (nI (j / 5) + dR t)) rfl ?_
    refine X_istore_n (ls' := [some (.int (nI (j))), some (.int (t)), some (.int ((nI (j / 5) + dR t))), none]) C 2 (D (22, .istore_n 2, 1) (mg 14 rfl)) rfl (Nat.le_of_ble_eq_true rfl) rfl ?_
    refine X_iload_n C 0 (D (23, .iload_n 0, 1) (mg 15 rfl)) rfl rfl ?_
    refine X_iconst (v := nI (5)) C (D (24, .iconst 5, 1) (mg 16 rfl)) (by decide) ?_
    refine X_irem C (D (25, .irem, 1) (mg 17 rfl)) (by decide) ?_
    refine X_ti (y := nI ((j) % (5))) (pk_rem (by omega) (by omega) (by omega)) ?_
    refine X_iload_n C 1 (D (26, .iload_n 1, 1) (mg 18 rfl)) rfl rfl ?_
    refine X_iconst (v := nI (1)) C (D (27, .iconst 1, 1) (mg 19 rfl)) (by decide) ?_
    refine X_icmp_ne (tgt := 35) C (D (28, .if_icmp .ne 7, 3) (mg 20 rfl)) (by decide) (fun q9 => ?_) (fun q9 => ?_)
    · skip
      refine X_iload_n C 1 (D (35, .iload_n 1, 1) (mg 23 rfl)) rfl rfl ?_
      refine X_iconst (v := nI (3)) C (D (36, .iconst 3, 1) (mg 24 rfl)) (by decide) ?_
      refine X_icmp_ne (tgt := 44) C (D (37, .if_icmp .ne 7, 3) (mg 25 rfl)) (by decide) (fun q10 => ?_) (fun q10 => ?_)
      · skip
        refine X_iconst (v := nI (0)) C (D (44, .iconst 0, 1) (mg 28 rfl)) (by decide) ?_
        refine X_eq (ls' := [some (.int (nI (j))), some (.int (t)), some (.int ((nI (j / 5) + dR t))), none]) (st' := [.int (dC t), .int (nI (j % 5))]) (h' := h) (g' := g) rfl (congrArg (fun z => [Value.int z, .int (nI ((j) % (5)))]) (Eq.symm (a := dC t) ((if_neg (by assumption)).trans (if_neg (by assumption))))) rfl rfl ?_
        exact jn45  
      · skip
        refine X_iconst (v := (-1 : Int32)) C (D (40, .iconst (-1), 1) (mg 26 rfl)) (by decide) ?_
        refine X_goto (tgt := 45) C (D (41, .goto 4, 3) (mg 27 rfl)) (by decide) ?_
        refine X_eq (ls' := [some (.int (nI (j))), some (.int (t)), some (.int ((nI (j / 5) + dR t))), none]) (st' := [.int (dC t), .int (nI (j % 5))]) (h' := h) (g' := g) rfl (congrArg (fun z => [Value.int z, .int (nI ((j) % (5)))]) (Eq.symm (a := dC t) ((if_neg (by assumption)).trans (if_pos (by assumption))))) rfl rfl ?_
        exact jn45  
    · skip
      refine X_iconst (v := nI (1)) C (D (31, .iconst 1, 1) (mg 21 rfl)) (by decide) ?_
      refine X_goto (tgt := 45) C (D (32, .goto 13, 3) (mg 22 rfl)) (by decide) ?_
      refine X_eq (ls' := [some (.int (nI (j))), some (.int (t)), some (.int ((nI (j / 5) + dR t))), none]) (st' := [.int (dC t), .int (nI (j % 5))]) (h' := h) (g' := g) rfl (congrArg (fun z => [Value.int z, .int (nI ((j) % (5)))]) (Eq.symm (a := dC t) (if_pos (by assumption)))) rfl rfl ?_
      exact jn45  
  refine X_iload_n C 0 (D (0, .iload_n 0, 1) (mg 0 rfl)) rfl rfl ?_
  refine X_iconst (v := nI (5)) C (D (1, .iconst 5, 1) (mg 1 rfl)) (by decide) ?_
  refine X_idiv C (D (2, .idiv, 1) (mg 2 rfl)) (by decide) ?_
  refine X_ti (y := nI ((j) / (5))) (pk_div (by omega) (by omega) (by omega)) ?_
  refine X_iload_n C 1 (D (3, .iload_n 1, 1) (mg 3 rfl)) rfl rfl ?_
  refine X_if_ne (tgt := 11) C (D (4, .ifCond .ne 7, 3) (mg 4 rfl)) (by decide) (fun q11 => ?_) (fun q11 => ?_)
  · skip
    refine X_iload_n C 1 (D (11, .iload_n 1, 1) (mg 7 rfl)) rfl rfl ?_
    refine X_iconst (v := nI (2)) C (D (12, .iconst 2, 1) (mg 8 rfl)) (by decide) ?_
    refine X_icmp_ne (tgt := 20) C (D (13, .if_icmp .ne 7, 3) (mg 9 rfl)) (by decide) (fun q12 => ?_) (fun q12 => ?_)
    · skip
      refine X_iconst (v := nI (0)) C (D (20, .iconst 0, 1) (mg 12 rfl)) (by decide) ?_
      refine X_eq (ls' := [some (.int (nI (j))), some (.int (t)), none, none]) (st' := [.int (dR t), .int (nI (j / 5))]) (h' := h) (g' := g) rfl (congrArg (fun z => [Value.int z, .int (nI ((j) / (5)))]) (Eq.symm (a := dR t) ((if_neg (by assumption)).trans (if_neg (by assumption))))) rfl rfl ?_
      exact jn21  
    · skip
      refine X_iconst (v := nI (1)) C (D (16, .iconst 1, 1) (mg 10 rfl)) (by decide) ?_
      refine X_goto (tgt := 21) C (D (17, .goto 4, 3) (mg 11 rfl)) (by decide) ?_
      refine X_eq (ls' := [some (.int (nI (j))), some (.int (t)), none, none]) (st' := [.int (dR t), .int (nI (j / 5))]) (h' := h) (g' := g) rfl (congrArg (fun z => [Value.int z, .int (nI ((j) / (5)))]) (Eq.symm (a := dR t) ((if_neg (by assumption)).trans (if_pos (by assumption))))) rfl rfl ?_
      exact jn21  
  · skip
    refine X_iconst (v := (-1 : Int32)) C (D (7, .iconst (-1), 1) (mg 5 rfl)) (by decide) ?_
    refine X_goto (tgt := 21) C (D (8, .goto 13, 3) (mg 6 rfl)) (by decide) ?_
    refine X_eq (ls' := [some (.int (nI (j))), some (.int (t)), none, none]) (st' := [.int (dR t), .int (nI (j / 5))]) (h' := h) (g' := g) rfl (congrArg (fun z => [Value.int z, .int (nI ((j) / (5)))]) (Eq.symm (a := dR t) (if_pos (by assumption)))) rfl rfl ?_
    exact jn21  
def stH (h : xI) (q c : Nat) : xI := if u2 h q 28 (nI c) q (3 + c) = 0 then u2 h q 28 (nI c) else u2 (u2 h q 28 (nI c)) q (3 + c) (mV (mK (u2 h q 28 (nI c) q (3 + c))) (coV (u2 h q 28 (nI c) q 30) (u2 h q 28 (nI c) q (31 + c)) (mD (u2 h q 28 (nI c) q (3 + c)))) (mA (u2 h q 28 (nI c) q (3 + c))))
set_option maxHeartbeats 4000000 in
set_option maxRecDepth 100000 in
theorem ct_X8_goStep {l : Launch} {w : Kw} (hw : wOk w) {q L : Nat} (hr : rw56 w q L) {j c : Nat} (hj : j < 25) (hc : c < 25) (t : Int32) (h : xI) (g : xJ) (hp : h q 28 = nI j) (hb : bsA j t = nI c) : Ct l w yX8_goStep cX8_goStep 3 none 3 69 [.ref (wA w (q)), .int (t)] h g (px none (stH h q c) g) := by
  refine Ct_of (ls := [some (.ref (wA w (q))), some (.int (t)), none]) (by decide) hw (Nat.le_of_ble_eq_true rfl) rfl (fun k hkl C => ?_)
  have C : Cx k w cX8_goStep RX8 3 none 3 69 := C
  have D := dtX8_goStep
  subst hkl
  have hr0 := hr
  obtain ⟨hq0, hs0, hL, hL2⟩ := hr
  have hr := hr0
  refine X_aload_n C 0 (D (0, .aload_n 0, 1) (mg 0 rfl)) rfl rfl ?_
  refine X_bipush (v := nI (28)) C (D (1, .bipush 28, 2) (mg 1 rfl)) (by decide) ?_
  refine X_iald (v := h (q) (28)) C (q) hq0 hs0 (vp_in_nI (by omega) (by omega)) (D (3, .iaload, 1) (mg 2 rfl)) (by rw [nI_clamp (by omega)]) ?_
  refine X_ti (y := nI (j)) hp ?_
  refine X_iload_n C 1 (D (4, .iload_n 1, 1) (mg 3 rfl)) rfl rfl ?_
  refine X_cS (As := [.int (nI (j)), .int (t)]) (st := []) C (post := _) (ct_X8_beside hw (by omega) (t) h g) kX8_110 (by decide) (by decide) rfl rfl (Nat.le_of_ble_eq_true rfl) (D (5, .invokestatic 110, 3) (mg 4 rfl)) rfl (fun v3 H1 G2 hv3 => ?_)
  obtain ⟨rfl, rfl, rfl⟩ := hv3
  show X k w _ 8 [some (.ref (wA w (q))), some (.int (t)), none] [.int (bsA (j) (t))] h g
  refine X_ti (y := nI (c)) hb ?_
  refine X_istore_n (ls' := [some (.ref (wA w (q))), some (.int (t)), some (.int (nI (c)))]) C 2 (D (8, .istore_n 2, 1) (mg 5 rfl)) rfl (Nat.le_of_ble_eq_true rfl) rfl ?_
  refine X_aload_n C 0 (D (9, .aload_n 0, 1) (mg 6 rfl)) rfl rfl ?_
  refine X_bipush (v := nI (28)) C (D (10, .bipush 28, 2) (mg 7 rfl)) (by decide) ?_
  refine X_iload_n C 2 (D (12, .iload_n 2, 1) (mg 8 rfl)) rfl rfl ?_
  refine X_iast (j := 28) C (q) hq0 hs0 (vp_in_nI (by omega) (by omega)) (D (13, .iastore, 1) (mg 9 rfl)) (nI_clamp (by omega)) ?_
  refine X_aload_n C 0 (D (14, .aload_n 0, 1) (mg 10 rfl)) rfl rfl ?_
  refine X_iload_n C 2 (D (15, .iload_n 2, 1) (mg 11 rfl)) rfl rfl ?_
  refine X_cS (As := [.ref (wA w (q)), .int (nI (c))]) (st := []) C (post := _) (ct_X8_lies hw hr (by omega) (u2 h (q) (28) (nI (c))) g) kX8_64 (by decide) (by decide) rfl rfl (Nat.le_of_ble_eq_true rfl) (D (16, .invokestatic 64, 3) (mg 12 rfl)) rfl (fun v6 H4 G5 hv6 => ?_)
  obtain ⟨rfl, rfl, rfl⟩ := hv6
  show X k w _ 19 [some (.ref (wA w (q))), some (.int (t)), some (.int (nI (c)))] [.int (if ¬ (u2 h (q) (28) (nI (c))) (q) (3 + (c)) = 0 then 1 else 0)] (u2 h (q) (28) (nI (c))) g
  refine X_if_eq (tgt := 47) C (D (19, .ifCond .eq 28, 3) (mg 13 rfl)) (by decide) (fun q7 => ?_) (fun q7 => ?_)
  · skip
    have q7 : ¬ (¬ (u2 h (q) (28) (nI (c))) (q) (3 + (c)) = 0) := bz0.mp q7
    exact X_vret C (D (47, .return_, 1) (mg 29 rfl)) ⟨rfl, if_pos (Classical.not_not.mp (by assumption)), rfl⟩
  · skip
    have q7 : (¬ (u2 h (q) (28) (nI (c))) (q) (3 + (c)) = 0) := bz1.mp q7
    refine X_aload_n C 0 (D (22, .aload_n 0, 1) (mg 14 rfl)) rfl rfl ?_
    refine X_iload_n C 2 (D (23, .iload_n 2, 1) (mg 15 rfl)) rfl rfl ?_
    refine X_aload_n C 0 (D (24, .aload_n 0, 1) (mg 16 rfl)) rfl rfl ?_
    refine X_iload_n C 2 (D (25, .iload_n 2, 1) (mg 17 rfl)) rfl rfl ?_
    refine X_cS (As := [.ref (wA w (q)), .int (nI (c))]) (st := [.int (nI (c)), .ref (wA w (q))]) C (post := _) (ct_X8_kindOf hw hr (by omega) (u2 h (q) (28) (nI (c))) g) kX8_86 (by decide) (by decide) rfl rfl (Nat.le_of_ble_eq_true rfl) (D (26, .invokestatic 86, 3) (mg 18 rfl)) rfl (fun v10 H8 G9 hv10 => ?_)
    obtain ⟨rfl, rfl, rfl⟩ := hv10
    show X k w _ 29 [some (.ref (wA w (q))), some (.int (t)), some (.int (nI (c)))] [.int (mK ((u2 h (q) (28) (nI (c))) (q) (3 + (c)))), .int (nI (c)), .ref (wA w (q))] (u2 h (q) (28) (nI (c))) g
    refine X_aload_n C 0 (D (29, .aload_n 0, 1) (mg 19 rfl)) rfl rfl ?_
    refine X_iload_n C 2 (D (30, .iload_n 2, 1) (mg 20 rfl)) rfl rfl ?_
    refine X_aload_n C 0 (D (31, .aload_n 0, 1) (mg 21 rfl)) rfl rfl ?_
    refine X_iload_n C 2 (D (32, .iload_n 2, 1) (mg 22 rfl)) rfl rfl ?_
    refine X_cS (As := [.ref (wA w (q)), .int (nI (c))]) (st := [.int (nI (c)), .ref (wA w (q)), .int (mK ((u2 h (q) (28) (nI (c))) (q) (3 + (c)))), .int (nI (c)), .ref (wA w (q))]) C (post := _) (ct_X8_depthOf hw hr (by omega) (u2 h (q) (28) (nI (c))) g) kX8_90 (by decide) (by decide) rfl rfl (Nat.le_of_ble_eq_true rfl) (D (33, .invokestatic 90, 3) (mg 23 rfl)) rfl (fun v13 H11 G12 hv13 => ?_)
    obtain ⟨rfl, rfl, rfl⟩ := hv13
    show X k w _ 36 [some (.ref (wA w (q))), some (.int (t)), some (.int (nI (c)))] [.int (mD ((u2 h (q) (28) (nI (c))) (q) (3 + (c)))), .int (nI (c)), .ref (wA w (q)), .int (mK ((u2 h (q) (28) (nI (c))) (q) (3 + (c)))), .int (nI (c)), .ref (wA w (q))] (u2 h (q) (28) (nI (c))) g
    refine X_cS (As := [.ref (wA w (q)), .int (nI (c)), .int (mD ((u2 h (q) (28) (nI (c))) (q) (3 + (c))))]) (st := [.int (mK ((u2 h (q) (28) (nI (c))) (q) (3 + (c)))), .int (nI (c)), .ref (wA w (q))]) C (post := _) (ct_X8_comesTo hw hr (by omega) (mD ((u2 h (q) (28) (nI (c))) (q) (3 + (c)))) (u2 h (q) (28) (nI (c))) g) kX8_114 (by decide) (by decide) rfl rfl (Nat.le_of_ble_eq_true rfl) (D (36, .invokestatic 114, 3) (mg 24 rfl)) rfl (fun v16 H14 G15 hv16 => ?_)
    obtain ⟨rfl, rfl, rfl⟩ := hv16
    show X k w _ 39 [some (.ref (wA w (q))), some (.int (t)), some (.int (nI (c)))] [.int (coV ((u2 h (q) (28) (nI (c))) (q) 30) ((u2 h (q) (28) (nI (c))) (q) (31 + (c))) (mD ((u2 h (q) (28) (nI (c))) (q) (3 + (c))))), .int (mK ((u2 h (q) (28) (nI (c))) (q) (3 + (c)))), .int (nI (c)), .ref (wA w (q))] (u2 h (q) (28) (nI (c))) g
    refine X_aload_n C 0 (D (39, .aload_n 0, 1) (mg 25 rfl)) rfl rfl ?_
    refine X_iload_n C 2 (D (40, .iload_n 2, 1) (mg 26 rfl)) rfl rfl ?_
    refine X_cS (As := [.ref (wA w (q)), .int (nI (c))]) (st := [.int (coV ((u2 h (q) (28) (nI (c))) (q) 30) ((u2 h (q) (28) (nI (c))) (q) (31 + (c))) (mD ((u2 h (q) (28) (nI (c))) (q) (3 + (c))))), .int (mK ((u2 h (q) (28) (nI (c))) (q) (3 + (c)))), .int (nI (c)), .ref (wA w (q))]) C (post := _) (ct_X8_ageOf hw hr (by omega) (u2 h (q) (28) (nI (c))) g) kX8_93 (by decide) (by decide) rfl rfl (Nat.le_of_ble_eq_true rfl) (D (41, .invokestatic 93, 3) (mg 27 rfl)) rfl (fun v19 H17 G18 hv19 => ?_)
    obtain ⟨rfl, rfl, rfl⟩ := hv19
    show X k w _ 44 [some (.ref (wA w (q))), some (.int (t)), some (.int (nI (c)))] [.int (mA ((u2 h (q) (28) (nI (c))) (q) (3 + (c)))), .int (coV ((u2 h (q) (28) (nI (c))) (q) 30) ((u2 h (q) (28) (nI (c))) (q) (31 + (c))) (mD ((u2 h (q) (28) (nI (c))) (q) (3 + (c))))), .int (mK ((u2 h (q) (28) (nI (c))) (q) (3 + (c)))), .int (nI (c)), .ref (wA w (q))] (u2 h (q) (28) (nI (c))) g
    refine X_cS (As := [.ref (wA w (q)), .int (nI (c)), .int (mK ((u2 h (q) (28) (nI (c))) (q) (3 + (c)))), .int (coV ((u2 h (q) (28) (nI (c))) (q) 30) ((u2 h (q) (28) (nI (c))) (q) (31 + (c))) (mD ((u2 h (q) (28) (nI (c))) (q) (3 + (c))))), .int (mA ((u2 h (q) (28) (nI (c))) (q) (3 + (c))))]) (st := []) C (post := _) (ct_X8_lay hw hr (by omega) (mK ((u2 h (q) (28) (nI (c))) (q) (3 + (c)))) (coV ((u2 h (q) (28) (nI (c))) (q) 30) ((u2 h (q) (28) (nI (c))) (q) (31 + (c))) (mD ((u2 h (q) (28) (nI (c))) (q) (3 + (c))))) (mA ((u2 h (q) (28) (nI (c))) (q) (3 + (c)))) (u2 h (q) (28) (nI (c))) g) kX8_117 (by decide) (by decide) rfl rfl (Nat.le_of_ble_eq_true rfl) (D (44, .invokestatic 117, 3) (mg 28 rfl)) rfl (fun v22 H20 G21 hv22 => ?_)
    obtain ⟨rfl, rfl, rfl⟩ := hv22
    show X k w _ 47 [some (.ref (wA w (q))), some (.int (t)), some (.int (nI (c)))] [] (u2 (u2 h (q) (28) (nI (c))) (q) (3 + (c)) (mV (mK ((u2 h (q) (28) (nI (c))) (q) (3 + (c)))) (coV ((u2 h (q) (28) (nI (c))) (q) 30) ((u2 h (q) (28) (nI (c))) (q) (31 + (c))) (mD ((u2 h (q) (28) (nI (c))) (q) (3 + (c))))) (mA ((u2 h (q) (28) (nI (c))) (q) (3 + (c)))))) g
    exact X_vret C (D (47, .return_, 1) (mg 29 rfl)) ⟨rfl, if_neg (by assumption), rfl⟩
def shM (w : Kw) (m : Nat) : Prop := m + 11 < wN w ∧ wS w m = .inl (6, [m + 1 + 2, m + 2 + 2, m + 3 + 2, m + 4 + 2, 1, 1, m + 5 + 2, m + 6 + 2, m + 7 + 2, m + 8 + 2, m + 9 + 2, 0, 0, 0, 0, 0, m + 10 + 2, m + 11 + 2]) ∧ wS w (m + 1) = .inr (.inl (0, 310)) ∧ wS w (m + 2) = .inr (.inl (0, 620)) ∧ wS w (m + 3) = .inr (.inl (1, 2)) ∧ wS w (m + 4) = .inr (.inl (0, 3)) ∧ wS w (m + 5) = .inr (.inl (0, 56)) ∧ wS w (m + 6) = .inr (.inl (0, 5)) ∧ wS w (m + 7) = .inr (.inl (0, 800)) ∧ wS w (m + 8) = .inr (.inl (0, 6)) ∧ wS w (m + 9) = .inr (.inl (0, 150)) ∧ wS w (m + 10) = .inr (.inl (0, 94)) ∧ wS w (m + 11) = .inr (.inl (0, 2))
def rfH (h : xI) (m i : Nat) : xI := u2 h (m + 4) i (h (m + 4) i + nI 1)
def pif (P : Prop) (A B : Option Value → xI → xJ → Prop) : Option Value → xI → xJ → Prop := fun v h g => (P → A v h g) ∧ (¬ P → B v h g)
set_option maxHeartbeats 4000000 in
set_option maxRecDepth 100000 in
theorem ct_X8_bad {l : Launch} {w : Kw} (hw : wOk w) {m : Nat} (hM : shM w m) (x : Int32) (h : xI) (g : xJ)  : Ct l w yX8_bad cX8_bad 2 (some .int) 0 0 [.ref (wA w (m)), .int (x)] h g (px (some (.int x)) (rfH h m 0) g) := by
  refine Ct_of (ls := [some (.ref (wA w (m))), some (.int (x))]) (by decide) hw (Nat.le_of_ble_eq_true rfl) rfl (fun k hkl C => ?_)
  have C : Cx k w cX8_bad RX8 2 (some .int) 0 0 := C
  have D := dtX8_bad
  subst hkl
  have hM0 := hM
  obtain ⟨hm, hsm, hs1, hs2, hs3, hs4, hs5, hs6, hs7, hs8, hs9, hs10, hs11⟩ := hM
  have hM := hM0
  refine X_aload_n C 0 (D (0, .aload_n 0, 1) (mg 0 rfl)) rfl rfl ?_
  refine X_get (v := .ref (wA w (m + 4))) C (m) 3 (by omega) hsm rfl rfl (by decide) inX8 fX8_20 rfl (D (1, .getfield 20, 3) (mg 1 rfl)) rfl ?_
  refine X_iconst (v := nI (0)) C (D (4, .iconst 0, 1) (mg 2 rfl)) (by decide) ?_
  refine X_dup2 C (D (5, .dup2, 1) (mg 3 rfl)) rfl rfl ?_
  refine X_iald (v := h (m + 4) (0)) C (m + 4) (by omega) hs4 (vp_in_nI (by omega) (by omega)) (D (6, .iaload, 1) (mg 4 rfl)) (by rw [nI_clamp (by omega)]) ?_
  refine X_iconst (v := nI (1)) C (D (7, .iconst 1, 1) (mg 5 rfl)) (by decide) ?_
  refine X_iadd C (D (8, .iadd, 1) (mg 6 rfl)) ?_
  refine X_iast (j := 0) C (m + 4) (by omega) hs4 (vp_in_nI (by omega) (by omega)) (D (9, .iastore, 1) (mg 7 rfl)) (nI_clamp (by omega)) ?_
  refine X_iload_n C 1 (D (10, .iload_n 1, 1) (mg 8 rfl)) rfl rfl ?_
  exact X_iret C (D (11, .ireturn, 1) (mg 9 rfl)) ⟨rfl, rfl, rfl⟩
set_option maxHeartbeats 4000000 in
set_option maxRecDepth 100000 in
theorem ct_X8_no {l : Launch} {w : Kw} (hw : wOk w) {m : Nat} (hM : shM w m) (h : xI) (g : xJ)  : Ct l w yX8_no cX8_no 1 (some .int) 0 0 [.ref (wA w (m))] h g (px (some (.int (-3 : Int32))) (rfH h m 1) g) := by
  refine Ct_of (ls := [some (.ref (wA w (m)))]) (by decide) hw (Nat.le_of_ble_eq_true rfl) rfl (fun k hkl C => ?_)
  have C : Cx k w cX8_no RX8 1 (some .int) 0 0 := C
  have D := dtX8_no
  subst hkl
  have hM0 := hM
  obtain ⟨hm, hsm, hs1, hs2, hs3, hs4, hs5, hs6, hs7, hs8, hs9, hs10, hs11⟩ := hM
  have hM := hM0
  refine X_aload_n C 0 (D (0, .aload_n 0, 1) (mg 0 rfl)) rfl rfl ?_
  refine X_get (v := .ref (wA w (m + 4))) C (m) 3 (by omega) hsm rfl rfl (by decide) inX8 fX8_20 rfl (D (1, .getfield 20, 3) (mg 1 rfl)) rfl ?_
  refine X_iconst (v := nI (1)) C (D (4, .iconst 1, 1) (mg 2 rfl)) (by decide) ?_
  refine X_dup2 C (D (5, .dup2, 1) (mg 3 rfl)) rfl rfl ?_
  refine X_iald (v := h (m + 4) (1)) C (m + 4) (by omega) hs4 (vp_in_nI (by omega) (by omega)) (D (6, .iaload, 1) (mg 4 rfl)) (by rw [nI_clamp (by omega)]) ?_
  refine X_iconst (v := nI (1)) C (D (7, .iconst 1, 1) (mg 5 rfl)) (by decide) ?_
  refine X_iadd C (D (8, .iadd, 1) (mg 6 rfl)) ?_
  refine X_iast (j := 1) C (m + 4) (by omega) hs4 (vp_in_nI (by omega) (by omega)) (D (9, .iastore, 1) (mg 7 rfl)) (nI_clamp (by omega)) ?_
  refine X_bipush (v := (-3 : Int32)) C (D (10, .bipush (-3), 2) (mg 8 rfl)) (by decide) ?_
  exact X_iret C (D (12, .ireturn, 1) (mg 9 rfl)) ⟨rfl, rfl, rfl⟩
set_option maxHeartbeats 4000000 in
set_option maxRecDepth 100000 in
theorem ct_X8_full {l : Launch} {w : Kw} (hw : wOk w) {m : Nat} (hM : shM w m) (h : xI) (g : xJ)  : Ct l w yX8_full cX8_full 1 (some .int) 0 0 [.ref (wA w (m))] h g (px (some (.int (-4 : Int32))) (rfH h m 2) g) := by
  refine Ct_of (ls := [some (.ref (wA w (m)))]) (by decide) hw (Nat.le_of_ble_eq_true rfl) rfl (fun k hkl C => ?_)
  have C : Cx k w cX8_full RX8 1 (some .int) 0 0 := C
  have D := dtX8_full
  subst hkl
  have hM0 := hM
  obtain ⟨hm, hsm, hs1, hs2, hs3, hs4, hs5, hs6, hs7, hs8, hs9, hs10, hs11⟩ := hM
  have hM := hM0
  refine X_aload_n C 0 (D (0, .aload_n 0, 1) (mg 0 rfl)) rfl rfl ?_
  refine X_get (v := .ref (wA w (m + 4))) C (m) 3 (by omega) hsm rfl rfl (by decide) inX8 fX8_20 rfl (D (1, .getfield 20, 3) (mg 1 rfl)) rfl ?_
  refine X_iconst (v := nI (2)) C (D (4, .iconst 2, 1) (mg 2 rfl)) (by decide) ?_
  refine X_dup2 C (D (5, .dup2, 1) (mg 3 rfl)) rfl rfl ?_
  refine X_iald (v := h (m + 4) (2)) C (m + 4) (by omega) hs4 (vp_in_nI (by omega) (by omega)) (D (6, .iaload, 1) (mg 4 rfl)) (by rw [nI_clamp (by omega)]) ?_
  refine X_iconst (v := nI (1)) C (D (7, .iconst 1, 1) (mg 5 rfl)) (by decide) ?_
  refine X_iadd C (D (8, .iadd, 1) (mg 6 rfl)) ?_
  refine X_iast (j := 2) C (m + 4) (by omega) hs4 (vp_in_nI (by omega) (by omega)) (D (9, .iastore, 1) (mg 7 rfl)) (nI_clamp (by omega)) ?_
  refine X_bipush (v := (-4 : Int32)) C (D (10, .bipush (-4), 2) (mg 8 rfl)) (by decide) ?_
  exact X_iret C (D (12, .ireturn, 1) (mg 9 rfl)) ⟨rfl, rfl, rfl⟩
set_option maxHeartbeats 4000000 in
set_option maxRecDepth 100000 in
theorem ct_X8_nave {l : Launch} {w : Kw} (hw : wOk w) {m : Nat} (hM : shM w m) (kd c : Int32) (h : xI) (g : xJ)  : Ct l w yX8_nave cX8_nave 4 (some .int) 2 45 [.ref (wA w (m)), .int (kd), .int (c)] h g (pif ((0 ≤ kd.toInt ∧ kd.toInt < 6) ∧ (0 ≤ c.toInt ∧ c.toInt < 25)) (px (some (.int (nI (cn (fun c => ¬ h (m + 1) (3 + c) = 0) 25)))) (bgH h (m + 1) kd c) g) (px (some (.int (-2 : Int32))) (rfH h m 0) g)) := by
  refine Ct_of (ls := [some (.ref (wA w (m))), some (.int (kd)), some (.int (c)), none]) (by decide) hw (Nat.le_of_ble_eq_true rfl) rfl (fun k hkl C => ?_)
  have C : Cx k w cX8_nave RX8 4 (some .int) 2 45 := C
  have D := dtX8_nave
  subst hkl
  have hM0 := hM
  obtain ⟨hm, hsm, hs1, hs2, hs3, hs4, hs5, hs6, hs7, hs8, hs9, hs10, hs11⟩ := hM
  have hM := hM0
  refine X_iload_n C 1 (D (0, .iload_n 1, 1) (mg 0 rfl)) rfl rfl ?_
  refine X_cS (As := [.int (kd)]) (st := []) C (post := _) (ct_X8_isKind hw (kd) h g) kX8_68 (by decide) (by decide) rfl rfl (Nat.le_of_ble_eq_true rfl) (D (1, .invokestatic 68, 3) (mg 1 rfl)) rfl (fun v3 H1 G2 hv3 => ?_)
  obtain ⟨rfl, rfl, rfl⟩ := hv3
  show X k w _ 4 [some (.ref (wA w (m))), some (.int (kd)), some (.int (c)), none] [.int (if 0 ≤ (kd).toInt ∧ (kd).toInt < 6 then 1 else 0)] h g
  refine X_if_eq (tgt := 14) C (D (4, .ifCond .eq 10, 3) (mg 2 rfl)) (by decide) (fun q4 => ?_) (fun q4 => ?_)
  · skip
    have q4 : ¬ (0 ≤ (kd).toInt ∧ (kd).toInt < 6) := bz0.mp q4
    refine X_aload_n C 0 (D (14, .aload_n 0, 1) (mg 6 rfl)) rfl rfl ?_
    refine X_bipush (v := (-2 : Int32)) C (D (15, .bipush (-2), 2) (mg 7 rfl)) (by decide) ?_
    refine X_cV (As := [.int ((-2 : Int32))]) (st := []) C (post := _) (m) (by omega) hsm rfl (ct_X8_bad hw hM ((-2 : Int32)) h g) kX8_75 (by decide) (by decide) rfl rfl (Nat.le_of_ble_eq_true rfl) (D (17, .invokevirtual 75, 3) (mg 8 rfl)) rfl (fun v7 H5 G6 hv7 => ?_)
    obtain ⟨rfl, rfl, rfl⟩ := hv7
    show X k w _ 20 [some (.ref (wA w (m))), some (.int (kd)), some (.int (c)), none] [.int ((-2 : Int32))] (rfH h m 0) g
    exact X_iret C (D (20, .ireturn, 1) (mg 9 rfl)) ⟨fun z => absurd z (by omega), fun _ => ⟨rfl, rfl, rfl⟩⟩
  · skip
    have q4 : (0 ≤ (kd).toInt ∧ (kd).toInt < 6) := bz1.mp q4
    refine X_iload_n C 2 (D (7, .iload_n 2, 1) (mg 3 rfl)) rfl rfl ?_
    refine X_cS (As := [.int (c)]) (st := []) C (post := _) (ct_X8_isCell hw (c) h g) kX8_72 (by decide) (by decide) rfl rfl (Nat.le_of_ble_eq_true rfl) (D (8, .invokestatic 72, 3) (mg 4 rfl)) rfl (fun v10 H8 G9 hv10 => ?_)
    obtain ⟨rfl, rfl, rfl⟩ := hv10
    show X k w _ 11 [some (.ref (wA w (m))), some (.int (kd)), some (.int (c)), none] [.int (if 0 ≤ (c).toInt ∧ (c).toInt < 25 then 1 else 0)] h g
    refine X_if_ne (tgt := 21) C (D (11, .ifCond .ne 10, 3) (mg 5 rfl)) (by decide) (fun q11 => ?_) (fun q11 => ?_)
    · skip
      have q11 : (0 ≤ (c).toInt ∧ (c).toInt < 25) := bz1.mp q11
      refine X_aload_n C 0 (D (21, .aload_n 0, 1) (mg 10 rfl)) rfl rfl ?_
      refine X_get (v := .ref (wA w (m + 1))) C (m) 0 (by omega) hsm rfl rfl (by decide) inX8 fX8_7 rfl (D (22, .getfield 7, 3) (mg 11 rfl)) rfl ?_
      refine X_cS (As := [.ref (wA w (m + 1))]) (st := []) C (post := _) (ct_X8_manyLie hw (⟨by omega, hs1, by omega, by omega⟩ : rw56 w (m + 1) 310) h g) kX8_79 (by decide) (by decide) rfl rfl (Nat.le_of_ble_eq_true rfl) (D (25, .invokestatic 79, 3) (mg 12 rfl)) rfl (fun v14 H12 G13 hv14 => ?_)
      obtain ⟨rfl, rfl, rfl⟩ := hv14
      show X k w _ 28 [some (.ref (wA w (m))), some (.int (kd)), some (.int (c)), none] [.int (nI (cn (fun c => ¬ h (m + 1) (3 + c) = 0) 25))] h g
      refine X_istore_n (ls' := [some (.ref (wA w (m))), some (.int (kd)), some (.int (c)), some (.int (nI (cn (fun c => ¬ h (m + 1) (3 + c) = 0) 25)))]) C 3 (D (28, .istore_n 3, 1) (mg 13 rfl)) rfl (Nat.le_of_ble_eq_true rfl) rfl ?_
      refine X_aload_n C 0 (D (29, .aload_n 0, 1) (mg 14 rfl)) rfl rfl ?_
      refine X_get (v := .ref (wA w (m + 1))) C (m) 0 (by omega) hsm rfl rfl (by decide) inX8 fX8_7 rfl (D (30, .getfield 7, 3) (mg 15 rfl)) rfl ?_
      refine X_iload_n C 1 (D (33, .iload_n 1, 1) (mg 16 rfl)) rfl rfl ?_
      refine X_iload_n C 2 (D (34, .iload_n 2, 1) (mg 17 rfl)) rfl rfl ?_
      refine X_cS (As := [.ref (wA w (m + 1)), .int (kd), .int (c)]) (st := []) C (post := _) (ct_X8_begin hw (⟨by omega, hs1, by omega, by omega⟩ : rw94 w (m + 1) 310) (kd) (c) h g) kX8_48 (by decide) (by decide) rfl rfl (Nat.le_of_ble_eq_true rfl) (D (35, .invokestatic 48, 3) (mg 18 rfl)) rfl (fun v17 H15 G16 hv17 => ?_)
      obtain ⟨rfl, rfl, rfl⟩ := hv17
      show X k w _ 38 [some (.ref (wA w (m))), some (.int (kd)), some (.int (c)), some (.int (nI (cn (fun c => ¬ h (m + 1) (3 + c) = 0) 25)))] [] (bgH h (m + 1) (kd) (c)) g
      refine X_iload_n C 3 (D (38, .iload_n 3, 1) (mg 19 rfl)) rfl rfl ?_
      exact X_iret C (D (39, .ireturn, 1) (mg 20 rfl)) ⟨fun _ => ⟨rfl, rfl, rfl⟩, fun z => absurd (by omega) z⟩
    · skip
      have q11 : ¬ (0 ≤ (c).toInt ∧ (c).toInt < 25) := bz0.mp q11
      refine X_aload_n C 0 (D (14, .aload_n 0, 1) (mg 6 rfl)) rfl rfl ?_
      refine X_bipush (v := (-2 : Int32)) C (D (15, .bipush (-2), 2) (mg 7 rfl)) (by decide) ?_
      refine X_cV (As := [.int ((-2 : Int32))]) (st := []) C (post := _) (m) (by omega) hsm rfl (ct_X8_bad hw hM ((-2 : Int32)) h g) kX8_75 (by decide) (by decide) rfl rfl (Nat.le_of_ble_eq_true rfl) (D (17, .invokevirtual 75, 3) (mg 8 rfl)) rfl (fun v20 H18 G19 hv20 => ?_)
      obtain ⟨rfl, rfl, rfl⟩ := hv20
      show X k w _ 20 [some (.ref (wA w (m))), some (.int (kd)), some (.int (c)), none] [.int ((-2 : Int32))] (rfH h m 0) g
      exact X_iret C (D (20, .ireturn, 1) (mg 9 rfl)) ⟨fun z => absurd z (by omega), fun _ => ⟨rfl, rfl, rfl⟩⟩
set_option maxHeartbeats 4000000 in
set_option maxRecDepth 100000 in
theorem ct_X8_harrow {l : Launch} {w : Kw} (hw : wOk w) {m : Nat} (hM : shM w m) (kd : Int32) (h : xI) (g : xJ)  : Ct l w yX8_harrow cX8_harrow 3 (some .int) 2 45 [.ref (wA w (m)), .int (kd)] h g (pif (0 ≤ kd.toInt ∧ kd.toInt < 6) (px (some (.int (h (m + 1) 30))) (u2 (u2 h (m + 1) 30 kd) (m + 1) 2 (nI 0)) g) (px (some (.int (-2 : Int32))) (rfH h m 0) g)) := by
  refine Ct_of (ls := [some (.ref (wA w (m))), some (.int (kd)), none]) (by decide) hw (Nat.le_of_ble_eq_true rfl) rfl (fun k hkl C => ?_)
  have C : Cx k w cX8_harrow RX8 3 (some .int) 2 45 := C
  have D := dtX8_harrow
  subst hkl
  have hM0 := hM
  obtain ⟨hm, hsm, hs1, hs2, hs3, hs4, hs5, hs6, hs7, hs8, hs9, hs10, hs11⟩ := hM
  have hM := hM0
  refine X_iload_n C 1 (D (0, .iload_n 1, 1) (mg 0 rfl)) rfl rfl ?_
  refine X_cS (As := [.int (kd)]) (st := []) C (post := _) (ct_X8_isKind hw (kd) h g) kX8_68 (by decide) (by decide) rfl rfl (Nat.le_of_ble_eq_true rfl) (D (1, .invokestatic 68, 3) (mg 1 rfl)) rfl (fun v3 H1 G2 hv3 => ?_)
  obtain ⟨rfl, rfl, rfl⟩ := hv3
  show X k w _ 4 [some (.ref (wA w (m))), some (.int (kd)), none] [.int (if 0 ≤ (kd).toInt ∧ (kd).toInt < 6 then 1 else 0)] h g
  refine X_if_ne (tgt := 14) C (D (4, .ifCond .ne 10, 3) (mg 2 rfl)) (by decide) (fun q4 => ?_) (fun q4 => ?_)
  · skip
    have q4 : (0 ≤ (kd).toInt ∧ (kd).toInt < 6) := bz1.mp q4
    refine X_aload_n C 0 (D (14, .aload_n 0, 1) (mg 7 rfl)) rfl rfl ?_
    refine X_get (v := .ref (wA w (m + 1))) C (m) 0 (by omega) hsm rfl rfl (by decide) inX8 fX8_7 rfl (D (15, .getfield 7, 3) (mg 8 rfl)) rfl ?_
    refine X_bipush (v := nI (30)) C (D (18, .bipush 30, 2) (mg 9 rfl)) (by decide) ?_
    refine X_iald (v := h (m + 1) (30)) C (m + 1) (by omega) hs1 (vp_in_nI (by omega) (by omega)) (D (20, .iaload, 1) (mg 10 rfl)) (by rw [nI_clamp (by omega)]) ?_
    refine X_istore_n (ls' := [some (.ref (wA w (m))), some (.int (kd)), some (.int (h (m + 1) (30)))]) C 2 (D (21, .istore_n 2, 1) (mg 11 rfl)) rfl (Nat.le_of_ble_eq_true rfl) rfl ?_
    refine X_aload_n C 0 (D (22, .aload_n 0, 1) (mg 12 rfl)) rfl rfl ?_
    refine X_get (v := .ref (wA w (m + 1))) C (m) 0 (by omega) hsm rfl rfl (by decide) inX8 fX8_7 rfl (D (23, .getfield 7, 3) (mg 13 rfl)) rfl ?_
    refine X_bipush (v := nI (30)) C (D (26, .bipush 30, 2) (mg 14 rfl)) (by decide) ?_
    refine X_iload_n C 1 (D (28, .iload_n 1, 1) (mg 15 rfl)) rfl rfl ?_
    refine X_iast (j := 30) C (m + 1) (by omega) hs1 (vp_in_nI (by omega) (by omega)) (D (29, .iastore, 1) (mg 16 rfl)) (nI_clamp (by omega)) ?_
    refine X_aload_n C 0 (D (30, .aload_n 0, 1) (mg 17 rfl)) rfl rfl ?_
    refine X_get (v := .ref (wA w (m + 1))) C (m) 0 (by omega) hsm rfl rfl (by decide) inX8 fX8_7 rfl (D (31, .getfield 7, 3) (mg 18 rfl)) rfl ?_
    refine X_iconst (v := nI (2)) C (D (34, .iconst 2, 1) (mg 19 rfl)) (by decide) ?_
    refine X_iconst (v := nI (0)) C (D (35, .iconst 0, 1) (mg 20 rfl)) (by decide) ?_
    refine X_iast (j := 2) C (m + 1) (by omega) hs1 (vp_in_nI (by omega) (by omega)) (D (36, .iastore, 1) (mg 21 rfl)) (nI_clamp (by omega)) ?_
    refine X_iload_n C 2 (D (37, .iload_n 2, 1) (mg 22 rfl)) rfl rfl ?_
    exact X_iret C (D (38, .ireturn, 1) (mg 23 rfl)) ⟨fun _ => ⟨rfl, rfl, rfl⟩, fun z => absurd (by omega) z⟩
  · skip
    have q4 : ¬ (0 ≤ (kd).toInt ∧ (kd).toInt < 6) := bz0.mp q4
    refine X_aload_n C 0 (D (7, .aload_n 0, 1) (mg 3 rfl)) rfl rfl ?_
    refine X_bipush (v := (-2 : Int32)) C (D (8, .bipush (-2), 2) (mg 4 rfl)) (by decide) ?_
    refine X_cV (As := [.int ((-2 : Int32))]) (st := []) C (post := _) (m) (by omega) hsm rfl (ct_X8_bad hw hM ((-2 : Int32)) h g) kX8_75 (by decide) (by decide) rfl rfl (Nat.le_of_ble_eq_true rfl) (D (10, .invokevirtual 75, 3) (mg 5 rfl)) rfl (fun v7 H5 G6 hv7 => ?_)
    obtain ⟨rfl, rfl, rfl⟩ := hv7
    show X k w _ 13 [some (.ref (wA w (m))), some (.int (kd)), none] [.int ((-2 : Int32))] (rfH h m 0) g
    exact X_iret C (D (13, .ireturn, 1) (mg 6 rfl)) ⟨fun z => absurd z (by omega), fun _ => ⟨rfl, rfl, rfl⟩⟩
