/-! THE CLASS, 3: small helpers, Way -/
theorem i0 : (0 : Int32).toInt = 0 := by decide
theorem nI_i2 {n : Nat} (h : n < 2147483648) : (nI n).toInt = (n : Int) := nI_toInt (by omega)
set_option maxHeartbeats 4000000 in
set_option maxRecDepth 100000 in
theorem ct_X7_isBelow {l : Launch} {w : Kw} (hw : wOk w) (x : Int32) {B : Nat} (hB : B < 2147483648) (h : xI) (g : xJ)  : Ct l w yX7_isBelow cX7_isBelow 2 (some .boolean) 0 0 [.int (x), .int (nI (B))] h g (px (some (.int (if 0 ≤ x.toInt ∧ x.toInt < (B : Int) then 1 else 0))) h g) := by
  refine Ct_of (ls := [some (.int (x)), some (.int (nI (B)))]) (by decide) hw (Nat.le_of_ble_eq_true rfl) rfl (fun k hkl C => ?_)
  have C : Cx k w cX7_isBelow RX7 2 (some .boolean) 0 0 := C
  have D := dtX7_isBelow
  subst hkl
  refine X_iload_n C 0 (D (0, .iload_n 0, 1) (mg 0 rfl)) rfl rfl ?_
  refine X_if_lt (tgt := 13) C (D (1, .ifCond .lt 12, 3) (mg 1 rfl)) (by decide) (fun q1 => ?_) (fun q1 => ?_)
  · skip
    refine X_iconst (v := nI (0)) C (D (13, .iconst 0, 1) (mg 7 rfl)) (by decide) ?_
    exact X_zret C (D (14, .ireturn, 1) (mg 8 rfl)) rfl ⟨pf (by simp only [Int32.lt_iff_toInt_lt, Int32.le_iff_toInt_le, i0, nI_i2 hB] at *; omega), rfl, rfl⟩
  · skip
    refine X_iload_n C 0 (D (4, .iload_n 0, 1) (mg 2 rfl)) rfl rfl ?_
    refine X_iload_n C 1 (D (5, .iload_n 1, 1) (mg 3 rfl)) rfl rfl ?_
    refine X_icmp_ge (tgt := 13) C (D (6, .if_icmp .ge 7, 3) (mg 4 rfl)) (by decide) (fun q2 => ?_) (fun q2 => ?_)
    · skip
      refine X_iconst (v := nI (0)) C (D (13, .iconst 0, 1) (mg 7 rfl)) (by decide) ?_
      exact X_zret C (D (14, .ireturn, 1) (mg 8 rfl)) rfl ⟨pf (by simp only [Int32.lt_iff_toInt_lt, Int32.le_iff_toInt_le, i0, nI_i2 hB] at *; omega), rfl, rfl⟩
    · skip
      refine X_iconst (v := nI (1)) C (D (9, .iconst 1, 1) (mg 5 rfl)) (by decide) ?_
      refine X_goto (tgt := 14) C (D (10, .goto 4, 3) (mg 6 rfl)) (by decide) ?_
      exact X_zret C (D (14, .ireturn, 1) (mg 8 rfl)) rfl ⟨pt (by simp only [Int32.lt_iff_toInt_lt, Int32.le_iff_toInt_le, i0, nI_i2 hB] at *; omega), rfl, rfl⟩
set_option maxHeartbeats 4000000 in
set_option maxRecDepth 100000 in
theorem ct_X7_isLookAhead {l : Launch} {w : Kw} (hw : wOk w) (x : Int32) (h : xI) (g : xJ)  : Ct l w yX7_isLookAhead cX7_isLookAhead 1 (some .boolean) 0 0 [.int (x)] h g (px (some (.int (if 0 ≤ x.toInt ∧ x.toInt < ((61 : Nat) : Int) then 1 else 0))) h g) := by
  refine Ct_of (ls := [some (.int (x))]) (by decide) hw (Nat.le_of_ble_eq_true rfl) rfl (fun k hkl C => ?_)
  have C : Cx k w cX7_isLookAhead RX7 1 (some .boolean) 0 0 := C
  have D := dtX7_isLookAhead
  subst hkl
  refine X_iload_n C 0 (D (0, .iload_n 0, 1) (mg 0 rfl)) rfl rfl ?_
  refine X_if_lt (tgt := 14) C (D (1, .ifCond .lt 13, 3) (mg 1 rfl)) (by decide) (fun q1 => ?_) (fun q1 => ?_)
  · skip
    refine X_iconst (v := nI (0)) C (D (14, .iconst 0, 1) (mg 7 rfl)) (by decide) ?_
    exact X_zret C (D (15, .ireturn, 1) (mg 8 rfl)) rfl ⟨pf (by simp only [Int32.lt_iff_toInt_lt, Int32.le_iff_toInt_le, i0, nI_i2 (n := 60) (by omega)] at *; omega), rfl, rfl⟩
  · skip
    refine X_iload_n C 0 (D (4, .iload_n 0, 1) (mg 2 rfl)) rfl rfl ?_
    refine X_bipush (v := nI (60)) C (D (5, .bipush 60, 2) (mg 3 rfl)) (by decide) ?_
    refine X_icmp_gt (tgt := 14) C (D (7, .if_icmp .gt 7, 3) (mg 4 rfl)) (by decide) (fun q2 => ?_) (fun q2 => ?_)
    · skip
      refine X_iconst (v := nI (0)) C (D (14, .iconst 0, 1) (mg 7 rfl)) (by decide) ?_
      exact X_zret C (D (15, .ireturn, 1) (mg 8 rfl)) rfl ⟨pf (by simp only [Int32.lt_iff_toInt_lt, Int32.le_iff_toInt_le, i0, nI_i2 (n := 60) (by omega)] at *; omega), rfl, rfl⟩
    · skip
      refine X_iconst (v := nI (1)) C (D (10, .iconst 1, 1) (mg 5 rfl)) (by decide) ?_
      refine X_goto (tgt := 15) C (D (11, .goto 4, 3) (mg 6 rfl)) (by decide) ?_
      exact X_zret C (D (15, .ireturn, 1) (mg 8 rfl)) rfl ⟨pt (by simp only [Int32.lt_iff_toInt_lt, Int32.le_iff_toInt_le, i0, nI_i2 (n := 60) (by omega)] at *; omega), rfl, rfl⟩
def bx (r c : Int32) : Int32 := if (0 ≤ r.toInt ∧ r.toInt < ((5 : Nat) : Int)) ∧ (0 ≤ c.toInt ∧ c.toInt < ((5 : Nat) : Int)) then r * nI 5 + c else (-1 : Int32)
def cbs (j : Nat) (t : Int32) : Int32 := if t = 0 then bx (nI (j / 5) + (-1)) (nI (j % 5)) else if t = 1 then bx (nI (j / 5)) (nI (j % 5 + 1)) else if t = 2 then bx (nI (j / 5 + 1)) (nI (j % 5)) else bx (nI (j / 5)) (nI (j % 5) + (-1))
theorem cbs_0 {j : Nat} {t : Int32} (h : t = 0) : cbs j t = bx (nI (j / 5) + (-1)) (nI (j % 5)) := if_pos h
theorem bx_f {r c : Int32} (h : ¬ ((0 ≤ r.toInt ∧ r.toInt < ((5 : Nat) : Int)) ∧ (0 ≤ c.toInt ∧ c.toInt < ((5 : Nat) : Int)))) : bx r c = (-1 : Int32) := if_neg h
theorem bx_t {r c : Int32} (h : (0 ≤ r.toInt ∧ r.toInt < ((5 : Nat) : Int)) ∧ (0 ≤ c.toInt ∧ c.toInt < ((5 : Nat) : Int))) : bx r c = r * nI 5 + c := if_pos h
theorem cbs_1 {j : Nat} {t : Int32} (h : t = 1) : cbs j t = bx (nI (j / 5)) (nI (j % 5 + 1)) := by subst h; rfl
theorem cbs_2 {j : Nat} {t : Int32} (h : t = 2) : cbs j t = bx (nI (j / 5 + 1)) (nI (j % 5)) := by subst h; rfl
theorem cbs_o {j : Nat} {t : Int32} (h : t.toInt < 0 ∨ 2 < t.toInt) : cbs j t = bx (nI (j / 5)) (nI (j % 5) + (-1)) := by
  unfold cbs
  rw [if_neg (ne_o h (by decide)), if_neg (ne_o h (by decide)), if_neg (ne_o h (by decide))]
theorem cbs_n : ∀ j, j < 25 → ∀ i, i < 4 → cbs j (nI i) = (if bsN j i < 25 then nI (bsN j i) else (-1 : Int32)) := by decide +kernel
theorem cbs_alt {j : Nat} (hj : j < 25) (t : Int32) : cbs j t = (-1 : Int32) ∨ ∃ c, c < 25 ∧ cbs j t = nI c := by
  have H : ∀ i, i < 4 → cbs j (nI i) = (-1 : Int32) ∨ ∃ c, c < 25 ∧ cbs j (nI i) = nI c := by
    intro i hi
    rw [cbs_n j hj i hi]
    by_cases q : bsN j i < 25
    · rw [if_pos q]; exact Or.inr ⟨_, q, rfl⟩
    · rw [if_neg q]; exact Or.inl rfl
  by_cases h0 : t = 0
  · rw [h0]; exact H 0 (by omega)
  · by_cases h1 : t = 1
    · rw [h1]; exact H 1 (by omega)
    · by_cases h2 : t = 2
      · rw [h2]; exact H 2 (by omega)
      · have e : cbs j t = cbs j (nI 3) := by
          unfold cbs
          rw [if_neg h0, if_neg h1, if_neg h2, if_neg (by decide), if_neg (by decide), if_neg (by decide)]
        rw [e]; exact H 3 (by omega)
theorem cbs_p {j : Nat} {t y : Int32} (hj : j < 25) (e : cbs j t = y) : (y = (-1 : Int32) ∨ ∃ c, c < 25 ∧ y = nI c) ∧ y = cbs j t := by
  subst e; exact ⟨cbs_alt hj t, rfl⟩
theorem sw_0_2 (x : Int32) : x = 0 ∨ x = 1 ∨ x = 2 ∨ (x.toInt < 0 ∨ 2 < x.toInt) := by
  have e : ∀ y : Int32, x = y ↔ x.toInt = y.toInt := fun y => Int32.toInt_inj.symm
  simp only [e, show (0 : Int32).toInt = 0 from by decide, show (1 : Int32).toInt = 1 from by decide, show (2 : Int32).toInt = 2 from by decide]
  omega
set_option maxHeartbeats 4000000 in
set_option maxRecDepth 100000 in
theorem ct_X7_beside {l : Launch} {w : Kw} (hw : wOk w) {j : Nat} (hj : j < 25) (t : Int32) (h : xI) (g : xJ)  : Ct l w yX7_beside cX7_beside 4 (some .int) 1 21 [.int (nI (j)), .int (t)] h g (pP (fun y => (y = (-1 : Int32) ∨ ∃ c, c < 25 ∧ y = nI c) ∧ y = cbs j t) h g) := by
  refine Ct_of (ls := [some (.int (nI (j))), some (.int (t)), none, none]) (by decide) hw (Nat.le_of_ble_eq_true rfl) rfl (fun k hkl C => ?_)
  have C : Cx k w cX7_beside RX7 4 (some .int) 1 21 := C
  have D := dtX7_beside
  subst hkl
  refine X_iload_n C 0 (D (0, .iload_n 0, 1) (mg 0 rfl)) rfl rfl ?_
  refine X_iconst (v := nI (5)) C (D (1, .iconst 5, 1) (mg 1 rfl)) (by decide) ?_
  refine X_idiv C (D (2, .idiv, 1) (mg 2 rfl)) (by decide) ?_
  refine X_ti (y := nI ((j) / (5))) (pk_div (by omega) (by omega) (by omega)) ?_
  refine X_istore_n (ls' := [some (.int (nI (j))), some (.int (t)), some (.int (nI ((j) / (5)))), none]) C 2 (D (3, .istore_n 2, 1) (mg 3 rfl)) rfl (Nat.le_of_ble_eq_true rfl) rfl ?_
  refine X_iload_n C 0 (D (4, .iload_n 0, 1) (mg 4 rfl)) rfl rfl ?_
  refine X_iconst (v := nI (5)) C (D (5, .iconst 5, 1) (mg 5 rfl)) (by decide) ?_
  refine X_irem C (D (6, .irem, 1) (mg 6 rfl)) (by decide) ?_
  refine X_ti (y := nI ((j) % (5))) (pk_rem (by omega) (by omega) (by omega)) ?_
  refine X_istore_n (ls' := [some (.int (nI (j))), some (.int (t)), some (.int (nI ((j) / (5)))), some (.int (nI ((j) % (5))))]) C 3 (D (7, .istore_n 3, 1) (mg 7 rfl)) rfl (Nat.le_of_ble_eq_true rfl) rfl ?_
  refine X_iload_n C 1 (D (8, .iload_n 1, 1) (mg 8 rfl)) rfl rfl ?_
  rcases sw_0_2 (t) with q1 | q1 | q1 | q1
  · refine X_swIn (tgt := 36) C (D (9, .tableswitch 45 0 2 #[27, 33, 39], 27) (mg 9 rfl)) (0) (by rw [q1]; decide) (by decide) (by decide) rfl (by decide) ?_
    refine X_iinc (v := nI ((j) / (5)) + (-1)) (ls' := [some (.int (nI (j))), some (.int (t)), some (.int (nI ((j) / (5)) + (-1))), some (.int (nI ((j) % (5))))]) C (D (36, .iinc 2 (-1), 3) (mg 10 rfl)) rfl rfl rfl ?_
    refine X_goto (tgt := 57) C (D (39, .goto 18, 3) (mg 11 rfl)) (by decide) ?_
    refine X_iload_n C 2 (D (57, .iload_n 2, 1) (mg 17 rfl)) rfl rfl ?_
    refine X_iconst (v := nI (5)) C (D (58, .iconst 5, 1) (mg 18 rfl)) (by decide) ?_
    refine X_cS (As := [.int (nI ((j) / (5)) + (-1)), .int (nI (5))]) (st := []) C (post := _) (ct_X7_isBelow hw (nI ((j) / (5)) + (-1)) (B := 5) (by decide) h g) kX7_53 (by decide) (by decide) rfl rfl (Nat.le_of_ble_eq_true rfl) (D (59, .invokestatic 53, 3) (mg 19 rfl)) rfl (fun v4 H2 G3 hv4 => ?_)
    obtain ⟨rfl, rfl, rfl⟩ := hv4
    show X k w _ 62 [some (.int (nI (j))), some (.int (t)), some (.int (nI ((j) / (5)) + (-1))), some (.int (nI ((j) % (5))))] [.int (if 0 ≤ (nI ((j) / (5)) + (-1)).toInt ∧ (nI ((j) / (5)) + (-1)).toInt < ((5 : Nat) : Int) then 1 else 0)] h g
    refine X_if_eq (tgt := 81) C (D (62, .ifCond .eq 19, 3) (mg 20 rfl)) (by decide) (fun q5 => ?_) (fun q5 => ?_)
    · skip
      have q5 : ¬ (0 ≤ (nI ((j) / (5)) + (-1)).toInt ∧ (nI ((j) / (5)) + (-1)).toInt < ((5 : Nat) : Int)) := bz0.mp q5
      refine X_iconst (v := (-1 : Int32)) C (D (81, .iconst (-1), 1) (mg 31 rfl)) (by decide) ?_
      exact X_iret C (D (82, .ireturn, 1) (mg 32 rfl)) ⟨⟨_, rfl, cbs_p hj ((cbs_0 q1).trans (bx_f (by omega)))⟩, rfl, rfl⟩
    · skip
      have q5 : (0 ≤ (nI ((j) / (5)) + (-1)).toInt ∧ (nI ((j) / (5)) + (-1)).toInt < ((5 : Nat) : Int)) := bz1.mp q5
      refine X_iload_n C 3 (D (65, .iload_n 3, 1) (mg 21 rfl)) rfl rfl ?_
      refine X_iconst (v := nI (5)) C (D (66, .iconst 5, 1) (mg 22 rfl)) (by decide) ?_
      refine X_cS (As := [.int (nI ((j) % (5))), .int (nI (5))]) (st := []) C (post := _) (ct_X7_isBelow hw (nI ((j) % (5))) (B := 5) (by decide) h g) kX7_53 (by decide) (by decide) rfl rfl (Nat.le_of_ble_eq_true rfl) (D (67, .invokestatic 53, 3) (mg 23 rfl)) rfl (fun v8 H6 G7 hv8 => ?_)
      obtain ⟨rfl, rfl, rfl⟩ := hv8
      show X k w _ 70 [some (.int (nI (j))), some (.int (t)), some (.int (nI ((j) / (5)) + (-1))), some (.int (nI ((j) % (5))))] [.int (if 0 ≤ (nI ((j) % (5))).toInt ∧ (nI ((j) % (5))).toInt < ((5 : Nat) : Int) then 1 else 0)] h g
      refine X_if_eq (tgt := 81) C (D (70, .ifCond .eq 11, 3) (mg 24 rfl)) (by decide) (fun q9 => ?_) (fun q9 => ?_)
      · skip
        have q9 : ¬ (0 ≤ (nI ((j) % (5))).toInt ∧ (nI ((j) % (5))).toInt < ((5 : Nat) : Int)) := bz0.mp q9
        refine X_iconst (v := (-1 : Int32)) C (D (81, .iconst (-1), 1) (mg 31 rfl)) (by decide) ?_
        exact X_iret C (D (82, .ireturn, 1) (mg 32 rfl)) ⟨⟨_, rfl, cbs_p hj ((cbs_0 q1).trans (bx_f (by omega)))⟩, rfl, rfl⟩
      · skip
        have q9 : (0 ≤ (nI ((j) % (5))).toInt ∧ (nI ((j) % (5))).toInt < ((5 : Nat) : Int)) := bz1.mp q9
        refine X_iload_n C 2 (D (73, .iload_n 2, 1) (mg 25 rfl)) rfl rfl ?_
        refine X_iconst (v := nI (5)) C (D (74, .iconst 5, 1) (mg 26 rfl)) (by decide) ?_
        refine X_imul C (D (75, .imul, 1) (mg 27 rfl)) ?_
        refine X_ti (y := (nI ((j) / (5)) + (-1)) * (nI (5))) rfl ?_
        refine X_iload_n C 3 (D (76, .iload_n 3, 1) (mg 28 rfl)) rfl rfl ?_
        refine X_iadd C (D (77, .iadd, 1) (mg 29 rfl)) ?_
        refine X_ti (y := ((nI ((j) / (5)) + (-1)) * (nI (5))) + (nI ((j) % (5)))) rfl ?_
        refine X_goto (tgt := 82) C (D (78, .goto 4, 3) (mg 30 rfl)) (by decide) ?_
        exact X_iret C (D (82, .ireturn, 1) (mg 32 rfl)) ⟨⟨_, rfl, cbs_p hj ((cbs_0 q1).trans (bx_t (by omega)))⟩, rfl, rfl⟩
  · refine X_swIn (tgt := 42) C (D (9, .tableswitch 45 0 2 #[27, 33, 39], 27) (mg 9 rfl)) (1) (by rw [q1]; decide) (by decide) (by decide) rfl (by decide) ?_
    refine X_iinc (v := nI ((j) % (5) + 1)) (ls' := [some (.int (nI (j))), some (.int (t)), some (.int (nI ((j) / (5)))), some (.int (nI ((j) % (5) + 1)))]) C (D (42, .iinc 3 1, 3) (mg 12 rfl)) rfl (nI_add ((j) % (5)) 1) rfl ?_
    refine X_goto (tgt := 57) C (D (45, .goto 12, 3) (mg 13 rfl)) (by decide) ?_
    refine X_iload_n C 2 (D (57, .iload_n 2, 1) (mg 17 rfl)) rfl rfl ?_
    refine X_iconst (v := nI (5)) C (D (58, .iconst 5, 1) (mg 18 rfl)) (by decide) ?_
    refine X_cS (As := [.int (nI ((j) / (5))), .int (nI (5))]) (st := []) C (post := _) (ct_X7_isBelow hw (nI ((j) / (5))) (B := 5) (by decide) h g) kX7_53 (by decide) (by decide) rfl rfl (Nat.le_of_ble_eq_true rfl) (D (59, .invokestatic 53, 3) (mg 19 rfl)) rfl (fun v12 H10 G11 hv12 => ?_)
    obtain ⟨rfl, rfl, rfl⟩ := hv12
    show X k w _ 62 [some (.int (nI (j))), some (.int (t)), some (.int (nI ((j) / (5)))), some (.int (nI ((j) % (5) + 1)))] [.int (if 0 ≤ (nI ((j) / (5))).toInt ∧ (nI ((j) / (5))).toInt < ((5 : Nat) : Int) then 1 else 0)] h g
    refine X_if_eq (tgt := 81) C (D (62, .ifCond .eq 19, 3) (mg 20 rfl)) (by decide) (fun q13 => ?_) (fun q13 => ?_)
    · skip
      have q13 : ¬ (0 ≤ (nI ((j) / (5))).toInt ∧ (nI ((j) / (5))).toInt < ((5 : Nat) : Int)) := bz0.mp q13
      refine X_iconst (v := (-1 : Int32)) C (D (81, .iconst (-1), 1) (mg 31 rfl)) (by decide) ?_
      exact X_iret C (D (82, .ireturn, 1) (mg 32 rfl)) ⟨⟨_, rfl, cbs_p hj ((cbs_1 q1).trans (bx_f (by omega)))⟩, rfl, rfl⟩
    · skip
      have q13 : (0 ≤ (nI ((j) / (5))).toInt ∧ (nI ((j) / (5))).toInt < ((5 : Nat) : Int)) := bz1.mp q13
      refine X_iload_n C 3 (D (65, .iload_n 3, 1) (mg 21 rfl)) rfl rfl ?_
      refine X_iconst (v := nI (5)) C (D (66, .iconst 5, 1) (mg 22 rfl)) (by decide) ?_
      refine X_cS (As := [.int (nI ((j) % (5) + 1)), .int (nI (5))]) (st := []) C (post := _) (ct_X7_isBelow hw (nI ((j) % (5) + 1)) (B := 5) (by decide) h g) kX7_53 (by decide) (by decide) rfl rfl (Nat.le_of_ble_eq_true rfl) (D (67, .invokestatic 53, 3) (mg 23 rfl)) rfl (fun v16 H14 G15 hv16 => ?_)
      obtain ⟨rfl, rfl, rfl⟩ := hv16
      show X k w _ 70 [some (.int (nI (j))), some (.int (t)), some (.int (nI ((j) / (5)))), some (.int (nI ((j) % (5) + 1)))] [.int (if 0 ≤ (nI ((j) % (5) + 1)).toInt ∧ (nI ((j) % (5) + 1)).toInt < ((5 : Nat) : Int) then 1 else 0)] h g
      refine X_if_eq (tgt := 81) C (D (70, .ifCond .eq 11, 3) (mg 24 rfl)) (by decide) (fun q17 => ?_) (fun q17 => ?_)
      · skip
        have q17 : ¬ (0 ≤ (nI ((j) % (5) + 1)).toInt ∧ (nI ((j) % (5) + 1)).toInt < ((5 : Nat) : Int)) := bz0.mp q17
        refine X_iconst (v := (-1 : Int32)) C (D (81, .iconst (-1), 1) (mg 31 rfl)) (by decide) ?_
        exact X_iret C (D (82, .ireturn, 1) (mg 32 rfl)) ⟨⟨_, rfl, cbs_p hj ((cbs_1 q1).trans (bx_f (by omega)))⟩, rfl, rfl⟩
      · skip
        have q17 : (0 ≤ (nI ((j) % (5) + 1)).toInt ∧ (nI ((j) % (5) + 1)).toInt < ((5 : Nat) : Int)) := bz1.mp q17
        refine X_iload_n C 2 (D (73, .iload_n 2, 1) (mg 25 rfl)) rfl rfl ?_
        refine X_iconst (v := nI (5)) C (D (74, .iconst 5, 1) (mg 26 rfl)) (by decide) ?_
        refine X_imul C (D (75, .imul, 1) (mg 27 rfl)) ?_
        refine X_ti (y := (nI ((j) / (5))) * (nI (5))) rfl ?_
        refine X_iload_n C 3 (D (76, .iload_n 3, 1) (mg 28 rfl)) rfl rfl ?_
        refine X_iadd C (D (77, .iadd, 1) (mg 29 rfl)) ?_
        refine X_ti (y := ((nI ((j) / (5))) * (nI (5))) + (nI ((j) % (5) + 1))) rfl ?_
        refine X_goto (tgt := 82) C (D (78, .goto 4, 3) (mg 30 rfl)) (by decide) ?_
        exact X_iret C (D (82, .ireturn, 1) (mg 32 rfl)) ⟨⟨_, rfl, cbs_p hj ((cbs_1 q1).trans (bx_t (by omega)))⟩, rfl, rfl⟩
  · refine X_swIn (tgt := 48) C (D (9, .tableswitch 45 0 2 #[27, 33, 39], 27) (mg 9 rfl)) (2) (by rw [q1]; decide) (by decide) (by decide) rfl (by decide) ?_
    refine X_iinc (v := nI ((j) / (5) + 1)) (ls' := [some (.int (nI (j))), some (.int (t)), some (.int (nI ((j) / (5) + 1))), some (.int (nI ((j) % (5))))]) C (D (48, .iinc 2 1, 3) (mg 14 rfl)) rfl (nI_add ((j) / (5)) 1) rfl ?_
    refine X_goto (tgt := 57) C (D (51, .goto 6, 3) (mg 15 rfl)) (by decide) ?_
    refine X_iload_n C 2 (D (57, .iload_n 2, 1) (mg 17 rfl)) rfl rfl ?_
    refine X_iconst (v := nI (5)) C (D (58, .iconst 5, 1) (mg 18 rfl)) (by decide) ?_
    refine X_cS (As := [.int (nI ((j) / (5) + 1)), .int (nI (5))]) (st := []) C (post := _) (ct_X7_isBelow hw (nI ((j) / (5) + 1)) (B := 5) (by decide) h g) kX7_53 (by decide) (by decide) rfl rfl (Nat.le_of_ble_eq_true rfl) (D (59, .invokestatic 53, 3) (mg 19 rfl)) rfl (fun v20 H18 G19 hv20 => ?_)
    obtain ⟨rfl, rfl, rfl⟩ := hv20
    show X k w _ 62 [some (.int (nI (j))), some (.int (t)), some (.int (nI ((j) / (5) + 1))), some (.int (nI ((j) % (5))))] [.int (if 0 ≤ (nI ((j) / (5) + 1)).toInt ∧ (nI ((j) / (5) + 1)).toInt < ((5 : Nat) : Int) then 1 else 0)] h g
    refine X_if_eq (tgt := 81) C (D (62, .ifCond .eq 19, 3) (mg 20 rfl)) (by decide) (fun q21 => ?_) (fun q21 => ?_)
    · skip
      have q21 : ¬ (0 ≤ (nI ((j) / (5) + 1)).toInt ∧ (nI ((j) / (5) + 1)).toInt < ((5 : Nat) : Int)) := bz0.mp q21
      refine X_iconst (v := (-1 : Int32)) C (D (81, .iconst (-1), 1) (mg 31 rfl)) (by decide) ?_
      exact X_iret C (D (82, .ireturn, 1) (mg 32 rfl)) ⟨⟨_, rfl, cbs_p hj ((cbs_2 q1).trans (bx_f (by omega)))⟩, rfl, rfl⟩
    · skip
      have q21 : (0 ≤ (nI ((j) / (5) + 1)).toInt ∧ (nI ((j) / (5) + 1)).toInt < ((5 : Nat) : Int)) := bz1.mp q21
      refine X_iload_n C 3 (D (65, .iload_n 3, 1) (mg 21 rfl)) rfl rfl ?_
      refine X_iconst (v := nI (5)) C (D (66, .iconst 5, 1) (mg 22 rfl)) (by decide) ?_
      refine X_cS (As := [.int (nI ((j) % (5))), .int (nI (5))]) (st := []) C (post := _) (ct_X7_isBelow hw (nI ((j) % (5))) (B := 5) (by decide) h g) kX7_53 (by decide) (by decide) rfl rfl (Nat.le_of_ble_eq_true rfl) (D (67, .invokestatic 53, 3) (mg 23 rfl)) rfl (fun v24 H22 G23 hv24 => ?_)
      obtain ⟨rfl, rfl, rfl⟩ := hv24
      show X k w _ 70 [some (.int (nI (j))), some (.int (t)), some (.int (nI ((j) / (5) + 1))), some (.int (nI ((j) % (5))))] [.int (if 0 ≤ (nI ((j) % (5))).toInt ∧ (nI ((j) % (5))).toInt < ((5 : Nat) : Int) then 1 else 0)] h g
      refine X_if_eq (tgt := 81) C (D (70, .ifCond .eq 11, 3) (mg 24 rfl)) (by decide) (fun q25 => ?_) (fun q25 => ?_)
      · skip
        have q25 : ¬ (0 ≤ (nI ((j) % (5))).toInt ∧ (nI ((j) % (5))).toInt < ((5 : Nat) : Int)) := bz0.mp q25
        refine X_iconst (v := (-1 : Int32)) C (D (81, .iconst (-1), 1) (mg 31 rfl)) (by decide) ?_
        exact X_iret C (D (82, .ireturn, 1) (mg 32 rfl)) ⟨⟨_, rfl, cbs_p hj ((cbs_2 q1).trans (bx_f (by omega)))⟩, rfl, rfl⟩
      · skip
        have q25 : (0 ≤ (nI ((j) % (5))).toInt ∧ (nI ((j) % (5))).toInt < ((5 : Nat) : Int)) := bz1.mp q25
        refine X_iload_n C 2 (D (73, .iload_n 2, 1) (mg 25 rfl)) rfl rfl ?_
        refine X_iconst (v := nI (5)) C (D (74, .iconst 5, 1) (mg 26 rfl)) (by decide) ?_
        refine X_imul C (D (75, .imul, 1) (mg 27 rfl)) ?_
        refine X_ti (y := (nI ((j) / (5) + 1)) * (nI (5))) rfl ?_
        refine X_iload_n C 3 (D (76, .iload_n 3, 1) (mg 28 rfl)) rfl rfl ?_
        refine X_iadd C (D (77, .iadd, 1) (mg 29 rfl)) ?_
        refine X_ti (y := ((nI ((j) / (5) + 1)) * (nI (5))) + (nI ((j) % (5)))) rfl ?_
        refine X_goto (tgt := 82) C (D (78, .goto 4, 3) (mg 30 rfl)) (by decide) ?_
        exact X_iret C (D (82, .ireturn, 1) (mg 32 rfl)) ⟨⟨_, rfl, cbs_p hj ((cbs_2 q1).trans (bx_t (by omega)))⟩, rfl, rfl⟩
  · refine X_swOut (tgt := 54) C (D (9, .tableswitch 45 0 2 #[27, 33, 39], 27) (mg 9 rfl)) q1 (by decide) ?_
    refine X_iinc (v := nI ((j) % (5)) + (-1)) (ls' := [some (.int (nI (j))), some (.int (t)), some (.int (nI ((j) / (5)))), some (.int (nI ((j) % (5)) + (-1)))]) C (D (54, .iinc 3 (-1), 3) (mg 16 rfl)) rfl rfl rfl ?_
    refine X_iload_n C 2 (D (57, .iload_n 2, 1) (mg 17 rfl)) rfl rfl ?_
    refine X_iconst (v := nI (5)) C (D (58, .iconst 5, 1) (mg 18 rfl)) (by decide) ?_
    refine X_cS (As := [.int (nI ((j) / (5))), .int (nI (5))]) (st := []) C (post := _) (ct_X7_isBelow hw (nI ((j) / (5))) (B := 5) (by decide) h g) kX7_53 (by decide) (by decide) rfl rfl (Nat.le_of_ble_eq_true rfl) (D (59, .invokestatic 53, 3) (mg 19 rfl)) rfl (fun v28 H26 G27 hv28 => ?_)
    obtain ⟨rfl, rfl, rfl⟩ := hv28
    show X k w _ 62 [some (.int (nI (j))), some (.int (t)), some (.int (nI ((j) / (5)))), some (.int (nI ((j) % (5)) + (-1)))] [.int (if 0 ≤ (nI ((j) / (5))).toInt ∧ (nI ((j) / (5))).toInt < ((5 : Nat) : Int) then 1 else 0)] h g
    refine X_if_eq (tgt := 81) C (D (62, .ifCond .eq 19, 3) (mg 20 rfl)) (by decide) (fun q29 => ?_) (fun q29 => ?_)
    · skip
      have q29 : ¬ (0 ≤ (nI ((j) / (5))).toInt ∧ (nI ((j) / (5))).toInt < ((5 : Nat) : Int)) := bz0.mp q29
      refine X_iconst (v := (-1 : Int32)) C (D (81, .iconst (-1), 1) (mg 31 rfl)) (by decide) ?_
      exact X_iret C (D (82, .ireturn, 1) (mg 32 rfl)) ⟨⟨_, rfl, cbs_p hj ((cbs_o q1).trans (bx_f (by omega)))⟩, rfl, rfl⟩
    · skip
      have q29 : (0 ≤ (nI ((j) / (5))).toInt ∧ (nI ((j) / (5))).toInt < ((5 : Nat) : Int)) := bz1.mp q29
      refine X_iload_n C 3 (D (65, .iload_n 3, 1) (mg 21 rfl)) rfl rfl ?_
      refine X_iconst (v := nI (5)) C (D (66, .iconst 5, 1) (mg 22 rfl)) (by decide) ?_
      refine X_cS (As := [.int (nI ((j) % (5)) + (-1)), .int (nI (5))]) (st := []) C (post := _) (ct_X7_isBelow hw (nI ((j) % (5)) + (-1)) (B := 5) (by decide) h g) kX7_53 (by decide) (by decide) rfl rfl (Nat.le_of_ble_eq_true rfl) (D (67, .invokestatic 53, 3) (mg 23 rfl)) rfl (fun v32 H30 G31 hv32 => ?_)
      obtain ⟨rfl, rfl, rfl⟩ := hv32
      show X k w _ 70 [some (.int (nI (j))), some (.int (t)), some (.int (nI ((j) / (5)))), some (.int (nI ((j) % (5)) + (-1)))] [.int (if 0 ≤ (nI ((j) % (5)) + (-1)).toInt ∧ (nI ((j) % (5)) + (-1)).toInt < ((5 : Nat) : Int) then 1 else 0)] h g
      refine X_if_eq (tgt := 81) C (D (70, .ifCond .eq 11, 3) (mg 24 rfl)) (by decide) (fun q33 => ?_) (fun q33 => ?_)
      · skip
        have q33 : ¬ (0 ≤ (nI ((j) % (5)) + (-1)).toInt ∧ (nI ((j) % (5)) + (-1)).toInt < ((5 : Nat) : Int)) := bz0.mp q33
        refine X_iconst (v := (-1 : Int32)) C (D (81, .iconst (-1), 1) (mg 31 rfl)) (by decide) ?_
        exact X_iret C (D (82, .ireturn, 1) (mg 32 rfl)) ⟨⟨_, rfl, cbs_p hj ((cbs_o q1).trans (bx_f (by omega)))⟩, rfl, rfl⟩
      · skip
        have q33 : (0 ≤ (nI ((j) % (5)) + (-1)).toInt ∧ (nI ((j) % (5)) + (-1)).toInt < ((5 : Nat) : Int)) := bz1.mp q33
        refine X_iload_n C 2 (D (73, .iload_n 2, 1) (mg 25 rfl)) rfl rfl ?_
        refine X_iconst (v := nI (5)) C (D (74, .iconst 5, 1) (mg 26 rfl)) (by decide) ?_
        refine X_imul C (D (75, .imul, 1) (mg 27 rfl)) ?_
        refine X_ti (y := (nI ((j) / (5))) * (nI (5))) rfl ?_
        refine X_iload_n C 3 (D (76, .iload_n 3, 1) (mg 28 rfl)) rfl rfl ?_
        refine X_iadd C (D (77, .iadd, 1) (mg 29 rfl)) ?_
        refine X_ti (y := ((nI ((j) / (5))) * (nI (5))) + (nI ((j) % (5)) + (-1))) rfl ?_
        refine X_goto (tgt := 82) C (D (78, .goto 4, 3) (mg 30 rfl)) (by decide) ?_
        exact X_iret C (D (82, .ireturn, 1) (mg 32 rfl)) ⟨⟨_, rfl, cbs_p hj ((cbs_o q1).trans (bx_t (by omega)))⟩, rfl, rfl⟩
def shY (w : Kw) (y : Nat) : Prop := y + 2 < wN w ∧ wS w y = .inl (4, [y + 1 + 2, y + 2 + 2, 0]) ∧ wS w (y + 1) = .inr (.inl (0, 5)) ∧ wS w (y + 2) = .inr (.inl (0, 160))
def clr (S j : Nat) : Nat := S / 2 ^ (j + 1) * 2 ^ (j + 1) + S % 2 ^ j
theorem clr_e : ∀ S, S < 32 → ∀ j, j < 5 → (clr S j < 32 ∧ nI S &&& ((nI 1 <<< (nI j &&& 31)) ^^^ (-1 : Int32)) = nI (clr S j)) := by decide +kernel
def p2 (s : Nat) : Nat := 2 ^ s
theorem p2_e : ∀ s, s < 6 → (1 ≤ p2 s ∧ p2 s ≤ 32 ∧ nI 1 <<< (nI s &&& 31) = nI (p2 s)) := by decide +kernel
set_option maxHeartbeats 4000000 in
set_option maxRecDepth 100000 in
theorem ct_X6_apart {l : Launch} {w : Kw} (hw : wOk w) (a b : Int32) (h : xI) (g : xJ)  : Ct l w yX6_apart cX6_apart 2 (some .int) 1 21 [.int (a), .int (b)] h g (pI h g) := by
  refine Ct_of (ls := [some (.int (a)), some (.int (b))]) (by decide) hw (Nat.le_of_ble_eq_true rfl) rfl (fun k hkl C => ?_)
  have C : Cx k w cX6_apart RX6 2 (some .int) 1 21 := C
  have D := dtX6_apart
  subst hkl
  refine X_iload_n C 0 (D (0, .iload_n 0, 1) (mg 0 rfl)) rfl rfl ?_
  refine X_iconst (v := nI (5)) C (D (1, .iconst 5, 1) (mg 1 rfl)) (by decide) ?_
  refine X_idiv C (D (2, .idiv, 1) (mg 2 rfl)) (by decide) ?_
  refine X_iload_n C 1 (D (3, .iload_n 1, 1) (mg 3 rfl)) rfl rfl ?_
  refine X_iconst (v := nI (5)) C (D (4, .iconst 5, 1) (mg 4 rfl)) (by decide) ?_
  refine X_idiv C (D (5, .idiv, 1) (mg 5 rfl)) (by decide) ?_
  refine X_isub C (D (6, .isub, 1) (mg 6 rfl)) ?_
  refine X_mabs (st := []) C kX6_37 (by decide) (by decide) (Nat.le_of_ble_eq_true rfl) rfl (D (7, .invokestatic 37, 3) (mg 7 rfl)) ?_
  refine X_iload_n C 0 (D (10, .iload_n 0, 1) (mg 8 rfl)) rfl rfl ?_
  refine X_iconst (v := nI (5)) C (D (11, .iconst 5, 1) (mg 9 rfl)) (by decide) ?_
  refine X_irem C (D (12, .irem, 1) (mg 10 rfl)) (by decide) ?_
  refine X_iload_n C 1 (D (13, .iload_n 1, 1) (mg 11 rfl)) rfl rfl ?_
  refine X_iconst (v := nI (5)) C (D (14, .iconst 5, 1) (mg 12 rfl)) (by decide) ?_
  refine X_irem C (D (15, .irem, 1) (mg 13 rfl)) (by decide) ?_
  refine X_isub C (D (16, .isub, 1) (mg 14 rfl)) ?_
  refine X_mabs (st := [.int (abI ((a / (nI (5))) - (b / (nI (5)))))]) C kX6_37 (by decide) (by decide) (Nat.le_of_ble_eq_true rfl) rfl (D (17, .invokestatic 37, 3) (mg 15 rfl)) ?_
  refine X_iadd C (D (20, .iadd, 1) (mg 16 rfl)) ?_
  exact X_iret C (D (21, .ireturn, 1) (mg 17 rfl)) ⟨⟨_, rfl⟩, rfl, rfl⟩
set_option maxHeartbeats 4000000 in
set_option maxRecDepth 100000 in
theorem ct_X6_without {l : Launch} {w : Kw} (hw : wOk w) {y : Nat} (hY : shY w y) {s : Nat} (hs : s ≤ 5) {S : Nat} (hS : S < 32) (c : Int32) (h : xI) (g : xJ) (hb : h y 2 = nI s) : Ct l w yX6_without cX6_without 4 (some .int) 0 0 [.ref (wA w (y)), .int (nI (S)), .int (c)] h g (pP (fun z => ∃ T, T < 32 ∧ z = nI T) h g) := by
  refine Ct_of (ls := [some (.ref (wA w (y))), some (.int (nI (S))), some (.int (c)), none]) (by decide) hw (Nat.le_of_ble_eq_true rfl) rfl (fun k hkl C => ?_)
  have C : Cx k w cX6_without RX6 4 (some .int) 0 0 := C
  have D := dtX6_without
  subst hkl
  have hY0 := hY
  obtain ⟨hyn, hsy, hy1, hy2⟩ := hY
  have hY := hY0
  refine X_iconst (v := nI (0)) C (D (0, .iconst 0, 1) (mg 0 rfl)) (by decide) ?_
  refine X_istore_n (ls' := [some (.ref (wA w (y))), some (.int (nI (S))), some (.int (c)), some (.int (nI (0)))]) C 3 (D (1, .istore_n 3, 1) (mg 1 rfl)) rfl (Nat.le_of_ble_eq_true rfl) rfl ?_
  have lp2 : ∀ (nn2 : Nat) (j : Nat), (j ≤ s) → 6 - j ≤ nn2 → X k w (Zq k w (pP (fun z => ∃ T, T < 32 ∧ z = nI T) h g)) 2 [some (.ref (wA w (y))), some (.int (nI (S))), some (.int (c)), some (.int (nI (j)))] [] h g := by
    intro nn2
    induction nn2 with
    | zero => intro j hc2_0 hz; exact absurd hz (by omega)
    | succ nn2 ih2 =>
      intro j hc2_0 hz2
      refine X_iload_n C 3 (D (2, .iload_n 3, 1) (mg 2 rfl)) rfl rfl ?_
      refine X_aload_n C 0 (D (3, .aload_n 0, 1) (mg 3 rfl)) rfl rfl ?_
      refine X_get (v := .int (h (y) 2)) C (y) 2 (by omega) hsy rfl rfl (by decide) inX6 fX6_18 rfl (D (4, .getfield 18, 3) (mg 4 rfl)) rfl ?_
      refine X_ti (y := nI (s)) (hb) ?_
      refine X_icmp_ge (tgt := 34) C (D (7, .if_icmp .ge 27, 3) (mg 5 rfl)) (by decide) (fun q1 => ?_) (fun q1 => ?_)
      · skip
        have q1 : (j) ≥ (s) := by have z := (nI_leI (a := (s)) (b := (j)) (by omega) (by omega)).mp q1; omega
        refine X_iload_n C 1 (D (34, .iload_n 1, 1) (mg 22 rfl)) rfl rfl ?_
        exact X_iret C (D (35, .ireturn, 1) (mg 23 rfl)) ⟨⟨_, rfl, S, hS, rfl⟩, rfl, rfl⟩
      · skip
        have q1 : (j) < (s) := by have z : ¬ ((s) ≤ (j)) := fun u => q1 ((nI_leI (a := (s)) (b := (j)) (by omega) (by omega)).mpr u); omega
        refine X_aload_n C 0 (D (10, .aload_n 0, 1) (mg 6 rfl)) rfl rfl ?_
        refine X_get (v := .ref (wA w (y + 1))) C (y) 0 (by omega) hsy rfl rfl (by decide) inX6 fX6_9 rfl (D (11, .getfield 9, 3) (mg 7 rfl)) rfl ?_
        refine X_iload_n C 3 (D (14, .iload_n 3, 1) (mg 8 rfl)) rfl rfl ?_
        refine X_iald (v := h (y + 1) (j)) C (y + 1) (by omega) hy1 (vp_in_nI (by omega) (by omega)) (D (15, .iaload, 1) (mg 9 rfl)) (by rw [nI_clamp (by omega)]) ?_
        refine X_iload_n C 2 (D (16, .iload_n 2, 1) (mg 10 rfl)) rfl rfl ?_
        refine X_icmp_ne (tgt := 28) C (D (17, .if_icmp .ne 11, 3) (mg 11 rfl)) (by decide) (fun q2 => ?_) (fun q2 => ?_)
        · skip
          refine X_iinc (v := nI (j + 1)) (ls' := [some (.ref (wA w (y))), some (.int (nI (S))), some (.int (c)), some (.int (nI (j + 1)))]) C (D (28, .iinc 3 1, 3) (mg 20 rfl)) rfl (nI_add (j) 1) rfl ?_
          refine X_goto (tgt := 2) C (D (31, .goto (-29), 3) (mg 21 rfl)) (by decide) ?_
          refine X_eq (ls' := [some (.ref (wA w (y))), some (.int (nI (S))), some (.int (c)), some (.int (nI (j + 1)))]) (st' := []) (h' := h) (g' := g) rfl rfl rfl rfl ?_
          exact ih2 (j + 1) (by omega) (by omega)
        · skip
          refine X_iload_n C 1 (D (20, .iload_n 1, 1) (mg 12 rfl)) rfl rfl ?_
          refine X_iconst (v := nI (1)) C (D (21, .iconst 1, 1) (mg 13 rfl)) (by decide) ?_
          refine X_iload_n C 3 (D (22, .iload_n 3, 1) (mg 14 rfl)) rfl rfl ?_
          refine X_ishl C (D (23, .ishl, 1) (mg 15 rfl)) ?_
          refine X_iconst (v := (-1 : Int32)) C (D (24, .iconst (-1), 1) (mg 16 rfl)) (by decide) ?_
          refine X_ixor C (D (25, .ixor, 1) (mg 17 rfl)) ?_
          refine X_iand C (D (26, .iand, 1) (mg 18 rfl)) ?_
          refine X_ti (y := nI (clr (S) (j))) (clr_e _ (by omega) _ (by omega)).2 ?_
          exact X_iret C (D (27, .ireturn, 1) (mg 19 rfl)) ⟨⟨_, rfl, _, (clr_e S hS j (by omega)).1, rfl⟩, rfl, rfl⟩
  refine X_eq (ls' := [some (.ref (wA w (y))), some (.int (nI (S))), some (.int (c)), some (.int (nI (0)))]) (st' := []) (h' := h) (g' := g) rfl rfl rfl rfl ?_
  exact lp2 _ (0) (by omega) (Nat.le_refl _)
set_option maxHeartbeats 4000000 in
set_option maxRecDepth 100000 in
theorem ct_X6_fewest {l : Launch} {w : Kw} (hw : wOk w) {y : Nat} (hY : shY w y) {s : Nat} (hs : s ≤ 5) (c : Int32) {S : Nat} (hS : S < 32) (h : xI) (g : xJ) (hb : h y 2 = nI s) : Ct l w yX6_fewest cX6_fewest 6 (some .int) 2 42 [.ref (wA w (y)), .int (c), .int (nI (S))] h g (pI h g) := by
  refine Ct_of (ls := [some (.ref (wA w (y))), some (.int (c)), some (.int (nI (S))), none, none, none]) (by decide) hw (Nat.le_of_ble_eq_true rfl) rfl (fun k hkl C => ?_)
  have C : Cx k w cX6_fewest RX6 6 (some .int) 2 42 := C
  have D := dtX6_fewest
  subst hkl
  have hY0 := hY
  obtain ⟨hyn, hsy, hy1, hy2⟩ := hY
  have hY := hY0
  refine X_iload_n C 2 (D (0, .iload_n 2, 1) (mg 0 rfl)) rfl rfl ?_
  refine X_if_ne (tgt := 6) C (D (1, .ifCond .ne 5, 3) (mg 1 rfl)) (by decide) (fun q1 => ?_) (fun q1 => ?_)
  · skip
    have q1 : (S) ≠ (0) := by have z : ¬ ((S) = (0)) := fun u => q1 ((nI_eq (a := (S)) (b := (0)) (by omega) (by omega)).mpr u); omega
    refine X_sipush (v := nI (1000)) C (D (6, .sipush 1000, 3) (mg 4 rfl)) (by decide) ?_
    refine X_istore_n (ls' := [some (.ref (wA w (y))), some (.int (c)), some (.int (nI (S))), some (.int (nI (1000))), none, none]) C 3 (D (9, .istore_n 3, 1) (mg 5 rfl)) rfl (Nat.le_of_ble_eq_true rfl) rfl ?_
    refine X_iconst (v := nI (0)) C (D (10, .iconst 0, 1) (mg 6 rfl)) (by decide) ?_
    refine X_istore (ls' := [some (.ref (wA w (y))), some (.int (c)), some (.int (nI (S))), some (.int (nI (1000))), some (.int (nI (0))), none]) C (D (11, .istore 4, 2) (mg 7 rfl)) (Nat.le_of_ble_eq_true rfl) rfl ?_
    have lp13 : ∀ (nn13 : Nat) (j : Nat) (d : Int32), (j ≤ s) → 6 - j ≤ nn13 → X k w (Zq k w (pI h g)) 13 [some (.ref (wA w (y))), some (.int (c)), some (.int (nI (S))), some (.int (d)), some (.int (nI (j))), none] [] h g := by
      intro nn13
      induction nn13 with
      | zero => intro j d hc13_0 hz; exact absurd hz (by omega)
      | succ nn13 ih13 =>
        intro j d hc13_0 hz13
        refine X_iload C (D (13, .iload 4, 2) (mg 8 rfl)) rfl ?_
        refine X_aload_n C 0 (D (15, .aload_n 0, 1) (mg 9 rfl)) rfl rfl ?_
        refine X_get (v := .int (h (y) 2)) C (y) 2 (by omega) hsy rfl rfl (by decide) inX6 fX6_18 rfl (D (16, .getfield 18, 3) (mg 10 rfl)) rfl ?_
        refine X_ti (y := nI (s)) (hb) ?_
        refine X_icmp_ge (tgt := 77) C (D (19, .if_icmp .ge 58, 3) (mg 11 rfl)) (by decide) (fun q2 => ?_) (fun q2 => ?_)
        · skip
          have q2 : (j) ≥ (s) := by have z := (nI_leI (a := (s)) (b := (j)) (by omega) (by omega)).mp q2; omega
          refine X_iload_n C 3 (D (77, .iload_n 3, 1) (mg 47 rfl)) rfl rfl ?_
          exact X_iret C (D (78, .ireturn, 1) (mg 48 rfl)) ⟨⟨_, rfl⟩, rfl, rfl⟩
        · skip
          have q2 : (j) < (s) := by have z : ¬ ((s) ≤ (j)) := fun u => q2 ((nI_leI (a := (s)) (b := (j)) (by omega) (by omega)).mpr u); omega
          refine X_iload_n C 2 (D (22, .iload_n 2, 1) (mg 12 rfl)) rfl rfl ?_
          refine X_iload C (D (23, .iload 4, 2) (mg 13 rfl)) rfl ?_
          refine X_ishr C (D (25, .ishr, 1) (mg 14 rfl)) ?_
          refine X_iconst (v := nI (1)) C (D (26, .iconst 1, 1) (mg 15 rfl)) (by decide) ?_
          refine X_iand C (D (27, .iand, 1) (mg 16 rfl)) ?_
          refine X_iconst (v := nI (1)) C (D (28, .iconst 1, 1) (mg 17 rfl)) (by decide) ?_
          refine X_icmp_ne (tgt := 71) C (D (29, .if_icmp .ne 42, 3) (mg 18 rfl)) (by decide) (fun q3 => ?_) (fun q3 => ?_)
          · skip
            refine X_iinc (v := nI (j + 1)) (ls' := [some (.ref (wA w (y))), some (.int (c)), some (.int (nI (S))), some (.int (d)), some (.int (nI (j + 1))), none]) C (D (71, .iinc 4 1, 3) (mg 45 rfl)) rfl (nI_add (j) 1) rfl ?_
            refine X_goto (tgt := 13) C (D (74, .goto (-61), 3) (mg 46 rfl)) (by decide) ?_
            refine X_eq (ls' := [some (.ref (wA w (y))), some (.int (c)), some (.int (nI (S))), some (.int (d)), some (.int (nI (j + 1))), none]) (st' := []) (h' := h) (g' := g) rfl rfl rfl rfl ?_
            exact ih13 (j + 1) (d) (by omega) (by omega)
          · skip
            refine X_iload_n C 2 (D (32, .iload_n 2, 1) (mg 19 rfl)) rfl rfl ?_
            refine X_iconst (v := nI (1)) C (D (33, .iconst 1, 1) (mg 20 rfl)) (by decide) ?_
            refine X_iload C (D (34, .iload 4, 2) (mg 21 rfl)) rfl ?_
            refine X_ishl C (D (36, .ishl, 1) (mg 22 rfl)) ?_
            refine X_iconst (v := (-1 : Int32)) C (D (37, .iconst (-1), 1) (mg 23 rfl)) (by decide) ?_
            refine X_ixor C (D (38, .ixor, 1) (mg 24 rfl)) ?_
            refine X_iand C (D (39, .iand, 1) (mg 25 rfl)) ?_
            refine X_ti (y := nI (clr (S) (j))) (clr_e _ (by omega) _ (by omega)).2 ?_
            refine X_istore (ls' := [some (.ref (wA w (y))), some (.int (c)), some (.int (nI (S))), some (.int (d)), some (.int (nI (j))), some (.int (nI (clr (S) (j))))]) C (D (40, .istore 5, 2) (mg 26 rfl)) (Nat.le_of_ble_eq_true rfl) rfl ?_
            have hcl := (clr_e S hS j (by omega)).1
            refine X_iload_n C 3 (D (42, .iload_n 3, 1) (mg 27 rfl)) rfl rfl ?_
            refine X_iload_n C 1 (D (43, .iload_n 1, 1) (mg 28 rfl)) rfl rfl ?_
            refine X_aload_n C 0 (D (44, .aload_n 0, 1) (mg 29 rfl)) rfl rfl ?_
            refine X_get (v := .ref (wA w (y + 1))) C (y) 0 (by omega) hsy rfl rfl (by decide) inX6 fX6_9 rfl (D (45, .getfield 9, 3) (mg 30 rfl)) rfl ?_
            refine X_iload C (D (48, .iload 4, 2) (mg 31 rfl)) rfl ?_
            refine X_iald (v := h (y + 1) (j)) C (y + 1) (by omega) hy1 (vp_in_nI (by omega) (by omega)) (D (50, .iaload, 1) (mg 32 rfl)) (by rw [nI_clamp (by omega)]) ?_
            refine X_cS (As := [.int (c), .int (h (y + 1) (j))]) (st := [.int (d)]) C (post := _) (ct_X6_apart hw (c) (h (y + 1) (j)) h g) kX6_29 (by decide) (by decide) rfl rfl (Nat.le_of_ble_eq_true rfl) (D (51, .invokestatic 29, 3) (mg 33 rfl)) rfl (fun v6 H4 G5 hv6 => ?_)
            obtain ⟨⟨y7, rfl⟩, rfl, rfl⟩ := hv6
            show X k w _ 54 [some (.ref (wA w (y))), some (.int (c)), some (.int (nI (S))), some (.int (d)), some (.int (nI (j))), some (.int (nI (clr (S) (j))))] [.int (y7), .int (d)] h g
            refine X_aload_n C 0 (D (54, .aload_n 0, 1) (mg 34 rfl)) rfl rfl ?_
            refine X_get (v := .ref (wA w (y + 2))) C (y) 1 (by omega) hsy rfl rfl (by decide) inX6 fX6_15 rfl (D (55, .getfield 15, 3) (mg 35 rfl)) rfl ?_
            refine X_iload C (D (58, .iload 5, 2) (mg 36 rfl)) rfl ?_
            refine X_iconst (v := nI (5)) C (D (60, .iconst 5, 1) (mg 37 rfl)) (by decide) ?_
            refine X_imul C (D (61, .imul, 1) (mg 38 rfl)) ?_
            refine X_ti (y := nI ((clr (S) (j)) * (5))) (pk_mul (clr (S) (j)) (5)) ?_
            refine X_iload C (D (62, .iload 4, 2) (mg 39 rfl)) rfl ?_
            refine X_iadd C (D (64, .iadd, 1) (mg 40 rfl)) ?_
            refine X_ti (y := nI ((clr (S) (j)) * (5) + j)) (nI_add ((clr (S) (j)) * (5)) (j)) ?_
            refine X_iald (v := h (y + 2) ((clr (S) (j)) * (5) + j)) C (y + 2) (by omega) hy2 (vp_in_nI (by omega) (by omega)) (D (65, .iaload, 1) (mg 41 rfl)) (by rw [nI_clamp (by omega)]) ?_
            refine X_iadd C (D (66, .iadd, 1) (mg 42 rfl)) ?_
            refine X_mmin (st := []) C kX6_32 (by decide) (by decide) (Nat.le_of_ble_eq_true rfl) rfl (D (67, .invokestatic 32, 3) (mg 43 rfl)) ?_
            refine X_istore_n (ls' := [some (.ref (wA w (y))), some (.int (c)), some (.int (nI (S))), some (.int (mnI (d) (y7 + (h (y + 2) ((clr (S) (j)) * (5) + j))))), some (.int (nI (j))), some (.int (nI (clr (S) (j))))]) C 3 (D (70, .istore_n 3, 1) (mg 44 rfl)) rfl (Nat.le_of_ble_eq_true rfl) rfl ?_
            refine X_iinc (v := nI (j + 1)) (ls' := [some (.ref (wA w (y))), some (.int (c)), some (.int (nI (S))), some (.int (mnI (d) (y7 + (h (y + 2) ((clr (S) (j)) * (5) + j))))), some (.int (nI (j + 1))), some (.int (nI (clr (S) (j))))]) C (D (71, .iinc 4 1, 3) (mg 45 rfl)) rfl (nI_add (j) 1) rfl ?_
            refine X_goto (tgt := 13) C (D (74, .goto (-61), 3) (mg 46 rfl)) (by decide) ?_
            refine X_los (ls' := [some (.ref (wA w (y))), some (.int (c)), some (.int (nI (S))), some (.int (mnI (d) (y7 + (h (y + 2) ((clr (S) (j)) * (5) + j))))), some (.int (nI (j + 1))), none]) (by simp [lsub]) ?_
            refine X_eq (ls' := [some (.ref (wA w (y))), some (.int (c)), some (.int (nI (S))), some (.int (mnI (d) (y7 + (h (y + 2) ((clr (S) (j)) * (5) + j))))), some (.int (nI (j + 1))), none]) (st' := []) (h' := h) (g' := g) rfl rfl rfl rfl ?_
            exact ih13 (j + 1) (mnI (d) (y7 + (h (y + 2) ((clr (S) (j)) * (5) + j)))) (by omega) (by omega)
    refine X_eq (ls' := [some (.ref (wA w (y))), some (.int (c)), some (.int (nI (S))), some (.int (nI (1000))), some (.int (nI (0))), none]) (st' := []) (h' := h) (g' := g) rfl rfl rfl rfl ?_
    exact lp13 _ (0) (nI (1000)) (by omega) (Nat.le_refl _)
  · skip
    have q1 : (S) = (0) := by have z := (nI_eq (a := (S)) (b := (0)) (by omega) (by omega)).mp q1; omega
    refine X_iconst (v := nI (0)) C (D (4, .iconst 0, 1) (mg 2 rfl)) (by decide) ?_
    exact X_iret C (D (5, .ireturn, 1) (mg 3 rfl)) ⟨⟨_, rfl⟩, rfl, rfl⟩
set_option maxHeartbeats 4000000 in
set_option maxRecDepth 100000 in
theorem ct_X6_fewestFrom {l : Launch} {w : Kw} (hw : wOk w) {y : Nat} (hY : shY w y) {s : Nat} (hs : s ≤ 5) (c : Int32) (h : xI) (g : xJ) (hb : h y 2 = nI s) : Ct l w yX6_fewestFrom cX6_fewestFrom 2 (some .int) 3 67 [.ref (wA w (y)), .int (c)] h g (pI h g) := by
  refine Ct_of (ls := [some (.ref (wA w (y))), some (.int (c))]) (by decide) hw (Nat.le_of_ble_eq_true rfl) rfl (fun k hkl C => ?_)
  have C : Cx k w cX6_fewestFrom RX6 2 (some .int) 3 67 := C
  have D := dtX6_fewestFrom
  subst hkl
  have hY0 := hY
  obtain ⟨hyn, hsy, hy1, hy2⟩ := hY
  have hY := hY0
  have hp2 := p2_e s (by omega)
  refine X_aload_n C 0 (D (0, .aload_n 0, 1) (mg 0 rfl)) rfl rfl ?_
  refine X_iload_n C 1 (D (1, .iload_n 1, 1) (mg 1 rfl)) rfl rfl ?_
  refine X_aload_n C 0 (D (2, .aload_n 0, 1) (mg 2 rfl)) rfl rfl ?_
  refine X_iconst (v := nI (1)) C (D (3, .iconst 1, 1) (mg 3 rfl)) (by decide) ?_
  refine X_aload_n C 0 (D (4, .aload_n 0, 1) (mg 4 rfl)) rfl rfl ?_
  refine X_get (v := .int (h (y) 2)) C (y) 2 (by omega) hsy rfl rfl (by decide) inX6 fX6_18 rfl (D (5, .getfield 18, 3) (mg 5 rfl)) rfl ?_
  refine X_ti (y := nI (s)) (hb) ?_
  refine X_ishl C (D (8, .ishl, 1) (mg 6 rfl)) ?_
  refine X_ti (y := nI (p2 (s))) (p2_e _ (by omega)).2.2 ?_
  refine X_iconst (v := nI (1)) C (D (9, .iconst 1, 1) (mg 7 rfl)) (by decide) ?_
  refine X_isub C (D (10, .isub, 1) (mg 8 rfl)) ?_
  refine X_ti (y := nI (p2 (s) - 1)) (pk_sub (by omega)) ?_
  refine X_iload_n C 1 (D (11, .iload_n 1, 1) (mg 9 rfl)) rfl rfl ?_
  refine X_cV (As := [.int (nI (p2 (s) - 1)), .int (c)]) (st := [.int (c), .ref (wA w (y))]) C (post := _) (y) (by omega) hsy rfl (ct_X6_without hw (y := y) hY (s := s) (by omega) (S := p2 (s) - 1) (by omega) (c) h g (hb)) kX6_26 (by decide) (by decide) rfl rfl (Nat.le_of_ble_eq_true rfl) (D (12, .invokevirtual 26, 3) (mg 10 rfl)) rfl (fun v3 H1 G2 hv3 => ?_)
  obtain ⟨⟨_, rfl, T4, hT4, rfl⟩, rfl, rfl⟩ := hv3
  show X k w _ 15 [some (.ref (wA w (y))), some (.int (c))] [.int (nI (T4)), .int (c), .ref (wA w (y))] h g
  refine X_cV (As := [.int (c), .int (nI (T4))]) (st := []) C (post := _) (y) (by omega) hsy rfl (ct_X6_fewest hw (y := y) hY (s := s) (by omega) (c) (S := T4) (by omega) h g (hb)) kX6_22 (by decide) (by decide) rfl rfl (Nat.le_of_ble_eq_true rfl) (D (15, .invokevirtual 22, 3) (mg 11 rfl)) rfl (fun v7 H5 G6 hv7 => ?_)
  obtain ⟨⟨y8, rfl⟩, rfl, rfl⟩ := hv7
  show X k w _ 18 [some (.ref (wA w (y))), some (.int (c))] [.int (y8)] h g
  exact X_iret C (D (18, .ireturn, 1) (mg 12 rfl)) ⟨⟨_, rfl⟩, rfl, rfl⟩
set_option maxHeartbeats 4000000 in
set_option maxRecDepth 100000 in
theorem ct_X6_firstStep {l : Launch} {w : Kw} (hw : wOk w) {y : Nat} (hY : shY w y) {s : Nat} (hs : s ≤ 5) {c : Nat} (hc : c < 25) {S : Nat} (hS : S < 32) (h : xI) (g : xJ) (hb : h y 2 = nI s) : Ct l w yX6_firstStep cX6_firstStep 6 (some .int) 3 67 [.ref (wA w (y)), .int (nI (c)), .int (nI (S))] h g (pI h g) := by
  refine Ct_of (ls := [some (.ref (wA w (y))), some (.int (nI (c))), some (.int (nI (S))), none, none, none]) (by decide) hw (Nat.le_of_ble_eq_true rfl) rfl (fun k hkl C => ?_)
  have C : Cx k w cX6_firstStep RX6 6 (some .int) 3 67 := C
  have D := dtX6_firstStep
  subst hkl
  have hY0 := hY
  obtain ⟨hyn, hsy, hy1, hy2⟩ := hY
  have hY := hY0
  refine X_aload_n C 0 (D (0, .aload_n 0, 1) (mg 0 rfl)) rfl rfl ?_
  refine X_iload_n C 1 (D (1, .iload_n 1, 1) (mg 1 rfl)) rfl rfl ?_
  refine X_iload_n C 2 (D (2, .iload_n 2, 1) (mg 2 rfl)) rfl rfl ?_
  refine X_cV (As := [.int (nI (c)), .int (nI (S))]) (st := []) C (post := _) (y) (by omega) hsy rfl (ct_X6_fewest hw (y := y) hY (s := s) (by omega) (nI (c)) (S := S) (by omega) h g (hb)) kX6_22 (by decide) (by decide) rfl rfl (Nat.le_of_ble_eq_true rfl) (D (3, .invokevirtual 22, 3) (mg 3 rfl)) rfl (fun v3 H1 G2 hv3 => ?_)
  obtain ⟨⟨y4, rfl⟩, rfl, rfl⟩ := hv3
  show X k w _ 6 [some (.ref (wA w (y))), some (.int (nI (c))), some (.int (nI (S))), none, none, none] [.int (y4)] h g
  refine X_istore_n (ls' := [some (.ref (wA w (y))), some (.int (nI (c))), some (.int (nI (S))), some (.int (y4)), none, none]) C 3 (D (6, .istore_n 3, 1) (mg 4 rfl)) rfl (Nat.le_of_ble_eq_true rfl) rfl ?_
  refine X_iconst (v := nI (0)) C (D (7, .iconst 0, 1) (mg 5 rfl)) (by decide) ?_
  refine X_istore (ls' := [some (.ref (wA w (y))), some (.int (nI (c))), some (.int (nI (S))), some (.int (y4)), some (.int (nI (0))), none]) C (D (8, .istore 4, 2) (mg 6 rfl)) (Nat.le_of_ble_eq_true rfl) rfl ?_
  have lp10 : ∀ (nn10 : Nat) (j : Nat), (j ≤ 4) → 5 - j ≤ nn10 → X k w (Zq k w (pI h g)) 10 [some (.ref (wA w (y))), some (.int (nI (c))), some (.int (nI (S))), some (.int (y4)), some (.int (nI (j))), none] [] h g := by
    intro nn10
    induction nn10 with
    | zero => intro j hc10_0 hz; exact absurd hz (by omega)
    | succ nn10 ih10 =>
      intro j hc10_0 hz10
      refine X_iload C (D (10, .iload 4, 2) (mg 7 rfl)) rfl ?_
      refine X_iconst (v := nI (4)) C (D (12, .iconst 4, 1) (mg 8 rfl)) (by decide) ?_
      refine X_icmp_ge (tgt := 58) C (D (13, .if_icmp .ge 45, 3) (mg 9 rfl)) (by decide) (fun q5 => ?_) (fun q5 => ?_)
      · skip
        have q5 : (j) ≥ (4) := by have z := (nI_leI (a := (4)) (b := (j)) (by omega) (by omega)).mp q5; omega
        refine X_iconst (v := (-1 : Int32)) C (D (58, .iconst (-1), 1) (mg 32 rfl)) (by decide) ?_
        exact X_iret C (D (59, .ireturn, 1) (mg 33 rfl)) ⟨⟨_, rfl⟩, rfl, rfl⟩
      · skip
        have q5 : (j) < (4) := by have z : ¬ ((4) ≤ (j)) := fun u => q5 ((nI_leI (a := (4)) (b := (j)) (by omega) (by omega)).mpr u); omega
        refine X_iload_n C 1 (D (16, .iload_n 1, 1) (mg 10 rfl)) rfl rfl ?_
        refine X_iload C (D (17, .iload 4, 2) (mg 11 rfl)) rfl ?_
        refine X_cN (As := [.int (nI (c)), .int (nI (j))]) (st := []) C (post := _) (ct_X7_beside hw (j := c) (by omega) (nI (j)) h g) kX6_44 (by decide) (by decide) rfl rfl (Nat.le_of_ble_eq_true rfl) (D (19, .invokestatic 44, 3) (mg 12 rfl)) rfl (fun v8 H6 G7 hv8 => ?_)
        obtain ⟨⟨y9, rfl, hy9, ey9⟩, rfl, rfl⟩ := hv8
        show X k w _ 22 [some (.ref (wA w (y))), some (.int (nI (c))), some (.int (nI (S))), some (.int (y4)), some (.int (nI (j))), none] [.int (y9)] h g
        refine X_istore (ls' := [some (.ref (wA w (y))), some (.int (nI (c))), some (.int (nI (S))), some (.int (y4)), some (.int (nI (j))), some (.int (y9))]) C (D (22, .istore 5, 2) (mg 13 rfl)) (Nat.le_of_ble_eq_true rfl) rfl ?_
        refine X_iload C (D (24, .iload 5, 2) (mg 14 rfl)) rfl ?_
        refine X_iconst (v := (-1 : Int32)) C (D (26, .iconst (-1), 1) (mg 15 rfl)) (by decide) ?_
        refine X_icmp_eq (tgt := 52) C (D (27, .if_icmp .eq 25, 3) (mg 16 rfl)) (by decide) (fun q10 => ?_) (fun q10 => ?_)
        · skip
          subst q10
          refine X_iinc (v := nI (j + 1)) (ls' := [some (.ref (wA w (y))), some (.int (nI (c))), some (.int (nI (S))), some (.int (y4)), some (.int (nI (j + 1))), some (.int ((-1 : Int32)))]) C (D (52, .iinc 4 1, 3) (mg 30 rfl)) rfl (nI_add (j) 1) rfl ?_
          refine X_goto (tgt := 10) C (D (55, .goto (-45), 3) (mg 31 rfl)) (by decide) ?_
          refine X_los (ls' := [some (.ref (wA w (y))), some (.int (nI (c))), some (.int (nI (S))), some (.int (y4)), some (.int (nI (j + 1))), none]) (by simp [lsub]) ?_
          refine X_eq (ls' := [some (.ref (wA w (y))), some (.int (nI (c))), some (.int (nI (S))), some (.int (y4)), some (.int (nI (j + 1))), none]) (st' := []) (h' := h) (g' := g) rfl rfl rfl rfl ?_
          exact ih10 (j + 1) (by omega) (by omega)
        · skip
          obtain ⟨c11, hc11, rfl⟩ := hy9.resolve_left q10
          refine X_aload_n C 0 (D (30, .aload_n 0, 1) (mg 17 rfl)) rfl rfl ?_
          refine X_iload C (D (31, .iload 5, 2) (mg 18 rfl)) rfl ?_
          refine X_aload_n C 0 (D (33, .aload_n 0, 1) (mg 19 rfl)) rfl rfl ?_
          refine X_iload_n C 2 (D (34, .iload_n 2, 1) (mg 20 rfl)) rfl rfl ?_
          refine X_iload C (D (35, .iload 5, 2) (mg 21 rfl)) rfl ?_
          refine X_cV (As := [.int (nI (S)), .int (nI (c11))]) (st := [.int (nI (c11)), .ref (wA w (y))]) C (post := _) (y) (by omega) hsy rfl (ct_X6_without hw (y := y) hY (s := s) (by omega) (S := S) (by omega) (nI (c11)) h g (hb)) kX6_26 (by decide) (by decide) rfl rfl (Nat.le_of_ble_eq_true rfl) (D (37, .invokevirtual 26, 3) (mg 22 rfl)) rfl (fun v14 H12 G13 hv14 => ?_)
          obtain ⟨⟨_, rfl, T15, hT15, rfl⟩, rfl, rfl⟩ := hv14
          show X k w _ 40 [some (.ref (wA w (y))), some (.int (nI (c))), some (.int (nI (S))), some (.int (y4)), some (.int (nI (j))), some (.int (nI (c11)))] [.int (nI (T15)), .int (nI (c11)), .ref (wA w (y))] h g
          refine X_cV (As := [.int (nI (c11)), .int (nI (T15))]) (st := []) C (post := _) (y) (by omega) hsy rfl (ct_X6_fewest hw (y := y) hY (s := s) (by omega) (nI (c11)) (S := T15) (by omega) h g (hb)) kX6_22 (by decide) (by decide) rfl rfl (Nat.le_of_ble_eq_true rfl) (D (40, .invokevirtual 22, 3) (mg 23 rfl)) rfl (fun v18 H16 G17 hv18 => ?_)
          obtain ⟨⟨y19, rfl⟩, rfl, rfl⟩ := hv18
          show X k w _ 43 [some (.ref (wA w (y))), some (.int (nI (c))), some (.int (nI (S))), some (.int (y4)), some (.int (nI (j))), some (.int (nI (c11)))] [.int (y19)] h g
          refine X_iload_n C 3 (D (43, .iload_n 3, 1) (mg 24 rfl)) rfl rfl ?_
          refine X_iconst (v := nI (1)) C (D (44, .iconst 1, 1) (mg 25 rfl)) (by decide) ?_
          refine X_isub C (D (45, .isub, 1) (mg 26 rfl)) ?_
          refine X_icmp_ne (tgt := 52) C (D (46, .if_icmp .ne 6, 3) (mg 27 rfl)) (by decide) (fun q20 => ?_) (fun q20 => ?_)
          · skip
            refine X_iinc (v := nI (j + 1)) (ls' := [some (.ref (wA w (y))), some (.int (nI (c))), some (.int (nI (S))), some (.int (y4)), some (.int (nI (j + 1))), some (.int (nI (c11)))]) C (D (52, .iinc 4 1, 3) (mg 30 rfl)) rfl (nI_add (j) 1) rfl ?_
            refine X_goto (tgt := 10) C (D (55, .goto (-45), 3) (mg 31 rfl)) (by decide) ?_
            refine X_los (ls' := [some (.ref (wA w (y))), some (.int (nI (c))), some (.int (nI (S))), some (.int (y4)), some (.int (nI (j + 1))), none]) (by simp [lsub]) ?_
            refine X_eq (ls' := [some (.ref (wA w (y))), some (.int (nI (c))), some (.int (nI (S))), some (.int (y4)), some (.int (nI (j + 1))), none]) (st' := []) (h' := h) (g' := g) rfl rfl rfl rfl ?_
            exact ih10 (j + 1) (by omega) (by omega)
          · skip
            refine X_iload C (D (49, .iload 4, 2) (mg 28 rfl)) rfl ?_
            exact X_iret C (D (51, .ireturn, 1) (mg 29 rfl)) ⟨⟨_, rfl⟩, rfl, rfl⟩
  refine X_eq (ls' := [some (.ref (wA w (y))), some (.int (nI (c))), some (.int (nI (S))), some (.int (y4)), some (.int (nI (0))), none]) (st' := []) (h' := h) (g' := g) rfl rfl rfl rfl ?_
  exact lp10 _ (0) (by omega) (Nat.le_refl _)
set_option maxHeartbeats 4000000 in
set_option maxRecDepth 100000 in
theorem ct_X6_stepFrom {l : Launch} {w : Kw} (hw : wOk w) {y : Nat} (hY : shY w y) {s : Nat} (hs : s ≤ 5) {c : Nat} (hc : c < 25) (x : Int32) (h : xI) (g : xJ) (hb : h y 2 = nI s) : Ct l w yX6_stepFrom cX6_stepFrom 8 (some .int) 4 92 [.ref (wA w (y)), .int (nI (c)), .int (x)] h g (pI h g) := by
  refine Ct_of (ls := [some (.ref (wA w (y))), some (.int (nI (c))), some (.int (x)), none, none, none, none, none]) (by decide) hw (Nat.le_of_ble_eq_true rfl) rfl (fun k hkl C => ?_)
  have C : Cx k w cX6_stepFrom RX6 8 (some .int) 4 92 := C
  have D := dtX6_stepFrom
  subst hkl
  have hY0 := hY
  obtain ⟨hyn, hsy, hy1, hy2⟩ := hY
  have hY := hY0
  have hp2 := p2_e s (by omega)
  refine X_iload_n C 1 (D (0, .iload_n 1, 1) (mg 0 rfl)) rfl rfl ?_
  refine X_istore_n (ls' := [some (.ref (wA w (y))), some (.int (nI (c))), some (.int (x)), some (.int (nI (c))), none, none, none, none]) C 3 (D (1, .istore_n 3, 1) (mg 1 rfl)) rfl (Nat.le_of_ble_eq_true rfl) rfl ?_
  refine X_aload_n C 0 (D (2, .aload_n 0, 1) (mg 2 rfl)) rfl rfl ?_
  refine X_iconst (v := nI (1)) C (D (3, .iconst 1, 1) (mg 3 rfl)) (by decide) ?_
  refine X_aload_n C 0 (D (4, .aload_n 0, 1) (mg 4 rfl)) rfl rfl ?_
  refine X_get (v := .int (h (y) 2)) C (y) 2 (by omega) hsy rfl rfl (by decide) inX6 fX6_18 rfl (D (5, .getfield 18, 3) (mg 5 rfl)) rfl ?_
  refine X_ti (y := nI (s)) (hb) ?_
  refine X_ishl C (D (8, .ishl, 1) (mg 6 rfl)) ?_
  refine X_ti (y := nI (p2 (s))) (p2_e _ (by omega)).2.2 ?_
  refine X_iconst (v := nI (1)) C (D (9, .iconst 1, 1) (mg 7 rfl)) (by decide) ?_
  refine X_isub C (D (10, .isub, 1) (mg 8 rfl)) ?_
  refine X_ti (y := nI (p2 (s) - 1)) (pk_sub (by omega)) ?_
  refine X_iload_n C 1 (D (11, .iload_n 1, 1) (mg 9 rfl)) rfl rfl ?_
  refine X_cV (As := [.int (nI (p2 (s) - 1)), .int (nI (c))]) (st := []) C (post := _) (y) (by omega) hsy rfl (ct_X6_without hw (y := y) hY (s := s) (by omega) (S := p2 (s) - 1) (by omega) (nI (c)) h g (hb)) kX6_26 (by decide) (by decide) rfl rfl (Nat.le_of_ble_eq_true rfl) (D (12, .invokevirtual 26, 3) (mg 10 rfl)) rfl (fun v3 H1 G2 hv3 => ?_)
  obtain ⟨⟨_, rfl, T4, hT4, rfl⟩, rfl, rfl⟩ := hv3
  show X k w _ 15 [some (.ref (wA w (y))), some (.int (nI (c))), some (.int (x)), some (.int (nI (c))), none, none, none, none] [.int (nI (T4))] h g
  refine X_istore (ls' := [some (.ref (wA w (y))), some (.int (nI (c))), some (.int (x)), some (.int (nI (c))), some (.int (nI (T4))), none, none, none]) C (D (15, .istore 4, 2) (mg 11 rfl)) (Nat.le_of_ble_eq_true rfl) rfl ?_
  refine X_iconst (v := (-1 : Int32)) C (D (17, .iconst (-1), 1) (mg 12 rfl)) (by decide) ?_
  refine X_istore (ls' := [some (.ref (wA w (y))), some (.int (nI (c))), some (.int (x)), some (.int (nI (c))), some (.int (nI (T4))), some (.int ((-1 : Int32))), none, none]) C (D (18, .istore 5, 2) (mg 13 rfl)) (Nat.le_of_ble_eq_true rfl) rfl ?_
  refine X_iconst (v := nI (0)) C (D (20, .iconst 0, 1) (mg 14 rfl)) (by decide) ?_
  refine X_istore (ls' := [some (.ref (wA w (y))), some (.int (nI (c))), some (.int (x)), some (.int (nI (c))), some (.int (nI (T4))), some (.int ((-1 : Int32))), some (.int (nI (0))), none]) C (D (21, .istore 6, 2) (mg 15 rfl)) (Nat.le_of_ble_eq_true rfl) rfl ?_
  have lp23 : ∀ (nn23 : Nat) (c1 : Nat) (T1 : Nat) (j : Nat) (z5 : Int32), (c1 < 25) → (T1 < 32) → (j ≤ 1000) → 1001 - j ≤ nn23 → X k w (Zq k w (pI h g)) 23 [some (.ref (wA w (y))), some (.int (nI (c))), some (.int (x)), some (.int (nI (c1))), some (.int (nI (T1))), some (.int (z5)), some (.int (nI (j))), none] [] h g := by
    intro nn23
    induction nn23 with
    | zero => intro c1 T1 j z5 hc23_0 hc23_1 hc23_2 hz; exact absurd hz (by omega)
    | succ nn23 ih23 =>
      intro c1 T1 j z5 hc23_0 hc23_1 hc23_2 hz23
      refine X_iload C (D (23, .iload 6, 2) (mg 16 rfl)) rfl ?_
      refine X_iload_n C 2 (D (25, .iload_n 2, 1) (mg 17 rfl)) rfl rfl ?_
      refine X_icmp_gt (tgt := 90) C (D (26, .if_icmp .gt 64, 3) (mg 18 rfl)) (by decide) (fun q5 => ?_) (fun q5 => ?_)
      · skip
        refine X_iload C (D (90, .iload 5, 2) (mg 50 rfl)) rfl ?_
        exact X_iret C (D (92, .ireturn, 1) (mg 51 rfl)) ⟨⟨_, rfl⟩, rfl, rfl⟩
      · skip
        refine X_iload C (D (29, .iload 6, 2) (mg 19 rfl)) rfl ?_
        refine X_sipush (v := nI (1000)) C (D (31, .sipush 1000, 3) (mg 20 rfl)) (by decide) ?_
        refine X_icmp_ge (tgt := 90) C (D (34, .if_icmp .ge 56, 3) (mg 21 rfl)) (by decide) (fun q6 => ?_) (fun q6 => ?_)
        · skip
          have q6 : (j) ≥ (1000) := by have z := (nI_leI (a := (1000)) (b := (j)) (by omega) (by omega)).mp q6; omega
          refine X_iload C (D (90, .iload 5, 2) (mg 50 rfl)) rfl ?_
          exact X_iret C (D (92, .ireturn, 1) (mg 51 rfl)) ⟨⟨_, rfl⟩, rfl, rfl⟩
        · skip
          have q6 : (j) < (1000) := by have z : ¬ ((1000) ≤ (j)) := fun u => q6 ((nI_leI (a := (1000)) (b := (j)) (by omega) (by omega)).mpr u); omega
          refine X_aload_n C 0 (D (37, .aload_n 0, 1) (mg 22 rfl)) rfl rfl ?_
          refine X_iload_n C 3 (D (38, .iload_n 3, 1) (mg 23 rfl)) rfl rfl ?_
          refine X_iload C (D (39, .iload 4, 2) (mg 24 rfl)) rfl ?_
          refine X_cV (As := [.int (nI (c1)), .int (nI (T1))]) (st := []) C (post := _) (y) (by omega) hsy rfl (ct_X6_firstStep hw (y := y) hY (s := s) (by omega) (c := c1) (by omega) (S := T1) (by omega) h g (hb)) kX6_41 (by decide) (by decide) rfl rfl (Nat.le_of_ble_eq_true rfl) (D (41, .invokevirtual 41, 3) (mg 25 rfl)) rfl (fun v9 H7 G8 hv9 => ?_)
          obtain ⟨⟨y10, rfl⟩, rfl, rfl⟩ := hv9
          show X k w _ 44 [some (.ref (wA w (y))), some (.int (nI (c))), some (.int (x)), some (.int (nI (c1))), some (.int (nI (T1))), some (.int (z5)), some (.int (nI (j))), none] [.int (y10)] h g
          refine X_istore (ls' := [some (.ref (wA w (y))), some (.int (nI (c))), some (.int (x)), some (.int (nI (c1))), some (.int (nI (T1))), some (.int (y10)), some (.int (nI (j))), none]) C (D (44, .istore 5, 2) (mg 26 rfl)) (Nat.le_of_ble_eq_true rfl) rfl ?_
          refine X_iload C (D (46, .iload 5, 2) (mg 27 rfl)) rfl ?_
          refine X_iconst (v := (-1 : Int32)) C (D (48, .iconst (-1), 1) (mg 28 rfl)) (by decide) ?_
          refine X_icmp_ne (tgt := 56) C (D (49, .if_icmp .ne 7, 3) (mg 29 rfl)) (by decide) (fun q11 => ?_) (fun q11 => ?_)
          · skip
            refine X_iload_n C 3 (D (56, .iload_n 3, 1) (mg 32 rfl)) rfl rfl ?_
            refine X_iload C (D (57, .iload 5, 2) (mg 33 rfl)) rfl ?_
            refine X_cN (As := [.int (nI (c1)), .int (y10)]) (st := []) C (post := _) (ct_X7_beside hw (j := c1) (by omega) (y10) h g) kX6_44 (by decide) (by decide) rfl rfl (Nat.le_of_ble_eq_true rfl) (D (59, .invokestatic 44, 3) (mg 34 rfl)) rfl (fun v14 H12 G13 hv14 => ?_)
            obtain ⟨⟨y15, rfl, hy15, ey15⟩, rfl, rfl⟩ := hv14
            show X k w _ 62 [some (.ref (wA w (y))), some (.int (nI (c))), some (.int (x)), some (.int (nI (c1))), some (.int (nI (T1))), some (.int (y10)), some (.int (nI (j))), none] [.int (y15)] h g
            refine X_istore (ls' := [some (.ref (wA w (y))), some (.int (nI (c))), some (.int (x)), some (.int (nI (c1))), some (.int (nI (T1))), some (.int (y10)), some (.int (nI (j))), some (.int (y15))]) C (D (62, .istore 7, 2) (mg 35 rfl)) (Nat.le_of_ble_eq_true rfl) rfl ?_
            refine X_iload C (D (64, .iload 7, 2) (mg 36 rfl)) rfl ?_
            refine X_iconst (v := (-1 : Int32)) C (D (66, .iconst (-1), 1) (mg 37 rfl)) (by decide) ?_
            refine X_icmp_ne (tgt := 72) C (D (67, .if_icmp .ne 5, 3) (mg 38 rfl)) (by decide) (fun q16 => ?_) (fun q16 => ?_)
            · skip
              obtain ⟨c17, hc17, rfl⟩ := hy15.resolve_left q16
              refine X_iload C (D (72, .iload 7, 2) (mg 41 rfl)) rfl ?_
              refine X_istore_n (ls' := [some (.ref (wA w (y))), some (.int (nI (c))), some (.int (x)), some (.int (nI (c17))), some (.int (nI (T1))), some (.int (y10)), some (.int (nI (j))), some (.int (nI (c17)))]) C 3 (D (74, .istore_n 3, 1) (mg 42 rfl)) rfl (Nat.le_of_ble_eq_true rfl) rfl ?_
              refine X_aload_n C 0 (D (75, .aload_n 0, 1) (mg 43 rfl)) rfl rfl ?_
              refine X_iload C (D (76, .iload 4, 2) (mg 44 rfl)) rfl ?_
              refine X_iload_n C 3 (D (78, .iload_n 3, 1) (mg 45 rfl)) rfl rfl ?_
              refine X_cV (As := [.int (nI (T1)), .int (nI (c17))]) (st := []) C (post := _) (y) (by omega) hsy rfl (ct_X6_without hw (y := y) hY (s := s) (by omega) (S := T1) (by omega) (nI (c17)) h g (hb)) kX6_26 (by decide) (by decide) rfl rfl (Nat.le_of_ble_eq_true rfl) (D (79, .invokevirtual 26, 3) (mg 46 rfl)) rfl (fun v20 H18 G19 hv20 => ?_)
              obtain ⟨⟨_, rfl, T21, hT21, rfl⟩, rfl, rfl⟩ := hv20
              show X k w _ 82 [some (.ref (wA w (y))), some (.int (nI (c))), some (.int (x)), some (.int (nI (c17))), some (.int (nI (T1))), some (.int (y10)), some (.int (nI (j))), some (.int (nI (c17)))] [.int (nI (T21))] h g
              refine X_istore (ls' := [some (.ref (wA w (y))), some (.int (nI (c))), some (.int (x)), some (.int (nI (c17))), some (.int (nI (T21))), some (.int (y10)), some (.int (nI (j))), some (.int (nI (c17)))]) C (D (82, .istore 4, 2) (mg 47 rfl)) (Nat.le_of_ble_eq_true rfl) rfl ?_
              refine X_iinc (v := nI (j + 1)) (ls' := [some (.ref (wA w (y))), some (.int (nI (c))), some (.int (x)), some (.int (nI (c17))), some (.int (nI (T21))), some (.int (y10)), some (.int (nI (j + 1))), some (.int (nI (c17)))]) C (D (84, .iinc 6 1, 3) (mg 48 rfl)) rfl (nI_add (j) 1) rfl ?_
              refine X_goto (tgt := 23) C (D (87, .goto (-64), 3) (mg 49 rfl)) (by decide) ?_
              refine X_los (ls' := [some (.ref (wA w (y))), some (.int (nI (c))), some (.int (x)), some (.int (nI (c17))), some (.int (nI (T21))), some (.int (y10)), some (.int (nI (j + 1))), none]) (by simp [lsub]) ?_
              refine X_eq (ls' := [some (.ref (wA w (y))), some (.int (nI (c))), some (.int (x)), some (.int (nI (c17))), some (.int (nI (T21))), some (.int (y10)), some (.int (nI (j + 1))), none]) (st' := []) (h' := h) (g' := g) rfl rfl rfl rfl ?_
              exact ih23 (c17) (T21) (j + 1) (y10) (by omega) (by omega) (by omega) (by omega)
            · skip
              subst q16
              refine X_iconst (v := (-1 : Int32)) C (D (70, .iconst (-1), 1) (mg 39 rfl)) (by decide) ?_
              exact X_iret C (D (71, .ireturn, 1) (mg 40 rfl)) ⟨⟨_, rfl⟩, rfl, rfl⟩
          · skip
            refine X_iconst (v := (-1 : Int32)) C (D (52, .iconst (-1), 1) (mg 30 rfl)) (by decide) ?_
            refine X_goto (tgt := 62) C (D (53, .goto 9, 3) (mg 31 rfl)) (by decide) ?_
            refine X_istore (ls' := [some (.ref (wA w (y))), some (.int (nI (c))), some (.int (x)), some (.int (nI (c1))), some (.int (nI (T1))), some (.int (y10)), some (.int (nI (j))), some (.int ((-1 : Int32)))]) C (D (62, .istore 7, 2) (mg 35 rfl)) (Nat.le_of_ble_eq_true rfl) rfl ?_
            refine X_iload C (D (64, .iload 7, 2) (mg 36 rfl)) rfl ?_
            refine X_iconst (v := (-1 : Int32)) C (D (66, .iconst (-1), 1) (mg 37 rfl)) (by decide) ?_
            refine X_icmp_ne (tgt := 72) C (D (67, .if_icmp .ne 5, 3) (mg 38 rfl)) (by decide) (fun q22 => ?_) (fun q22 => ?_)
            · skip
              exact absurd q22 (by decide)
            · skip
              refine X_iconst (v := (-1 : Int32)) C (D (70, .iconst (-1), 1) (mg 39 rfl)) (by decide) ?_
              exact X_iret C (D (71, .ireturn, 1) (mg 40 rfl)) ⟨⟨_, rfl⟩, rfl, rfl⟩
  refine X_eq (ls' := [some (.ref (wA w (y))), some (.int (nI (c))), some (.int (x)), some (.int (nI (c))), some (.int (nI (T4))), some (.int ((-1 : Int32))), some (.int (nI (0))), none]) (st' := []) (h' := h) (g' := g) rfl rfl rfl rfl ?_
  exact lp23 _ (c) (T4) (0) ((-1 : Int32)) (by omega) (by omega) (by omega) (Nat.le_refl _)
set_option maxHeartbeats 4000000 in
set_option maxRecDepth 100000 in
theorem ct_X6_prepare {l : Launch} {w : Kw} (hw : wOk w) {y : Nat} (hY : shY w y) (x : Int32) (h : xI) (g : xJ)  : Ct l w yX6_prepare cX6_prepare 4 none 3 67 [.ref (wA w (y)), .int (x)] h g (pQv (fun h' => (∀ q i, q ≠ y → q ≠ y + 1 → q ≠ y + 2 → h' q i = h q i) ∧ ∃ s, s ≤ 5 ∧ h' y 2 = nI s)) := by
  refine Ct_of (ls := [some (.ref (wA w (y))), some (.int (x)), none, none]) (by decide) hw (Nat.le_of_ble_eq_true rfl) rfl (fun k hkl C => ?_)
  have C : Cx k w cX6_prepare RX6 4 none 3 67 := C
  have D := dtX6_prepare
  subst hkl
  have hY0 := hY
  obtain ⟨hyn, hsy, hy1, hy2⟩ := hY
  have hY := hY0
  refine X_aload_n C 0 (D (0, .aload_n 0, 1) (mg 0 rfl)) rfl rfl ?_
  refine X_iconst (v := nI (0)) C (D (1, .iconst 0, 1) (mg 1 rfl)) (by decide) ?_
  refine X_putI C (y) 2 tyX6 tyX6_ok nmX6 (by omega) hsy rfl rfl (by decide) inX6 fX6_18 rfl rfl (by decide +kernel) (D (2, .putfield 18, 3) (mg 2 rfl)) ?_
  refine X_iconst (v := nI (0)) C (D (5, .iconst 0, 1) (mg 3 rfl)) (by decide) ?_
  refine X_istore_n (ls' := [some (.ref (wA w (y))), some (.int (x)), some (.int (nI (0))), none]) C 2 (D (6, .istore_n 2, 1) (mg 4 rfl)) rfl (Nat.le_of_ble_eq_true rfl) rfl ?_
  have lp7 : ∀ (nn7 : Nat) (s1 : Nat) (j : Nat) (h1_ : xI), (s1 ≤ 5) → (j ≤ 25) → (h1_ y 2 = nI s1) → (∀ q i, q ≠ y → q ≠ y + 1 → q ≠ y + 2 → h1_ q i = h q i) → 26 - j ≤ nn7 → X k w (Zq k w (pQv (fun h' => (∀ q i, q ≠ y → q ≠ y + 1 → q ≠ y + 2 → h' q i = h q i) ∧ ∃ s, s ≤ 5 ∧ h' y 2 = nI s))) 7 [some (.ref (wA w (y))), some (.int (x)), some (.int (nI (j))), none] [] h1_ g := by
    intro nn7
    induction nn7 with
    | zero => intro s1 j h1_ hc7_0 hc7_1 hc7_2 hc7_3 hz; exact absurd hz (by omega)
    | succ nn7 ih7 =>
      intro s1 j h1_ hc7_0 hc7_1 hc7_2 hc7_3 hz7
      refine X_iload_n C 2 (D (7, .iload_n 2, 1) (mg 5 rfl)) rfl rfl ?_
      refine X_bipush (v := nI (25)) C (D (8, .bipush 25, 2) (mg 6 rfl)) (by decide) ?_
      refine X_icmp_ge (tgt := 56) C (D (10, .if_icmp .ge 46, 3) (mg 7 rfl)) (by decide) (fun q1 => ?_) (fun q1 => ?_)
      · skip
        have q1 : (j) ≥ (25) := by have z := (nI_leI (a := (25)) (b := (j)) (by omega) (by omega)).mp q1; omega
        refine X_iconst (v := nI (0)) C (D (56, .iconst 0, 1) (mg 33 rfl)) (by decide) ?_
        refine X_istore_n (ls' := [some (.ref (wA w (y))), some (.int (x)), some (.int (nI (0))), none]) C 2 (D (57, .istore_n 2, 1) (mg 34 rfl)) rfl (Nat.le_of_ble_eq_true rfl) rfl ?_
        have lp58 : ∀ (nn58 : Nat) (e : Nat) (h2_ : xI), (e ≤ p2 s1) → (h2_ y 2 = nI s1) → (∀ q i, q ≠ y → q ≠ y + 1 → q ≠ y + 2 → h2_ q i = h q i) → p2 s1 + 1 - e ≤ nn58 → X k w (Zq k w (pQv (fun h' => (∀ q i, q ≠ y → q ≠ y + 1 → q ≠ y + 2 → h' q i = h q i) ∧ ∃ s, s ≤ 5 ∧ h' y 2 = nI s))) 58 [some (.ref (wA w (y))), some (.int (x)), some (.int (nI (e))), none] [] h2_ g := by
          intro nn58
          induction nn58 with
          | zero => intro e h2_ hc58_0 hc58_1 hc58_2 hz; exact absurd hz (by omega)
          | succ nn58 ih58 =>
            intro e h2_ hc58_0 hc58_1 hc58_2 hz58
            have hp2 := p2_e s1 (by omega)
            refine X_iload_n C 2 (D (58, .iload_n 2, 1) (mg 35 rfl)) rfl rfl ?_
            refine X_iconst (v := nI (1)) C (D (59, .iconst 1, 1) (mg 36 rfl)) (by decide) ?_
            refine X_aload_n C 0 (D (60, .aload_n 0, 1) (mg 37 rfl)) rfl rfl ?_
            refine X_get (v := .int (h2_ (y) 2)) C (y) 2 (by omega) hsy rfl rfl (by decide) inX6 fX6_18 rfl (D (61, .getfield 18, 3) (mg 38 rfl)) rfl ?_
            refine X_ti (y := nI (s1)) (hc58_1) ?_
            refine X_ishl C (D (64, .ishl, 1) (mg 39 rfl)) ?_
            refine X_ti (y := nI (p2 (s1))) (p2_e _ (by omega)).2.2 ?_
            refine X_icmp_ge (tgt := 111) C (D (65, .if_icmp .ge 46, 3) (mg 40 rfl)) (by decide) (fun q2 => ?_) (fun q2 => ?_)
            · skip
              have q2 : (e) ≥ (p2 (s1)) := by have z := (nI_leI (a := (p2 (s1))) (b := (e)) (by omega) (by omega)).mp q2; omega
              exact X_vret C (D (111, .return_, 1) (mg 66 rfl)) ⟨rfl, hc58_2, s1, by omega, hc58_1⟩
            · skip
              have q2 : (e) < (p2 (s1)) := by have z : ¬ ((p2 (s1)) ≤ (e)) := fun u => q2 ((nI_leI (a := (p2 (s1))) (b := (e)) (by omega) (by omega)).mpr u); omega
              refine X_iconst (v := nI (0)) C (D (68, .iconst 0, 1) (mg 41 rfl)) (by decide) ?_
              refine X_istore_n (ls' := [some (.ref (wA w (y))), some (.int (x)), some (.int (nI (e))), some (.int (nI (0)))]) C 3 (D (69, .istore_n 3, 1) (mg 42 rfl)) rfl (Nat.le_of_ble_eq_true rfl) rfl ?_
              have lp70 : ∀ (nn70 : Nat) (i3 : Nat) (h3_ : xI), (i3 ≤ s1) → (h3_ y 2 = nI s1) → (∀ q i, q ≠ y → q ≠ y + 1 → q ≠ y + 2 → h3_ q i = h q i) → 6 - i3 ≤ nn70 → X k w (Zq k w (pQv (fun h' => (∀ q i, q ≠ y → q ≠ y + 1 → q ≠ y + 2 → h' q i = h q i) ∧ ∃ s, s ≤ 5 ∧ h' y 2 = nI s))) 70 [some (.ref (wA w (y))), some (.int (x)), some (.int (nI (e))), some (.int (nI (i3)))] [] h3_ g := by
                intro nn70
                induction nn70 with
                | zero => intro i3 h3_ hc70_0 hc70_1 hc70_2 hz; exact absurd hz (by omega)
                | succ nn70 ih70 =>
                  intro i3 h3_ hc70_0 hc70_1 hc70_2 hz70
                  refine X_iload_n C 3 (D (70, .iload_n 3, 1) (mg 43 rfl)) rfl rfl ?_
                  refine X_aload_n C 0 (D (71, .aload_n 0, 1) (mg 44 rfl)) rfl rfl ?_
                  refine X_get (v := .int (h3_ (y) 2)) C (y) 2 (by omega) hsy rfl rfl (by decide) inX6 fX6_18 rfl (D (72, .getfield 18, 3) (mg 45 rfl)) rfl ?_
                  refine X_ti (y := nI (s1)) (hc70_1) ?_
                  refine X_icmp_ge (tgt := 105) C (D (75, .if_icmp .ge 30, 3) (mg 46 rfl)) (by decide) (fun q3 => ?_) (fun q3 => ?_)
                  · skip
                    have q3 : (i3) ≥ (s1) := by have z := (nI_leI (a := (s1)) (b := (i3)) (by omega) (by omega)).mp q3; omega
                    refine X_iinc (v := nI (e + 1)) (ls' := [some (.ref (wA w (y))), some (.int (x)), some (.int (nI (e + 1))), some (.int (nI (i3)))]) C (D (105, .iinc 2 1, 3) (mg 64 rfl)) rfl (nI_add (e) 1) rfl ?_
                    refine X_goto (tgt := 58) C (D (108, .goto (-50), 3) (mg 65 rfl)) (by decide) ?_
                    refine X_los (ls' := [some (.ref (wA w (y))), some (.int (x)), some (.int (nI (e + 1))), none]) (by simp [lsub]) ?_
                    refine X_eq (ls' := [some (.ref (wA w (y))), some (.int (x)), some (.int (nI (e + 1))), none]) (st' := []) (h' := h3_) (g' := g) rfl rfl rfl rfl ?_
                    exact ih58 (e + 1) (h3_) (by omega) (hc70_1) (fun q i z1 z2 z3 => by skip; exact hc70_2 q i z1 z2 z3) (by omega)
                  · skip
                    have q3 : (i3) < (s1) := by have z : ¬ ((s1) ≤ (i3)) := fun u => q3 ((nI_leI (a := (s1)) (b := (i3)) (by omega) (by omega)).mpr u); omega
                    refine X_aload_n C 0 (D (78, .aload_n 0, 1) (mg 47 rfl)) rfl rfl ?_
                    refine X_get (v := .ref (wA w (y + 2))) C (y) 1 (by omega) hsy rfl rfl (by decide) inX6 fX6_15 rfl (D (79, .getfield 15, 3) (mg 48 rfl)) rfl ?_
                    refine X_iload_n C 2 (D (82, .iload_n 2, 1) (mg 49 rfl)) rfl rfl ?_
                    refine X_iconst (v := nI (5)) C (D (83, .iconst 5, 1) (mg 50 rfl)) (by decide) ?_
                    refine X_imul C (D (84, .imul, 1) (mg 51 rfl)) ?_
                    refine X_ti (y := nI ((e) * (5))) (pk_mul (e) (5)) ?_
                    refine X_iload_n C 3 (D (85, .iload_n 3, 1) (mg 52 rfl)) rfl rfl ?_
                    refine X_iadd C (D (86, .iadd, 1) (mg 53 rfl)) ?_
                    refine X_ti (y := nI ((e) * (5) + i3)) (nI_add ((e) * (5)) (i3)) ?_
                    refine X_aload_n C 0 (D (87, .aload_n 0, 1) (mg 54 rfl)) rfl rfl ?_
                    refine X_aload_n C 0 (D (88, .aload_n 0, 1) (mg 55 rfl)) rfl rfl ?_
                    refine X_get (v := .ref (wA w (y + 1))) C (y) 0 (by omega) hsy rfl rfl (by decide) inX6 fX6_9 rfl (D (89, .getfield 9, 3) (mg 56 rfl)) rfl ?_
                    refine X_iload_n C 3 (D (92, .iload_n 3, 1) (mg 57 rfl)) rfl rfl ?_
                    refine X_iald (v := h3_ (y + 1) (i3)) C (y + 1) (by omega) hy1 (vp_in_nI (by omega) (by omega)) (D (93, .iaload, 1) (mg 58 rfl)) (by rw [nI_clamp (by omega)]) ?_
                    refine X_iload_n C 2 (D (94, .iload_n 2, 1) (mg 59 rfl)) rfl rfl ?_
                    refine X_cV (As := [.int (h3_ (y + 1) (i3)), .int (nI (e))]) (st := [.int (nI ((e) * (5) + i3)), .ref (wA w (y + 2))]) C (post := _) (y) (by omega) hsy rfl (ct_X6_fewest hw (y := y) hY (s := s1) (by omega) (h3_ (y + 1) (i3)) (S := e) (by omega) h3_ g (hc70_1)) kX6_22 (by decide) (by decide) rfl rfl (Nat.le_of_ble_eq_true rfl) (D (95, .invokevirtual 22, 3) (mg 60 rfl)) rfl (fun v6 H4 G5 hv6 => ?_)
                    obtain ⟨⟨y7, rfl⟩, rfl, rfl⟩ := hv6
                    show X k w _ 98 [some (.ref (wA w (y))), some (.int (x)), some (.int (nI (e))), some (.int (nI (i3)))] [.int (y7), .int (nI ((e) * (5) + i3)), .ref (wA w (y + 2))] h3_ g
                    refine X_iast (j := (e) * (5) + i3) C (y + 2) (by omega) hy2 (vp_in_nI (by omega) (by omega)) (D (98, .iastore, 1) (mg 61 rfl)) (nI_clamp (by omega)) ?_
                    refine X_iinc (v := nI (i3 + 1)) (ls' := [some (.ref (wA w (y))), some (.int (x)), some (.int (nI (e))), some (.int (nI (i3 + 1)))]) C (D (99, .iinc 3 1, 3) (mg 62 rfl)) rfl (nI_add (i3) 1) rfl ?_
                    refine X_goto (tgt := 70) C (D (102, .goto (-32), 3) (mg 63 rfl)) (by decide) ?_
                    refine X_eq (ls' := [some (.ref (wA w (y))), some (.int (x)), some (.int (nI (e))), some (.int (nI (i3 + 1)))]) (st' := []) (h' := (u2 h3_ (y + 2) ((e) * (5) + i3) (y7))) (g' := g) rfl rfl rfl rfl ?_
                    exact ih70 (i3 + 1) ((u2 h3_ (y + 2) ((e) * (5) + i3) (y7))) (by omega) (((u2_p _ _ _ _ (by omega))).trans hc70_1) (fun q i z1 z2 z3 => by rw [u2_ne _ _ _ _ (by omega)]; exact hc70_2 q i z1 z2 z3) (by omega)
              refine X_eq (ls' := [some (.ref (wA w (y))), some (.int (x)), some (.int (nI (e))), some (.int (nI (0)))]) (st' := []) (h' := h2_) (g' := g) rfl rfl rfl rfl ?_
              exact lp70 _ (0) (h2_) (by omega) (hc58_1) (fun q i z1 z2 z3 => by skip; exact hc58_2 q i z1 z2 z3) (Nat.le_refl _)
        refine X_eq (ls' := [some (.ref (wA w (y))), some (.int (x)), some (.int (nI (0))), none]) (st' := []) (h' := h1_) (g' := g) rfl rfl rfl rfl ?_
        exact lp58 _ (0) (h1_) (by omega) (hc7_2) (fun q i z1 z2 z3 => by skip; exact hc7_3 q i z1 z2 z3) (Nat.le_refl _)
      · skip
        have q1 : (j) < (25) := by have z : ¬ ((25) ≤ (j)) := fun u => q1 ((nI_leI (a := (25)) (b := (j)) (by omega) (by omega)).mpr u); omega
        refine X_aload_n C 0 (D (13, .aload_n 0, 1) (mg 8 rfl)) rfl rfl ?_
        refine X_get (v := .int (h1_ (y) 2)) C (y) 2 (by omega) hsy rfl rfl (by decide) inX6 fX6_18 rfl (D (14, .getfield 18, 3) (mg 9 rfl)) rfl ?_
        refine X_ti (y := nI (s1)) (hc7_2) ?_
        refine X_iconst (v := nI (5)) C (D (17, .iconst 5, 1) (mg 10 rfl)) (by decide) ?_
        refine X_icmp_ge (tgt := 56) C (D (18, .if_icmp .ge 38, 3) (mg 11 rfl)) (by decide) (fun q8 => ?_) (fun q8 => ?_)
        · skip
          have q8 : (s1) ≥ (5) := by have z := (nI_leI (a := (5)) (b := (s1)) (by omega) (by omega)).mp q8; omega
          refine X_iconst (v := nI (0)) C (D (56, .iconst 0, 1) (mg 33 rfl)) (by decide) ?_
          refine X_istore_n (ls' := [some (.ref (wA w (y))), some (.int (x)), some (.int (nI (0))), none]) C 2 (D (57, .istore_n 2, 1) (mg 34 rfl)) rfl (Nat.le_of_ble_eq_true rfl) rfl ?_
          have lp58 : ∀ (nn58 : Nat) (e : Nat) (h2_ : xI), (e ≤ p2 s1) → (h2_ y 2 = nI s1) → (∀ q i, q ≠ y → q ≠ y + 1 → q ≠ y + 2 → h2_ q i = h q i) → p2 s1 + 1 - e ≤ nn58 → X k w (Zq k w (pQv (fun h' => (∀ q i, q ≠ y → q ≠ y + 1 → q ≠ y + 2 → h' q i = h q i) ∧ ∃ s, s ≤ 5 ∧ h' y 2 = nI s))) 58 [some (.ref (wA w (y))), some (.int (x)), some (.int (nI (e))), none] [] h2_ g := by
            intro nn58
            induction nn58 with
            | zero => intro e h2_ hc58_0 hc58_1 hc58_2 hz; exact absurd hz (by omega)
            | succ nn58 ih58 =>
              intro e h2_ hc58_0 hc58_1 hc58_2 hz58
              have hp2 := p2_e s1 (by omega)
              refine X_iload_n C 2 (D (58, .iload_n 2, 1) (mg 35 rfl)) rfl rfl ?_
              refine X_iconst (v := nI (1)) C (D (59, .iconst 1, 1) (mg 36 rfl)) (by decide) ?_
              refine X_aload_n C 0 (D (60, .aload_n 0, 1) (mg 37 rfl)) rfl rfl ?_
              refine X_get (v := .int (h2_ (y) 2)) C (y) 2 (by omega) hsy rfl rfl (by decide) inX6 fX6_18 rfl (D (61, .getfield 18, 3) (mg 38 rfl)) rfl ?_
              refine X_ti (y := nI (s1)) (hc58_1) ?_
              refine X_ishl C (D (64, .ishl, 1) (mg 39 rfl)) ?_
              refine X_ti (y := nI (p2 (s1))) (p2_e _ (by omega)).2.2 ?_
              refine X_icmp_ge (tgt := 111) C (D (65, .if_icmp .ge 46, 3) (mg 40 rfl)) (by decide) (fun q9 => ?_) (fun q9 => ?_)
              · skip
                have q9 : (e) ≥ (p2 (s1)) := by have z := (nI_leI (a := (p2 (s1))) (b := (e)) (by omega) (by omega)).mp q9; omega
                exact X_vret C (D (111, .return_, 1) (mg 66 rfl)) ⟨rfl, hc58_2, s1, by omega, hc58_1⟩
              · skip
                have q9 : (e) < (p2 (s1)) := by have z : ¬ ((p2 (s1)) ≤ (e)) := fun u => q9 ((nI_leI (a := (p2 (s1))) (b := (e)) (by omega) (by omega)).mpr u); omega
                refine X_iconst (v := nI (0)) C (D (68, .iconst 0, 1) (mg 41 rfl)) (by decide) ?_
                refine X_istore_n (ls' := [some (.ref (wA w (y))), some (.int (x)), some (.int (nI (e))), some (.int (nI (0)))]) C 3 (D (69, .istore_n 3, 1) (mg 42 rfl)) rfl (Nat.le_of_ble_eq_true rfl) rfl ?_
                have lp70 : ∀ (nn70 : Nat) (i3 : Nat) (h3_ : xI), (i3 ≤ s1) → (h3_ y 2 = nI s1) → (∀ q i, q ≠ y → q ≠ y + 1 → q ≠ y + 2 → h3_ q i = h q i) → 6 - i3 ≤ nn70 → X k w (Zq k w (pQv (fun h' => (∀ q i, q ≠ y → q ≠ y + 1 → q ≠ y + 2 → h' q i = h q i) ∧ ∃ s, s ≤ 5 ∧ h' y 2 = nI s))) 70 [some (.ref (wA w (y))), some (.int (x)), some (.int (nI (e))), some (.int (nI (i3)))] [] h3_ g := by
                  intro nn70
                  induction nn70 with
                  | zero => intro i3 h3_ hc70_0 hc70_1 hc70_2 hz; exact absurd hz (by omega)
                  | succ nn70 ih70 =>
                    intro i3 h3_ hc70_0 hc70_1 hc70_2 hz70
                    refine X_iload_n C 3 (D (70, .iload_n 3, 1) (mg 43 rfl)) rfl rfl ?_
                    refine X_aload_n C 0 (D (71, .aload_n 0, 1) (mg 44 rfl)) rfl rfl ?_
                    refine X_get (v := .int (h3_ (y) 2)) C (y) 2 (by omega) hsy rfl rfl (by decide) inX6 fX6_18 rfl (D (72, .getfield 18, 3) (mg 45 rfl)) rfl ?_
                    refine X_ti (y := nI (s1)) (hc70_1) ?_
                    refine X_icmp_ge (tgt := 105) C (D (75, .if_icmp .ge 30, 3) (mg 46 rfl)) (by decide) (fun q10 => ?_) (fun q10 => ?_)
                    · skip
                      have q10 : (i3) ≥ (s1) := by have z := (nI_leI (a := (s1)) (b := (i3)) (by omega) (by omega)).mp q10; omega
                      refine X_iinc (v := nI (e + 1)) (ls' := [some (.ref (wA w (y))), some (.int (x)), some (.int (nI (e + 1))), some (.int (nI (i3)))]) C (D (105, .iinc 2 1, 3) (mg 64 rfl)) rfl (nI_add (e) 1) rfl ?_
                      refine X_goto (tgt := 58) C (D (108, .goto (-50), 3) (mg 65 rfl)) (by decide) ?_
                      refine X_los (ls' := [some (.ref (wA w (y))), some (.int (x)), some (.int (nI (e + 1))), none]) (by simp [lsub]) ?_
                      refine X_eq (ls' := [some (.ref (wA w (y))), some (.int (x)), some (.int (nI (e + 1))), none]) (st' := []) (h' := h3_) (g' := g) rfl rfl rfl rfl ?_
                      exact ih58 (e + 1) (h3_) (by omega) (hc70_1) (fun q i z1 z2 z3 => by skip; exact hc70_2 q i z1 z2 z3) (by omega)
                    · skip
                      have q10 : (i3) < (s1) := by have z : ¬ ((s1) ≤ (i3)) := fun u => q10 ((nI_leI (a := (s1)) (b := (i3)) (by omega) (by omega)).mpr u); omega
                      refine X_aload_n C 0 (D (78, .aload_n 0, 1) (mg 47 rfl)) rfl rfl ?_
                      refine X_get (v := .ref (wA w (y + 2))) C (y) 1 (by omega) hsy rfl rfl (by decide) inX6 fX6_15 rfl (D (79, .getfield 15, 3) (mg 48 rfl)) rfl ?_
                      refine X_iload_n C 2 (D (82, .iload_n 2, 1) (mg 49 rfl)) rfl rfl ?_
                      refine X_iconst (v := nI (5)) C (D (83, .iconst 5, 1) (mg 50 rfl)) (by decide) ?_
                      refine X_imul C (D (84, .imul, 1) (mg 51 rfl)) ?_
                      refine X_ti (y := nI ((e) * (5))) (pk_mul (e) (5)) ?_
                      refine X_iload_n C 3 (D (85, .iload_n 3, 1) (mg 52 rfl)) rfl rfl ?_
                      refine X_iadd C (D (86, .iadd, 1) (mg 53 rfl)) ?_
                      refine X_ti (y := nI ((e) * (5) + i3)) (nI_add ((e) * (5)) (i3)) ?_
                      refine X_aload_n C 0 (D (87, .aload_n 0, 1) (mg 54 rfl)) rfl rfl ?_
                      refine X_aload_n C 0 (D (88, .aload_n 0, 1) (mg 55 rfl)) rfl rfl ?_
                      refine X_get (v := .ref (wA w (y + 1))) C (y) 0 (by omega) hsy rfl rfl (by decide) inX6 fX6_9 rfl (D (89, .getfield 9, 3) (mg 56 rfl)) rfl ?_
                      refine X_iload_n C 3 (D (92, .iload_n 3, 1) (mg 57 rfl)) rfl rfl ?_
                      refine X_iald (v := h3_ (y + 1) (i3)) C (y + 1) (by omega) hy1 (vp_in_nI (by omega) (by omega)) (D (93, .iaload, 1) (mg 58 rfl)) (by rw [nI_clamp (by omega)]) ?_
                      refine X_iload_n C 2 (D (94, .iload_n 2, 1) (mg 59 rfl)) rfl rfl ?_
                      refine X_cV (As := [.int (h3_ (y + 1) (i3)), .int (nI (e))]) (st := [.int (nI ((e) * (5) + i3)), .ref (wA w (y + 2))]) C (post := _) (y) (by omega) hsy rfl (ct_X6_fewest hw (y := y) hY (s := s1) (by omega) (h3_ (y + 1) (i3)) (S := e) (by omega) h3_ g (hc70_1)) kX6_22 (by decide) (by decide) rfl rfl (Nat.le_of_ble_eq_true rfl) (D (95, .invokevirtual 22, 3) (mg 60 rfl)) rfl (fun v13 H11 G12 hv13 => ?_)
                      obtain ⟨⟨y14, rfl⟩, rfl, rfl⟩ := hv13
                      show X k w _ 98 [some (.ref (wA w (y))), some (.int (x)), some (.int (nI (e))), some (.int (nI (i3)))] [.int (y14), .int (nI ((e) * (5) + i3)), .ref (wA w (y + 2))] h3_ g
                      refine X_iast (j := (e) * (5) + i3) C (y + 2) (by omega) hy2 (vp_in_nI (by omega) (by omega)) (D (98, .iastore, 1) (mg 61 rfl)) (nI_clamp (by omega)) ?_
                      refine X_iinc (v := nI (i3 + 1)) (ls' := [some (.ref (wA w (y))), some (.int (x)), some (.int (nI (e))), some (.int (nI (i3 + 1)))]) C (D (99, .iinc 3 1, 3) (mg 62 rfl)) rfl (nI_add (i3) 1) rfl ?_
                      refine X_goto (tgt := 70) C (D (102, .goto (-32), 3) (mg 63 rfl)) (by decide) ?_
                      refine X_eq (ls' := [some (.ref (wA w (y))), some (.int (x)), some (.int (nI (e))), some (.int (nI (i3 + 1)))]) (st' := []) (h' := (u2 h3_ (y + 2) ((e) * (5) + i3) (y14))) (g' := g) rfl rfl rfl rfl ?_
                      exact ih70 (i3 + 1) ((u2 h3_ (y + 2) ((e) * (5) + i3) (y14))) (by omega) (((u2_p _ _ _ _ (by omega))).trans hc70_1) (fun q i z1 z2 z3 => by rw [u2_ne _ _ _ _ (by omega)]; exact hc70_2 q i z1 z2 z3) (by omega)
                refine X_eq (ls' := [some (.ref (wA w (y))), some (.int (x)), some (.int (nI (e))), some (.int (nI (0)))]) (st' := []) (h' := h2_) (g' := g) rfl rfl rfl rfl ?_
                exact lp70 _ (0) (h2_) (by omega) (hc58_1) (fun q i z1 z2 z3 => by skip; exact hc58_2 q i z1 z2 z3) (Nat.le_refl _)
          refine X_eq (ls' := [some (.ref (wA w (y))), some (.int (x)), some (.int (nI (0))), none]) (st' := []) (h' := h1_) (g' := g) rfl rfl rfl rfl ?_
          exact lp58 _ (0) (h1_) (by omega) (hc7_2) (fun q i z1 z2 z3 => by skip; exact hc7_3 q i z1 z2 z3) (Nat.le_refl _)
        · skip
          have q8 : (s1) < (5) := by have z : ¬ ((5) ≤ (s1)) := fun u => q8 ((nI_leI (a := (5)) (b := (s1)) (by omega) (by omega)).mpr u); omega
          refine X_iload_n C 1 (D (21, .iload_n 1, 1) (mg 12 rfl)) rfl rfl ?_
          refine X_iload_n C 2 (D (22, .iload_n 2, 1) (mg 13 rfl)) rfl rfl ?_
          refine X_ishr C (D (23, .ishr, 1) (mg 14 rfl)) ?_
          refine X_iconst (v := nI (1)) C (D (24, .iconst 1, 1) (mg 15 rfl)) (by decide) ?_
          refine X_iand C (D (25, .iand, 1) (mg 16 rfl)) ?_
          refine X_iconst (v := nI (1)) C (D (26, .iconst 1, 1) (mg 17 rfl)) (by decide) ?_
          refine X_icmp_ne (tgt := 50) C (D (27, .if_icmp .ne 23, 3) (mg 18 rfl)) (by decide) (fun q15 => ?_) (fun q15 => ?_)
          · skip
            refine X_iinc (v := nI (j + 1)) (ls' := [some (.ref (wA w (y))), some (.int (x)), some (.int (nI (j + 1))), none]) C (D (50, .iinc 2 1, 3) (mg 31 rfl)) rfl (nI_add (j) 1) rfl ?_
            refine X_goto (tgt := 7) C (D (53, .goto (-46), 3) (mg 32 rfl)) (by decide) ?_
            refine X_eq (ls' := [some (.ref (wA w (y))), some (.int (x)), some (.int (nI (j + 1))), none]) (st' := []) (h' := h1_) (g' := g) rfl rfl rfl rfl ?_
            exact ih7 (s1) (j + 1) (h1_) (by omega) (by omega) (hc7_2) (fun q i z1 z2 z3 => by skip; exact hc7_3 q i z1 z2 z3) (by omega)
          · skip
            refine X_aload_n C 0 (D (30, .aload_n 0, 1) (mg 19 rfl)) rfl rfl ?_
            refine X_get (v := .ref (wA w (y + 1))) C (y) 0 (by omega) hsy rfl rfl (by decide) inX6 fX6_9 rfl (D (31, .getfield 9, 3) (mg 20 rfl)) rfl ?_
            refine X_aload_n C 0 (D (34, .aload_n 0, 1) (mg 21 rfl)) rfl rfl ?_
            refine X_get (v := .int (h1_ (y) 2)) C (y) 2 (by omega) hsy rfl rfl (by decide) inX6 fX6_18 rfl (D (35, .getfield 18, 3) (mg 22 rfl)) rfl ?_
            refine X_ti (y := nI (s1)) (hc7_2) ?_
            refine X_iload_n C 2 (D (38, .iload_n 2, 1) (mg 23 rfl)) rfl rfl ?_
            refine X_iast (j := s1) C (y + 1) (by omega) hy1 (vp_in_nI (by omega) (by omega)) (D (39, .iastore, 1) (mg 24 rfl)) (nI_clamp (by omega)) ?_
            refine X_aload_n C 0 (D (40, .aload_n 0, 1) (mg 25 rfl)) rfl rfl ?_
            refine X_dup C (D (41, .dup, 1) (mg 26 rfl)) rfl ?_
            refine X_get (v := .int ((u2 h1_ (y + 1) (s1) (nI (j))) (y) 2)) C (y) 2 (by omega) hsy rfl rfl (by decide) inX6 fX6_18 rfl (D (42, .getfield 18, 3) (mg 27 rfl)) rfl ?_
            refine X_ti (y := nI (s1)) (((u2_p _ _ _ _ (by omega))).trans hc7_2) ?_
            refine X_iconst (v := nI (1)) C (D (45, .iconst 1, 1) (mg 28 rfl)) (by decide) ?_
            refine X_iadd C (D (46, .iadd, 1) (mg 29 rfl)) ?_
            refine X_ti (y := nI (s1 + 1)) (nI_add (s1) (1)) ?_
            refine X_putI C (y) 2 tyX6 tyX6_ok nmX6 (by omega) hsy rfl rfl (by decide) inX6 fX6_18 rfl rfl (by decide +kernel) (D (47, .putfield 18, 3) (mg 30 rfl)) ?_
            refine X_iinc (v := nI (j + 1)) (ls' := [some (.ref (wA w (y))), some (.int (x)), some (.int (nI (j + 1))), none]) C (D (50, .iinc 2 1, 3) (mg 31 rfl)) rfl (nI_add (j) 1) rfl ?_
            refine X_goto (tgt := 7) C (D (53, .goto (-46), 3) (mg 32 rfl)) (by decide) ?_
            refine X_eq (ls' := [some (.ref (wA w (y))), some (.int (x)), some (.int (nI (j + 1))), none]) (st' := []) (h' := (u2 (u2 h1_ (y + 1) (s1) (nI (j))) (y) 2 (nI (s1 + 1)))) (g' := g) rfl rfl rfl rfl ?_
            exact ih7 (s1 + 1) (j + 1) ((u2 (u2 h1_ (y + 1) (s1) (nI (j))) (y) 2 (nI (s1 + 1)))) (by omega) (by omega) ((u2_s _ _ _ _)) (fun q i z1 z2 z3 => by rw [u2_ne _ _ _ _ (by omega), u2_ne _ _ _ _ (by omega)]; exact hc7_3 q i z1 z2 z3) (by omega)
  refine X_eq (ls' := [some (.ref (wA w (y))), some (.int (x)), some (.int (nI (0))), none]) (st' := []) (h' := (u2 h (y) 2 (nI (0)))) (g' := g) rfl rfl rfl rfl ?_
  exact lp7 _ (0) (0) ((u2 h (y) 2 (nI (0)))) (by omega) (by omega) ((u2_s _ _ _ _)) (fun q i z1 z2 z3 => by rw [u2_ne _ _ _ _ (by omega)]) (Nat.le_refl _)
