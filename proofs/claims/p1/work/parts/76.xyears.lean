/-! PHASE 3, THE CLASS: part, digest, years -/
def pFl (y : Int64) (x : Nat) (h : xI) (g : xJ) : Option Value → xI → xJ → Prop := fun v h' g' => v = some (.long y) ∧ (∀ q i, x + 38 < q → h' q i = h q i) ∧ g' = g
theorem pFl_i {y y' : Int64} {x : Nat} {h h' : xI} {g : xJ} (e : y = y') (f : ∀ q i, x + 38 < q → h' q i = h q i) : pFl y x h g (some (.long y')) h' g := ⟨by rw [e], f, rfl⟩
theorem cK_m : cK (-1 : Int32) = (-1 : Int32) := if_neg (fun z => z rfl)
theorem cD_m : cD (-1 : Int32) = (-1 : Int32) := if_neg (fun z => z rfl)
theorem cA_m : cA (-1 : Int32) = (-1 : Int32) := if_neg (fun z => z rfl)
def dg1 : Nat → Int64
  | 0 => 1741
  | n + 1 => 31 * dg1 n + (nI 0).toInt64
def dg2 : Nat → Int64
  | 0 => dg1 10
  | n + 1 => 31 * (31 * (31 * (31 * dg2 n + (nI 0).toInt64) + ((-1 : Int32)).toInt64) + ((-1 : Int32)).toInt64) + ((-1 : Int32)).toInt64
theorem dg1_s (n : Nat) : dg1 (n + 1) = 31 * dg1 n + (nI 0).toInt64 := rfl
theorem dg2_s (n : Nat) : dg2 (n + 1) = 31 * (31 * (31 * (31 * dg2 n + (nI 0).toInt64) + ((-1 : Int32)).toInt64) + ((-1 : Int32)).toInt64) + ((-1 : Int32)).toInt64 := rfl
def yrL (x : Nat) : Nat := (x * 1103515245 + 12345) % 2147483648
def ySy (z : nS) (c k : Nat) : nS := if z.2.2.2 c = 0 then nSay z c k else z
def ySt (z : nS) (t : Nat) : nS := if bsN z.2.1 t < 25 then nStp z (bsN z.2.1 t) else z
def yrX (x0 : Nat) : Nat → Nat
  | 0 => x0
  | n + 1 => yrL (yrX x0 n)
def yrS (x : Nat) (z : nS) : nS := nWk (ySt (ySy z (x / 1048576 % 25) (x / 65536 % 6)) (x / 16384 % 4))
def yrZ (x0 : Nat) : Nat → nS
  | 0 => nBeg 0 0
  | n + 1 => yrS (yrX x0 (n + 1)) (yrZ x0 n)
theorem yrX_s (x0 n : Nat) : yrX x0 (n + 1) = (yrX x0 n * 1103515245 + 12345) % 2147483648 := rfl
theorem yrZ_s (x0 n : Nat) : yrZ x0 (n + 1) = nWk (ySt (ySy (yrZ x0 n) (yrX x0 (n + 1) / 1048576 % 25) (yrX x0 (n + 1) / 65536 % 6)) (yrX x0 (n + 1) / 16384 % 4)) := rfl
theorem ySy_ok {z : nS} {c k : Nat} (H : nOk z) (hk : k < 6) : nOk (ySy z c k) := by
  unfold ySy
  by_cases q : z.2.2.2 c = 0
  · rw [if_pos q]; exact nSay_ok H hk
  · rw [if_neg q]; exact H
theorem ySt_ok {z : nS} {t : Nat} (H : nOk z) : nOk (ySt z t) := by
  unfold ySt
  by_cases q : bsN z.2.1 t < 25
  · rw [if_pos q]; exact nStp_ok H q
  · rw [if_neg q]; exact H
theorem yrZ_ok (x0 : Nat) : ∀ n, nOk (yrZ x0 n)
  | 0 => nBeg_ok (by omega) (by omega)
  | n + 1 => nWk_ok (ySt_ok (ySy_ok (yrZ_ok x0 n) (by omega)))
theorem yrX_lt {x0 : Nat} (h : x0 < 2147483648) : ∀ n, yrX x0 n < 2147483648
  | 0 => h
  | n + 1 => Nat.mod_lt _ (by omega)
/-- how many are green -/
def gN (z : nS) : Nat := cn (fun c => ¬ hiV (nI (z.2.2.2 c)) < nI 1) 25
theorem cK_e {v : Nat} (h0 : ¬ v = 0) (h : v ≤ 6000) : cK (nI (eX v)) = nI ((v - 1) % 6) := by
  have := eX_lt h
  unfold cK
  rw [if_pos (nI_nm (by omega)), pk_div (by omega) (by omega) (by omega)]
  congr 1
  unfold eX
  omega
theorem hiA_0 : ∀ k, k < 6 → ∀ a, a < 100 → hiA (nI k) (nI 0) (nI a) = nI 0 := by decide +kernel
theorem hiV_0 : hiV (nI 0) = nI 0 := if_pos rfl
theorem ht_e {v : Nat} (h : v ≤ 6000) : htC (eC v) (nI 0) = hiV (nI v) := by
  by_cases h0 : v = 0
  · subst h0; rw [eC_0, htC_0, hiV_0]
  · have e2 : hiV (nI v) = hiA (nI ((v - 1) % 6)) (nI ((v - 1) / 6 % 10)) (nI ((v - 1) / 60)) := by
      unfold hiV
      rw [if_neg (fun z => h0 ((nI_z h).mp z)), mK_e h0 h, mD_e h0 h, mA_e h0 h]
    have e3 : mnI (nI ((v - 1) / 60) + nI 0) (nI 99) = nI ((v - 1) / 60) := by
      unfold mnI
      rw [nI_add, Nat.add_zero, if_neg (fun z => by have := (nI_ltI (by omega) (by omega)).mp z; omega)]
    unfold htC
    rw [eC_p h0, cD_e h0 h, cA_e h0 h, cK_e h0 h, e3, e2]
    by_cases q : (v - 1) / 6 % 10 = 0
    · rw [q, if_neg (by decide), hiA_0 _ (by omega) _ (by omega)]
    · rw [if_pos ((nI_leI (by omega) (by omega)).mpr (by omega)), hi_e (by omega)]
theorem gN_c {h : xI} {n : Nat} {z : nS} (H : rC h n z) (ho : nOk z) : cn (fun c => ¬ htC (h (n + 2) c) (nI 0) < nI 1) 25 = gN z := cn_c 25 (fun c hc => by
  rw [H.2.2.2 c hc, ht_e (ho.2.2.2 c hc)])
theorem gN_m {h : xI} {q : Nat} {z : nS} (H : rM h q z) : cn (fun c => ¬ hiV (h q (3 + c)) < nI 1) 25 = gN z := cn_c 25 (fun c hc => by
  rw [H.2.2.2 c hc])
theorem rC_cc {h : xI} {n o : Nat} {z : nS} (hno : o + 2 < n ∨ n + 2 < o) (H : rC h o z) : rC (ccH h n o) n z := by
  obtain ⟨a, b, d, e⟩ := H
  have g0 : ∀ q i, (q < n ∨ n + 2 < q) → cc0 h n o q i = h q i := fun q i z => by
    unfold cc0
    rw [cpS_ne _ _ _ _ _ _ (by omega), cpS_ne _ _ _ _ _ _ (by omega)]
  refine ⟨?_, ?_, fun c hc => ?_, fun c hc => ?_⟩
  · unfold ccH cc2
    rw [u2_ne _ _ _ _ (by omega), u2_ne _ _ _ _ (by omega)]
    unfold cc1
    rw [u2_s, g0 _ _ (by omega)]
    exact a
  · unfold ccH
    rw [u2_ne _ _ _ _ (by omega)]
    unfold cc2
    rw [u2_s]
    unfold cc1
    rw [u2_ne _ _ _ _ (by omega), g0 _ _ (by omega)]
    exact b
  · unfold ccH cc2 cc1 cc0
    rw [u2_ne _ _ _ _ (by omega), u2_ne _ _ _ _ (by omega), u2_ne _ _ _ _ (by omega), cpS_ne _ _ _ _ _ _ (by omega), cpS_at _ _ _ _ _ _ ⟨rfl, by omega, by omega⟩]
    exact d c hc
  · unfold ccH cc2 cc1 cc0
    rw [u2_ne _ _ _ _ (by omega), u2_ne _ _ _ _ (by omega), u2_ne _ _ _ _ (by omega), cpS_at _ _ _ _ _ _ ⟨rfl, by omega, by omega⟩, cpS_ne _ _ _ _ _ _ (by omega)]
    exact e c hc
theorem cFr_rC {x : Nat} {h : xI} (F : cFr x h) : rC h (x + 2) (nBeg 0 0) := by
  obtain ⟨-, hE, hSt, k2, k3, -⟩ := F
  exact ⟨k2, k3, hSt, fun c hc => (hE c hc).trans eC_0.symm⟩
set_option maxHeartbeats 4000000 in
set_option maxRecDepth 100000 in
theorem cx_X7_part {l : Launch} {w : Kw} (hw : wOk w) {x : Nat} (hC : shC w x) (a1 : Int32) (h : xI) (g : xJ) (hF : cFr x h) : Ct l w yX7_part cX7_part 2 (some .long) 1 21 [.ref (wA w (x)), .int (a1)] h g (pFl (if 0 ≤ a1.toInt ∧ a1.toInt < 2 then (if a1 = 0 then g x 7 else g x 8) else ((-2 : Int32)).toInt64) x h g) := by
  refine Ct_of (ls := [some (.ref (wA w (x))), some (.int (a1))]) (by decide) hw (Nat.le_of_ble_eq_true rfl) rfl (fun k hkl C => ?_)
  have C : Cx k w cX7_part RX7 2 (some .long) 1 21 := C
  have D := dtX7_part
  subst hkl
  have hC0 := hC
  obtain ⟨hxn, hsx, hT, hsi, hTa, hTb, hsk, hNs, hY, hX, hsv⟩ := hC
  have hY2 := hY.1
  have hX2 := hX.1
  have hF0 := hF
  obtain ⟨hI, hE, hSt, hk2, hk3, hk4, hps, hse, hma, htx, hr9, hr10, hr11⟩ := hF
  have hI0 := hI
  obtain ⟨⟨⟨c0_, hc0_, hat_⟩, hpa, -, -⟩, -, -, -, -⟩ := hI
  have hI := hI0
  have hF := hF0
  refine X_iload_n C 1 (D (0, .iload_n 1, 1) (mg 0 rfl)) rfl rfl ?_
  refine X_iconst (v := nI (2)) C (D (1, .iconst 2, 1) (mg 1 rfl)) (by decide) ?_
  refine X_cS (As := [.int (a1), .int (nI (2))]) (st := []) C (post := _) (ct_X7_isBelow hw (a1) (B := 2) (by decide) h g) kX7_53 (by decide) (by decide) rfl rfl (Nat.le_of_ble_eq_true rfl) (D (2, .invokestatic 53, 3) (mg 2 rfl)) rfl (fun v3 H1 G2 hv3 => ?_)
  obtain ⟨rfl, rfl, rfl⟩ := hv3
  show X k w _ 5 [some (.ref (wA w (x))), some (.int (a1))] [.int (if 0 ≤ (a1).toInt ∧ (a1).toInt < ((2 : Nat) : Int) then 1 else 0)] h g
  refine X_if_ne (tgt := 14) C (D (5, .ifCond .ne 9, 3) (mg 3 rfl)) (by decide) (fun q4 => ?_) (fun q4 => ?_)
  · skip
    have q4 : (0 ≤ (a1).toInt ∧ (a1).toInt < ((2 : Nat) : Int)) := bz1.mp q4
    refine X_iload_n C 1 (D (14, .iload_n 1, 1) (mg 8 rfl)) rfl rfl ?_
    refine X_if_ne (tgt := 25) C (D (15, .ifCond .ne 10, 3) (mg 9 rfl)) (by decide) (fun q5 => ?_) (fun q5 => ?_)
    · skip
      refine X_aload_n C 0 (D (25, .aload_n 0, 1) (mg 13 rfl)) rfl rfl ?_
      refine X_get (v := .long (g (x) 8)) C (x) 8 (by omega) hsx rfl rfl (by decide) inX7 fX7_49 rfl (D (26, .getfield 49, 3) (mg 14 rfl)) rfl ?_
      exact X_lret C (D (29, .lreturn, 1) (mg 15 rfl)) (pFl_i ((if_pos (by omega)).trans (if_neg (by assumption))) (fun q i z => rfl))
    · skip
      refine X_aload_n C 0 (D (18, .aload_n 0, 1) (mg 10 rfl)) rfl rfl ?_
      refine X_get (v := .long (g (x) 7)) C (x) 7 (by omega) hsx rfl rfl (by decide) inX7 fX7_246 rfl (D (19, .getfield 246, 3) (mg 11 rfl)) rfl ?_
      refine X_goto (tgt := 29) C (D (22, .goto 7, 3) (mg 12 rfl)) (by decide) ?_
      exact X_lret C (D (29, .lreturn, 1) (mg 15 rfl)) (pFl_i ((if_pos (by omega)).trans (if_pos (by assumption))) (fun q i z => rfl))
  · skip
    have q4 : ¬ (0 ≤ (a1).toInt ∧ (a1).toInt < ((2 : Nat) : Int)) := bz0.mp q4
    refine X_aload_n C 0 (D (8, .aload_n 0, 1) (mg 4 rfl)) rfl rfl ?_
    refine X_cV (As := []) (st := []) C (post := _) (x) (by omega) hsx rfl (ct_X7_refuseBad hw hC0 h g) kX7_57 (by decide) (by decide) rfl rfl (Nat.le_of_ble_eq_true rfl) (D (9, .invokevirtual 57, 3) (mg 5 rfl)) rfl (fun v8 H6 G7 hv8 => ?_)
    obtain ⟨rfl, rfl, rfl⟩ := hv8
    show X k w _ 12 [some (.ref (wA w (x))), some (.int (a1))] [.int ((-2 : Int32))] (rcH h (x) 9) g
    refine X_i2l C (D (12, .i2l, 1) (mg 6 rfl)) ?_
    exact X_lret C (D (13, .lreturn, 1) (mg 7 rfl)) (pFl_i (if_neg (by omega)) (fun q i z => by rw [rcH_ne _ _ _ (by omega)]))
set_option maxHeartbeats 4000000 in
set_option maxRecDepth 100000 in
theorem cx_X7_digest {l : Launch} {w : Kw} (hw : wOk w) {x : Nat} (hC : shC w x) (h : xI) (g : xJ) (hF : cFr x h) : Ct l w yX7_digest cX7_digest 4 (some .long) 6 134 [.ref (wA w (x))] h g (pFl (31 * (31 * dg2 25 + g x 7) + g x 8) x h g) := by
  refine Ct_of (ls := [some (.ref (wA w (x))), none, none, none]) (by decide) hw (Nat.le_of_ble_eq_true rfl) rfl (fun k hkl C => ?_)
  have C : Cx k w cX7_digest RX7 4 (some .long) 6 134 := C
  have D := dtX7_digest
  subst hkl
  have hC0 := hC
  obtain ⟨hxn, hsx, hT, hsi, hTa, hTb, hsk, hNs, hY, hX, hsv⟩ := hC
  have hY2 := hY.1
  have hX2 := hX.1
  have hF0 := hF
  obtain ⟨hI, hE, hSt, hk2, hk3, hk4, hps, hse, hma, htx, hr9, hr10, hr11⟩ := hF
  have hI0 := hI
  obtain ⟨⟨⟨c0_, hc0_, hat_⟩, hpa, -, -⟩, -, -, -, -⟩ := hI
  have hI := hI0
  have hF := hF0
  refine X_ldc2 C (D (0, .ldc2_w 265, 3) (mg 0 rfl)) vX7_265 ?_
  refine X_lstore_n (ls' := [some (.ref (wA w (x))), some (.long ((1741 : Int64))), none, none]) C 1 (D (3, .lstore_n 1, 1) (mg 1 rfl)) rfl (Nat.le_of_ble_eq_true rfl) rfl ?_
  refine X_iconst (v := nI (0)) C (D (4, .iconst 0, 1) (mg 2 rfl)) (by decide) ?_
  refine X_istore_n (ls' := [some (.ref (wA w (x))), some (.long ((1741 : Int64))), none, some (.int (nI (0)))]) C 3 (D (5, .istore_n 3, 1) (mg 3 rfl)) rfl (Nat.le_of_ble_eq_true rfl) rfl ?_
  have lp6 : ∀ (nn6 : Nat) (j : Nat), (j ≤ 10) → 11 - j ≤ nn6 → X k w (Zq k w (pFl (31 * (31 * dg2 25 + g x 7) + g x 8) x h g)) 6 [some (.ref (wA w (x))), some (.long (dg1 (j))), none, some (.int (nI (j)))] [] h g := by
    intro nn6
    induction nn6 with
    | zero => intro j hc6_0 hz; exact absurd hz (by omega)
    | succ nn6 ih6 =>
      intro j hc6_0 hz6
      refine X_iload_n C 3 (D (6, .iload_n 3, 1) (mg 4 rfl)) rfl rfl ?_
      refine X_bipush (v := nI (10)) C (D (7, .bipush 10, 2) (mg 5 rfl)) (by decide) ?_
      refine X_icmp_ge (tgt := 31) C (D (9, .if_icmp .ge 22, 3) (mg 6 rfl)) (by decide) (fun q1 => ?_) (fun q1 => ?_)
      · skip
        have q1 : (j) ≥ (10) := by have z := (nI_leI (a := (10)) (b := (j)) (by omega) (by omega)).mp q1; omega
        refine X_iconst (v := nI (0)) C (D (31, .iconst 0, 1) (mg 18 rfl)) (by decide) ?_
        refine X_istore_n (ls' := [some (.ref (wA w (x))), some (.long (dg1 (j))), none, some (.int (nI (0)))]) C 3 (D (32, .istore_n 3, 1) (mg 19 rfl)) rfl (Nat.le_of_ble_eq_true rfl) rfl ?_
        have lp33 : ∀ (nn33 : Nat) (j : Nat), (j ≤ 25) → 26 - j ≤ nn33 → X k w (Zq k w (pFl (31 * (31 * dg2 25 + g x 7) + g x 8) x h g)) 33 [some (.ref (wA w (x))), some (.long (dg2 (j))), none, some (.int (nI (j)))] [] h g := by
          intro nn33
          induction nn33 with
          | zero => intro j hc33_0 hz; exact absurd hz (by omega)
          | succ nn33 ih33 =>
            intro j hc33_0 hz33
            refine X_iload_n C 3 (D (33, .iload_n 3, 1) (mg 20 rfl)) rfl rfl ?_
            refine X_bipush (v := nI (25)) C (D (34, .bipush 25, 2) (mg 21 rfl)) (by decide) ?_
            refine X_icmp_ge (tgt := 122) C (D (36, .if_icmp .ge 86, 3) (mg 22 rfl)) (by decide) (fun q2 => ?_) (fun q2 => ?_)
            · skip
              have q2 : (j) ≥ (25) := by have z := (nI_leI (a := (25)) (b := (j)) (by omega) (by omega)).mp q2; omega
              refine X_iconst (v := nI (0)) C (D (122, .iconst 0, 1) (mg 70 rfl)) (by decide) ?_
              refine X_istore_n (ls' := [some (.ref (wA w (x))), some (.long (dg2 (j))), none, some (.int (nI (0)))]) C 3 (D (123, .istore_n 3, 1) (mg 71 rfl)) rfl (Nat.le_of_ble_eq_true rfl) rfl ?_
              refine X_iload_n C 3 (D (124, .iload_n 3, 1) (mg 72 rfl)) rfl rfl ?_
              refine X_aload_n C 0 (D (125, .aload_n 0, 1) (mg 73 rfl)) rfl rfl ?_
              refine X_get (v := .ref (wA w (x + 1))) C (x) 0 (by omega) hsx rfl rfl (by decide) inX7 fX7_10 rfl (D (126, .getfield 10, 3) (mg 74 rfl)) rfl ?_
              refine X_get (v := .int (h (x + 1) 4)) C (x + 1) 4 (by omega) hT.2.1 rfl rfl (by decide) inX4 fX7_185 rfl (D (129, .getfield 185, 3) (mg 75 rfl)) rfl ?_
              refine X_ti (y := nI (0)) (hse) ?_
              refine X_iconst (v := nI (4)) C (D (132, .iconst 4, 1) (mg 76 rfl)) (by decide) ?_
              refine X_imul C (D (133, .imul, 1) (mg 77 rfl)) ?_
              refine X_ti (y := nI (0)) (pk_mul 0 4) ?_
              refine X_icmp_ge (tgt := 160) C (D (134, .if_icmp .ge 26, 3) (mg 78 rfl)) (by decide) (fun q3 => ?_) (fun q3 => ?_)
              · skip
                refine X_iconst (v := nI (0)) C (D (160, .iconst 0, 1) (mg 92 rfl)) (by decide) ?_
                refine X_istore_n (ls' := [some (.ref (wA w (x))), some (.long (dg2 (j))), none, some (.int (nI (0)))]) C 3 (D (161, .istore_n 3, 1) (mg 93 rfl)) rfl (Nat.le_of_ble_eq_true rfl) rfl ?_
                refine X_iload_n C 3 (D (162, .iload_n 3, 1) (mg 94 rfl)) rfl rfl ?_
                refine X_aload_n C 0 (D (163, .aload_n 0, 1) (mg 95 rfl)) rfl rfl ?_
                refine X_get (v := .ref (wA w (x + 1))) C (x) 0 (by omega) hsx rfl rfl (by decide) inX7 fX7_10 rfl (D (164, .getfield 10, 3) (mg 96 rfl)) rfl ?_
                refine X_get (v := .int (h (x + 1) 5)) C (x + 1) 5 (by omega) hT.2.1 rfl rfl (by decide) inX4 fX7_203 rfl (D (167, .getfield 203, 3) (mg 97 rfl)) rfl ?_
                refine X_ti (y := nI (0)) (hma) ?_
                refine X_iconst (v := nI (3)) C (D (170, .iconst 3, 1) (mg 98 rfl)) (by decide) ?_
                refine X_imul C (D (171, .imul, 1) (mg 99 rfl)) ?_
                refine X_ti (y := nI (0)) (pk_mul 0 3) ?_
                refine X_icmp_ge (tgt := 198) C (D (172, .if_icmp .ge 26, 3) (mg 100 rfl)) (by decide) (fun q4 => ?_) (fun q4 => ?_)
                · skip
                  refine X_ldc2 C (D (198, .ldc2_w 267, 3) (mg 114 rfl)) vX7_267 ?_
                  refine X_lload_n C 1 (D (201, .lload_n 1, 1) (mg 115 rfl)) rfl rfl ?_
                  refine X_lmul C (D (202, .lmul, 1) (mg 116 rfl)) ?_
                  refine X_aload_n C 0 (D (203, .aload_n 0, 1) (mg 117 rfl)) rfl rfl ?_
                  refine X_get (v := .long (g (x) 7)) C (x) 7 (by omega) hsx rfl rfl (by decide) inX7 fX7_246 rfl (D (204, .getfield 246, 3) (mg 118 rfl)) rfl ?_
                  refine X_ladd C (D (207, .ladd, 1) (mg 119 rfl)) ?_
                  refine X_lstore_n (ls' := [some (.ref (wA w (x))), some (.long ((((31 : Int64)) * (dg2 (j))) + (g (x) 7))), none, some (.int (nI (0)))]) C 1 (D (208, .lstore_n 1, 1) (mg 120 rfl)) rfl (Nat.le_of_ble_eq_true rfl) rfl ?_
                  refine X_ldc2 C (D (209, .ldc2_w 267, 3) (mg 121 rfl)) vX7_267 ?_
                  refine X_lload_n C 1 (D (212, .lload_n 1, 1) (mg 122 rfl)) rfl rfl ?_
                  refine X_lmul C (D (213, .lmul, 1) (mg 123 rfl)) ?_
                  refine X_aload_n C 0 (D (214, .aload_n 0, 1) (mg 124 rfl)) rfl rfl ?_
                  refine X_get (v := .long (g (x) 8)) C (x) 8 (by omega) hsx rfl rfl (by decide) inX7 fX7_49 rfl (D (215, .getfield 49, 3) (mg 125 rfl)) rfl ?_
                  refine X_ladd C (D (218, .ladd, 1) (mg 126 rfl)) ?_
                  exact X_lret C (D (219, .lreturn, 1) (mg 127 rfl)) (pFl_i (by rw [show j = 25 by omega]) (fun q i z => rfl))
                · skip
                  exact absurd q4 (by decide)
              · skip
                exact absurd q3 (by decide)
            · skip
              have q2 : (j) < (25) := by have z : ¬ ((25) ≤ (j)) := fun u => q2 ((nI_leI (a := (25)) (b := (j)) (by omega) (by omega)).mpr u); omega
              refine X_ldc2 C (D (39, .ldc2_w 267, 3) (mg 23 rfl)) vX7_267 ?_
              refine X_lload_n C 1 (D (42, .lload_n 1, 1) (mg 24 rfl)) rfl rfl ?_
              refine X_lmul C (D (43, .lmul, 1) (mg 25 rfl)) ?_
              refine X_aload_n C 0 (D (44, .aload_n 0, 1) (mg 26 rfl)) rfl rfl ?_
              refine X_get (v := .ref (wA w (x + 1))) C (x) 0 (by omega) hsx rfl rfl (by decide) inX7 fX7_10 rfl (D (45, .getfield 10, 3) (mg 27 rfl)) rfl ?_
              refine X_get (v := .ref (wA w (x + 2))) C (x + 1) 0 (by omega) hT.2.1 rfl rfl (by decide) inX4 fX7_61 rfl (D (48, .getfield 61, 3) (mg 28 rfl)) rfl ?_
              refine X_get (v := .ref (wA w (x + 3))) C (x + 2) 0 (by omega) hT.2.2.1.2.1 rfl rfl (by decide) inX1 fX7_87 rfl (D (51, .getfield 87, 3) (mg 29 rfl)) rfl ?_
              refine X_iload_n C 3 (D (54, .iload_n 3, 1) (mg 30 rfl)) rfl rfl ?_
              refine X_iald (v := h (x + 3) (j)) C (x + 3) (by omega) hT.2.2.1.2.2.1 (vp_in_nI (by omega) (by omega)) (D (55, .iaload, 1) (mg 31 rfl)) (by rw [nI_clamp (by omega)]) ?_
              refine X_ti (y := nI (0)) (hSt j (by omega)) ?_
              refine X_i2l C (D (56, .i2l, 1) (mg 32 rfl)) ?_
              refine X_ladd C (D (57, .ladd, 1) (mg 33 rfl)) ?_
              refine X_lstore_n (ls' := [some (.ref (wA w (x))), some (.long ((((31 : Int64)) * (dg2 (j))) + ((nI (0)).toInt64))), none, some (.int (nI (j)))]) C 1 (D (58, .lstore_n 1, 1) (mg 34 rfl)) rfl (Nat.le_of_ble_eq_true rfl) rfl ?_
              refine X_ldc2 C (D (59, .ldc2_w 267, 3) (mg 35 rfl)) vX7_267 ?_
              refine X_lload_n C 1 (D (62, .lload_n 1, 1) (mg 36 rfl)) rfl rfl ?_
              refine X_lmul C (D (63, .lmul, 1) (mg 37 rfl)) ?_
              refine X_aload_n C 0 (D (64, .aload_n 0, 1) (mg 38 rfl)) rfl rfl ?_
              refine X_get (v := .ref (wA w (x + 1))) C (x) 0 (by omega) hsx rfl rfl (by decide) inX7 fX7_10 rfl (D (65, .getfield 10, 3) (mg 39 rfl)) rfl ?_
              refine X_get (v := .ref (wA w (x + 2))) C (x + 1) 0 (by omega) hT.2.1 rfl rfl (by decide) inX4 fX7_61 rfl (D (68, .getfield 61, 3) (mg 40 rfl)) rfl ?_
              refine X_iload_n C 3 (D (71, .iload_n 3, 1) (mg 41 rfl)) rfl rfl ?_
              refine X_cV (As := [.int (nI (j))]) (st := [.long (((31 : Int64)) * ((((31 : Int64)) * (dg2 (j))) + ((nI (0)).toInt64)))]) C (post := _) (x + 2) (by omega) hT.2.2.1.2.1 rfl (ct_X1_kindIn hw (n := x + 2) hT.2.2.1 (j := j) (by omega) h g) kX7_148 (by decide) (by decide) rfl rfl (Nat.le_of_ble_eq_true rfl) (D (72, .invokevirtual 148, 3) (mg 42 rfl)) rfl (fun v7 H5 G6 hv7 => ?_)
              obtain ⟨rfl, rfl, rfl⟩ := hv7
              show X k w _ 75 [some (.ref (wA w (x))), some (.long ((((31 : Int64)) * (dg2 (j))) + ((nI (0)).toInt64))), none, some (.int (nI (j)))] [.int (cK (h (x + 4) (j))), .long (((31 : Int64)) * ((((31 : Int64)) * (dg2 (j))) + ((nI (0)).toInt64)))] h g
              refine X_ti (y := (-1 : Int32)) (by rw [hE j (by omega)]; exact cK_m) ?_
              refine X_i2l C (D (75, .i2l, 1) (mg 43 rfl)) ?_
              refine X_ladd C (D (76, .ladd, 1) (mg 44 rfl)) ?_
              refine X_lstore_n (ls' := [some (.ref (wA w (x))), some (.long ((((31 : Int64)) * ((((31 : Int64)) * (dg2 (j))) + ((nI (0)).toInt64))) + (((-1 : Int32)).toInt64))), none, some (.int (nI (j)))]) C 1 (D (77, .lstore_n 1, 1) (mg 45 rfl)) rfl (Nat.le_of_ble_eq_true rfl) rfl ?_
              refine X_ldc2 C (D (78, .ldc2_w 267, 3) (mg 46 rfl)) vX7_267 ?_
              refine X_lload_n C 1 (D (81, .lload_n 1, 1) (mg 47 rfl)) rfl rfl ?_
              refine X_lmul C (D (82, .lmul, 1) (mg 48 rfl)) ?_
              refine X_aload_n C 0 (D (83, .aload_n 0, 1) (mg 49 rfl)) rfl rfl ?_
              refine X_get (v := .ref (wA w (x + 1))) C (x) 0 (by omega) hsx rfl rfl (by decide) inX7 fX7_10 rfl (D (84, .getfield 10, 3) (mg 50 rfl)) rfl ?_
              refine X_get (v := .ref (wA w (x + 2))) C (x + 1) 0 (by omega) hT.2.1 rfl rfl (by decide) inX4 fX7_61 rfl (D (87, .getfield 61, 3) (mg 51 rfl)) rfl ?_
              refine X_iload_n C 3 (D (90, .iload_n 3, 1) (mg 52 rfl)) rfl rfl ?_
              refine X_cV (As := [.int (nI (j))]) (st := [.long (((31 : Int64)) * ((((31 : Int64)) * ((((31 : Int64)) * (dg2 (j))) + ((nI (0)).toInt64))) + (((-1 : Int32)).toInt64)))]) C (post := _) (x + 2) (by omega) hT.2.2.1.2.1 rfl (ct_X1_depthIn hw (n := x + 2) hT.2.2.1 (j := j) (by omega) h g) kX7_151 (by decide) (by decide) rfl rfl (Nat.le_of_ble_eq_true rfl) (D (91, .invokevirtual 151, 3) (mg 53 rfl)) rfl (fun v10 H8 G9 hv10 => ?_)
              obtain ⟨rfl, rfl, rfl⟩ := hv10
              show X k w _ 94 [some (.ref (wA w (x))), some (.long ((((31 : Int64)) * ((((31 : Int64)) * (dg2 (j))) + ((nI (0)).toInt64))) + (((-1 : Int32)).toInt64))), none, some (.int (nI (j)))] [.int (cD (h (x + 4) (j))), .long (((31 : Int64)) * ((((31 : Int64)) * ((((31 : Int64)) * (dg2 (j))) + ((nI (0)).toInt64))) + (((-1 : Int32)).toInt64)))] h g
              refine X_ti (y := (-1 : Int32)) (by rw [hE j (by omega)]; exact cD_m) ?_
              refine X_i2l C (D (94, .i2l, 1) (mg 54 rfl)) ?_
              refine X_ladd C (D (95, .ladd, 1) (mg 55 rfl)) ?_
              refine X_lstore_n (ls' := [some (.ref (wA w (x))), some (.long ((((31 : Int64)) * ((((31 : Int64)) * ((((31 : Int64)) * (dg2 (j))) + ((nI (0)).toInt64))) + (((-1 : Int32)).toInt64))) + (((-1 : Int32)).toInt64))), none, some (.int (nI (j)))]) C 1 (D (96, .lstore_n 1, 1) (mg 56 rfl)) rfl (Nat.le_of_ble_eq_true rfl) rfl ?_
              refine X_ldc2 C (D (97, .ldc2_w 267, 3) (mg 57 rfl)) vX7_267 ?_
              refine X_lload_n C 1 (D (100, .lload_n 1, 1) (mg 58 rfl)) rfl rfl ?_
              refine X_lmul C (D (101, .lmul, 1) (mg 59 rfl)) ?_
              refine X_aload_n C 0 (D (102, .aload_n 0, 1) (mg 60 rfl)) rfl rfl ?_
              refine X_get (v := .ref (wA w (x + 1))) C (x) 0 (by omega) hsx rfl rfl (by decide) inX7 fX7_10 rfl (D (103, .getfield 10, 3) (mg 61 rfl)) rfl ?_
              refine X_get (v := .ref (wA w (x + 2))) C (x + 1) 0 (by omega) hT.2.1 rfl rfl (by decide) inX4 fX7_61 rfl (D (106, .getfield 61, 3) (mg 62 rfl)) rfl ?_
              refine X_iload_n C 3 (D (109, .iload_n 3, 1) (mg 63 rfl)) rfl rfl ?_
              refine X_cV (As := [.int (nI (j))]) (st := [.long (((31 : Int64)) * ((((31 : Int64)) * ((((31 : Int64)) * ((((31 : Int64)) * (dg2 (j))) + ((nI (0)).toInt64))) + (((-1 : Int32)).toInt64))) + (((-1 : Int32)).toInt64)))]) C (post := _) (x + 2) (by omega) hT.2.2.1.2.1 rfl (ct_X1_ageIn hw (n := x + 2) hT.2.2.1 (j := j) (by omega) h g) kX7_154 (by decide) (by decide) rfl rfl (Nat.le_of_ble_eq_true rfl) (D (110, .invokevirtual 154, 3) (mg 64 rfl)) rfl (fun v13 H11 G12 hv13 => ?_)
              obtain ⟨rfl, rfl, rfl⟩ := hv13
              show X k w _ 113 [some (.ref (wA w (x))), some (.long ((((31 : Int64)) * ((((31 : Int64)) * ((((31 : Int64)) * (dg2 (j))) + ((nI (0)).toInt64))) + (((-1 : Int32)).toInt64))) + (((-1 : Int32)).toInt64))), none, some (.int (nI (j)))] [.int (cA (h (x + 4) (j))), .long (((31 : Int64)) * ((((31 : Int64)) * ((((31 : Int64)) * ((((31 : Int64)) * (dg2 (j))) + ((nI (0)).toInt64))) + (((-1 : Int32)).toInt64))) + (((-1 : Int32)).toInt64)))] h g
              refine X_ti (y := (-1 : Int32)) (by rw [hE j (by omega)]; exact cA_m) ?_
              refine X_i2l C (D (113, .i2l, 1) (mg 65 rfl)) ?_
              refine X_ladd C (D (114, .ladd, 1) (mg 66 rfl)) ?_
              refine X_lstore_n (ls' := [some (.ref (wA w (x))), some (.long ((((31 : Int64)) * ((((31 : Int64)) * ((((31 : Int64)) * ((((31 : Int64)) * (dg2 (j))) + ((nI (0)).toInt64))) + (((-1 : Int32)).toInt64))) + (((-1 : Int32)).toInt64))) + (((-1 : Int32)).toInt64))), none, some (.int (nI (j)))]) C 1 (D (115, .lstore_n 1, 1) (mg 67 rfl)) rfl (Nat.le_of_ble_eq_true rfl) rfl ?_
              refine X_iinc (v := nI (j + 1)) (ls' := [some (.ref (wA w (x))), some (.long ((((31 : Int64)) * ((((31 : Int64)) * ((((31 : Int64)) * ((((31 : Int64)) * (dg2 (j))) + ((nI (0)).toInt64))) + (((-1 : Int32)).toInt64))) + (((-1 : Int32)).toInt64))) + (((-1 : Int32)).toInt64))), none, some (.int (nI (j + 1)))]) C (D (116, .iinc 3 1, 3) (mg 68 rfl)) rfl (nI_add (j) 1) rfl ?_
              refine X_goto (tgt := 33) C (D (119, .goto (-86), 3) (mg 69 rfl)) (by decide) ?_
              refine X_eq (ls' := [some (.ref (wA w (x))), some (.long (dg2 (j + 1))), none, some (.int (nI (j + 1)))]) (st' := []) (h' := h) (g' := g) (by rw [dg2_s]) rfl rfl rfl ?_
              exact ih33 (j + 1) (by omega) (by omega)
        refine X_eq (ls' := [some (.ref (wA w (x))), some (.long (dg2 (0))), none, some (.int (nI (0)))]) (st' := []) (h' := h) (g' := g) (by rw [show j = 10 by omega]; rfl) rfl rfl rfl ?_
        exact lp33 _ (0) (by omega) (Nat.le_refl _)
      · skip
        have q1 : (j) < (10) := by have z : ¬ ((10) ≤ (j)) := fun u => q1 ((nI_leI (a := (10)) (b := (j)) (by omega) (by omega)).mpr u); omega
        refine X_ldc2 C (D (12, .ldc2_w 267, 3) (mg 7 rfl)) vX7_267 ?_
        refine X_lload_n C 1 (D (15, .lload_n 1, 1) (mg 8 rfl)) rfl rfl ?_
        refine X_lmul C (D (16, .lmul, 1) (mg 9 rfl)) ?_
        refine X_aload_n C 0 (D (17, .aload_n 0, 1) (mg 10 rfl)) rfl rfl ?_
        refine X_iload_n C 3 (D (18, .iload_n 3, 1) (mg 11 rfl)) rfl rfl ?_
        refine X_cV (As := [.int (nI (j))]) (st := [.long (((31 : Int64)) * (dg1 (j)))]) C (post := _) (x) (by omega) hsx rfl (cx_X7_howMany hw hC0 (nI (j)) h g hF) kX7_262 (by decide) (by decide) rfl rfl (Nat.le_of_ble_eq_true rfl) (D (19, .invokevirtual 262, 3) (mg 12 rfl)) rfl (fun v16 H14 G15 hv16 => ?_)
        obtain ⟨rfl, rfl, rfl⟩ := hv16
        show X k w _ 22 [some (.ref (wA w (x))), some (.long (dg1 (j))), none, some (.int (nI (j)))] [.int (nI (0)), .long (((31 : Int64)) * (dg1 (j)))] h g
        refine X_i2l C (D (22, .i2l, 1) (mg 13 rfl)) ?_
        refine X_ladd C (D (23, .ladd, 1) (mg 14 rfl)) ?_
        refine X_lstore_n (ls' := [some (.ref (wA w (x))), some (.long ((((31 : Int64)) * (dg1 (j))) + ((nI (0)).toInt64))), none, some (.int (nI (j)))]) C 1 (D (24, .lstore_n 1, 1) (mg 15 rfl)) rfl (Nat.le_of_ble_eq_true rfl) rfl ?_
        refine X_iinc (v := nI (j + 1)) (ls' := [some (.ref (wA w (x))), some (.long ((((31 : Int64)) * (dg1 (j))) + ((nI (0)).toInt64))), none, some (.int (nI (j + 1)))]) C (D (25, .iinc 3 1, 3) (mg 16 rfl)) rfl (nI_add (j) 1) rfl ?_
        refine X_goto (tgt := 6) C (D (28, .goto (-22), 3) (mg 17 rfl)) (by decide) ?_
        refine X_eq (ls' := [some (.ref (wA w (x))), some (.long (dg1 (j + 1))), none, some (.int (nI (j + 1)))]) (st' := []) (h' := h) (g' := g) (by rw [dg1_s]) rfl rfl rfl ?_
        exact ih6 (j + 1) (by omega) (by omega)
  refine X_eq (ls' := [some (.ref (wA w (x))), some (.long (dg1 (0))), none, some (.int (nI (0)))]) (st' := []) (h' := h) (g' := g) rfl rfl rfl rfl ?_
  exact lp6 _ (0) (by omega) (Nat.le_refl _)
set_option maxHeartbeats 4000000 in
set_option maxRecDepth 100000 in
theorem cx_X7_years {l : Launch} {w : Kw} (hw : wOk w) {x : Nat} (hC : shC w x) (a1 a2 : Int32) (h : xI) (g : xJ) (hF : cFr x h) : Ct l w yX7_years cX7_years 8 (some .int) 5 113 [.ref (wA w (x)), .int (a1), .int (a2)] h g (pF (if (0 ≤ a1.toInt ∧ a1.toInt < 1000000) ∧ (0 ≤ a2.toInt ∧ a2.toInt ≤ 60) then nI (gN (yrZ a1.toInt.toNat a2.toInt.toNat)) else (-2 : Int32)) x h) := by
  refine Ct_of (ls := [some (.ref (wA w (x))), some (.int (a1)), some (.int (a2)), none, none, none, none, none]) (by decide) hw (Nat.le_of_ble_eq_true rfl) rfl (fun k hkl C => ?_)
  have C : Cx k w cX7_years RX7 8 (some .int) 5 113 := C
  have D := dtX7_years
  subst hkl
  generalize hPP : (pF (if (0 ≤ a1.toInt ∧ a1.toInt < 1000000) ∧ (0 ≤ a2.toInt ∧ a2.toInt ≤ 60) then nI (gN (yrZ a1.toInt.toNat a2.toInt.toNat)) else (-2 : Int32)) x h) = PP
  have hC0 := hC
  obtain ⟨hxn, hsx, hT, hsi, hTa, hTb, hsk, hNs, hY, hX, hsv⟩ := hC
  have hY2 := hY.1
  have hX2 := hX.1
  have hF0 := hF
  obtain ⟨hI, hE, hSt, hk2, hk3, hk4, hps, hse, hma, htx, hr9, hr10, hr11⟩ := hF
  have hI0 := hI
  obtain ⟨⟨⟨c0_, hc0_, hat_⟩, hpa, -, -⟩, -, -, -, -⟩ := hI
  have hI := hI0
  have hF := hF0
  refine X_iload_n C 1 (D (0, .iload_n 1, 1) (mg 0 rfl)) rfl rfl ?_
  refine X_ldc C (D (1, .ldc 227, 2) (mg 1 rfl)) vX7_227 ?_
  refine X_ti (y := nI (1000000)) (by decide) ?_
  refine X_cS (As := [.int (a1), .int (nI (1000000))]) (st := []) C (post := _) (ct_X7_isBelow hw (a1) (B := 1000000) (by decide) h g) kX7_53 (by decide) (by decide) rfl rfl (Nat.le_of_ble_eq_true rfl) (D (3, .invokestatic 53, 3) (mg 2 rfl)) rfl (fun v3 H1 G2 hv3 => ?_)
  obtain ⟨rfl, rfl, rfl⟩ := hv3
  show X k w _ 6 [some (.ref (wA w (x))), some (.int (a1)), some (.int (a2)), none, none, none, none, none] [.int (if 0 ≤ (a1).toInt ∧ (a1).toInt < ((1000000 : Nat) : Int) then 1 else 0)] h g
  refine X_if_eq (tgt := 16) C (D (6, .ifCond .eq 10, 3) (mg 3 rfl)) (by decide) (fun q4 => ?_) (fun q4 => ?_)
  · skip
    have q4 : ¬ (0 ≤ (a1).toInt ∧ (a1).toInt < ((1000000 : Nat) : Int)) := bz0.mp q4
    refine X_aload_n C 0 (D (16, .aload_n 0, 1) (mg 7 rfl)) rfl rfl ?_
    refine X_cV (As := []) (st := []) C (post := _) (x) (by omega) hsx rfl (ct_X7_refuseBad hw hC0 h g) kX7_57 (by decide) (by decide) rfl rfl (Nat.le_of_ble_eq_true rfl) (D (17, .invokevirtual 57, 3) (mg 8 rfl)) rfl (fun v7 H5 G6 hv7 => ?_)
    obtain ⟨rfl, rfl, rfl⟩ := hv7
    show X k w _ 20 [some (.ref (wA w (x))), some (.int (a1)), some (.int (a2)), none, none, none, none, none] [.int ((-2 : Int32))] (rcH h (x) 9) g
    exact X_iret C (D (20, .ireturn, 1) (mg 9 rfl)) (by rw [← hPP]; exact pF_i (if_neg (by omega)) (fun q i z => by rw [rcH_ne _ _ _ (by omega)]))
  · skip
    have q4 : (0 ≤ (a1).toInt ∧ (a1).toInt < ((1000000 : Nat) : Int)) := bz1.mp q4
    obtain ⟨n8, hn8, rfl⟩ := nI_i (x := a1) (n := 1000000) q4.1 (by omega)
    refine X_iload_n C 2 (D (9, .iload_n 2, 1) (mg 4 rfl)) rfl rfl ?_
    refine X_cS (As := [.int (a2)]) (st := []) C (post := _) (ct_X7_isLookAhead hw (a2) h g) kX7_160 (by decide) (by decide) rfl rfl (Nat.le_of_ble_eq_true rfl) (D (10, .invokestatic 160, 3) (mg 5 rfl)) rfl (fun v11 H9 G10 hv11 => ?_)
    obtain ⟨rfl, rfl, rfl⟩ := hv11
    show X k w _ 13 [some (.ref (wA w (x))), some (.int (nI (n8))), some (.int (a2)), none, none, none, none, none] [.int (if 0 ≤ (a2).toInt ∧ (a2).toInt < ((61 : Nat) : Int) then 1 else 0)] h g
    refine X_if_ne (tgt := 21) C (D (13, .ifCond .ne 8, 3) (mg 6 rfl)) (by decide) (fun q12 => ?_) (fun q12 => ?_)
    · skip
      have q12 : (0 ≤ (a2).toInt ∧ (a2).toInt < ((61 : Nat) : Int)) := bz1.mp q12
      obtain ⟨n13, hn13, rfl⟩ := nI_i (x := a2) (n := 61) q12.1 (by omega)
      refine X_aload_n C 0 (D (21, .aload_n 0, 1) (mg 10 rfl)) rfl rfl ?_
      refine X_get (v := .ref (wA w (x + 27))) C (x) 3 (by omega) hsx rfl rfl (by decide) inX7 fX7_27 rfl (D (22, .getfield 27, 3) (mg 11 rfl)) rfl ?_
      refine X_aload_n C 0 (D (25, .aload_n 0, 1) (mg 12 rfl)) rfl rfl ?_
      refine X_get (v := .ref (wA w (x + 1))) C (x) 0 (by omega) hsx rfl rfl (by decide) inX7 fX7_10 rfl (D (26, .getfield 10, 3) (mg 13 rfl)) rfl ?_
      refine X_get (v := .ref (wA w (x + 2))) C (x + 1) 0 (by omega) hT.2.1 rfl rfl (by decide) inX4 fX7_61 rfl (D (29, .getfield 61, 3) (mg 14 rfl)) rfl ?_
      refine X_cV (As := [.ref (wA w (x + 2))]) (st := []) C (post := _) (x + 27) (by omega) hNs.2.1 rfl (ct_X1_copyFrom hw (n := x + 27) hNs (o := x + 2) hT.2.2.1 h g) kX7_101 (by decide) (by decide) rfl rfl (Nat.le_of_ble_eq_true rfl) (D (32, .invokevirtual 101, 3) (mg 15 rfl)) rfl (fun v16 H14 G15 hv16 => ?_)
      obtain ⟨rfl, rfl, rfl⟩ := hv16
      show X k w _ 35 [some (.ref (wA w (x))), some (.int (nI (n8))), some (.int (nI (n13))), none, none, none, none, none] [] (ccH h (x + 27) (x + 2)) g
      refine X_iload_n C 1 (D (35, .iload_n 1, 1) (mg 16 rfl)) rfl rfl ?_
      refine X_i2l C (D (36, .i2l, 1) (mg 17 rfl)) ?_
      refine X_tl (y := lN (n8)) (nI_l (by omega)) ?_
      refine X_lstore_n (ls' := [some (.ref (wA w (x))), some (.int (nI (n8))), some (.int (nI (n13))), some (.long (lN (n8))), none, none, none, none]) C 3 (D (37, .lstore_n 3, 1) (mg 18 rfl)) rfl (Nat.le_of_ble_eq_true rfl) rfl ?_
      refine X_iconst (v := nI (0)) C (D (38, .iconst 0, 1) (mg 19 rfl)) (by decide) ?_
      refine X_istore (ls' := [some (.ref (wA w (x))), some (.int (nI (n8))), some (.int (nI (n13))), some (.long (lN (n8))), none, some (.int (nI (0))), none, none]) C (D (39, .istore 5, 2) (mg 20 rfl)) (Nat.le_of_ble_eq_true rfl) rfl ?_
      have lp41 : ∀ (nn41 : Nat) (j : Nat) (hp41 : xI) (gp41 : xJ), (j ≤ n13) → (rC hp41 (x + 27) (yrZ n8 j)) → (∀ q i, x + 38 < q → hp41 q i = h q i) → n13 + 1 - j ≤ nn41 → X k w (Zq k w (PP)) 41 [some (.ref (wA w (x))), some (.int (nI (n8))), some (.int (nI (n13))), some (.long (lN (yrX n8 (j)))), none, some (.int (nI (j))), none, none] [] hp41 gp41 := by
        intro nn41
        induction nn41 with
        | zero => intro j hp41 gp41 hc41_0 hc41_1 hc41_2 hz; exact absurd hz (by omega)
        | succ nn41 ih41 =>
          intro j hp41 gp41 hc41_0 hc41_1 hc41_2 hz41
          refine X_iload C (D (41, .iload 5, 2) (mg 21 rfl)) rfl ?_
          refine X_iload_n C 2 (D (43, .iload_n 2, 1) (mg 22 rfl)) rfl rfl ?_
          refine X_icmp_ge (tgt := 154) C (D (44, .if_icmp .ge 110, 3) (mg 23 rfl)) (by decide) (fun q17 => ?_) (fun q17 => ?_)
          · skip
            have q17 : (j) ≥ (n13) := by have z := (nI_leI (a := (n13)) (b := (j)) (by omega) (by omega)).mp q17; omega
            refine X_aload_n C 0 (D (154, .aload_n 0, 1) (mg 77 rfl)) rfl rfl ?_
            refine X_get (v := .ref (wA w (x + 27))) C (x) 3 (by omega) hsx rfl rfl (by decide) inX7 fX7_27 rfl (D (155, .getfield 27, 3) (mg 78 rfl)) rfl ?_
            refine X_iconst (v := nI (0)) C (D (158, .iconst 0, 1) (mg 79 rfl)) (by decide) ?_
            refine X_cV (As := [.int (nI (0))]) (st := []) C (post := _) (x + 27) (by omega) hNs.2.1 rfl (cx_X1_greenAfter hw (n := x + 27) hNs (nI (0)) hp41 gp41) kX7_141 (by decide) (by decide) rfl rfl (Nat.le_of_ble_eq_true rfl) (D (159, .invokevirtual 141, 3) (mg 80 rfl)) rfl (fun v20 H18 G19 hv20 => ?_)
            obtain ⟨rfl, rfl, rfl⟩ := hv20
            show X k w _ 162 [some (.ref (wA w (x))), some (.int (nI (n8))), some (.int (nI (n13))), some (.long (lN (yrX n8 (j)))), none, some (.int (nI (j))), none, none] [.int (nI (cn (fun c => ¬ htC (hp41 (x + 29) c) (nI (0)) < nI 1) 25))] hp41 gp41
            refine X_ti (y := nI (gN (yrZ n8 j))) (congrArg nI (gN_c hc41_1 (yrZ_ok _ _))) ?_
            exact X_iret C (D (162, .ireturn, 1) (mg 81 rfl)) (by rw [← hPP]; exact pF_i ((if_pos (by omega)).trans (by rw [nI_tn (by omega), nI_tn (by omega), show j = n13 by omega])) hc41_2)
          · skip
            have q17 : (j) < (n13) := by have z : ¬ ((n13) ≤ (j)) := fun u => q17 ((nI_leI (a := (n13)) (b := (j)) (by omega) (by omega)).mpr u); omega
            have hyx_ := yrX_lt (x0 := n8) (by omega) j
            have hyy_ := yrX_lt (x0 := n8) (by omega) (j + 1)
            have yo_ := yrZ_ok n8 j
            refine X_lload_n C 3 (D (47, .lload_n 3, 1) (mg 24 rfl)) rfl rfl ?_
            refine X_ldc2 C (D (48, .ldc2_w 228, 3) (mg 25 rfl)) vX7_228 ?_
            refine X_tl (y := lN (1103515245)) rfl ?_
            refine X_lmul C (D (51, .lmul, 1) (mg 26 rfl)) ?_
            refine X_tl (y := lN ((yrX n8 (j)) * (1103515245))) (lN_mul (yrX n8 (j)) (1103515245)) ?_
            refine X_ldc2 C (D (52, .ldc2_w 230, 3) (mg 27 rfl)) vX7_230 ?_
            refine X_tl (y := lN (12345)) rfl ?_
            refine X_ladd C (D (55, .ladd, 1) (mg 28 rfl)) ?_
            refine X_tl (y := lN (((yrX n8 (j)) * (1103515245)) + (12345))) (lN_add ((yrX n8 (j)) * (1103515245)) (12345)) ?_
            refine X_ldc2 C (D (56, .ldc2_w 232, 3) (mg 29 rfl)) vX7_232 ?_
            refine X_tl (y := lN (2147483648)) rfl ?_
            refine X_lrem C (D (59, .lrem, 1) (mg 30 rfl)) (by decide) ?_
            refine X_tl (y := lN (yrX n8 (j + 1))) (show _ = lN ((((yrX n8 (j)) * (1103515245)) + (12345)) % (2147483648)) from pk_lRem (by omega) (by omega) (by omega)) ?_
            refine X_lstore_n (ls' := [some (.ref (wA w (x))), some (.int (nI (n8))), some (.int (nI (n13))), some (.long (lN (yrX n8 (j + 1)))), none, some (.int (nI (j))), none, none]) C 3 (D (60, .lstore_n 3, 1) (mg 31 rfl)) rfl (Nat.le_of_ble_eq_true rfl) rfl ?_
            refine X_lload_n C 3 (D (61, .lload_n 3, 1) (mg 32 rfl)) rfl rfl ?_
            refine X_ldc2 C (D (62, .ldc2_w 234, 3) (mg 33 rfl)) vX7_234 ?_
            refine X_tl (y := lN (1048576)) rfl ?_
            refine X_ldiv C (D (65, .ldiv, 1) (mg 34 rfl)) (by decide) ?_
            refine X_tl (y := lN ((yrX n8 (j + 1)) / (1048576))) (pk_lDiv (by omega) (by omega) (by omega)) ?_
            refine X_ldc2 C (D (66, .ldc2_w 236, 3) (mg 35 rfl)) vX7_236 ?_
            refine X_tl (y := lN (25)) rfl ?_
            refine X_lrem C (D (69, .lrem, 1) (mg 36 rfl)) (by decide) ?_
            refine X_tl (y := lN (((yrX n8 (j + 1)) / (1048576)) % (25))) (pk_lRem (by omega) (by omega) (by omega)) ?_
            refine X_l2i C (D (70, .l2i, 1) (mg 37 rfl)) ?_
            refine X_ti (y := nI (((yrX n8 (j + 1)) / (1048576)) % (25))) (lN_i _) ?_
            refine X_istore (ls' := [some (.ref (wA w (x))), some (.int (nI (n8))), some (.int (nI (n13))), some (.long (lN (yrX n8 (j + 1)))), none, some (.int (nI (j))), some (.int (nI (((yrX n8 (j + 1)) / (1048576)) % (25)))), none]) C (D (71, .istore 6, 2) (mg 38 rfl)) (Nat.le_of_ble_eq_true rfl) rfl ?_
            refine X_aload_n C 0 (D (73, .aload_n 0, 1) (mg 39 rfl)) rfl rfl ?_
            refine X_get (v := .ref (wA w (x + 27))) C (x) 3 (by omega) hsx rfl rfl (by decide) inX7 fX7_27 rfl (D (74, .getfield 27, 3) (mg 40 rfl)) rfl ?_
            refine X_iload C (D (77, .iload 6, 2) (mg 41 rfl)) rfl ?_
            refine X_cV (As := [.int (nI (((yrX n8 (j + 1)) / (1048576)) % (25)))]) (st := []) C (post := _) (x + 27) (by omega) hNs.2.1 rfl (ct_X1_liesIn hw (n := x + 27) hNs (j := ((yrX n8 (j + 1)) / (1048576)) % (25)) (by omega) hp41 gp41) kX7_105 (by decide) (by decide) rfl rfl (Nat.le_of_ble_eq_true rfl) (D (79, .invokevirtual 105, 3) (mg 42 rfl)) rfl (fun v23 H21 G22 hv23 => ?_)
            obtain ⟨rfl, rfl, rfl⟩ := hv23
            show X k w _ 82 [some (.ref (wA w (x))), some (.int (nI (n8))), some (.int (nI (n13))), some (.long (lN (yrX n8 (j + 1)))), none, some (.int (nI (j))), some (.int (nI (((yrX n8 (j + 1)) / (1048576)) % (25)))), none] [.int (if ¬ hp41 (x + 29) (((yrX n8 (j + 1)) / (1048576)) % (25)) = (-1 : Int32) then 1 else 0)] hp41 gp41
            refine X_if_ne (tgt := 104) C (D (82, .ifCond .ne 22, 3) (mg 43 rfl)) (by decide) (fun q24 => ?_) (fun q24 => ?_)
            · skip
              have q24 : (¬ hp41 (x + 29) (((yrX n8 (j + 1)) / (1048576)) % (25)) = (-1 : Int32)) := bz1.mp q24
              have hli_ : ¬ (yrZ n8 j).2.2.2 (((yrX n8 (j + 1)) / (1048576)) % (25)) = 0 := fun u_ => q24 (by rw [hc41_1.2.2.2 (((yrX n8 (j + 1)) / (1048576)) % (25)) (by omega)]; exact (eC_n (yo_.2.2.2 _ (by omega))).mpr u_)
              have hz1_ : rC hp41 (x + 27) (ySy (yrZ n8 j) (((yrX n8 (j + 1)) / (1048576)) % (25)) (((yrX n8 (j + 1)) / (65536)) % (6))) := by (unfold ySy; rw [if_neg hli_]; exact hc41_1)
              have ho1_ : nOk (ySy (yrZ n8 j) (((yrX n8 (j + 1)) / (1048576)) % (25)) (((yrX n8 (j + 1)) / (65536)) % (6))) := ySy_ok yo_ (by omega)
              obtain ⟨z1, ez1_⟩ : ∃ z1, z1 = ySy (yrZ n8 j) (((yrX n8 (j + 1)) / (1048576)) % (25)) (((yrX n8 (j + 1)) / (65536)) % (6)) := ⟨_, rfl⟩
              rw [← ez1_] at hz1_ ho1_
              have hat1_ := ho1_.2.1
              refine X_aload_n C 0 (D (104, .aload_n 0, 1) (mg 54 rfl)) rfl rfl ?_
              refine X_get (v := .ref (wA w (x + 27))) C (x) 3 (by omega) hsx rfl rfl (by decide) inX7 fX7_27 rfl (D (105, .getfield 27, 3) (mg 55 rfl)) rfl ?_
              refine X_get (v := .int (hp41 (x + 27) 3)) C (x + 27) 3 (by omega) hNs.2.1 rfl rfl (by decide) inX1 fX7_118 rfl (D (108, .getfield 118, 3) (mg 56 rfl)) rfl ?_
              refine X_ti (y := nI (z1.2.1)) hz1_.2.1 ?_
              refine X_lload_n C 3 (D (111, .lload_n 3, 1) (mg 57 rfl)) rfl rfl ?_
              refine X_ldc2 C (D (112, .ldc2_w 242, 3) (mg 58 rfl)) vX7_242 ?_
              refine X_tl (y := lN (16384)) rfl ?_
              refine X_ldiv C (D (115, .ldiv, 1) (mg 59 rfl)) (by decide) ?_
              refine X_tl (y := lN ((yrX n8 (j + 1)) / (16384))) (pk_lDiv (by omega) (by omega) (by omega)) ?_
              refine X_ldc2 C (D (116, .ldc2_w 244, 3) (mg 60 rfl)) vX7_244 ?_
              refine X_tl (y := lN (4)) rfl ?_
              refine X_lrem C (D (119, .lrem, 1) (mg 61 rfl)) (by decide) ?_
              refine X_tl (y := lN (((yrX n8 (j + 1)) / (16384)) % (4))) (pk_lRem (by omega) (by omega) (by omega)) ?_
              refine X_l2i C (D (120, .l2i, 1) (mg 62 rfl)) ?_
              refine X_ti (y := nI (((yrX n8 (j + 1)) / (16384)) % (4))) (lN_i _) ?_
              refine X_cS (As := [.int (nI (z1.2.1)), .int (nI (((yrX n8 (j + 1)) / (16384)) % (4)))]) (st := []) C (post := _) (ct_X7_beside hw (j := z1.2.1) (by omega) (nI (((yrX n8 (j + 1)) / (16384)) % (4))) hp41 gp41) kX7_121 (by decide) (by decide) rfl rfl (Nat.le_of_ble_eq_true rfl) (D (121, .invokestatic 121, 3) (mg 63 rfl)) rfl (fun v27 H25 G26 hv27 => ?_)
              obtain ⟨⟨y28, rfl, hy28, ey28⟩, rfl, rfl⟩ := hv27
              show X k w _ 124 [some (.ref (wA w (x))), some (.int (nI (n8))), some (.int (nI (n13))), some (.long (lN (yrX n8 (j + 1)))), none, some (.int (nI (j))), some (.int (nI (((yrX n8 (j + 1)) / (1048576)) % (25)))), none] [.int (y28)] hp41 gp41
              refine X_istore (ls' := [some (.ref (wA w (x))), some (.int (nI (n8))), some (.int (nI (n13))), some (.long (lN (yrX n8 (j + 1)))), none, some (.int (nI (j))), some (.int (nI (((yrX n8 (j + 1)) / (1048576)) % (25)))), some (.int (y28))]) C (D (124, .istore 7, 2) (mg 64 rfl)) (Nat.le_of_ble_eq_true rfl) rfl ?_
              refine X_iload C (D (126, .iload 7, 2) (mg 65 rfl)) rfl ?_
              refine X_iconst (v := (-1 : Int32)) C (D (128, .iconst (-1), 1) (mg 66 rfl)) (by decide) ?_
              refine X_icmp_eq (tgt := 141) C (D (129, .if_icmp .eq 12, 3) (mg 67 rfl)) (by decide) (fun q29 => ?_) (fun q29 => ?_)
              · skip
                subst q29
                have hbs_ := bq_m (by omega) (by omega) ey28
                have hz2_ : rC hp41 (x + 27) (ySt z1 (((yrX n8 (j + 1)) / (16384)) % (4))) := by (unfold ySt; rw [if_neg hbs_]; exact hz1_)
                have ho2_ : nOk (ySt z1 (((yrX n8 (j + 1)) / (16384)) % (4))) := ySt_ok ho1_
                refine X_aload_n C 0 (D (141, .aload_n 0, 1) (mg 72 rfl)) rfl rfl ?_
                refine X_get (v := .ref (wA w (x + 27))) C (x) 3 (by omega) hsx rfl rfl (by decide) inX7 fX7_27 rfl (D (142, .getfield 27, 3) (mg 73 rfl)) rfl ?_
                refine X_cV (As := []) (st := []) C (post := _) (x + 27) (by omega) hNs.2.1 rfl (ct_X1_passWeek hw (n := x + 27) hNs  hp41 gp41) kX7_138 (by decide) (by decide) rfl rfl (Nat.le_of_ble_eq_true rfl) (D (145, .invokevirtual 138, 3) (mg 74 rfl)) rfl (fun v32 H30 G31 hv32 => ?_)
                obtain ⟨rfl, rfl, rfl⟩ := hv32
                show X k w _ 148 [some (.ref (wA w (x))), some (.int (nI (n8))), some (.int (nI (n13))), some (.long (lN (yrX n8 (j + 1)))), none, some (.int (nI (j))), some (.int (nI (((yrX n8 (j + 1)) / (1048576)) % (25)))), some (.int ((-1 : Int32)))] [] (cwH hp41 (x + 27)) gp41
                refine X_iinc (v := nI (j + 1)) (ls' := [some (.ref (wA w (x))), some (.int (nI (n8))), some (.int (nI (n13))), some (.long (lN (yrX n8 (j + 1)))), none, some (.int (nI (j + 1))), some (.int (nI (((yrX n8 (j + 1)) / (1048576)) % (25)))), some (.int ((-1 : Int32)))]) C (D (148, .iinc 5 1, 3) (mg 75 rfl)) rfl (nI_add (j) 1) rfl ?_
                refine X_goto (tgt := 41) C (D (151, .goto (-110), 3) (mg 76 rfl)) (by decide) ?_
                refine X_los (ls' := [some (.ref (wA w (x))), some (.int (nI (n8))), some (.int (nI (n13))), some (.long (lN (yrX n8 (j + 1)))), none, some (.int (nI (j + 1))), none, none]) (by simp [lsub]) ?_
                refine X_eq (ls' := [some (.ref (wA w (x))), some (.int (nI (n8))), some (.int (nI (n13))), some (.long (lN (yrX n8 (j + 1)))), none, some (.int (nI (j + 1))), none, none]) (st' := []) (h' := (cwH hp41 (x + 27))) (g' := gp41) rfl rfl rfl rfl ?_
                exact ih41 (j + 1) ((cwH hp41 (x + 27))) (gp41) (by omega) (by subst ez1_; exact rC_wk hz2_ ho2_) (fun q i z => by rw [cwH_ne _ _ (by omega)]; exact hc41_2 q i z) (by omega)
              · skip
                obtain ⟨c33, hc33, rfl⟩ := hy28.resolve_left q29
                obtain ⟨hbs_, rfl⟩ := bq_c (by omega) (by omega) hc33 ey28
                refine X_aload_n C 0 (D (132, .aload_n 0, 1) (mg 68 rfl)) rfl rfl ?_
                refine X_get (v := .ref (wA w (x + 27))) C (x) 3 (by omega) hsx rfl rfl (by decide) inX7 fX7_27 rfl (D (133, .getfield 27, 3) (mg 69 rfl)) rfl ?_
                refine X_iload C (D (136, .iload 7, 2) (mg 70 rfl)) rfl ?_
                refine X_cV (As := [.int (nI ((bsN z1.2.1 (((yrX n8 (j + 1)) / (16384)) % (4)))))]) (st := []) C (post := _) (x + 27) (by omega) hNs.2.1 rfl (ct_X1_stepTo hw (n := x + 27) hNs (j := (bsN z1.2.1 (((yrX n8 (j + 1)) / (16384)) % (4)))) (by omega) hp41 gp41) kX7_125 (by decide) (by decide) rfl rfl (Nat.le_of_ble_eq_true rfl) (D (138, .invokevirtual 125, 3) (mg 71 rfl)) rfl (fun v36 H34 G35 hv36 => ?_)
                obtain ⟨rfl, rfl, rfl⟩ := hv36
                show X k w _ 141 [some (.ref (wA w (x))), some (.int (nI (n8))), some (.int (nI (n13))), some (.long (lN (yrX n8 (j + 1)))), none, some (.int (nI (j))), some (.int (nI (((yrX n8 (j + 1)) / (1048576)) % (25)))), some (.int (nI ((bsN z1.2.1 (((yrX n8 (j + 1)) / (16384)) % (4))))))] [] (csH hp41 (x + 27) ((bsN z1.2.1 (((yrX n8 (j + 1)) / (16384)) % (4))))) gp41
                have hz2_ : rC (csH hp41 (x + 27) ((bsN z1.2.1 (((yrX n8 (j + 1)) / (16384)) % (4))))) (x + 27) (ySt z1 (((yrX n8 (j + 1)) / (16384)) % (4))) := by (unfold ySt; rw [if_pos hbs_]; exact rC_stp hz1_ ho1_ hbs_)
                have ho2_ : nOk (ySt z1 (((yrX n8 (j + 1)) / (16384)) % (4))) := ySt_ok ho1_
                refine X_aload_n C 0 (D (141, .aload_n 0, 1) (mg 72 rfl)) rfl rfl ?_
                refine X_get (v := .ref (wA w (x + 27))) C (x) 3 (by omega) hsx rfl rfl (by decide) inX7 fX7_27 rfl (D (142, .getfield 27, 3) (mg 73 rfl)) rfl ?_
                refine X_cV (As := []) (st := []) C (post := _) (x + 27) (by omega) hNs.2.1 rfl (ct_X1_passWeek hw (n := x + 27) hNs  (csH hp41 (x + 27) ((bsN z1.2.1 (((yrX n8 (j + 1)) / (16384)) % (4))))) gp41) kX7_138 (by decide) (by decide) rfl rfl (Nat.le_of_ble_eq_true rfl) (D (145, .invokevirtual 138, 3) (mg 74 rfl)) rfl (fun v39 H37 G38 hv39 => ?_)
                obtain ⟨rfl, rfl, rfl⟩ := hv39
                show X k w _ 148 [some (.ref (wA w (x))), some (.int (nI (n8))), some (.int (nI (n13))), some (.long (lN (yrX n8 (j + 1)))), none, some (.int (nI (j))), some (.int (nI (((yrX n8 (j + 1)) / (1048576)) % (25)))), some (.int (nI ((bsN z1.2.1 (((yrX n8 (j + 1)) / (16384)) % (4))))))] [] (cwH (csH hp41 (x + 27) ((bsN z1.2.1 (((yrX n8 (j + 1)) / (16384)) % (4))))) (x + 27)) gp41
                refine X_iinc (v := nI (j + 1)) (ls' := [some (.ref (wA w (x))), some (.int (nI (n8))), some (.int (nI (n13))), some (.long (lN (yrX n8 (j + 1)))), none, some (.int (nI (j + 1))), some (.int (nI (((yrX n8 (j + 1)) / (1048576)) % (25)))), some (.int (nI ((bsN z1.2.1 (((yrX n8 (j + 1)) / (16384)) % (4))))))]) C (D (148, .iinc 5 1, 3) (mg 75 rfl)) rfl (nI_add (j) 1) rfl ?_
                refine X_goto (tgt := 41) C (D (151, .goto (-110), 3) (mg 76 rfl)) (by decide) ?_
                refine X_los (ls' := [some (.ref (wA w (x))), some (.int (nI (n8))), some (.int (nI (n13))), some (.long (lN (yrX n8 (j + 1)))), none, some (.int (nI (j + 1))), none, none]) (by simp [lsub]) ?_
                refine X_eq (ls' := [some (.ref (wA w (x))), some (.int (nI (n8))), some (.int (nI (n13))), some (.long (lN (yrX n8 (j + 1)))), none, some (.int (nI (j + 1))), none, none]) (st' := []) (h' := (cwH (csH hp41 (x + 27) ((bsN z1.2.1 (((yrX n8 (j + 1)) / (16384)) % (4))))) (x + 27))) (g' := gp41) rfl rfl rfl rfl ?_
                exact ih41 (j + 1) ((cwH (csH hp41 (x + 27) ((bsN z1.2.1 (((yrX n8 (j + 1)) / (16384)) % (4))))) (x + 27))) (gp41) (by omega) (by subst ez1_; exact rC_wk hz2_ ho2_) (fun q i z => by rw [cwH_ne _ _ (by omega), csH_ne _ _ _ (by omega)]; exact hc41_2 q i z) (by omega)
            · skip
              have q24 : ¬ (¬ hp41 (x + 29) (((yrX n8 (j + 1)) / (1048576)) % (25)) = (-1 : Int32)) := bz0.mp q24
              have hli_ : (yrZ n8 j).2.2.2 (((yrX n8 (j + 1)) / (1048576)) % (25)) = 0 := (eC_n (yo_.2.2.2 _ (by omega))).mp (by rw [← hc41_1.2.2.2 (((yrX n8 (j + 1)) / (1048576)) % (25)) (by omega)]; exact Classical.byContradiction q24)
              refine X_aload_n C 0 (D (85, .aload_n 0, 1) (mg 44 rfl)) rfl rfl ?_
              refine X_get (v := .ref (wA w (x + 27))) C (x) 3 (by omega) hsx rfl rfl (by decide) inX7 fX7_27 rfl (D (86, .getfield 27, 3) (mg 45 rfl)) rfl ?_
              refine X_iload C (D (89, .iload 6, 2) (mg 46 rfl)) rfl ?_
              refine X_lload_n C 3 (D (91, .lload_n 3, 1) (mg 47 rfl)) rfl rfl ?_
              refine X_ldc2 C (D (92, .ldc2_w 238, 3) (mg 48 rfl)) vX7_238 ?_
              refine X_tl (y := lN (65536)) rfl ?_
              refine X_ldiv C (D (95, .ldiv, 1) (mg 49 rfl)) (by decide) ?_
              refine X_tl (y := lN ((yrX n8 (j + 1)) / (65536))) (pk_lDiv (by omega) (by omega) (by omega)) ?_
              refine X_ldc2 C (D (96, .ldc2_w 240, 3) (mg 50 rfl)) vX7_240 ?_
              refine X_tl (y := lN (6)) rfl ?_
              refine X_lrem C (D (99, .lrem, 1) (mg 51 rfl)) (by decide) ?_
              refine X_tl (y := lN (((yrX n8 (j + 1)) / (65536)) % (6))) (pk_lRem (by omega) (by omega) (by omega)) ?_
              refine X_l2i C (D (100, .l2i, 1) (mg 52 rfl)) ?_
              refine X_ti (y := nI (((yrX n8 (j + 1)) / (65536)) % (6))) (lN_i _) ?_
              refine X_cV (As := [.int (nI (((yrX n8 (j + 1)) / (1048576)) % (25))), .int (nI (((yrX n8 (j + 1)) / (65536)) % (6)))]) (st := []) C (post := _) (x + 27) (by omega) hNs.2.1 rfl (ct_X1_put hw (n := x + 27) hNs (j := ((yrX n8 (j + 1)) / (1048576)) % (25)) (by omega) (nI (((yrX n8 (j + 1)) / (65536)) % (6))) hp41 gp41) kX7_115 (by decide) (by decide) rfl rfl (Nat.le_of_ble_eq_true rfl) (D (101, .invokevirtual 115, 3) (mg 53 rfl)) rfl (fun v42 H40 G41 hv42 => ?_)
              obtain ⟨rfl, rfl, rfl⟩ := hv42
              show X k w _ 104 [some (.ref (wA w (x))), some (.int (nI (n8))), some (.int (nI (n13))), some (.long (lN (yrX n8 (j + 1)))), none, some (.int (nI (j))), some (.int (nI (((yrX n8 (j + 1)) / (1048576)) % (25)))), none] [] (u2 hp41 (x + 29) (((yrX n8 (j + 1)) / (1048576)) % (25)) (nI 1000 * (nI (((yrX n8 (j + 1)) / (65536)) % (6))))) gp41
              have hz1_ : rC (u2 hp41 (x + 29) (((yrX n8 (j + 1)) / (1048576)) % (25)) (nI 1000 * (nI (((yrX n8 (j + 1)) / (65536)) % (6))))) (x + 27) (ySy (yrZ n8 j) (((yrX n8 (j + 1)) / (1048576)) % (25)) (((yrX n8 (j + 1)) / (65536)) % (6))) := by (unfold ySy; rw [if_pos hli_]; exact rC_say hc41_1 (by omega))
              have ho1_ : nOk (ySy (yrZ n8 j) (((yrX n8 (j + 1)) / (1048576)) % (25)) (((yrX n8 (j + 1)) / (65536)) % (6))) := ySy_ok yo_ (by omega)
              obtain ⟨z1, ez1_⟩ : ∃ z1, z1 = ySy (yrZ n8 j) (((yrX n8 (j + 1)) / (1048576)) % (25)) (((yrX n8 (j + 1)) / (65536)) % (6)) := ⟨_, rfl⟩
              rw [← ez1_] at hz1_ ho1_
              have hat1_ := ho1_.2.1
              refine X_aload_n C 0 (D (104, .aload_n 0, 1) (mg 54 rfl)) rfl rfl ?_
              refine X_get (v := .ref (wA w (x + 27))) C (x) 3 (by omega) hsx rfl rfl (by decide) inX7 fX7_27 rfl (D (105, .getfield 27, 3) (mg 55 rfl)) rfl ?_
              refine X_get (v := .int ((u2 hp41 (x + 29) (((yrX n8 (j + 1)) / (1048576)) % (25)) (nI 1000 * (nI (((yrX n8 (j + 1)) / (65536)) % (6))))) (x + 27) 3)) C (x + 27) 3 (by omega) hNs.2.1 rfl rfl (by decide) inX1 fX7_118 rfl (D (108, .getfield 118, 3) (mg 56 rfl)) rfl ?_
              refine X_ti (y := nI (z1.2.1)) hz1_.2.1 ?_
              refine X_lload_n C 3 (D (111, .lload_n 3, 1) (mg 57 rfl)) rfl rfl ?_
              refine X_ldc2 C (D (112, .ldc2_w 242, 3) (mg 58 rfl)) vX7_242 ?_
              refine X_tl (y := lN (16384)) rfl ?_
              refine X_ldiv C (D (115, .ldiv, 1) (mg 59 rfl)) (by decide) ?_
              refine X_tl (y := lN ((yrX n8 (j + 1)) / (16384))) (pk_lDiv (by omega) (by omega) (by omega)) ?_
              refine X_ldc2 C (D (116, .ldc2_w 244, 3) (mg 60 rfl)) vX7_244 ?_
              refine X_tl (y := lN (4)) rfl ?_
              refine X_lrem C (D (119, .lrem, 1) (mg 61 rfl)) (by decide) ?_
              refine X_tl (y := lN (((yrX n8 (j + 1)) / (16384)) % (4))) (pk_lRem (by omega) (by omega) (by omega)) ?_
              refine X_l2i C (D (120, .l2i, 1) (mg 62 rfl)) ?_
              refine X_ti (y := nI (((yrX n8 (j + 1)) / (16384)) % (4))) (lN_i _) ?_
              refine X_cS (As := [.int (nI (z1.2.1)), .int (nI (((yrX n8 (j + 1)) / (16384)) % (4)))]) (st := []) C (post := _) (ct_X7_beside hw (j := z1.2.1) (by omega) (nI (((yrX n8 (j + 1)) / (16384)) % (4))) (u2 hp41 (x + 29) (((yrX n8 (j + 1)) / (1048576)) % (25)) (nI 1000 * (nI (((yrX n8 (j + 1)) / (65536)) % (6))))) gp41) kX7_121 (by decide) (by decide) rfl rfl (Nat.le_of_ble_eq_true rfl) (D (121, .invokestatic 121, 3) (mg 63 rfl)) rfl (fun v45 H43 G44 hv45 => ?_)
              obtain ⟨⟨y46, rfl, hy46, ey46⟩, rfl, rfl⟩ := hv45
              show X k w _ 124 [some (.ref (wA w (x))), some (.int (nI (n8))), some (.int (nI (n13))), some (.long (lN (yrX n8 (j + 1)))), none, some (.int (nI (j))), some (.int (nI (((yrX n8 (j + 1)) / (1048576)) % (25)))), none] [.int (y46)] (u2 hp41 (x + 29) (((yrX n8 (j + 1)) / (1048576)) % (25)) (nI 1000 * (nI (((yrX n8 (j + 1)) / (65536)) % (6))))) gp41
              refine X_istore (ls' := [some (.ref (wA w (x))), some (.int (nI (n8))), some (.int (nI (n13))), some (.long (lN (yrX n8 (j + 1)))), none, some (.int (nI (j))), some (.int (nI (((yrX n8 (j + 1)) / (1048576)) % (25)))), some (.int (y46))]) C (D (124, .istore 7, 2) (mg 64 rfl)) (Nat.le_of_ble_eq_true rfl) rfl ?_
              refine X_iload C (D (126, .iload 7, 2) (mg 65 rfl)) rfl ?_
              refine X_iconst (v := (-1 : Int32)) C (D (128, .iconst (-1), 1) (mg 66 rfl)) (by decide) ?_
              refine X_icmp_eq (tgt := 141) C (D (129, .if_icmp .eq 12, 3) (mg 67 rfl)) (by decide) (fun q47 => ?_) (fun q47 => ?_)
              · skip
                subst q47
                have hbs_ := bq_m (by omega) (by omega) ey46
                have hz2_ : rC (u2 hp41 (x + 29) (((yrX n8 (j + 1)) / (1048576)) % (25)) (nI 1000 * (nI (((yrX n8 (j + 1)) / (65536)) % (6))))) (x + 27) (ySt z1 (((yrX n8 (j + 1)) / (16384)) % (4))) := by (unfold ySt; rw [if_neg hbs_]; exact hz1_)
                have ho2_ : nOk (ySt z1 (((yrX n8 (j + 1)) / (16384)) % (4))) := ySt_ok ho1_
                refine X_aload_n C 0 (D (141, .aload_n 0, 1) (mg 72 rfl)) rfl rfl ?_
                refine X_get (v := .ref (wA w (x + 27))) C (x) 3 (by omega) hsx rfl rfl (by decide) inX7 fX7_27 rfl (D (142, .getfield 27, 3) (mg 73 rfl)) rfl ?_
                refine X_cV (As := []) (st := []) C (post := _) (x + 27) (by omega) hNs.2.1 rfl (ct_X1_passWeek hw (n := x + 27) hNs  (u2 hp41 (x + 29) (((yrX n8 (j + 1)) / (1048576)) % (25)) (nI 1000 * (nI (((yrX n8 (j + 1)) / (65536)) % (6))))) gp41) kX7_138 (by decide) (by decide) rfl rfl (Nat.le_of_ble_eq_true rfl) (D (145, .invokevirtual 138, 3) (mg 74 rfl)) rfl (fun v50 H48 G49 hv50 => ?_)
                obtain ⟨rfl, rfl, rfl⟩ := hv50
                show X k w _ 148 [some (.ref (wA w (x))), some (.int (nI (n8))), some (.int (nI (n13))), some (.long (lN (yrX n8 (j + 1)))), none, some (.int (nI (j))), some (.int (nI (((yrX n8 (j + 1)) / (1048576)) % (25)))), some (.int ((-1 : Int32)))] [] (cwH (u2 hp41 (x + 29) (((yrX n8 (j + 1)) / (1048576)) % (25)) (nI 1000 * (nI (((yrX n8 (j + 1)) / (65536)) % (6))))) (x + 27)) gp41
                refine X_iinc (v := nI (j + 1)) (ls' := [some (.ref (wA w (x))), some (.int (nI (n8))), some (.int (nI (n13))), some (.long (lN (yrX n8 (j + 1)))), none, some (.int (nI (j + 1))), some (.int (nI (((yrX n8 (j + 1)) / (1048576)) % (25)))), some (.int ((-1 : Int32)))]) C (D (148, .iinc 5 1, 3) (mg 75 rfl)) rfl (nI_add (j) 1) rfl ?_
                refine X_goto (tgt := 41) C (D (151, .goto (-110), 3) (mg 76 rfl)) (by decide) ?_
                refine X_los (ls' := [some (.ref (wA w (x))), some (.int (nI (n8))), some (.int (nI (n13))), some (.long (lN (yrX n8 (j + 1)))), none, some (.int (nI (j + 1))), none, none]) (by simp [lsub]) ?_
                refine X_eq (ls' := [some (.ref (wA w (x))), some (.int (nI (n8))), some (.int (nI (n13))), some (.long (lN (yrX n8 (j + 1)))), none, some (.int (nI (j + 1))), none, none]) (st' := []) (h' := (cwH (u2 hp41 (x + 29) (((yrX n8 (j + 1)) / (1048576)) % (25)) (nI 1000 * (nI (((yrX n8 (j + 1)) / (65536)) % (6))))) (x + 27))) (g' := gp41) rfl rfl rfl rfl ?_
                exact ih41 (j + 1) ((cwH (u2 hp41 (x + 29) (((yrX n8 (j + 1)) / (1048576)) % (25)) (nI 1000 * (nI (((yrX n8 (j + 1)) / (65536)) % (6))))) (x + 27))) (gp41) (by omega) (by subst ez1_; exact rC_wk hz2_ ho2_) (fun q i z => by rw [cwH_ne _ _ (by omega), u2_ne _ _ _ _ (by omega)]; exact hc41_2 q i z) (by omega)
              · skip
                obtain ⟨c51, hc51, rfl⟩ := hy46.resolve_left q47
                obtain ⟨hbs_, rfl⟩ := bq_c (by omega) (by omega) hc51 ey46
                refine X_aload_n C 0 (D (132, .aload_n 0, 1) (mg 68 rfl)) rfl rfl ?_
                refine X_get (v := .ref (wA w (x + 27))) C (x) 3 (by omega) hsx rfl rfl (by decide) inX7 fX7_27 rfl (D (133, .getfield 27, 3) (mg 69 rfl)) rfl ?_
                refine X_iload C (D (136, .iload 7, 2) (mg 70 rfl)) rfl ?_
                refine X_cV (As := [.int (nI ((bsN z1.2.1 (((yrX n8 (j + 1)) / (16384)) % (4)))))]) (st := []) C (post := _) (x + 27) (by omega) hNs.2.1 rfl (ct_X1_stepTo hw (n := x + 27) hNs (j := (bsN z1.2.1 (((yrX n8 (j + 1)) / (16384)) % (4)))) (by omega) (u2 hp41 (x + 29) (((yrX n8 (j + 1)) / (1048576)) % (25)) (nI 1000 * (nI (((yrX n8 (j + 1)) / (65536)) % (6))))) gp41) kX7_125 (by decide) (by decide) rfl rfl (Nat.le_of_ble_eq_true rfl) (D (138, .invokevirtual 125, 3) (mg 71 rfl)) rfl (fun v54 H52 G53 hv54 => ?_)
                obtain ⟨rfl, rfl, rfl⟩ := hv54
                show X k w _ 141 [some (.ref (wA w (x))), some (.int (nI (n8))), some (.int (nI (n13))), some (.long (lN (yrX n8 (j + 1)))), none, some (.int (nI (j))), some (.int (nI (((yrX n8 (j + 1)) / (1048576)) % (25)))), some (.int (nI ((bsN z1.2.1 (((yrX n8 (j + 1)) / (16384)) % (4))))))] [] (csH (u2 hp41 (x + 29) (((yrX n8 (j + 1)) / (1048576)) % (25)) (nI 1000 * (nI (((yrX n8 (j + 1)) / (65536)) % (6))))) (x + 27) ((bsN z1.2.1 (((yrX n8 (j + 1)) / (16384)) % (4))))) gp41
                have hz2_ : rC (csH (u2 hp41 (x + 29) (((yrX n8 (j + 1)) / (1048576)) % (25)) (nI 1000 * (nI (((yrX n8 (j + 1)) / (65536)) % (6))))) (x + 27) ((bsN z1.2.1 (((yrX n8 (j + 1)) / (16384)) % (4))))) (x + 27) (ySt z1 (((yrX n8 (j + 1)) / (16384)) % (4))) := by (unfold ySt; rw [if_pos hbs_]; exact rC_stp hz1_ ho1_ hbs_)
                have ho2_ : nOk (ySt z1 (((yrX n8 (j + 1)) / (16384)) % (4))) := ySt_ok ho1_
                refine X_aload_n C 0 (D (141, .aload_n 0, 1) (mg 72 rfl)) rfl rfl ?_
                refine X_get (v := .ref (wA w (x + 27))) C (x) 3 (by omega) hsx rfl rfl (by decide) inX7 fX7_27 rfl (D (142, .getfield 27, 3) (mg 73 rfl)) rfl ?_
                refine X_cV (As := []) (st := []) C (post := _) (x + 27) (by omega) hNs.2.1 rfl (ct_X1_passWeek hw (n := x + 27) hNs  (csH (u2 hp41 (x + 29) (((yrX n8 (j + 1)) / (1048576)) % (25)) (nI 1000 * (nI (((yrX n8 (j + 1)) / (65536)) % (6))))) (x + 27) ((bsN z1.2.1 (((yrX n8 (j + 1)) / (16384)) % (4))))) gp41) kX7_138 (by decide) (by decide) rfl rfl (Nat.le_of_ble_eq_true rfl) (D (145, .invokevirtual 138, 3) (mg 74 rfl)) rfl (fun v57 H55 G56 hv57 => ?_)
                obtain ⟨rfl, rfl, rfl⟩ := hv57
                show X k w _ 148 [some (.ref (wA w (x))), some (.int (nI (n8))), some (.int (nI (n13))), some (.long (lN (yrX n8 (j + 1)))), none, some (.int (nI (j))), some (.int (nI (((yrX n8 (j + 1)) / (1048576)) % (25)))), some (.int (nI ((bsN z1.2.1 (((yrX n8 (j + 1)) / (16384)) % (4))))))] [] (cwH (csH (u2 hp41 (x + 29) (((yrX n8 (j + 1)) / (1048576)) % (25)) (nI 1000 * (nI (((yrX n8 (j + 1)) / (65536)) % (6))))) (x + 27) ((bsN z1.2.1 (((yrX n8 (j + 1)) / (16384)) % (4))))) (x + 27)) gp41
                refine X_iinc (v := nI (j + 1)) (ls' := [some (.ref (wA w (x))), some (.int (nI (n8))), some (.int (nI (n13))), some (.long (lN (yrX n8 (j + 1)))), none, some (.int (nI (j + 1))), some (.int (nI (((yrX n8 (j + 1)) / (1048576)) % (25)))), some (.int (nI ((bsN z1.2.1 (((yrX n8 (j + 1)) / (16384)) % (4))))))]) C (D (148, .iinc 5 1, 3) (mg 75 rfl)) rfl (nI_add (j) 1) rfl ?_
                refine X_goto (tgt := 41) C (D (151, .goto (-110), 3) (mg 76 rfl)) (by decide) ?_
                refine X_los (ls' := [some (.ref (wA w (x))), some (.int (nI (n8))), some (.int (nI (n13))), some (.long (lN (yrX n8 (j + 1)))), none, some (.int (nI (j + 1))), none, none]) (by simp [lsub]) ?_
                refine X_eq (ls' := [some (.ref (wA w (x))), some (.int (nI (n8))), some (.int (nI (n13))), some (.long (lN (yrX n8 (j + 1)))), none, some (.int (nI (j + 1))), none, none]) (st' := []) (h' := (cwH (csH (u2 hp41 (x + 29) (((yrX n8 (j + 1)) / (1048576)) % (25)) (nI 1000 * (nI (((yrX n8 (j + 1)) / (65536)) % (6))))) (x + 27) ((bsN z1.2.1 (((yrX n8 (j + 1)) / (16384)) % (4))))) (x + 27))) (g' := gp41) rfl rfl rfl rfl ?_
                exact ih41 (j + 1) ((cwH (csH (u2 hp41 (x + 29) (((yrX n8 (j + 1)) / (1048576)) % (25)) (nI 1000 * (nI (((yrX n8 (j + 1)) / (65536)) % (6))))) (x + 27) ((bsN z1.2.1 (((yrX n8 (j + 1)) / (16384)) % (4))))) (x + 27))) (gp41) (by omega) (by subst ez1_; exact rC_wk hz2_ ho2_) (fun q i z => by rw [cwH_ne _ _ (by omega), csH_ne _ _ _ (by omega), u2_ne _ _ _ _ (by omega)]; exact hc41_2 q i z) (by omega)
      refine X_eq (ls' := [some (.ref (wA w (x))), some (.int (nI (n8))), some (.int (nI (n13))), some (.long (lN (yrX n8 (0)))), none, some (.int (nI (0))), none, none]) (st' := []) (h' := (ccH h (x + 27) (x + 2))) (g' := g) rfl rfl rfl rfl ?_
      exact lp41 _ (0) ((ccH h (x + 27) (x + 2))) (g) (by omega) (rC_cc (by omega) (cFr_rC hF)) (fun q i z => by rw [ccH_ne _ _ _ (by omega)]) (Nat.le_refl _)
    · skip
      have q12 : ¬ (0 ≤ (a2).toInt ∧ (a2).toInt < ((61 : Nat) : Int)) := bz0.mp q12
      refine X_aload_n C 0 (D (16, .aload_n 0, 1) (mg 7 rfl)) rfl rfl ?_
      refine X_cV (As := []) (st := []) C (post := _) (x) (by omega) hsx rfl (ct_X7_refuseBad hw hC0 h g) kX7_57 (by decide) (by decide) rfl rfl (Nat.le_of_ble_eq_true rfl) (D (17, .invokevirtual 57, 3) (mg 8 rfl)) rfl (fun v60 H58 G59 hv60 => ?_)
      obtain ⟨rfl, rfl, rfl⟩ := hv60
      show X k w _ 20 [some (.ref (wA w (x))), some (.int (nI (n8))), some (.int (a2)), none, none, none, none, none] [.int ((-2 : Int32))] (rcH h (x) 9) g
      exact X_iret C (D (20, .ireturn, 1) (mg 9 rfl)) (by rw [← hPP]; exact pF_i (if_neg (by omega)) (fun q i z => by rw [rcH_ne _ _ _ (by omega)]))
