/-! THE REFERENCE, 18: way ends -/
theorem bs_le (K : Nat) : ∀ j, bs K j ≤ j
  | 0 => Nat.le_refl _
  | j + 1 => by have := bs_le K j; simp only [bs]; omega
theorem cm_D {T : Nat → Int32} {c : Int32} {N e : Nat} (he : e < p2 N) : cmN T c N e < p2 N := cm_lt T c (N := N) he N (Nat.le_refl _)
theorem wy_k {a : Int32} {v : Nat} (h1 : (-1 : Int32) ≤ a) (h2 : ¬ a = (-1 : Int32)) (h3 : a < nI v) (hv : v < 2147483648) : ∃ k, k < v ∧ a = nI k := by
  rw [Int32.le_iff_toInt_le, show ((-1 : Int32)).toInt = -1 from by decide] at h1
  rw [Int32.lt_iff_toInt_lt, nI_i2 hv] at h3
  have h4 : ¬ a.toInt = -1 := fun z => h2 (Int32.toInt_inj.mp (z.trans (by decide)))
  exact nI_i (by omega) h3
theorem wy_n {V : Nat → Nat} {T : Nat → Int32} {N e c : Nat} (B : bI V T N 0) (he : e < p2 N) (hc : c < 25) (h1 : 1 ≤ V (25 * e + c)) : ∃ i, i < 4 ∧ bsN c i < 25 ∧ V (25 * e + c) = 1 + V (25 * CM T N e (bsN c i) + bsN c i) := by
  obtain ⟨s1, s2⟩ := B.2.2 e c (by omega) (by omega) hc
  rcases s2 with q | q
  · rw [q] at s1 h1; omega
  · exact q
set_option maxHeartbeats 4000000 in
set_option maxRecDepth 100000 in
theorem ct_X8_way {l : Launch} {w : Kw} (hw : wOk w) {m : Nat} (hM : shM w m) (a1 : Int32) (a2 : Int32) (h : xI) (g : xJ) (hI : mOk h m) : Ct l w yX8_way cX8_way 9 (some .int) 3 76 [.ref (wA w (m)), .int (a1), .int (a2)] h g (pQ (mW m h)) := by
  refine Ct_of (ls := [some (.ref (wA w (m))), some (.int (a1)), some (.int (a2)), none, none, none, none, none, none]) (by decide) hw (Nat.le_of_ble_eq_true rfl) rfl (fun k hkl C => ?_)
  have C : Cx k w cX8_way RX8 9 (some .int) 3 76 := C
  have D := dtX8_way
  subst hkl
  have hM0 := hM
  obtain ⟨hm, hsm, hs1, hs2, hs3, hs4, hs5, hs6, hs7, hs8, hs9, hs10, hs11⟩ := hM
  have hM := hM0
  have hI0 := hI
  obtain ⟨⟨⟨nu, hnu, eu⟩, ⟨c0, hc0, hat⟩, hpl⟩, ⟨⟨ns, hns, hse⟩, ⟨nm, hnm, hma⟩⟩, hK, ⟨nt, hnt, htx⟩⟩ := hI
  have hI := hI0
  refine X_iload_n C 1 (D (0, .iload_n 1, 1) (mg 0 rfl)) rfl rfl ?_
  refine X_i2l C (D (1, .i2l, 1) (mg 1 rfl)) ?_
  refine X_lconst (v := lN 0) C (D (2, .lconst 0, 1) (mg 2 rfl)) (by decide) ?_
  refine X_ldc2 C (D (3, .ldc2_w 166, 3) (mg 3 rfl)) vX8_166 ?_
  refine X_tl (y := lN (33554431)) rfl ?_
  refine X_cS (As := [.long ((a1).toInt64), .long (lN (0)), .long (lN (33554431))]) (st := []) C (post := _) (ct_X8_in hw ((a1).toInt64) (lN (0)) (lN (33554431)) h g) kX8_54 (by decide) (by decide) rfl rfl (Nat.le_of_ble_eq_true rfl) (D (6, .invokestatic 54, 3) (mg 4 rfl)) rfl (fun v3 H1 G2 hv3 => ?_)
  obtain ⟨rfl, rfl, rfl⟩ := hv3
  show X k w _ 9 [some (.ref (wA w (m))), some (.int (a1)), some (.int (a2)), none, none, none, none, none, none] [.int (if (lN (0)).toInt ≤ ((a1).toInt64).toInt ∧ ((a1).toInt64).toInt ≤ (lN (33554431)).toInt then 1 else 0)] h g
  refine X_if_eq (tgt := 25) C (D (9, .ifCond .eq 16, 3) (mg 5 rfl)) (by decide) (fun q4 => ?_) (fun q4 => ?_)
  · skip
    have q4 : ¬ ((lN (0)).toInt ≤ ((a1).toInt64).toInt ∧ ((a1).toInt64).toInt ≤ (lN (33554431)).toInt) := bz0.mp q4
    simp only [i6, pk_lT (n := 0) (by omega), pk_lT (n := 33554431) (by omega)] at q4
    refine X_aload_n C 0 (D (25, .aload_n 0, 1) (mg 13 rfl)) rfl rfl ?_
    refine X_bipush (v := (-10 : Int32)) C (D (26, .bipush (-10), 2) (mg 14 rfl)) (by decide) ?_
    refine X_cV (As := [.int ((-10 : Int32))]) (st := []) C (post := _) (m) (by omega) hsm rfl (ct_X8_bad hw hM ((-10 : Int32)) h g) kX8_75 (by decide) (by decide) rfl rfl (Nat.le_of_ble_eq_true rfl) (D (28, .invokevirtual 75, 3) (mg 15 rfl)) rfl (fun v7 H5 G6 hv7 => ?_)
    obtain ⟨rfl, rfl, rfl⟩ := hv7
    show X k w _ 31 [some (.ref (wA w (m))), some (.int (a1)), some (.int (a2)), none, none, none, none, none, none] [.int ((-10 : Int32))] (rfH h m 0) g
    exact X_iret C (D (31, .ireturn, 1) (mg 16 rfl)) ⟨⟨_, rfl⟩, ⟨fun q i z0 => by have z := z0; unfold SM at z; rw [rfH_ne _ _ _ (by omega)], rU_k (fun i => by rw [rfH_ne _ _ _ (by omega)]) hI.1⟩⟩
  · skip
    have q4 : ((lN (0)).toInt ≤ ((a1).toInt64).toInt ∧ ((a1).toInt64).toInt ≤ (lN (33554431)).toInt) := bz1.mp q4
    simp only [i6, pk_lT (n := 0) (by omega), pk_lT (n := 33554431) (by omega)] at q4
    obtain ⟨n8, hn8, rfl⟩ := nI_i (x := a1) (n := 33554432) (by omega) (by omega)
    refine X_iload_n C 1 (D (12, .iload_n 1, 1) (mg 6 rfl)) rfl rfl ?_
    refine X_cS (As := [.int (nI (n8))]) (st := []) C (post := _) (ct_X8_bits hw (K := n8) (by omega) h g) kX8_168 (by decide) (by decide) rfl rfl (Nat.le_of_ble_eq_true rfl) (D (13, .invokestatic 168, 3) (mg 7 rfl)) rfl (fun v11 H9 G10 hv11 => ?_)
    obtain ⟨rfl, rfl, rfl⟩ := hv11
    show X k w _ 16 [some (.ref (wA w (m))), some (.int (nI (n8))), some (.int (a2)), none, none, none, none, none, none] [.int (nI (bs (n8) 25))] h g
    refine X_iconst (v := nI (5)) C (D (16, .iconst 5, 1) (mg 8 rfl)) (by decide) ?_
    have hbl := bs_le (n8) 25
    refine X_icmp_gt (tgt := 25) C (D (17, .if_icmp .gt 8, 3) (mg 9 rfl)) (by decide) (fun q12 => ?_) (fun q12 => ?_)
    · skip
      have q12 : (bs (n8) 25) > (5) := by have z := (nI_ltI (a := (5)) (b := (bs (n8) 25)) (by omega) (by omega)).mp q12; omega
      refine X_aload_n C 0 (D (25, .aload_n 0, 1) (mg 13 rfl)) rfl rfl ?_
      refine X_bipush (v := (-10 : Int32)) C (D (26, .bipush (-10), 2) (mg 14 rfl)) (by decide) ?_
      refine X_cV (As := [.int ((-10 : Int32))]) (st := []) C (post := _) (m) (by omega) hsm rfl (ct_X8_bad hw hM ((-10 : Int32)) h g) kX8_75 (by decide) (by decide) rfl rfl (Nat.le_of_ble_eq_true rfl) (D (28, .invokevirtual 75, 3) (mg 15 rfl)) rfl (fun v15 H13 G14 hv15 => ?_)
      obtain ⟨rfl, rfl, rfl⟩ := hv15
      show X k w _ 31 [some (.ref (wA w (m))), some (.int (nI (n8))), some (.int (a2)), none, none, none, none, none, none] [.int ((-10 : Int32))] (rfH h m 0) g
      exact X_iret C (D (31, .ireturn, 1) (mg 16 rfl)) ⟨⟨_, rfl⟩, ⟨fun q i z0 => by have z := z0; unfold SM at z; rw [rfH_ne _ _ _ (by omega)], rU_k (fun i => by rw [rfH_ne _ _ _ (by omega)]) hI.1⟩⟩
    · skip
      have q12 : (bs (n8) 25) ≤ (5) := by have z : ¬ ((5) < (bs (n8) 25)) := fun u => q12 ((nI_ltI (a := (5)) (b := (bs (n8) 25)) (by omega) (by omega)).mpr u); omega
      refine X_iload_n C 2 (D (20, .iload_n 2, 1) (mg 10 rfl)) rfl rfl ?_
      refine X_iconst (v := (-1 : Int32)) C (D (21, .iconst (-1), 1) (mg 11 rfl)) (by decide) ?_
      refine X_icmp_ge (tgt := 32) C (D (22, .if_icmp .ge 10, 3) (mg 12 rfl)) (by decide) (fun q16 => ?_) (fun q16 => ?_)
      · skip
        refine X_aload_n C 0 (D (32, .aload_n 0, 1) (mg 17 rfl)) rfl rfl ?_
        refine X_iload_n C 1 (D (33, .iload_n 1, 1) (mg 18 rfl)) rfl rfl ?_
        refine X_cV (As := [.int (nI (n8))]) (st := []) C (post := _) (m) (by omega) hsm rfl (ct_X8_layTold hw hM (K := n8) (by omega) (by omega) h g) kX8_171 (by decide) (by decide) rfl rfl (Nat.le_of_ble_eq_true rfl) (D (34, .invokevirtual 171, 3) (mg 19 rfl)) rfl (fun v19 H17 G18 hv19 => ?_)
        obtain ⟨rfl, f20, t21⟩ := hv19
        show X k w _ 37 [some (.ref (wA w (m))), some (.int (nI (n8))), some (.int (a2)), none, none, none, none, none, none] [.int (nI (bs (n8) 25))] H17 G18
        refine X_istore_n (ls' := [some (.ref (wA w (m))), some (.int (nI (n8))), some (.int (a2)), some (.int (nI (bs (n8) 25))), none, none, none, none, none]) C 3 (D (37, .istore_n 3, 1) (mg 20 rfl)) rfl (Nat.le_of_ble_eq_true rfl) rfl ?_
        refine X_aload_n C 0 (D (38, .aload_n 0, 1) (mg 21 rfl)) rfl rfl ?_
        refine X_iload_n C 3 (D (39, .iload_n 3, 1) (mg 22 rfl)) rfl rfl ?_
        refine X_cV (As := [.int (nI (bs (n8) 25))]) (st := []) C (post := _) (m) (by omega) hsm rfl (ct_X8_layToGo hw hM (T := H17 (m + 6)) (N := bs (n8) 25) (by omega) t21 H17 G18 rfl) kX8_174 (by decide) (by decide) rfl rfl (Nat.le_of_ble_eq_true rfl) (D (40, .invokevirtual 174, 3) (mg 23 rfl)) rfl (fun v24 H22 G23 hv24 => ?_)
        obtain ⟨rfl, f25, V, hRV, hBI⟩ := hv24
        obtain ⟨T, hT⟩ : ∃ T, T = H17 (m + 6) := ⟨_, rfl⟩
        rw [← hT] at hBI
        have hTT : H22 (m + 6) = T := (funext fun i => f25 (m + 6) i (by omega)).trans hT.symm
        obtain ⟨N, hNe⟩ : ∃ N, N = bs (n8) 25 := ⟨_, rfl⟩
        rw [← hNe] at hBI
        have hp2 := p2_e N (by omega)
        refine X_eq (ls' := [some (.ref (wA w (m))), some (.int (nI (n8))), some (.int (a2)), some (.int (nI (N))), none, none, none, none, none]) (st' := []) (h' := H22) (g' := G23) (by rw [hNe]) rfl rfl rfl ?_
        refine X_aload_n C 0 (D (43, .aload_n 0, 1) (mg 24 rfl)) rfl rfl ?_
        refine X_get (v := .ref (wA w (m + 1))) C (m) 0 (by omega) hsm rfl rfl (by decide) inX8 fX8_7 rfl (D (44, .getfield 7, 3) (mg 25 rfl)) rfl ?_
        refine X_bipush (v := nI (28)) C (D (47, .bipush 28, 2) (mg 26 rfl)) (by decide) ?_
        refine X_iald (v := H22 (m + 1) (28)) C (m + 1) (by omega) hs1 (vp_in_nI (by omega) (by omega)) (D (49, .iaload, 1) (mg 27 rfl)) (by rw [nI_clamp (by omega)]) ?_
        refine X_ti (y := nI (c0)) ((((f25 _ _ (by omega))).trans (f20 _ _ (by omega))).trans hat) ?_
        refine X_istore (ls' := [some (.ref (wA w (m))), some (.int (nI (n8))), some (.int (a2)), some (.int (nI (N))), some (.int (nI (c0))), none, none, none, none]) C (D (50, .istore 4, 2) (mg 28 rfl)) (Nat.le_of_ble_eq_true rfl) rfl ?_
        refine X_aload_n C 0 (D (52, .aload_n 0, 1) (mg 29 rfl)) rfl rfl ?_
        refine X_iconst (v := nI (0)) C (D (53, .iconst 0, 1) (mg 30 rfl)) (by decide) ?_
        refine X_iload C (D (54, .iload 4, 2) (mg 31 rfl)) rfl ?_
        refine X_iload_n C 3 (D (56, .iload_n 3, 1) (mg 32 rfl)) rfl rfl ?_
        refine X_cV (As := [.int (nI (0)), .int (nI (c0)), .int (nI (N))]) (st := []) C (post := _) (m) (by omega) hsm rfl (ct_X8_come hw hM (T := T) (S := 0) (N := N) (by omega) (nI (c0)) (by omega) H22 G23 hTT) kX8_163 (by decide) (by decide) rfl rfl (Nat.le_of_ble_eq_true rfl) (D (57, .invokevirtual 163, 3) (mg 33 rfl)) rfl (fun v28 H26 G27 hv28 => ?_)
        obtain ⟨rfl, rfl, rfl⟩ := hv28
        show X k w _ 60 [some (.ref (wA w (m))), some (.int (nI (n8))), some (.int (a2)), some (.int (nI (N))), some (.int (nI (c0))), none, none, none, none] [.int (nI (cmN T (nI (c0)) (N) (0)))] H22 G23
        have hcm28 : cmN T (nI (c0)) (N) (0) < 32 := cm_b (by omega) (by omega)
        have hcd28 : cmN T (nI (c0)) (N) (0) < p2 N := cm_D (by omega)
        refine X_istore (ls' := [some (.ref (wA w (m))), some (.int (nI (n8))), some (.int (a2)), some (.int (nI (N))), some (.int (nI (c0))), some (.int (nI (cmN T (nI (c0)) (N) (0)))), none, none, none]) C (D (60, .istore 5, 2) (mg 34 rfl)) (Nat.le_of_ble_eq_true rfl) rfl ?_
        refine X_aload_n C 0 (D (62, .aload_n 0, 1) (mg 35 rfl)) rfl rfl ?_
        refine X_get (v := .ref (wA w (m + 7))) C (m) 8 (by omega) hsm rfl rfl (by decide) inX8 fX8_33 rfl (D (63, .getfield 33, 3) (mg 36 rfl)) rfl ?_
        refine X_bipush (v := nI (25)) C (D (66, .bipush 25, 2) (mg 37 rfl)) (by decide) ?_
        refine X_iload C (D (68, .iload 5, 2) (mg 38 rfl)) rfl ?_
        refine X_imul C (D (70, .imul, 1) (mg 39 rfl)) ?_
        refine X_ti (y := nI ((25) * (cmN T (nI (c0)) (N) (0)))) (pk_mul (25) (cmN T (nI (c0)) (N) (0))) ?_
        refine X_iload C (D (71, .iload 4, 2) (mg 40 rfl)) rfl ?_
        refine X_iadd C (D (73, .iadd, 1) (mg 41 rfl)) ?_
        refine X_ti (y := nI ((25) * (cmN T (nI (c0)) (N) (0)) + c0)) (nI_add ((25) * (cmN T (nI (c0)) (N) (0))) (c0)) ?_
        refine X_iald (v := H22 (m + 7) ((25) * (cmN T (nI (c0)) (N) (0)) + c0)) C (m + 7) (by omega) hs7 (vp_in_nI (by omega) (by omega)) (D (74, .iaload, 1) (mg 42 rfl)) (by rw [nI_clamp (by omega)]) ?_
        refine X_ti (y := nI (V ((25) * (cmN T (nI (c0)) (N) (0)) + c0))) (hRV _ (by omega)) ?_
        have hvb := hBI.1 ((25) * (cmN T (nI (c0)) (N) (0)) + c0)
        refine X_istore (ls' := [some (.ref (wA w (m))), some (.int (nI (n8))), some (.int (a2)), some (.int (nI (N))), some (.int (nI (c0))), some (.int (nI (cmN T (nI (c0)) (N) (0)))), some (.int (nI (V ((25) * (cmN T (nI (c0)) (N) (0)) + c0)))), none, none]) C (D (75, .istore 6, 2) (mg 43 rfl)) (Nat.le_of_ble_eq_true rfl) rfl ?_
        refine X_iload_n C 2 (D (77, .iload_n 2, 1) (mg 44 rfl)) rfl rfl ?_
        refine X_iconst (v := (-1 : Int32)) C (D (78, .iconst (-1), 1) (mg 45 rfl)) (by decide) ?_
        refine X_icmp_eq (tgt := 88) C (D (79, .if_icmp .eq 9, 3) (mg 46 rfl)) (by decide) (fun q29 => ?_) (fun q29 => ?_)
        · skip
          refine X_iload_n C 2 (D (88, .iload_n 2, 1) (mg 50 rfl)) rfl rfl ?_
          refine X_iconst (v := (-1 : Int32)) C (D (89, .iconst (-1), 1) (mg 51 rfl)) (by decide) ?_
          refine X_icmp_ne (tgt := 98) C (D (90, .if_icmp .ne 8, 3) (mg 52 rfl)) (by decide) (fun q30 => ?_) (fun q30 => ?_)
          · skip
            refine X_bipush (v := (-5 : Int32)) C (D (98, .bipush (-5), 2) (mg 55 rfl)) (by decide) ?_
            exact X_iret C (D (100, .ireturn, 1) (mg 56 rfl)) ⟨⟨_, rfl⟩, ⟨fun q i z0 => by have z := z0; unfold SM at z; rw [f25 _ _ (by omega), f20 _ _ (by omega)], rU_k (fun i => by rw [f25 _ _ (by omega), f20 _ _ (by omega)]) hI.1⟩⟩
          · skip
            refine X_iload C (D (93, .iload 6, 2) (mg 53 rfl)) rfl ?_
            refine X_goto (tgt := 100) C (D (95, .goto 5, 3) (mg 54 rfl)) (by decide) ?_
            exact X_iret C (D (100, .ireturn, 1) (mg 56 rfl)) ⟨⟨_, rfl⟩, ⟨fun q i z0 => by have z := z0; unfold SM at z; rw [f25 _ _ (by omega), f20 _ _ (by omega)], rU_k (fun i => by rw [f25 _ _ (by omega), f20 _ _ (by omega)]) hI.1⟩⟩
        · skip
          refine X_iload_n C 2 (D (82, .iload_n 2, 1) (mg 47 rfl)) rfl rfl ?_
          refine X_iload C (D (83, .iload 6, 2) (mg 48 rfl)) rfl ?_
          refine X_icmp_lt (tgt := 101) C (D (85, .if_icmp .lt 16, 3) (mg 49 rfl)) (by decide) (fun q31 => ?_) (fun q31 => ?_)
          · skip
            obtain ⟨k2, hk2, rfl⟩ := wy_k (by assumption) (by assumption) q31 (by omega)
            obtain ⟨M9, hM9⟩ : ∃ M9, V (25 * (cmN T (nI (c0)) (N) (0)) + c0) + 0 = M9 := ⟨_, rfl⟩
            refine X_iconst (v := (-1 : Int32)) C (D (101, .iconst (-1), 1) (mg 57 rfl)) (by decide) ?_
            refine X_istore (ls' := [some (.ref (wA w (m))), some (.int (nI (n8))), some (.int (nI (k2))), some (.int (nI (N))), some (.int (nI (c0))), some (.int (nI (cmN T (nI (c0)) (N) (0)))), some (.int (nI (V ((25) * (cmN T (nI (c0)) (N) (0)) + c0)))), some (.int ((-1 : Int32))), none]) C (D (102, .istore 7, 2) (mg 58 rfl)) (Nat.le_of_ble_eq_true rfl) rfl ?_
            refine X_iconst (v := nI (0)) C (D (104, .iconst 0, 1) (mg 59 rfl)) (by decide) ?_
            refine X_istore (ls' := [some (.ref (wA w (m))), some (.int (nI (n8))), some (.int (nI (k2))), some (.int (nI (N))), some (.int (nI (c0))), some (.int (nI (cmN T (nI (c0)) (N) (0)))), some (.int (nI (V ((25) * (cmN T (nI (c0)) (N) (0)) + c0)))), some (.int ((-1 : Int32))), some (.int (nI (0)))]) C (D (105, .istore 8, 2) (mg 60 rfl)) (Nat.le_of_ble_eq_true rfl) rfl ?_
            have lp107 : ∀ (nn107 : Nat) (c1 : Nat) (S1 : Nat) (t1 : Nat) (z7 : Int32), (c1 < 25) → (S1 < p2 N) → (t1 ≤ k2 + 1) → (V (25 * S1 + c1) + t1 = M9) → k2 + 2 - t1 ≤ nn107 → X k w (Zq k w (pQ (mW m h))) 107 [some (.ref (wA w (m))), some (.int (nI (n8))), some (.int (nI (k2))), some (.int (nI (N))), some (.int (nI (c1))), some (.int (nI (S1))), some (.int (nI (V ((25) * (cmN T (nI (c0)) (N) (0)) + c0)))), some (.int (z7)), some (.int (nI (t1)))] [] H22 G23 := by
              intro nn107
              induction nn107 with
              | zero => intro c1 S1 t1 z7 hc107_0 hc107_1 hc107_2 hc107_3 hz; exact absurd hz (by omega)
              | succ nn107 ih107 =>
                intro c1 S1 t1 z7 hc107_0 hc107_1 hc107_2 hc107_3 hz107
                refine X_iload C (D (107, .iload 8, 2) (mg 61 rfl)) rfl ?_
                refine X_iload_n C 2 (D (109, .iload_n 2, 1) (mg 62 rfl)) rfl rfl ?_
                refine X_icmp_gt (tgt := 207) C (D (110, .if_icmp .gt 97, 3) (mg 63 rfl)) (by decide) (fun q32 => ?_) (fun q32 => ?_)
                · skip
                  have q32 : (t1) > (k2) := by have z := (nI_ltI (a := (k2)) (b := (t1)) (by omega) (by omega)).mp q32; omega
                  refine X_iload C (D (207, .iload 7, 2) (mg 112 rfl)) rfl ?_
                  exact X_iret C (D (209, .ireturn, 1) (mg 113 rfl)) ⟨⟨_, rfl⟩, ⟨fun q i z0 => by have z := z0; unfold SM at z; rw [f25 _ _ (by omega), f20 _ _ (by omega)], rU_k (fun i => by rw [f25 _ _ (by omega), f20 _ _ (by omega)]) hI.1⟩⟩
                · skip
                  have q32 : (t1) ≤ (k2) := by have z : ¬ ((k2) < (t1)) := fun u => q32 ((nI_ltI (a := (k2)) (b := (t1)) (by omega) (by omega)).mpr u); omega
                  obtain ⟨i9, hi9, hb9, hv9⟩ := wy_n (e := S1) (c := c1) hBI (by omega) (by omega) (by omega)
                  refine X_iconst (v := nI (0)) C (D (113, .iconst 0, 1) (mg 64 rfl)) (by decide) ?_
                  refine X_istore (ls' := [some (.ref (wA w (m))), some (.int (nI (n8))), some (.int (nI (k2))), some (.int (nI (N))), some (.int (nI (c1))), some (.int (nI (S1))), some (.int (nI (V ((25) * (cmN T (nI (c0)) (N) (0)) + c0)))), some (.int (nI (0))), some (.int (nI (t1)))]) C (D (114, .istore 7, 2) (mg 65 rfl)) (Nat.le_of_ble_eq_true rfl) rfl ?_
                  have lp116 : ∀ (nn116 : Nat) (s7 : Nat), (s7 ≤ i9) → 5 - s7 ≤ nn116 → X k w (Zq k w (pQ (mW m h))) 116 [some (.ref (wA w (m))), some (.int (nI (n8))), some (.int (nI (k2))), some (.int (nI (N))), some (.int (nI (c1))), some (.int (nI (S1))), some (.int (nI (V ((25) * (cmN T (nI (c0)) (N) (0)) + c0)))), some (.int (nI (s7))), some (.int (nI (t1)))] [] H22 G23 := by
                    intro nn116
                    induction nn116 with
                    | zero => intro s7 hc116_0 hz; exact absurd hz (by omega)
                    | succ nn116 ih116 =>
                      intro s7 hc116_0 hz116
                      refine X_iload C (D (116, .iload 4, 2) (mg 66 rfl)) rfl ?_
                      refine X_iload C (D (118, .iload 7, 2) (mg 67 rfl)) rfl ?_
                      refine X_cS (As := [.int (nI (c1)), .int (nI (s7))]) (st := []) C (post := _) (ct_X8_beside hw (j := c1) (by omega) (nI (s7)) H22 G23) kX8_110 (by decide) (by decide) rfl rfl (Nat.le_of_ble_eq_true rfl) (D (120, .invokestatic 110, 3) (mg 68 rfl)) rfl (fun v35 H33 G34 hv35 => ?_)
                      obtain ⟨rfl, rfl, rfl⟩ := hv35
                      obtain ⟨y36, ey36⟩ : ∃ y, y = bsA (c1) (nI (s7)) := ⟨_, rfl⟩
                      have hy36 := bsA_alt (j := c1) (by omega) (nI (s7))
                      rw [← ey36] at hy36
                      rw [← ey36]
                      show X k w _ 123 [some (.ref (wA w (m))), some (.int (nI (n8))), some (.int (nI (k2))), some (.int (nI (N))), some (.int (nI (c1))), some (.int (nI (S1))), some (.int (nI (V ((25) * (cmN T (nI (c0)) (N) (0)) + c0)))), some (.int (nI (s7))), some (.int (nI (t1)))] [.int (y36)] H22 G23
                      refine X_iconst (v := (-1 : Int32)) C (D (123, .iconst (-1), 1) (mg 69 rfl)) (by decide) ?_
                      refine X_icmp_eq (tgt := 175) C (D (124, .if_icmp .eq 51, 3) (mg 70 rfl)) (by decide) (fun q37 => ?_) (fun q37 => ?_)
                      · skip
                        subst q37
                        rw [bs_all c1 (by omega) s7 (by omega)] at ey36
                        have hbc := bs_m ey36
                        have hs9 : ¬ s7 = i9 := fun z => by rw [z] at hbc; omega
                        refine X_iinc (v := nI (s7 + 1)) (ls' := [some (.ref (wA w (m))), some (.int (nI (n8))), some (.int (nI (k2))), some (.int (nI (N))), some (.int (nI (c1))), some (.int (nI (S1))), some (.int (nI (V ((25) * (cmN T (nI (c0)) (N) (0)) + c0)))), some (.int (nI (s7 + 1))), some (.int (nI (t1)))]) C (D (175, .iinc 7 1, 3) (mg 98 rfl)) rfl (nI_add (s7) 1) rfl ?_
                        refine X_goto (tgt := 116) C (D (178, .goto (-62), 3) (mg 99 rfl)) (by decide) ?_
                        refine X_eq (ls' := [some (.ref (wA w (m))), some (.int (nI (n8))), some (.int (nI (k2))), some (.int (nI (N))), some (.int (nI (c1))), some (.int (nI (S1))), some (.int (nI (V ((25) * (cmN T (nI (c0)) (N) (0)) + c0)))), some (.int (nI (s7 + 1))), some (.int (nI (t1)))]) (st' := []) (h' := H22) (g' := G23) rfl rfl rfl rfl ?_
                        exact ih116 (s7 + 1) (by omega) (by omega)
                      · skip
                        obtain ⟨c38, hc38, rfl⟩ := hy36.resolve_left q37
                        have ex9 := ey36
                        rw [bs_all c1 (by omega) s7 (by omega)] at ex9
                        have hbc := bs_c (by omega) ex9
                        refine X_iconst (v := nI (1)) C (D (127, .iconst 1, 1) (mg 71 rfl)) (by decide) ?_
                        refine X_aload_n C 0 (D (128, .aload_n 0, 1) (mg 72 rfl)) rfl rfl ?_
                        refine X_get (v := .ref (wA w (m + 7))) C (m) 8 (by omega) hsm rfl rfl (by decide) inX8 fX8_33 rfl (D (129, .getfield 33, 3) (mg 73 rfl)) rfl ?_
                        refine X_bipush (v := nI (25)) C (D (132, .bipush 25, 2) (mg 74 rfl)) (by decide) ?_
                        refine X_aload_n C 0 (D (134, .aload_n 0, 1) (mg 75 rfl)) rfl rfl ?_
                        refine X_iload C (D (135, .iload 5, 2) (mg 76 rfl)) rfl ?_
                        refine X_iload C (D (137, .iload 4, 2) (mg 77 rfl)) rfl ?_
                        refine X_iload C (D (139, .iload 7, 2) (mg 78 rfl)) rfl ?_
                        refine X_cS (As := [.int (nI (c1)), .int (nI (s7))]) (st := [.int (nI (S1)), .ref (wA w (m)), .int (nI (25)), .ref (wA w (m + 7)), .int (nI (1))]) C (post := _) (ct_X8_beside hw (j := c1) (by omega) (nI (s7)) H22 G23) kX8_110 (by decide) (by decide) rfl rfl (Nat.le_of_ble_eq_true rfl) (D (141, .invokestatic 110, 3) (mg 79 rfl)) rfl (fun v41 H39 G40 hv41 => ?_)
                        obtain ⟨rfl, rfl, rfl⟩ := hv41
                        show X k w _ 144 [some (.ref (wA w (m))), some (.int (nI (n8))), some (.int (nI (k2))), some (.int (nI (N))), some (.int (nI (c1))), some (.int (nI (S1))), some (.int (nI (V ((25) * (cmN T (nI (c0)) (N) (0)) + c0)))), some (.int (nI (s7))), some (.int (nI (t1)))] [.int (bsA (c1) (nI (s7))), .int (nI (S1)), .ref (wA w (m)), .int (nI (25)), .ref (wA w (m + 7)), .int (nI (1))] H22 G23
                        refine X_ti (y := nI (c38)) ey36.symm ?_
                        refine X_iload_n C 3 (D (144, .iload_n 3, 1) (mg 80 rfl)) rfl rfl ?_
                        refine X_cV (As := [.int (nI (S1)), .int (nI (c38)), .int (nI (N))]) (st := [.int (nI (25)), .ref (wA w (m + 7)), .int (nI (1))]) C (post := _) (m) (by omega) hsm rfl (ct_X8_come hw hM (T := T) (S := S1) (N := N) (by omega) (nI (c38)) (by omega) H22 G23 hTT) kX8_163 (by decide) (by decide) rfl rfl (Nat.le_of_ble_eq_true rfl) (D (145, .invokevirtual 163, 3) (mg 81 rfl)) rfl (fun v44 H42 G43 hv44 => ?_)
                        obtain ⟨rfl, rfl, rfl⟩ := hv44
                        show X k w _ 148 [some (.ref (wA w (m))), some (.int (nI (n8))), some (.int (nI (k2))), some (.int (nI (N))), some (.int (nI (c1))), some (.int (nI (S1))), some (.int (nI (V ((25) * (cmN T (nI (c0)) (N) (0)) + c0)))), some (.int (nI (s7))), some (.int (nI (t1)))] [.int (nI (cmN T (nI (c38)) (N) (S1))), .int (nI (25)), .ref (wA w (m + 7)), .int (nI (1))] H22 G23
                        have hcm44 : cmN T (nI (c38)) (N) (S1) < 32 := cm_b (by omega) (by omega)
                        have hcd44 : cmN T (nI (c38)) (N) (S1) < p2 N := cm_D (by omega)
                        refine X_imul C (D (148, .imul, 1) (mg 82 rfl)) ?_
                        refine X_ti (y := nI ((25) * (cmN T (nI (c38)) (N) (S1)))) (pk_mul (25) (cmN T (nI (c38)) (N) (S1))) ?_
                        refine X_iload C (D (149, .iload 4, 2) (mg 83 rfl)) rfl ?_
                        refine X_iload C (D (151, .iload 7, 2) (mg 84 rfl)) rfl ?_
                        refine X_cS (As := [.int (nI (c1)), .int (nI (s7))]) (st := [.int (nI ((25) * (cmN T (nI (c38)) (N) (S1)))), .ref (wA w (m + 7)), .int (nI (1))]) C (post := _) (ct_X8_beside hw (j := c1) (by omega) (nI (s7)) H22 G23) kX8_110 (by decide) (by decide) rfl rfl (Nat.le_of_ble_eq_true rfl) (D (153, .invokestatic 110, 3) (mg 85 rfl)) rfl (fun v47 H45 G46 hv47 => ?_)
                        obtain ⟨rfl, rfl, rfl⟩ := hv47
                        show X k w _ 156 [some (.ref (wA w (m))), some (.int (nI (n8))), some (.int (nI (k2))), some (.int (nI (N))), some (.int (nI (c1))), some (.int (nI (S1))), some (.int (nI (V ((25) * (cmN T (nI (c0)) (N) (0)) + c0)))), some (.int (nI (s7))), some (.int (nI (t1)))] [.int (bsA (c1) (nI (s7))), .int (nI ((25) * (cmN T (nI (c38)) (N) (S1)))), .ref (wA w (m + 7)), .int (nI (1))] H22 G23
                        refine X_ti (y := nI (c38)) ey36.symm ?_
                        refine X_iadd C (D (156, .iadd, 1) (mg 86 rfl)) ?_
                        refine X_ti (y := nI ((25) * (cmN T (nI (c38)) (N) (S1)) + c38)) (nI_add ((25) * (cmN T (nI (c38)) (N) (S1))) (c38)) ?_
                        refine X_iald (v := H22 (m + 7) ((25) * (cmN T (nI (c38)) (N) (S1)) + c38)) C (m + 7) (by omega) hs7 (vp_in_nI (by omega) (by omega)) (D (157, .iaload, 1) (mg 87 rfl)) (by rw [nI_clamp (by omega)]) ?_
                        refine X_ti (y := nI (V ((25) * (cmN T (nI (c38)) (N) (S1)) + c38))) (hRV _ (by omega)) ?_
                        refine X_iadd C (D (158, .iadd, 1) (mg 88 rfl)) ?_
                        refine X_ti (y := nI (1 + V ((25) * (cmN T (nI (c38)) (N) (S1)) + c38))) (nI_add (1) (V ((25) * (cmN T (nI (c38)) (N) (S1)) + c38))) ?_
                        refine X_aload_n C 0 (D (159, .aload_n 0, 1) (mg 89 rfl)) rfl rfl ?_
                        refine X_get (v := .ref (wA w (m + 7))) C (m) 8 (by omega) hsm rfl rfl (by decide) inX8 fX8_33 rfl (D (160, .getfield 33, 3) (mg 90 rfl)) rfl ?_
                        refine X_bipush (v := nI (25)) C (D (163, .bipush 25, 2) (mg 91 rfl)) (by decide) ?_
                        refine X_iload C (D (165, .iload 5, 2) (mg 92 rfl)) rfl ?_
                        refine X_imul C (D (167, .imul, 1) (mg 93 rfl)) ?_
                        refine X_ti (y := nI ((25) * (S1))) (pk_mul (25) (S1)) ?_
                        refine X_iload C (D (168, .iload 4, 2) (mg 94 rfl)) rfl ?_
                        refine X_iadd C (D (170, .iadd, 1) (mg 95 rfl)) ?_
                        refine X_ti (y := nI ((25) * (S1) + c1)) (nI_add ((25) * (S1)) (c1)) ?_
                        refine X_iald (v := H22 (m + 7) ((25) * (S1) + c1)) C (m + 7) (by omega) hs7 (vp_in_nI (by omega) (by omega)) (D (171, .iaload, 1) (mg 96 rfl)) (by rw [nI_clamp (by omega)]) ?_
                        refine X_ti (y := nI (V ((25) * (S1) + c1))) (hRV _ (by omega)) ?_
                        have hvb0 := hBI.1 ((25) * (S1) + c1)
                        have hvb1 := hBI.1 ((25) * (cmN T (nI (c38)) (N) (S1)) + c38)
                        refine X_icmp_eq (tgt := 181) C (D (172, .if_icmp .eq 9, 3) (mg 97 rfl)) (by decide) (fun q48 => ?_) (fun q48 => ?_)
                        · skip
                          have q48 : (1 + V ((25) * (cmN T (nI (c38)) (N) (S1)) + c38)) = (V ((25) * (S1) + c1)) := by have z := (nI_eq (a := (1 + V ((25) * (cmN T (nI (c38)) (N) (S1)) + c38))) (b := (V ((25) * (S1) + c1))) (by omega) (by omega)).mp q48; omega
                          refine X_iload C (D (181, .iload 4, 2) (mg 100 rfl)) rfl ?_
                          refine X_iload C (D (183, .iload 7, 2) (mg 101 rfl)) rfl ?_
                          refine X_cS (As := [.int (nI (c1)), .int (nI (s7))]) (st := []) C (post := _) (ct_X8_beside hw (j := c1) (by omega) (nI (s7)) H22 G23) kX8_110 (by decide) (by decide) rfl rfl (Nat.le_of_ble_eq_true rfl) (D (185, .invokestatic 110, 3) (mg 102 rfl)) rfl (fun v51 H49 G50 hv51 => ?_)
                          obtain ⟨rfl, rfl, rfl⟩ := hv51
                          show X k w _ 188 [some (.ref (wA w (m))), some (.int (nI (n8))), some (.int (nI (k2))), some (.int (nI (N))), some (.int (nI (c1))), some (.int (nI (S1))), some (.int (nI (V ((25) * (cmN T (nI (c0)) (N) (0)) + c0)))), some (.int (nI (s7))), some (.int (nI (t1)))] [.int (bsA (c1) (nI (s7)))] H22 G23
                          refine X_ti (y := nI (c38)) ey36.symm ?_
                          refine X_istore (ls' := [some (.ref (wA w (m))), some (.int (nI (n8))), some (.int (nI (k2))), some (.int (nI (N))), some (.int (nI (c38))), some (.int (nI (S1))), some (.int (nI (V ((25) * (cmN T (nI (c0)) (N) (0)) + c0)))), some (.int (nI (s7))), some (.int (nI (t1)))]) C (D (188, .istore 4, 2) (mg 103 rfl)) (Nat.le_of_ble_eq_true rfl) rfl ?_
                          refine X_aload_n C 0 (D (190, .aload_n 0, 1) (mg 104 rfl)) rfl rfl ?_
                          refine X_iload C (D (191, .iload 5, 2) (mg 105 rfl)) rfl ?_
                          refine X_iload C (D (193, .iload 4, 2) (mg 106 rfl)) rfl ?_
                          refine X_iload_n C 3 (D (195, .iload_n 3, 1) (mg 107 rfl)) rfl rfl ?_
                          refine X_cV (As := [.int (nI (S1)), .int (nI (c38)), .int (nI (N))]) (st := []) C (post := _) (m) (by omega) hsm rfl (ct_X8_come hw hM (T := T) (S := S1) (N := N) (by omega) (nI (c38)) (by omega) H22 G23 hTT) kX8_163 (by decide) (by decide) rfl rfl (Nat.le_of_ble_eq_true rfl) (D (196, .invokevirtual 163, 3) (mg 108 rfl)) rfl (fun v54 H52 G53 hv54 => ?_)
                          obtain ⟨rfl, rfl, rfl⟩ := hv54
                          show X k w _ 199 [some (.ref (wA w (m))), some (.int (nI (n8))), some (.int (nI (k2))), some (.int (nI (N))), some (.int (nI (c38))), some (.int (nI (S1))), some (.int (nI (V ((25) * (cmN T (nI (c0)) (N) (0)) + c0)))), some (.int (nI (s7))), some (.int (nI (t1)))] [.int (nI (cmN T (nI (c38)) (N) (S1)))] H22 G23
                          have hcm54 : cmN T (nI (c38)) (N) (S1) < 32 := cm_b (by omega) (by omega)
                          have hcd54 : cmN T (nI (c38)) (N) (S1) < p2 N := cm_D (by omega)
                          refine X_istore (ls' := [some (.ref (wA w (m))), some (.int (nI (n8))), some (.int (nI (k2))), some (.int (nI (N))), some (.int (nI (c38))), some (.int (nI (cmN T (nI (c38)) (N) (S1)))), some (.int (nI (V ((25) * (cmN T (nI (c0)) (N) (0)) + c0)))), some (.int (nI (s7))), some (.int (nI (t1)))]) C (D (199, .istore 5, 2) (mg 109 rfl)) (Nat.le_of_ble_eq_true rfl) rfl ?_
                          refine X_iinc (v := nI (t1 + 1)) (ls' := [some (.ref (wA w (m))), some (.int (nI (n8))), some (.int (nI (k2))), some (.int (nI (N))), some (.int (nI (c38))), some (.int (nI (cmN T (nI (c38)) (N) (S1)))), some (.int (nI (V ((25) * (cmN T (nI (c0)) (N) (0)) + c0)))), some (.int (nI (s7))), some (.int (nI (t1 + 1)))]) C (D (201, .iinc 8 1, 3) (mg 110 rfl)) rfl (nI_add (t1) 1) rfl ?_
                          refine X_goto (tgt := 107) C (D (204, .goto (-97), 3) (mg 111 rfl)) (by decide) ?_
                          refine X_eq (ls' := [some (.ref (wA w (m))), some (.int (nI (n8))), some (.int (nI (k2))), some (.int (nI (N))), some (.int (nI (c38))), some (.int (nI (cmN T (nI (c38)) (N) (S1)))), some (.int (nI (V ((25) * (cmN T (nI (c0)) (N) (0)) + c0)))), some (.int (nI (s7))), some (.int (nI (t1 + 1)))]) (st' := []) (h' := H22) (g' := G23) rfl rfl rfl rfl ?_
                          exact ih107 (c38) (cmN T (nI (c38)) (N) (S1)) (t1 + 1) (nI (s7)) (by omega) (by omega) (by omega) (by omega) (by omega)
                        · skip
                          have q48 : (1 + V ((25) * (cmN T (nI (c38)) (N) (S1)) + c38)) ≠ (V ((25) * (S1) + c1)) := by have z : ¬ ((1 + V ((25) * (cmN T (nI (c38)) (N) (S1)) + c38)) = (V ((25) * (S1) + c1))) := fun u => q48 ((nI_eq (a := (1 + V ((25) * (cmN T (nI (c38)) (N) (S1)) + c38))) (b := (V ((25) * (S1) + c1))) (by omega) (by omega)).mpr u); omega
                          have hs9 : ¬ s7 = i9 := fun z => by (rw [z] at hbc; rw [hbc] at hv9; have hv8 : V (25 * S1 + c1) = 1 + V (25 * cmN T (nI c38) N S1 + c38) := hv9; omega)
                          refine X_iinc (v := nI (s7 + 1)) (ls' := [some (.ref (wA w (m))), some (.int (nI (n8))), some (.int (nI (k2))), some (.int (nI (N))), some (.int (nI (c1))), some (.int (nI (S1))), some (.int (nI (V ((25) * (cmN T (nI (c0)) (N) (0)) + c0)))), some (.int (nI (s7 + 1))), some (.int (nI (t1)))]) C (D (175, .iinc 7 1, 3) (mg 98 rfl)) rfl (nI_add (s7) 1) rfl ?_
                          refine X_goto (tgt := 116) C (D (178, .goto (-62), 3) (mg 99 rfl)) (by decide) ?_
                          refine X_eq (ls' := [some (.ref (wA w (m))), some (.int (nI (n8))), some (.int (nI (k2))), some (.int (nI (N))), some (.int (nI (c1))), some (.int (nI (S1))), some (.int (nI (V ((25) * (cmN T (nI (c0)) (N) (0)) + c0)))), some (.int (nI (s7 + 1))), some (.int (nI (t1)))]) (st' := []) (h' := H22) (g' := G23) rfl rfl rfl rfl ?_
                          exact ih116 (s7 + 1) (by omega) (by omega)
                  refine X_eq (ls' := [some (.ref (wA w (m))), some (.int (nI (n8))), some (.int (nI (k2))), some (.int (nI (N))), some (.int (nI (c1))), some (.int (nI (S1))), some (.int (nI (V ((25) * (cmN T (nI (c0)) (N) (0)) + c0)))), some (.int (nI (0))), some (.int (nI (t1)))]) (st' := []) (h' := H22) (g' := G23) rfl rfl rfl rfl ?_
                  exact lp116 _ (0) (by omega) (Nat.le_refl _)
            refine X_eq (ls' := [some (.ref (wA w (m))), some (.int (nI (n8))), some (.int (nI (k2))), some (.int (nI (N))), some (.int (nI (c0))), some (.int (nI (cmN T (nI (c0)) (N) (0)))), some (.int (nI (V ((25) * (cmN T (nI (c0)) (N) (0)) + c0)))), some (.int ((-1 : Int32))), some (.int (nI (0)))]) (st' := []) (h' := H22) (g' := G23) rfl rfl rfl rfl ?_
            exact lp107 _ (c0) (cmN T (nI (c0)) (N) (0)) (0) ((-1 : Int32)) (by omega) (by omega) (by omega) hM9 (Nat.le_refl _)
          · skip
            refine X_iload_n C 2 (D (88, .iload_n 2, 1) (mg 50 rfl)) rfl rfl ?_
            refine X_iconst (v := (-1 : Int32)) C (D (89, .iconst (-1), 1) (mg 51 rfl)) (by decide) ?_
            refine X_icmp_ne (tgt := 98) C (D (90, .if_icmp .ne 8, 3) (mg 52 rfl)) (by decide) (fun q55 => ?_) (fun q55 => ?_)
            · skip
              refine X_bipush (v := (-5 : Int32)) C (D (98, .bipush (-5), 2) (mg 55 rfl)) (by decide) ?_
              exact X_iret C (D (100, .ireturn, 1) (mg 56 rfl)) ⟨⟨_, rfl⟩, ⟨fun q i z0 => by have z := z0; unfold SM at z; rw [f25 _ _ (by omega), f20 _ _ (by omega)], rU_k (fun i => by rw [f25 _ _ (by omega), f20 _ _ (by omega)]) hI.1⟩⟩
            · skip
              refine X_iload C (D (93, .iload 6, 2) (mg 53 rfl)) rfl ?_
              refine X_goto (tgt := 100) C (D (95, .goto 5, 3) (mg 54 rfl)) (by decide) ?_
              exact X_iret C (D (100, .ireturn, 1) (mg 56 rfl)) ⟨⟨_, rfl⟩, ⟨fun q i z0 => by have z := z0; unfold SM at z; rw [f25 _ _ (by omega), f20 _ _ (by omega)], rU_k (fun i => by rw [f25 _ _ (by omega), f20 _ _ (by omega)]) hI.1⟩⟩
      · skip
        refine X_aload_n C 0 (D (25, .aload_n 0, 1) (mg 13 rfl)) rfl rfl ?_
        refine X_bipush (v := (-10 : Int32)) C (D (26, .bipush (-10), 2) (mg 14 rfl)) (by decide) ?_
        refine X_cV (As := [.int ((-10 : Int32))]) (st := []) C (post := _) (m) (by omega) hsm rfl (ct_X8_bad hw hM ((-10 : Int32)) h g) kX8_75 (by decide) (by decide) rfl rfl (Nat.le_of_ble_eq_true rfl) (D (28, .invokevirtual 75, 3) (mg 15 rfl)) rfl (fun v58 H56 G57 hv58 => ?_)
        obtain ⟨rfl, rfl, rfl⟩ := hv58
        show X k w _ 31 [some (.ref (wA w (m))), some (.int (nI (n8))), some (.int (a2)), none, none, none, none, none, none] [.int ((-10 : Int32))] (rfH h m 0) g
        exact X_iret C (D (31, .ireturn, 1) (mg 16 rfl)) ⟨⟨_, rfl⟩, ⟨fun q i z0 => by have z := z0; unfold SM at z; rw [rfH_ne _ _ _ (by omega)], rU_k (fun i => by rw [rfH_ne _ _ _ (by omega)]) hI.1⟩⟩
